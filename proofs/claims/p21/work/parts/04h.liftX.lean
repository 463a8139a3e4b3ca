/-- HissHorn$Text.worthBy([I[I)I of cell T -/
def rmX10_worthBy_T_a19_a20 : Room := { frames := 2, cells := 0, slots := 0, locals := 38 }
theorem hX10_worthBy_T_a19_a20_X10 : ∀ w ∈ u_ws RX10 TX10 1, w ∈ wsX10_worthBy := fun w h => (List.mem_cons_of_mem _ (List.mem_append_right _ h))
theorem mX10_worthBy_T_a19_a20_1 : Cond.fieldLink RX10 7 "HissHorn$Text" "code" "[I" ∈ wsX10_worthBy := (List.mem_cons_of_mem _ (List.mem_append_left _ (List.mem_of_getElem? (i := 0) rfl)))
def GX10_worthBy_T_a19_a20_227 (k8 : Nat → Int32 → Int32 → Int32 → SX → Option (Int32 × SX)) (z0 : Nat) (z3 : Int32) (z4 : Int32) (z5 : Int32) (u : SX) : Option (Int32 × SX) := (k8 z0 z3 z4 (z5 + 1) u)
def GX10_worthBy_T_a19_a20_119 (k8 : Nat → Int32 → Int32 → Int32 → SX → Option (Int32 × SX)) (z0 : Nat) (z3 : Int32) (z4 : Int32) (z5 : Int32) (y0 : Int32) (y1 : Int32) (u : SX) : Option (Int32 × SX) := (gd (inb y1 120) (lt (sA u 20 (upd (u.2.1 20) y1.toNatClampNeg y0)) fun u15 => (GX10_worthBy_T_a19_a20_227 k8 z0 (z3 + 1) z4 z5 u15)))
def GX10_worthBy_T_a19_a20_101 (k8 : Nat → Int32 → Int32 → Int32 → SX → Option (Int32 × SX)) (z0 : Nat) (z3 : Int32) (z4 : Int32) (z5 : Int32) (z6 : Int32) (z7 : Int32) (u : SX) : Option (Int32 × SX) := (if z6 = 48 then (GX10_worthBy_T_a19_a20_119 k8 z0 z3 z4 z5 z7 z3 u) else (gd (inb z7 2) (GX10_worthBy_T_a19_a20_119 k8 z0 z3 z4 z5 (u.2.1 19 z7.toNatClampNeg) z3 u)))
def GX10_worthBy_T_a19_a20_79 (k8 : Nat → Int32 → Int32 → Int32 → SX → Option (Int32 × SX)) (z0 : Nat) (z3 : Int32) (z4 : Int32) (z5 : Int32) (z6 : Int32) (z7 : Int32) (u : SX) : Option (Int32 × SX) := (if 120 ≤ z3 then (some (0, u)) else (if z6 = 121 then (if z7 < 2 then (GX10_worthBy_T_a19_a20_101 k8 z0 z3 z4 z5 z6 z7 u) else (some (0, u))) else (GX10_worthBy_T_a19_a20_101 k8 z0 z3 z4 z5 z6 z7 u)))
def GX10_worthBy_T_a19_a20_167 (k8 : Nat → Int32 → Int32 → Int32 → SX → Option (Int32 × SX)) (z0 : Nat) (z3 : Int32) (z5 : Int32) (y0 : Int32) (u : SX) : Option (Int32 × SX) := (GX10_worthBy_T_a19_a20_227 k8 z0 z3 y0 z5 u)
def GX10_worthBy_T_a19_a20_60 (k8 : Nat → Int32 → Int32 → Int32 → SX → Option (Int32 × SX)) (z0 : Nat) (z3 : Int32) (z5 : Int32) (y0 : Int32) (u : SX) : Option (Int32 × SX) := (GX10_worthBy_T_a19_a20_227 k8 z0 z3 y0 z5 u)
def LX10_worthBy_T_a19_a20_8  : Nat → Nat → Int32 → Int32 → Int32 → SX → Option (Int32 × SX)
  | 0, _, _, _, _, _ => none
  | n + 1, z0, z3, z4, z5, u => (gd (decide (z0 < tN u)) (gd (decide (z0 < tN u)) (if (Int32.ofNat (tL u z0)) ≤ z5 then (some (0, u)) else (gd (decide (z0 < tN u)) (gd (decide (z0 < tN u)) (gd (inb z5 (tL u z0)) (lt ((tC u z0 z5.toNatClampNeg) &&& 255) fun v6 => (gd (decide (z0 < tN u)) (gd (decide (z0 < tN u)) (gd (inb z5 (tL u z0)) (lt ((tC u z0 z5.toNatClampNeg) >>> (8 &&& 31)) fun v11 => (if z4 = 0 then (if v6 = 48 then (GX10_worthBy_T_a19_a20_79 (LX10_worthBy_T_a19_a20_8 n) z0 z3 z4 z5 v6 v11 u) else (if v6 = 121 then (GX10_worthBy_T_a19_a20_79 (LX10_worthBy_T_a19_a20_8 n) z0 z3 z4 z5 v6 v11 u) else (if 1 ≤ z3 then (if v6 = 59 then (gd (inb (z3 - 1) 120) (some (u.2.1 20 (z3 - 1).toNatClampNeg, u))) else (if v6 = 63 then (gd (inb (z3 + (-1)) 120) (if (u.2.1 20 (z3 + (-1)).toNatClampNeg) = 0 then (GX10_worthBy_T_a19_a20_167 (LX10_worthBy_T_a19_a20_8 n) z0 (z3 + (-1)) z5 1 u) else (GX10_worthBy_T_a19_a20_167 (LX10_worthBy_T_a19_a20_8 n) z0 (z3 + (-1)) z5 0 u))) else (if v6 = 33 then (gd (inb (z3 - 1) 120) (gd (inb (z3 - 1) 120) (lt (sA u 20 (upd (u.2.1 20) (z3 - 1).toNatClampNeg (1 - (u.2.1 20 (z3 - 1).toNatClampNeg)))) fun u30 => (GX10_worthBy_T_a19_a20_227 (LX10_worthBy_T_a19_a20_8 n) z0 z3 z4 z5 u30)))) else (if 2 ≤ z3 then (gd (inb ((z3 + (-1)) - 1) 120) (gd (inb (z3 + (-1)) 120) ((fX10_join v6 ((u.2.1 20 ((z3 + (-1)) - 1).toNatClampNeg).toInt64) ((u.2.1 20 (z3 + (-1)).toNatClampNeg).toInt64)).bind fun r19 => ((fX10_bounded r19).bind fun r22 => (gd (inb ((z3 + (-1)) - 1) 120) (lt (sA u 20 (upd (u.2.1 20) ((z3 + (-1)) - 1).toNatClampNeg r22)) fun u26 => (GX10_worthBy_T_a19_a20_227 (LX10_worthBy_T_a19_a20_8 n) z0 (z3 + (-1)) z4 z5 u26))))))) else (some (0, u)))))) else (some (0, u))))) else (if v6 = 59 then (GX10_worthBy_T_a19_a20_60 (LX10_worthBy_T_a19_a20_8 n) z0 z3 z5 0 u) else (GX10_worthBy_T_a19_a20_60 (LX10_worthBy_T_a19_a20_8 n) z0 z3 z5 1 u))))))))))))))
def fX10_worthBy_T_a19_a20 (x0 : Nat) (u : SX) : Option (Int32 × SX) := (LX10_worthBy_T_a19_a20_8  5000 x0 0 0 0 u)
set_option maxHeartbeats 4000000 in
set_option maxRecDepth 100000 in
theorem wGX10_worthBy_T_a19_a20_227 {p : Program} {l : Launch} {e : Env} {s : State} {m : MethodId} {args : Array Value} {below : List Frame} {meth : Method} {c : Code} {D : va_G} {cy : Nat → ClassId} {ad st : Nat → Nat} (C : Cx RX10 cX10_worthBy 8 (some .int) wsX10_worthBy p s m args meth c) (hK : Ky D [(cy 0, .int), (cy 1, .long), (cy 2, .boolean), (cy 3, .byte), (cy 4, .object "HissHorn$Text")] st s) (hJ : JX ad st) {r : Int32} {u' : SX} {k8 : Nat → Int32 → Int32 → Int32 → SX → Option (Int32 × SX)} (hk8 : ∀ (z0 : Nat) (z3 : Int32) (z4 : Int32) (z5 : Int32) (u : SX) (H : Heap) (locs : List Loc) (ls : Array Slot), k8 z0 z3 z4 z5 u = some (r, u') → va_P D vwCl (VX cy ad st u) H → va_S (Ax (AX ad) s.heap.size) s.heap H locs → lv_has ls 8 [(0, .ref (ad (tA z0))), (1, .ref (ad 19)), (2, .ref (ad 20)), (3, .int z3), (4, .int z4), (5, .int z5)] → W p l e rmX10_worthBy_T_a19_a20 s m args below meth c H locs 0 0 (MQ below (Qi D (VX cy ad st) (AX ad) s.heap.size r u') args s 0 0 (Ax (AX ad) s.heap.size)) (F0 m 8 ls [])) (z0 : Nat) (z3 : Int32) (z4 : Int32) (z5 : Int32) (u : SX) (H : Heap) (locs : List Loc) (ls : Array Slot) (h : GX10_worthBy_T_a19_a20_227 k8 z0 z3 z4 z5 u = some (r, u')) (hP : va_P D vwCl (VX cy ad st u) H) (hS : va_S (Ax (AX ad) s.heap.size) s.heap H locs) (hl : lv_has ls 8 [(0, .ref (ad (tA z0))), (1, .ref (ad 19)), (2, .ref (ad 20)), (3, .int z3), (4, .int z4), (5, .int z5)]) : W p l e rmX10_worthBy_T_a19_a20 s m args below meth c H locs 0 0 (MQ below (Qi D (VX cy ad st) (AX ad) s.heap.size r u') args s 0 0 (Ax (AX ad) s.heap.size)) (F0 m 227 ls []) := by
  unfold GX10_worthBy_T_a19_a20_227 at h
  refine lv_iinc (v := z5 + 1) (lv' := [(5, .int (z5 + 1)), (0, .ref (ad (tA z0))), (1, .ref (ad 19)), (2, .ref (ad 20)), (3, .int z3), (4, .int z4)]) C.1 C.2.1 dX10_worthBy_227 hl (k := 5) rfl rfl (by decide) rfl (fun ls hl => ?_)
  replace hl := lv_sub (l' := [(0, .ref (ad (tA z0))), (1, .ref (ad 19)), (2, .ref (ad 20)), (3, .int z3), (4, .int z4), (5, .int (z5 + 1))]) hl [1, 2, 3, 4, 5, 0] rfl
  refine lv_goto (tgt := 8) C.1 C.2.1 dX10_worthBy_230 (by decide) ?_
  exact hk8 _ _ _ _ _ _ _ _ h hP hS hl
set_option maxHeartbeats 4000000 in
set_option maxRecDepth 100000 in
theorem wGX10_worthBy_T_a19_a20_119 {p : Program} {l : Launch} {e : Env} {s : State} {m : MethodId} {args : Array Value} {below : List Frame} {meth : Method} {c : Code} {D : va_G} {cy : Nat → ClassId} {ad st : Nat → Nat} (C : Cx RX10 cX10_worthBy 8 (some .int) wsX10_worthBy p s m args meth c) (hK : Ky D [(cy 0, .int), (cy 1, .long), (cy 2, .boolean), (cy 3, .byte), (cy 4, .object "HissHorn$Text")] st s) (hJ : JX ad st) {r : Int32} {u' : SX} {k8 : Nat → Int32 → Int32 → Int32 → SX → Option (Int32 × SX)} (hk8 : ∀ (z0 : Nat) (z3 : Int32) (z4 : Int32) (z5 : Int32) (u : SX) (H : Heap) (locs : List Loc) (ls : Array Slot), k8 z0 z3 z4 z5 u = some (r, u') → va_P D vwCl (VX cy ad st u) H → va_S (Ax (AX ad) s.heap.size) s.heap H locs → lv_has ls 8 [(0, .ref (ad (tA z0))), (1, .ref (ad 19)), (2, .ref (ad 20)), (3, .int z3), (4, .int z4), (5, .int z5)] → W p l e rmX10_worthBy_T_a19_a20 s m args below meth c H locs 0 0 (MQ below (Qi D (VX cy ad st) (AX ad) s.heap.size r u') args s 0 0 (Ax (AX ad) s.heap.size)) (F0 m 8 ls [])) (z0 : Nat) (z3 : Int32) (z4 : Int32) (z5 : Int32) (y0 : Int32) (y1 : Int32) (u : SX) (H : Heap) (locs : List Loc) (ls : Array Slot) (h : GX10_worthBy_T_a19_a20_119 k8 z0 z3 z4 z5 y0 y1 u = some (r, u')) (hP : va_P D vwCl (VX cy ad st u) H) (hS : va_S (Ax (AX ad) s.heap.size) s.heap H locs) (hl : lv_has ls 8 [(0, .ref (ad (tA z0))), (1, .ref (ad 19)), (2, .ref (ad 20)), (3, .int z3), (4, .int z4), (5, .int z5)]) : W p l e rmX10_worthBy_T_a19_a20 s m args below meth c H locs 0 0 (MQ below (Qi D (VX cy ad st) (AX ad) s.heap.size r u') args s 0 0 (Ax (AX ad) s.heap.size)) (F0 m 119 ls [.int y0, .int y1, .ref (ad 20)]) := by
  unfold GX10_worthBy_T_a19_a20_119 at h
  obtain ⟨hg14, h⟩ := gd_some h
  refine tX_20 C hK hP hJ hS hg14 dX10_worthBy_119 (fun H locs hP hS => ?_)
  obtain ⟨u15, hu16, h⟩ := lt_some h
  rw [← hu16] at hP
  refine lv_iinc (v := z3 + 1) (lv' := [(3, .int (z3 + 1)), (0, .ref (ad (tA z0))), (1, .ref (ad 19)), (2, .ref (ad 20)), (4, .int z4), (5, .int z5)]) C.1 C.2.1 dX10_worthBy_120 hl (k := 3) rfl rfl (by decide) rfl (fun ls hl => ?_)
  replace hl := lv_sub (l' := [(0, .ref (ad (tA z0))), (1, .ref (ad 19)), (2, .ref (ad 20)), (3, .int (z3 + 1)), (4, .int z4), (5, .int z5)]) hl [1, 2, 3, 0, 4, 5] rfl
  refine lv_goto (tgt := 227) C.1 C.2.1 dX10_worthBy_123 (by decide) ?_
  exact wGX10_worthBy_T_a19_a20_227 C hK hJ hk8 _ _ _ _ _ _ _ _ h hP hS hl
set_option maxHeartbeats 4000000 in
set_option maxRecDepth 100000 in
theorem wGX10_worthBy_T_a19_a20_101 {p : Program} {l : Launch} {e : Env} {s : State} {m : MethodId} {args : Array Value} {below : List Frame} {meth : Method} {c : Code} {D : va_G} {cy : Nat → ClassId} {ad st : Nat → Nat} (C : Cx RX10 cX10_worthBy 8 (some .int) wsX10_worthBy p s m args meth c) (hK : Ky D [(cy 0, .int), (cy 1, .long), (cy 2, .boolean), (cy 3, .byte), (cy 4, .object "HissHorn$Text")] st s) (hJ : JX ad st) {r : Int32} {u' : SX} {k8 : Nat → Int32 → Int32 → Int32 → SX → Option (Int32 × SX)} (hk8 : ∀ (z0 : Nat) (z3 : Int32) (z4 : Int32) (z5 : Int32) (u : SX) (H : Heap) (locs : List Loc) (ls : Array Slot), k8 z0 z3 z4 z5 u = some (r, u') → va_P D vwCl (VX cy ad st u) H → va_S (Ax (AX ad) s.heap.size) s.heap H locs → lv_has ls 8 [(0, .ref (ad (tA z0))), (1, .ref (ad 19)), (2, .ref (ad 20)), (3, .int z3), (4, .int z4), (5, .int z5)] → W p l e rmX10_worthBy_T_a19_a20 s m args below meth c H locs 0 0 (MQ below (Qi D (VX cy ad st) (AX ad) s.heap.size r u') args s 0 0 (Ax (AX ad) s.heap.size)) (F0 m 8 ls [])) (z0 : Nat) (z3 : Int32) (z4 : Int32) (z5 : Int32) (z6 : Int32) (z7 : Int32) (u : SX) (H : Heap) (locs : List Loc) (ls : Array Slot) (h : GX10_worthBy_T_a19_a20_101 k8 z0 z3 z4 z5 z6 z7 u = some (r, u')) (hP : va_P D vwCl (VX cy ad st u) H) (hS : va_S (Ax (AX ad) s.heap.size) s.heap H locs) (hl : lv_has ls 8 [(0, .ref (ad (tA z0))), (1, .ref (ad 19)), (2, .ref (ad 20)), (3, .int z3), (4, .int z4), (5, .int z5), (6, .int z6), (7, .int z7)]) : W p l e rmX10_worthBy_T_a19_a20 s m args below meth c H locs 0 0 (MQ below (Qi D (VX cy ad st) (AX ad) s.heap.size r u') args s 0 0 (Ax (AX ad) s.heap.size)) (F0 m 101 ls []) := by
  unfold GX10_worthBy_T_a19_a20_101 at h
  refine lv_aload_n C.1 C.2.1 dX10_worthBy_101 rfl (lv_at hl 2 rfl) ?_
  refine lv_iload_n C.1 C.2.1 dX10_worthBy_102 rfl (lv_at hl 3 rfl) ?_
  refine lv_iload C.1 C.2.1 dX10_worthBy_103 (lv_at hl 6 rfl) ?_
  refine lv_bipush (v := 48) C.1 C.2.1 dX10_worthBy_105 (by decide) ?_
  refine lv_icmp_ne (tgt := 115) C.1 C.2.1 dX10_worthBy_107 (by decide) (fun c107 => ?_) (fun c107 => ?_)
  · rw [if_neg c107] at h
    refine lv_aload_n C.1 C.2.1 dX10_worthBy_115 rfl (lv_at hl 1 rfl) ?_
    refine lv_iload C.1 C.2.1 dX10_worthBy_116 (lv_at hl 7 rfl) ?_
    obtain ⟨hg13, h⟩ := gd_some h
    refine lX_19 C hK hP hg13 dX10_worthBy_118 ?_
    exact wGX10_worthBy_T_a19_a20_119 C hK hJ hk8 _ _ _ _ _ _ _ _ _ _ h hP hS (lv_sub hl [0, 1, 2, 3, 4, 5] rfl)
  · rw [if_pos c107] at h
    refine lv_iload C.1 C.2.1 dX10_worthBy_110 (lv_at hl 7 rfl) ?_
    refine lv_goto (tgt := 119) C.1 C.2.1 dX10_worthBy_112 (by decide) ?_
    exact wGX10_worthBy_T_a19_a20_119 C hK hJ hk8 _ _ _ _ _ _ _ _ _ _ h hP hS (lv_sub hl [0, 1, 2, 3, 4, 5] rfl)
set_option maxHeartbeats 4000000 in
set_option maxRecDepth 100000 in
theorem wGX10_worthBy_T_a19_a20_79 {p : Program} {l : Launch} {e : Env} {s : State} {m : MethodId} {args : Array Value} {below : List Frame} {meth : Method} {c : Code} {D : va_G} {cy : Nat → ClassId} {ad st : Nat → Nat} (C : Cx RX10 cX10_worthBy 8 (some .int) wsX10_worthBy p s m args meth c) (hK : Ky D [(cy 0, .int), (cy 1, .long), (cy 2, .boolean), (cy 3, .byte), (cy 4, .object "HissHorn$Text")] st s) (hJ : JX ad st) {r : Int32} {u' : SX} {k8 : Nat → Int32 → Int32 → Int32 → SX → Option (Int32 × SX)} (hk8 : ∀ (z0 : Nat) (z3 : Int32) (z4 : Int32) (z5 : Int32) (u : SX) (H : Heap) (locs : List Loc) (ls : Array Slot), k8 z0 z3 z4 z5 u = some (r, u') → va_P D vwCl (VX cy ad st u) H → va_S (Ax (AX ad) s.heap.size) s.heap H locs → lv_has ls 8 [(0, .ref (ad (tA z0))), (1, .ref (ad 19)), (2, .ref (ad 20)), (3, .int z3), (4, .int z4), (5, .int z5)] → W p l e rmX10_worthBy_T_a19_a20 s m args below meth c H locs 0 0 (MQ below (Qi D (VX cy ad st) (AX ad) s.heap.size r u') args s 0 0 (Ax (AX ad) s.heap.size)) (F0 m 8 ls [])) (z0 : Nat) (z3 : Int32) (z4 : Int32) (z5 : Int32) (z6 : Int32) (z7 : Int32) (u : SX) (H : Heap) (locs : List Loc) (ls : Array Slot) (h : GX10_worthBy_T_a19_a20_79 k8 z0 z3 z4 z5 z6 z7 u = some (r, u')) (hP : va_P D vwCl (VX cy ad st u) H) (hS : va_S (Ax (AX ad) s.heap.size) s.heap H locs) (hl : lv_has ls 8 [(0, .ref (ad (tA z0))), (1, .ref (ad 19)), (2, .ref (ad 20)), (3, .int z3), (4, .int z4), (5, .int z5), (6, .int z6), (7, .int z7)]) : W p l e rmX10_worthBy_T_a19_a20 s m args below meth c H locs 0 0 (MQ below (Qi D (VX cy ad st) (AX ad) s.heap.size r u') args s 0 0 (Ax (AX ad) s.heap.size)) (F0 m 79 ls []) := by
  unfold GX10_worthBy_T_a19_a20_79 at h
  refine lv_iload_n C.1 C.2.1 dX10_worthBy_79 rfl (lv_at hl 3 rfl) ?_
  refine lv_aload_n C.1 C.2.1 dX10_worthBy_80 rfl (lv_at hl 2 rfl) ?_
  refine va_alen (v := 120) C.1 C.2.1 hK.1 hP 20 0 rfl rfl rfl dX10_worthBy_81 ?_
  refine lv_icmp_ge (tgt := 99) C.1 C.2.1 dX10_worthBy_82 (by decide) (fun c82 => ?_) (fun c82 => ?_)
  · rw [if_pos c82] at h
    refine lv_iconst (v := 0) C.1 C.2.1 dX10_worthBy_99 (by decide) ?_
    cases h
    exact rt_i C hP hS dX10_worthBy_100
  · rw [if_neg c82] at h
    refine lv_iload C.1 C.2.1 dX10_worthBy_85 (lv_at hl 6 rfl) ?_
    refine lv_bipush (v := 121) C.1 C.2.1 dX10_worthBy_87 (by decide) ?_
    refine lv_icmp_ne (tgt := 101) C.1 C.2.1 dX10_worthBy_89 (by decide) (fun c89 => ?_) (fun c89 => ?_)
    · rw [if_neg c89] at h
      exact wGX10_worthBy_T_a19_a20_101 C hK hJ hk8 _ _ _ _ _ _ _ _ _ _ h hP hS hl
    · rw [if_pos c89] at h
      refine lv_iload C.1 C.2.1 dX10_worthBy_92 (lv_at hl 7 rfl) ?_
      refine lv_aload_n C.1 C.2.1 dX10_worthBy_94 rfl (lv_at hl 1 rfl) ?_
      refine va_alen (v := 2) C.1 C.2.1 hK.1 hP 19 0 rfl rfl rfl dX10_worthBy_95 ?_
      refine lv_icmp_lt (tgt := 101) C.1 C.2.1 dX10_worthBy_96 (by decide) (fun c96 => ?_) (fun c96 => ?_)
      · rw [if_pos c96] at h
        exact wGX10_worthBy_T_a19_a20_101 C hK hJ hk8 _ _ _ _ _ _ _ _ _ _ h hP hS hl
      · rw [if_neg c96] at h
        refine lv_iconst (v := 0) C.1 C.2.1 dX10_worthBy_99 (by decide) ?_
        cases h
        exact rt_i C hP hS dX10_worthBy_100
set_option maxHeartbeats 4000000 in
set_option maxRecDepth 100000 in
theorem wGX10_worthBy_T_a19_a20_167 {p : Program} {l : Launch} {e : Env} {s : State} {m : MethodId} {args : Array Value} {below : List Frame} {meth : Method} {c : Code} {D : va_G} {cy : Nat → ClassId} {ad st : Nat → Nat} (C : Cx RX10 cX10_worthBy 8 (some .int) wsX10_worthBy p s m args meth c) (hK : Ky D [(cy 0, .int), (cy 1, .long), (cy 2, .boolean), (cy 3, .byte), (cy 4, .object "HissHorn$Text")] st s) (hJ : JX ad st) {r : Int32} {u' : SX} {k8 : Nat → Int32 → Int32 → Int32 → SX → Option (Int32 × SX)} (hk8 : ∀ (z0 : Nat) (z3 : Int32) (z4 : Int32) (z5 : Int32) (u : SX) (H : Heap) (locs : List Loc) (ls : Array Slot), k8 z0 z3 z4 z5 u = some (r, u') → va_P D vwCl (VX cy ad st u) H → va_S (Ax (AX ad) s.heap.size) s.heap H locs → lv_has ls 8 [(0, .ref (ad (tA z0))), (1, .ref (ad 19)), (2, .ref (ad 20)), (3, .int z3), (4, .int z4), (5, .int z5)] → W p l e rmX10_worthBy_T_a19_a20 s m args below meth c H locs 0 0 (MQ below (Qi D (VX cy ad st) (AX ad) s.heap.size r u') args s 0 0 (Ax (AX ad) s.heap.size)) (F0 m 8 ls [])) (z0 : Nat) (z3 : Int32) (z5 : Int32) (y0 : Int32) (u : SX) (H : Heap) (locs : List Loc) (ls : Array Slot) (h : GX10_worthBy_T_a19_a20_167 k8 z0 z3 z5 y0 u = some (r, u')) (hP : va_P D vwCl (VX cy ad st u) H) (hS : va_S (Ax (AX ad) s.heap.size) s.heap H locs) (hl : lv_has ls 8 [(0, .ref (ad (tA z0))), (1, .ref (ad 19)), (2, .ref (ad 20)), (3, .int z3), (5, .int z5)]) : W p l e rmX10_worthBy_T_a19_a20 s m args below meth c H locs 0 0 (MQ below (Qi D (VX cy ad st) (AX ad) s.heap.size r u') args s 0 0 (Ax (AX ad) s.heap.size)) (F0 m 167 ls [.int y0]) := by
  unfold GX10_worthBy_T_a19_a20_167 at h
  refine lv_istore (lv' := [(4, .int y0), (0, .ref (ad (tA z0))), (1, .ref (ad 19)), (2, .ref (ad 20)), (3, .int z3), (5, .int z5)]) C.1 C.2.1 dX10_worthBy_167 hl (by decide) rfl (fun ls hl => ?_)
  replace hl := lv_sub (l' := [(0, .ref (ad (tA z0))), (1, .ref (ad 19)), (2, .ref (ad 20)), (3, .int z3), (4, .int y0), (5, .int z5)]) hl [1, 2, 3, 4, 0, 5] rfl
  refine lv_goto (tgt := 227) C.1 C.2.1 dX10_worthBy_169 (by decide) ?_
  exact wGX10_worthBy_T_a19_a20_227 C hK hJ hk8 _ _ _ _ _ _ _ _ h hP hS hl
set_option maxHeartbeats 4000000 in
set_option maxRecDepth 100000 in
theorem wGX10_worthBy_T_a19_a20_60 {p : Program} {l : Launch} {e : Env} {s : State} {m : MethodId} {args : Array Value} {below : List Frame} {meth : Method} {c : Code} {D : va_G} {cy : Nat → ClassId} {ad st : Nat → Nat} (C : Cx RX10 cX10_worthBy 8 (some .int) wsX10_worthBy p s m args meth c) (hK : Ky D [(cy 0, .int), (cy 1, .long), (cy 2, .boolean), (cy 3, .byte), (cy 4, .object "HissHorn$Text")] st s) (hJ : JX ad st) {r : Int32} {u' : SX} {k8 : Nat → Int32 → Int32 → Int32 → SX → Option (Int32 × SX)} (hk8 : ∀ (z0 : Nat) (z3 : Int32) (z4 : Int32) (z5 : Int32) (u : SX) (H : Heap) (locs : List Loc) (ls : Array Slot), k8 z0 z3 z4 z5 u = some (r, u') → va_P D vwCl (VX cy ad st u) H → va_S (Ax (AX ad) s.heap.size) s.heap H locs → lv_has ls 8 [(0, .ref (ad (tA z0))), (1, .ref (ad 19)), (2, .ref (ad 20)), (3, .int z3), (4, .int z4), (5, .int z5)] → W p l e rmX10_worthBy_T_a19_a20 s m args below meth c H locs 0 0 (MQ below (Qi D (VX cy ad st) (AX ad) s.heap.size r u') args s 0 0 (Ax (AX ad) s.heap.size)) (F0 m 8 ls [])) (z0 : Nat) (z3 : Int32) (z5 : Int32) (y0 : Int32) (u : SX) (H : Heap) (locs : List Loc) (ls : Array Slot) (h : GX10_worthBy_T_a19_a20_60 k8 z0 z3 z5 y0 u = some (r, u')) (hP : va_P D vwCl (VX cy ad st u) H) (hS : va_S (Ax (AX ad) s.heap.size) s.heap H locs) (hl : lv_has ls 8 [(0, .ref (ad (tA z0))), (1, .ref (ad 19)), (2, .ref (ad 20)), (3, .int z3), (5, .int z5)]) : W p l e rmX10_worthBy_T_a19_a20 s m args below meth c H locs 0 0 (MQ below (Qi D (VX cy ad st) (AX ad) s.heap.size r u') args s 0 0 (Ax (AX ad) s.heap.size)) (F0 m 60 ls [.int y0]) := by
  unfold GX10_worthBy_T_a19_a20_60 at h
  refine lv_istore (lv' := [(4, .int y0), (0, .ref (ad (tA z0))), (1, .ref (ad 19)), (2, .ref (ad 20)), (3, .int z3), (5, .int z5)]) C.1 C.2.1 dX10_worthBy_60 hl (by decide) rfl (fun ls hl => ?_)
  replace hl := lv_sub (l' := [(0, .ref (ad (tA z0))), (1, .ref (ad 19)), (2, .ref (ad 20)), (3, .int z3), (4, .int y0), (5, .int z5)]) hl [1, 2, 3, 4, 0, 5] rfl
  refine lv_goto (tgt := 227) C.1 C.2.1 dX10_worthBy_62 (by decide) ?_
  exact wGX10_worthBy_T_a19_a20_227 C hK hJ hk8 _ _ _ _ _ _ _ _ h hP hS hl
set_option maxHeartbeats 4000000 in
set_option maxRecDepth 100000 in
theorem wLX10_worthBy_T_a19_a20_8 {p : Program} {l : Launch} {e : Env} {s : State} {m : MethodId} {args : Array Value} {below : List Frame} {meth : Method} {c : Code} {D : va_G} {cy : Nat → ClassId} {ad st : Nat → Nat} (C : Cx RX10 cX10_worthBy 8 (some .int) wsX10_worthBy p s m args meth c) (hK : Ky D [(cy 0, .int), (cy 1, .long), (cy 2, .boolean), (cy 3, .byte), (cy 4, .object "HissHorn$Text")] st s) (hJ : JX ad st) {r : Int32} {u' : SX}   : ∀ (n : Nat) (z0 : Nat) (z3 : Int32) (z4 : Int32) (z5 : Int32) (u : SX) (H : Heap) (locs : List Loc) (ls : Array Slot), LX10_worthBy_T_a19_a20_8  n z0 z3 z4 z5 u = some (r, u') → va_P D vwCl (VX cy ad st u) H → va_S (Ax (AX ad) s.heap.size) s.heap H locs → lv_has ls 8 [(0, .ref (ad (tA z0))), (1, .ref (ad 19)), (2, .ref (ad 20)), (3, .int z3), (4, .int z4), (5, .int z5)] → W p l e rmX10_worthBy_T_a19_a20 s m args below meth c H locs 0 0 (MQ below (Qi D (VX cy ad st) (AX ad) s.heap.size r u') args s 0 0 (Ax (AX ad) s.heap.size)) (F0 m 8 ls []) := by
  intro n
  induction n with
  | zero =>
    intro z0 z3 z4 z5 u H locs ls h
    exact absurd h (by intro q; cases q)
  | succ n ih =>
    intro z0 z3 z4 z5 u H locs ls h hP hS hl
    rw [LX10_worthBy_T_a19_a20_8] at h
    refine lv_iload C.1 C.2.1 dX10_worthBy_8 (lv_at hl 5 rfl) ?_
    refine lv_aload_n C.1 C.2.1 dX10_worthBy_10 rfl (lv_at hl 0 rfl) ?_
    obtain ⟨hg1, h⟩ := gd_some h
    refine gX_T C hX10_worthBy_T_a19_a20_X10 hK hP (of_decide_eq_true hg1) mX10_worthBy_T_a19_a20_1 dX10_worthBy_11 ?_
    obtain ⟨hg2, h⟩ := gd_some h
    refine nX_T C hK hP (of_decide_eq_true hg2) dX10_worthBy_14 ?_
    refine lv_icmp_ge (tgt := 233) C.1 C.2.1 dX10_worthBy_15 (by decide) (fun c15 => ?_) (fun c15 => ?_)
    · rw [if_pos c15] at h
      refine lv_iconst (v := 0) C.1 C.2.1 dX10_worthBy_233 (by decide) ?_
      cases h
      exact rt_i C hP hS dX10_worthBy_234
    · rw [if_neg c15] at h
      refine lv_aload_n C.1 C.2.1 dX10_worthBy_18 rfl (lv_at hl 0 rfl) ?_
      obtain ⟨hg3, h⟩ := gd_some h
      refine gX_T C hX10_worthBy_T_a19_a20_X10 hK hP (of_decide_eq_true hg3) mX10_worthBy_T_a19_a20_1 dX10_worthBy_19 ?_
      refine lv_iload C.1 C.2.1 dX10_worthBy_22 (lv_at hl 5 rfl) ?_
      obtain ⟨hg4, h⟩ := gd_some h
      obtain ⟨hg5, h⟩ := gd_some h
      refine lX_T C hK hP (of_decide_eq_true hg4) hg5 dX10_worthBy_24 ?_
      refine lv_sipush (v := 255) C.1 C.2.1 dX10_worthBy_25 (by decide) ?_
      refine lv_iand C.1 C.2.1 dX10_worthBy_28 ?_
      refine lv_topi (fun v6 hv7 => ?_)
      replace h := lt_e hv7 h
      try dsimp only at h
      refine lv_istore (lv' := [(6, .int v6), (0, .ref (ad (tA z0))), (1, .ref (ad 19)), (2, .ref (ad 20)), (3, .int z3), (4, .int z4), (5, .int z5)]) C.1 C.2.1 dX10_worthBy_29 hl (by decide) rfl (fun ls hl => ?_)
      replace hl := lv_sub (l' := [(0, .ref (ad (tA z0))), (1, .ref (ad 19)), (2, .ref (ad 20)), (3, .int z3), (4, .int z4), (5, .int z5), (6, .int v6)]) hl [1, 2, 3, 4, 5, 6, 0] rfl
      refine lv_aload_n C.1 C.2.1 dX10_worthBy_31 rfl (lv_at hl 0 rfl) ?_
      obtain ⟨hg8, h⟩ := gd_some h
      refine gX_T C hX10_worthBy_T_a19_a20_X10 hK hP (of_decide_eq_true hg8) mX10_worthBy_T_a19_a20_1 dX10_worthBy_32 ?_
      refine lv_iload C.1 C.2.1 dX10_worthBy_35 (lv_at hl 5 rfl) ?_
      obtain ⟨hg9, h⟩ := gd_some h
      obtain ⟨hg10, h⟩ := gd_some h
      refine lX_T C hK hP (of_decide_eq_true hg9) hg10 dX10_worthBy_37 ?_
      refine lv_bipush (v := 8) C.1 C.2.1 dX10_worthBy_38 (by decide) ?_
      refine lv_ishr C.1 C.2.1 dX10_worthBy_40 ?_
      refine lv_topi (fun v11 hv12 => ?_)
      replace h := lt_e hv12 h
      try dsimp only at h
      refine lv_istore (lv' := [(7, .int v11), (0, .ref (ad (tA z0))), (1, .ref (ad 19)), (2, .ref (ad 20)), (3, .int z3), (4, .int z4), (5, .int z5), (6, .int v6)]) C.1 C.2.1 dX10_worthBy_41 hl (by decide) rfl (fun ls hl => ?_)
      replace hl := lv_sub (l' := [(0, .ref (ad (tA z0))), (1, .ref (ad 19)), (2, .ref (ad 20)), (3, .int z3), (4, .int z4), (5, .int z5), (6, .int v6), (7, .int v11)]) hl [1, 2, 3, 4, 5, 6, 7, 0] rfl
      refine lv_iload C.1 C.2.1 dX10_worthBy_43 (lv_at hl 4 rfl) ?_
      refine lv_if_eq (tgt := 65) C.1 C.2.1 dX10_worthBy_45 (by decide) (fun c45 => ?_) (fun c45 => ?_)
      · rw [if_pos c45] at h
        refine lv_iload C.1 C.2.1 dX10_worthBy_65 (lv_at hl 6 rfl) ?_
        refine lv_bipush (v := 48) C.1 C.2.1 dX10_worthBy_67 (by decide) ?_
        refine lv_icmp_eq (tgt := 79) C.1 C.2.1 dX10_worthBy_69 (by decide) (fun c69 => ?_) (fun c69 => ?_)
        · rw [if_pos c69] at h
          exact wGX10_worthBy_T_a19_a20_79 C hK hJ ih _ _ _ _ _ _ _ _ _ _ h hP hS hl
        · rw [if_neg c69] at h
          refine lv_iload C.1 C.2.1 dX10_worthBy_72 (lv_at hl 6 rfl) ?_
          refine lv_bipush (v := 121) C.1 C.2.1 dX10_worthBy_74 (by decide) ?_
          refine lv_icmp_ne (tgt := 126) C.1 C.2.1 dX10_worthBy_76 (by decide) (fun c76 => ?_) (fun c76 => ?_)
          · rw [if_neg c76] at h
            refine lv_iload_n C.1 C.2.1 dX10_worthBy_126 rfl (lv_at hl 3 rfl) ?_
            refine lv_iconst (v := 1) C.1 C.2.1 dX10_worthBy_127 (by decide) ?_
            refine lv_icmp_ge (tgt := 133) C.1 C.2.1 dX10_worthBy_128 (by decide) (fun c128 => ?_) (fun c128 => ?_)
            · rw [if_pos c128] at h
              refine lv_iload C.1 C.2.1 dX10_worthBy_133 (lv_at hl 6 rfl) ?_
              refine lv_bipush (v := 59) C.1 C.2.1 dX10_worthBy_135 (by decide) ?_
              refine lv_icmp_ne (tgt := 146) C.1 C.2.1 dX10_worthBy_137 (by decide) (fun c137 => ?_) (fun c137 => ?_)
              · rw [if_neg c137] at h
                refine lv_iload C.1 C.2.1 dX10_worthBy_146 (lv_at hl 6 rfl) ?_
                refine lv_bipush (v := 63) C.1 C.2.1 dX10_worthBy_148 (by decide) ?_
                refine lv_icmp_ne (tgt := 172) C.1 C.2.1 dX10_worthBy_150 (by decide) (fun c150 => ?_) (fun c150 => ?_)
                · rw [if_neg c150] at h
                  refine lv_iload C.1 C.2.1 dX10_worthBy_172 (lv_at hl 6 rfl) ?_
                  refine lv_bipush (v := 33) C.1 C.2.1 dX10_worthBy_174 (by decide) ?_
                  refine lv_icmp_ne (tgt := 194) C.1 C.2.1 dX10_worthBy_176 (by decide) (fun c176 => ?_) (fun c176 => ?_)
                  · rw [if_neg c176] at h
                    refine lv_iload_n C.1 C.2.1 dX10_worthBy_194 rfl (lv_at hl 3 rfl) ?_
                    refine lv_iconst (v := 2) C.1 C.2.1 dX10_worthBy_195 (by decide) ?_
                    refine lv_icmp_ge (tgt := 201) C.1 C.2.1 dX10_worthBy_196 (by decide) (fun c196 => ?_) (fun c196 => ?_)
                    · rw [if_pos c196] at h
                      refine lv_iinc (v := z3 + (-1)) (lv' := [(3, .int (z3 + (-1))), (0, .ref (ad (tA z0))), (1, .ref (ad 19)), (2, .ref (ad 20)), (4, .int z4), (5, .int z5), (6, .int v6), (7, .int v11)]) C.1 C.2.1 dX10_worthBy_201 hl (k := 3) rfl rfl (by decide) rfl (fun ls hl => ?_)
                      replace hl := lv_sub (l' := [(0, .ref (ad (tA z0))), (1, .ref (ad 19)), (2, .ref (ad 20)), (3, .int (z3 + (-1))), (4, .int z4), (5, .int z5), (6, .int v6), (7, .int v11)]) hl [1, 2, 3, 0, 4, 5, 6, 7] rfl
                      refine lv_aload_n C.1 C.2.1 dX10_worthBy_204 rfl (lv_at hl 2 rfl) ?_
                      refine lv_iload_n C.1 C.2.1 dX10_worthBy_205 rfl (lv_at hl 3 rfl) ?_
                      refine lv_iconst (v := 1) C.1 C.2.1 dX10_worthBy_206 (by decide) ?_
                      refine lv_isub C.1 C.2.1 dX10_worthBy_207 ?_
                      refine lv_iload C.1 C.2.1 dX10_worthBy_208 (lv_at hl 6 rfl) ?_
                      refine lv_aload_n C.1 C.2.1 dX10_worthBy_210 rfl (lv_at hl 2 rfl) ?_
                      refine lv_iload_n C.1 C.2.1 dX10_worthBy_211 rfl (lv_at hl 3 rfl) ?_
                      refine lv_iconst (v := 1) C.1 C.2.1 dX10_worthBy_212 (by decide) ?_
                      refine lv_isub C.1 C.2.1 dX10_worthBy_213 ?_
                      obtain ⟨hg17, h⟩ := gd_some h
                      refine lX_20 C hK hP hg17 dX10_worthBy_214 ?_
                      refine lv_i2l (v := (u.2.1 20 ((z3 + (-1)) - 1).toNatClampNeg).toInt64) C.1 C.2.1 dX10_worthBy_215 rfl ?_
                      refine lv_aload_n C.1 C.2.1 dX10_worthBy_216 rfl (lv_at hl 2 rfl) ?_
                      refine lv_iload_n C.1 C.2.1 dX10_worthBy_217 rfl (lv_at hl 3 rfl) ?_
                      obtain ⟨hg18, h⟩ := gd_some h
                      refine lX_20 C hK hP hg18 dX10_worthBy_218 ?_
                      refine lv_i2l (v := (u.2.1 20 (z3 + (-1)).toNatClampNeg).toInt64) C.1 C.2.1 dX10_worthBy_219 rfl ?_
                      obtain ⟨r19, hc21, h⟩ := bd_some h
                      refine cs_l (As := [.int v6, .long ((u.2.1 20 ((z3 + (-1)) - 1).toNatClampNeg).toInt64), .long ((u.2.1 20 (z3 + (-1)).toNatClampNeg).toInt64)]) (rest := [.int ((z3 + (-1)) - 1), .ref (ad 20)]) (AX_ge hJ) C hK hP hS (metX10_join l D cy st _ v6 ((u.2.1 20 ((z3 + (-1)) - 1).toNatClampNeg).toInt64) ((u.2.1 20 (z3 + (-1)).toNatClampNeg).toInt64) hc21) (va_cwS 3 C.2.2.2.2.2.1 gX10_worthBy_X10_join rfl rfl rfl (by decide +kernel) ⟨(Nat.le_of_ble_eq_true rfl), (Nat.le_of_ble_eq_true rfl)⟩) rfl hl.1 rfl (Nat.le_of_ble_eq_true rfl) dX10_worthBy_220 ⟨Nat.zero_le _, Nat.zero_le _⟩ (fun H locs hP hS => ?_)
                      obtain ⟨r22, hc24, h⟩ := bd_some h
                      refine cs_i (As := [.long r19]) (rest := [.int ((z3 + (-1)) - 1), .ref (ad 20)]) (AX_ge hJ) C hK hP hS (metX10_bounded l D cy st _ r19 hc24) (va_cwS 1 C.2.2.2.2.2.1 gX10_worthBy_X10_bounded rfl rfl rfl (by decide +kernel) ⟨(Nat.le_of_ble_eq_true rfl), (Nat.le_of_ble_eq_true rfl)⟩) rfl hl.1 rfl (Nat.le_of_ble_eq_true rfl) dX10_worthBy_223 ⟨Nat.zero_le _, Nat.zero_le _⟩ (fun H locs hP hS => ?_)
                      obtain ⟨hg25, h⟩ := gd_some h
                      refine tX_20 C hK hP hJ hS hg25 dX10_worthBy_226 (fun H locs hP hS => ?_)
                      obtain ⟨u26, hu27, h⟩ := lt_some h
                      rw [← hu27] at hP
                      exact wGX10_worthBy_T_a19_a20_227 C hK hJ ih _ _ _ _ _ _ _ _ h hP hS (lv_sub hl [0, 1, 2, 3, 4, 5] rfl)
                    · rw [if_neg c196] at h
                      refine lv_iconst (v := 0) C.1 C.2.1 dX10_worthBy_199 (by decide) ?_
                      cases h
                      exact rt_i C hP hS dX10_worthBy_200
                  · rw [if_pos c176] at h
                    refine lv_aload_n C.1 C.2.1 dX10_worthBy_179 rfl (lv_at hl 2 rfl) ?_
                    refine lv_iload_n C.1 C.2.1 dX10_worthBy_180 rfl (lv_at hl 3 rfl) ?_
                    refine lv_iconst (v := 1) C.1 C.2.1 dX10_worthBy_181 (by decide) ?_
                    refine lv_isub C.1 C.2.1 dX10_worthBy_182 ?_
                    refine lv_iconst (v := 1) C.1 C.2.1 dX10_worthBy_183 (by decide) ?_
                    refine lv_aload_n C.1 C.2.1 dX10_worthBy_184 rfl (lv_at hl 2 rfl) ?_
                    refine lv_iload_n C.1 C.2.1 dX10_worthBy_185 rfl (lv_at hl 3 rfl) ?_
                    refine lv_iconst (v := 1) C.1 C.2.1 dX10_worthBy_186 (by decide) ?_
                    refine lv_isub C.1 C.2.1 dX10_worthBy_187 ?_
                    obtain ⟨hg28, h⟩ := gd_some h
                    refine lX_20 C hK hP hg28 dX10_worthBy_188 ?_
                    refine lv_isub C.1 C.2.1 dX10_worthBy_189 ?_
                    obtain ⟨hg29, h⟩ := gd_some h
                    refine tX_20 C hK hP hJ hS hg29 dX10_worthBy_190 (fun H locs hP hS => ?_)
                    obtain ⟨u30, hu31, h⟩ := lt_some h
                    rw [← hu31] at hP
                    refine lv_goto (tgt := 227) C.1 C.2.1 dX10_worthBy_191 (by decide) ?_
                    exact wGX10_worthBy_T_a19_a20_227 C hK hJ ih _ _ _ _ _ _ _ _ h hP hS (lv_sub hl [0, 1, 2, 3, 4, 5] rfl)
                · rw [if_pos c150] at h
                  refine lv_iinc (v := z3 + (-1)) (lv' := [(3, .int (z3 + (-1))), (0, .ref (ad (tA z0))), (1, .ref (ad 19)), (2, .ref (ad 20)), (4, .int z4), (5, .int z5), (6, .int v6), (7, .int v11)]) C.1 C.2.1 dX10_worthBy_153 hl (k := 3) rfl rfl (by decide) rfl (fun ls hl => ?_)
                  replace hl := lv_sub (l' := [(0, .ref (ad (tA z0))), (1, .ref (ad 19)), (2, .ref (ad 20)), (3, .int (z3 + (-1))), (4, .int z4), (5, .int z5), (6, .int v6), (7, .int v11)]) hl [1, 2, 3, 0, 4, 5, 6, 7] rfl
                  refine lv_aload_n C.1 C.2.1 dX10_worthBy_156 rfl (lv_at hl 2 rfl) ?_
                  refine lv_iload_n C.1 C.2.1 dX10_worthBy_157 rfl (lv_at hl 3 rfl) ?_
                  obtain ⟨hg32, h⟩ := gd_some h
                  refine lX_20 C hK hP hg32 dX10_worthBy_158 ?_
                  refine lv_if_ne (tgt := 166) C.1 C.2.1 dX10_worthBy_159 (by decide) (fun c159 => ?_) (fun c159 => ?_)
                  · rw [if_neg c159] at h
                    refine lv_iconst (v := 0) C.1 C.2.1 dX10_worthBy_166 (by decide) ?_
                    exact wGX10_worthBy_T_a19_a20_167 C hK hJ ih _ _ _ _ _ _ _ _ h hP hS (lv_sub hl [0, 1, 2, 3, 5] rfl)
                  · rw [if_pos c159] at h
                    refine lv_iconst (v := 1) C.1 C.2.1 dX10_worthBy_162 (by decide) ?_
                    refine lv_goto (tgt := 167) C.1 C.2.1 dX10_worthBy_163 (by decide) ?_
                    exact wGX10_worthBy_T_a19_a20_167 C hK hJ ih _ _ _ _ _ _ _ _ h hP hS (lv_sub hl [0, 1, 2, 3, 5] rfl)
              · rw [if_pos c137] at h
                refine lv_aload_n C.1 C.2.1 dX10_worthBy_140 rfl (lv_at hl 2 rfl) ?_
                refine lv_iload_n C.1 C.2.1 dX10_worthBy_141 rfl (lv_at hl 3 rfl) ?_
                refine lv_iconst (v := 1) C.1 C.2.1 dX10_worthBy_142 (by decide) ?_
                refine lv_isub C.1 C.2.1 dX10_worthBy_143 ?_
                obtain ⟨hg33, h⟩ := gd_some h
                refine lX_20 C hK hP hg33 dX10_worthBy_144 ?_
                cases h
                exact rt_i C hP hS dX10_worthBy_145
            · rw [if_neg c128] at h
              refine lv_iconst (v := 0) C.1 C.2.1 dX10_worthBy_131 (by decide) ?_
              cases h
              exact rt_i C hP hS dX10_worthBy_132
          · rw [if_pos c76] at h
            exact wGX10_worthBy_T_a19_a20_79 C hK hJ ih _ _ _ _ _ _ _ _ _ _ h hP hS hl
      · rw [if_neg c45] at h
        refine lv_iload C.1 C.2.1 dX10_worthBy_48 (lv_at hl 6 rfl) ?_
        refine lv_bipush (v := 59) C.1 C.2.1 dX10_worthBy_50 (by decide) ?_
        refine lv_icmp_eq (tgt := 59) C.1 C.2.1 dX10_worthBy_52 (by decide) (fun c52 => ?_) (fun c52 => ?_)
        · rw [if_pos c52] at h
          refine lv_iconst (v := 0) C.1 C.2.1 dX10_worthBy_59 (by decide) ?_
          exact wGX10_worthBy_T_a19_a20_60 C hK hJ ih _ _ _ _ _ _ _ _ h hP hS (lv_sub hl [0, 1, 2, 3, 5] rfl)
        · rw [if_neg c52] at h
          refine lv_iconst (v := 1) C.1 C.2.1 dX10_worthBy_55 (by decide) ?_
          refine lv_goto (tgt := 60) C.1 C.2.1 dX10_worthBy_56 (by decide) ?_
          exact wGX10_worthBy_T_a19_a20_60 C hK hJ ih _ _ _ _ _ _ _ _ h hP hS (lv_sub hl [0, 1, 2, 3, 5] rfl)
set_option maxHeartbeats 4000000 in
set_option maxRecDepth 100000 in
theorem wX10_worthBy_T_a19_a20 {p : Program} {l : Launch} {e : Env} {s : State} {m : MethodId} {args : Array Value} {below : List Frame} {meth : Method} {c : Code} {D : va_G} {cy : Nat → ClassId} {ad st : Nat → Nat} (C : Cx RX10 cX10_worthBy 8 (some .int) wsX10_worthBy p s m args meth c) (hK : Ky D [(cy 0, .int), (cy 1, .long), (cy 2, .boolean), (cy 3, .byte), (cy 4, .object "HissHorn$Text")] st s) (hJ : JX ad st) (x0 : Nat) {u : SX} {r : Int32} {u' : SX} {H : Heap} {locs : List Loc} {ls : Array Slot} (h : fX10_worthBy_T_a19_a20 x0 u = some (r, u')) (hP : va_P D vwCl (VX cy ad st u) H) (hS : va_S (Ax (AX ad) s.heap.size) s.heap H locs) (hl : lv_has ls 8 [(0, .ref (ad (tA x0))), (1, .ref (ad 19)), (2, .ref (ad 20))]) : W p l e rmX10_worthBy_T_a19_a20 s m args below meth c H locs 0 0 (MQ below (Qi D (VX cy ad st) (AX ad) s.heap.size r u') args s 0 0 (Ax (AX ad) s.heap.size)) (F0 m 0 ls []) := by
  unfold fX10_worthBy_T_a19_a20 at h
  refine lv_iconst (v := 0) C.1 C.2.1 dX10_worthBy_0 (by decide) ?_
  refine lv_istore_n (lv' := [(3, .int 0), (0, .ref (ad (tA x0))), (1, .ref (ad 19)), (2, .ref (ad 20))]) C.1 C.2.1 dX10_worthBy_1 rfl hl (by decide) rfl (fun ls hl => ?_)
  replace hl := lv_sub (l' := [(0, .ref (ad (tA x0))), (1, .ref (ad 19)), (2, .ref (ad 20)), (3, .int 0)]) hl [1, 2, 3, 0] rfl
  refine lv_iconst (v := 0) C.1 C.2.1 dX10_worthBy_2 (by decide) ?_
  refine lv_istore (lv' := [(4, .int 0), (0, .ref (ad (tA x0))), (1, .ref (ad 19)), (2, .ref (ad 20)), (3, .int 0)]) C.1 C.2.1 dX10_worthBy_3 hl (by decide) rfl (fun ls hl => ?_)
  replace hl := lv_sub (l' := [(0, .ref (ad (tA x0))), (1, .ref (ad 19)), (2, .ref (ad 20)), (3, .int 0), (4, .int 0)]) hl [1, 2, 3, 4, 0] rfl
  refine lv_iconst (v := 0) C.1 C.2.1 dX10_worthBy_5 (by decide) ?_
  refine lv_istore (lv' := [(5, .int 0), (0, .ref (ad (tA x0))), (1, .ref (ad 19)), (2, .ref (ad 20)), (3, .int 0), (4, .int 0)]) C.1 C.2.1 dX10_worthBy_6 hl (by decide) rfl (fun ls hl => ?_)
  replace hl := lv_sub (l' := [(0, .ref (ad (tA x0))), (1, .ref (ad 19)), (2, .ref (ad 20)), (3, .int 0), (4, .int 0), (5, .int 0)]) hl [1, 2, 3, 4, 5, 0] rfl
  exact wLX10_worthBy_T_a19_a20_8 C hK hJ  5000 _ _ _ _ _ _ _ _ h hP hS hl
theorem metX10_worthBy_T_a19_a20 (l : Launch) (D : va_G) (cy : Nat → ClassId) (ad st : Nat → Nat) (hJ : JX ad st) (sz : Nat) (x0 : Nat) {u : SX} {r : Int32} {u' : SX} (h : fX10_worthBy_T_a19_a20 x0 u = some (r, u')) : Met l yX10_worthBy wsX10_worthBy rmX10_worthBy_T_a19_a20 (va_Pc [.ref (ad (tA x0)), .ref (ad 19), .ref (ad 20)] (Px D [(cy 0, .int), (cy 1, .long), (cy 2, .boolean), (cy 3, .byte), (cy 4, .object "HissHorn$Text")] st (VX cy ad st) sz u)) (Qi D (VX cy ad st) (AX ad) sz r u') 0 0 (Ax (AX ad) sz) := by
  refine Met.ofW (cc := cX10_worthBy) (maxL := 8) (ret := (some .int)) (by decide) rfl ?_
  intro p e s m args below meth c s₁ B hml hv
  obtain ⟨rfl, hsz, hP, hK⟩ := hv
  subst hsz
  have C : Cx RX10 cX10_worthBy 8 (some .int) wsX10_worthBy p s m _ meth c := ⟨B.exec, B.bytes, hml, B.returns, findClass_of_methodNamed B.named, atoms_spec (ws := wsX10_worthBy) B.pre, B.notSynchronized⟩
  have hl := lv_entry ([.ref (ad (tA x0)), .ref (ad 19), .ref (ad 20)]) (n := 8) (Nat.le_of_ble_eq_true rfl)
  rw [lg_entry_eq]
  exact wX10_worthBy_T_a19_a20 C hK hJ x0 h hP va_S.rf hl

/-- HissHorn$Shelf.ask(I)I of cell 4 -/
def rmX8_ask_4 : Room := { frames := 3, cells := 0, slots := 0, locals := 65 }
def GX8_ask_4_18  (u : SX) : Option (Int32 × SX) := (some (0, u))
theorem hX8_ask_4_X8 : ∀ w ∈ u_ws RX8 TX8 5, w ∈ wsX8_ask := fun w h => (List.mem_cons_of_mem _ (List.mem_append_left _ (List.mem_append_right _ h)))
theorem mX8_ask_4_1 : Cond.fieldLink RX8 23 "HissHorn$Shelf" "texts" "[LHissHorn$Text;" ∈ wsX8_ask := (List.mem_cons_of_mem _ (List.mem_append_left _ (List.mem_append_left _ (List.mem_append_left _ (List.mem_of_getElem? (i := 0) rfl)))))
theorem mX8_ask_4_2 : Cond.fieldLink RX8 33 "HissHorn$Shelf" "values" "[I" ∈ wsX8_ask := (List.mem_cons_of_mem _ (List.mem_append_left _ (List.mem_append_left _ (List.mem_append_left _ (List.mem_of_getElem? (i := 1) rfl)))))
theorem mX8_ask_4_3 : Cond.fieldLink RX8 11 "HissHorn$Shelf" "stack" "[I" ∈ wsX8_ask := (List.mem_cons_of_mem _ (List.mem_append_left _ (List.mem_append_left _ (List.mem_append_left _ (List.mem_of_getElem? (i := 2) rfl)))))
def GX8_ask_4_18a (y0 : Nat) (u : SX) : Option (Int32 × SX) := (gd (decide (y0 < tN u)) ((fX10_worthBy_T_a19_a20 y0  u).bind fun q => match q with | (r7, u8) => (some (r7, u8))))
def fX8_ask_4 (x1 : Int32) (u : SX) : Option (Int32 × SX) := ((fX8_has_4 x1 u).bind fun q => match q with | (r1, u2) => (if r1 = 0 then (GX8_ask_4_18 u2) else (gd (inb x1 6) (tcs (tQ u2 18 x1.toNatClampNeg) (tN u2) (GX8_ask_4_18 u2) (fun k5 => (GX8_ask_4_18a k5 u2))))))
set_option maxHeartbeats 4000000 in
set_option maxRecDepth 100000 in
theorem wGX8_ask_4_18 {p : Program} {l : Launch} {e : Env} {s : State} {m : MethodId} {args : Array Value} {below : List Frame} {meth : Method} {c : Code} {D : va_G} {cy : Nat → ClassId} {ad st : Nat → Nat} (C : Cx RX8 cX8_ask 3 (some .int) wsX8_ask p s m args meth c) (hK : Ky D [(cy 0, .int), (cy 1, .long), (cy 2, .boolean), (cy 3, .byte), (cy 4, .object "HissHorn$Text")] st s) (hJ : JX ad st) {r : Int32} {u' : SX}   (u : SX) (H : Heap) (locs : List Loc) (ls : Array Slot) (h : GX8_ask_4_18  u = some (r, u')) (hP : va_P D vwCl (VX cy ad st u) H) (hS : va_S (Ax (AX ad) s.heap.size) s.heap H locs) (hl : lv_has ls 3 [(0, .ref (ad 4))]) : W p l e rmX8_ask_4 s m args below meth c H locs 0 0 (MQ below (Qi D (VX cy ad st) (AX ad) s.heap.size r u') args s 0 0 (Ax (AX ad) s.heap.size)) (F0 m 18 ls [.null]) := by
  unfold GX8_ask_4_18 at h
  refine lv_astore_nN (lv' := [(2, .null), (0, .ref (ad 4))]) C.1 C.2.1 dX8_ask_18 rfl hl (by decide) rfl (fun ls hl => ?_)
  replace hl := lv_sub (l' := [(0, .ref (ad 4)), (2, .null)]) hl [1, 0] rfl
  refine lv_aload_nN C.1 C.2.1 dX8_ask_19 rfl (lv_at hl 1 rfl) ?_
  refine lv_ifnonnullN C.1 C.2.1 dX8_ask_20 ?_
  refine lv_iconst (v := 0) C.1 C.2.1 dX8_ask_23 (by decide) ?_
  refine lv_goto (tgt := 39) C.1 C.2.1 dX8_ask_24 (by decide) ?_
  cases h
  exact rt_i C hP hS dX8_ask_39
set_option maxHeartbeats 4000000 in
set_option maxRecDepth 100000 in
theorem wGX8_ask_4_18a {p : Program} {l : Launch} {e : Env} {s : State} {m : MethodId} {args : Array Value} {below : List Frame} {meth : Method} {c : Code} {D : va_G} {cy : Nat → ClassId} {ad st : Nat → Nat} (C : Cx RX8 cX8_ask 3 (some .int) wsX8_ask p s m args meth c) (hK : Ky D [(cy 0, .int), (cy 1, .long), (cy 2, .boolean), (cy 3, .byte), (cy 4, .object "HissHorn$Text")] st s) (hJ : JX ad st) {r : Int32} {u' : SX}   (y0 : Nat) (u : SX) (H : Heap) (locs : List Loc) (ls : Array Slot) (h : GX8_ask_4_18a y0 u = some (r, u')) (hP : va_P D vwCl (VX cy ad st u) H) (hS : va_S (Ax (AX ad) s.heap.size) s.heap H locs) (hl : lv_has ls 3 [(0, .ref (ad 4))]) : W p l e rmX8_ask_4 s m args below meth c H locs 0 0 (MQ below (Qi D (VX cy ad st) (AX ad) s.heap.size r u') args s 0 0 (Ax (AX ad) s.heap.size)) (F0 m 18 ls [.ref (ad (tA y0))]) := by
  unfold GX8_ask_4_18a at h
  refine lv_astore_n (lv' := [(2, .ref (ad (tA y0))), (0, .ref (ad 4))]) C.1 C.2.1 dX8_ask_18 rfl hl (by decide) rfl (fun ls hl => ?_)
  replace hl := lv_sub (l' := [(0, .ref (ad 4)), (2, .ref (ad (tA y0)))]) hl [1, 0] rfl
  refine lv_aload_n C.1 C.2.1 dX8_ask_19 rfl (lv_at hl 1 rfl) ?_
  refine lv_ifnonnull (tgt := 27) C.1 C.2.1 dX8_ask_20 (by decide) ?_
  refine lv_aload_n C.1 C.2.1 dX8_ask_27 rfl (lv_at hl 1 rfl) ?_
  refine lv_aload_n C.1 C.2.1 dX8_ask_28 rfl (lv_at hl 0 rfl) ?_
  refine gX_4_values C hX8_ask_4_X8 hK hP mX8_ask_4_2 dX8_ask_29 ?_
  refine lv_aload_n C.1 C.2.1 dX8_ask_32 rfl (lv_at hl 0 rfl) ?_
  refine gX_4_stack C hX8_ask_4_X8 hK hP mX8_ask_4_3 dX8_ask_33 ?_
  obtain ⟨hg6, h⟩ := gd_some h
  obtain ⟨⟨r7, u8⟩, hc9, h⟩ := bd_some h
  try dsimp only at h
  refine cg_i (As := [.ref (ad 19), .ref (ad 20)]) (rest := []) (AX_ge hJ) C hK hP hS (metX10_worthBy_T_a19_a20 l D cy ad st hJ _ y0  hc9) (cwV 2 C.2.2.2.2.2.1 gX8_ask_X10_worthBy rfl rfl rfl (by decide +kernel) ⟨(Nat.le_of_ble_eq_true rfl), (Nat.le_of_ble_eq_true rfl)⟩) (73 + 2 * y0) 10 rfl (VX_T (of_decide_eq_true hg6)) rfl hl.1 rfl (Nat.le_of_ble_eq_true rfl) dX8_ask_36 ⟨Nat.zero_le _, Nat.zero_le _⟩ (fun H locs hP hS => ?_)
  cases h
  exact rt_i C hP hS dX8_ask_39
set_option maxHeartbeats 4000000 in
set_option maxRecDepth 100000 in
theorem wX8_ask_4 {p : Program} {l : Launch} {e : Env} {s : State} {m : MethodId} {args : Array Value} {below : List Frame} {meth : Method} {c : Code} {D : va_G} {cy : Nat → ClassId} {ad st : Nat → Nat} (C : Cx RX8 cX8_ask 3 (some .int) wsX8_ask p s m args meth c) (hK : Ky D [(cy 0, .int), (cy 1, .long), (cy 2, .boolean), (cy 3, .byte), (cy 4, .object "HissHorn$Text")] st s) (hJ : JX ad st) (x1 : Int32) {u : SX} {r : Int32} {u' : SX} {H : Heap} {locs : List Loc} {ls : Array Slot} (h : fX8_ask_4 x1 u = some (r, u')) (hP : va_P D vwCl (VX cy ad st u) H) (hS : va_S (Ax (AX ad) s.heap.size) s.heap H locs) (hl : lv_has ls 3 [(0, .ref (ad 4)), (1, .int x1)]) : W p l e rmX8_ask_4 s m args below meth c H locs 0 0 (MQ below (Qi D (VX cy ad st) (AX ad) s.heap.size r u') args s 0 0 (Ax (AX ad) s.heap.size)) (F0 m 0 ls []) := by
  unfold fX8_ask_4 at h
  refine lv_aload_n C.1 C.2.1 dX8_ask_0 rfl (lv_at hl 0 rfl) ?_
  refine lv_iload_n C.1 C.2.1 dX8_ask_1 rfl (lv_at hl 1 rfl) ?_
  obtain ⟨⟨r1, u2⟩, hc3, h⟩ := bd_some h
  try dsimp only at h
  refine cg_i (As := [.int x1]) (rest := []) (AX_ge hJ) C hK hP hS (metX8_has_4 l D cy ad st hJ _ x1 hc3) (cwV 1 C.2.2.2.2.2.1 gX8_ask_X8_has rfl rfl rfl (by decide +kernel) ⟨(Nat.le_of_ble_eq_true rfl), (Nat.le_of_ble_eq_true rfl)⟩) 4 8 rfl rfl rfl hl.1 rfl (Nat.le_of_ble_eq_true rfl) dX8_ask_2 ⟨Nat.zero_le _, Nat.zero_le _⟩ (fun H locs hP hS => ?_)
  refine lv_if_eq (tgt := 17) C.1 C.2.1 dX8_ask_5 (by decide) (fun c5 => ?_) (fun c5 => ?_)
  · rw [if_pos c5] at h
    refine lv_null C.1 C.2.1 dX8_ask_17 ?_
    exact wGX8_ask_4_18 C hK hJ _ _ _ _ h hP hS (lv_sub hl [0] rfl)
  · rw [if_neg c5] at h
    refine lv_aload_n C.1 C.2.1 dX8_ask_8 rfl (lv_at hl 0 rfl) ?_
    refine gX_4_texts C hX8_ask_4_X8 hK hP mX8_ask_4_1 dX8_ask_9 ?_
    refine lv_iload_n C.1 C.2.1 dX8_ask_12 rfl (lv_at hl 1 rfl) ?_
    obtain ⟨hg4, h⟩ := gd_some h
    refine aX_18 C hK hP hg4 dX8_ask_13 (fun ht => ?_) (fun k5 ht => ?_)
    · replace h := tcs_n ht h
      refine lv_goto (tgt := 18) C.1 C.2.1 dX8_ask_14 (by decide) ?_
      exact wGX8_ask_4_18 C hK hJ _ _ _ _ h hP hS (lv_sub hl [0] rfl)
    · replace h := (tcs_s ht h).2
      refine lv_goto (tgt := 18) C.1 C.2.1 dX8_ask_14 (by decide) ?_
      exact wGX8_ask_4_18a C hK hJ _ _ _ _ _ h hP hS (lv_sub hl [0] rfl)
theorem metX8_ask_4 (l : Launch) (D : va_G) (cy : Nat → ClassId) (ad st : Nat → Nat) (hJ : JX ad st) (sz : Nat) (x1 : Int32) {u : SX} {r : Int32} {u' : SX} (h : fX8_ask_4 x1 u = some (r, u')) : Met l yX8_ask wsX8_ask rmX8_ask_4 (va_Pc [.ref (ad 4), .int x1] (Px D [(cy 0, .int), (cy 1, .long), (cy 2, .boolean), (cy 3, .byte), (cy 4, .object "HissHorn$Text")] st (VX cy ad st) sz u)) (Qi D (VX cy ad st) (AX ad) sz r u') 0 0 (Ax (AX ad) sz) := by
  refine Met.ofW (cc := cX8_ask) (maxL := 3) (ret := (some .int)) (by decide) rfl ?_
  intro p e s m args below meth c s₁ B hml hv
  obtain ⟨rfl, hsz, hP, hK⟩ := hv
  subst hsz
  have C : Cx RX8 cX8_ask 3 (some .int) wsX8_ask p s m _ meth c := ⟨B.exec, B.bytes, hml, B.returns, findClass_of_methodNamed B.named, atoms_spec (ws := wsX8_ask) B.pre, B.notSynchronized⟩
  have hl := lv_entry ([.ref (ad 4), .int x1]) (n := 3) (Nat.le_of_ble_eq_true rfl)
  rw [lg_entry_eq]
  exact wX8_ask_4 C hK hJ x1 h hP va_S.rf hl

theorem zdX1_guessed_0 : (and (and (and (and (zk cX1_guessed 0 (.aload_n 0) 1) (zk cX1_guessed 1 (.getfield 29) 3)) (and (zk cX1_guessed 4 (.iconst 0) 1) (zk cX1_guessed 5 (.iload_n 2) 1))) (and (and (zk cX1_guessed 6 (.invokevirtual 102) 3) (zk cX1_guessed 9 (.aload_n 0) 1)) (and (zk cX1_guessed 10 (.getfield 29) 3) (zk cX1_guessed 13 (.iconst 1) 1)))) (and (and (and (zk cX1_guessed 14 (.iload_n 3) 1) (zk cX1_guessed 15 (.invokevirtual 102) 3)) (and (zk cX1_guessed 18 (.aload_n 0) 1) (zk cX1_guessed 19 (.getfield 29) 3))) (and (and (zk cX1_guessed 22 (.iload_n 1) 1) (zk cX1_guessed 23 (.invokevirtual 108) 3)) (zk cX1_guessed 26 (.ireturn) 1)))) = true := by decide +kernel
theorem dX1_guessed_0 : decode cX1_guessed 0 = .ok (.aload_n 0, 1) := zk_of (zk_l (zk_l (zk_l (zk_l zdX1_guessed_0))))
theorem dX1_guessed_1 : decode cX1_guessed 1 = .ok (.getfield 29, 3) := zk_of (zk_r (zk_l (zk_l (zk_l zdX1_guessed_0))))
theorem dX1_guessed_4 : decode cX1_guessed 4 = .ok (.iconst 0, 1) := zk_of (zk_l (zk_r (zk_l (zk_l zdX1_guessed_0))))
theorem dX1_guessed_5 : decode cX1_guessed 5 = .ok (.iload_n 2, 1) := zk_of (zk_r (zk_r (zk_l (zk_l zdX1_guessed_0))))
theorem dX1_guessed_6 : decode cX1_guessed 6 = .ok (.invokevirtual 102, 3) := zk_of (zk_l (zk_l (zk_r (zk_l zdX1_guessed_0))))
theorem dX1_guessed_9 : decode cX1_guessed 9 = .ok (.aload_n 0, 1) := zk_of (zk_r (zk_l (zk_r (zk_l zdX1_guessed_0))))
theorem dX1_guessed_10 : decode cX1_guessed 10 = .ok (.getfield 29, 3) := zk_of (zk_l (zk_r (zk_r (zk_l zdX1_guessed_0))))
theorem dX1_guessed_13 : decode cX1_guessed 13 = .ok (.iconst 1, 1) := zk_of (zk_r (zk_r (zk_r (zk_l zdX1_guessed_0))))
theorem dX1_guessed_14 : decode cX1_guessed 14 = .ok (.iload_n 3, 1) := zk_of (zk_l (zk_l (zk_l (zk_r zdX1_guessed_0))))
theorem dX1_guessed_15 : decode cX1_guessed 15 = .ok (.invokevirtual 102, 3) := zk_of (zk_r (zk_l (zk_l (zk_r zdX1_guessed_0))))
theorem dX1_guessed_18 : decode cX1_guessed 18 = .ok (.aload_n 0, 1) := zk_of (zk_l (zk_r (zk_l (zk_r zdX1_guessed_0))))
theorem dX1_guessed_19 : decode cX1_guessed 19 = .ok (.getfield 29, 3) := zk_of (zk_r (zk_r (zk_l (zk_r zdX1_guessed_0))))
theorem dX1_guessed_22 : decode cX1_guessed 22 = .ok (.iload_n 1, 1) := zk_of (zk_l (zk_l (zk_r (zk_r zdX1_guessed_0))))
theorem dX1_guessed_23 : decode cX1_guessed 23 = .ok (.invokevirtual 108, 3) := zk_of (zk_r (zk_l (zk_r (zk_r zdX1_guessed_0))))
theorem dX1_guessed_26 : decode cX1_guessed 26 = .ok (.ireturn, 1) := zk_of (zk_r (zk_r (zk_r zdX1_guessed_0)))
set_option maxRecDepth 20000 in
theorem ggX1_guessed_X8_set : GoodIn wsX1_guessed wsX8_set := ggi (fun w h => List.mem_cons_of_mem _ (List.mem_append_left _ (List.mem_append_left _ (List.mem_append_left _ (List.mem_append_right _ (List.mem_append_left _ h)))))) gs_X8_set
set_option maxRecDepth 20000 in
theorem gX1_guessed_X8_set : GoodIn wsX1_guessed (wsV RX1 102 RX8 yX8_set wsX8_set) := goodIn_app (goodIn_of _ (by decide +kernel)) ggX1_guessed_X8_set
set_option maxRecDepth 20000 in
theorem ggX1_guessed_X8_ask : GoodIn wsX1_guessed wsX8_ask := ggi (fun w h => List.mem_cons_of_mem _ (List.mem_append_left _ (List.mem_append_left _ (List.mem_append_left _ (List.mem_append_right _ (List.mem_append_right _ h)))))) gs_X8_ask
set_option maxRecDepth 20000 in
theorem gX1_guessed_X8_ask : GoodIn wsX1_guessed (wsV RX1 108 RX8 yX8_ask wsX8_ask) := goodIn_app (goodIn_of _ (by decide +kernel)) ggX1_guessed_X8_ask
/-- HissHorn$Findings.guessed(III)I of cell 8 -/
def rmX1_guessed_8 : Room := { frames := 4, cells := 0, slots := 0, locals := 87 }
theorem hX1_guessed_8_X1 : ∀ w ∈ u_ws RX1 TX1 13, w ∈ wsX1_guessed := fun w h => (List.mem_cons_of_mem _ (List.mem_append_left _ (List.mem_append_left _ (List.mem_append_right _ h))))
theorem mX1_guessed_8_1 : Cond.fieldLink RX1 29 "HissHorn$Findings" "guesses" "LHissHorn$Shelf;" ∈ wsX1_guessed := (List.mem_cons_of_mem _ (List.mem_append_left _ (List.mem_append_left _ (List.mem_append_left _ (List.mem_append_left _ (List.mem_of_getElem? (i := 7) rfl))))))
def fX1_guessed_8 (x1 : Int32) (x2 : Int32) (x3 : Int32) (u : SX) : Option (Int32 × SX) := ((fX8_set_4 0 x2 u).bind fun q => match q with | (r1, u2) => ((fX8_set_4 1 x3 u2).bind fun q => match q with | (r4, u5) => ((fX8_ask_4 x1 u5).bind fun q => match q with | (r7, u8) => (some (r7, u8)))))
set_option maxHeartbeats 4000000 in
set_option maxRecDepth 100000 in
theorem wX1_guessed_8 {p : Program} {l : Launch} {e : Env} {s : State} {m : MethodId} {args : Array Value} {below : List Frame} {meth : Method} {c : Code} {D : va_G} {cy : Nat → ClassId} {ad st : Nat → Nat} (C : Cx RX1 cX1_guessed 4 (some .int) wsX1_guessed p s m args meth c) (hK : Ky D [(cy 0, .int), (cy 1, .long), (cy 2, .boolean), (cy 3, .byte), (cy 4, .object "HissHorn$Text")] st s) (hJ : JX ad st) (x1 : Int32) (x2 : Int32) (x3 : Int32) {u : SX} {r : Int32} {u' : SX} {H : Heap} {locs : List Loc} {ls : Array Slot} (h : fX1_guessed_8 x1 x2 x3 u = some (r, u')) (hP : va_P D vwCl (VX cy ad st u) H) (hS : va_S (Ax (AX ad) s.heap.size) s.heap H locs) (hl : lv_has ls 4 [(0, .ref (ad 8)), (1, .int x1), (2, .int x2), (3, .int x3)]) : W p l e rmX1_guessed_8 s m args below meth c H locs 0 0 (MQ below (Qi D (VX cy ad st) (AX ad) s.heap.size r u') args s 0 0 (Ax (AX ad) s.heap.size)) (F0 m 0 ls []) := by
  unfold fX1_guessed_8 at h
  refine lv_aload_n C.1 C.2.1 dX1_guessed_0 rfl (lv_at hl 0 rfl) ?_
  refine gX_8_guesses C hX1_guessed_8_X1 hK hP mX1_guessed_8_1 dX1_guessed_1 ?_
  refine lv_iconst (v := 0) C.1 C.2.1 dX1_guessed_4 (by decide) ?_
  refine lv_iload_n C.1 C.2.1 dX1_guessed_5 rfl (lv_at hl 2 rfl) ?_
  obtain ⟨⟨r1, u2⟩, hc3, h⟩ := bd_some h
  try dsimp only at h
  refine cg_v (As := [.int 0, .int x2]) (rest := []) (AX_ge hJ) C hK hP hS (metX8_set_4 l D cy ad st hJ _ 0 x2 hc3) (cwV 2 C.2.2.2.2.2.1 gX1_guessed_X8_set rfl rfl rfl (by decide +kernel) ⟨(Nat.le_of_ble_eq_true rfl), (Nat.le_of_ble_eq_true rfl)⟩) 4 8 rfl rfl rfl hl.1 rfl (Nat.le_of_ble_eq_true rfl) dX1_guessed_6 ⟨Nat.zero_le _, Nat.zero_le _⟩ (fun H locs hP hS => ?_)
  refine lv_aload_n C.1 C.2.1 dX1_guessed_9 rfl (lv_at hl 0 rfl) ?_
  refine gX_8_guesses C hX1_guessed_8_X1 hK hP mX1_guessed_8_1 dX1_guessed_10 ?_
  refine lv_iconst (v := 1) C.1 C.2.1 dX1_guessed_13 (by decide) ?_
  refine lv_iload_n C.1 C.2.1 dX1_guessed_14 rfl (lv_at hl 3 rfl) ?_
  obtain ⟨⟨r4, u5⟩, hc6, h⟩ := bd_some h
  try dsimp only at h
  refine cg_v (As := [.int 1, .int x3]) (rest := []) (AX_ge hJ) C hK hP hS (metX8_set_4 l D cy ad st hJ _ 1 x3 hc6) (cwV 2 C.2.2.2.2.2.1 gX1_guessed_X8_set rfl rfl rfl (by decide +kernel) ⟨(Nat.le_of_ble_eq_true rfl), (Nat.le_of_ble_eq_true rfl)⟩) 4 8 rfl rfl rfl hl.1 rfl (Nat.le_of_ble_eq_true rfl) dX1_guessed_15 ⟨Nat.zero_le _, Nat.zero_le _⟩ (fun H locs hP hS => ?_)
  refine lv_aload_n C.1 C.2.1 dX1_guessed_18 rfl (lv_at hl 0 rfl) ?_
  refine gX_8_guesses C hX1_guessed_8_X1 hK hP mX1_guessed_8_1 dX1_guessed_19 ?_
  refine lv_iload_n C.1 C.2.1 dX1_guessed_22 rfl (lv_at hl 1 rfl) ?_
  obtain ⟨⟨r7, u8⟩, hc9, h⟩ := bd_some h
  try dsimp only at h
  refine cg_i (As := [.int x1]) (rest := []) (AX_ge hJ) C hK hP hS (metX8_ask_4 l D cy ad st hJ _ x1 hc9) (cwV 1 C.2.2.2.2.2.1 gX1_guessed_X8_ask rfl rfl rfl (by decide +kernel) ⟨(Nat.le_of_ble_eq_true rfl), (Nat.le_of_ble_eq_true rfl)⟩) 4 8 rfl rfl rfl hl.1 rfl (Nat.le_of_ble_eq_true rfl) dX1_guessed_23 ⟨Nat.zero_le _, Nat.zero_le _⟩ (fun H locs hP hS => ?_)
  cases h
  exact rt_i C hP hS dX1_guessed_26
theorem metX1_guessed_8 (l : Launch) (D : va_G) (cy : Nat → ClassId) (ad st : Nat → Nat) (hJ : JX ad st) (sz : Nat) (x1 : Int32) (x2 : Int32) (x3 : Int32) {u : SX} {r : Int32} {u' : SX} (h : fX1_guessed_8 x1 x2 x3 u = some (r, u')) : Met l yX1_guessed wsX1_guessed rmX1_guessed_8 (va_Pc [.ref (ad 8), .int x1, .int x2, .int x3] (Px D [(cy 0, .int), (cy 1, .long), (cy 2, .boolean), (cy 3, .byte), (cy 4, .object "HissHorn$Text")] st (VX cy ad st) sz u)) (Qi D (VX cy ad st) (AX ad) sz r u') 0 0 (Ax (AX ad) sz) := by
  refine Met.ofW (cc := cX1_guessed) (maxL := 4) (ret := (some .int)) (by decide) rfl ?_
  intro p e s m args below meth c s₁ B hml hv
  obtain ⟨rfl, hsz, hP, hK⟩ := hv
  subst hsz
  have C : Cx RX1 cX1_guessed 4 (some .int) wsX1_guessed p s m _ meth c := ⟨B.exec, B.bytes, hml, B.returns, findClass_of_methodNamed B.named, atoms_spec (ws := wsX1_guessed) B.pre, B.notSynchronized⟩
  have hl := lv_entry ([.ref (ad 8), .int x1, .int x2, .int x3]) (n := 4) (Nat.le_of_ble_eq_true rfl)
  rw [lg_entry_eq]
  exact wX1_guessed_8 C hK hJ x1 x2 x3 h hP va_S.rf hl

theorem zdX1_suits_50 : (and (and (and (and (and (zk cX1_suits 50 (.iinc 3 1) 3) (zk cX1_suits 53 (.goto (-51)) 3)) (and (zk cX1_suits 2 (.iload_n 3) 1) (zk cX1_suits 3 (.bipush 40) 2))) (and (and (zk cX1_suits 5 (.if_icmp .gt 51) 3) (zk cX1_suits 56 (.iconst 1) 1)) (and (zk cX1_suits 57 (.ireturn) 1) (zk cX1_suits 8 (.aload_n 0) 1)))) (and (and (and (zk cX1_suits 9 (.getfield 15) 3) (zk cX1_suits 12 (.iload_n 3) 1)) (and (zk cX1_suits 13 (.iaload) 1) (zk cX1_suits 14 (.ifCond .le 36) 3))) (and (and (zk cX1_suits 17 (.aload_n 0) 1) (zk cX1_suits 18 (.iload_n 1) 1)) (and (zk cX1_suits 19 (.iload_n 3) 1) (zk cX1_suits 20 (.iload_n 2) 1))))) (and (and (and (and (zk cX1_suits 21 (.invokevirtual 98) 3) (zk cX1_suits 24 (.istore 4) 2)) (and (zk cX1_suits 26 (.iload 4) 2) (zk cX1_suits 28 (.aload_n 0) 1))) (and (and (zk cX1_suits 29 (.getfield 19) 3) (zk cX1_suits 32 (.iload_n 3) 1)) (and (zk cX1_suits 33 (.iaload) 1) (zk cX1_suits 34 (.if_icmp .lt 14) 3)))) (and (and (and (zk cX1_suits 48 (.iconst 0) 1) (zk cX1_suits 49 (.ireturn) 1)) (and (zk cX1_suits 37 (.iload 4) 2) (zk cX1_suits 39 (.aload_n 0) 1))) (and (and (zk cX1_suits 40 (.getfield 22) 3) (zk cX1_suits 43 (.iload_n 3) 1)) (and (zk cX1_suits 44 (.iaload) 1) (zk cX1_suits 45 (.if_icmp .le 5) 3)))))) = true := by decide +kernel
theorem dX1_suits_50 : decode cX1_suits 50 = .ok (.iinc 3 1, 3) := zk_of (zk_l (zk_l (zk_l (zk_l (zk_l zdX1_suits_50)))))
theorem dX1_suits_53 : decode cX1_suits 53 = .ok (.goto (-51), 3) := zk_of (zk_r (zk_l (zk_l (zk_l (zk_l zdX1_suits_50)))))
theorem dX1_suits_2 : decode cX1_suits 2 = .ok (.iload_n 3, 1) := zk_of (zk_l (zk_r (zk_l (zk_l (zk_l zdX1_suits_50)))))
theorem dX1_suits_3 : decode cX1_suits 3 = .ok (.bipush 40, 2) := zk_of (zk_r (zk_r (zk_l (zk_l (zk_l zdX1_suits_50)))))
theorem dX1_suits_5 : decode cX1_suits 5 = .ok (.if_icmp .gt 51, 3) := zk_of (zk_l (zk_l (zk_r (zk_l (zk_l zdX1_suits_50)))))
theorem dX1_suits_56 : decode cX1_suits 56 = .ok (.iconst 1, 1) := zk_of (zk_r (zk_l (zk_r (zk_l (zk_l zdX1_suits_50)))))
theorem dX1_suits_57 : decode cX1_suits 57 = .ok (.ireturn, 1) := zk_of (zk_l (zk_r (zk_r (zk_l (zk_l zdX1_suits_50)))))
theorem dX1_suits_8 : decode cX1_suits 8 = .ok (.aload_n 0, 1) := zk_of (zk_r (zk_r (zk_r (zk_l (zk_l zdX1_suits_50)))))
theorem dX1_suits_9 : decode cX1_suits 9 = .ok (.getfield 15, 3) := zk_of (zk_l (zk_l (zk_l (zk_r (zk_l zdX1_suits_50)))))
theorem dX1_suits_12 : decode cX1_suits 12 = .ok (.iload_n 3, 1) := zk_of (zk_r (zk_l (zk_l (zk_r (zk_l zdX1_suits_50)))))
theorem dX1_suits_13 : decode cX1_suits 13 = .ok (.iaload, 1) := zk_of (zk_l (zk_r (zk_l (zk_r (zk_l zdX1_suits_50)))))
theorem dX1_suits_14 : decode cX1_suits 14 = .ok (.ifCond .le 36, 3) := zk_of (zk_r (zk_r (zk_l (zk_r (zk_l zdX1_suits_50)))))
theorem dX1_suits_17 : decode cX1_suits 17 = .ok (.aload_n 0, 1) := zk_of (zk_l (zk_l (zk_r (zk_r (zk_l zdX1_suits_50)))))
theorem dX1_suits_18 : decode cX1_suits 18 = .ok (.iload_n 1, 1) := zk_of (zk_r (zk_l (zk_r (zk_r (zk_l zdX1_suits_50)))))
theorem dX1_suits_19 : decode cX1_suits 19 = .ok (.iload_n 3, 1) := zk_of (zk_l (zk_r (zk_r (zk_r (zk_l zdX1_suits_50)))))
theorem dX1_suits_20 : decode cX1_suits 20 = .ok (.iload_n 2, 1) := zk_of (zk_r (zk_r (zk_r (zk_r (zk_l zdX1_suits_50)))))
theorem dX1_suits_21 : decode cX1_suits 21 = .ok (.invokevirtual 98, 3) := zk_of (zk_l (zk_l (zk_l (zk_l (zk_r zdX1_suits_50)))))
theorem dX1_suits_24 : decode cX1_suits 24 = .ok (.istore 4, 2) := zk_of (zk_r (zk_l (zk_l (zk_l (zk_r zdX1_suits_50)))))
theorem dX1_suits_26 : decode cX1_suits 26 = .ok (.iload 4, 2) := zk_of (zk_l (zk_r (zk_l (zk_l (zk_r zdX1_suits_50)))))
theorem dX1_suits_28 : decode cX1_suits 28 = .ok (.aload_n 0, 1) := zk_of (zk_r (zk_r (zk_l (zk_l (zk_r zdX1_suits_50)))))
theorem dX1_suits_29 : decode cX1_suits 29 = .ok (.getfield 19, 3) := zk_of (zk_l (zk_l (zk_r (zk_l (zk_r zdX1_suits_50)))))
theorem dX1_suits_32 : decode cX1_suits 32 = .ok (.iload_n 3, 1) := zk_of (zk_r (zk_l (zk_r (zk_l (zk_r zdX1_suits_50)))))
theorem dX1_suits_33 : decode cX1_suits 33 = .ok (.iaload, 1) := zk_of (zk_l (zk_r (zk_r (zk_l (zk_r zdX1_suits_50)))))
theorem dX1_suits_34 : decode cX1_suits 34 = .ok (.if_icmp .lt 14, 3) := zk_of (zk_r (zk_r (zk_r (zk_l (zk_r zdX1_suits_50)))))
theorem dX1_suits_48 : decode cX1_suits 48 = .ok (.iconst 0, 1) := zk_of (zk_l (zk_l (zk_l (zk_r (zk_r zdX1_suits_50)))))
theorem dX1_suits_49 : decode cX1_suits 49 = .ok (.ireturn, 1) := zk_of (zk_r (zk_l (zk_l (zk_r (zk_r zdX1_suits_50)))))
theorem dX1_suits_37 : decode cX1_suits 37 = .ok (.iload 4, 2) := zk_of (zk_l (zk_r (zk_l (zk_r (zk_r zdX1_suits_50)))))
theorem dX1_suits_39 : decode cX1_suits 39 = .ok (.aload_n 0, 1) := zk_of (zk_r (zk_r (zk_l (zk_r (zk_r zdX1_suits_50)))))
theorem dX1_suits_40 : decode cX1_suits 40 = .ok (.getfield 22, 3) := zk_of (zk_l (zk_l (zk_r (zk_r (zk_r zdX1_suits_50)))))
theorem dX1_suits_43 : decode cX1_suits 43 = .ok (.iload_n 3, 1) := zk_of (zk_r (zk_l (zk_r (zk_r (zk_r zdX1_suits_50)))))
theorem dX1_suits_44 : decode cX1_suits 44 = .ok (.iaload, 1) := zk_of (zk_l (zk_r (zk_r (zk_r (zk_r zdX1_suits_50)))))
theorem dX1_suits_45 : decode cX1_suits 45 = .ok (.if_icmp .le 5, 3) := zk_of (zk_r (zk_r (zk_r (zk_r (zk_r zdX1_suits_50)))))
set_option maxRecDepth 20000 in
theorem ggX1_suits_X1_guessed : GoodIn wsX1_suits wsX1_guessed := ggi (fun w h => List.mem_cons_of_mem _ (List.mem_append_left _ (List.mem_append_left _ (List.mem_append_left _ (List.mem_append_right _ h))))) gs_X1_guessed
set_option maxRecDepth 20000 in
theorem gX1_suits_X1_guessed : GoodIn wsX1_suits (wsV RX1 98 RX1 yX1_guessed wsX1_guessed) := goodIn_app (goodIn_of _ (by decide +kernel)) ggX1_suits_X1_guessed
theorem zdX1_suits_0 : (and (zk cX1_suits 0 (.iconst 1) 1) (zk cX1_suits 1 (.istore_n 3) 1)) = true := by decide +kernel
theorem dX1_suits_0 : decode cX1_suits 0 = .ok (.iconst 1, 1) := zk_of (zk_l zdX1_suits_0)
theorem dX1_suits_1 : decode cX1_suits 1 = .ok (.istore_n 3, 1) := zk_of (zk_r zdX1_suits_0)
/-- HissHorn$Findings.suits(II)Z of cell 8 -/
def rmX1_suits_8 : Room := { frames := 5, cells := 0, slots := 0, locals := 110 }
theorem hX1_suits_8_X1 : ∀ w ∈ u_ws RX1 TX1 13, w ∈ wsX1_suits := fun w h => (List.mem_cons_of_mem _ (List.mem_append_left _ (List.mem_append_left _ (List.mem_append_right _ h))))
theorem mX1_suits_8_1 : Cond.fieldLink RX1 15 "HissHorn$Findings" "many" "[I" ∈ wsX1_suits := (List.mem_cons_of_mem _ (List.mem_append_left _ (List.mem_append_left _ (List.mem_append_left _ (List.mem_append_left _ (List.mem_of_getElem? (i := 4) rfl))))))
def GX1_suits_8_50 (k2 : Int32 → Int32 → Int32 → SX → Option (Int32 × SX)) (z1 : Int32) (z2 : Int32) (z3 : Int32) (u : SX) : Option (Int32 × SX) := (k2 z1 z2 (z3 + 1) u)
theorem mX1_suits_8_2 : Cond.fieldLink RX1 19 "HissHorn$Findings" "floor" "[I" ∈ wsX1_suits := (List.mem_cons_of_mem _ (List.mem_append_left _ (List.mem_append_left _ (List.mem_append_left _ (List.mem_append_left _ (List.mem_of_getElem? (i := 5) rfl))))))
theorem mX1_suits_8_3 : Cond.fieldLink RX1 22 "HissHorn$Findings" "ceiling" "[I" ∈ wsX1_suits := (List.mem_cons_of_mem _ (List.mem_append_left _ (List.mem_append_left _ (List.mem_append_left _ (List.mem_append_left _ (List.mem_of_getElem? (i := 6) rfl))))))
def LX1_suits_8_2  : Nat → Int32 → Int32 → Int32 → SX → Option (Int32 × SX)
  | 0, _, _, _, _ => none
  | n + 1, z1, z2, z3, u => (if 40 < z3 then (gd (isB 1) (some (1, u))) else (gd (inb z3 41) (if (u.2.1 43 z3.toNatClampNeg) ≤ 0 then (GX1_suits_8_50 (LX1_suits_8_2 n) z1 z2 z3 u) else ((fX1_guessed_8 z1 z3 z2 u).bind fun q => match q with | (r3, u4) => (gd (inb z3 41) (if r3 < (u4.2.1 44 z3.toNatClampNeg) then (gd (isB 0) (some (0, u4))) else (gd (inb z3 41) (if r3 ≤ (u4.2.1 45 z3.toNatClampNeg) then (GX1_suits_8_50 (LX1_suits_8_2 n) z1 z2 z3 u4) else (gd (isB 0) (some (0, u4)))))))))))
def fX1_suits_8 (x1 : Int32) (x2 : Int32) (u : SX) : Option (Int32 × SX) := (LX1_suits_8_2  5000 x1 x2 1 u)
set_option maxHeartbeats 4000000 in
set_option maxRecDepth 100000 in
theorem wGX1_suits_8_50 {p : Program} {l : Launch} {e : Env} {s : State} {m : MethodId} {args : Array Value} {below : List Frame} {meth : Method} {c : Code} {D : va_G} {cy : Nat → ClassId} {ad st : Nat → Nat} (C : Cx RX1 cX1_suits 5 (some .boolean) wsX1_suits p s m args meth c) (hK : Ky D [(cy 0, .int), (cy 1, .long), (cy 2, .boolean), (cy 3, .byte), (cy 4, .object "HissHorn$Text")] st s) (hJ : JX ad st) {r : Int32} {u' : SX} {k2 : Int32 → Int32 → Int32 → SX → Option (Int32 × SX)} (hk2 : ∀ (z1 : Int32) (z2 : Int32) (z3 : Int32) (u : SX) (H : Heap) (locs : List Loc) (ls : Array Slot), k2 z1 z2 z3 u = some (r, u') → va_P D vwCl (VX cy ad st u) H → va_S (Ax (AX ad) s.heap.size) s.heap H locs → lv_has ls 5 [(0, .ref (ad 8)), (1, .int z1), (2, .int z2), (3, .int z3)] → W p l e rmX1_suits_8 s m args below meth c H locs 0 0 (MQ below (Qi D (VX cy ad st) (AX ad) s.heap.size r u') args s 0 0 (Ax (AX ad) s.heap.size)) (F0 m 2 ls [])) (z1 : Int32) (z2 : Int32) (z3 : Int32) (u : SX) (H : Heap) (locs : List Loc) (ls : Array Slot) (h : GX1_suits_8_50 k2 z1 z2 z3 u = some (r, u')) (hP : va_P D vwCl (VX cy ad st u) H) (hS : va_S (Ax (AX ad) s.heap.size) s.heap H locs) (hl : lv_has ls 5 [(0, .ref (ad 8)), (1, .int z1), (2, .int z2), (3, .int z3)]) : W p l e rmX1_suits_8 s m args below meth c H locs 0 0 (MQ below (Qi D (VX cy ad st) (AX ad) s.heap.size r u') args s 0 0 (Ax (AX ad) s.heap.size)) (F0 m 50 ls []) := by
  unfold GX1_suits_8_50 at h
  refine lv_iinc (v := z3 + 1) (lv' := [(3, .int (z3 + 1)), (0, .ref (ad 8)), (1, .int z1), (2, .int z2)]) C.1 C.2.1 dX1_suits_50 hl (k := 3) rfl rfl (by decide) rfl (fun ls hl => ?_)
  replace hl := lv_sub (l' := [(0, .ref (ad 8)), (1, .int z1), (2, .int z2), (3, .int (z3 + 1))]) hl [1, 2, 3, 0] rfl
  refine lv_goto (tgt := 2) C.1 C.2.1 dX1_suits_53 (by decide) ?_
  exact hk2 _ _ _ _ _ _ _ h hP hS hl
set_option maxHeartbeats 4000000 in
set_option maxRecDepth 100000 in
theorem wLX1_suits_8_2 {p : Program} {l : Launch} {e : Env} {s : State} {m : MethodId} {args : Array Value} {below : List Frame} {meth : Method} {c : Code} {D : va_G} {cy : Nat → ClassId} {ad st : Nat → Nat} (C : Cx RX1 cX1_suits 5 (some .boolean) wsX1_suits p s m args meth c) (hK : Ky D [(cy 0, .int), (cy 1, .long), (cy 2, .boolean), (cy 3, .byte), (cy 4, .object "HissHorn$Text")] st s) (hJ : JX ad st) {r : Int32} {u' : SX}   : ∀ (n : Nat) (z1 : Int32) (z2 : Int32) (z3 : Int32) (u : SX) (H : Heap) (locs : List Loc) (ls : Array Slot), LX1_suits_8_2  n z1 z2 z3 u = some (r, u') → va_P D vwCl (VX cy ad st u) H → va_S (Ax (AX ad) s.heap.size) s.heap H locs → lv_has ls 5 [(0, .ref (ad 8)), (1, .int z1), (2, .int z2), (3, .int z3)] → W p l e rmX1_suits_8 s m args below meth c H locs 0 0 (MQ below (Qi D (VX cy ad st) (AX ad) s.heap.size r u') args s 0 0 (Ax (AX ad) s.heap.size)) (F0 m 2 ls []) := by
  intro n
  induction n with
  | zero =>
    intro z1 z2 z3 u H locs ls h
    exact absurd h (by intro q; cases q)
  | succ n ih =>
    intro z1 z2 z3 u H locs ls h hP hS hl
    rw [LX1_suits_8_2] at h
    refine lv_iload_n C.1 C.2.1 dX1_suits_2 rfl (lv_at hl 3 rfl) ?_
    refine lv_bipush (v := 40) C.1 C.2.1 dX1_suits_3 (by decide) ?_
    refine lv_icmp_gt (tgt := 56) C.1 C.2.1 dX1_suits_5 (by decide) (fun c5 => ?_) (fun c5 => ?_)
    · rw [if_pos c5] at h
      refine lv_iconst (v := 1) C.1 C.2.1 dX1_suits_56 (by decide) ?_
      obtain ⟨hg1, h⟩ := gd_some h
      cases h
      exact rt_z hg1 C hP hS dX1_suits_57
    · rw [if_neg c5] at h
      refine lv_aload_n C.1 C.2.1 dX1_suits_8 rfl (lv_at hl 0 rfl) ?_
      refine gX_8_many C hX1_suits_8_X1 hK hP mX1_suits_8_1 dX1_suits_9 ?_
      refine lv_iload_n C.1 C.2.1 dX1_suits_12 rfl (lv_at hl 3 rfl) ?_
      obtain ⟨hg2, h⟩ := gd_some h
      refine lX_43 C hK hP hg2 dX1_suits_13 ?_
      refine lv_if_le (tgt := 50) C.1 C.2.1 dX1_suits_14 (by decide) (fun c14 => ?_) (fun c14 => ?_)
      · rw [if_pos c14] at h
        exact wGX1_suits_8_50 C hK hJ ih _ _ _ _ _ _ _ h hP hS hl
      · rw [if_neg c14] at h
        refine lv_aload_n C.1 C.2.1 dX1_suits_17 rfl (lv_at hl 0 rfl) ?_
        refine lv_iload_n C.1 C.2.1 dX1_suits_18 rfl (lv_at hl 1 rfl) ?_
        refine lv_iload_n C.1 C.2.1 dX1_suits_19 rfl (lv_at hl 3 rfl) ?_
        refine lv_iload_n C.1 C.2.1 dX1_suits_20 rfl (lv_at hl 2 rfl) ?_
        obtain ⟨⟨r3, u4⟩, hc5, h⟩ := bd_some h
        try dsimp only at h
        refine cg_i (As := [.int z1, .int z3, .int z2]) (rest := []) (AX_ge hJ) C hK hP hS (metX1_guessed_8 l D cy ad st hJ _ z1 z3 z2 hc5) (cwV 3 C.2.2.2.2.2.1 gX1_suits_X1_guessed rfl rfl rfl (by decide +kernel) ⟨(Nat.le_of_ble_eq_true rfl), (Nat.le_of_ble_eq_true rfl)⟩) 8 1 rfl rfl rfl hl.1 rfl (Nat.le_of_ble_eq_true rfl) dX1_suits_21 ⟨Nat.zero_le _, Nat.zero_le _⟩ (fun H locs hP hS => ?_)
        refine lv_istore (lv' := [(4, .int r3), (0, .ref (ad 8)), (1, .int z1), (2, .int z2), (3, .int z3)]) C.1 C.2.1 dX1_suits_24 hl (by decide) rfl (fun ls hl => ?_)
        replace hl := lv_sub (l' := [(0, .ref (ad 8)), (1, .int z1), (2, .int z2), (3, .int z3), (4, .int r3)]) hl [1, 2, 3, 4, 0] rfl
        refine lv_iload C.1 C.2.1 dX1_suits_26 (lv_at hl 4 rfl) ?_
        refine lv_aload_n C.1 C.2.1 dX1_suits_28 rfl (lv_at hl 0 rfl) ?_
        refine gX_8_floor C hX1_suits_8_X1 hK hP mX1_suits_8_2 dX1_suits_29 ?_
        refine lv_iload_n C.1 C.2.1 dX1_suits_32 rfl (lv_at hl 3 rfl) ?_
        obtain ⟨hg6, h⟩ := gd_some h
        refine lX_44 C hK hP hg6 dX1_suits_33 ?_
        refine lv_icmp_lt (tgt := 48) C.1 C.2.1 dX1_suits_34 (by decide) (fun c34 => ?_) (fun c34 => ?_)
        · rw [if_pos c34] at h
          refine lv_iconst (v := 0) C.1 C.2.1 dX1_suits_48 (by decide) ?_
          obtain ⟨hg7, h⟩ := gd_some h
          cases h
          exact rt_z hg7 C hP hS dX1_suits_49
        · rw [if_neg c34] at h
          refine lv_iload C.1 C.2.1 dX1_suits_37 (lv_at hl 4 rfl) ?_
          refine lv_aload_n C.1 C.2.1 dX1_suits_39 rfl (lv_at hl 0 rfl) ?_
          refine gX_8_ceiling C hX1_suits_8_X1 hK hP mX1_suits_8_3 dX1_suits_40 ?_
          refine lv_iload_n C.1 C.2.1 dX1_suits_43 rfl (lv_at hl 3 rfl) ?_
          obtain ⟨hg8, h⟩ := gd_some h
          refine lX_45 C hK hP hg8 dX1_suits_44 ?_
          refine lv_icmp_le (tgt := 50) C.1 C.2.1 dX1_suits_45 (by decide) (fun c45 => ?_) (fun c45 => ?_)
          · rw [if_pos c45] at h
            exact wGX1_suits_8_50 C hK hJ ih _ _ _ _ _ _ _ h hP hS (lv_sub hl [0, 1, 2, 3] rfl)
          · rw [if_neg c45] at h
            refine lv_iconst (v := 0) C.1 C.2.1 dX1_suits_48 (by decide) ?_
            obtain ⟨hg9, h⟩ := gd_some h
            cases h
            exact rt_z hg9 C hP hS dX1_suits_49
set_option maxHeartbeats 4000000 in
set_option maxRecDepth 100000 in
theorem wX1_suits_8 {p : Program} {l : Launch} {e : Env} {s : State} {m : MethodId} {args : Array Value} {below : List Frame} {meth : Method} {c : Code} {D : va_G} {cy : Nat → ClassId} {ad st : Nat → Nat} (C : Cx RX1 cX1_suits 5 (some .boolean) wsX1_suits p s m args meth c) (hK : Ky D [(cy 0, .int), (cy 1, .long), (cy 2, .boolean), (cy 3, .byte), (cy 4, .object "HissHorn$Text")] st s) (hJ : JX ad st) (x1 : Int32) (x2 : Int32) {u : SX} {r : Int32} {u' : SX} {H : Heap} {locs : List Loc} {ls : Array Slot} (h : fX1_suits_8 x1 x2 u = some (r, u')) (hP : va_P D vwCl (VX cy ad st u) H) (hS : va_S (Ax (AX ad) s.heap.size) s.heap H locs) (hl : lv_has ls 5 [(0, .ref (ad 8)), (1, .int x1), (2, .int x2)]) : W p l e rmX1_suits_8 s m args below meth c H locs 0 0 (MQ below (Qi D (VX cy ad st) (AX ad) s.heap.size r u') args s 0 0 (Ax (AX ad) s.heap.size)) (F0 m 0 ls []) := by
  unfold fX1_suits_8 at h
  refine lv_iconst (v := 1) C.1 C.2.1 dX1_suits_0 (by decide) ?_
  refine lv_istore_n (lv' := [(3, .int 1), (0, .ref (ad 8)), (1, .int x1), (2, .int x2)]) C.1 C.2.1 dX1_suits_1 rfl hl (by decide) rfl (fun ls hl => ?_)
  replace hl := lv_sub (l' := [(0, .ref (ad 8)), (1, .int x1), (2, .int x2), (3, .int 1)]) hl [1, 2, 3, 0] rfl
  exact wLX1_suits_8_2 C hK hJ  5000 _ _ _ _ _ _ _ h hP hS hl
theorem metX1_suits_8 (l : Launch) (D : va_G) (cy : Nat → ClassId) (ad st : Nat → Nat) (hJ : JX ad st) (sz : Nat) (x1 : Int32) (x2 : Int32) {u : SX} {r : Int32} {u' : SX} (h : fX1_suits_8 x1 x2 u = some (r, u')) : Met l yX1_suits wsX1_suits rmX1_suits_8 (va_Pc [.ref (ad 8), .int x1, .int x2] (Px D [(cy 0, .int), (cy 1, .long), (cy 2, .boolean), (cy 3, .byte), (cy 4, .object "HissHorn$Text")] st (VX cy ad st) sz u)) (Qi D (VX cy ad st) (AX ad) sz r u') 0 0 (Ax (AX ad) sz) := by
  refine Met.ofW (cc := cX1_suits) (maxL := 5) (ret := (some .boolean)) (by decide) rfl ?_
  intro p e s m args below meth c s₁ B hml hv
  obtain ⟨rfl, hsz, hP, hK⟩ := hv
  subst hsz
  have C : Cx RX1 cX1_suits 5 (some .boolean) wsX1_suits p s m _ meth c := ⟨B.exec, B.bytes, hml, B.returns, findClass_of_methodNamed B.named, atoms_spec (ws := wsX1_suits) B.pre, B.notSynchronized⟩
  have hl := lv_entry ([.ref (ad 8), .int x1, .int x2]) (n := 5) (Nat.le_of_ble_eq_true rfl)
  rw [lg_entry_eq]
  exact wX1_suits_8 C hK hJ x1 x2 h hP va_S.rf hl

theorem zdX1_fit_71 : (and (and (and (and (and (zk cX1_fit 71 (.iinc 2 1) 3) (zk cX1_fit 74 (.goto (-53)) 3)) (and (zk cX1_fit 53 (.putfield 82) 3) (zk cX1_fit 56 (.aload_n 0) 1))) (and (and (zk cX1_fit 57 (.iload_n 2) 1) (zk cX1_fit 58 (.putfield 85) 3)) (and (zk cX1_fit 61 (.aload_n 0) 1) (zk cX1_fit 62 (.dup) 1)))) (and (and (and (zk cX1_fit 63 (.getfield 88) 3) (zk cX1_fit 66 (.iconst 1) 1)) (and (zk cX1_fit 67 (.iadd) 1) (zk cX1_fit 68 (.putfield 88) 3))) (and (and (zk cX1_fit 21 (.iload_n 2) 1) (zk cX1_fit 22 (.bipush 60) 2)) (and (zk cX1_fit 24 (.if_icmp .gt 53) 3) (zk cX1_fit 77 (.return_) 1))))) (and (and (and (and (zk cX1_fit 27 (.aload_n 0) 1) (zk cX1_fit 28 (.iload_n 1) 1)) (and (zk cX1_fit 29 (.iload_n 2) 1) (zk cX1_fit 30 (.invokevirtual 94) 3))) (and (and (zk cX1_fit 33 (.ifCond .eq 38) 3) (zk cX1_fit 36 (.aload_n 0) 1)) (and (zk cX1_fit 37 (.aload_n 0) 1) (zk cX1_fit 38 (.getfield 82) 3)))) (and (and (and (zk cX1_fit 41 (.iconst (-1)) 1) (zk cX1_fit 42 (.if_icmp .ne 7) 3)) (and (zk cX1_fit 49 (.aload_n 0) 1) (zk cX1_fit 50 (.getfield 82) 3))) (and (and (zk cX1_fit 45 (.iload_n 2) 1) (zk cX1_fit 46 (.goto 7) 3)) (and (zk cX1_fit 0 (.aload_n 0) 1) (zk cX1_fit 1 (.iconst (-1)) 1)))))) = true := by decide +kernel
theorem dX1_fit_71 : decode cX1_fit 71 = .ok (.iinc 2 1, 3) := zk_of (zk_l (zk_l (zk_l (zk_l (zk_l zdX1_fit_71)))))
theorem dX1_fit_74 : decode cX1_fit 74 = .ok (.goto (-53), 3) := zk_of (zk_r (zk_l (zk_l (zk_l (zk_l zdX1_fit_71)))))
theorem dX1_fit_53 : decode cX1_fit 53 = .ok (.putfield 82, 3) := zk_of (zk_l (zk_r (zk_l (zk_l (zk_l zdX1_fit_71)))))
theorem dX1_fit_56 : decode cX1_fit 56 = .ok (.aload_n 0, 1) := zk_of (zk_r (zk_r (zk_l (zk_l (zk_l zdX1_fit_71)))))
theorem dX1_fit_57 : decode cX1_fit 57 = .ok (.iload_n 2, 1) := zk_of (zk_l (zk_l (zk_r (zk_l (zk_l zdX1_fit_71)))))
theorem dX1_fit_58 : decode cX1_fit 58 = .ok (.putfield 85, 3) := zk_of (zk_r (zk_l (zk_r (zk_l (zk_l zdX1_fit_71)))))
theorem dX1_fit_61 : decode cX1_fit 61 = .ok (.aload_n 0, 1) := zk_of (zk_l (zk_r (zk_r (zk_l (zk_l zdX1_fit_71)))))
theorem dX1_fit_62 : decode cX1_fit 62 = .ok (.dup, 1) := zk_of (zk_r (zk_r (zk_r (zk_l (zk_l zdX1_fit_71)))))
theorem dX1_fit_63 : decode cX1_fit 63 = .ok (.getfield 88, 3) := zk_of (zk_l (zk_l (zk_l (zk_r (zk_l zdX1_fit_71)))))
theorem dX1_fit_66 : decode cX1_fit 66 = .ok (.iconst 1, 1) := zk_of (zk_r (zk_l (zk_l (zk_r (zk_l zdX1_fit_71)))))
theorem dX1_fit_67 : decode cX1_fit 67 = .ok (.iadd, 1) := zk_of (zk_l (zk_r (zk_l (zk_r (zk_l zdX1_fit_71)))))
theorem dX1_fit_68 : decode cX1_fit 68 = .ok (.putfield 88, 3) := zk_of (zk_r (zk_r (zk_l (zk_r (zk_l zdX1_fit_71)))))
theorem dX1_fit_21 : decode cX1_fit 21 = .ok (.iload_n 2, 1) := zk_of (zk_l (zk_l (zk_r (zk_r (zk_l zdX1_fit_71)))))
theorem dX1_fit_22 : decode cX1_fit 22 = .ok (.bipush 60, 2) := zk_of (zk_r (zk_l (zk_r (zk_r (zk_l zdX1_fit_71)))))
theorem dX1_fit_24 : decode cX1_fit 24 = .ok (.if_icmp .gt 53, 3) := zk_of (zk_l (zk_r (zk_r (zk_r (zk_l zdX1_fit_71)))))
theorem dX1_fit_77 : decode cX1_fit 77 = .ok (.return_, 1) := zk_of (zk_r (zk_r (zk_r (zk_r (zk_l zdX1_fit_71)))))
theorem dX1_fit_27 : decode cX1_fit 27 = .ok (.aload_n 0, 1) := zk_of (zk_l (zk_l (zk_l (zk_l (zk_r zdX1_fit_71)))))
theorem dX1_fit_28 : decode cX1_fit 28 = .ok (.iload_n 1, 1) := zk_of (zk_r (zk_l (zk_l (zk_l (zk_r zdX1_fit_71)))))
theorem dX1_fit_29 : decode cX1_fit 29 = .ok (.iload_n 2, 1) := zk_of (zk_l (zk_r (zk_l (zk_l (zk_r zdX1_fit_71)))))
theorem dX1_fit_30 : decode cX1_fit 30 = .ok (.invokevirtual 94, 3) := zk_of (zk_r (zk_r (zk_l (zk_l (zk_r zdX1_fit_71)))))
theorem dX1_fit_33 : decode cX1_fit 33 = .ok (.ifCond .eq 38, 3) := zk_of (zk_l (zk_l (zk_r (zk_l (zk_r zdX1_fit_71)))))
theorem dX1_fit_36 : decode cX1_fit 36 = .ok (.aload_n 0, 1) := zk_of (zk_r (zk_l (zk_r (zk_l (zk_r zdX1_fit_71)))))
theorem dX1_fit_37 : decode cX1_fit 37 = .ok (.aload_n 0, 1) := zk_of (zk_l (zk_r (zk_r (zk_l (zk_r zdX1_fit_71)))))
theorem dX1_fit_38 : decode cX1_fit 38 = .ok (.getfield 82, 3) := zk_of (zk_r (zk_r (zk_r (zk_l (zk_r zdX1_fit_71)))))
theorem dX1_fit_41 : decode cX1_fit 41 = .ok (.iconst (-1), 1) := zk_of (zk_l (zk_l (zk_l (zk_r (zk_r zdX1_fit_71)))))
theorem dX1_fit_42 : decode cX1_fit 42 = .ok (.if_icmp .ne 7, 3) := zk_of (zk_r (zk_l (zk_l (zk_r (zk_r zdX1_fit_71)))))
theorem dX1_fit_49 : decode cX1_fit 49 = .ok (.aload_n 0, 1) := zk_of (zk_l (zk_r (zk_l (zk_r (zk_r zdX1_fit_71)))))
theorem dX1_fit_50 : decode cX1_fit 50 = .ok (.getfield 82, 3) := zk_of (zk_r (zk_r (zk_l (zk_r (zk_r zdX1_fit_71)))))
theorem dX1_fit_45 : decode cX1_fit 45 = .ok (.iload_n 2, 1) := zk_of (zk_l (zk_l (zk_r (zk_r (zk_r zdX1_fit_71)))))
theorem dX1_fit_46 : decode cX1_fit 46 = .ok (.goto 7, 3) := zk_of (zk_r (zk_l (zk_r (zk_r (zk_r zdX1_fit_71)))))
theorem dX1_fit_0 : decode cX1_fit 0 = .ok (.aload_n 0, 1) := zk_of (zk_l (zk_r (zk_r (zk_r (zk_r zdX1_fit_71)))))
theorem dX1_fit_1 : decode cX1_fit 1 = .ok (.iconst (-1), 1) := zk_of (zk_r (zk_r (zk_r (zk_r (zk_r zdX1_fit_71)))))
set_option maxRecDepth 20000 in
theorem ggX1_fit_X1_suits : GoodIn wsX1_fit wsX1_suits := ggi (fun w h => List.mem_cons_of_mem _ (List.mem_append_left _ (List.mem_append_left _ (List.mem_append_left _ (List.mem_append_left _ (List.mem_append_right _ (List.mem_append_left _ h))))))) gs_X1_suits
set_option maxRecDepth 20000 in
theorem gX1_fit_X1_suits : GoodIn wsX1_fit (wsV RX1 94 RX1 yX1_suits wsX1_suits) := goodIn_app (goodIn_of _ (by decide +kernel)) ggX1_fit_X1_suits
theorem zdX1_fit_2 : (and (and (and (and (zk cX1_fit 2 (.putfield 82) 3) (zk cX1_fit 5 (.aload_n 0) 1)) (zk cX1_fit 6 (.iconst (-1)) 1)) (and (and (zk cX1_fit 7 (.putfield 85) 3) (zk cX1_fit 10 (.aload_n 0) 1)) (zk cX1_fit 11 (.iconst 0) 1))) (and (and (and (zk cX1_fit 12 (.putfield 88) 3) (zk cX1_fit 15 (.aload_n 0) 1)) (zk cX1_fit 16 (.invokevirtual 91) 3)) (and (zk cX1_fit 19 (.iconst 0) 1) (zk cX1_fit 20 (.istore_n 2) 1)))) = true := by decide +kernel
theorem dX1_fit_2 : decode cX1_fit 2 = .ok (.putfield 82, 3) := zk_of (zk_l (zk_l (zk_l (zk_l zdX1_fit_2))))
theorem dX1_fit_5 : decode cX1_fit 5 = .ok (.aload_n 0, 1) := zk_of (zk_r (zk_l (zk_l (zk_l zdX1_fit_2))))
theorem dX1_fit_6 : decode cX1_fit 6 = .ok (.iconst (-1), 1) := zk_of (zk_r (zk_l (zk_l zdX1_fit_2)))
theorem dX1_fit_7 : decode cX1_fit 7 = .ok (.putfield 85, 3) := zk_of (zk_l (zk_l (zk_r (zk_l zdX1_fit_2))))
theorem dX1_fit_10 : decode cX1_fit 10 = .ok (.aload_n 0, 1) := zk_of (zk_r (zk_l (zk_r (zk_l zdX1_fit_2))))
theorem dX1_fit_11 : decode cX1_fit 11 = .ok (.iconst 0, 1) := zk_of (zk_r (zk_r (zk_l zdX1_fit_2)))
theorem dX1_fit_12 : decode cX1_fit 12 = .ok (.putfield 88, 3) := zk_of (zk_l (zk_l (zk_l (zk_r zdX1_fit_2))))
theorem dX1_fit_15 : decode cX1_fit 15 = .ok (.aload_n 0, 1) := zk_of (zk_r (zk_l (zk_l (zk_r zdX1_fit_2))))
theorem dX1_fit_16 : decode cX1_fit 16 = .ok (.invokevirtual 91, 3) := zk_of (zk_r (zk_l (zk_r zdX1_fit_2)))
theorem dX1_fit_19 : decode cX1_fit 19 = .ok (.iconst 0, 1) := zk_of (zk_l (zk_r (zk_r zdX1_fit_2)))
theorem dX1_fit_20 : decode cX1_fit 20 = .ok (.istore_n 2, 1) := zk_of (zk_r (zk_r (zk_r zdX1_fit_2)))
set_option maxRecDepth 20000 in
theorem ggX1_fit_X1_boundWaves : GoodIn wsX1_fit wsX1_boundWaves := ggi (fun w h => List.mem_cons_of_mem _ (List.mem_append_left _ (List.mem_append_left _ (List.mem_append_left _ (List.mem_append_left _ (List.mem_append_right _ (List.mem_append_right _ h))))))) gs_X1_boundWaves
set_option maxRecDepth 20000 in
theorem gX1_fit_X1_boundWaves : GoodIn wsX1_fit (wsV RX1 91 RX1 yX1_boundWaves wsX1_boundWaves) := goodIn_app (goodIn_of _ (by decide +kernel)) ggX1_fit_X1_boundWaves
/-- HissHorn$Findings.fit(I)V of cell 8 -/
def rmX1_fit_8 : Room := { frames := 6, cells := 0, slots := 0, locals := 134 }
theorem hX1_fit_8_X1 : ∀ w ∈ u_ws RX1 TX1 13, w ∈ wsX1_fit := fun w h => (List.mem_cons_of_mem _ (List.mem_append_left _ (List.mem_append_left _ (List.mem_append_left _ (List.mem_append_right _ h)))))
theorem mX1_fit_8_1 : Cond.fieldLink RX1 82 "HissHorn$Findings" "leastFit" "I" ∈ wsX1_fit := (List.mem_cons_of_mem _ (List.mem_append_left _ (List.mem_append_left _ (List.mem_append_left _ (List.mem_append_left _ (List.mem_append_left _ (List.mem_of_getElem? (i := 7) rfl)))))))
theorem mX1_fit_8_2 : Cond.fieldLink RX1 85 "HissHorn$Findings" "greatestFit" "I" ∈ wsX1_fit := (List.mem_cons_of_mem _ (List.mem_append_left _ (List.mem_append_left _ (List.mem_append_left _ (List.mem_append_left _ (List.mem_append_left _ (List.mem_of_getElem? (i := 8) rfl)))))))
theorem mX1_fit_8_3 : Cond.fieldLink RX1 88 "HissHorn$Findings" "fitting" "I" ∈ wsX1_fit := (List.mem_cons_of_mem _ (List.mem_append_left _ (List.mem_append_left _ (List.mem_append_left _ (List.mem_append_left _ (List.mem_append_left _ (List.mem_of_getElem? (i := 9) rfl)))))))
def GX1_fit_8_71 (k21 : Int32 → Int32 → SX → Option (Int32 × SX)) (z1 : Int32) (z2 : Int32) (u : SX) : Option (Int32 × SX) := (k21 z1 (z2 + 1) u)
def GX1_fit_8_53 (k21 : Int32 → Int32 → SX → Option (Int32 × SX)) (z1 : Int32) (z2 : Int32) (y0 : Int32) (u : SX) : Option (Int32 × SX) := (lt (sI u 19 y0) fun u13 => (lt (sI u13 20 z2) fun u15 => (lt (sI u15 21 ((u15.1 21) + 1)) fun u17 => (GX1_fit_8_71 k21 z1 z2 u17))))
def LX1_fit_8_21  : Nat → Int32 → Int32 → SX → Option (Int32 × SX)
  | 0, _, _, _ => none
  | n + 1, z1, z2, u => (if 60 < z2 then (some (0, u)) else ((fX1_suits_8 z1 z2 u).bind fun q => match q with | (r10, u11) => (if r10 = 0 then (GX1_fit_8_71 (LX1_fit_8_21 n) z1 z2 u11) else (if (u11.1 19) = (-1) then (GX1_fit_8_53 (LX1_fit_8_21 n) z1 z2 z2 u11) else (GX1_fit_8_53 (LX1_fit_8_21 n) z1 z2 (u11.1 19) u11)))))
def fX1_fit_8 (x1 : Int32) (u : SX) : Option (Int32 × SX) := (lt (sI u 19 (-1)) fun u1 => (lt (sI u1 20 (-1)) fun u3 => (lt (sI u3 21 0) fun u5 => ((fX1_boundWaves_8  u5).bind fun q => match q with | (r7, u8) => (LX1_fit_8_21  5000 x1 0 u8)))))
set_option maxHeartbeats 4000000 in
set_option maxRecDepth 100000 in
theorem wGX1_fit_8_71 {p : Program} {l : Launch} {e : Env} {s : State} {m : MethodId} {args : Array Value} {below : List Frame} {meth : Method} {c : Code} {D : va_G} {cy : Nat → ClassId} {ad st : Nat → Nat} (C : Cx RX1 cX1_fit 3 none wsX1_fit p s m args meth c) (hK : Ky D [(cy 0, .int), (cy 1, .long), (cy 2, .boolean), (cy 3, .byte), (cy 4, .object "HissHorn$Text")] st s) (hJ : JX ad st) {r : Int32} {u' : SX} {k21 : Int32 → Int32 → SX → Option (Int32 × SX)} (hk21 : ∀ (z1 : Int32) (z2 : Int32) (u : SX) (H : Heap) (locs : List Loc) (ls : Array Slot), k21 z1 z2 u = some (r, u') → va_P D vwCl (VX cy ad st u) H → va_S (Ax (AX ad) s.heap.size) s.heap H locs → lv_has ls 3 [(0, .ref (ad 8)), (1, .int z1), (2, .int z2)] → W p l e rmX1_fit_8 s m args below meth c H locs 0 0 (MQ below (Qv D (VX cy ad st) (AX ad) s.heap.size r u') args s 0 0 (Ax (AX ad) s.heap.size)) (F0 m 21 ls [])) (z1 : Int32) (z2 : Int32) (u : SX) (H : Heap) (locs : List Loc) (ls : Array Slot) (h : GX1_fit_8_71 k21 z1 z2 u = some (r, u')) (hP : va_P D vwCl (VX cy ad st u) H) (hS : va_S (Ax (AX ad) s.heap.size) s.heap H locs) (hl : lv_has ls 3 [(0, .ref (ad 8)), (1, .int z1), (2, .int z2)]) : W p l e rmX1_fit_8 s m args below meth c H locs 0 0 (MQ below (Qv D (VX cy ad st) (AX ad) s.heap.size r u') args s 0 0 (Ax (AX ad) s.heap.size)) (F0 m 71 ls []) := by
  unfold GX1_fit_8_71 at h
  refine lv_iinc (v := z2 + 1) (lv' := [(2, .int (z2 + 1)), (0, .ref (ad 8)), (1, .int z1)]) C.1 C.2.1 dX1_fit_71 hl (k := 2) rfl rfl (by decide) rfl (fun ls hl => ?_)
  replace hl := lv_sub (l' := [(0, .ref (ad 8)), (1, .int z1), (2, .int (z2 + 1))]) hl [1, 2, 0] rfl
  refine lv_goto (tgt := 21) C.1 C.2.1 dX1_fit_74 (by decide) ?_
  exact hk21 _ _ _ _ _ _ h hP hS hl
set_option maxHeartbeats 4000000 in
set_option maxRecDepth 100000 in
theorem wGX1_fit_8_53 {p : Program} {l : Launch} {e : Env} {s : State} {m : MethodId} {args : Array Value} {below : List Frame} {meth : Method} {c : Code} {D : va_G} {cy : Nat → ClassId} {ad st : Nat → Nat} (C : Cx RX1 cX1_fit 3 none wsX1_fit p s m args meth c) (hK : Ky D [(cy 0, .int), (cy 1, .long), (cy 2, .boolean), (cy 3, .byte), (cy 4, .object "HissHorn$Text")] st s) (hJ : JX ad st) {r : Int32} {u' : SX} {k21 : Int32 → Int32 → SX → Option (Int32 × SX)} (hk21 : ∀ (z1 : Int32) (z2 : Int32) (u : SX) (H : Heap) (locs : List Loc) (ls : Array Slot), k21 z1 z2 u = some (r, u') → va_P D vwCl (VX cy ad st u) H → va_S (Ax (AX ad) s.heap.size) s.heap H locs → lv_has ls 3 [(0, .ref (ad 8)), (1, .int z1), (2, .int z2)] → W p l e rmX1_fit_8 s m args below meth c H locs 0 0 (MQ below (Qv D (VX cy ad st) (AX ad) s.heap.size r u') args s 0 0 (Ax (AX ad) s.heap.size)) (F0 m 21 ls [])) (z1 : Int32) (z2 : Int32) (y0 : Int32) (u : SX) (H : Heap) (locs : List Loc) (ls : Array Slot) (h : GX1_fit_8_53 k21 z1 z2 y0 u = some (r, u')) (hP : va_P D vwCl (VX cy ad st u) H) (hS : va_S (Ax (AX ad) s.heap.size) s.heap H locs) (hl : lv_has ls 3 [(0, .ref (ad 8)), (1, .int z1), (2, .int z2)]) : W p l e rmX1_fit_8 s m args below meth c H locs 0 0 (MQ below (Qv D (VX cy ad st) (AX ad) s.heap.size r u') args s 0 0 (Ax (AX ad) s.heap.size)) (F0 m 53 ls [.int y0, .ref (ad 8)]) := by
  unfold GX1_fit_8_53 at h
  refine pX_8_leastFit C hX1_fit_8_X1 hK hP hJ hS mX1_fit_8_1 dX1_fit_53 (fun H locs hP hS => ?_)
  obtain ⟨u13, hu14, h⟩ := lt_some h
  rw [← hu14] at hP
  refine lv_aload_n C.1 C.2.1 dX1_fit_56 rfl (lv_at hl 0 rfl) ?_
  refine lv_iload_n C.1 C.2.1 dX1_fit_57 rfl (lv_at hl 2 rfl) ?_
  refine pX_8_greatestFit C hX1_fit_8_X1 hK hP hJ hS mX1_fit_8_2 dX1_fit_58 (fun H locs hP hS => ?_)
  obtain ⟨u15, hu16, h⟩ := lt_some h
  rw [← hu16] at hP
  refine lv_aload_n C.1 C.2.1 dX1_fit_61 rfl (lv_at hl 0 rfl) ?_
  refine lv_dup C.1 C.2.1 dX1_fit_62 rfl ?_
  refine gX_8_fitting C hX1_fit_8_X1 hK hP mX1_fit_8_3 dX1_fit_63 ?_
  refine lv_iconst (v := 1) C.1 C.2.1 dX1_fit_66 (by decide) ?_
  refine lv_iadd C.1 C.2.1 dX1_fit_67 ?_
  refine pX_8_fitting C hX1_fit_8_X1 hK hP hJ hS mX1_fit_8_3 dX1_fit_68 (fun H locs hP hS => ?_)
  obtain ⟨u17, hu18, h⟩ := lt_some h
  rw [← hu18] at hP
  exact wGX1_fit_8_71 C hK hJ hk21 _ _ _ _ _ _ h hP hS hl
set_option maxHeartbeats 4000000 in
set_option maxRecDepth 100000 in
theorem wLX1_fit_8_21 {p : Program} {l : Launch} {e : Env} {s : State} {m : MethodId} {args : Array Value} {below : List Frame} {meth : Method} {c : Code} {D : va_G} {cy : Nat → ClassId} {ad st : Nat → Nat} (C : Cx RX1 cX1_fit 3 none wsX1_fit p s m args meth c) (hK : Ky D [(cy 0, .int), (cy 1, .long), (cy 2, .boolean), (cy 3, .byte), (cy 4, .object "HissHorn$Text")] st s) (hJ : JX ad st) {r : Int32} {u' : SX}   : ∀ (n : Nat) (z1 : Int32) (z2 : Int32) (u : SX) (H : Heap) (locs : List Loc) (ls : Array Slot), LX1_fit_8_21  n z1 z2 u = some (r, u') → va_P D vwCl (VX cy ad st u) H → va_S (Ax (AX ad) s.heap.size) s.heap H locs → lv_has ls 3 [(0, .ref (ad 8)), (1, .int z1), (2, .int z2)] → W p l e rmX1_fit_8 s m args below meth c H locs 0 0 (MQ below (Qv D (VX cy ad st) (AX ad) s.heap.size r u') args s 0 0 (Ax (AX ad) s.heap.size)) (F0 m 21 ls []) := by
  intro n
  induction n with
  | zero =>
    intro z1 z2 u H locs ls h
    exact absurd h (by intro q; cases q)
  | succ n ih =>
    intro z1 z2 u H locs ls h hP hS hl
    rw [LX1_fit_8_21] at h
    refine lv_iload_n C.1 C.2.1 dX1_fit_21 rfl (lv_at hl 2 rfl) ?_
    refine lv_bipush (v := 60) C.1 C.2.1 dX1_fit_22 (by decide) ?_
    refine lv_icmp_gt (tgt := 77) C.1 C.2.1 dX1_fit_24 (by decide) (fun c24 => ?_) (fun c24 => ?_)
    · rw [if_pos c24] at h
      cases h
      exact rt_v C hP hS dX1_fit_77
    · rw [if_neg c24] at h
      refine lv_aload_n C.1 C.2.1 dX1_fit_27 rfl (lv_at hl 0 rfl) ?_
      refine lv_iload_n C.1 C.2.1 dX1_fit_28 rfl (lv_at hl 1 rfl) ?_
      refine lv_iload_n C.1 C.2.1 dX1_fit_29 rfl (lv_at hl 2 rfl) ?_
      obtain ⟨⟨r10, u11⟩, hc12, h⟩ := bd_some h
      try dsimp only at h
      refine cg_i (As := [.int z1, .int z2]) (rest := []) (AX_ge hJ) C hK hP hS (metX1_suits_8 l D cy ad st hJ _ z1 z2 hc12) (cwV 2 C.2.2.2.2.2.1 gX1_fit_X1_suits rfl rfl rfl (by decide +kernel) ⟨(Nat.le_of_ble_eq_true rfl), (Nat.le_of_ble_eq_true rfl)⟩) 8 1 rfl rfl rfl hl.1 rfl (Nat.le_of_ble_eq_true rfl) dX1_fit_30 ⟨Nat.zero_le _, Nat.zero_le _⟩ (fun H locs hP hS => ?_)
      refine lv_if_eq (tgt := 71) C.1 C.2.1 dX1_fit_33 (by decide) (fun c33 => ?_) (fun c33 => ?_)
      · rw [if_pos c33] at h
        exact wGX1_fit_8_71 C hK hJ ih _ _ _ _ _ _ h hP hS hl
      · rw [if_neg c33] at h
        refine lv_aload_n C.1 C.2.1 dX1_fit_36 rfl (lv_at hl 0 rfl) ?_
        refine lv_aload_n C.1 C.2.1 dX1_fit_37 rfl (lv_at hl 0 rfl) ?_
        refine gX_8_leastFit C hX1_fit_8_X1 hK hP mX1_fit_8_1 dX1_fit_38 ?_
        refine lv_iconst (v := (-1)) C.1 C.2.1 dX1_fit_41 (by decide) ?_
        refine lv_icmp_ne (tgt := 49) C.1 C.2.1 dX1_fit_42 (by decide) (fun c42 => ?_) (fun c42 => ?_)
        · rw [if_neg c42] at h
          refine lv_aload_n C.1 C.2.1 dX1_fit_49 rfl (lv_at hl 0 rfl) ?_
          refine gX_8_leastFit C hX1_fit_8_X1 hK hP mX1_fit_8_1 dX1_fit_50 ?_
          exact wGX1_fit_8_53 C hK hJ ih _ _ _ _ _ _ _ h hP hS hl
        · rw [if_pos c42] at h
          refine lv_iload_n C.1 C.2.1 dX1_fit_45 rfl (lv_at hl 2 rfl) ?_
          refine lv_goto (tgt := 53) C.1 C.2.1 dX1_fit_46 (by decide) ?_
          exact wGX1_fit_8_53 C hK hJ ih _ _ _ _ _ _ _ h hP hS hl
set_option maxHeartbeats 4000000 in
set_option maxRecDepth 100000 in
theorem wX1_fit_8 {p : Program} {l : Launch} {e : Env} {s : State} {m : MethodId} {args : Array Value} {below : List Frame} {meth : Method} {c : Code} {D : va_G} {cy : Nat → ClassId} {ad st : Nat → Nat} (C : Cx RX1 cX1_fit 3 none wsX1_fit p s m args meth c) (hK : Ky D [(cy 0, .int), (cy 1, .long), (cy 2, .boolean), (cy 3, .byte), (cy 4, .object "HissHorn$Text")] st s) (hJ : JX ad st) (x1 : Int32) {u : SX} {r : Int32} {u' : SX} {H : Heap} {locs : List Loc} {ls : Array Slot} (h : fX1_fit_8 x1 u = some (r, u')) (hP : va_P D vwCl (VX cy ad st u) H) (hS : va_S (Ax (AX ad) s.heap.size) s.heap H locs) (hl : lv_has ls 3 [(0, .ref (ad 8)), (1, .int x1)]) : W p l e rmX1_fit_8 s m args below meth c H locs 0 0 (MQ below (Qv D (VX cy ad st) (AX ad) s.heap.size r u') args s 0 0 (Ax (AX ad) s.heap.size)) (F0 m 0 ls []) := by
  unfold fX1_fit_8 at h
  refine lv_aload_n C.1 C.2.1 dX1_fit_0 rfl (lv_at hl 0 rfl) ?_
  refine lv_iconst (v := (-1)) C.1 C.2.1 dX1_fit_1 (by decide) ?_
  refine pX_8_leastFit C hX1_fit_8_X1 hK hP hJ hS mX1_fit_8_1 dX1_fit_2 (fun H locs hP hS => ?_)
  obtain ⟨u1, hu2, h⟩ := lt_some h
  rw [← hu2] at hP
  refine lv_aload_n C.1 C.2.1 dX1_fit_5 rfl (lv_at hl 0 rfl) ?_
  refine lv_iconst (v := (-1)) C.1 C.2.1 dX1_fit_6 (by decide) ?_
  refine pX_8_greatestFit C hX1_fit_8_X1 hK hP hJ hS mX1_fit_8_2 dX1_fit_7 (fun H locs hP hS => ?_)
  obtain ⟨u3, hu4, h⟩ := lt_some h
  rw [← hu4] at hP
  refine lv_aload_n C.1 C.2.1 dX1_fit_10 rfl (lv_at hl 0 rfl) ?_
  refine lv_iconst (v := 0) C.1 C.2.1 dX1_fit_11 (by decide) ?_
  refine pX_8_fitting C hX1_fit_8_X1 hK hP hJ hS mX1_fit_8_3 dX1_fit_12 (fun H locs hP hS => ?_)
  obtain ⟨u5, hu6, h⟩ := lt_some h
  rw [← hu6] at hP
  refine lv_aload_n C.1 C.2.1 dX1_fit_15 rfl (lv_at hl 0 rfl) ?_
  obtain ⟨⟨r7, u8⟩, hc9, h⟩ := bd_some h
  try dsimp only at h
  refine cg_v (As := []) (rest := []) (AX_ge hJ) C hK hP hS (metX1_boundWaves_8 l D cy ad st hJ _  hc9) (cwV 0 C.2.2.2.2.2.1 gX1_fit_X1_boundWaves rfl rfl rfl (by decide +kernel) ⟨(Nat.le_of_ble_eq_true rfl), (Nat.le_of_ble_eq_true rfl)⟩) 8 1 rfl rfl rfl hl.1 rfl (Nat.le_of_ble_eq_true rfl) dX1_fit_16 ⟨Nat.zero_le _, Nat.zero_le _⟩ (fun H locs hP hS => ?_)
  refine lv_iconst (v := 0) C.1 C.2.1 dX1_fit_19 (by decide) ?_
  refine lv_istore_n (lv' := [(2, .int 0), (0, .ref (ad 8)), (1, .int x1)]) C.1 C.2.1 dX1_fit_20 rfl hl (by decide) rfl (fun ls hl => ?_)
  replace hl := lv_sub (l' := [(0, .ref (ad 8)), (1, .int x1), (2, .int 0)]) hl [1, 2, 0] rfl
  exact wLX1_fit_8_21 C hK hJ  5000 _ _ _ _ _ _ h hP hS hl
theorem metX1_fit_8 (l : Launch) (D : va_G) (cy : Nat → ClassId) (ad st : Nat → Nat) (hJ : JX ad st) (sz : Nat) (x1 : Int32) {u : SX} {r : Int32} {u' : SX} (h : fX1_fit_8 x1 u = some (r, u')) : Met l yX1_fit wsX1_fit rmX1_fit_8 (va_Pc [.ref (ad 8), .int x1] (Px D [(cy 0, .int), (cy 1, .long), (cy 2, .boolean), (cy 3, .byte), (cy 4, .object "HissHorn$Text")] st (VX cy ad st) sz u)) (Qv D (VX cy ad st) (AX ad) sz r u') 0 0 (Ax (AX ad) sz) := by
  refine Met.ofW (cc := cX1_fit) (maxL := 3) (ret := none) (by decide) rfl ?_
  intro p e s m args below meth c s₁ B hml hv
  obtain ⟨rfl, hsz, hP, hK⟩ := hv
  subst hsz
  have C : Cx RX1 cX1_fit 3 none wsX1_fit p s m _ meth c := ⟨B.exec, B.bytes, hml, B.returns, findClass_of_methodNamed B.named, atoms_spec (ws := wsX1_fit) B.pre, B.notSynchronized⟩
  have hl := lv_entry ([.ref (ad 8), .int x1]) (n := 3) (Nat.le_of_ble_eq_true rfl)
  rw [lg_entry_eq]
  exact wX1_fit_8 C hK hJ x1 h hP va_S.rf hl

theorem zdX11_fits_0 : (and (and (and (and (and (zk cX11_fits 0 (.aload_n 0) 1) (zk cX11_fits 1 (.iload_n 2) 1)) (and (zk cX11_fits 2 (.invokevirtual 174) 3) (zk cX11_fits 5 (.ifCond .eq 23) 3))) (and (and (zk cX11_fits 28 (.iconst (-1)) 1) (zk cX11_fits 29 (.ireturn) 1)) (and (zk cX11_fits 8 (.aload_n 0) 1) (zk cX11_fits 9 (.getfield 38) 3)))) (and (and (and (zk cX11_fits 12 (.iload_n 1) 1) (zk cX11_fits 13 (.invokevirtual 146) 3)) (and (zk cX11_fits 16 (.ifCond .eq 12) 3) (zk cX11_fits 19 (.iload_n 3) 1))) (and (and (zk cX11_fits 20 (.iconst 0) 1) (zk cX11_fits 21 (.iconst 2) 1)) (and (zk cX11_fits 22 (.invokestatic 107) 3) (zk cX11_fits 25 (.ifCond .ne 5) 3))))) (and (and (and (and (zk cX11_fits 30 (.aload_n 0) 1) (zk cX11_fits 31 (.getfield 58) 3)) (and (zk cX11_fits 34 (.iload_n 2) 1) (zk cX11_fits 35 (.invokevirtual 214) 3))) (and (and (zk cX11_fits 38 (.aload_n 0) 1) (zk cX11_fits 39 (.getfield 67) 3)) (and (zk cX11_fits 42 (.iload_n 1) 1) (zk cX11_fits 43 (.invokevirtual 300) 3)))) (and (and (and (zk cX11_fits 46 (.iload_n 3) 1) (zk cX11_fits 47 (.iconst 2) 1)) (and (zk cX11_fits 48 (.if_icmp .ne 11) 3) (zk cX11_fits 59 (.iload_n 3) 1))) (and (and (zk cX11_fits 60 (.ifCond .ne 13) 3) (zk cX11_fits 73 (.aload_n 0) 1)) (and (zk cX11_fits 74 (.getfield 67) 3) (zk cX11_fits 77 (.getfield 309) 3)))))) = true := by decide +kernel
theorem dX11_fits_0 : decode cX11_fits 0 = .ok (.aload_n 0, 1) := zk_of (zk_l (zk_l (zk_l (zk_l (zk_l zdX11_fits_0)))))
theorem dX11_fits_1 : decode cX11_fits 1 = .ok (.iload_n 2, 1) := zk_of (zk_r (zk_l (zk_l (zk_l (zk_l zdX11_fits_0)))))
theorem dX11_fits_2 : decode cX11_fits 2 = .ok (.invokevirtual 174, 3) := zk_of (zk_l (zk_r (zk_l (zk_l (zk_l zdX11_fits_0)))))
theorem dX11_fits_5 : decode cX11_fits 5 = .ok (.ifCond .eq 23, 3) := zk_of (zk_r (zk_r (zk_l (zk_l (zk_l zdX11_fits_0)))))
theorem dX11_fits_28 : decode cX11_fits 28 = .ok (.iconst (-1), 1) := zk_of (zk_l (zk_l (zk_r (zk_l (zk_l zdX11_fits_0)))))
theorem dX11_fits_29 : decode cX11_fits 29 = .ok (.ireturn, 1) := zk_of (zk_r (zk_l (zk_r (zk_l (zk_l zdX11_fits_0)))))
theorem dX11_fits_8 : decode cX11_fits 8 = .ok (.aload_n 0, 1) := zk_of (zk_l (zk_r (zk_r (zk_l (zk_l zdX11_fits_0)))))
theorem dX11_fits_9 : decode cX11_fits 9 = .ok (.getfield 38, 3) := zk_of (zk_r (zk_r (zk_r (zk_l (zk_l zdX11_fits_0)))))
theorem dX11_fits_12 : decode cX11_fits 12 = .ok (.iload_n 1, 1) := zk_of (zk_l (zk_l (zk_l (zk_r (zk_l zdX11_fits_0)))))
theorem dX11_fits_13 : decode cX11_fits 13 = .ok (.invokevirtual 146, 3) := zk_of (zk_r (zk_l (zk_l (zk_r (zk_l zdX11_fits_0)))))
theorem dX11_fits_16 : decode cX11_fits 16 = .ok (.ifCond .eq 12, 3) := zk_of (zk_l (zk_r (zk_l (zk_r (zk_l zdX11_fits_0)))))
theorem dX11_fits_19 : decode cX11_fits 19 = .ok (.iload_n 3, 1) := zk_of (zk_r (zk_r (zk_l (zk_r (zk_l zdX11_fits_0)))))
theorem dX11_fits_20 : decode cX11_fits 20 = .ok (.iconst 0, 1) := zk_of (zk_l (zk_l (zk_r (zk_r (zk_l zdX11_fits_0)))))
theorem dX11_fits_21 : decode cX11_fits 21 = .ok (.iconst 2, 1) := zk_of (zk_r (zk_l (zk_r (zk_r (zk_l zdX11_fits_0)))))
theorem dX11_fits_22 : decode cX11_fits 22 = .ok (.invokestatic 107, 3) := zk_of (zk_l (zk_r (zk_r (zk_r (zk_l zdX11_fits_0)))))
theorem dX11_fits_25 : decode cX11_fits 25 = .ok (.ifCond .ne 5, 3) := zk_of (zk_r (zk_r (zk_r (zk_r (zk_l zdX11_fits_0)))))
theorem dX11_fits_30 : decode cX11_fits 30 = .ok (.aload_n 0, 1) := zk_of (zk_l (zk_l (zk_l (zk_l (zk_r zdX11_fits_0)))))
theorem dX11_fits_31 : decode cX11_fits 31 = .ok (.getfield 58, 3) := zk_of (zk_r (zk_l (zk_l (zk_l (zk_r zdX11_fits_0)))))
theorem dX11_fits_34 : decode cX11_fits 34 = .ok (.iload_n 2, 1) := zk_of (zk_l (zk_r (zk_l (zk_l (zk_r zdX11_fits_0)))))
theorem dX11_fits_35 : decode cX11_fits 35 = .ok (.invokevirtual 214, 3) := zk_of (zk_r (zk_r (zk_l (zk_l (zk_r zdX11_fits_0)))))
theorem dX11_fits_38 : decode cX11_fits 38 = .ok (.aload_n 0, 1) := zk_of (zk_l (zk_l (zk_r (zk_l (zk_r zdX11_fits_0)))))
theorem dX11_fits_39 : decode cX11_fits 39 = .ok (.getfield 67, 3) := zk_of (zk_r (zk_l (zk_r (zk_l (zk_r zdX11_fits_0)))))
theorem dX11_fits_42 : decode cX11_fits 42 = .ok (.iload_n 1, 1) := zk_of (zk_l (zk_r (zk_r (zk_l (zk_r zdX11_fits_0)))))
theorem dX11_fits_43 : decode cX11_fits 43 = .ok (.invokevirtual 300, 3) := zk_of (zk_r (zk_r (zk_r (zk_l (zk_r zdX11_fits_0)))))
theorem dX11_fits_46 : decode cX11_fits 46 = .ok (.iload_n 3, 1) := zk_of (zk_l (zk_l (zk_l (zk_r (zk_r zdX11_fits_0)))))
theorem dX11_fits_47 : decode cX11_fits 47 = .ok (.iconst 2, 1) := zk_of (zk_r (zk_l (zk_l (zk_r (zk_r zdX11_fits_0)))))
theorem dX11_fits_48 : decode cX11_fits 48 = .ok (.if_icmp .ne 11, 3) := zk_of (zk_l (zk_r (zk_l (zk_r (zk_r zdX11_fits_0)))))
theorem dX11_fits_59 : decode cX11_fits 59 = .ok (.iload_n 3, 1) := zk_of (zk_r (zk_r (zk_l (zk_r (zk_r zdX11_fits_0)))))
theorem dX11_fits_60 : decode cX11_fits 60 = .ok (.ifCond .ne 13, 3) := zk_of (zk_l (zk_l (zk_r (zk_r (zk_r zdX11_fits_0)))))
theorem dX11_fits_73 : decode cX11_fits 73 = .ok (.aload_n 0, 1) := zk_of (zk_r (zk_l (zk_r (zk_r (zk_r zdX11_fits_0)))))
theorem dX11_fits_74 : decode cX11_fits 74 = .ok (.getfield 67, 3) := zk_of (zk_l (zk_r (zk_r (zk_r (zk_r zdX11_fits_0)))))
theorem dX11_fits_77 : decode cX11_fits 77 = .ok (.getfield 309, 3) := zk_of (zk_r (zk_r (zk_r (zk_r (zk_r zdX11_fits_0)))))
set_option maxRecDepth 20000 in
theorem ggX11_fits_X11_isDay : GoodIn wsX11_fits wsX11_isDay := ggi (fun w h => List.mem_cons_of_mem _ (List.mem_append_left _ (List.mem_append_left _ (List.mem_append_left _ (List.mem_append_left _ (List.mem_append_left _ (List.mem_append_left _ (List.mem_append_right _ (List.mem_append_left _ h))))))))) gs_X11_isDay
set_option maxRecDepth 20000 in
theorem gX11_fits_X11_isDay : GoodIn wsX11_fits (wsV RX11 174 RX11 yX11_isDay wsX11_isDay) := goodIn_app (goodIn_of _ (by decide +kernel)) ggX11_fits_X11_isDay
set_option maxRecDepth 20000 in
theorem ggX11_fits_X8_has : GoodIn wsX11_fits wsX8_has := ggi (fun w h => List.mem_cons_of_mem _ (List.mem_append_left _ (List.mem_append_left _ (List.mem_append_left _ (List.mem_append_left _ (List.mem_append_left _ (List.mem_append_left _ (List.mem_append_right _ (List.mem_append_right _ (List.mem_append_left _ h)))))))))) gs_X8_has
set_option maxRecDepth 20000 in
theorem gX11_fits_X8_has : GoodIn wsX11_fits (wsV RX11 146 RX8 yX8_has wsX8_has) := goodIn_app (goodIn_of _ (by decide +kernel)) ggX11_fits_X8_has
set_option maxRecDepth 20000 in
theorem ggX11_fits_X11_within : GoodIn wsX11_fits wsX11_within := ggi (fun w h => List.mem_cons_of_mem _ (List.mem_append_left _ (List.mem_append_left _ (List.mem_append_left _ (List.mem_append_left _ (List.mem_append_left _ (List.mem_append_left _ (List.mem_append_right _ (List.mem_append_right _ (List.mem_append_right _ (List.mem_append_left _ h))))))))))) gs_X11_within
set_option maxRecDepth 20000 in
theorem gX11_fits_X11_within : GoodIn wsX11_fits (va_wsS RX11 107 yX11_within wsX11_within) := goodIn_app (goodIn_of _ (by decide +kernel)) ggX11_fits_X11_within
set_option maxRecDepth 20000 in
theorem ggX11_fits_X7_recall : GoodIn wsX11_fits wsX7_recall := ggi (fun w h => List.mem_cons_of_mem _ (List.mem_append_left _ (List.mem_append_left _ (List.mem_append_left _ (List.mem_append_left _ (List.mem_append_left _ (List.mem_append_left _ (List.mem_append_right _ (List.mem_append_right _ (List.mem_append_right _ (List.mem_append_right _ (List.mem_append_left _ h)))))))))))) gs_X7_recall
set_option maxRecDepth 20000 in
theorem gX11_fits_X7_recall : GoodIn wsX11_fits (wsV RX11 214 RX7 yX7_recall wsX7_recall) := goodIn_app (goodIn_of _ (by decide +kernel)) ggX11_fits_X7_recall
set_option maxRecDepth 20000 in
theorem ggX11_fits_X1_fit : GoodIn wsX11_fits wsX1_fit := ggi (fun w h => List.mem_cons_of_mem _ (List.mem_append_left _ (List.mem_append_left _ (List.mem_append_left _ (List.mem_append_left _ (List.mem_append_left _ (List.mem_append_left _ (List.mem_append_right _ (List.mem_append_right _ (List.mem_append_right _ (List.mem_append_right _ (List.mem_append_right _ h)))))))))))) gs_X1_fit
set_option maxRecDepth 20000 in
theorem gX11_fits_X1_fit : GoodIn wsX11_fits (wsV RX11 300 RX1 yX1_fit wsX1_fit) := goodIn_app (goodIn_of _ (by decide +kernel)) ggX11_fits_X1_fit
theorem zdX11_fits_80 : (and (and (and (and (zk cX11_fits 80 (.ireturn) 1) (zk cX11_fits 63 (.aload_n 0) 1)) (zk cX11_fits 64 (.getfield 67) 3)) (and (zk cX11_fits 67 (.getfield 306) 3) (zk cX11_fits 70 (.goto 10) 3))) (and (and (zk cX11_fits 51 (.aload_n 0) 1) (zk cX11_fits 52 (.getfield 67) 3)) (and (zk cX11_fits 55 (.getfield 303) 3) (zk cX11_fits 58 (.ireturn) 1)))) = true := by decide +kernel
theorem dX11_fits_80 : decode cX11_fits 80 = .ok (.ireturn, 1) := zk_of (zk_l (zk_l (zk_l (zk_l zdX11_fits_80))))
theorem dX11_fits_63 : decode cX11_fits 63 = .ok (.aload_n 0, 1) := zk_of (zk_r (zk_l (zk_l (zk_l zdX11_fits_80))))
theorem dX11_fits_64 : decode cX11_fits 64 = .ok (.getfield 67, 3) := zk_of (zk_r (zk_l (zk_l zdX11_fits_80)))
theorem dX11_fits_67 : decode cX11_fits 67 = .ok (.getfield 306, 3) := zk_of (zk_l (zk_r (zk_l zdX11_fits_80)))
theorem dX11_fits_70 : decode cX11_fits 70 = .ok (.goto 10, 3) := zk_of (zk_r (zk_r (zk_l zdX11_fits_80)))
theorem dX11_fits_51 : decode cX11_fits 51 = .ok (.aload_n 0, 1) := zk_of (zk_l (zk_l (zk_r zdX11_fits_80)))
theorem dX11_fits_52 : decode cX11_fits 52 = .ok (.getfield 67, 3) := zk_of (zk_r (zk_l (zk_r zdX11_fits_80)))
theorem dX11_fits_55 : decode cX11_fits 55 = .ok (.getfield 303, 3) := zk_of (zk_l (zk_r (zk_r zdX11_fits_80)))
theorem dX11_fits_58 : decode cX11_fits 58 = .ok (.ireturn, 1) := zk_of (zk_r (zk_r (zk_r zdX11_fits_80)))
/-- HissHorn.fits(III)I of cell 0 -/
def rmX11_fits_0 : Room := { frames := 7, cells := 0, slots := 0, locals := 162 }
theorem hX11_fits_0_X11 : ∀ w ∈ u_ws RX11 TX11 13, w ∈ wsX11_fits := fun w h => (List.mem_cons_of_mem _ (List.mem_append_left _ (List.mem_append_left _ (List.mem_append_left _ (List.mem_append_left _ (List.mem_append_left _ (List.mem_append_right _ h)))))))
theorem mX11_fits_0_1 : Cond.fieldLink RX11 38 "HissHorn" "guesses" "LHissHorn$Shelf;" ∈ wsX11_fits := (List.mem_cons_of_mem _ (List.mem_append_left _ (List.mem_append_left _ (List.mem_append_left _ (List.mem_append_left _ (List.mem_append_left _ (List.mem_append_left _ (List.mem_append_left _ (List.mem_of_getElem? (i := 18) rfl)))))))))
theorem mX11_fits_0_2 : Cond.fieldLink RX11 58 "HissHorn" "readings" "LHissHorn$Readings;" ∈ wsX11_fits := (List.mem_cons_of_mem _ (List.mem_append_left _ (List.mem_append_left _ (List.mem_append_left _ (List.mem_append_left _ (List.mem_append_left _ (List.mem_append_left _ (List.mem_append_left _ (List.mem_of_getElem? (i := 19) rfl)))))))))
theorem mX11_fits_0_3 : Cond.fieldLink RX11 67 "HissHorn" "findings" "LHissHorn$Findings;" ∈ wsX11_fits := (List.mem_cons_of_mem _ (List.mem_append_left _ (List.mem_append_left _ (List.mem_append_left _ (List.mem_append_left _ (List.mem_append_left _ (List.mem_append_left _ (List.mem_append_left _ (List.mem_of_getElem? (i := 20) rfl)))))))))
theorem hX11_fits_0_X1 : ∀ w ∈ u_ws RX1 TX1 13, w ∈ wsX11_fits := fun w h => (List.mem_cons_of_mem _ (List.mem_append_left _ (List.mem_append_left _ (List.mem_append_left _ (List.mem_append_left _ (List.mem_append_right _ h))))))
theorem mX11_fits_0_5 : Cond.fieldLink RX11 309 "HissHorn$Findings" "greatestFit" "I" ∈ wsX11_fits := (List.mem_cons_of_mem _ (List.mem_append_left _ (List.mem_append_left _ (List.mem_append_left _ (List.mem_append_left _ (List.mem_append_left _ (List.mem_append_left _ (List.mem_append_left _ (List.mem_of_getElem? (i := 21) rfl)))))))))
theorem mX11_fits_0_6 : Cond.fieldLink RX11 306 "HissHorn$Findings" "leastFit" "I" ∈ wsX11_fits := (List.mem_cons_of_mem _ (List.mem_append_left _ (List.mem_append_left _ (List.mem_append_left _ (List.mem_append_left _ (List.mem_append_left _ (List.mem_append_left _ (List.mem_append_left _ (List.mem_of_getElem? (i := 22) rfl)))))))))
theorem mX11_fits_0_7 : Cond.fieldLink RX11 303 "HissHorn$Findings" "fitting" "I" ∈ wsX11_fits := (List.mem_cons_of_mem _ (List.mem_append_left _ (List.mem_append_left _ (List.mem_append_left _ (List.mem_append_left _ (List.mem_append_left _ (List.mem_append_left _ (List.mem_append_left _ (List.mem_of_getElem? (i := 23) rfl)))))))))
def fX11_fits_0 (x1 : Int32) (x2 : Int32) (x3 : Int32) (u : SX) : Option (Int32 × SX) := ((fX11_isDay_0 x2 u).bind fun q => match q with | (r1, u2) => (if r1 = 0 then (some ((-1), u2)) else ((fX8_has_4 x1 u2).bind fun q => match q with | (r4, u5) => (if r4 = 0 then (some ((-1), u5)) else ((fX11_within x3 0 2).bind fun r7 => (if r7 = 0 then (some ((-1), u5)) else ((fX7_recall_7 x2 u5).bind fun q => match q with | (r10, u11) => ((fX1_fit_8 x1 u11).bind fun q => match q with | (r13, u14) => (if x3 = 2 then (some (u14.1 21, u14)) else (if x3 = 0 then (some (u14.1 19, u14)) else (some (u14.1 20, u14))))))))))))
set_option maxHeartbeats 4000000 in
set_option maxRecDepth 100000 in
theorem wX11_fits_0 {p : Program} {l : Launch} {e : Env} {s : State} {m : MethodId} {args : Array Value} {below : List Frame} {meth : Method} {c : Code} {D : va_G} {cy : Nat → ClassId} {ad st : Nat → Nat} (C : Cx RX11 cX11_fits 4 (some .int) wsX11_fits p s m args meth c) (hK : Ky D [(cy 0, .int), (cy 1, .long), (cy 2, .boolean), (cy 3, .byte), (cy 4, .object "HissHorn$Text")] st s) (hJ : JX ad st) (x1 : Int32) (x2 : Int32) (x3 : Int32) {u : SX} {r : Int32} {u' : SX} {H : Heap} {locs : List Loc} {ls : Array Slot} (h : fX11_fits_0 x1 x2 x3 u = some (r, u')) (hP : va_P D vwCl (VX cy ad st u) H) (hS : va_S (Ax (AX ad) s.heap.size) s.heap H locs) (hl : lv_has ls 4 [(0, .ref (ad 0)), (1, .int x1), (2, .int x2), (3, .int x3)]) : W p l e rmX11_fits_0 s m args below meth c H locs 0 0 (MQ below (Qi D (VX cy ad st) (AX ad) s.heap.size r u') args s 0 0 (Ax (AX ad) s.heap.size)) (F0 m 0 ls []) := by
  unfold fX11_fits_0 at h
  refine lv_aload_n C.1 C.2.1 dX11_fits_0 rfl (lv_at hl 0 rfl) ?_
  refine lv_iload_n C.1 C.2.1 dX11_fits_1 rfl (lv_at hl 2 rfl) ?_
  obtain ⟨⟨r1, u2⟩, hc3, h⟩ := bd_some h
  try dsimp only at h
  refine cg_i (As := [.int x2]) (rest := []) (AX_ge hJ) C hK hP hS (metX11_isDay_0 l D cy ad st hJ _ x2 hc3) (cwV 1 C.2.2.2.2.2.1 gX11_fits_X11_isDay rfl rfl rfl (by decide +kernel) ⟨(Nat.le_of_ble_eq_true rfl), (Nat.le_of_ble_eq_true rfl)⟩) 0 11 rfl rfl rfl hl.1 rfl (Nat.le_of_ble_eq_true rfl) dX11_fits_2 ⟨Nat.zero_le _, Nat.zero_le _⟩ (fun H locs hP hS => ?_)
  refine lv_if_eq (tgt := 28) C.1 C.2.1 dX11_fits_5 (by decide) (fun c5 => ?_) (fun c5 => ?_)
  · rw [if_pos c5] at h
    refine lv_iconst (v := (-1)) C.1 C.2.1 dX11_fits_28 (by decide) ?_
    cases h
    exact rt_i C hP hS dX11_fits_29
  · rw [if_neg c5] at h
    refine lv_aload_n C.1 C.2.1 dX11_fits_8 rfl (lv_at hl 0 rfl) ?_
    refine gX_0_guesses C hX11_fits_0_X11 hK hP mX11_fits_0_1 dX11_fits_9 ?_
    refine lv_iload_n C.1 C.2.1 dX11_fits_12 rfl (lv_at hl 1 rfl) ?_
    obtain ⟨⟨r4, u5⟩, hc6, h⟩ := bd_some h
    try dsimp only at h
    refine cg_i (As := [.int x1]) (rest := []) (AX_ge hJ) C hK hP hS (metX8_has_4 l D cy ad st hJ _ x1 hc6) (cwV 1 C.2.2.2.2.2.1 gX11_fits_X8_has rfl rfl rfl (by decide +kernel) ⟨(Nat.le_of_ble_eq_true rfl), (Nat.le_of_ble_eq_true rfl)⟩) 4 8 rfl rfl rfl hl.1 rfl (Nat.le_of_ble_eq_true rfl) dX11_fits_13 ⟨Nat.zero_le _, Nat.zero_le _⟩ (fun H locs hP hS => ?_)
    refine lv_if_eq (tgt := 28) C.1 C.2.1 dX11_fits_16 (by decide) (fun c16 => ?_) (fun c16 => ?_)
    · rw [if_pos c16] at h
      refine lv_iconst (v := (-1)) C.1 C.2.1 dX11_fits_28 (by decide) ?_
      cases h
      exact rt_i C hP hS dX11_fits_29
    · rw [if_neg c16] at h
      refine lv_iload_n C.1 C.2.1 dX11_fits_19 rfl (lv_at hl 3 rfl) ?_
      refine lv_iconst (v := 0) C.1 C.2.1 dX11_fits_20 (by decide) ?_
      refine lv_iconst (v := 2) C.1 C.2.1 dX11_fits_21 (by decide) ?_
      obtain ⟨r7, hc9, h⟩ := bd_some h
      refine cs_i (As := [.int x3, .int 0, .int 2]) (rest := []) (AX_ge hJ) C hK hP hS (metX11_within l D cy st _ x3 0 2 hc9) (va_cwS 3 C.2.2.2.2.2.1 gX11_fits_X11_within rfl rfl rfl (by decide +kernel) ⟨(Nat.le_of_ble_eq_true rfl), (Nat.le_of_ble_eq_true rfl)⟩) rfl hl.1 rfl (Nat.le_of_ble_eq_true rfl) dX11_fits_22 ⟨Nat.zero_le _, Nat.zero_le _⟩ (fun H locs hP hS => ?_)
      refine lv_if_ne (tgt := 30) C.1 C.2.1 dX11_fits_25 (by decide) (fun c25 => ?_) (fun c25 => ?_)
      · rw [if_neg c25] at h
        refine lv_aload_n C.1 C.2.1 dX11_fits_30 rfl (lv_at hl 0 rfl) ?_
        refine gX_0_readings C hX11_fits_0_X11 hK hP mX11_fits_0_2 dX11_fits_31 ?_
        refine lv_iload_n C.1 C.2.1 dX11_fits_34 rfl (lv_at hl 2 rfl) ?_
        obtain ⟨⟨r10, u11⟩, hc12, h⟩ := bd_some h
        try dsimp only at h
        refine cg_v (As := [.int x2]) (rest := []) (AX_ge hJ) C hK hP hS (metX7_recall_7 l D cy ad st hJ _ x2 hc12) (cwV 1 C.2.2.2.2.2.1 gX11_fits_X7_recall rfl rfl rfl (by decide +kernel) ⟨(Nat.le_of_ble_eq_true rfl), (Nat.le_of_ble_eq_true rfl)⟩) 7 7 rfl rfl rfl hl.1 rfl (Nat.le_of_ble_eq_true rfl) dX11_fits_35 ⟨Nat.zero_le _, Nat.zero_le _⟩ (fun H locs hP hS => ?_)
        refine lv_aload_n C.1 C.2.1 dX11_fits_38 rfl (lv_at hl 0 rfl) ?_
        refine gX_0_findings C hX11_fits_0_X11 hK hP mX11_fits_0_3 dX11_fits_39 ?_
        refine lv_iload_n C.1 C.2.1 dX11_fits_42 rfl (lv_at hl 1 rfl) ?_
        obtain ⟨⟨r13, u14⟩, hc15, h⟩ := bd_some h
        try dsimp only at h
        refine cg_v (As := [.int x1]) (rest := []) (AX_ge hJ) C hK hP hS (metX1_fit_8 l D cy ad st hJ _ x1 hc15) (cwV 1 C.2.2.2.2.2.1 gX11_fits_X1_fit rfl rfl rfl (by decide +kernel) ⟨(Nat.le_of_ble_eq_true rfl), (Nat.le_of_ble_eq_true rfl)⟩) 8 1 rfl rfl rfl hl.1 rfl (Nat.le_of_ble_eq_true rfl) dX11_fits_43 ⟨Nat.zero_le _, Nat.zero_le _⟩ (fun H locs hP hS => ?_)
        refine lv_iload_n C.1 C.2.1 dX11_fits_46 rfl (lv_at hl 3 rfl) ?_
        refine lv_iconst (v := 2) C.1 C.2.1 dX11_fits_47 (by decide) ?_
        refine lv_icmp_ne (tgt := 59) C.1 C.2.1 dX11_fits_48 (by decide) (fun c48 => ?_) (fun c48 => ?_)
        · rw [if_neg c48] at h
          refine lv_iload_n C.1 C.2.1 dX11_fits_59 rfl (lv_at hl 3 rfl) ?_
          refine lv_if_ne (tgt := 73) C.1 C.2.1 dX11_fits_60 (by decide) (fun c60 => ?_) (fun c60 => ?_)
          · rw [if_neg c60] at h
            refine lv_aload_n C.1 C.2.1 dX11_fits_73 rfl (lv_at hl 0 rfl) ?_
            refine gX_0_findings C hX11_fits_0_X11 hK hP mX11_fits_0_3 dX11_fits_74 ?_
            refine gX_8_greatestFit C hX11_fits_0_X1 hK hP mX11_fits_0_5 dX11_fits_77 ?_
            cases h
            exact rt_i C hP hS dX11_fits_80
          · rw [if_pos c60] at h
            refine lv_aload_n C.1 C.2.1 dX11_fits_63 rfl (lv_at hl 0 rfl) ?_
            refine gX_0_findings C hX11_fits_0_X11 hK hP mX11_fits_0_3 dX11_fits_64 ?_
            refine gX_8_leastFit C hX11_fits_0_X1 hK hP mX11_fits_0_6 dX11_fits_67 ?_
            refine lv_goto (tgt := 80) C.1 C.2.1 dX11_fits_70 (by decide) ?_
            cases h
            exact rt_i C hP hS dX11_fits_80
        · rw [if_pos c48] at h
          refine lv_aload_n C.1 C.2.1 dX11_fits_51 rfl (lv_at hl 0 rfl) ?_
          refine gX_0_findings C hX11_fits_0_X11 hK hP mX11_fits_0_3 dX11_fits_52 ?_
          refine gX_8_fitting C hX11_fits_0_X1 hK hP mX11_fits_0_7 dX11_fits_55 ?_
          cases h
          exact rt_i C hP hS dX11_fits_58
      · rw [if_pos c25] at h
        refine lv_iconst (v := (-1)) C.1 C.2.1 dX11_fits_28 (by decide) ?_
        cases h
        exact rt_i C hP hS dX11_fits_29
theorem metX11_fits_0 (l : Launch) (D : va_G) (cy : Nat → ClassId) (ad st : Nat → Nat) (hJ : JX ad st) (sz : Nat) (x1 : Int32) (x2 : Int32) (x3 : Int32) {u : SX} {r : Int32} {u' : SX} (h : fX11_fits_0 x1 x2 x3 u = some (r, u')) : Met l yX11_fits wsX11_fits rmX11_fits_0 (va_Pc [.ref (ad 0), .int x1, .int x2, .int x3] (Px D [(cy 0, .int), (cy 1, .long), (cy 2, .boolean), (cy 3, .byte), (cy 4, .object "HissHorn$Text")] st (VX cy ad st) sz u)) (Qi D (VX cy ad st) (AX ad) sz r u') 0 0 (Ax (AX ad) sz) := by
  refine Met.ofW (cc := cX11_fits) (maxL := 4) (ret := (some .int)) (by decide) rfl ?_
  intro p e s m args below meth c s₁ B hml hv
  obtain ⟨rfl, hsz, hP, hK⟩ := hv
  subst hsz
  have C : Cx RX11 cX11_fits 4 (some .int) wsX11_fits p s m _ meth c := ⟨B.exec, B.bytes, hml, B.returns, findClass_of_methodNamed B.named, atoms_spec (ws := wsX11_fits) B.pre, B.notSynchronized⟩
  have hl := lv_entry ([.ref (ad 0), .int x1, .int x2, .int x3]) (n := 4) (Nat.le_of_ble_eq_true rfl)
  rw [lg_entry_eq]
  exact wX11_fits_0 C hK hJ x1 x2 x3 h hP va_S.rf hl

theorem zdX1_tellApart_59 : (and (and (and (and (and (zk cX1_tellApart 59 (.iinc 5 1) 3) (zk cX1_tellApart 62 (.goto (-54)) 3)) (and (zk cX1_tellApart 8 (.iload 5) 2) (zk cX1_tellApart 10 (.bipush 40) 2))) (and (and (zk cX1_tellApart 12 (.if_icmp .gt 53) 3) (zk cX1_tellApart 65 (.return_) 1)) (and (zk cX1_tellApart 15 (.aload_n 0) 1) (zk cX1_tellApart 16 (.iload_n 1) 1)))) (and (and (and (zk cX1_tellApart 17 (.iload 5) 2) (zk cX1_tellApart 19 (.iload_n 2) 1)) (and (zk cX1_tellApart 20 (.invokevirtual 98) 3) (zk cX1_tellApart 23 (.aload_n 0) 1))) (and (and (zk cX1_tellApart 24 (.iload_n 3) 1) (zk cX1_tellApart 25 (.iload 5) 2)) (and (zk cX1_tellApart 27 (.iload 4) 2) (zk cX1_tellApart 29 (.invokevirtual 98) 3))))) (and (and (and (and (zk cX1_tellApart 32 (.isub) 1) (zk cX1_tellApart 33 (.invokestatic 115) 3)) (and (zk cX1_tellApart 36 (.istore 6) 2) (zk cX1_tellApart 38 (.iload 6) 2))) (and (and (zk cX1_tellApart 40 (.aload_n 0) 1) (zk cX1_tellApart 41 (.getfield 112) 3)) (and (zk cX1_tellApart 44 (.if_icmp .le 15) 3) (zk cX1_tellApart 47 (.aload_n 0) 1)))) (and (and (and (zk cX1_tellApart 48 (.iload 6) 2) (zk cX1_tellApart 50 (.putfield 112) 3)) (and (zk cX1_tellApart 53 (.aload_n 0) 1) (zk cX1_tellApart 54 (.iload 5) 2))) (and (and (zk cX1_tellApart 56 (.putfield 117) 3) (zk cX1_tellApart 0 (.aload_n 0) 1)) (and (zk cX1_tellApart 1 (.iconst (-1)) 1) (zk cX1_tellApart 2 (.putfield 112) 3)))))) = true := by decide +kernel
theorem dX1_tellApart_59 : decode cX1_tellApart 59 = .ok (.iinc 5 1, 3) := zk_of (zk_l (zk_l (zk_l (zk_l (zk_l zdX1_tellApart_59)))))
theorem dX1_tellApart_62 : decode cX1_tellApart 62 = .ok (.goto (-54), 3) := zk_of (zk_r (zk_l (zk_l (zk_l (zk_l zdX1_tellApart_59)))))
theorem dX1_tellApart_8 : decode cX1_tellApart 8 = .ok (.iload 5, 2) := zk_of (zk_l (zk_r (zk_l (zk_l (zk_l zdX1_tellApart_59)))))
theorem dX1_tellApart_10 : decode cX1_tellApart 10 = .ok (.bipush 40, 2) := zk_of (zk_r (zk_r (zk_l (zk_l (zk_l zdX1_tellApart_59)))))
theorem dX1_tellApart_12 : decode cX1_tellApart 12 = .ok (.if_icmp .gt 53, 3) := zk_of (zk_l (zk_l (zk_r (zk_l (zk_l zdX1_tellApart_59)))))
theorem dX1_tellApart_65 : decode cX1_tellApart 65 = .ok (.return_, 1) := zk_of (zk_r (zk_l (zk_r (zk_l (zk_l zdX1_tellApart_59)))))
theorem dX1_tellApart_15 : decode cX1_tellApart 15 = .ok (.aload_n 0, 1) := zk_of (zk_l (zk_r (zk_r (zk_l (zk_l zdX1_tellApart_59)))))
theorem dX1_tellApart_16 : decode cX1_tellApart 16 = .ok (.iload_n 1, 1) := zk_of (zk_r (zk_r (zk_r (zk_l (zk_l zdX1_tellApart_59)))))
theorem dX1_tellApart_17 : decode cX1_tellApart 17 = .ok (.iload 5, 2) := zk_of (zk_l (zk_l (zk_l (zk_r (zk_l zdX1_tellApart_59)))))
theorem dX1_tellApart_19 : decode cX1_tellApart 19 = .ok (.iload_n 2, 1) := zk_of (zk_r (zk_l (zk_l (zk_r (zk_l zdX1_tellApart_59)))))
theorem dX1_tellApart_20 : decode cX1_tellApart 20 = .ok (.invokevirtual 98, 3) := zk_of (zk_l (zk_r (zk_l (zk_r (zk_l zdX1_tellApart_59)))))
theorem dX1_tellApart_23 : decode cX1_tellApart 23 = .ok (.aload_n 0, 1) := zk_of (zk_r (zk_r (zk_l (zk_r (zk_l zdX1_tellApart_59)))))
theorem dX1_tellApart_24 : decode cX1_tellApart 24 = .ok (.iload_n 3, 1) := zk_of (zk_l (zk_l (zk_r (zk_r (zk_l zdX1_tellApart_59)))))
theorem dX1_tellApart_25 : decode cX1_tellApart 25 = .ok (.iload 5, 2) := zk_of (zk_r (zk_l (zk_r (zk_r (zk_l zdX1_tellApart_59)))))
theorem dX1_tellApart_27 : decode cX1_tellApart 27 = .ok (.iload 4, 2) := zk_of (zk_l (zk_r (zk_r (zk_r (zk_l zdX1_tellApart_59)))))
theorem dX1_tellApart_29 : decode cX1_tellApart 29 = .ok (.invokevirtual 98, 3) := zk_of (zk_r (zk_r (zk_r (zk_r (zk_l zdX1_tellApart_59)))))
theorem dX1_tellApart_32 : decode cX1_tellApart 32 = .ok (.isub, 1) := zk_of (zk_l (zk_l (zk_l (zk_l (zk_r zdX1_tellApart_59)))))
theorem dX1_tellApart_33 : decode cX1_tellApart 33 = .ok (.invokestatic 115, 3) := zk_of (zk_r (zk_l (zk_l (zk_l (zk_r zdX1_tellApart_59)))))
theorem dX1_tellApart_36 : decode cX1_tellApart 36 = .ok (.istore 6, 2) := zk_of (zk_l (zk_r (zk_l (zk_l (zk_r zdX1_tellApart_59)))))
theorem dX1_tellApart_38 : decode cX1_tellApart 38 = .ok (.iload 6, 2) := zk_of (zk_r (zk_r (zk_l (zk_l (zk_r zdX1_tellApart_59)))))
theorem dX1_tellApart_40 : decode cX1_tellApart 40 = .ok (.aload_n 0, 1) := zk_of (zk_l (zk_l (zk_r (zk_l (zk_r zdX1_tellApart_59)))))
theorem dX1_tellApart_41 : decode cX1_tellApart 41 = .ok (.getfield 112, 3) := zk_of (zk_r (zk_l (zk_r (zk_l (zk_r zdX1_tellApart_59)))))
theorem dX1_tellApart_44 : decode cX1_tellApart 44 = .ok (.if_icmp .le 15, 3) := zk_of (zk_l (zk_r (zk_r (zk_l (zk_r zdX1_tellApart_59)))))
theorem dX1_tellApart_47 : decode cX1_tellApart 47 = .ok (.aload_n 0, 1) := zk_of (zk_r (zk_r (zk_r (zk_l (zk_r zdX1_tellApart_59)))))
theorem dX1_tellApart_48 : decode cX1_tellApart 48 = .ok (.iload 6, 2) := zk_of (zk_l (zk_l (zk_l (zk_r (zk_r zdX1_tellApart_59)))))
theorem dX1_tellApart_50 : decode cX1_tellApart 50 = .ok (.putfield 112, 3) := zk_of (zk_r (zk_l (zk_l (zk_r (zk_r zdX1_tellApart_59)))))
theorem dX1_tellApart_53 : decode cX1_tellApart 53 = .ok (.aload_n 0, 1) := zk_of (zk_l (zk_r (zk_l (zk_r (zk_r zdX1_tellApart_59)))))
theorem dX1_tellApart_54 : decode cX1_tellApart 54 = .ok (.iload 5, 2) := zk_of (zk_r (zk_r (zk_l (zk_r (zk_r zdX1_tellApart_59)))))
theorem dX1_tellApart_56 : decode cX1_tellApart 56 = .ok (.putfield 117, 3) := zk_of (zk_l (zk_l (zk_r (zk_r (zk_r zdX1_tellApart_59)))))
theorem dX1_tellApart_0 : decode cX1_tellApart 0 = .ok (.aload_n 0, 1) := zk_of (zk_r (zk_l (zk_r (zk_r (zk_r zdX1_tellApart_59)))))
theorem dX1_tellApart_1 : decode cX1_tellApart 1 = .ok (.iconst (-1), 1) := zk_of (zk_l (zk_r (zk_r (zk_r (zk_r zdX1_tellApart_59)))))
theorem dX1_tellApart_2 : decode cX1_tellApart 2 = .ok (.putfield 112, 3) := zk_of (zk_r (zk_r (zk_r (zk_r (zk_r zdX1_tellApart_59)))))
set_option maxRecDepth 20000 in
theorem ggX1_tellApart_X1_guessed : GoodIn wsX1_tellApart wsX1_guessed := ggi (fun w h => List.mem_cons_of_mem _ (List.mem_append_left _ (List.mem_append_left _ (List.mem_append_left _ (List.mem_append_right _ h))))) gs_X1_guessed
set_option maxRecDepth 20000 in
theorem gX1_tellApart_X1_guessed : GoodIn wsX1_tellApart (wsV RX1 98 RX1 yX1_guessed wsX1_guessed) := goodIn_app (goodIn_of _ (by decide +kernel)) ggX1_tellApart_X1_guessed
theorem zdX1_tellApart_5 : (and (zk cX1_tellApart 5 (.iconst 1) 1) (zk cX1_tellApart 6 (.istore 5) 2)) = true := by decide +kernel
theorem dX1_tellApart_5 : decode cX1_tellApart 5 = .ok (.iconst 1, 1) := zk_of (zk_l zdX1_tellApart_5)
theorem dX1_tellApart_6 : decode cX1_tellApart 6 = .ok (.istore 5, 2) := zk_of (zk_r zdX1_tellApart_5)
/-- HissHorn$Findings.tellApart(IIII)V of cell 8 -/
def rmX1_tellApart_8 : Room := { frames := 5, cells := 0, slots := 0, locals := 110 }
theorem hX1_tellApart_8_X1 : ∀ w ∈ u_ws RX1 TX1 13, w ∈ wsX1_tellApart := fun w h => (List.mem_cons_of_mem _ (List.mem_append_left _ (List.mem_append_left _ (List.mem_append_right _ h))))
theorem mX1_tellApart_8_1 : Cond.fieldLink RX1 112 "HissHorn$Findings" "farthest" "I" ∈ wsX1_tellApart := (List.mem_cons_of_mem _ (List.mem_append_left _ (List.mem_append_left _ (List.mem_append_left _ (List.mem_append_left _ (List.mem_of_getElem? (i := 4) rfl))))))
theorem mX1_tellApart_8_2 : Cond.methodLink RX1 115 Lib.Math.abs.name ∈ wsX1_tellApart := (List.mem_cons_of_mem _ (List.mem_append_left _ (List.mem_append_left _ (List.mem_append_left _ (List.mem_append_left _ (List.mem_of_getElem? (i := 5) rfl))))))
theorem mX1_tellApart_8_3 : Cond.static Lib.Math.abs.name ∈ wsX1_tellApart := (List.mem_cons_of_mem _ (List.mem_append_left _ (List.mem_append_left _ (List.mem_append_left _ (List.mem_append_left _ (List.mem_of_getElem? (i := 6) rfl))))))
theorem mX1_tellApart_8_4 : Cond.initialized "java/lang/Math" ∈ wsX1_tellApart := (List.mem_cons_of_mem _ (List.mem_append_left _ (List.mem_append_left _ (List.mem_append_left _ (List.mem_append_left _ (List.mem_of_getElem? (i := 7) rfl))))))
theorem mX1_tellApart_8_5 : Cond.code Lib.Math.abs.name Lib.Math.abs.code 1 (some .int) ∈ wsX1_tellApart := (List.mem_cons_of_mem _ (List.mem_append_left _ (List.mem_append_left _ (List.mem_append_left _ (List.mem_append_left _ (List.mem_of_getElem? (i := 8) rfl))))))
def GX1_tellApart_8_59 (k8 : Int32 → Int32 → Int32 → Int32 → Int32 → SX → Option (Int32 × SX)) (z1 : Int32) (z2 : Int32) (z3 : Int32) (z4 : Int32) (z5 : Int32) (u : SX) : Option (Int32 × SX) := (k8 z1 z2 z3 z4 (z5 + 1) u)
theorem mX1_tellApart_8_6 : Cond.fieldLink RX1 117 "HissHorn$Findings" "farthestWave" "I" ∈ wsX1_tellApart := (List.mem_cons_of_mem _ (List.mem_append_left _ (List.mem_append_left _ (List.mem_append_left _ (List.mem_append_left _ (List.mem_of_getElem? (i := 9) rfl))))))
def LX1_tellApart_8_8  : Nat → Int32 → Int32 → Int32 → Int32 → Int32 → SX → Option (Int32 × SX)
  | 0, _, _, _, _, _, _ => none
  | n + 1, z1, z2, z3, z4, z5, u => (if 40 < z5 then (some (0, u)) else ((fX1_guessed_8 z1 z5 z2 u).bind fun q => match q with | (r3, u4) => ((fX1_guessed_8 z3 z5 z4 u4).bind fun q => match q with | (r6, u7) => (lt (if 0 ≤ (r3 - r6) then (r3 - r6) else 0 - (r3 - r6)) fun v9 => (if v9 ≤ (u7.1 23) then (GX1_tellApart_8_59 (LX1_tellApart_8_8 n) z1 z2 z3 z4 z5 u7) else (lt (sI u7 23 v9) fun u11 => (lt (sI u11 22 z5) fun u13 => (GX1_tellApart_8_59 (LX1_tellApart_8_8 n) z1 z2 z3 z4 z5 u13))))))))
def fX1_tellApart_8 (x1 : Int32) (x2 : Int32) (x3 : Int32) (x4 : Int32) (u : SX) : Option (Int32 × SX) := (lt (sI u 23 (-1)) fun u1 => (LX1_tellApart_8_8  5000 x1 x2 x3 x4 1 u1))
set_option maxHeartbeats 4000000 in
set_option maxRecDepth 100000 in
theorem wGX1_tellApart_8_59 {p : Program} {l : Launch} {e : Env} {s : State} {m : MethodId} {args : Array Value} {below : List Frame} {meth : Method} {c : Code} {D : va_G} {cy : Nat → ClassId} {ad st : Nat → Nat} (C : Cx RX1 cX1_tellApart 7 none wsX1_tellApart p s m args meth c) (hK : Ky D [(cy 0, .int), (cy 1, .long), (cy 2, .boolean), (cy 3, .byte), (cy 4, .object "HissHorn$Text")] st s) (hJ : JX ad st) {r : Int32} {u' : SX} {k8 : Int32 → Int32 → Int32 → Int32 → Int32 → SX → Option (Int32 × SX)} (hk8 : ∀ (z1 : Int32) (z2 : Int32) (z3 : Int32) (z4 : Int32) (z5 : Int32) (u : SX) (H : Heap) (locs : List Loc) (ls : Array Slot), k8 z1 z2 z3 z4 z5 u = some (r, u') → va_P D vwCl (VX cy ad st u) H → va_S (Ax (AX ad) s.heap.size) s.heap H locs → lv_has ls 7 [(0, .ref (ad 8)), (1, .int z1), (2, .int z2), (3, .int z3), (4, .int z4), (5, .int z5)] → W p l e rmX1_tellApart_8 s m args below meth c H locs 0 0 (MQ below (Qv D (VX cy ad st) (AX ad) s.heap.size r u') args s 0 0 (Ax (AX ad) s.heap.size)) (F0 m 8 ls [])) (z1 : Int32) (z2 : Int32) (z3 : Int32) (z4 : Int32) (z5 : Int32) (u : SX) (H : Heap) (locs : List Loc) (ls : Array Slot) (h : GX1_tellApart_8_59 k8 z1 z2 z3 z4 z5 u = some (r, u')) (hP : va_P D vwCl (VX cy ad st u) H) (hS : va_S (Ax (AX ad) s.heap.size) s.heap H locs) (hl : lv_has ls 7 [(0, .ref (ad 8)), (1, .int z1), (2, .int z2), (3, .int z3), (4, .int z4), (5, .int z5)]) : W p l e rmX1_tellApart_8 s m args below meth c H locs 0 0 (MQ below (Qv D (VX cy ad st) (AX ad) s.heap.size r u') args s 0 0 (Ax (AX ad) s.heap.size)) (F0 m 59 ls []) := by
  unfold GX1_tellApart_8_59 at h
  refine lv_iinc (v := z5 + 1) (lv' := [(5, .int (z5 + 1)), (0, .ref (ad 8)), (1, .int z1), (2, .int z2), (3, .int z3), (4, .int z4)]) C.1 C.2.1 dX1_tellApart_59 hl (k := 5) rfl rfl (by decide) rfl (fun ls hl => ?_)
  replace hl := lv_sub (l' := [(0, .ref (ad 8)), (1, .int z1), (2, .int z2), (3, .int z3), (4, .int z4), (5, .int (z5 + 1))]) hl [1, 2, 3, 4, 5, 0] rfl
  refine lv_goto (tgt := 8) C.1 C.2.1 dX1_tellApart_62 (by decide) ?_
  exact hk8 _ _ _ _ _ _ _ _ _ h hP hS hl
set_option maxHeartbeats 4000000 in
set_option maxRecDepth 100000 in
theorem wLX1_tellApart_8_8 {p : Program} {l : Launch} {e : Env} {s : State} {m : MethodId} {args : Array Value} {below : List Frame} {meth : Method} {c : Code} {D : va_G} {cy : Nat → ClassId} {ad st : Nat → Nat} (C : Cx RX1 cX1_tellApart 7 none wsX1_tellApart p s m args meth c) (hK : Ky D [(cy 0, .int), (cy 1, .long), (cy 2, .boolean), (cy 3, .byte), (cy 4, .object "HissHorn$Text")] st s) (hJ : JX ad st) {r : Int32} {u' : SX}   : ∀ (n : Nat) (z1 : Int32) (z2 : Int32) (z3 : Int32) (z4 : Int32) (z5 : Int32) (u : SX) (H : Heap) (locs : List Loc) (ls : Array Slot), LX1_tellApart_8_8  n z1 z2 z3 z4 z5 u = some (r, u') → va_P D vwCl (VX cy ad st u) H → va_S (Ax (AX ad) s.heap.size) s.heap H locs → lv_has ls 7 [(0, .ref (ad 8)), (1, .int z1), (2, .int z2), (3, .int z3), (4, .int z4), (5, .int z5)] → W p l e rmX1_tellApart_8 s m args below meth c H locs 0 0 (MQ below (Qv D (VX cy ad st) (AX ad) s.heap.size r u') args s 0 0 (Ax (AX ad) s.heap.size)) (F0 m 8 ls []) := by
  intro n
  induction n with
  | zero =>
    intro z1 z2 z3 z4 z5 u H locs ls h
    exact absurd h (by intro q; cases q)
  | succ n ih =>
    intro z1 z2 z3 z4 z5 u H locs ls h hP hS hl
    rw [LX1_tellApart_8_8] at h
    refine lv_iload C.1 C.2.1 dX1_tellApart_8 (lv_at hl 5 rfl) ?_
    refine lv_bipush (v := 40) C.1 C.2.1 dX1_tellApart_10 (by decide) ?_
    refine lv_icmp_gt (tgt := 65) C.1 C.2.1 dX1_tellApart_12 (by decide) (fun c12 => ?_) (fun c12 => ?_)
    · rw [if_pos c12] at h
      cases h
      exact rt_v C hP hS dX1_tellApart_65
    · rw [if_neg c12] at h
      refine lv_aload_n C.1 C.2.1 dX1_tellApart_15 rfl (lv_at hl 0 rfl) ?_
      refine lv_iload_n C.1 C.2.1 dX1_tellApart_16 rfl (lv_at hl 1 rfl) ?_
      refine lv_iload C.1 C.2.1 dX1_tellApart_17 (lv_at hl 5 rfl) ?_
      refine lv_iload_n C.1 C.2.1 dX1_tellApart_19 rfl (lv_at hl 2 rfl) ?_
      obtain ⟨⟨r3, u4⟩, hc5, h⟩ := bd_some h
      try dsimp only at h
      refine cg_i (As := [.int z1, .int z5, .int z2]) (rest := []) (AX_ge hJ) C hK hP hS (metX1_guessed_8 l D cy ad st hJ _ z1 z5 z2 hc5) (cwV 3 C.2.2.2.2.2.1 gX1_tellApart_X1_guessed rfl rfl rfl (by decide +kernel) ⟨(Nat.le_of_ble_eq_true rfl), (Nat.le_of_ble_eq_true rfl)⟩) 8 1 rfl rfl rfl hl.1 rfl (Nat.le_of_ble_eq_true rfl) dX1_tellApart_20 ⟨Nat.zero_le _, Nat.zero_le _⟩ (fun H locs hP hS => ?_)
      refine lv_aload_n C.1 C.2.1 dX1_tellApart_23 rfl (lv_at hl 0 rfl) ?_
      refine lv_iload_n C.1 C.2.1 dX1_tellApart_24 rfl (lv_at hl 3 rfl) ?_
      refine lv_iload C.1 C.2.1 dX1_tellApart_25 (lv_at hl 5 rfl) ?_
      refine lv_iload C.1 C.2.1 dX1_tellApart_27 (lv_at hl 4 rfl) ?_
      obtain ⟨⟨r6, u7⟩, hc8, h⟩ := bd_some h
      try dsimp only at h
      refine cg_i (As := [.int z3, .int z5, .int z4]) (rest := [.int r3]) (AX_ge hJ) C hK hP hS (metX1_guessed_8 l D cy ad st hJ _ z3 z5 z4 hc8) (cwV 3 C.2.2.2.2.2.1 gX1_tellApart_X1_guessed rfl rfl rfl (by decide +kernel) ⟨(Nat.le_of_ble_eq_true rfl), (Nat.le_of_ble_eq_true rfl)⟩) 8 1 rfl rfl rfl hl.1 rfl (Nat.le_of_ble_eq_true rfl) dX1_tellApart_29 ⟨Nat.zero_le _, Nat.zero_le _⟩ (fun H locs hP hS => ?_)
      refine lv_isub C.1 C.2.1 dX1_tellApart_32 ?_
      refine va_mabs C.1 C.2.1 (C.2.2.1.trans hl.1.symm) C.2.2.2.2.1 (C.2.2.2.2.2.1 _ mX1_tellApart_8_2) (C.2.2.2.2.2.1 _ mX1_tellApart_8_3) (C.2.2.2.2.2.1 _ mX1_tellApart_8_4) (C.2.2.2.2.2.1 _ mX1_tellApart_8_5) (Nat.le_of_ble_eq_true rfl) (Nat.le_of_ble_eq_true rfl) (Nat.zero_le _) (Nat.zero_le _) dX1_tellApart_33 ?_
      refine lv_topi (fun v9 hv10 => ?_)
      replace h := lt_e hv10 h
      try dsimp only at h
      refine lv_istore (lv' := [(6, .int v9), (0, .ref (ad 8)), (1, .int z1), (2, .int z2), (3, .int z3), (4, .int z4), (5, .int z5)]) C.1 C.2.1 dX1_tellApart_36 hl (by decide) rfl (fun ls hl => ?_)
      replace hl := lv_sub (l' := [(0, .ref (ad 8)), (1, .int z1), (2, .int z2), (3, .int z3), (4, .int z4), (5, .int z5), (6, .int v9)]) hl [1, 2, 3, 4, 5, 6, 0] rfl
      refine lv_iload C.1 C.2.1 dX1_tellApart_38 (lv_at hl 6 rfl) ?_
      refine lv_aload_n C.1 C.2.1 dX1_tellApart_40 rfl (lv_at hl 0 rfl) ?_
      refine gX_8_farthest C hX1_tellApart_8_X1 hK hP mX1_tellApart_8_1 dX1_tellApart_41 ?_
      refine lv_icmp_le (tgt := 59) C.1 C.2.1 dX1_tellApart_44 (by decide) (fun c44 => ?_) (fun c44 => ?_)
      · rw [if_pos c44] at h
        exact wGX1_tellApart_8_59 C hK hJ ih _ _ _ _ _ _ _ _ _ h hP hS (lv_sub hl [0, 1, 2, 3, 4, 5] rfl)
      · rw [if_neg c44] at h
        refine lv_aload_n C.1 C.2.1 dX1_tellApart_47 rfl (lv_at hl 0 rfl) ?_
        refine lv_iload C.1 C.2.1 dX1_tellApart_48 (lv_at hl 6 rfl) ?_
        refine pX_8_farthest C hX1_tellApart_8_X1 hK hP hJ hS mX1_tellApart_8_1 dX1_tellApart_50 (fun H locs hP hS => ?_)
        obtain ⟨u11, hu12, h⟩ := lt_some h
        rw [← hu12] at hP
        refine lv_aload_n C.1 C.2.1 dX1_tellApart_53 rfl (lv_at hl 0 rfl) ?_
        refine lv_iload C.1 C.2.1 dX1_tellApart_54 (lv_at hl 5 rfl) ?_
        refine pX_8_farthestWave C hX1_tellApart_8_X1 hK hP hJ hS mX1_tellApart_8_6 dX1_tellApart_56 (fun H locs hP hS => ?_)
        obtain ⟨u13, hu14, h⟩ := lt_some h
        rw [← hu14] at hP
        exact wGX1_tellApart_8_59 C hK hJ ih _ _ _ _ _ _ _ _ _ h hP hS (lv_sub hl [0, 1, 2, 3, 4, 5] rfl)
set_option maxHeartbeats 4000000 in
set_option maxRecDepth 100000 in
theorem wX1_tellApart_8 {p : Program} {l : Launch} {e : Env} {s : State} {m : MethodId} {args : Array Value} {below : List Frame} {meth : Method} {c : Code} {D : va_G} {cy : Nat → ClassId} {ad st : Nat → Nat} (C : Cx RX1 cX1_tellApart 7 none wsX1_tellApart p s m args meth c) (hK : Ky D [(cy 0, .int), (cy 1, .long), (cy 2, .boolean), (cy 3, .byte), (cy 4, .object "HissHorn$Text")] st s) (hJ : JX ad st) (x1 : Int32) (x2 : Int32) (x3 : Int32) (x4 : Int32) {u : SX} {r : Int32} {u' : SX} {H : Heap} {locs : List Loc} {ls : Array Slot} (h : fX1_tellApart_8 x1 x2 x3 x4 u = some (r, u')) (hP : va_P D vwCl (VX cy ad st u) H) (hS : va_S (Ax (AX ad) s.heap.size) s.heap H locs) (hl : lv_has ls 7 [(0, .ref (ad 8)), (1, .int x1), (2, .int x2), (3, .int x3), (4, .int x4)]) : W p l e rmX1_tellApart_8 s m args below meth c H locs 0 0 (MQ below (Qv D (VX cy ad st) (AX ad) s.heap.size r u') args s 0 0 (Ax (AX ad) s.heap.size)) (F0 m 0 ls []) := by
  unfold fX1_tellApart_8 at h
  refine lv_aload_n C.1 C.2.1 dX1_tellApart_0 rfl (lv_at hl 0 rfl) ?_
  refine lv_iconst (v := (-1)) C.1 C.2.1 dX1_tellApart_1 (by decide) ?_
  refine pX_8_farthest C hX1_tellApart_8_X1 hK hP hJ hS mX1_tellApart_8_1 dX1_tellApart_2 (fun H locs hP hS => ?_)
  obtain ⟨u1, hu2, h⟩ := lt_some h
  rw [← hu2] at hP
  refine lv_iconst (v := 1) C.1 C.2.1 dX1_tellApart_5 (by decide) ?_
  refine lv_istore (lv' := [(5, .int 1), (0, .ref (ad 8)), (1, .int x1), (2, .int x2), (3, .int x3), (4, .int x4)]) C.1 C.2.1 dX1_tellApart_6 hl (by decide) rfl (fun ls hl => ?_)
  replace hl := lv_sub (l' := [(0, .ref (ad 8)), (1, .int x1), (2, .int x2), (3, .int x3), (4, .int x4), (5, .int 1)]) hl [1, 2, 3, 4, 5, 0] rfl
  exact wLX1_tellApart_8_8 C hK hJ  5000 _ _ _ _ _ _ _ _ _ h hP hS hl
theorem metX1_tellApart_8 (l : Launch) (D : va_G) (cy : Nat → ClassId) (ad st : Nat → Nat) (hJ : JX ad st) (sz : Nat) (x1 : Int32) (x2 : Int32) (x3 : Int32) (x4 : Int32) {u : SX} {r : Int32} {u' : SX} (h : fX1_tellApart_8 x1 x2 x3 x4 u = some (r, u')) : Met l yX1_tellApart wsX1_tellApart rmX1_tellApart_8 (va_Pc [.ref (ad 8), .int x1, .int x2, .int x3, .int x4] (Px D [(cy 0, .int), (cy 1, .long), (cy 2, .boolean), (cy 3, .byte), (cy 4, .object "HissHorn$Text")] st (VX cy ad st) sz u)) (Qv D (VX cy ad st) (AX ad) sz r u') 0 0 (Ax (AX ad) sz) := by
  refine Met.ofW (cc := cX1_tellApart) (maxL := 7) (ret := none) (by decide) rfl ?_
  intro p e s m args below meth c s₁ B hml hv
  obtain ⟨rfl, hsz, hP, hK⟩ := hv
  subst hsz
  have C : Cx RX1 cX1_tellApart 7 none wsX1_tellApart p s m _ meth c := ⟨B.exec, B.bytes, hml, B.returns, findClass_of_methodNamed B.named, atoms_spec (ws := wsX1_tellApart) B.pre, B.notSynchronized⟩
  have hl := lv_entry ([.ref (ad 8), .int x1, .int x2, .int x3, .int x4]) (n := 7) (Nat.le_of_ble_eq_true rfl)
  rw [lg_entry_eq]
  exact wX1_tellApart_8 C hK hJ x1 x2 x3 x4 h hP va_S.rf hl

theorem zdX11_next_0 : (and (and (and (and (and (zk cX11_next 0 (.aload_n 0) 1) (zk cX11_next 1 (.iload_n 3) 1)) (and (zk cX11_next 2 (.invokevirtual 174) 3) (zk cX11_next 5 (.ifCond .eq 33) 3))) (and (and (zk cX11_next 38 (.iconst (-1)) 1) (zk cX11_next 39 (.ireturn) 1)) (and (zk cX11_next 8 (.aload_n 0) 1) (zk cX11_next 9 (.getfield 38) 3)))) (and (and (and (zk cX11_next 12 (.iload_n 1) 1) (zk cX11_next 13 (.invokevirtual 146) 3)) (and (zk cX11_next 16 (.ifCond .eq 22) 3) (zk cX11_next 19 (.aload_n 0) 1))) (and (and (zk cX11_next 20 (.getfield 38) 3) (zk cX11_next 23 (.iload_n 2) 1)) (and (zk cX11_next 24 (.invokevirtual 146) 3) (zk cX11_next 27 (.ifCond .eq 11) 3))))) (and (and (and (and (zk cX11_next 30 (.iload 4) 2) (zk cX11_next 32 (.invokestatic 177) 3)) (and (zk cX11_next 35 (.ifCond .ne 5) 3) (zk cX11_next 40 (.aload_n 0) 1))) (and (and (zk cX11_next 41 (.getfield 58) 3) (zk cX11_next 44 (.iload_n 3) 1)) (and (zk cX11_next 45 (.invokevirtual 214) 3) (zk cX11_next 48 (.aload_n 0) 1)))) (and (and (and (zk cX11_next 49 (.getfield 67) 3) (zk cX11_next 52 (.iload_n 1) 1)) (and (zk cX11_next 53 (.invokevirtual 300) 3) (zk cX11_next 56 (.aload_n 0) 1))) (and (and (zk cX11_next 57 (.getfield 67) 3) (zk cX11_next 60 (.getfield 306) 3)) (and (zk cX11_next 63 (.istore 5) 2) (zk cX11_next 65 (.aload_n 0) 1)))))) = true := by decide +kernel
theorem dX11_next_0 : decode cX11_next 0 = .ok (.aload_n 0, 1) := zk_of (zk_l (zk_l (zk_l (zk_l (zk_l zdX11_next_0)))))
theorem dX11_next_1 : decode cX11_next 1 = .ok (.iload_n 3, 1) := zk_of (zk_r (zk_l (zk_l (zk_l (zk_l zdX11_next_0)))))
theorem dX11_next_2 : decode cX11_next 2 = .ok (.invokevirtual 174, 3) := zk_of (zk_l (zk_r (zk_l (zk_l (zk_l zdX11_next_0)))))
theorem dX11_next_5 : decode cX11_next 5 = .ok (.ifCond .eq 33, 3) := zk_of (zk_r (zk_r (zk_l (zk_l (zk_l zdX11_next_0)))))
theorem dX11_next_38 : decode cX11_next 38 = .ok (.iconst (-1), 1) := zk_of (zk_l (zk_l (zk_r (zk_l (zk_l zdX11_next_0)))))
theorem dX11_next_39 : decode cX11_next 39 = .ok (.ireturn, 1) := zk_of (zk_r (zk_l (zk_r (zk_l (zk_l zdX11_next_0)))))
theorem dX11_next_8 : decode cX11_next 8 = .ok (.aload_n 0, 1) := zk_of (zk_l (zk_r (zk_r (zk_l (zk_l zdX11_next_0)))))
theorem dX11_next_9 : decode cX11_next 9 = .ok (.getfield 38, 3) := zk_of (zk_r (zk_r (zk_r (zk_l (zk_l zdX11_next_0)))))
theorem dX11_next_12 : decode cX11_next 12 = .ok (.iload_n 1, 1) := zk_of (zk_l (zk_l (zk_l (zk_r (zk_l zdX11_next_0)))))
theorem dX11_next_13 : decode cX11_next 13 = .ok (.invokevirtual 146, 3) := zk_of (zk_r (zk_l (zk_l (zk_r (zk_l zdX11_next_0)))))
theorem dX11_next_16 : decode cX11_next 16 = .ok (.ifCond .eq 22, 3) := zk_of (zk_l (zk_r (zk_l (zk_r (zk_l zdX11_next_0)))))
theorem dX11_next_19 : decode cX11_next 19 = .ok (.aload_n 0, 1) := zk_of (zk_r (zk_r (zk_l (zk_r (zk_l zdX11_next_0)))))
theorem dX11_next_20 : decode cX11_next 20 = .ok (.getfield 38, 3) := zk_of (zk_l (zk_l (zk_r (zk_r (zk_l zdX11_next_0)))))
theorem dX11_next_23 : decode cX11_next 23 = .ok (.iload_n 2, 1) := zk_of (zk_r (zk_l (zk_r (zk_r (zk_l zdX11_next_0)))))
theorem dX11_next_24 : decode cX11_next 24 = .ok (.invokevirtual 146, 3) := zk_of (zk_l (zk_r (zk_r (zk_r (zk_l zdX11_next_0)))))
theorem dX11_next_27 : decode cX11_next 27 = .ok (.ifCond .eq 11, 3) := zk_of (zk_r (zk_r (zk_r (zk_r (zk_l zdX11_next_0)))))
theorem dX11_next_30 : decode cX11_next 30 = .ok (.iload 4, 2) := zk_of (zk_l (zk_l (zk_l (zk_l (zk_r zdX11_next_0)))))
theorem dX11_next_32 : decode cX11_next 32 = .ok (.invokestatic 177, 3) := zk_of (zk_r (zk_l (zk_l (zk_l (zk_r zdX11_next_0)))))
theorem dX11_next_35 : decode cX11_next 35 = .ok (.ifCond .ne 5, 3) := zk_of (zk_l (zk_r (zk_l (zk_l (zk_r zdX11_next_0)))))
theorem dX11_next_40 : decode cX11_next 40 = .ok (.aload_n 0, 1) := zk_of (zk_r (zk_r (zk_l (zk_l (zk_r zdX11_next_0)))))
theorem dX11_next_41 : decode cX11_next 41 = .ok (.getfield 58, 3) := zk_of (zk_l (zk_l (zk_r (zk_l (zk_r zdX11_next_0)))))
theorem dX11_next_44 : decode cX11_next 44 = .ok (.iload_n 3, 1) := zk_of (zk_r (zk_l (zk_r (zk_l (zk_r zdX11_next_0)))))
theorem dX11_next_45 : decode cX11_next 45 = .ok (.invokevirtual 214, 3) := zk_of (zk_l (zk_r (zk_r (zk_l (zk_r zdX11_next_0)))))
theorem dX11_next_48 : decode cX11_next 48 = .ok (.aload_n 0, 1) := zk_of (zk_r (zk_r (zk_r (zk_l (zk_r zdX11_next_0)))))
theorem dX11_next_49 : decode cX11_next 49 = .ok (.getfield 67, 3) := zk_of (zk_l (zk_l (zk_l (zk_r (zk_r zdX11_next_0)))))
theorem dX11_next_52 : decode cX11_next 52 = .ok (.iload_n 1, 1) := zk_of (zk_r (zk_l (zk_l (zk_r (zk_r zdX11_next_0)))))
theorem dX11_next_53 : decode cX11_next 53 = .ok (.invokevirtual 300, 3) := zk_of (zk_l (zk_r (zk_l (zk_r (zk_r zdX11_next_0)))))
theorem dX11_next_56 : decode cX11_next 56 = .ok (.aload_n 0, 1) := zk_of (zk_r (zk_r (zk_l (zk_r (zk_r zdX11_next_0)))))
theorem dX11_next_57 : decode cX11_next 57 = .ok (.getfield 67, 3) := zk_of (zk_l (zk_l (zk_r (zk_r (zk_r zdX11_next_0)))))
theorem dX11_next_60 : decode cX11_next 60 = .ok (.getfield 306, 3) := zk_of (zk_r (zk_l (zk_r (zk_r (zk_r zdX11_next_0)))))
theorem dX11_next_63 : decode cX11_next 63 = .ok (.istore 5, 2) := zk_of (zk_l (zk_r (zk_r (zk_r (zk_r zdX11_next_0)))))
theorem dX11_next_65 : decode cX11_next 65 = .ok (.aload_n 0, 1) := zk_of (zk_r (zk_r (zk_r (zk_r (zk_r zdX11_next_0)))))
set_option maxRecDepth 20000 in
theorem ggX11_next_X11_isDay : GoodIn wsX11_next wsX11_isDay := ggi (fun w h => List.mem_cons_of_mem _ (List.mem_append_left _ (List.mem_append_left _ (List.mem_append_left _ (List.mem_append_left _ (List.mem_append_left _ (List.mem_append_left _ (List.mem_append_right _ (List.mem_append_left _ h))))))))) gs_X11_isDay
set_option maxRecDepth 20000 in
theorem gX11_next_X11_isDay : GoodIn wsX11_next (wsV RX11 174 RX11 yX11_isDay wsX11_isDay) := goodIn_app (goodIn_of _ (by decide +kernel)) ggX11_next_X11_isDay
set_option maxRecDepth 20000 in
theorem ggX11_next_X8_has : GoodIn wsX11_next wsX8_has := ggi (fun w h => List.mem_cons_of_mem _ (List.mem_append_left _ (List.mem_append_left _ (List.mem_append_left _ (List.mem_append_left _ (List.mem_append_left _ (List.mem_append_left _ (List.mem_append_right _ (List.mem_append_right _ (List.mem_append_left _ h)))))))))) gs_X8_has
set_option maxRecDepth 20000 in
theorem gX11_next_X8_has : GoodIn wsX11_next (wsV RX11 146 RX8 yX8_has wsX8_has) := goodIn_app (goodIn_of _ (by decide +kernel)) ggX11_next_X8_has
set_option maxRecDepth 20000 in
theorem ggX11_next_X11_isEither : GoodIn wsX11_next wsX11_isEither := ggi (fun w h => List.mem_cons_of_mem _ (List.mem_append_left _ (List.mem_append_left _ (List.mem_append_left _ (List.mem_append_left _ (List.mem_append_left _ (List.mem_append_left _ (List.mem_append_right _ (List.mem_append_right _ (List.mem_append_right _ (List.mem_append_left _ h))))))))))) gs_X11_isEither
set_option maxRecDepth 20000 in
theorem gX11_next_X11_isEither : GoodIn wsX11_next (va_wsS RX11 177 yX11_isEither wsX11_isEither) := goodIn_app (goodIn_of _ (by decide +kernel)) ggX11_next_X11_isEither
set_option maxRecDepth 20000 in
theorem ggX11_next_X7_recall : GoodIn wsX11_next wsX7_recall := ggi (fun w h => List.mem_cons_of_mem _ (List.mem_append_left _ (List.mem_append_left _ (List.mem_append_left _ (List.mem_append_left _ (List.mem_append_left _ (List.mem_append_left _ (List.mem_append_right _ (List.mem_append_right _ (List.mem_append_right _ (List.mem_append_right _ (List.mem_append_left _ h)))))))))))) gs_X7_recall
set_option maxRecDepth 20000 in
theorem gX11_next_X7_recall : GoodIn wsX11_next (wsV RX11 214 RX7 yX7_recall wsX7_recall) := goodIn_app (goodIn_of _ (by decide +kernel)) ggX11_next_X7_recall
set_option maxRecDepth 20000 in
theorem ggX11_next_X1_fit : GoodIn wsX11_next wsX1_fit := ggi (fun w h => List.mem_cons_of_mem _ (List.mem_append_left _ (List.mem_append_left _ (List.mem_append_left _ (List.mem_append_left _ (List.mem_append_left _ (List.mem_append_left _ (List.mem_append_right _ (List.mem_append_right _ (List.mem_append_right _ (List.mem_append_right _ (List.mem_append_right _ (List.mem_append_left _ h))))))))))))) gs_X1_fit
set_option maxRecDepth 20000 in
theorem gX11_next_X1_fit : GoodIn wsX11_next (wsV RX11 300 RX1 yX1_fit wsX1_fit) := goodIn_app (goodIn_of _ (by decide +kernel)) ggX11_next_X1_fit
theorem zdX11_next_66 : (and (and (and (and (and (zk cX11_next 66 (.getfield 67) 3) (zk cX11_next 69 (.iload_n 2) 1)) (and (zk cX11_next 70 (.invokevirtual 300) 3) (zk cX11_next 73 (.aload_n 0) 1))) (and (and (zk cX11_next 74 (.getfield 67) 3) (zk cX11_next 77 (.getfield 306) 3)) (and (zk cX11_next 80 (.istore 6) 2) (zk cX11_next 82 (.iload 5) 2)))) (and (and (and (zk cX11_next 84 (.iconst (-1)) 1) (zk cX11_next 85 (.if_icmp .eq 9) 3)) (and (zk cX11_next 94 (.iconst (-1)) 1) (zk cX11_next 95 (.ireturn) 1))) (and (and (zk cX11_next 88 (.iload 6) 2) (zk cX11_next 90 (.iconst (-1)) 1)) (and (zk cX11_next 91 (.if_icmp .ne 5) 3) (zk cX11_next 96 (.aload_n 0) 1))))) (and (and (and (and (zk cX11_next 97 (.getfield 67) 3) (zk cX11_next 100 (.iload_n 1) 1)) (and (zk cX11_next 101 (.iload 5) 2) (zk cX11_next 103 (.iload_n 2) 1))) (and (and (zk cX11_next 104 (.iload 6) 2) (zk cX11_next 106 (.invokevirtual 312) 3)) (and (zk cX11_next 109 (.iload 4) 2) (zk cX11_next 111 (.ifCond .ne 13) 3)))) (and (and (and (zk cX11_next 124 (.aload_n 0) 1) (zk cX11_next 125 (.getfield 67) 3)) (and (zk cX11_next 128 (.getfield 319) 3) (zk cX11_next 131 (.ireturn) 1))) (and (and (zk cX11_next 114 (.aload_n 0) 1) (zk cX11_next 115 (.getfield 67) 3)) (and (zk cX11_next 118 (.getfield 316) 3) (zk cX11_next 121 (.goto 10) 3)))))) = true := by decide +kernel
theorem dX11_next_66 : decode cX11_next 66 = .ok (.getfield 67, 3) := zk_of (zk_l (zk_l (zk_l (zk_l (zk_l zdX11_next_66)))))
theorem dX11_next_69 : decode cX11_next 69 = .ok (.iload_n 2, 1) := zk_of (zk_r (zk_l (zk_l (zk_l (zk_l zdX11_next_66)))))
theorem dX11_next_70 : decode cX11_next 70 = .ok (.invokevirtual 300, 3) := zk_of (zk_l (zk_r (zk_l (zk_l (zk_l zdX11_next_66)))))
theorem dX11_next_73 : decode cX11_next 73 = .ok (.aload_n 0, 1) := zk_of (zk_r (zk_r (zk_l (zk_l (zk_l zdX11_next_66)))))
theorem dX11_next_74 : decode cX11_next 74 = .ok (.getfield 67, 3) := zk_of (zk_l (zk_l (zk_r (zk_l (zk_l zdX11_next_66)))))
theorem dX11_next_77 : decode cX11_next 77 = .ok (.getfield 306, 3) := zk_of (zk_r (zk_l (zk_r (zk_l (zk_l zdX11_next_66)))))
theorem dX11_next_80 : decode cX11_next 80 = .ok (.istore 6, 2) := zk_of (zk_l (zk_r (zk_r (zk_l (zk_l zdX11_next_66)))))
theorem dX11_next_82 : decode cX11_next 82 = .ok (.iload 5, 2) := zk_of (zk_r (zk_r (zk_r (zk_l (zk_l zdX11_next_66)))))
theorem dX11_next_84 : decode cX11_next 84 = .ok (.iconst (-1), 1) := zk_of (zk_l (zk_l (zk_l (zk_r (zk_l zdX11_next_66)))))
theorem dX11_next_85 : decode cX11_next 85 = .ok (.if_icmp .eq 9, 3) := zk_of (zk_r (zk_l (zk_l (zk_r (zk_l zdX11_next_66)))))
theorem dX11_next_94 : decode cX11_next 94 = .ok (.iconst (-1), 1) := zk_of (zk_l (zk_r (zk_l (zk_r (zk_l zdX11_next_66)))))
theorem dX11_next_95 : decode cX11_next 95 = .ok (.ireturn, 1) := zk_of (zk_r (zk_r (zk_l (zk_r (zk_l zdX11_next_66)))))
theorem dX11_next_88 : decode cX11_next 88 = .ok (.iload 6, 2) := zk_of (zk_l (zk_l (zk_r (zk_r (zk_l zdX11_next_66)))))
theorem dX11_next_90 : decode cX11_next 90 = .ok (.iconst (-1), 1) := zk_of (zk_r (zk_l (zk_r (zk_r (zk_l zdX11_next_66)))))
theorem dX11_next_91 : decode cX11_next 91 = .ok (.if_icmp .ne 5, 3) := zk_of (zk_l (zk_r (zk_r (zk_r (zk_l zdX11_next_66)))))
theorem dX11_next_96 : decode cX11_next 96 = .ok (.aload_n 0, 1) := zk_of (zk_r (zk_r (zk_r (zk_r (zk_l zdX11_next_66)))))
theorem dX11_next_97 : decode cX11_next 97 = .ok (.getfield 67, 3) := zk_of (zk_l (zk_l (zk_l (zk_l (zk_r zdX11_next_66)))))
theorem dX11_next_100 : decode cX11_next 100 = .ok (.iload_n 1, 1) := zk_of (zk_r (zk_l (zk_l (zk_l (zk_r zdX11_next_66)))))
theorem dX11_next_101 : decode cX11_next 101 = .ok (.iload 5, 2) := zk_of (zk_l (zk_r (zk_l (zk_l (zk_r zdX11_next_66)))))
theorem dX11_next_103 : decode cX11_next 103 = .ok (.iload_n 2, 1) := zk_of (zk_r (zk_r (zk_l (zk_l (zk_r zdX11_next_66)))))
theorem dX11_next_104 : decode cX11_next 104 = .ok (.iload 6, 2) := zk_of (zk_l (zk_l (zk_r (zk_l (zk_r zdX11_next_66)))))
theorem dX11_next_106 : decode cX11_next 106 = .ok (.invokevirtual 312, 3) := zk_of (zk_r (zk_l (zk_r (zk_l (zk_r zdX11_next_66)))))
theorem dX11_next_109 : decode cX11_next 109 = .ok (.iload 4, 2) := zk_of (zk_l (zk_r (zk_r (zk_l (zk_r zdX11_next_66)))))
theorem dX11_next_111 : decode cX11_next 111 = .ok (.ifCond .ne 13, 3) := zk_of (zk_r (zk_r (zk_r (zk_l (zk_r zdX11_next_66)))))
theorem dX11_next_124 : decode cX11_next 124 = .ok (.aload_n 0, 1) := zk_of (zk_l (zk_l (zk_l (zk_r (zk_r zdX11_next_66)))))
theorem dX11_next_125 : decode cX11_next 125 = .ok (.getfield 67, 3) := zk_of (zk_r (zk_l (zk_l (zk_r (zk_r zdX11_next_66)))))
theorem dX11_next_128 : decode cX11_next 128 = .ok (.getfield 319, 3) := zk_of (zk_l (zk_r (zk_l (zk_r (zk_r zdX11_next_66)))))
theorem dX11_next_131 : decode cX11_next 131 = .ok (.ireturn, 1) := zk_of (zk_r (zk_r (zk_l (zk_r (zk_r zdX11_next_66)))))
theorem dX11_next_114 : decode cX11_next 114 = .ok (.aload_n 0, 1) := zk_of (zk_l (zk_l (zk_r (zk_r (zk_r zdX11_next_66)))))
theorem dX11_next_115 : decode cX11_next 115 = .ok (.getfield 67, 3) := zk_of (zk_r (zk_l (zk_r (zk_r (zk_r zdX11_next_66)))))
theorem dX11_next_118 : decode cX11_next 118 = .ok (.getfield 316, 3) := zk_of (zk_l (zk_r (zk_r (zk_r (zk_r zdX11_next_66)))))
theorem dX11_next_121 : decode cX11_next 121 = .ok (.goto 10, 3) := zk_of (zk_r (zk_r (zk_r (zk_r (zk_r zdX11_next_66)))))
set_option maxRecDepth 20000 in
theorem ggX11_next_X1_tellApart : GoodIn wsX11_next wsX1_tellApart := ggi (fun w h => List.mem_cons_of_mem _ (List.mem_append_left _ (List.mem_append_left _ (List.mem_append_left _ (List.mem_append_left _ (List.mem_append_left _ (List.mem_append_left _ (List.mem_append_right _ (List.mem_append_right _ (List.mem_append_right _ (List.mem_append_right _ (List.mem_append_right _ (List.mem_append_right _ h))))))))))))) gs_X1_tellApart
set_option maxRecDepth 20000 in
theorem gX11_next_X1_tellApart : GoodIn wsX11_next (wsV RX11 312 RX1 yX1_tellApart wsX1_tellApart) := goodIn_app (goodIn_of _ (by decide +kernel)) ggX11_next_X1_tellApart
/-- HissHorn.next(IIII)I of cell 0 -/
def rmX11_next_0 : Room := { frames := 7, cells := 0, slots := 0, locals := 162 }
theorem hX11_next_0_X11 : ∀ w ∈ u_ws RX11 TX11 13, w ∈ wsX11_next := fun w h => (List.mem_cons_of_mem _ (List.mem_append_left _ (List.mem_append_left _ (List.mem_append_left _ (List.mem_append_left _ (List.mem_append_left _ (List.mem_append_right _ h)))))))
theorem mX11_next_0_1 : Cond.fieldLink RX11 38 "HissHorn" "guesses" "LHissHorn$Shelf;" ∈ wsX11_next := (List.mem_cons_of_mem _ (List.mem_append_left _ (List.mem_append_left _ (List.mem_append_left _ (List.mem_append_left _ (List.mem_append_left _ (List.mem_append_left _ (List.mem_append_left _ (List.mem_of_getElem? (i := 21) rfl)))))))))
theorem mX11_next_0_2 : Cond.fieldLink RX11 58 "HissHorn" "readings" "LHissHorn$Readings;" ∈ wsX11_next := (List.mem_cons_of_mem _ (List.mem_append_left _ (List.mem_append_left _ (List.mem_append_left _ (List.mem_append_left _ (List.mem_append_left _ (List.mem_append_left _ (List.mem_append_left _ (List.mem_of_getElem? (i := 22) rfl)))))))))
theorem mX11_next_0_3 : Cond.fieldLink RX11 67 "HissHorn" "findings" "LHissHorn$Findings;" ∈ wsX11_next := (List.mem_cons_of_mem _ (List.mem_append_left _ (List.mem_append_left _ (List.mem_append_left _ (List.mem_append_left _ (List.mem_append_left _ (List.mem_append_left _ (List.mem_append_left _ (List.mem_of_getElem? (i := 23) rfl)))))))))
theorem hX11_next_0_X1 : ∀ w ∈ u_ws RX1 TX1 13, w ∈ wsX11_next := fun w h => (List.mem_cons_of_mem _ (List.mem_append_left _ (List.mem_append_left _ (List.mem_append_left _ (List.mem_append_left _ (List.mem_append_right _ h))))))
theorem mX11_next_0_5 : Cond.fieldLink RX11 306 "HissHorn$Findings" "leastFit" "I" ∈ wsX11_next := (List.mem_cons_of_mem _ (List.mem_append_left _ (List.mem_append_left _ (List.mem_append_left _ (List.mem_append_left _ (List.mem_append_left _ (List.mem_append_left _ (List.mem_append_left _ (List.mem_of_getElem? (i := 24) rfl)))))))))
theorem mX11_next_0_6 : Cond.fieldLink RX11 319 "HissHorn$Findings" "farthest" "I" ∈ wsX11_next := (List.mem_cons_of_mem _ (List.mem_append_left _ (List.mem_append_left _ (List.mem_append_left _ (List.mem_append_left _ (List.mem_append_left _ (List.mem_append_left _ (List.mem_append_left _ (List.mem_of_getElem? (i := 25) rfl)))))))))
theorem mX11_next_0_7 : Cond.fieldLink RX11 316 "HissHorn$Findings" "farthestWave" "I" ∈ wsX11_next := (List.mem_cons_of_mem _ (List.mem_append_left _ (List.mem_append_left _ (List.mem_append_left _ (List.mem_append_left _ (List.mem_append_left _ (List.mem_append_left _ (List.mem_append_left _ (List.mem_of_getElem? (i := 26) rfl)))))))))
def fX11_next_0 (x1 : Int32) (x2 : Int32) (x3 : Int32) (x4 : Int32) (u : SX) : Option (Int32 × SX) := ((fX11_isDay_0 x3 u).bind fun q => match q with | (r1, u2) => (if r1 = 0 then (some ((-1), u2)) else ((fX8_has_4 x1 u2).bind fun q => match q with | (r4, u5) => (if r4 = 0 then (some ((-1), u5)) else ((fX8_has_4 x2 u5).bind fun q => match q with | (r7, u8) => (if r7 = 0 then (some ((-1), u8)) else ((fX11_isEither x4).bind fun r10 => (if r10 = 0 then (some ((-1), u8)) else ((fX7_recall_7 x3 u8).bind fun q => match q with | (r13, u14) => ((fX1_fit_8 x1 u14).bind fun q => match q with | (r16, u17) => (lt (u17.1 19) fun v19 => ((fX1_fit_8 x2 u17).bind fun q => match q with | (r21, u22) => (lt (u22.1 19) fun v24 => (if v19 = (-1) then (some ((-1), u22)) else (if v24 = (-1) then (some ((-1), u22)) else ((fX1_tellApart_8 x1 v19 x2 v24 u22).bind fun q => match q with | (r26, u27) => (if x4 = 0 then (some (u27.1 22, u27)) else (some (u27.1 23, u27)))))))))))))))))))
set_option maxHeartbeats 4000000 in
set_option maxRecDepth 100000 in
theorem wX11_next_0 {p : Program} {l : Launch} {e : Env} {s : State} {m : MethodId} {args : Array Value} {below : List Frame} {meth : Method} {c : Code} {D : va_G} {cy : Nat → ClassId} {ad st : Nat → Nat} (C : Cx RX11 cX11_next 7 (some .int) wsX11_next p s m args meth c) (hK : Ky D [(cy 0, .int), (cy 1, .long), (cy 2, .boolean), (cy 3, .byte), (cy 4, .object "HissHorn$Text")] st s) (hJ : JX ad st) (x1 : Int32) (x2 : Int32) (x3 : Int32) (x4 : Int32) {u : SX} {r : Int32} {u' : SX} {H : Heap} {locs : List Loc} {ls : Array Slot} (h : fX11_next_0 x1 x2 x3 x4 u = some (r, u')) (hP : va_P D vwCl (VX cy ad st u) H) (hS : va_S (Ax (AX ad) s.heap.size) s.heap H locs) (hl : lv_has ls 7 [(0, .ref (ad 0)), (1, .int x1), (2, .int x2), (3, .int x3), (4, .int x4)]) : W p l e rmX11_next_0 s m args below meth c H locs 0 0 (MQ below (Qi D (VX cy ad st) (AX ad) s.heap.size r u') args s 0 0 (Ax (AX ad) s.heap.size)) (F0 m 0 ls []) := by
  unfold fX11_next_0 at h
  refine lv_aload_n C.1 C.2.1 dX11_next_0 rfl (lv_at hl 0 rfl) ?_
  refine lv_iload_n C.1 C.2.1 dX11_next_1 rfl (lv_at hl 3 rfl) ?_
  obtain ⟨⟨r1, u2⟩, hc3, h⟩ := bd_some h
  try dsimp only at h
  refine cg_i (As := [.int x3]) (rest := []) (AX_ge hJ) C hK hP hS (metX11_isDay_0 l D cy ad st hJ _ x3 hc3) (cwV 1 C.2.2.2.2.2.1 gX11_next_X11_isDay rfl rfl rfl (by decide +kernel) ⟨(Nat.le_of_ble_eq_true rfl), (Nat.le_of_ble_eq_true rfl)⟩) 0 11 rfl rfl rfl hl.1 rfl (Nat.le_of_ble_eq_true rfl) dX11_next_2 ⟨Nat.zero_le _, Nat.zero_le _⟩ (fun H locs hP hS => ?_)
  refine lv_if_eq (tgt := 38) C.1 C.2.1 dX11_next_5 (by decide) (fun c5 => ?_) (fun c5 => ?_)
  · rw [if_pos c5] at h
    refine lv_iconst (v := (-1)) C.1 C.2.1 dX11_next_38 (by decide) ?_
    cases h
    exact rt_i C hP hS dX11_next_39
  · rw [if_neg c5] at h
    refine lv_aload_n C.1 C.2.1 dX11_next_8 rfl (lv_at hl 0 rfl) ?_
    refine gX_0_guesses C hX11_next_0_X11 hK hP mX11_next_0_1 dX11_next_9 ?_
    refine lv_iload_n C.1 C.2.1 dX11_next_12 rfl (lv_at hl 1 rfl) ?_
    obtain ⟨⟨r4, u5⟩, hc6, h⟩ := bd_some h
    try dsimp only at h
    refine cg_i (As := [.int x1]) (rest := []) (AX_ge hJ) C hK hP hS (metX8_has_4 l D cy ad st hJ _ x1 hc6) (cwV 1 C.2.2.2.2.2.1 gX11_next_X8_has rfl rfl rfl (by decide +kernel) ⟨(Nat.le_of_ble_eq_true rfl), (Nat.le_of_ble_eq_true rfl)⟩) 4 8 rfl rfl rfl hl.1 rfl (Nat.le_of_ble_eq_true rfl) dX11_next_13 ⟨Nat.zero_le _, Nat.zero_le _⟩ (fun H locs hP hS => ?_)
    refine lv_if_eq (tgt := 38) C.1 C.2.1 dX11_next_16 (by decide) (fun c16 => ?_) (fun c16 => ?_)
    · rw [if_pos c16] at h
      refine lv_iconst (v := (-1)) C.1 C.2.1 dX11_next_38 (by decide) ?_
      cases h
      exact rt_i C hP hS dX11_next_39
    · rw [if_neg c16] at h
      refine lv_aload_n C.1 C.2.1 dX11_next_19 rfl (lv_at hl 0 rfl) ?_
      refine gX_0_guesses C hX11_next_0_X11 hK hP mX11_next_0_1 dX11_next_20 ?_
      refine lv_iload_n C.1 C.2.1 dX11_next_23 rfl (lv_at hl 2 rfl) ?_
      obtain ⟨⟨r7, u8⟩, hc9, h⟩ := bd_some h
      try dsimp only at h
      refine cg_i (As := [.int x2]) (rest := []) (AX_ge hJ) C hK hP hS (metX8_has_4 l D cy ad st hJ _ x2 hc9) (cwV 1 C.2.2.2.2.2.1 gX11_next_X8_has rfl rfl rfl (by decide +kernel) ⟨(Nat.le_of_ble_eq_true rfl), (Nat.le_of_ble_eq_true rfl)⟩) 4 8 rfl rfl rfl hl.1 rfl (Nat.le_of_ble_eq_true rfl) dX11_next_24 ⟨Nat.zero_le _, Nat.zero_le _⟩ (fun H locs hP hS => ?_)
      refine lv_if_eq (tgt := 38) C.1 C.2.1 dX11_next_27 (by decide) (fun c27 => ?_) (fun c27 => ?_)
      · rw [if_pos c27] at h
        refine lv_iconst (v := (-1)) C.1 C.2.1 dX11_next_38 (by decide) ?_
        cases h
        exact rt_i C hP hS dX11_next_39
      · rw [if_neg c27] at h
        refine lv_iload C.1 C.2.1 dX11_next_30 (lv_at hl 4 rfl) ?_
        obtain ⟨r10, hc12, h⟩ := bd_some h
        refine cs_i (As := [.int x4]) (rest := []) (AX_ge hJ) C hK hP hS (metX11_isEither l D cy st _ x4 hc12) (va_cwS 1 C.2.2.2.2.2.1 gX11_next_X11_isEither rfl rfl rfl (by decide +kernel) ⟨(Nat.le_of_ble_eq_true rfl), (Nat.le_of_ble_eq_true rfl)⟩) rfl hl.1 rfl (Nat.le_of_ble_eq_true rfl) dX11_next_32 ⟨Nat.zero_le _, Nat.zero_le _⟩ (fun H locs hP hS => ?_)
        refine lv_if_ne (tgt := 40) C.1 C.2.1 dX11_next_35 (by decide) (fun c35 => ?_) (fun c35 => ?_)
        · rw [if_neg c35] at h
          refine lv_aload_n C.1 C.2.1 dX11_next_40 rfl (lv_at hl 0 rfl) ?_
          refine gX_0_readings C hX11_next_0_X11 hK hP mX11_next_0_2 dX11_next_41 ?_
          refine lv_iload_n C.1 C.2.1 dX11_next_44 rfl (lv_at hl 3 rfl) ?_
          obtain ⟨⟨r13, u14⟩, hc15, h⟩ := bd_some h
          try dsimp only at h
          refine cg_v (As := [.int x3]) (rest := []) (AX_ge hJ) C hK hP hS (metX7_recall_7 l D cy ad st hJ _ x3 hc15) (cwV 1 C.2.2.2.2.2.1 gX11_next_X7_recall rfl rfl rfl (by decide +kernel) ⟨(Nat.le_of_ble_eq_true rfl), (Nat.le_of_ble_eq_true rfl)⟩) 7 7 rfl rfl rfl hl.1 rfl (Nat.le_of_ble_eq_true rfl) dX11_next_45 ⟨Nat.zero_le _, Nat.zero_le _⟩ (fun H locs hP hS => ?_)
          refine lv_aload_n C.1 C.2.1 dX11_next_48 rfl (lv_at hl 0 rfl) ?_
          refine gX_0_findings C hX11_next_0_X11 hK hP mX11_next_0_3 dX11_next_49 ?_
          refine lv_iload_n C.1 C.2.1 dX11_next_52 rfl (lv_at hl 1 rfl) ?_
          obtain ⟨⟨r16, u17⟩, hc18, h⟩ := bd_some h
          try dsimp only at h
          refine cg_v (As := [.int x1]) (rest := []) (AX_ge hJ) C hK hP hS (metX1_fit_8 l D cy ad st hJ _ x1 hc18) (cwV 1 C.2.2.2.2.2.1 gX11_next_X1_fit rfl rfl rfl (by decide +kernel) ⟨(Nat.le_of_ble_eq_true rfl), (Nat.le_of_ble_eq_true rfl)⟩) 8 1 rfl rfl rfl hl.1 rfl (Nat.le_of_ble_eq_true rfl) dX11_next_53 ⟨Nat.zero_le _, Nat.zero_le _⟩ (fun H locs hP hS => ?_)
          refine lv_aload_n C.1 C.2.1 dX11_next_56 rfl (lv_at hl 0 rfl) ?_
          refine gX_0_findings C hX11_next_0_X11 hK hP mX11_next_0_3 dX11_next_57 ?_
          refine gX_8_leastFit C hX11_next_0_X1 hK hP mX11_next_0_5 dX11_next_60 ?_
          refine lv_topi (fun v19 hv20 => ?_)
          replace h := lt_e hv20 h
          try dsimp only at h
          refine lv_istore (lv' := [(5, .int v19), (0, .ref (ad 0)), (1, .int x1), (2, .int x2), (3, .int x3), (4, .int x4)]) C.1 C.2.1 dX11_next_63 hl (by decide) rfl (fun ls hl => ?_)
          replace hl := lv_sub (l' := [(0, .ref (ad 0)), (1, .int x1), (2, .int x2), (3, .int x3), (4, .int x4), (5, .int v19)]) hl [1, 2, 3, 4, 5, 0] rfl
          refine lv_aload_n C.1 C.2.1 dX11_next_65 rfl (lv_at hl 0 rfl) ?_
          refine gX_0_findings C hX11_next_0_X11 hK hP mX11_next_0_3 dX11_next_66 ?_
          refine lv_iload_n C.1 C.2.1 dX11_next_69 rfl (lv_at hl 2 rfl) ?_
          obtain ⟨⟨r21, u22⟩, hc23, h⟩ := bd_some h
          try dsimp only at h
          refine cg_v (As := [.int x2]) (rest := []) (AX_ge hJ) C hK hP hS (metX1_fit_8 l D cy ad st hJ _ x2 hc23) (cwV 1 C.2.2.2.2.2.1 gX11_next_X1_fit rfl rfl rfl (by decide +kernel) ⟨(Nat.le_of_ble_eq_true rfl), (Nat.le_of_ble_eq_true rfl)⟩) 8 1 rfl rfl rfl hl.1 rfl (Nat.le_of_ble_eq_true rfl) dX11_next_70 ⟨Nat.zero_le _, Nat.zero_le _⟩ (fun H locs hP hS => ?_)
          refine lv_aload_n C.1 C.2.1 dX11_next_73 rfl (lv_at hl 0 rfl) ?_
          refine gX_0_findings C hX11_next_0_X11 hK hP mX11_next_0_3 dX11_next_74 ?_
          refine gX_8_leastFit C hX11_next_0_X1 hK hP mX11_next_0_5 dX11_next_77 ?_
          refine lv_topi (fun v24 hv25 => ?_)
          replace h := lt_e hv25 h
          try dsimp only at h
          refine lv_istore (lv' := [(6, .int v24), (0, .ref (ad 0)), (1, .int x1), (2, .int x2), (3, .int x3), (4, .int x4), (5, .int v19)]) C.1 C.2.1 dX11_next_80 hl (by decide) rfl (fun ls hl => ?_)
          replace hl := lv_sub (l' := [(0, .ref (ad 0)), (1, .int x1), (2, .int x2), (3, .int x3), (4, .int x4), (5, .int v19), (6, .int v24)]) hl [1, 2, 3, 4, 5, 6, 0] rfl
          refine lv_iload C.1 C.2.1 dX11_next_82 (lv_at hl 5 rfl) ?_
          refine lv_iconst (v := (-1)) C.1 C.2.1 dX11_next_84 (by decide) ?_
          refine lv_icmp_eq (tgt := 94) C.1 C.2.1 dX11_next_85 (by decide) (fun c85 => ?_) (fun c85 => ?_)
          · rw [if_pos c85] at h
            refine lv_iconst (v := (-1)) C.1 C.2.1 dX11_next_94 (by decide) ?_
            cases h
            exact rt_i C hP hS dX11_next_95
          · rw [if_neg c85] at h
            refine lv_iload C.1 C.2.1 dX11_next_88 (lv_at hl 6 rfl) ?_
            refine lv_iconst (v := (-1)) C.1 C.2.1 dX11_next_90 (by decide) ?_
            refine lv_icmp_ne (tgt := 96) C.1 C.2.1 dX11_next_91 (by decide) (fun c91 => ?_) (fun c91 => ?_)
            · rw [if_neg c91] at h
              refine lv_aload_n C.1 C.2.1 dX11_next_96 rfl (lv_at hl 0 rfl) ?_
              refine gX_0_findings C hX11_next_0_X11 hK hP mX11_next_0_3 dX11_next_97 ?_
              refine lv_iload_n C.1 C.2.1 dX11_next_100 rfl (lv_at hl 1 rfl) ?_
              refine lv_iload C.1 C.2.1 dX11_next_101 (lv_at hl 5 rfl) ?_
              refine lv_iload_n C.1 C.2.1 dX11_next_103 rfl (lv_at hl 2 rfl) ?_
              refine lv_iload C.1 C.2.1 dX11_next_104 (lv_at hl 6 rfl) ?_
              obtain ⟨⟨r26, u27⟩, hc28, h⟩ := bd_some h
              try dsimp only at h
              refine cg_v (As := [.int x1, .int v19, .int x2, .int v24]) (rest := []) (AX_ge hJ) C hK hP hS (metX1_tellApart_8 l D cy ad st hJ _ x1 v19 x2 v24 hc28) (cwV 4 C.2.2.2.2.2.1 gX11_next_X1_tellApart rfl rfl rfl (by decide +kernel) ⟨(Nat.le_of_ble_eq_true rfl), (Nat.le_of_ble_eq_true rfl)⟩) 8 1 rfl rfl rfl hl.1 rfl (Nat.le_of_ble_eq_true rfl) dX11_next_106 ⟨Nat.zero_le _, Nat.zero_le _⟩ (fun H locs hP hS => ?_)
              refine lv_iload C.1 C.2.1 dX11_next_109 (lv_at hl 4 rfl) ?_
              refine lv_if_ne (tgt := 124) C.1 C.2.1 dX11_next_111 (by decide) (fun c111 => ?_) (fun c111 => ?_)
              · rw [if_neg c111] at h
                refine lv_aload_n C.1 C.2.1 dX11_next_124 rfl (lv_at hl 0 rfl) ?_
                refine gX_0_findings C hX11_next_0_X11 hK hP mX11_next_0_3 dX11_next_125 ?_
                refine gX_8_farthest C hX11_next_0_X1 hK hP mX11_next_0_6 dX11_next_128 ?_
                cases h
                exact rt_i C hP hS dX11_next_131
              · rw [if_pos c111] at h
                refine lv_aload_n C.1 C.2.1 dX11_next_114 rfl (lv_at hl 0 rfl) ?_
                refine gX_0_findings C hX11_next_0_X11 hK hP mX11_next_0_3 dX11_next_115 ?_
                refine gX_8_farthestWave C hX11_next_0_X1 hK hP mX11_next_0_7 dX11_next_118 ?_
                refine lv_goto (tgt := 131) C.1 C.2.1 dX11_next_121 (by decide) ?_
                cases h
                exact rt_i C hP hS dX11_next_131
            · rw [if_pos c91] at h
              refine lv_iconst (v := (-1)) C.1 C.2.1 dX11_next_94 (by decide) ?_
              cases h
              exact rt_i C hP hS dX11_next_95
        · rw [if_pos c35] at h
          refine lv_iconst (v := (-1)) C.1 C.2.1 dX11_next_38 (by decide) ?_
          cases h
          exact rt_i C hP hS dX11_next_39
theorem metX11_next_0 (l : Launch) (D : va_G) (cy : Nat → ClassId) (ad st : Nat → Nat) (hJ : JX ad st) (sz : Nat) (x1 : Int32) (x2 : Int32) (x3 : Int32) (x4 : Int32) {u : SX} {r : Int32} {u' : SX} (h : fX11_next_0 x1 x2 x3 x4 u = some (r, u')) : Met l yX11_next wsX11_next rmX11_next_0 (va_Pc [.ref (ad 0), .int x1, .int x2, .int x3, .int x4] (Px D [(cy 0, .int), (cy 1, .long), (cy 2, .boolean), (cy 3, .byte), (cy 4, .object "HissHorn$Text")] st (VX cy ad st) sz u)) (Qi D (VX cy ad st) (AX ad) sz r u') 0 0 (Ax (AX ad) sz) := by
  refine Met.ofW (cc := cX11_next) (maxL := 7) (ret := (some .int)) (by decide) rfl ?_
  intro p e s m args below meth c s₁ B hml hv
  obtain ⟨rfl, hsz, hP, hK⟩ := hv
  subst hsz
  have C : Cx RX11 cX11_next 7 (some .int) wsX11_next p s m _ meth c := ⟨B.exec, B.bytes, hml, B.returns, findClass_of_methodNamed B.named, atoms_spec (ws := wsX11_next) B.pre, B.notSynchronized⟩
  have hl := lv_entry ([.ref (ad 0), .int x1, .int x2, .int x3, .int x4]) (n := 7) (Nat.le_of_ble_eq_true rfl)
  rw [lg_entry_eq]
  exact wX11_next_0 C hK hJ x1 x2 x3 x4 h hP va_S.rf hl

theorem zdX11_house_0 : (and (and (and (and (and (zk cX11_house 0 (.aload_n 0) 1) (zk cX11_house 1 (.getfield 90) 3)) (zk cX11_house 4 (.getfield 322) 3)) (and (zk cX11_house 7 (.bipush 8) 2) (zk cX11_house 9 (.if_icmp .lt 5) 3))) (and (and (and (zk cX11_house 14 (.aload_n 0) 1) (zk cX11_house 15 (.getfield 90) 3)) (zk cX11_house 18 (.dup) 1)) (and (zk cX11_house 19 (.getfield 322) 3) (zk cX11_house 22 (.iconst 1) 1)))) (and (and (and (and (zk cX11_house 23 (.iadd) 1) (zk cX11_house 24 (.putfield 322) 3)) (zk cX11_house 27 (.aload_n 0) 1)) (and (zk cX11_house 28 (.getfield 90) 3) (zk cX11_house 31 (.getfield 322) 3))) (and (and (and (zk cX11_house 34 (.iconst 1) 1) (zk cX11_house 35 (.isub) 1)) (zk cX11_house 36 (.ireturn) 1)) (and (zk cX11_house 12 (.iconst (-1)) 1) (zk cX11_house 13 (.ireturn) 1))))) = true := by decide +kernel
theorem dX11_house_0 : decode cX11_house 0 = .ok (.aload_n 0, 1) := zk_of (zk_l (zk_l (zk_l (zk_l (zk_l zdX11_house_0)))))
theorem dX11_house_1 : decode cX11_house 1 = .ok (.getfield 90, 3) := zk_of (zk_r (zk_l (zk_l (zk_l (zk_l zdX11_house_0)))))
theorem dX11_house_4 : decode cX11_house 4 = .ok (.getfield 322, 3) := zk_of (zk_r (zk_l (zk_l (zk_l zdX11_house_0))))
theorem dX11_house_7 : decode cX11_house 7 = .ok (.bipush 8, 2) := zk_of (zk_l (zk_r (zk_l (zk_l zdX11_house_0))))
theorem dX11_house_9 : decode cX11_house 9 = .ok (.if_icmp .lt 5, 3) := zk_of (zk_r (zk_r (zk_l (zk_l zdX11_house_0))))
theorem dX11_house_14 : decode cX11_house 14 = .ok (.aload_n 0, 1) := zk_of (zk_l (zk_l (zk_l (zk_r (zk_l zdX11_house_0)))))
theorem dX11_house_15 : decode cX11_house 15 = .ok (.getfield 90, 3) := zk_of (zk_r (zk_l (zk_l (zk_r (zk_l zdX11_house_0)))))
theorem dX11_house_18 : decode cX11_house 18 = .ok (.dup, 1) := zk_of (zk_r (zk_l (zk_r (zk_l zdX11_house_0))))
theorem dX11_house_19 : decode cX11_house 19 = .ok (.getfield 322, 3) := zk_of (zk_l (zk_r (zk_r (zk_l zdX11_house_0))))
theorem dX11_house_22 : decode cX11_house 22 = .ok (.iconst 1, 1) := zk_of (zk_r (zk_r (zk_r (zk_l zdX11_house_0))))
theorem dX11_house_23 : decode cX11_house 23 = .ok (.iadd, 1) := zk_of (zk_l (zk_l (zk_l (zk_l (zk_r zdX11_house_0)))))
theorem dX11_house_24 : decode cX11_house 24 = .ok (.putfield 322, 3) := zk_of (zk_r (zk_l (zk_l (zk_l (zk_r zdX11_house_0)))))
theorem dX11_house_27 : decode cX11_house 27 = .ok (.aload_n 0, 1) := zk_of (zk_r (zk_l (zk_l (zk_r zdX11_house_0))))
theorem dX11_house_28 : decode cX11_house 28 = .ok (.getfield 90, 3) := zk_of (zk_l (zk_r (zk_l (zk_r zdX11_house_0))))
theorem dX11_house_31 : decode cX11_house 31 = .ok (.getfield 322, 3) := zk_of (zk_r (zk_r (zk_l (zk_r zdX11_house_0))))
theorem dX11_house_34 : decode cX11_house 34 = .ok (.iconst 1, 1) := zk_of (zk_l (zk_l (zk_l (zk_r (zk_r zdX11_house_0)))))
theorem dX11_house_35 : decode cX11_house 35 = .ok (.isub, 1) := zk_of (zk_r (zk_l (zk_l (zk_r (zk_r zdX11_house_0)))))
theorem dX11_house_36 : decode cX11_house 36 = .ok (.ireturn, 1) := zk_of (zk_r (zk_l (zk_r (zk_r zdX11_house_0))))
theorem dX11_house_12 : decode cX11_house 12 = .ok (.iconst (-1), 1) := zk_of (zk_l (zk_r (zk_r (zk_r zdX11_house_0))))
theorem dX11_house_13 : decode cX11_house 13 = .ok (.ireturn, 1) := zk_of (zk_r (zk_r (zk_r (zk_r zdX11_house_0))))
/-- HissHorn.house()I of cell 0 -/
def rmX11_house_0 : Room := { frames := 0, cells := 0, slots := 0, locals := 0 }
theorem hX11_house_0_X11 : ∀ w ∈ u_ws RX11 TX11 13, w ∈ wsX11_house := fun w h => (List.mem_cons_of_mem _ (List.mem_append_left _ (List.mem_append_right _ h)))
theorem mX11_house_0_1 : Cond.fieldLink RX11 90 "HissHorn" "houses" "LHissHorn$Houses;" ∈ wsX11_house := (List.mem_cons_of_mem _ (List.mem_append_left _ (List.mem_append_left _ (List.mem_of_getElem? (i := 0) rfl))))
theorem hX11_house_0_X2 : ∀ w ∈ u_ws RX2 TX2 18, w ∈ wsX11_house := fun w h => (List.mem_cons_of_mem _ (List.mem_append_right _ h))
theorem mX11_house_0_3 : Cond.fieldLink RX11 322 "HissHorn$Houses" "size" "I" ∈ wsX11_house := (List.mem_cons_of_mem _ (List.mem_append_left _ (List.mem_append_left _ (List.mem_of_getElem? (i := 1) rfl))))
def fX11_house_0  (u : SX) : Option (Int32 × SX) := (if (u.1 35) < 8 then (lt (sI u 35 ((u.1 35) + 1)) fun u1 => (some ((u1.1 35) - 1, u1))) else (some ((-1), u)))
set_option maxHeartbeats 4000000 in
set_option maxRecDepth 100000 in
theorem wX11_house_0 {p : Program} {l : Launch} {e : Env} {s : State} {m : MethodId} {args : Array Value} {below : List Frame} {meth : Method} {c : Code} {D : va_G} {cy : Nat → ClassId} {ad st : Nat → Nat} (C : Cx RX11 cX11_house 1 (some .int) wsX11_house p s m args meth c) (hK : Ky D [(cy 0, .int), (cy 1, .long), (cy 2, .boolean), (cy 3, .byte), (cy 4, .object "HissHorn$Text")] st s) (hJ : JX ad st)  {u : SX} {r : Int32} {u' : SX} {H : Heap} {locs : List Loc} {ls : Array Slot} (h : fX11_house_0  u = some (r, u')) (hP : va_P D vwCl (VX cy ad st u) H) (hS : va_S (Ax (AX ad) s.heap.size) s.heap H locs) (hl : lv_has ls 1 [(0, .ref (ad 0))]) : W p l e rmX11_house_0 s m args below meth c H locs 0 0 (MQ below (Qi D (VX cy ad st) (AX ad) s.heap.size r u') args s 0 0 (Ax (AX ad) s.heap.size)) (F0 m 0 ls []) := by
  unfold fX11_house_0 at h
  refine lv_aload_n C.1 C.2.1 dX11_house_0 rfl (lv_at hl 0 rfl) ?_
  refine gX_0_houses C hX11_house_0_X11 hK hP mX11_house_0_1 dX11_house_1 ?_
  refine gX_11_size C hX11_house_0_X2 hK hP mX11_house_0_3 dX11_house_4 ?_
  refine lv_bipush (v := 8) C.1 C.2.1 dX11_house_7 (by decide) ?_
  refine lv_icmp_lt (tgt := 14) C.1 C.2.1 dX11_house_9 (by decide) (fun c9 => ?_) (fun c9 => ?_)
  · rw [if_pos c9] at h
    refine lv_aload_n C.1 C.2.1 dX11_house_14 rfl (lv_at hl 0 rfl) ?_
    refine gX_0_houses C hX11_house_0_X11 hK hP mX11_house_0_1 dX11_house_15 ?_
    refine lv_dup C.1 C.2.1 dX11_house_18 rfl ?_
    refine gX_11_size C hX11_house_0_X2 hK hP mX11_house_0_3 dX11_house_19 ?_
    refine lv_iconst (v := 1) C.1 C.2.1 dX11_house_22 (by decide) ?_
    refine lv_iadd C.1 C.2.1 dX11_house_23 ?_
    refine pX_11_size C hX11_house_0_X2 hK hP hJ hS mX11_house_0_3 dX11_house_24 (fun H locs hP hS => ?_)
    obtain ⟨u1, hu2, h⟩ := lt_some h
    rw [← hu2] at hP
    refine lv_aload_n C.1 C.2.1 dX11_house_27 rfl (lv_at hl 0 rfl) ?_
    refine gX_0_houses C hX11_house_0_X11 hK hP mX11_house_0_1 dX11_house_28 ?_
    refine gX_11_size C hX11_house_0_X2 hK hP mX11_house_0_3 dX11_house_31 ?_
    refine lv_iconst (v := 1) C.1 C.2.1 dX11_house_34 (by decide) ?_
    refine lv_isub C.1 C.2.1 dX11_house_35 ?_
    cases h
    exact rt_i C hP hS dX11_house_36
  · rw [if_neg c9] at h
    refine lv_iconst (v := (-1)) C.1 C.2.1 dX11_house_12 (by decide) ?_
    cases h
    exact rt_i C hP hS dX11_house_13
theorem metX11_house_0 (l : Launch) (D : va_G) (cy : Nat → ClassId) (ad st : Nat → Nat) (hJ : JX ad st) (sz : Nat)  {u : SX} {r : Int32} {u' : SX} (h : fX11_house_0  u = some (r, u')) : Met l yX11_house wsX11_house rmX11_house_0 (va_Pc [.ref (ad 0)] (Px D [(cy 0, .int), (cy 1, .long), (cy 2, .boolean), (cy 3, .byte), (cy 4, .object "HissHorn$Text")] st (VX cy ad st) sz u)) (Qi D (VX cy ad st) (AX ad) sz r u') 0 0 (Ax (AX ad) sz) := by
  refine Met.ofW (cc := cX11_house) (maxL := 1) (ret := (some .int)) (by decide) rfl ?_
  intro p e s m args below meth c s₁ B hml hv
  obtain ⟨rfl, hsz, hP, hK⟩ := hv
  subst hsz
  have C : Cx RX11 cX11_house 1 (some .int) wsX11_house p s m _ meth c := ⟨B.exec, B.bytes, hml, B.returns, findClass_of_methodNamed B.named, atoms_spec (ws := wsX11_house) B.pre, B.notSynchronized⟩
  have hl := lv_entry ([.ref (ad 0)]) (n := 1) (Nat.le_of_ble_eq_true rfl)
  rw [lg_entry_eq]
  exact wX11_house_0 C hK hJ h hP va_S.rf hl

theorem zdX2_has_0 : (and (and (and (and (zk cX2_has 0 (.iload_n 1) 1) (zk cX2_has 1 (.ifCond .lt 15) 3)) (zk cX2_has 16 (.iconst 0) 1)) (and (zk cX2_has 17 (.ireturn) 1) (zk cX2_has 4 (.iload_n 1) 1))) (and (and (and (zk cX2_has 5 (.aload_n 0) 1) (zk cX2_has 6 (.getfield 50) 3)) (zk cX2_has 9 (.if_icmp .ge 7) 3)) (and (zk cX2_has 12 (.iconst 1) 1) (zk cX2_has 13 (.goto 4) 3)))) = true := by decide +kernel
theorem dX2_has_0 : decode cX2_has 0 = .ok (.iload_n 1, 1) := zk_of (zk_l (zk_l (zk_l (zk_l zdX2_has_0))))
theorem dX2_has_1 : decode cX2_has 1 = .ok (.ifCond .lt 15, 3) := zk_of (zk_r (zk_l (zk_l (zk_l zdX2_has_0))))
theorem dX2_has_16 : decode cX2_has 16 = .ok (.iconst 0, 1) := zk_of (zk_r (zk_l (zk_l zdX2_has_0)))
theorem dX2_has_17 : decode cX2_has 17 = .ok (.ireturn, 1) := zk_of (zk_l (zk_r (zk_l zdX2_has_0)))
theorem dX2_has_4 : decode cX2_has 4 = .ok (.iload_n 1, 1) := zk_of (zk_r (zk_r (zk_l zdX2_has_0)))
theorem dX2_has_5 : decode cX2_has 5 = .ok (.aload_n 0, 1) := zk_of (zk_l (zk_l (zk_l (zk_r zdX2_has_0))))
theorem dX2_has_6 : decode cX2_has 6 = .ok (.getfield 50, 3) := zk_of (zk_r (zk_l (zk_l (zk_r zdX2_has_0))))
theorem dX2_has_9 : decode cX2_has 9 = .ok (.if_icmp .ge 7, 3) := zk_of (zk_r (zk_l (zk_r zdX2_has_0)))
theorem dX2_has_12 : decode cX2_has 12 = .ok (.iconst 1, 1) := zk_of (zk_l (zk_r (zk_r zdX2_has_0)))
theorem dX2_has_13 : decode cX2_has 13 = .ok (.goto 4, 3) := zk_of (zk_r (zk_r (zk_r zdX2_has_0)))
/-- HissHorn$Houses.has(I)Z of cell 11 -/
def rmX2_has_11 : Room := { frames := 0, cells := 0, slots := 0, locals := 0 }
theorem hX2_has_11_X2 : ∀ w ∈ u_ws RX2 TX2 18, w ∈ wsX2_has := fun w h => (List.mem_cons_of_mem _ (List.mem_append_right _ h))
theorem mX2_has_11_1 : Cond.fieldLink RX2 50 "HissHorn$Houses" "size" "I" ∈ wsX2_has := (List.mem_cons_of_mem _ (List.mem_append_left _ (List.mem_of_getElem? (i := 0) rfl)))
def fX2_has_11 (x1 : Int32) (u : SX) : Option (Int32 × SX) := (if x1 < 0 then (gd (isB 0) (some (0, u))) else (if (u.1 35) ≤ x1 then (gd (isB 0) (some (0, u))) else (gd (isB 1) (some (1, u)))))
set_option maxHeartbeats 4000000 in
set_option maxRecDepth 100000 in
theorem wX2_has_11 {p : Program} {l : Launch} {e : Env} {s : State} {m : MethodId} {args : Array Value} {below : List Frame} {meth : Method} {c : Code} {D : va_G} {cy : Nat → ClassId} {ad st : Nat → Nat} (C : Cx RX2 cX2_has 2 (some .boolean) wsX2_has p s m args meth c) (hK : Ky D [(cy 0, .int), (cy 1, .long), (cy 2, .boolean), (cy 3, .byte), (cy 4, .object "HissHorn$Text")] st s) (hJ : JX ad st) (x1 : Int32) {u : SX} {r : Int32} {u' : SX} {H : Heap} {locs : List Loc} {ls : Array Slot} (h : fX2_has_11 x1 u = some (r, u')) (hP : va_P D vwCl (VX cy ad st u) H) (hS : va_S (Ax (AX ad) s.heap.size) s.heap H locs) (hl : lv_has ls 2 [(0, .ref (ad 11)), (1, .int x1)]) : W p l e rmX2_has_11 s m args below meth c H locs 0 0 (MQ below (Qi D (VX cy ad st) (AX ad) s.heap.size r u') args s 0 0 (Ax (AX ad) s.heap.size)) (F0 m 0 ls []) := by
  unfold fX2_has_11 at h
  refine lv_iload_n C.1 C.2.1 dX2_has_0 rfl (lv_at hl 1 rfl) ?_
  refine lv_if_lt (tgt := 16) C.1 C.2.1 dX2_has_1 (by decide) (fun c1 => ?_) (fun c1 => ?_)
  · rw [if_pos c1] at h
    refine lv_iconst (v := 0) C.1 C.2.1 dX2_has_16 (by decide) ?_
    obtain ⟨hg1, h⟩ := gd_some h
    cases h
    exact rt_z hg1 C hP hS dX2_has_17
  · rw [if_neg c1] at h
    refine lv_iload_n C.1 C.2.1 dX2_has_4 rfl (lv_at hl 1 rfl) ?_
    refine lv_aload_n C.1 C.2.1 dX2_has_5 rfl (lv_at hl 0 rfl) ?_
    refine gX_11_size C hX2_has_11_X2 hK hP mX2_has_11_1 dX2_has_6 ?_
    refine lv_icmp_ge (tgt := 16) C.1 C.2.1 dX2_has_9 (by decide) (fun c9 => ?_) (fun c9 => ?_)
    · rw [if_pos c9] at h
      refine lv_iconst (v := 0) C.1 C.2.1 dX2_has_16 (by decide) ?_
      obtain ⟨hg2, h⟩ := gd_some h
      cases h
      exact rt_z hg2 C hP hS dX2_has_17
    · rw [if_neg c9] at h
      refine lv_iconst (v := 1) C.1 C.2.1 dX2_has_12 (by decide) ?_
      refine lv_goto (tgt := 17) C.1 C.2.1 dX2_has_13 (by decide) ?_
      obtain ⟨hg3, h⟩ := gd_some h
      cases h
      exact rt_z hg3 C hP hS dX2_has_17
theorem metX2_has_11 (l : Launch) (D : va_G) (cy : Nat → ClassId) (ad st : Nat → Nat) (hJ : JX ad st) (sz : Nat) (x1 : Int32) {u : SX} {r : Int32} {u' : SX} (h : fX2_has_11 x1 u = some (r, u')) : Met l yX2_has wsX2_has rmX2_has_11 (va_Pc [.ref (ad 11), .int x1] (Px D [(cy 0, .int), (cy 1, .long), (cy 2, .boolean), (cy 3, .byte), (cy 4, .object "HissHorn$Text")] st (VX cy ad st) sz u)) (Qi D (VX cy ad st) (AX ad) sz r u') 0 0 (Ax (AX ad) sz) := by
  refine Met.ofW (cc := cX2_has) (maxL := 2) (ret := (some .boolean)) (by decide) rfl ?_
  intro p e s m args below meth c s₁ B hml hv
  obtain ⟨rfl, hsz, hP, hK⟩ := hv
  subst hsz
  have C : Cx RX2 cX2_has 2 (some .boolean) wsX2_has p s m _ meth c := ⟨B.exec, B.bytes, hml, B.returns, findClass_of_methodNamed B.named, atoms_spec (ws := wsX2_has) B.pre, B.notSynchronized⟩
  have hl := lv_entry ([.ref (ad 11), .int x1]) (n := 2) (Nat.le_of_ble_eq_true rfl)
  rw [lg_entry_eq]
  exact wX2_has_11 C hK hJ x1 h hP va_S.rf hl

theorem zdX2_paperBit_0 : (and (and (and (zk cX2_paperBit 0 (.lconst 1) 1) (zk cX2_paperBit 1 (.bipush 40) 2)) (zk cX2_paperBit 3 (.iload_n 0) 1)) (and (and (zk cX2_paperBit 4 (.iadd) 1) (zk cX2_paperBit 5 (.lshl) 1)) (zk cX2_paperBit 6 (.lreturn) 1))) = true := by decide +kernel
theorem dX2_paperBit_0 : decode cX2_paperBit 0 = .ok (.lconst 1, 1) := zk_of (zk_l (zk_l (zk_l zdX2_paperBit_0)))
theorem dX2_paperBit_1 : decode cX2_paperBit 1 = .ok (.bipush 40, 2) := zk_of (zk_r (zk_l (zk_l zdX2_paperBit_0)))
theorem dX2_paperBit_3 : decode cX2_paperBit 3 = .ok (.iload_n 0, 1) := zk_of (zk_r (zk_l zdX2_paperBit_0))
theorem dX2_paperBit_4 : decode cX2_paperBit 4 = .ok (.iadd, 1) := zk_of (zk_l (zk_l (zk_r zdX2_paperBit_0)))
theorem dX2_paperBit_5 : decode cX2_paperBit 5 = .ok (.lshl, 1) := zk_of (zk_r (zk_l (zk_r zdX2_paperBit_0)))
theorem dX2_paperBit_6 : decode cX2_paperBit 6 = .ok (.lreturn, 1) := zk_of (zk_r (zk_r zdX2_paperBit_0))
/-- HissHorn$Houses.paperBit(I)J -/
def rmX2_paperBit : Room := { frames := 0, cells := 0, slots := 0, locals := 0 }
def fX2_paperBit (x0 : Int32) : Option Int64 := (some ((1 : Int64) <<< ((40 + x0).toInt64 &&& 63)))
set_option maxHeartbeats 4000000 in
set_option maxRecDepth 100000 in
theorem wX2_paperBit {p : Program} {l : Launch} {e : Env} {s : State} {m : MethodId} {args : Array Value} {below : List Frame} {meth : Method} {c : Code} {D : va_G} {cy : Nat → ClassId} {st : Nat → Nat} (C : Cx RX2 cX2_paperBit 1 (some .long) wsX2_paperBit p s m args meth c) (hK : Ky D [(cy 0, .int), (cy 1, .long), (cy 2, .boolean), (cy 3, .byte), (cy 4, .object "HissHorn$Text")] st s) (x0 : Int32) {r : Int64} {H : Heap} {locs : List Loc} {ls : Array Slot} (h : fX2_paperBit x0 = some r) (hP : va_P D vwCl (V0 u00) H) (hS : va_S (Ax (A0) s.heap.size) s.heap H locs) (hl : lv_has ls 1 [(0, .int x0)]) : W p l e rmX2_paperBit s m args below meth c H locs 0 0 (MQ below (Ql D (V0) (A0) s.heap.size r u00) args s 0 0 (Ax (A0) s.heap.size)) (F0 m 0 ls []) := by
  unfold fX2_paperBit at h
  refine lv_lconst (v := 1) C.1 C.2.1 dX2_paperBit_0 (by decide) ?_
  refine lv_bipush (v := 40) C.1 C.2.1 dX2_paperBit_1 (by decide) ?_
  refine lv_iload_n C.1 C.2.1 dX2_paperBit_3 rfl (lv_at hl 0 rfl) ?_
  refine lv_iadd C.1 C.2.1 dX2_paperBit_4 ?_
  refine lv_lshl (v := (1 : Int64) <<< ((40 + x0).toInt64 &&& 63)) C.1 C.2.1 dX2_paperBit_5 rfl ?_
  cases h
  exact rt_l C hP hS dX2_paperBit_6
theorem metX2_paperBit (l : Launch) (D : va_G) (cy : Nat → ClassId) (st : Nat → Nat) (sz : Nat) (x0 : Int32) {r : Int64} (h : fX2_paperBit x0 = some r) : Met l yX2_paperBit wsX2_paperBit rmX2_paperBit (va_Pc [.int x0] (Px D [(cy 0, .int), (cy 1, .long), (cy 2, .boolean), (cy 3, .byte), (cy 4, .object "HissHorn$Text")] st V0 sz u00)) (Ql D V0 A0 sz r u00) 0 0 (Ax A0 sz) := by
  refine Met.ofW (cc := cX2_paperBit) (maxL := 1) (ret := (some .long)) (by decide) rfl ?_
  intro p e s m args below meth c s₁ B hml hv
  obtain ⟨rfl, hsz, hP, hK⟩ := hv
  subst hsz
  have C : Cx RX2 cX2_paperBit 1 (some .long) wsX2_paperBit p s m _ meth c := ⟨B.exec, B.bytes, hml, B.returns, findClass_of_methodNamed B.named, atoms_spec (ws := wsX2_paperBit) B.pre, B.notSynchronized⟩
  have hl := lv_entry ([.int x0]) (n := 1) (Nat.le_of_ble_eq_true rfl)
  rw [lg_entry_eq]
  exact wX2_paperBit C hK x0 h hP va_S.rf hl

theorem zdX2_printBit_0 : (and (and (zk cX2_printBit 0 (.lconst 1) 1) (zk cX2_printBit 1 (.iload_n 0) 1)) (and (zk cX2_printBit 2 (.lshl) 1) (zk cX2_printBit 3 (.lreturn) 1))) = true := by decide +kernel
theorem dX2_printBit_0 : decode cX2_printBit 0 = .ok (.lconst 1, 1) := zk_of (zk_l (zk_l zdX2_printBit_0))
theorem dX2_printBit_1 : decode cX2_printBit 1 = .ok (.iload_n 0, 1) := zk_of (zk_r (zk_l zdX2_printBit_0))
theorem dX2_printBit_2 : decode cX2_printBit 2 = .ok (.lshl, 1) := zk_of (zk_l (zk_r zdX2_printBit_0))
theorem dX2_printBit_3 : decode cX2_printBit 3 = .ok (.lreturn, 1) := zk_of (zk_r (zk_r zdX2_printBit_0))
/-- HissHorn$Houses.printBit(I)J -/
def rmX2_printBit : Room := { frames := 0, cells := 0, slots := 0, locals := 0 }
def fX2_printBit (x0 : Int32) : Option Int64 := (some ((1 : Int64) <<< (x0.toInt64 &&& 63)))
set_option maxHeartbeats 4000000 in
set_option maxRecDepth 100000 in
theorem wX2_printBit {p : Program} {l : Launch} {e : Env} {s : State} {m : MethodId} {args : Array Value} {below : List Frame} {meth : Method} {c : Code} {D : va_G} {cy : Nat → ClassId} {st : Nat → Nat} (C : Cx RX2 cX2_printBit 1 (some .long) wsX2_printBit p s m args meth c) (hK : Ky D [(cy 0, .int), (cy 1, .long), (cy 2, .boolean), (cy 3, .byte), (cy 4, .object "HissHorn$Text")] st s) (x0 : Int32) {r : Int64} {H : Heap} {locs : List Loc} {ls : Array Slot} (h : fX2_printBit x0 = some r) (hP : va_P D vwCl (V0 u00) H) (hS : va_S (Ax (A0) s.heap.size) s.heap H locs) (hl : lv_has ls 1 [(0, .int x0)]) : W p l e rmX2_printBit s m args below meth c H locs 0 0 (MQ below (Ql D (V0) (A0) s.heap.size r u00) args s 0 0 (Ax (A0) s.heap.size)) (F0 m 0 ls []) := by
  unfold fX2_printBit at h
  refine lv_lconst (v := 1) C.1 C.2.1 dX2_printBit_0 (by decide) ?_
  refine lv_iload_n C.1 C.2.1 dX2_printBit_1 rfl (lv_at hl 0 rfl) ?_
  refine lv_lshl (v := (1 : Int64) <<< (x0.toInt64 &&& 63)) C.1 C.2.1 dX2_printBit_2 rfl ?_
  cases h
  exact rt_l C hP hS dX2_printBit_3
theorem metX2_printBit (l : Launch) (D : va_G) (cy : Nat → ClassId) (st : Nat → Nat) (sz : Nat) (x0 : Int32) {r : Int64} (h : fX2_printBit x0 = some r) : Met l yX2_printBit wsX2_printBit rmX2_printBit (va_Pc [.int x0] (Px D [(cy 0, .int), (cy 1, .long), (cy 2, .boolean), (cy 3, .byte), (cy 4, .object "HissHorn$Text")] st V0 sz u00)) (Ql D V0 A0 sz r u00) 0 0 (Ax A0 sz) := by
  refine Met.ofW (cc := cX2_printBit) (maxL := 1) (ret := (some .long)) (by decide) rfl ?_
  intro p e s m args below meth c s₁ B hml hv
  obtain ⟨rfl, hsz, hP, hK⟩ := hv
  subst hsz
  have C : Cx RX2 cX2_printBit 1 (some .long) wsX2_printBit p s m _ meth c := ⟨B.exec, B.bytes, hml, B.returns, findClass_of_methodNamed B.named, atoms_spec (ws := wsX2_printBit) B.pre, B.notSynchronized⟩
  have hl := lv_entry ([.int x0]) (n := 1) (Nat.le_of_ble_eq_true rfl)
  rw [lg_entry_eq]
  exact wX2_printBit C hK x0 h hP va_S.rf hl

theorem zdX2_compare_35 : (and (and (and (and (and (zk cX2_compare 35 (.istore_n 3) 1) (zk cX2_compare 36 (.aload_n 0) 1)) (and (zk cX2_compare 37 (.getfield 25) 3) (zk cX2_compare 40 (.iload_n 1) 1))) (and (and (zk cX2_compare 41 (.iaload) 1) (zk cX2_compare 42 (.ifCond .le 38) 3)) (and (zk cX2_compare 80 (.return_) 1) (zk cX2_compare 45 (.iload_n 3) 1)))) (and (and (and (zk cX2_compare 46 (.ifCond .eq 34) 3) (zk cX2_compare 49 (.aload_n 0) 1)) (and (zk cX2_compare 50 (.getfield 40) 3) (zk cX2_compare 53 (.iload_n 1) 1))) (and (and (zk cX2_compare 54 (.dup2) 1) (zk cX2_compare 55 (.laload) 1)) (and (zk cX2_compare 56 (.iload_n 2) 1) (zk cX2_compare 57 (.invokestatic 72) 3))))) (and (and (and (and (zk cX2_compare 60 (.lor) 1) (zk cX2_compare 61 (.lastore) 1)) (and (zk cX2_compare 62 (.aload_n 0) 1) (zk cX2_compare 63 (.dup) 1))) (and (and (zk cX2_compare 64 (.getfield 75) 3) (zk cX2_compare 67 (.iload_n 1) 1)) (and (zk cX2_compare 68 (.invokestatic 64) 3) (zk cX2_compare 71 (.iload_n 2) 1)))) (and (and (and (zk cX2_compare 72 (.invokestatic 72) 3) (zk cX2_compare 75 (.lor) 1)) (and (zk cX2_compare 76 (.lor) 1) (zk cX2_compare 77 (.putfield 75) 3))) (and (and (zk cX2_compare 34 (.iconst 0) 1) (zk cX2_compare 0 (.aload_n 0) 1)) (and (zk cX2_compare 1 (.getfield 25) 3) (zk cX2_compare 4 (.iload_n 1) 1)))))) = true := by decide +kernel
theorem dX2_compare_35 : decode cX2_compare 35 = .ok (.istore_n 3, 1) := zk_of (zk_l (zk_l (zk_l (zk_l (zk_l zdX2_compare_35)))))
theorem dX2_compare_36 : decode cX2_compare 36 = .ok (.aload_n 0, 1) := zk_of (zk_r (zk_l (zk_l (zk_l (zk_l zdX2_compare_35)))))
theorem dX2_compare_37 : decode cX2_compare 37 = .ok (.getfield 25, 3) := zk_of (zk_l (zk_r (zk_l (zk_l (zk_l zdX2_compare_35)))))
theorem dX2_compare_40 : decode cX2_compare 40 = .ok (.iload_n 1, 1) := zk_of (zk_r (zk_r (zk_l (zk_l (zk_l zdX2_compare_35)))))
theorem dX2_compare_41 : decode cX2_compare 41 = .ok (.iaload, 1) := zk_of (zk_l (zk_l (zk_r (zk_l (zk_l zdX2_compare_35)))))
theorem dX2_compare_42 : decode cX2_compare 42 = .ok (.ifCond .le 38, 3) := zk_of (zk_r (zk_l (zk_r (zk_l (zk_l zdX2_compare_35)))))
theorem dX2_compare_80 : decode cX2_compare 80 = .ok (.return_, 1) := zk_of (zk_l (zk_r (zk_r (zk_l (zk_l zdX2_compare_35)))))
theorem dX2_compare_45 : decode cX2_compare 45 = .ok (.iload_n 3, 1) := zk_of (zk_r (zk_r (zk_r (zk_l (zk_l zdX2_compare_35)))))
theorem dX2_compare_46 : decode cX2_compare 46 = .ok (.ifCond .eq 34, 3) := zk_of (zk_l (zk_l (zk_l (zk_r (zk_l zdX2_compare_35)))))
theorem dX2_compare_49 : decode cX2_compare 49 = .ok (.aload_n 0, 1) := zk_of (zk_r (zk_l (zk_l (zk_r (zk_l zdX2_compare_35)))))
theorem dX2_compare_50 : decode cX2_compare 50 = .ok (.getfield 40, 3) := zk_of (zk_l (zk_r (zk_l (zk_r (zk_l zdX2_compare_35)))))
theorem dX2_compare_53 : decode cX2_compare 53 = .ok (.iload_n 1, 1) := zk_of (zk_r (zk_r (zk_l (zk_r (zk_l zdX2_compare_35)))))
theorem dX2_compare_54 : decode cX2_compare 54 = .ok (.dup2, 1) := zk_of (zk_l (zk_l (zk_r (zk_r (zk_l zdX2_compare_35)))))
theorem dX2_compare_55 : decode cX2_compare 55 = .ok (.laload, 1) := zk_of (zk_r (zk_l (zk_r (zk_r (zk_l zdX2_compare_35)))))
theorem dX2_compare_56 : decode cX2_compare 56 = .ok (.iload_n 2, 1) := zk_of (zk_l (zk_r (zk_r (zk_r (zk_l zdX2_compare_35)))))
theorem dX2_compare_57 : decode cX2_compare 57 = .ok (.invokestatic 72, 3) := zk_of (zk_r (zk_r (zk_r (zk_r (zk_l zdX2_compare_35)))))
theorem dX2_compare_60 : decode cX2_compare 60 = .ok (.lor, 1) := zk_of (zk_l (zk_l (zk_l (zk_l (zk_r zdX2_compare_35)))))
theorem dX2_compare_61 : decode cX2_compare 61 = .ok (.lastore, 1) := zk_of (zk_r (zk_l (zk_l (zk_l (zk_r zdX2_compare_35)))))
theorem dX2_compare_62 : decode cX2_compare 62 = .ok (.aload_n 0, 1) := zk_of (zk_l (zk_r (zk_l (zk_l (zk_r zdX2_compare_35)))))
theorem dX2_compare_63 : decode cX2_compare 63 = .ok (.dup, 1) := zk_of (zk_r (zk_r (zk_l (zk_l (zk_r zdX2_compare_35)))))
theorem dX2_compare_64 : decode cX2_compare 64 = .ok (.getfield 75, 3) := zk_of (zk_l (zk_l (zk_r (zk_l (zk_r zdX2_compare_35)))))
theorem dX2_compare_67 : decode cX2_compare 67 = .ok (.iload_n 1, 1) := zk_of (zk_r (zk_l (zk_r (zk_l (zk_r zdX2_compare_35)))))
theorem dX2_compare_68 : decode cX2_compare 68 = .ok (.invokestatic 64, 3) := zk_of (zk_l (zk_r (zk_r (zk_l (zk_r zdX2_compare_35)))))
theorem dX2_compare_71 : decode cX2_compare 71 = .ok (.iload_n 2, 1) := zk_of (zk_r (zk_r (zk_r (zk_l (zk_r zdX2_compare_35)))))
theorem dX2_compare_72 : decode cX2_compare 72 = .ok (.invokestatic 72, 3) := zk_of (zk_l (zk_l (zk_l (zk_r (zk_r zdX2_compare_35)))))
theorem dX2_compare_75 : decode cX2_compare 75 = .ok (.lor, 1) := zk_of (zk_r (zk_l (zk_l (zk_r (zk_r zdX2_compare_35)))))
theorem dX2_compare_76 : decode cX2_compare 76 = .ok (.lor, 1) := zk_of (zk_l (zk_r (zk_l (zk_r (zk_r zdX2_compare_35)))))
theorem dX2_compare_77 : decode cX2_compare 77 = .ok (.putfield 75, 3) := zk_of (zk_r (zk_r (zk_l (zk_r (zk_r zdX2_compare_35)))))
theorem dX2_compare_34 : decode cX2_compare 34 = .ok (.iconst 0, 1) := zk_of (zk_l (zk_l (zk_r (zk_r (zk_r zdX2_compare_35)))))
theorem dX2_compare_0 : decode cX2_compare 0 = .ok (.aload_n 0, 1) := zk_of (zk_r (zk_l (zk_r (zk_r (zk_r zdX2_compare_35)))))
theorem dX2_compare_1 : decode cX2_compare 1 = .ok (.getfield 25, 3) := zk_of (zk_l (zk_r (zk_r (zk_r (zk_r zdX2_compare_35)))))
theorem dX2_compare_4 : decode cX2_compare 4 = .ok (.iload_n 1, 1) := zk_of (zk_r (zk_r (zk_r (zk_r (zk_r zdX2_compare_35)))))
set_option maxRecDepth 20000 in
theorem ggX2_compare_X2_paperBit : GoodIn wsX2_compare wsX2_paperBit := ggi (fun w h => List.mem_cons_of_mem _ (List.mem_append_left _ (List.mem_append_right _ (List.mem_append_left _ h)))) gs_X2_paperBit
set_option maxRecDepth 20000 in
theorem gX2_compare_X2_paperBit : GoodIn wsX2_compare (va_wsS RX2 72 yX2_paperBit wsX2_paperBit) := goodIn_app (goodIn_of _ (by decide +kernel)) ggX2_compare_X2_paperBit
set_option maxRecDepth 20000 in
theorem ggX2_compare_X2_printBit : GoodIn wsX2_compare wsX2_printBit := ggi (fun w h => List.mem_cons_of_mem _ (List.mem_append_left _ (List.mem_append_right _ (List.mem_append_right _ h)))) gs_X2_printBit
set_option maxRecDepth 20000 in
theorem gX2_compare_X2_printBit : GoodIn wsX2_compare (va_wsS RX2 64 yX2_printBit wsX2_printBit) := goodIn_app (goodIn_of _ (by decide +kernel)) ggX2_compare_X2_printBit
theorem zdX2_compare_5 : (and (and (and (and (and (zk cX2_compare 5 (.iaload) 1) (zk cX2_compare 6 (.aload_n 0) 1)) (zk cX2_compare 7 (.getfield 37) 3)) (and (zk cX2_compare 10 (.iload_n 2) 1) (zk cX2_compare 11 (.iaload) 1))) (and (and (zk cX2_compare 12 (.if_icmp .gt 22) 3) (zk cX2_compare 15 (.aload_n 0) 1)) (and (zk cX2_compare 16 (.getfield 34) 3) (zk cX2_compare 19 (.iload_n 2) 1)))) (and (and (and (zk cX2_compare 20 (.iaload) 1) (zk cX2_compare 21 (.aload_n 0) 1)) (and (zk cX2_compare 22 (.getfield 28) 3) (zk cX2_compare 25 (.iload_n 1) 1))) (and (and (zk cX2_compare 26 (.iaload) 1) (zk cX2_compare 27 (.if_icmp .gt 7) 3)) (and (zk cX2_compare 30 (.iconst 1) 1) (zk cX2_compare 31 (.goto 4) 3))))) = true := by decide +kernel
theorem dX2_compare_5 : decode cX2_compare 5 = .ok (.iaload, 1) := zk_of (zk_l (zk_l (zk_l (zk_l (zk_l zdX2_compare_5)))))
theorem dX2_compare_6 : decode cX2_compare 6 = .ok (.aload_n 0, 1) := zk_of (zk_r (zk_l (zk_l (zk_l (zk_l zdX2_compare_5)))))
theorem dX2_compare_7 : decode cX2_compare 7 = .ok (.getfield 37, 3) := zk_of (zk_r (zk_l (zk_l (zk_l zdX2_compare_5))))
theorem dX2_compare_10 : decode cX2_compare 10 = .ok (.iload_n 2, 1) := zk_of (zk_l (zk_r (zk_l (zk_l zdX2_compare_5))))
theorem dX2_compare_11 : decode cX2_compare 11 = .ok (.iaload, 1) := zk_of (zk_r (zk_r (zk_l (zk_l zdX2_compare_5))))
theorem dX2_compare_12 : decode cX2_compare 12 = .ok (.if_icmp .gt 22, 3) := zk_of (zk_l (zk_l (zk_r (zk_l zdX2_compare_5))))
theorem dX2_compare_15 : decode cX2_compare 15 = .ok (.aload_n 0, 1) := zk_of (zk_r (zk_l (zk_r (zk_l zdX2_compare_5))))
theorem dX2_compare_16 : decode cX2_compare 16 = .ok (.getfield 34, 3) := zk_of (zk_l (zk_r (zk_r (zk_l zdX2_compare_5))))
theorem dX2_compare_19 : decode cX2_compare 19 = .ok (.iload_n 2, 1) := zk_of (zk_r (zk_r (zk_r (zk_l zdX2_compare_5))))
theorem dX2_compare_20 : decode cX2_compare 20 = .ok (.iaload, 1) := zk_of (zk_l (zk_l (zk_l (zk_r zdX2_compare_5))))
theorem dX2_compare_21 : decode cX2_compare 21 = .ok (.aload_n 0, 1) := zk_of (zk_r (zk_l (zk_l (zk_r zdX2_compare_5))))
theorem dX2_compare_22 : decode cX2_compare 22 = .ok (.getfield 28, 3) := zk_of (zk_l (zk_r (zk_l (zk_r zdX2_compare_5))))
theorem dX2_compare_25 : decode cX2_compare 25 = .ok (.iload_n 1, 1) := zk_of (zk_r (zk_r (zk_l (zk_r zdX2_compare_5))))
theorem dX2_compare_26 : decode cX2_compare 26 = .ok (.iaload, 1) := zk_of (zk_l (zk_l (zk_r (zk_r zdX2_compare_5))))
theorem dX2_compare_27 : decode cX2_compare 27 = .ok (.if_icmp .gt 7, 3) := zk_of (zk_r (zk_l (zk_r (zk_r zdX2_compare_5))))
theorem dX2_compare_30 : decode cX2_compare 30 = .ok (.iconst 1, 1) := zk_of (zk_l (zk_r (zk_r (zk_r zdX2_compare_5))))
theorem dX2_compare_31 : decode cX2_compare 31 = .ok (.goto 4, 3) := zk_of (zk_r (zk_r (zk_r (zk_r zdX2_compare_5))))
/-- HissHorn$Houses.compare(II)V of cell 11 -/
def rmX2_compare_11 : Room := { frames := 1, cells := 0, slots := 0, locals := 20 }
theorem hX2_compare_11_X2 : ∀ w ∈ u_ws RX2 TX2 18, w ∈ wsX2_compare := fun w h => (List.mem_cons_of_mem _ (List.mem_append_right _ h))
theorem mX2_compare_11_1 : Cond.fieldLink RX2 25 "HissHorn$Houses" "printFrom" "[I" ∈ wsX2_compare := (List.mem_cons_of_mem _ (List.mem_append_left _ (List.mem_append_left _ (List.mem_of_getElem? (i := 5) rfl))))
theorem mX2_compare_11_2 : Cond.fieldLink RX2 37 "HissHorn$Houses" "paperTo" "[I" ∈ wsX2_compare := (List.mem_cons_of_mem _ (List.mem_append_left _ (List.mem_append_left _ (List.mem_of_getElem? (i := 6) rfl))))
theorem mX2_compare_11_3 : Cond.fieldLink RX2 40 "HissHorn$Houses" "meets" "[J" ∈ wsX2_compare := (List.mem_cons_of_mem _ (List.mem_append_left _ (List.mem_append_left _ (List.mem_of_getElem? (i := 7) rfl))))
theorem mX2_compare_11_4 : Cond.fieldLink RX2 75 "HissHorn$Houses" "matters" "J" ∈ wsX2_compare := (List.mem_cons_of_mem _ (List.mem_append_left _ (List.mem_append_left _ (List.mem_of_getElem? (i := 8) rfl))))
def GX2_compare_11_35 (z1 : Int32) (z2 : Int32) (y0 : Int32) (u : SX) : Option (Int32 × SX) := (gd (inb z1 40) (if (u.2.1 63 z1.toNatClampNeg) ≤ 0 then (some (0, u)) else (if y0 = 0 then (some (0, u)) else (gd (inb z1 40) ((fX2_paperBit z2).bind fun r5 => (gd (inb z1 40) (lt (sB u 68 (vp_updL (u.2.2.2.1 68) z1.toNatClampNeg ((u.2.2.2.1 68 z1.toNatClampNeg) ||| r5))) fun u9 => ((fX2_printBit z1).bind fun r11 => ((fX2_paperBit z2).bind fun r14 => (lt (sJ u9 0 ((u9.2.2.1 0) ||| (r11 ||| r14))) fun u17 => (some (0, u17))))))))))))
def GX2_compare_11_34 (z1 : Int32) (z2 : Int32) (u : SX) : Option (Int32 × SX) := (GX2_compare_11_35 z1 z2 0 u)
theorem mX2_compare_11_5 : Cond.fieldLink RX2 34 "HissHorn$Houses" "paperFrom" "[I" ∈ wsX2_compare := (List.mem_cons_of_mem _ (List.mem_append_left _ (List.mem_append_left _ (List.mem_of_getElem? (i := 9) rfl))))
theorem mX2_compare_11_6 : Cond.fieldLink RX2 28 "HissHorn$Houses" "printTo" "[I" ∈ wsX2_compare := (List.mem_cons_of_mem _ (List.mem_append_left _ (List.mem_append_left _ (List.mem_of_getElem? (i := 10) rfl))))
def fX2_compare_11 (x1 : Int32) (x2 : Int32) (u : SX) : Option (Int32 × SX) := (gd (inb x1 40) (gd (inb x2 20) (if (u.2.1 67 x2.toNatClampNeg) < (u.2.1 63 x1.toNatClampNeg) then (GX2_compare_11_34 x1 x2 u) else (gd (inb x2 20) (gd (inb x1 40) (if (u.2.1 64 x1.toNatClampNeg) < (u.2.1 66 x2.toNatClampNeg) then (GX2_compare_11_34 x1 x2 u) else (GX2_compare_11_35 x1 x2 1 u)))))))
set_option maxHeartbeats 4000000 in
set_option maxRecDepth 100000 in
theorem wGX2_compare_11_35 {p : Program} {l : Launch} {e : Env} {s : State} {m : MethodId} {args : Array Value} {below : List Frame} {meth : Method} {c : Code} {D : va_G} {cy : Nat → ClassId} {ad st : Nat → Nat} (C : Cx RX2 cX2_compare 4 none wsX2_compare p s m args meth c) (hK : Ky D [(cy 0, .int), (cy 1, .long), (cy 2, .boolean), (cy 3, .byte), (cy 4, .object "HissHorn$Text")] st s) (hJ : JX ad st) {r : Int32} {u' : SX}   (z1 : Int32) (z2 : Int32) (y0 : Int32) (u : SX) (H : Heap) (locs : List Loc) (ls : Array Slot) (h : GX2_compare_11_35 z1 z2 y0 u = some (r, u')) (hP : va_P D vwCl (VX cy ad st u) H) (hS : va_S (Ax (AX ad) s.heap.size) s.heap H locs) (hl : lv_has ls 4 [(0, .ref (ad 11)), (1, .int z1), (2, .int z2)]) : W p l e rmX2_compare_11 s m args below meth c H locs 0 0 (MQ below (Qv D (VX cy ad st) (AX ad) s.heap.size r u') args s 0 0 (Ax (AX ad) s.heap.size)) (F0 m 35 ls [.int y0]) := by
  unfold GX2_compare_11_35 at h
  refine lv_istore_n (lv' := [(3, .int y0), (0, .ref (ad 11)), (1, .int z1), (2, .int z2)]) C.1 C.2.1 dX2_compare_35 rfl hl (by decide) rfl (fun ls hl => ?_)
  replace hl := lv_sub (l' := [(0, .ref (ad 11)), (1, .int z1), (2, .int z2), (3, .int y0)]) hl [1, 2, 3, 0] rfl
  refine lv_aload_n C.1 C.2.1 dX2_compare_36 rfl (lv_at hl 0 rfl) ?_
  refine gX_11_printFrom C hX2_compare_11_X2 hK hP mX2_compare_11_1 dX2_compare_37 ?_
  refine lv_iload_n C.1 C.2.1 dX2_compare_40 rfl (lv_at hl 1 rfl) ?_
  obtain ⟨hg3, h⟩ := gd_some h
  refine lX_63 C hK hP hg3 dX2_compare_41 ?_
  refine lv_if_le (tgt := 80) C.1 C.2.1 dX2_compare_42 (by decide) (fun c42 => ?_) (fun c42 => ?_)
  · rw [if_pos c42] at h
    cases h
    exact rt_v C hP hS dX2_compare_80
  · rw [if_neg c42] at h
    refine lv_iload_n C.1 C.2.1 dX2_compare_45 rfl (lv_at hl 3 rfl) ?_
    refine lv_if_eq (tgt := 80) C.1 C.2.1 dX2_compare_46 (by decide) (fun c46 => ?_) (fun c46 => ?_)
    · rw [if_pos c46] at h
      cases h
      exact rt_v C hP hS dX2_compare_80
    · rw [if_neg c46] at h
      refine lv_aload_n C.1 C.2.1 dX2_compare_49 rfl (lv_at hl 0 rfl) ?_
      refine gX_11_meets C hX2_compare_11_X2 hK hP mX2_compare_11_3 dX2_compare_50 ?_
      refine lv_iload_n C.1 C.2.1 dX2_compare_53 rfl (lv_at hl 1 rfl) ?_
      refine lv_dup2_11 C.1 C.2.1 dX2_compare_54 rfl rfl ?_
      obtain ⟨hg4, h⟩ := gd_some h
      refine lX_68 C hK hP hg4 dX2_compare_55 ?_
      refine lv_iload_n C.1 C.2.1 dX2_compare_56 rfl (lv_at hl 2 rfl) ?_
      obtain ⟨r5, hc7, h⟩ := bd_some h
      refine cs_l (As := [.int z2]) (rest := [.long (u.2.2.2.1 68 z1.toNatClampNeg), .int z1, .ref (ad 68)]) (AX_ge hJ) C hK hP hS (metX2_paperBit l D cy st _ z2 hc7) (va_cwS 1 C.2.2.2.2.2.1 gX2_compare_X2_paperBit rfl rfl rfl (by decide +kernel) ⟨(Nat.le_of_ble_eq_true rfl), (Nat.le_of_ble_eq_true rfl)⟩) rfl hl.1 rfl (Nat.le_of_ble_eq_true rfl) dX2_compare_57 ⟨Nat.zero_le _, Nat.zero_le _⟩ (fun H locs hP hS => ?_)
      refine lv_lor C.1 C.2.1 dX2_compare_60 ?_
      obtain ⟨hg8, h⟩ := gd_some h
      refine tX_68 C hK hP hJ hS hg8 dX2_compare_61 (fun H locs hP hS => ?_)
      obtain ⟨u9, hu10, h⟩ := lt_some h
      rw [← hu10] at hP
      refine lv_aload_n C.1 C.2.1 dX2_compare_62 rfl (lv_at hl 0 rfl) ?_
      refine lv_dup C.1 C.2.1 dX2_compare_63 rfl ?_
      refine gX_11_matters C hX2_compare_11_X2 hK hP mX2_compare_11_4 dX2_compare_64 ?_
      refine lv_iload_n C.1 C.2.1 dX2_compare_67 rfl (lv_at hl 1 rfl) ?_
      obtain ⟨r11, hc13, h⟩ := bd_some h
      refine cs_l (As := [.int z1]) (rest := [.long (u9.2.2.1 0), .ref (ad 11)]) (AX_ge hJ) C hK hP hS (metX2_printBit l D cy st _ z1 hc13) (va_cwS 1 C.2.2.2.2.2.1 gX2_compare_X2_printBit rfl rfl rfl (by decide +kernel) ⟨(Nat.le_of_ble_eq_true rfl), (Nat.le_of_ble_eq_true rfl)⟩) rfl hl.1 rfl (Nat.le_of_ble_eq_true rfl) dX2_compare_68 ⟨Nat.zero_le _, Nat.zero_le _⟩ (fun H locs hP hS => ?_)
      refine lv_iload_n C.1 C.2.1 dX2_compare_71 rfl (lv_at hl 2 rfl) ?_
      obtain ⟨r14, hc16, h⟩ := bd_some h
      refine cs_l (As := [.int z2]) (rest := [.long r11, .long (u9.2.2.1 0), .ref (ad 11)]) (AX_ge hJ) C hK hP hS (metX2_paperBit l D cy st _ z2 hc16) (va_cwS 1 C.2.2.2.2.2.1 gX2_compare_X2_paperBit rfl rfl rfl (by decide +kernel) ⟨(Nat.le_of_ble_eq_true rfl), (Nat.le_of_ble_eq_true rfl)⟩) rfl hl.1 rfl (Nat.le_of_ble_eq_true rfl) dX2_compare_72 ⟨Nat.zero_le _, Nat.zero_le _⟩ (fun H locs hP hS => ?_)
      refine lv_lor C.1 C.2.1 dX2_compare_75 ?_
      refine lv_lor C.1 C.2.1 dX2_compare_76 ?_
      refine pX_11_matters C hX2_compare_11_X2 hK hP hJ hS mX2_compare_11_4 dX2_compare_77 (fun H locs hP hS => ?_)
      obtain ⟨u17, hu18, h⟩ := lt_some h
      rw [← hu18] at hP
      cases h
      exact rt_v C hP hS dX2_compare_80
set_option maxHeartbeats 4000000 in
set_option maxRecDepth 100000 in
theorem wGX2_compare_11_34 {p : Program} {l : Launch} {e : Env} {s : State} {m : MethodId} {args : Array Value} {below : List Frame} {meth : Method} {c : Code} {D : va_G} {cy : Nat → ClassId} {ad st : Nat → Nat} (C : Cx RX2 cX2_compare 4 none wsX2_compare p s m args meth c) (hK : Ky D [(cy 0, .int), (cy 1, .long), (cy 2, .boolean), (cy 3, .byte), (cy 4, .object "HissHorn$Text")] st s) (hJ : JX ad st) {r : Int32} {u' : SX}   (z1 : Int32) (z2 : Int32) (u : SX) (H : Heap) (locs : List Loc) (ls : Array Slot) (h : GX2_compare_11_34 z1 z2 u = some (r, u')) (hP : va_P D vwCl (VX cy ad st u) H) (hS : va_S (Ax (AX ad) s.heap.size) s.heap H locs) (hl : lv_has ls 4 [(0, .ref (ad 11)), (1, .int z1), (2, .int z2)]) : W p l e rmX2_compare_11 s m args below meth c H locs 0 0 (MQ below (Qv D (VX cy ad st) (AX ad) s.heap.size r u') args s 0 0 (Ax (AX ad) s.heap.size)) (F0 m 34 ls []) := by
  unfold GX2_compare_11_34 at h
  refine lv_iconst (v := 0) C.1 C.2.1 dX2_compare_34 (by decide) ?_
  exact wGX2_compare_11_35 C hK hJ _ _ _ _ _ _ _ h hP hS hl
set_option maxHeartbeats 4000000 in
set_option maxRecDepth 100000 in
theorem wX2_compare_11 {p : Program} {l : Launch} {e : Env} {s : State} {m : MethodId} {args : Array Value} {below : List Frame} {meth : Method} {c : Code} {D : va_G} {cy : Nat → ClassId} {ad st : Nat → Nat} (C : Cx RX2 cX2_compare 4 none wsX2_compare p s m args meth c) (hK : Ky D [(cy 0, .int), (cy 1, .long), (cy 2, .boolean), (cy 3, .byte), (cy 4, .object "HissHorn$Text")] st s) (hJ : JX ad st) (x1 : Int32) (x2 : Int32) {u : SX} {r : Int32} {u' : SX} {H : Heap} {locs : List Loc} {ls : Array Slot} (h : fX2_compare_11 x1 x2 u = some (r, u')) (hP : va_P D vwCl (VX cy ad st u) H) (hS : va_S (Ax (AX ad) s.heap.size) s.heap H locs) (hl : lv_has ls 4 [(0, .ref (ad 11)), (1, .int x1), (2, .int x2)]) : W p l e rmX2_compare_11 s m args below meth c H locs 0 0 (MQ below (Qv D (VX cy ad st) (AX ad) s.heap.size r u') args s 0 0 (Ax (AX ad) s.heap.size)) (F0 m 0 ls []) := by
  unfold fX2_compare_11 at h
  refine lv_aload_n C.1 C.2.1 dX2_compare_0 rfl (lv_at hl 0 rfl) ?_
  refine gX_11_printFrom C hX2_compare_11_X2 hK hP mX2_compare_11_1 dX2_compare_1 ?_
  refine lv_iload_n C.1 C.2.1 dX2_compare_4 rfl (lv_at hl 1 rfl) ?_
  obtain ⟨hg1, h⟩ := gd_some h
  refine lX_63 C hK hP hg1 dX2_compare_5 ?_
  refine lv_aload_n C.1 C.2.1 dX2_compare_6 rfl (lv_at hl 0 rfl) ?_
  refine gX_11_paperTo C hX2_compare_11_X2 hK hP mX2_compare_11_2 dX2_compare_7 ?_
  refine lv_iload_n C.1 C.2.1 dX2_compare_10 rfl (lv_at hl 2 rfl) ?_
  obtain ⟨hg2, h⟩ := gd_some h
  refine lX_67 C hK hP hg2 dX2_compare_11 ?_
  refine lv_icmp_gt (tgt := 34) C.1 C.2.1 dX2_compare_12 (by decide) (fun c12 => ?_) (fun c12 => ?_)
  · rw [if_pos c12] at h
    exact wGX2_compare_11_34 C hK hJ _ _ _ _ _ _ h hP hS hl
  · rw [if_neg c12] at h
    refine lv_aload_n C.1 C.2.1 dX2_compare_15 rfl (lv_at hl 0 rfl) ?_
    refine gX_11_paperFrom C hX2_compare_11_X2 hK hP mX2_compare_11_5 dX2_compare_16 ?_
    refine lv_iload_n C.1 C.2.1 dX2_compare_19 rfl (lv_at hl 2 rfl) ?_
    obtain ⟨hg19, h⟩ := gd_some h
    refine lX_66 C hK hP hg19 dX2_compare_20 ?_
    refine lv_aload_n C.1 C.2.1 dX2_compare_21 rfl (lv_at hl 0 rfl) ?_
    refine gX_11_printTo C hX2_compare_11_X2 hK hP mX2_compare_11_6 dX2_compare_22 ?_
    refine lv_iload_n C.1 C.2.1 dX2_compare_25 rfl (lv_at hl 1 rfl) ?_
    obtain ⟨hg20, h⟩ := gd_some h
    refine lX_64 C hK hP hg20 dX2_compare_26 ?_
    refine lv_icmp_gt (tgt := 34) C.1 C.2.1 dX2_compare_27 (by decide) (fun c27 => ?_) (fun c27 => ?_)
    · rw [if_pos c27] at h
      exact wGX2_compare_11_34 C hK hJ _ _ _ _ _ _ h hP hS hl
    · rw [if_neg c27] at h
      refine lv_iconst (v := 1) C.1 C.2.1 dX2_compare_30 (by decide) ?_
      refine lv_goto (tgt := 35) C.1 C.2.1 dX2_compare_31 (by decide) ?_
      exact wGX2_compare_11_35 C hK hJ _ _ _ _ _ _ _ h hP hS hl
theorem metX2_compare_11 (l : Launch) (D : va_G) (cy : Nat → ClassId) (ad st : Nat → Nat) (hJ : JX ad st) (sz : Nat) (x1 : Int32) (x2 : Int32) {u : SX} {r : Int32} {u' : SX} (h : fX2_compare_11 x1 x2 u = some (r, u')) : Met l yX2_compare wsX2_compare rmX2_compare_11 (va_Pc [.ref (ad 11), .int x1, .int x2] (Px D [(cy 0, .int), (cy 1, .long), (cy 2, .boolean), (cy 3, .byte), (cy 4, .object "HissHorn$Text")] st (VX cy ad st) sz u)) (Qv D (VX cy ad st) (AX ad) sz r u') 0 0 (Ax (AX ad) sz) := by
  refine Met.ofW (cc := cX2_compare) (maxL := 4) (ret := none) (by decide) rfl ?_
  intro p e s m args below meth c s₁ B hml hv
  obtain ⟨rfl, hsz, hP, hK⟩ := hv
  subst hsz
  have C : Cx RX2 cX2_compare 4 none wsX2_compare p s m _ meth c := ⟨B.exec, B.bytes, hml, B.returns, findClass_of_methodNamed B.named, atoms_spec (ws := wsX2_compare) B.pre, B.notSynchronized⟩
  have hl := lv_entry ([.ref (ad 11), .int x1, .int x2]) (n := 4) (Nat.le_of_ble_eq_true rfl)
  rw [lg_entry_eq]
  exact wX2_compare_11 C hK hJ x1 x2 h hP va_S.rf hl

theorem zdX2_tell_0 : (and (and (and (and (and (zk cX2_tell 0 (.aload_n 0) 1) (zk cX2_tell 1 (.getfield 44) 3)) (zk cX2_tell 4 (.iload 4) 2)) (and (and (zk cX2_tell 6 (.bipush 8) 2) (zk cX2_tell 8 (.imul) 1)) (zk cX2_tell 9 (.iload_n 1) 1))) (and (and (and (zk cX2_tell 10 (.iadd) 1) (zk cX2_tell 11 (.dup2) 1)) (zk cX2_tell 12 (.laload) 1)) (and (and (zk cX2_tell 13 (.lload_n 2) 1) (zk cX2_tell 14 (.lor) 1)) (zk cX2_tell 15 (.lastore) 1)))) (and (and (and (and (zk cX2_tell 16 (.aload_n 0) 1) (zk cX2_tell 17 (.getfield 9) 3)) (zk cX2_tell 20 (.iload 4) 2)) (and (and (zk cX2_tell 22 (.iconst 1) 1) (zk cX2_tell 23 (.bastore) 1)) (zk cX2_tell 24 (.aload_n 0) 1))) (and (and (and (zk cX2_tell 25 (.aload_n 0) 1) (zk cX2_tell 26 (.getfield 79) 3)) (zk cX2_tell 29 (.iload 4) 2)) (and (and (zk cX2_tell 31 (.invokestatic 82) 3) (zk cX2_tell 34 (.putfield 79) 3)) (zk cX2_tell 37 (.return_) 1))))) = true := by decide +kernel
theorem dX2_tell_0 : decode cX2_tell 0 = .ok (.aload_n 0, 1) := zk_of (zk_l (zk_l (zk_l (zk_l (zk_l zdX2_tell_0)))))
theorem dX2_tell_1 : decode cX2_tell 1 = .ok (.getfield 44, 3) := zk_of (zk_r (zk_l (zk_l (zk_l (zk_l zdX2_tell_0)))))
theorem dX2_tell_4 : decode cX2_tell 4 = .ok (.iload 4, 2) := zk_of (zk_r (zk_l (zk_l (zk_l zdX2_tell_0))))
theorem dX2_tell_6 : decode cX2_tell 6 = .ok (.bipush 8, 2) := zk_of (zk_l (zk_l (zk_r (zk_l (zk_l zdX2_tell_0)))))
theorem dX2_tell_8 : decode cX2_tell 8 = .ok (.imul, 1) := zk_of (zk_r (zk_l (zk_r (zk_l (zk_l zdX2_tell_0)))))
theorem dX2_tell_9 : decode cX2_tell 9 = .ok (.iload_n 1, 1) := zk_of (zk_r (zk_r (zk_l (zk_l zdX2_tell_0))))
theorem dX2_tell_10 : decode cX2_tell 10 = .ok (.iadd, 1) := zk_of (zk_l (zk_l (zk_l (zk_r (zk_l zdX2_tell_0)))))
theorem dX2_tell_11 : decode cX2_tell 11 = .ok (.dup2, 1) := zk_of (zk_r (zk_l (zk_l (zk_r (zk_l zdX2_tell_0)))))
theorem dX2_tell_12 : decode cX2_tell 12 = .ok (.laload, 1) := zk_of (zk_r (zk_l (zk_r (zk_l zdX2_tell_0))))
theorem dX2_tell_13 : decode cX2_tell 13 = .ok (.lload_n 2, 1) := zk_of (zk_l (zk_l (zk_r (zk_r (zk_l zdX2_tell_0)))))
theorem dX2_tell_14 : decode cX2_tell 14 = .ok (.lor, 1) := zk_of (zk_r (zk_l (zk_r (zk_r (zk_l zdX2_tell_0)))))
theorem dX2_tell_15 : decode cX2_tell 15 = .ok (.lastore, 1) := zk_of (zk_r (zk_r (zk_r (zk_l zdX2_tell_0))))
theorem dX2_tell_16 : decode cX2_tell 16 = .ok (.aload_n 0, 1) := zk_of (zk_l (zk_l (zk_l (zk_l (zk_r zdX2_tell_0)))))
theorem dX2_tell_17 : decode cX2_tell 17 = .ok (.getfield 9, 3) := zk_of (zk_r (zk_l (zk_l (zk_l (zk_r zdX2_tell_0)))))
theorem dX2_tell_20 : decode cX2_tell 20 = .ok (.iload 4, 2) := zk_of (zk_r (zk_l (zk_l (zk_r zdX2_tell_0))))
theorem dX2_tell_22 : decode cX2_tell 22 = .ok (.iconst 1, 1) := zk_of (zk_l (zk_l (zk_r (zk_l (zk_r zdX2_tell_0)))))
theorem dX2_tell_23 : decode cX2_tell 23 = .ok (.bastore, 1) := zk_of (zk_r (zk_l (zk_r (zk_l (zk_r zdX2_tell_0)))))
theorem dX2_tell_24 : decode cX2_tell 24 = .ok (.aload_n 0, 1) := zk_of (zk_r (zk_r (zk_l (zk_r zdX2_tell_0))))
theorem dX2_tell_25 : decode cX2_tell 25 = .ok (.aload_n 0, 1) := zk_of (zk_l (zk_l (zk_l (zk_r (zk_r zdX2_tell_0)))))
theorem dX2_tell_26 : decode cX2_tell 26 = .ok (.getfield 79, 3) := zk_of (zk_r (zk_l (zk_l (zk_r (zk_r zdX2_tell_0)))))
theorem dX2_tell_29 : decode cX2_tell 29 = .ok (.iload 4, 2) := zk_of (zk_r (zk_l (zk_r (zk_r zdX2_tell_0))))
theorem dX2_tell_31 : decode cX2_tell 31 = .ok (.invokestatic 82, 3) := zk_of (zk_l (zk_l (zk_r (zk_r (zk_r zdX2_tell_0)))))
theorem dX2_tell_34 : decode cX2_tell 34 = .ok (.putfield 79, 3) := zk_of (zk_r (zk_l (zk_r (zk_r (zk_r zdX2_tell_0)))))
theorem dX2_tell_37 : decode cX2_tell 37 = .ok (.return_, 1) := zk_of (zk_r (zk_r (zk_r (zk_r zdX2_tell_0))))
/-- HissHorn$Houses.tell(IJI)V of cell 11 -/
def rmX2_tell_11 : Room := { frames := 1, cells := 0, slots := 0, locals := 14 }
theorem hX2_tell_11_X2 : ∀ w ∈ u_ws RX2 TX2 18, w ∈ wsX2_tell := fun w h => (List.mem_cons_of_mem _ (List.mem_append_right _ h))
theorem mX2_tell_11_1 : Cond.fieldLink RX2 44 "HissHorn$Houses" "told" "[J" ∈ wsX2_tell := (List.mem_cons_of_mem _ (List.mem_append_left _ (List.mem_of_getElem? (i := 0) rfl)))
theorem mX2_tell_11_2 : Cond.fieldLink RX2 9 "HissHorn$Houses" "busy" "[Z" ∈ wsX2_tell := (List.mem_cons_of_mem _ (List.mem_append_left _ (List.mem_of_getElem? (i := 1) rfl)))
theorem mX2_tell_11_3 : Cond.fieldLink RX2 79 "HissHorn$Houses" "settled" "I" ∈ wsX2_tell := (List.mem_cons_of_mem _ (List.mem_append_left _ (List.mem_of_getElem? (i := 2) rfl)))
theorem mX2_tell_11_4 : Cond.methodLink RX2 82 Lib.Math.min.name ∈ wsX2_tell := (List.mem_cons_of_mem _ (List.mem_append_left _ (List.mem_of_getElem? (i := 3) rfl)))
theorem mX2_tell_11_5 : Cond.static Lib.Math.min.name ∈ wsX2_tell := (List.mem_cons_of_mem _ (List.mem_append_left _ (List.mem_of_getElem? (i := 4) rfl)))
theorem mX2_tell_11_6 : Cond.initialized "java/lang/Math" ∈ wsX2_tell := (List.mem_cons_of_mem _ (List.mem_append_left _ (List.mem_of_getElem? (i := 5) rfl)))
theorem mX2_tell_11_7 : Cond.code Lib.Math.min.name Lib.Math.min.code 2 (some .int) ∈ wsX2_tell := (List.mem_cons_of_mem _ (List.mem_append_left _ (List.mem_of_getElem? (i := 6) rfl)))
def fX2_tell_11 (x1 : Int32) (x2 : Int64) (x4 : Int32) (u : SX) : Option (Int32 × SX) := (gd (inb ((x4 * 8) + x1) 968) (gd (inb ((x4 * 8) + x1) 968) (lt (sB u 69 (vp_updL (u.2.2.2.1 69) ((x4 * 8) + x1).toNatClampNeg ((u.2.2.2.1 69 ((x4 * 8) + x1).toNatClampNeg) ||| x2))) fun u3 => (gd (inb x4 121) (lt (sA u3 59 (upd (u3.2.1 59) x4.toNatClampNeg (vp_nar .boolean 1))) fun u6 => (lt (sI u6 39 (if x4 < (u6.1 39) then x4 else (u6.1 39))) fun u8 => (some (0, u8))))))))
set_option maxHeartbeats 4000000 in
set_option maxRecDepth 100000 in
theorem wX2_tell_11 {p : Program} {l : Launch} {e : Env} {s : State} {m : MethodId} {args : Array Value} {below : List Frame} {meth : Method} {c : Code} {D : va_G} {cy : Nat → ClassId} {ad st : Nat → Nat} (C : Cx RX2 cX2_tell 5 none wsX2_tell p s m args meth c) (hK : Ky D [(cy 0, .int), (cy 1, .long), (cy 2, .boolean), (cy 3, .byte), (cy 4, .object "HissHorn$Text")] st s) (hJ : JX ad st) (x1 : Int32) (x2 : Int64) (x4 : Int32) {u : SX} {r : Int32} {u' : SX} {H : Heap} {locs : List Loc} {ls : Array Slot} (h : fX2_tell_11 x1 x2 x4 u = some (r, u')) (hP : va_P D vwCl (VX cy ad st u) H) (hS : va_S (Ax (AX ad) s.heap.size) s.heap H locs) (hl : lv_has ls 5 [(0, .ref (ad 11)), (1, .int x1), (2, .long x2), (4, .int x4)]) : W p l e rmX2_tell_11 s m args below meth c H locs 0 0 (MQ below (Qv D (VX cy ad st) (AX ad) s.heap.size r u') args s 0 0 (Ax (AX ad) s.heap.size)) (F0 m 0 ls []) := by
  unfold fX2_tell_11 at h
  refine lv_aload_n C.1 C.2.1 dX2_tell_0 rfl (lv_at hl 0 rfl) ?_
  refine gX_11_told C hX2_tell_11_X2 hK hP mX2_tell_11_1 dX2_tell_1 ?_
  refine lv_iload C.1 C.2.1 dX2_tell_4 (lv_at hl 3 rfl) ?_
  refine lv_bipush (v := 8) C.1 C.2.1 dX2_tell_6 (by decide) ?_
  refine lv_imul C.1 C.2.1 dX2_tell_8 ?_
  refine lv_iload_n C.1 C.2.1 dX2_tell_9 rfl (lv_at hl 1 rfl) ?_
  refine lv_iadd C.1 C.2.1 dX2_tell_10 ?_
  refine lv_dup2_11 C.1 C.2.1 dX2_tell_11 rfl rfl ?_
  obtain ⟨hg1, h⟩ := gd_some h
  refine lX_69 C hK hP hg1 dX2_tell_12 ?_
  refine lv_lload_n C.1 C.2.1 dX2_tell_13 rfl (lv_at hl 2 rfl) ?_
  refine lv_lor C.1 C.2.1 dX2_tell_14 ?_
  obtain ⟨hg2, h⟩ := gd_some h
  refine tX_69 C hK hP hJ hS hg2 dX2_tell_15 (fun H locs hP hS => ?_)
  obtain ⟨u3, hu4, h⟩ := lt_some h
  rw [← hu4] at hP
  refine lv_aload_n C.1 C.2.1 dX2_tell_16 rfl (lv_at hl 0 rfl) ?_
  refine gX_11_busy C hX2_tell_11_X2 hK hP mX2_tell_11_2 dX2_tell_17 ?_
  refine lv_iload C.1 C.2.1 dX2_tell_20 (lv_at hl 3 rfl) ?_
  refine lv_iconst (v := 1) C.1 C.2.1 dX2_tell_22 (by decide) ?_
  obtain ⟨hg5, h⟩ := gd_some h
  refine tX_59 C hK hP hJ hS hg5 dX2_tell_23 (fun H locs hP hS => ?_)
  obtain ⟨u6, hu7, h⟩ := lt_some h
  rw [← hu7] at hP
  refine lv_aload_n C.1 C.2.1 dX2_tell_24 rfl (lv_at hl 0 rfl) ?_
  refine lv_aload_n C.1 C.2.1 dX2_tell_25 rfl (lv_at hl 0 rfl) ?_
  refine gX_11_settled C hX2_tell_11_X2 hK hP mX2_tell_11_3 dX2_tell_26 ?_
  refine lv_iload C.1 C.2.1 dX2_tell_29 (lv_at hl 3 rfl) ?_
  refine va_mmin C.1 C.2.1 (C.2.2.1.trans hl.1.symm) C.2.2.2.2.1 (C.2.2.2.2.2.1 _ mX2_tell_11_4) (C.2.2.2.2.2.1 _ mX2_tell_11_5) (C.2.2.2.2.2.1 _ mX2_tell_11_6) (C.2.2.2.2.2.1 _ mX2_tell_11_7) (Nat.le_of_ble_eq_true rfl) (Nat.le_of_ble_eq_true rfl) (Nat.zero_le _) (Nat.zero_le _) dX2_tell_31 ?_
  refine pX_11_settled C hX2_tell_11_X2 hK hP hJ hS mX2_tell_11_3 dX2_tell_34 (fun H locs hP hS => ?_)
  obtain ⟨u8, hu9, h⟩ := lt_some h
  rw [← hu9] at hP
  cases h
  exact rt_v C hP hS dX2_tell_37
theorem metX2_tell_11 (l : Launch) (D : va_G) (cy : Nat → ClassId) (ad st : Nat → Nat) (hJ : JX ad st) (sz : Nat) (x1 : Int32) (x2 : Int64) (x4 : Int32) {u : SX} {r : Int32} {u' : SX} (h : fX2_tell_11 x1 x2 x4 u = some (r, u')) : Met l yX2_tell wsX2_tell rmX2_tell_11 (va_Pc [.ref (ad 11), .int x1, .long x2, .int x4] (Px D [(cy 0, .int), (cy 1, .long), (cy 2, .boolean), (cy 3, .byte), (cy 4, .object "HissHorn$Text")] st (VX cy ad st) sz u)) (Qv D (VX cy ad st) (AX ad) sz r u') 0 0 (Ax (AX ad) sz) := by
  refine Met.ofW (cc := cX2_tell) (maxL := 5) (ret := none) (by decide) rfl ?_
  intro p e s m args below meth c s₁ B hml hv
  obtain ⟨rfl, hsz, hP, hK⟩ := hv
  subst hsz
  have C : Cx RX2 cX2_tell 5 none wsX2_tell p s m _ meth c := ⟨B.exec, B.bytes, hml, B.returns, findClass_of_methodNamed B.named, atoms_spec (ws := wsX2_tell) B.pre, B.notSynchronized⟩
  have hl := lv_entry ([.ref (ad 11), .int x1, .long x2, .int x4]) (n := 5) (Nat.le_of_ble_eq_true rfl)
  rw [lg_entry_eq]
  exact wX2_tell_11 C hK hJ x1 x2 x4 h hP va_S.rf hl

theorem zdX2_addPrint_45 : (and (and (and (and (and (zk cX2_addPrint 45 (.iload 5) 2) (zk cX2_addPrint 47 (.aload_n 0) 1)) (and (zk cX2_addPrint 48 (.getfield 57) 3) (zk cX2_addPrint 51 (.if_icmp .ge 19) 3))) (and (and (zk cX2_addPrint 54 (.aload_n 0) 1) (zk cX2_addPrint 55 (.aload_n 0) 1)) (and (zk cX2_addPrint 56 (.getfield 54) 3) (zk cX2_addPrint 59 (.iload 5) 2)))) (and (and (and (zk cX2_addPrint 61 (.invokevirtual 60) 3) (zk cX2_addPrint 64 (.iinc 5 1) 3)) (and (zk cX2_addPrint 67 (.goto (-22)) 3) (zk cX2_addPrint 70 (.aload_n 0) 1))) (and (and (zk cX2_addPrint 71 (.iload_n 1) 1) (zk cX2_addPrint 72 (.aload_n 0) 1)) (and (zk cX2_addPrint 73 (.getfield 54) 3) (zk cX2_addPrint 76 (.invokestatic 64) 3))))) (and (and (and (and (zk cX2_addPrint 79 (.iload 4) 2) (zk cX2_addPrint 81 (.invokevirtual 68) 3)) (and (zk cX2_addPrint 84 (.aload_n 0) 1) (zk cX2_addPrint 85 (.dup) 1))) (and (and (zk cX2_addPrint 86 (.getfield 54) 3) (zk cX2_addPrint 89 (.iconst 1) 1)) (and (zk cX2_addPrint 90 (.iadd) 1) (zk cX2_addPrint 91 (.putfield 54) 3)))) (and (and (and (zk cX2_addPrint 94 (.aload_n 0) 1) (zk cX2_addPrint 95 (.getfield 54) 3)) (and (zk cX2_addPrint 98 (.iconst 1) 1) (zk cX2_addPrint 99 (.isub) 1))) (and (and (zk cX2_addPrint 100 (.ireturn) 1) (zk cX2_addPrint 0 (.aload_n 0) 1)) (and (zk cX2_addPrint 1 (.getfield 54) 3) (zk cX2_addPrint 4 (.bipush 40) 2)))))) = true := by decide +kernel
theorem dX2_addPrint_45 : decode cX2_addPrint 45 = .ok (.iload 5, 2) := zk_of (zk_l (zk_l (zk_l (zk_l (zk_l zdX2_addPrint_45)))))
theorem dX2_addPrint_47 : decode cX2_addPrint 47 = .ok (.aload_n 0, 1) := zk_of (zk_r (zk_l (zk_l (zk_l (zk_l zdX2_addPrint_45)))))
theorem dX2_addPrint_48 : decode cX2_addPrint 48 = .ok (.getfield 57, 3) := zk_of (zk_l (zk_r (zk_l (zk_l (zk_l zdX2_addPrint_45)))))
theorem dX2_addPrint_51 : decode cX2_addPrint 51 = .ok (.if_icmp .ge 19, 3) := zk_of (zk_r (zk_r (zk_l (zk_l (zk_l zdX2_addPrint_45)))))
theorem dX2_addPrint_54 : decode cX2_addPrint 54 = .ok (.aload_n 0, 1) := zk_of (zk_l (zk_l (zk_r (zk_l (zk_l zdX2_addPrint_45)))))
theorem dX2_addPrint_55 : decode cX2_addPrint 55 = .ok (.aload_n 0, 1) := zk_of (zk_r (zk_l (zk_r (zk_l (zk_l zdX2_addPrint_45)))))
theorem dX2_addPrint_56 : decode cX2_addPrint 56 = .ok (.getfield 54, 3) := zk_of (zk_l (zk_r (zk_r (zk_l (zk_l zdX2_addPrint_45)))))
theorem dX2_addPrint_59 : decode cX2_addPrint 59 = .ok (.iload 5, 2) := zk_of (zk_r (zk_r (zk_r (zk_l (zk_l zdX2_addPrint_45)))))
theorem dX2_addPrint_61 : decode cX2_addPrint 61 = .ok (.invokevirtual 60, 3) := zk_of (zk_l (zk_l (zk_l (zk_r (zk_l zdX2_addPrint_45)))))
theorem dX2_addPrint_64 : decode cX2_addPrint 64 = .ok (.iinc 5 1, 3) := zk_of (zk_r (zk_l (zk_l (zk_r (zk_l zdX2_addPrint_45)))))
theorem dX2_addPrint_67 : decode cX2_addPrint 67 = .ok (.goto (-22), 3) := zk_of (zk_l (zk_r (zk_l (zk_r (zk_l zdX2_addPrint_45)))))
theorem dX2_addPrint_70 : decode cX2_addPrint 70 = .ok (.aload_n 0, 1) := zk_of (zk_r (zk_r (zk_l (zk_r (zk_l zdX2_addPrint_45)))))
theorem dX2_addPrint_71 : decode cX2_addPrint 71 = .ok (.iload_n 1, 1) := zk_of (zk_l (zk_l (zk_r (zk_r (zk_l zdX2_addPrint_45)))))
theorem dX2_addPrint_72 : decode cX2_addPrint 72 = .ok (.aload_n 0, 1) := zk_of (zk_r (zk_l (zk_r (zk_r (zk_l zdX2_addPrint_45)))))
theorem dX2_addPrint_73 : decode cX2_addPrint 73 = .ok (.getfield 54, 3) := zk_of (zk_l (zk_r (zk_r (zk_r (zk_l zdX2_addPrint_45)))))
theorem dX2_addPrint_76 : decode cX2_addPrint 76 = .ok (.invokestatic 64, 3) := zk_of (zk_r (zk_r (zk_r (zk_r (zk_l zdX2_addPrint_45)))))
theorem dX2_addPrint_79 : decode cX2_addPrint 79 = .ok (.iload 4, 2) := zk_of (zk_l (zk_l (zk_l (zk_l (zk_r zdX2_addPrint_45)))))
theorem dX2_addPrint_81 : decode cX2_addPrint 81 = .ok (.invokevirtual 68, 3) := zk_of (zk_r (zk_l (zk_l (zk_l (zk_r zdX2_addPrint_45)))))
theorem dX2_addPrint_84 : decode cX2_addPrint 84 = .ok (.aload_n 0, 1) := zk_of (zk_l (zk_r (zk_l (zk_l (zk_r zdX2_addPrint_45)))))
theorem dX2_addPrint_85 : decode cX2_addPrint 85 = .ok (.dup, 1) := zk_of (zk_r (zk_r (zk_l (zk_l (zk_r zdX2_addPrint_45)))))
theorem dX2_addPrint_86 : decode cX2_addPrint 86 = .ok (.getfield 54, 3) := zk_of (zk_l (zk_l (zk_r (zk_l (zk_r zdX2_addPrint_45)))))
theorem dX2_addPrint_89 : decode cX2_addPrint 89 = .ok (.iconst 1, 1) := zk_of (zk_r (zk_l (zk_r (zk_l (zk_r zdX2_addPrint_45)))))
theorem dX2_addPrint_90 : decode cX2_addPrint 90 = .ok (.iadd, 1) := zk_of (zk_l (zk_r (zk_r (zk_l (zk_r zdX2_addPrint_45)))))
theorem dX2_addPrint_91 : decode cX2_addPrint 91 = .ok (.putfield 54, 3) := zk_of (zk_r (zk_r (zk_r (zk_l (zk_r zdX2_addPrint_45)))))
theorem dX2_addPrint_94 : decode cX2_addPrint 94 = .ok (.aload_n 0, 1) := zk_of (zk_l (zk_l (zk_l (zk_r (zk_r zdX2_addPrint_45)))))
theorem dX2_addPrint_95 : decode cX2_addPrint 95 = .ok (.getfield 54, 3) := zk_of (zk_r (zk_l (zk_l (zk_r (zk_r zdX2_addPrint_45)))))
theorem dX2_addPrint_98 : decode cX2_addPrint 98 = .ok (.iconst 1, 1) := zk_of (zk_l (zk_r (zk_l (zk_r (zk_r zdX2_addPrint_45)))))
theorem dX2_addPrint_99 : decode cX2_addPrint 99 = .ok (.isub, 1) := zk_of (zk_r (zk_r (zk_l (zk_r (zk_r zdX2_addPrint_45)))))
theorem dX2_addPrint_100 : decode cX2_addPrint 100 = .ok (.ireturn, 1) := zk_of (zk_l (zk_l (zk_r (zk_r (zk_r zdX2_addPrint_45)))))
theorem dX2_addPrint_0 : decode cX2_addPrint 0 = .ok (.aload_n 0, 1) := zk_of (zk_r (zk_l (zk_r (zk_r (zk_r zdX2_addPrint_45)))))
theorem dX2_addPrint_1 : decode cX2_addPrint 1 = .ok (.getfield 54, 3) := zk_of (zk_l (zk_r (zk_r (zk_r (zk_r zdX2_addPrint_45)))))
theorem dX2_addPrint_4 : decode cX2_addPrint 4 = .ok (.bipush 40, 2) := zk_of (zk_r (zk_r (zk_r (zk_r (zk_r zdX2_addPrint_45)))))
set_option maxRecDepth 20000 in
theorem ggX2_addPrint_X2_compare : GoodIn wsX2_addPrint wsX2_compare := ggi (fun w h => List.mem_cons_of_mem _ (List.mem_append_left _ (List.mem_append_right _ (List.mem_append_left _ h)))) gs_X2_compare
set_option maxRecDepth 20000 in
theorem gX2_addPrint_X2_compare : GoodIn wsX2_addPrint (wsV RX2 60 RX2 yX2_compare wsX2_compare) := goodIn_app (goodIn_of _ (by decide +kernel)) ggX2_addPrint_X2_compare
set_option maxRecDepth 20000 in
theorem ggX2_addPrint_X2_printBit : GoodIn wsX2_addPrint wsX2_printBit := ggi (fun w h => List.mem_cons_of_mem _ (List.mem_append_left _ (List.mem_append_right _ (List.mem_append_right _ (List.mem_append_left _ h))))) gs_X2_printBit
set_option maxRecDepth 20000 in
theorem gX2_addPrint_X2_printBit : GoodIn wsX2_addPrint (va_wsS RX2 64 yX2_printBit wsX2_printBit) := goodIn_app (goodIn_of _ (by decide +kernel)) ggX2_addPrint_X2_printBit
set_option maxRecDepth 20000 in
theorem ggX2_addPrint_X2_tell : GoodIn wsX2_addPrint wsX2_tell := ggi (fun w h => List.mem_cons_of_mem _ (List.mem_append_left _ (List.mem_append_right _ (List.mem_append_right _ (List.mem_append_right _ h))))) gs_X2_tell
set_option maxRecDepth 20000 in
theorem gX2_addPrint_X2_tell : GoodIn wsX2_addPrint (wsV RX2 68 RX2 yX2_tell wsX2_tell) := goodIn_app (goodIn_of _ (by decide +kernel)) ggX2_addPrint_X2_tell
theorem zdX2_addPrint_6 : (and (and (and (and (and (zk cX2_addPrint 6 (.if_icmp .lt 5) 3) (zk cX2_addPrint 11 (.aload_n 0) 1)) (zk cX2_addPrint 12 (.getfield 25) 3)) (and (and (zk cX2_addPrint 15 (.aload_n 0) 1) (zk cX2_addPrint 16 (.getfield 54) 3)) (zk cX2_addPrint 19 (.iload_n 2) 1))) (and (and (and (zk cX2_addPrint 20 (.iastore) 1) (zk cX2_addPrint 21 (.aload_n 0) 1)) (zk cX2_addPrint 22 (.getfield 28) 3)) (and (and (zk cX2_addPrint 25 (.aload_n 0) 1) (zk cX2_addPrint 26 (.getfield 54) 3)) (zk cX2_addPrint 29 (.iload_n 3) 1)))) (and (and (and (and (zk cX2_addPrint 30 (.iastore) 1) (zk cX2_addPrint 31 (.aload_n 0) 1)) (zk cX2_addPrint 32 (.getfield 31) 3)) (and (and (zk cX2_addPrint 35 (.aload_n 0) 1) (zk cX2_addPrint 36 (.getfield 54) 3)) (zk cX2_addPrint 39 (.iload 4) 2))) (and (and (and (zk cX2_addPrint 41 (.iastore) 1) (zk cX2_addPrint 42 (.iconst 0) 1)) (zk cX2_addPrint 43 (.istore 5) 2)) (and (zk cX2_addPrint 9 (.iconst (-1)) 1) (zk cX2_addPrint 10 (.ireturn) 1))))) = true := by decide +kernel
theorem dX2_addPrint_6 : decode cX2_addPrint 6 = .ok (.if_icmp .lt 5, 3) := zk_of (zk_l (zk_l (zk_l (zk_l (zk_l zdX2_addPrint_6)))))
theorem dX2_addPrint_11 : decode cX2_addPrint 11 = .ok (.aload_n 0, 1) := zk_of (zk_r (zk_l (zk_l (zk_l (zk_l zdX2_addPrint_6)))))
theorem dX2_addPrint_12 : decode cX2_addPrint 12 = .ok (.getfield 25, 3) := zk_of (zk_r (zk_l (zk_l (zk_l zdX2_addPrint_6))))
theorem dX2_addPrint_15 : decode cX2_addPrint 15 = .ok (.aload_n 0, 1) := zk_of (zk_l (zk_l (zk_r (zk_l (zk_l zdX2_addPrint_6)))))
theorem dX2_addPrint_16 : decode cX2_addPrint 16 = .ok (.getfield 54, 3) := zk_of (zk_r (zk_l (zk_r (zk_l (zk_l zdX2_addPrint_6)))))
theorem dX2_addPrint_19 : decode cX2_addPrint 19 = .ok (.iload_n 2, 1) := zk_of (zk_r (zk_r (zk_l (zk_l zdX2_addPrint_6))))
theorem dX2_addPrint_20 : decode cX2_addPrint 20 = .ok (.iastore, 1) := zk_of (zk_l (zk_l (zk_l (zk_r (zk_l zdX2_addPrint_6)))))
theorem dX2_addPrint_21 : decode cX2_addPrint 21 = .ok (.aload_n 0, 1) := zk_of (zk_r (zk_l (zk_l (zk_r (zk_l zdX2_addPrint_6)))))
theorem dX2_addPrint_22 : decode cX2_addPrint 22 = .ok (.getfield 28, 3) := zk_of (zk_r (zk_l (zk_r (zk_l zdX2_addPrint_6))))
theorem dX2_addPrint_25 : decode cX2_addPrint 25 = .ok (.aload_n 0, 1) := zk_of (zk_l (zk_l (zk_r (zk_r (zk_l zdX2_addPrint_6)))))
theorem dX2_addPrint_26 : decode cX2_addPrint 26 = .ok (.getfield 54, 3) := zk_of (zk_r (zk_l (zk_r (zk_r (zk_l zdX2_addPrint_6)))))
theorem dX2_addPrint_29 : decode cX2_addPrint 29 = .ok (.iload_n 3, 1) := zk_of (zk_r (zk_r (zk_r (zk_l zdX2_addPrint_6))))
theorem dX2_addPrint_30 : decode cX2_addPrint 30 = .ok (.iastore, 1) := zk_of (zk_l (zk_l (zk_l (zk_l (zk_r zdX2_addPrint_6)))))
theorem dX2_addPrint_31 : decode cX2_addPrint 31 = .ok (.aload_n 0, 1) := zk_of (zk_r (zk_l (zk_l (zk_l (zk_r zdX2_addPrint_6)))))
theorem dX2_addPrint_32 : decode cX2_addPrint 32 = .ok (.getfield 31, 3) := zk_of (zk_r (zk_l (zk_l (zk_r zdX2_addPrint_6))))
theorem dX2_addPrint_35 : decode cX2_addPrint 35 = .ok (.aload_n 0, 1) := zk_of (zk_l (zk_l (zk_r (zk_l (zk_r zdX2_addPrint_6)))))
theorem dX2_addPrint_36 : decode cX2_addPrint 36 = .ok (.getfield 54, 3) := zk_of (zk_r (zk_l (zk_r (zk_l (zk_r zdX2_addPrint_6)))))
theorem dX2_addPrint_39 : decode cX2_addPrint 39 = .ok (.iload 4, 2) := zk_of (zk_r (zk_r (zk_l (zk_r zdX2_addPrint_6))))
theorem dX2_addPrint_41 : decode cX2_addPrint 41 = .ok (.iastore, 1) := zk_of (zk_l (zk_l (zk_l (zk_r (zk_r zdX2_addPrint_6)))))
theorem dX2_addPrint_42 : decode cX2_addPrint 42 = .ok (.iconst 0, 1) := zk_of (zk_r (zk_l (zk_l (zk_r (zk_r zdX2_addPrint_6)))))
theorem dX2_addPrint_43 : decode cX2_addPrint 43 = .ok (.istore 5, 2) := zk_of (zk_r (zk_l (zk_r (zk_r zdX2_addPrint_6))))
theorem dX2_addPrint_9 : decode cX2_addPrint 9 = .ok (.iconst (-1), 1) := zk_of (zk_l (zk_r (zk_r (zk_r zdX2_addPrint_6))))
theorem dX2_addPrint_10 : decode cX2_addPrint 10 = .ok (.ireturn, 1) := zk_of (zk_r (zk_r (zk_r (zk_r zdX2_addPrint_6))))
/-- HissHorn$Houses.addPrint(IIII)I of cell 11 -/
def rmX2_addPrint_11 : Room := { frames := 2, cells := 0, slots := 0, locals := 43 }
theorem hX2_addPrint_11_X2 : ∀ w ∈ u_ws RX2 TX2 18, w ∈ wsX2_addPrint := fun w h => (List.mem_cons_of_mem _ (List.mem_append_right _ h))
theorem mX2_addPrint_11_1 : Cond.fieldLink RX2 54 "HissHorn$Houses" "prints" "I" ∈ wsX2_addPrint := (List.mem_cons_of_mem _ (List.mem_append_left _ (List.mem_append_left _ (List.mem_of_getElem? (i := 9) rfl))))
theorem mX2_addPrint_11_2 : Cond.fieldLink RX2 25 "HissHorn$Houses" "printFrom" "[I" ∈ wsX2_addPrint := (List.mem_cons_of_mem _ (List.mem_append_left _ (List.mem_append_left _ (List.mem_of_getElem? (i := 10) rfl))))
theorem mX2_addPrint_11_3 : Cond.fieldLink RX2 28 "HissHorn$Houses" "printTo" "[I" ∈ wsX2_addPrint := (List.mem_cons_of_mem _ (List.mem_append_left _ (List.mem_append_left _ (List.mem_of_getElem? (i := 11) rfl))))
theorem mX2_addPrint_11_4 : Cond.fieldLink RX2 31 "HissHorn$Houses" "printDay" "[I" ∈ wsX2_addPrint := (List.mem_cons_of_mem _ (List.mem_append_left _ (List.mem_append_left _ (List.mem_of_getElem? (i := 12) rfl))))
theorem mX2_addPrint_11_5 : Cond.fieldLink RX2 57 "HissHorn$Houses" "papers" "I" ∈ wsX2_addPrint := (List.mem_cons_of_mem _ (List.mem_append_left _ (List.mem_append_left _ (List.mem_of_getElem? (i := 13) rfl))))
def LX2_addPrint_11_45 (k70 : Int32 → Int32 → SX → Option (Int32 × SX)) : Nat → Int32 → Int32 → Int32 → SX → Option (Int32 × SX)
  | 0, _, _, _, _ => none
  | n + 1, z1, z4, z5, u => (if (u.1 37) ≤ z5 then (k70 z1 z4 u) else ((fX2_compare_11 (u.1 36) z5 u).bind fun q => match q with | (r10, u11) => ((LX2_addPrint_11_45 k70 n) z1 z4 (z5 + 1) u11)))
def GX2_addPrint_11_70 (z1 : Int32) (z4 : Int32) (u : SX) : Option (Int32 × SX) := ((fX2_printBit (u.1 36)).bind fun r13 => ((fX2_tell_11 z1 r13 z4 u).bind fun q => match q with | (r16, u17) => (lt (sI u17 36 ((u17.1 36) + 1)) fun u19 => (some ((u19.1 36) - 1, u19)))))
def fX2_addPrint_11 (x1 : Int32) (x2 : Int32) (x3 : Int32) (x4 : Int32) (u : SX) : Option (Int32 × SX) := (if (u.1 36) < 40 then (gd (inb (u.1 36) 40) (lt (sA u 63 (upd (u.2.1 63) (u.1 36).toNatClampNeg x2)) fun u2 => (gd (inb (u2.1 36) 40) (lt (sA u2 64 (upd (u2.2.1 64) (u2.1 36).toNatClampNeg x3)) fun u5 => (gd (inb (u5.1 36) 40) (lt (sA u5 65 (upd (u5.2.1 65) (u5.1 36).toNatClampNeg x4)) fun u8 => (LX2_addPrint_11_45 GX2_addPrint_11_70 5000 x1 x4 0 u8))))))) else (some ((-1), u)))
set_option maxHeartbeats 4000000 in
set_option maxRecDepth 100000 in
theorem wLX2_addPrint_11_45 {p : Program} {l : Launch} {e : Env} {s : State} {m : MethodId} {args : Array Value} {below : List Frame} {meth : Method} {c : Code} {D : va_G} {cy : Nat → ClassId} {ad st : Nat → Nat} (C : Cx RX2 cX2_addPrint 6 (some .int) wsX2_addPrint p s m args meth c) (hK : Ky D [(cy 0, .int), (cy 1, .long), (cy 2, .boolean), (cy 3, .byte), (cy 4, .object "HissHorn$Text")] st s) (hJ : JX ad st) {r : Int32} {u' : SX} {k70 : Int32 → Int32 → SX → Option (Int32 × SX)} (hk70 : ∀ (z1 : Int32) (z4 : Int32) (u : SX) (H : Heap) (locs : List Loc) (ls : Array Slot), k70 z1 z4 u = some (r, u') → va_P D vwCl (VX cy ad st u) H → va_S (Ax (AX ad) s.heap.size) s.heap H locs → lv_has ls 6 [(0, .ref (ad 11)), (1, .int z1), (4, .int z4)] → W p l e rmX2_addPrint_11 s m args below meth c H locs 0 0 (MQ below (Qi D (VX cy ad st) (AX ad) s.heap.size r u') args s 0 0 (Ax (AX ad) s.heap.size)) (F0 m 70 ls [])) : ∀ (n : Nat) (z1 : Int32) (z4 : Int32) (z5 : Int32) (u : SX) (H : Heap) (locs : List Loc) (ls : Array Slot), LX2_addPrint_11_45 k70 n z1 z4 z5 u = some (r, u') → va_P D vwCl (VX cy ad st u) H → va_S (Ax (AX ad) s.heap.size) s.heap H locs → lv_has ls 6 [(0, .ref (ad 11)), (1, .int z1), (4, .int z4), (5, .int z5)] → W p l e rmX2_addPrint_11 s m args below meth c H locs 0 0 (MQ below (Qi D (VX cy ad st) (AX ad) s.heap.size r u') args s 0 0 (Ax (AX ad) s.heap.size)) (F0 m 45 ls []) := by
  intro n
  induction n with
  | zero =>
    intro z1 z4 z5 u H locs ls h
    exact absurd h (by intro q; cases q)
  | succ n ih =>
    intro z1 z4 z5 u H locs ls h hP hS hl
    rw [LX2_addPrint_11_45] at h
    refine lv_iload C.1 C.2.1 dX2_addPrint_45 (lv_at hl 3 rfl) ?_
    refine lv_aload_n C.1 C.2.1 dX2_addPrint_47 rfl (lv_at hl 0 rfl) ?_
    refine gX_11_papers C hX2_addPrint_11_X2 hK hP mX2_addPrint_11_5 dX2_addPrint_48 ?_
    refine lv_icmp_ge (tgt := 70) C.1 C.2.1 dX2_addPrint_51 (by decide) (fun c51 => ?_) (fun c51 => ?_)
    · rw [if_pos c51] at h
      exact hk70 _ _ _ _ _ _ h hP hS (lv_sub hl [0, 1, 2] rfl)
    · rw [if_neg c51] at h
      refine lv_aload_n C.1 C.2.1 dX2_addPrint_54 rfl (lv_at hl 0 rfl) ?_
      refine lv_aload_n C.1 C.2.1 dX2_addPrint_55 rfl (lv_at hl 0 rfl) ?_
      refine gX_11_prints C hX2_addPrint_11_X2 hK hP mX2_addPrint_11_1 dX2_addPrint_56 ?_
      refine lv_iload C.1 C.2.1 dX2_addPrint_59 (lv_at hl 3 rfl) ?_
      obtain ⟨⟨r10, u11⟩, hc12, h⟩ := bd_some h
      try dsimp only at h
      refine cg_v (As := [.int (u.1 36), .int z5]) (rest := []) (AX_ge hJ) C hK hP hS (metX2_compare_11 l D cy ad st hJ _ (u.1 36) z5 hc12) (cwV 2 C.2.2.2.2.2.1 gX2_addPrint_X2_compare rfl rfl rfl (by decide +kernel) ⟨(Nat.le_of_ble_eq_true rfl), (Nat.le_of_ble_eq_true rfl)⟩) 11 2 rfl rfl rfl hl.1 rfl (Nat.le_of_ble_eq_true rfl) dX2_addPrint_61 ⟨Nat.zero_le _, Nat.zero_le _⟩ (fun H locs hP hS => ?_)
      refine lv_iinc (v := z5 + 1) (lv' := [(5, .int (z5 + 1)), (0, .ref (ad 11)), (1, .int z1), (4, .int z4)]) C.1 C.2.1 dX2_addPrint_64 hl (k := 3) rfl rfl (by decide) rfl (fun ls hl => ?_)
      replace hl := lv_sub (l' := [(0, .ref (ad 11)), (1, .int z1), (4, .int z4), (5, .int (z5 + 1))]) hl [1, 2, 3, 0] rfl
      refine lv_goto (tgt := 45) C.1 C.2.1 dX2_addPrint_67 (by decide) ?_
      exact ih _ _ _ _ _ _ _ h hP hS hl
set_option maxHeartbeats 4000000 in
set_option maxRecDepth 100000 in
theorem wGX2_addPrint_11_70 {p : Program} {l : Launch} {e : Env} {s : State} {m : MethodId} {args : Array Value} {below : List Frame} {meth : Method} {c : Code} {D : va_G} {cy : Nat → ClassId} {ad st : Nat → Nat} (C : Cx RX2 cX2_addPrint 6 (some .int) wsX2_addPrint p s m args meth c) (hK : Ky D [(cy 0, .int), (cy 1, .long), (cy 2, .boolean), (cy 3, .byte), (cy 4, .object "HissHorn$Text")] st s) (hJ : JX ad st) {r : Int32} {u' : SX}   (z1 : Int32) (z4 : Int32) (u : SX) (H : Heap) (locs : List Loc) (ls : Array Slot) (h : GX2_addPrint_11_70 z1 z4 u = some (r, u')) (hP : va_P D vwCl (VX cy ad st u) H) (hS : va_S (Ax (AX ad) s.heap.size) s.heap H locs) (hl : lv_has ls 6 [(0, .ref (ad 11)), (1, .int z1), (4, .int z4)]) : W p l e rmX2_addPrint_11 s m args below meth c H locs 0 0 (MQ below (Qi D (VX cy ad st) (AX ad) s.heap.size r u') args s 0 0 (Ax (AX ad) s.heap.size)) (F0 m 70 ls []) := by
  unfold GX2_addPrint_11_70 at h
  refine lv_aload_n C.1 C.2.1 dX2_addPrint_70 rfl (lv_at hl 0 rfl) ?_
  refine lv_iload_n C.1 C.2.1 dX2_addPrint_71 rfl (lv_at hl 1 rfl) ?_
  refine lv_aload_n C.1 C.2.1 dX2_addPrint_72 rfl (lv_at hl 0 rfl) ?_
  refine gX_11_prints C hX2_addPrint_11_X2 hK hP mX2_addPrint_11_1 dX2_addPrint_73 ?_
  obtain ⟨r13, hc15, h⟩ := bd_some h
  refine cs_l (As := [.int (u.1 36)]) (rest := [.int z1, .ref (ad 11)]) (AX_ge hJ) C hK hP hS (metX2_printBit l D cy st _ (u.1 36) hc15) (va_cwS 1 C.2.2.2.2.2.1 gX2_addPrint_X2_printBit rfl rfl rfl (by decide +kernel) ⟨(Nat.le_of_ble_eq_true rfl), (Nat.le_of_ble_eq_true rfl)⟩) rfl hl.1 rfl (Nat.le_of_ble_eq_true rfl) dX2_addPrint_76 ⟨Nat.zero_le _, Nat.zero_le _⟩ (fun H locs hP hS => ?_)
  refine lv_iload C.1 C.2.1 dX2_addPrint_79 (lv_at hl 2 rfl) ?_
  obtain ⟨⟨r16, u17⟩, hc18, h⟩ := bd_some h
  try dsimp only at h
  refine cg_v (As := [.int z1, .long r13, .int z4]) (rest := []) (AX_ge hJ) C hK hP hS (metX2_tell_11 l D cy ad st hJ _ z1 r13 z4 hc18) (cwV 3 C.2.2.2.2.2.1 gX2_addPrint_X2_tell rfl rfl rfl (by decide +kernel) ⟨(Nat.le_of_ble_eq_true rfl), (Nat.le_of_ble_eq_true rfl)⟩) 11 2 rfl rfl rfl hl.1 rfl (Nat.le_of_ble_eq_true rfl) dX2_addPrint_81 ⟨Nat.zero_le _, Nat.zero_le _⟩ (fun H locs hP hS => ?_)
  refine lv_aload_n C.1 C.2.1 dX2_addPrint_84 rfl (lv_at hl 0 rfl) ?_
  refine lv_dup C.1 C.2.1 dX2_addPrint_85 rfl ?_
  refine gX_11_prints C hX2_addPrint_11_X2 hK hP mX2_addPrint_11_1 dX2_addPrint_86 ?_
  refine lv_iconst (v := 1) C.1 C.2.1 dX2_addPrint_89 (by decide) ?_
  refine lv_iadd C.1 C.2.1 dX2_addPrint_90 ?_
  refine pX_11_prints C hX2_addPrint_11_X2 hK hP hJ hS mX2_addPrint_11_1 dX2_addPrint_91 (fun H locs hP hS => ?_)
  obtain ⟨u19, hu20, h⟩ := lt_some h
  rw [← hu20] at hP
  refine lv_aload_n C.1 C.2.1 dX2_addPrint_94 rfl (lv_at hl 0 rfl) ?_
  refine gX_11_prints C hX2_addPrint_11_X2 hK hP mX2_addPrint_11_1 dX2_addPrint_95 ?_
  refine lv_iconst (v := 1) C.1 C.2.1 dX2_addPrint_98 (by decide) ?_
  refine lv_isub C.1 C.2.1 dX2_addPrint_99 ?_
  cases h
  exact rt_i C hP hS dX2_addPrint_100
set_option maxHeartbeats 4000000 in
set_option maxRecDepth 100000 in
theorem wX2_addPrint_11 {p : Program} {l : Launch} {e : Env} {s : State} {m : MethodId} {args : Array Value} {below : List Frame} {meth : Method} {c : Code} {D : va_G} {cy : Nat → ClassId} {ad st : Nat → Nat} (C : Cx RX2 cX2_addPrint 6 (some .int) wsX2_addPrint p s m args meth c) (hK : Ky D [(cy 0, .int), (cy 1, .long), (cy 2, .boolean), (cy 3, .byte), (cy 4, .object "HissHorn$Text")] st s) (hJ : JX ad st) (x1 : Int32) (x2 : Int32) (x3 : Int32) (x4 : Int32) {u : SX} {r : Int32} {u' : SX} {H : Heap} {locs : List Loc} {ls : Array Slot} (h : fX2_addPrint_11 x1 x2 x3 x4 u = some (r, u')) (hP : va_P D vwCl (VX cy ad st u) H) (hS : va_S (Ax (AX ad) s.heap.size) s.heap H locs) (hl : lv_has ls 6 [(0, .ref (ad 11)), (1, .int x1), (2, .int x2), (3, .int x3), (4, .int x4)]) : W p l e rmX2_addPrint_11 s m args below meth c H locs 0 0 (MQ below (Qi D (VX cy ad st) (AX ad) s.heap.size r u') args s 0 0 (Ax (AX ad) s.heap.size)) (F0 m 0 ls []) := by
  unfold fX2_addPrint_11 at h
  refine lv_aload_n C.1 C.2.1 dX2_addPrint_0 rfl (lv_at hl 0 rfl) ?_
  refine gX_11_prints C hX2_addPrint_11_X2 hK hP mX2_addPrint_11_1 dX2_addPrint_1 ?_
  refine lv_bipush (v := 40) C.1 C.2.1 dX2_addPrint_4 (by decide) ?_
  refine lv_icmp_lt (tgt := 11) C.1 C.2.1 dX2_addPrint_6 (by decide) (fun c6 => ?_) (fun c6 => ?_)
  · rw [if_pos c6] at h
    refine lv_aload_n C.1 C.2.1 dX2_addPrint_11 rfl (lv_at hl 0 rfl) ?_
    refine gX_11_printFrom C hX2_addPrint_11_X2 hK hP mX2_addPrint_11_2 dX2_addPrint_12 ?_
    refine lv_aload_n C.1 C.2.1 dX2_addPrint_15 rfl (lv_at hl 0 rfl) ?_
    refine gX_11_prints C hX2_addPrint_11_X2 hK hP mX2_addPrint_11_1 dX2_addPrint_16 ?_
    refine lv_iload_n C.1 C.2.1 dX2_addPrint_19 rfl (lv_at hl 2 rfl) ?_
    obtain ⟨hg1, h⟩ := gd_some h
    refine tX_63 C hK hP hJ hS hg1 dX2_addPrint_20 (fun H locs hP hS => ?_)
    obtain ⟨u2, hu3, h⟩ := lt_some h
    rw [← hu3] at hP
    refine lv_aload_n C.1 C.2.1 dX2_addPrint_21 rfl (lv_at hl 0 rfl) ?_
    refine gX_11_printTo C hX2_addPrint_11_X2 hK hP mX2_addPrint_11_3 dX2_addPrint_22 ?_
    refine lv_aload_n C.1 C.2.1 dX2_addPrint_25 rfl (lv_at hl 0 rfl) ?_
    refine gX_11_prints C hX2_addPrint_11_X2 hK hP mX2_addPrint_11_1 dX2_addPrint_26 ?_
    refine lv_iload_n C.1 C.2.1 dX2_addPrint_29 rfl (lv_at hl 3 rfl) ?_
    obtain ⟨hg4, h⟩ := gd_some h
    refine tX_64 C hK hP hJ hS hg4 dX2_addPrint_30 (fun H locs hP hS => ?_)
    obtain ⟨u5, hu6, h⟩ := lt_some h
    rw [← hu6] at hP
    refine lv_aload_n C.1 C.2.1 dX2_addPrint_31 rfl (lv_at hl 0 rfl) ?_
    refine gX_11_printDay C hX2_addPrint_11_X2 hK hP mX2_addPrint_11_4 dX2_addPrint_32 ?_
    refine lv_aload_n C.1 C.2.1 dX2_addPrint_35 rfl (lv_at hl 0 rfl) ?_
    refine gX_11_prints C hX2_addPrint_11_X2 hK hP mX2_addPrint_11_1 dX2_addPrint_36 ?_
    refine lv_iload C.1 C.2.1 dX2_addPrint_39 (lv_at hl 4 rfl) ?_
    obtain ⟨hg7, h⟩ := gd_some h
    refine tX_65 C hK hP hJ hS hg7 dX2_addPrint_41 (fun H locs hP hS => ?_)
    obtain ⟨u8, hu9, h⟩ := lt_some h
    rw [← hu9] at hP
    refine lv_iconst (v := 0) C.1 C.2.1 dX2_addPrint_42 (by decide) ?_
    refine lv_istore (lv' := [(5, .int 0), (0, .ref (ad 11)), (1, .int x1), (2, .int x2), (3, .int x3), (4, .int x4)]) C.1 C.2.1 dX2_addPrint_43 hl (by decide) rfl (fun ls hl => ?_)
    replace hl := lv_sub (l' := [(0, .ref (ad 11)), (1, .int x1), (2, .int x2), (3, .int x3), (4, .int x4), (5, .int 0)]) hl [1, 2, 3, 4, 5, 0] rfl
    exact wLX2_addPrint_11_45 C hK hJ (wGX2_addPrint_11_70 C hK hJ ) 5000 _ _ _ _ _ _ _ h hP hS (lv_sub hl [0, 1, 4, 5] rfl)
  · rw [if_neg c6] at h
    refine lv_iconst (v := (-1)) C.1 C.2.1 dX2_addPrint_9 (by decide) ?_
    cases h
    exact rt_i C hP hS dX2_addPrint_10
theorem metX2_addPrint_11 (l : Launch) (D : va_G) (cy : Nat → ClassId) (ad st : Nat → Nat) (hJ : JX ad st) (sz : Nat) (x1 : Int32) (x2 : Int32) (x3 : Int32) (x4 : Int32) {u : SX} {r : Int32} {u' : SX} (h : fX2_addPrint_11 x1 x2 x3 x4 u = some (r, u')) : Met l yX2_addPrint wsX2_addPrint rmX2_addPrint_11 (va_Pc [.ref (ad 11), .int x1, .int x2, .int x3, .int x4] (Px D [(cy 0, .int), (cy 1, .long), (cy 2, .boolean), (cy 3, .byte), (cy 4, .object "HissHorn$Text")] st (VX cy ad st) sz u)) (Qi D (VX cy ad st) (AX ad) sz r u') 0 0 (Ax (AX ad) sz) := by
  refine Met.ofW (cc := cX2_addPrint) (maxL := 6) (ret := (some .int)) (by decide) rfl ?_
  intro p e s m args below meth c s₁ B hml hv
  obtain ⟨rfl, hsz, hP, hK⟩ := hv
  subst hsz
  have C : Cx RX2 cX2_addPrint 6 (some .int) wsX2_addPrint p s m _ meth c := ⟨B.exec, B.bytes, hml, B.returns, findClass_of_methodNamed B.named, atoms_spec (ws := wsX2_addPrint) B.pre, B.notSynchronized⟩
  have hl := lv_entry ([.ref (ad 11), .int x1, .int x2, .int x3, .int x4]) (n := 6) (Nat.le_of_ble_eq_true rfl)
  rw [lg_entry_eq]
  exact wX2_addPrint_11 C hK hJ x1 x2 x3 x4 h hP va_S.rf hl

theorem zdX2_addPaper_34 : (and (and (and (and (and (zk cX2_addPaper 34 (.iload 5) 2) (zk cX2_addPaper 36 (.aload_n 0) 1)) (and (zk cX2_addPaper 37 (.getfield 54) 3) (zk cX2_addPaper 40 (.if_icmp .ge 19) 3))) (and (and (zk cX2_addPaper 43 (.aload_n 0) 1) (zk cX2_addPaper 44 (.iload 5) 2)) (and (zk cX2_addPaper 46 (.aload_n 0) 1) (zk cX2_addPaper 47 (.getfield 57) 3)))) (and (and (and (zk cX2_addPaper 50 (.invokevirtual 60) 3) (zk cX2_addPaper 53 (.iinc 5 1) 3)) (and (zk cX2_addPaper 56 (.goto (-22)) 3) (zk cX2_addPaper 59 (.aload_n 0) 1))) (and (and (zk cX2_addPaper 60 (.iload_n 1) 1) (zk cX2_addPaper 61 (.aload_n 0) 1)) (and (zk cX2_addPaper 62 (.getfield 57) 3) (zk cX2_addPaper 65 (.invokestatic 72) 3))))) (and (and (and (and (zk cX2_addPaper 68 (.iload 4) 2) (zk cX2_addPaper 70 (.invokevirtual 68) 3)) (and (zk cX2_addPaper 73 (.aload_n 0) 1) (zk cX2_addPaper 74 (.dup) 1))) (and (and (zk cX2_addPaper 75 (.getfield 57) 3) (zk cX2_addPaper 78 (.iconst 1) 1)) (and (zk cX2_addPaper 79 (.iadd) 1) (zk cX2_addPaper 80 (.putfield 57) 3)))) (and (and (and (zk cX2_addPaper 83 (.aload_n 0) 1) (zk cX2_addPaper 84 (.getfield 57) 3)) (and (zk cX2_addPaper 87 (.iconst 1) 1) (zk cX2_addPaper 88 (.isub) 1))) (and (and (zk cX2_addPaper 89 (.ireturn) 1) (zk cX2_addPaper 0 (.aload_n 0) 1)) (and (zk cX2_addPaper 1 (.getfield 57) 3) (zk cX2_addPaper 4 (.bipush 20) 2)))))) = true := by decide +kernel
theorem dX2_addPaper_34 : decode cX2_addPaper 34 = .ok (.iload 5, 2) := zk_of (zk_l (zk_l (zk_l (zk_l (zk_l zdX2_addPaper_34)))))
theorem dX2_addPaper_36 : decode cX2_addPaper 36 = .ok (.aload_n 0, 1) := zk_of (zk_r (zk_l (zk_l (zk_l (zk_l zdX2_addPaper_34)))))
theorem dX2_addPaper_37 : decode cX2_addPaper 37 = .ok (.getfield 54, 3) := zk_of (zk_l (zk_r (zk_l (zk_l (zk_l zdX2_addPaper_34)))))
theorem dX2_addPaper_40 : decode cX2_addPaper 40 = .ok (.if_icmp .ge 19, 3) := zk_of (zk_r (zk_r (zk_l (zk_l (zk_l zdX2_addPaper_34)))))
theorem dX2_addPaper_43 : decode cX2_addPaper 43 = .ok (.aload_n 0, 1) := zk_of (zk_l (zk_l (zk_r (zk_l (zk_l zdX2_addPaper_34)))))
theorem dX2_addPaper_44 : decode cX2_addPaper 44 = .ok (.iload 5, 2) := zk_of (zk_r (zk_l (zk_r (zk_l (zk_l zdX2_addPaper_34)))))
theorem dX2_addPaper_46 : decode cX2_addPaper 46 = .ok (.aload_n 0, 1) := zk_of (zk_l (zk_r (zk_r (zk_l (zk_l zdX2_addPaper_34)))))
theorem dX2_addPaper_47 : decode cX2_addPaper 47 = .ok (.getfield 57, 3) := zk_of (zk_r (zk_r (zk_r (zk_l (zk_l zdX2_addPaper_34)))))
theorem dX2_addPaper_50 : decode cX2_addPaper 50 = .ok (.invokevirtual 60, 3) := zk_of (zk_l (zk_l (zk_l (zk_r (zk_l zdX2_addPaper_34)))))
theorem dX2_addPaper_53 : decode cX2_addPaper 53 = .ok (.iinc 5 1, 3) := zk_of (zk_r (zk_l (zk_l (zk_r (zk_l zdX2_addPaper_34)))))
theorem dX2_addPaper_56 : decode cX2_addPaper 56 = .ok (.goto (-22), 3) := zk_of (zk_l (zk_r (zk_l (zk_r (zk_l zdX2_addPaper_34)))))
theorem dX2_addPaper_59 : decode cX2_addPaper 59 = .ok (.aload_n 0, 1) := zk_of (zk_r (zk_r (zk_l (zk_r (zk_l zdX2_addPaper_34)))))
theorem dX2_addPaper_60 : decode cX2_addPaper 60 = .ok (.iload_n 1, 1) := zk_of (zk_l (zk_l (zk_r (zk_r (zk_l zdX2_addPaper_34)))))
theorem dX2_addPaper_61 : decode cX2_addPaper 61 = .ok (.aload_n 0, 1) := zk_of (zk_r (zk_l (zk_r (zk_r (zk_l zdX2_addPaper_34)))))
theorem dX2_addPaper_62 : decode cX2_addPaper 62 = .ok (.getfield 57, 3) := zk_of (zk_l (zk_r (zk_r (zk_r (zk_l zdX2_addPaper_34)))))
theorem dX2_addPaper_65 : decode cX2_addPaper 65 = .ok (.invokestatic 72, 3) := zk_of (zk_r (zk_r (zk_r (zk_r (zk_l zdX2_addPaper_34)))))
theorem dX2_addPaper_68 : decode cX2_addPaper 68 = .ok (.iload 4, 2) := zk_of (zk_l (zk_l (zk_l (zk_l (zk_r zdX2_addPaper_34)))))
theorem dX2_addPaper_70 : decode cX2_addPaper 70 = .ok (.invokevirtual 68, 3) := zk_of (zk_r (zk_l (zk_l (zk_l (zk_r zdX2_addPaper_34)))))
theorem dX2_addPaper_73 : decode cX2_addPaper 73 = .ok (.aload_n 0, 1) := zk_of (zk_l (zk_r (zk_l (zk_l (zk_r zdX2_addPaper_34)))))
theorem dX2_addPaper_74 : decode cX2_addPaper 74 = .ok (.dup, 1) := zk_of (zk_r (zk_r (zk_l (zk_l (zk_r zdX2_addPaper_34)))))
theorem dX2_addPaper_75 : decode cX2_addPaper 75 = .ok (.getfield 57, 3) := zk_of (zk_l (zk_l (zk_r (zk_l (zk_r zdX2_addPaper_34)))))
theorem dX2_addPaper_78 : decode cX2_addPaper 78 = .ok (.iconst 1, 1) := zk_of (zk_r (zk_l (zk_r (zk_l (zk_r zdX2_addPaper_34)))))
theorem dX2_addPaper_79 : decode cX2_addPaper 79 = .ok (.iadd, 1) := zk_of (zk_l (zk_r (zk_r (zk_l (zk_r zdX2_addPaper_34)))))
theorem dX2_addPaper_80 : decode cX2_addPaper 80 = .ok (.putfield 57, 3) := zk_of (zk_r (zk_r (zk_r (zk_l (zk_r zdX2_addPaper_34)))))
theorem dX2_addPaper_83 : decode cX2_addPaper 83 = .ok (.aload_n 0, 1) := zk_of (zk_l (zk_l (zk_l (zk_r (zk_r zdX2_addPaper_34)))))
theorem dX2_addPaper_84 : decode cX2_addPaper 84 = .ok (.getfield 57, 3) := zk_of (zk_r (zk_l (zk_l (zk_r (zk_r zdX2_addPaper_34)))))
theorem dX2_addPaper_87 : decode cX2_addPaper 87 = .ok (.iconst 1, 1) := zk_of (zk_l (zk_r (zk_l (zk_r (zk_r zdX2_addPaper_34)))))
theorem dX2_addPaper_88 : decode cX2_addPaper 88 = .ok (.isub, 1) := zk_of (zk_r (zk_r (zk_l (zk_r (zk_r zdX2_addPaper_34)))))
theorem dX2_addPaper_89 : decode cX2_addPaper 89 = .ok (.ireturn, 1) := zk_of (zk_l (zk_l (zk_r (zk_r (zk_r zdX2_addPaper_34)))))
theorem dX2_addPaper_0 : decode cX2_addPaper 0 = .ok (.aload_n 0, 1) := zk_of (zk_r (zk_l (zk_r (zk_r (zk_r zdX2_addPaper_34)))))
theorem dX2_addPaper_1 : decode cX2_addPaper 1 = .ok (.getfield 57, 3) := zk_of (zk_l (zk_r (zk_r (zk_r (zk_r zdX2_addPaper_34)))))
theorem dX2_addPaper_4 : decode cX2_addPaper 4 = .ok (.bipush 20, 2) := zk_of (zk_r (zk_r (zk_r (zk_r (zk_r zdX2_addPaper_34)))))
set_option maxRecDepth 20000 in
theorem ggX2_addPaper_X2_compare : GoodIn wsX2_addPaper wsX2_compare := ggi (fun w h => List.mem_cons_of_mem _ (List.mem_append_left _ (List.mem_append_right _ (List.mem_append_left _ h)))) gs_X2_compare
set_option maxRecDepth 20000 in
theorem gX2_addPaper_X2_compare : GoodIn wsX2_addPaper (wsV RX2 60 RX2 yX2_compare wsX2_compare) := goodIn_app (goodIn_of _ (by decide +kernel)) ggX2_addPaper_X2_compare
set_option maxRecDepth 20000 in
theorem ggX2_addPaper_X2_paperBit : GoodIn wsX2_addPaper wsX2_paperBit := ggi (fun w h => List.mem_cons_of_mem _ (List.mem_append_left _ (List.mem_append_right _ (List.mem_append_right _ (List.mem_append_left _ h))))) gs_X2_paperBit
set_option maxRecDepth 20000 in
theorem gX2_addPaper_X2_paperBit : GoodIn wsX2_addPaper (va_wsS RX2 72 yX2_paperBit wsX2_paperBit) := goodIn_app (goodIn_of _ (by decide +kernel)) ggX2_addPaper_X2_paperBit
set_option maxRecDepth 20000 in
theorem ggX2_addPaper_X2_tell : GoodIn wsX2_addPaper wsX2_tell := ggi (fun w h => List.mem_cons_of_mem _ (List.mem_append_left _ (List.mem_append_right _ (List.mem_append_right _ (List.mem_append_right _ h))))) gs_X2_tell
set_option maxRecDepth 20000 in
theorem gX2_addPaper_X2_tell : GoodIn wsX2_addPaper (wsV RX2 68 RX2 yX2_tell wsX2_tell) := goodIn_app (goodIn_of _ (by decide +kernel)) ggX2_addPaper_X2_tell
theorem zdX2_addPaper_6 : (and (and (and (and (and (zk cX2_addPaper 6 (.if_icmp .lt 5) 3) (zk cX2_addPaper 11 (.aload_n 0) 1)) (zk cX2_addPaper 12 (.getfield 34) 3)) (and (zk cX2_addPaper 15 (.aload_n 0) 1) (zk cX2_addPaper 16 (.getfield 57) 3))) (and (and (zk cX2_addPaper 19 (.iload_n 2) 1) (zk cX2_addPaper 20 (.iastore) 1)) (and (zk cX2_addPaper 21 (.aload_n 0) 1) (zk cX2_addPaper 22 (.getfield 37) 3)))) (and (and (and (zk cX2_addPaper 25 (.aload_n 0) 1) (zk cX2_addPaper 26 (.getfield 57) 3)) (and (zk cX2_addPaper 29 (.iload_n 3) 1) (zk cX2_addPaper 30 (.iastore) 1))) (and (and (zk cX2_addPaper 31 (.iconst 0) 1) (zk cX2_addPaper 32 (.istore 5) 2)) (and (zk cX2_addPaper 9 (.iconst (-1)) 1) (zk cX2_addPaper 10 (.ireturn) 1))))) = true := by decide +kernel
theorem dX2_addPaper_6 : decode cX2_addPaper 6 = .ok (.if_icmp .lt 5, 3) := zk_of (zk_l (zk_l (zk_l (zk_l (zk_l zdX2_addPaper_6)))))
theorem dX2_addPaper_11 : decode cX2_addPaper 11 = .ok (.aload_n 0, 1) := zk_of (zk_r (zk_l (zk_l (zk_l (zk_l zdX2_addPaper_6)))))
theorem dX2_addPaper_12 : decode cX2_addPaper 12 = .ok (.getfield 34, 3) := zk_of (zk_r (zk_l (zk_l (zk_l zdX2_addPaper_6))))
theorem dX2_addPaper_15 : decode cX2_addPaper 15 = .ok (.aload_n 0, 1) := zk_of (zk_l (zk_r (zk_l (zk_l zdX2_addPaper_6))))
theorem dX2_addPaper_16 : decode cX2_addPaper 16 = .ok (.getfield 57, 3) := zk_of (zk_r (zk_r (zk_l (zk_l zdX2_addPaper_6))))
theorem dX2_addPaper_19 : decode cX2_addPaper 19 = .ok (.iload_n 2, 1) := zk_of (zk_l (zk_l (zk_r (zk_l zdX2_addPaper_6))))
theorem dX2_addPaper_20 : decode cX2_addPaper 20 = .ok (.iastore, 1) := zk_of (zk_r (zk_l (zk_r (zk_l zdX2_addPaper_6))))
theorem dX2_addPaper_21 : decode cX2_addPaper 21 = .ok (.aload_n 0, 1) := zk_of (zk_l (zk_r (zk_r (zk_l zdX2_addPaper_6))))
theorem dX2_addPaper_22 : decode cX2_addPaper 22 = .ok (.getfield 37, 3) := zk_of (zk_r (zk_r (zk_r (zk_l zdX2_addPaper_6))))
theorem dX2_addPaper_25 : decode cX2_addPaper 25 = .ok (.aload_n 0, 1) := zk_of (zk_l (zk_l (zk_l (zk_r zdX2_addPaper_6))))
theorem dX2_addPaper_26 : decode cX2_addPaper 26 = .ok (.getfield 57, 3) := zk_of (zk_r (zk_l (zk_l (zk_r zdX2_addPaper_6))))
theorem dX2_addPaper_29 : decode cX2_addPaper 29 = .ok (.iload_n 3, 1) := zk_of (zk_l (zk_r (zk_l (zk_r zdX2_addPaper_6))))
theorem dX2_addPaper_30 : decode cX2_addPaper 30 = .ok (.iastore, 1) := zk_of (zk_r (zk_r (zk_l (zk_r zdX2_addPaper_6))))
theorem dX2_addPaper_31 : decode cX2_addPaper 31 = .ok (.iconst 0, 1) := zk_of (zk_l (zk_l (zk_r (zk_r zdX2_addPaper_6))))
theorem dX2_addPaper_32 : decode cX2_addPaper 32 = .ok (.istore 5, 2) := zk_of (zk_r (zk_l (zk_r (zk_r zdX2_addPaper_6))))
theorem dX2_addPaper_9 : decode cX2_addPaper 9 = .ok (.iconst (-1), 1) := zk_of (zk_l (zk_r (zk_r (zk_r zdX2_addPaper_6))))
theorem dX2_addPaper_10 : decode cX2_addPaper 10 = .ok (.ireturn, 1) := zk_of (zk_r (zk_r (zk_r (zk_r zdX2_addPaper_6))))
/-- HissHorn$Houses.addPaper(IIII)I of cell 11 -/
def rmX2_addPaper_11 : Room := { frames := 2, cells := 0, slots := 0, locals := 43 }
theorem hX2_addPaper_11_X2 : ∀ w ∈ u_ws RX2 TX2 18, w ∈ wsX2_addPaper := fun w h => (List.mem_cons_of_mem _ (List.mem_append_right _ h))
theorem mX2_addPaper_11_1 : Cond.fieldLink RX2 57 "HissHorn$Houses" "papers" "I" ∈ wsX2_addPaper := (List.mem_cons_of_mem _ (List.mem_append_left _ (List.mem_append_left _ (List.mem_of_getElem? (i := 9) rfl))))
theorem mX2_addPaper_11_2 : Cond.fieldLink RX2 34 "HissHorn$Houses" "paperFrom" "[I" ∈ wsX2_addPaper := (List.mem_cons_of_mem _ (List.mem_append_left _ (List.mem_append_left _ (List.mem_of_getElem? (i := 10) rfl))))
theorem mX2_addPaper_11_3 : Cond.fieldLink RX2 37 "HissHorn$Houses" "paperTo" "[I" ∈ wsX2_addPaper := (List.mem_cons_of_mem _ (List.mem_append_left _ (List.mem_append_left _ (List.mem_of_getElem? (i := 11) rfl))))
theorem mX2_addPaper_11_4 : Cond.fieldLink RX2 54 "HissHorn$Houses" "prints" "I" ∈ wsX2_addPaper := (List.mem_cons_of_mem _ (List.mem_append_left _ (List.mem_append_left _ (List.mem_of_getElem? (i := 12) rfl))))
def LX2_addPaper_11_34 (k59 : Int32 → Int32 → SX → Option (Int32 × SX)) : Nat → Int32 → Int32 → Int32 → SX → Option (Int32 × SX)
  | 0, _, _, _, _ => none
  | n + 1, z1, z4, z5, u => (if (u.1 36) ≤ z5 then (k59 z1 z4 u) else ((fX2_compare_11 z5 (u.1 37) u).bind fun q => match q with | (r7, u8) => ((LX2_addPaper_11_34 k59 n) z1 z4 (z5 + 1) u8)))
def GX2_addPaper_11_59 (z1 : Int32) (z4 : Int32) (u : SX) : Option (Int32 × SX) := ((fX2_paperBit (u.1 37)).bind fun r10 => ((fX2_tell_11 z1 r10 z4 u).bind fun q => match q with | (r13, u14) => (lt (sI u14 37 ((u14.1 37) + 1)) fun u16 => (some ((u16.1 37) - 1, u16)))))
def fX2_addPaper_11 (x1 : Int32) (x2 : Int32) (x3 : Int32) (x4 : Int32) (u : SX) : Option (Int32 × SX) := (if (u.1 37) < 20 then (gd (inb (u.1 37) 20) (lt (sA u 66 (upd (u.2.1 66) (u.1 37).toNatClampNeg x2)) fun u2 => (gd (inb (u2.1 37) 20) (lt (sA u2 67 (upd (u2.2.1 67) (u2.1 37).toNatClampNeg x3)) fun u5 => (LX2_addPaper_11_34 GX2_addPaper_11_59 5000 x1 x4 0 u5))))) else (some ((-1), u)))
set_option maxHeartbeats 4000000 in
set_option maxRecDepth 100000 in
theorem wLX2_addPaper_11_34 {p : Program} {l : Launch} {e : Env} {s : State} {m : MethodId} {args : Array Value} {below : List Frame} {meth : Method} {c : Code} {D : va_G} {cy : Nat → ClassId} {ad st : Nat → Nat} (C : Cx RX2 cX2_addPaper 6 (some .int) wsX2_addPaper p s m args meth c) (hK : Ky D [(cy 0, .int), (cy 1, .long), (cy 2, .boolean), (cy 3, .byte), (cy 4, .object "HissHorn$Text")] st s) (hJ : JX ad st) {r : Int32} {u' : SX} {k59 : Int32 → Int32 → SX → Option (Int32 × SX)} (hk59 : ∀ (z1 : Int32) (z4 : Int32) (u : SX) (H : Heap) (locs : List Loc) (ls : Array Slot), k59 z1 z4 u = some (r, u') → va_P D vwCl (VX cy ad st u) H → va_S (Ax (AX ad) s.heap.size) s.heap H locs → lv_has ls 6 [(0, .ref (ad 11)), (1, .int z1), (4, .int z4)] → W p l e rmX2_addPaper_11 s m args below meth c H locs 0 0 (MQ below (Qi D (VX cy ad st) (AX ad) s.heap.size r u') args s 0 0 (Ax (AX ad) s.heap.size)) (F0 m 59 ls [])) : ∀ (n : Nat) (z1 : Int32) (z4 : Int32) (z5 : Int32) (u : SX) (H : Heap) (locs : List Loc) (ls : Array Slot), LX2_addPaper_11_34 k59 n z1 z4 z5 u = some (r, u') → va_P D vwCl (VX cy ad st u) H → va_S (Ax (AX ad) s.heap.size) s.heap H locs → lv_has ls 6 [(0, .ref (ad 11)), (1, .int z1), (4, .int z4), (5, .int z5)] → W p l e rmX2_addPaper_11 s m args below meth c H locs 0 0 (MQ below (Qi D (VX cy ad st) (AX ad) s.heap.size r u') args s 0 0 (Ax (AX ad) s.heap.size)) (F0 m 34 ls []) := by
  intro n
  induction n with
  | zero =>
    intro z1 z4 z5 u H locs ls h
    exact absurd h (by intro q; cases q)
  | succ n ih =>
    intro z1 z4 z5 u H locs ls h hP hS hl
    rw [LX2_addPaper_11_34] at h
    refine lv_iload C.1 C.2.1 dX2_addPaper_34 (lv_at hl 3 rfl) ?_
    refine lv_aload_n C.1 C.2.1 dX2_addPaper_36 rfl (lv_at hl 0 rfl) ?_
    refine gX_11_prints C hX2_addPaper_11_X2 hK hP mX2_addPaper_11_4 dX2_addPaper_37 ?_
    refine lv_icmp_ge (tgt := 59) C.1 C.2.1 dX2_addPaper_40 (by decide) (fun c40 => ?_) (fun c40 => ?_)
    · rw [if_pos c40] at h
      exact hk59 _ _ _ _ _ _ h hP hS (lv_sub hl [0, 1, 2] rfl)
    · rw [if_neg c40] at h
      refine lv_aload_n C.1 C.2.1 dX2_addPaper_43 rfl (lv_at hl 0 rfl) ?_
      refine lv_iload C.1 C.2.1 dX2_addPaper_44 (lv_at hl 3 rfl) ?_
      refine lv_aload_n C.1 C.2.1 dX2_addPaper_46 rfl (lv_at hl 0 rfl) ?_
      refine gX_11_papers C hX2_addPaper_11_X2 hK hP mX2_addPaper_11_1 dX2_addPaper_47 ?_
      obtain ⟨⟨r7, u8⟩, hc9, h⟩ := bd_some h
      try dsimp only at h
      refine cg_v (As := [.int z5, .int (u.1 37)]) (rest := []) (AX_ge hJ) C hK hP hS (metX2_compare_11 l D cy ad st hJ _ z5 (u.1 37) hc9) (cwV 2 C.2.2.2.2.2.1 gX2_addPaper_X2_compare rfl rfl rfl (by decide +kernel) ⟨(Nat.le_of_ble_eq_true rfl), (Nat.le_of_ble_eq_true rfl)⟩) 11 2 rfl rfl rfl hl.1 rfl (Nat.le_of_ble_eq_true rfl) dX2_addPaper_50 ⟨Nat.zero_le _, Nat.zero_le _⟩ (fun H locs hP hS => ?_)
      refine lv_iinc (v := z5 + 1) (lv' := [(5, .int (z5 + 1)), (0, .ref (ad 11)), (1, .int z1), (4, .int z4)]) C.1 C.2.1 dX2_addPaper_53 hl (k := 3) rfl rfl (by decide) rfl (fun ls hl => ?_)
      replace hl := lv_sub (l' := [(0, .ref (ad 11)), (1, .int z1), (4, .int z4), (5, .int (z5 + 1))]) hl [1, 2, 3, 0] rfl
      refine lv_goto (tgt := 34) C.1 C.2.1 dX2_addPaper_56 (by decide) ?_
      exact ih _ _ _ _ _ _ _ h hP hS hl
set_option maxHeartbeats 4000000 in
set_option maxRecDepth 100000 in
theorem wGX2_addPaper_11_59 {p : Program} {l : Launch} {e : Env} {s : State} {m : MethodId} {args : Array Value} {below : List Frame} {meth : Method} {c : Code} {D : va_G} {cy : Nat → ClassId} {ad st : Nat → Nat} (C : Cx RX2 cX2_addPaper 6 (some .int) wsX2_addPaper p s m args meth c) (hK : Ky D [(cy 0, .int), (cy 1, .long), (cy 2, .boolean), (cy 3, .byte), (cy 4, .object "HissHorn$Text")] st s) (hJ : JX ad st) {r : Int32} {u' : SX}   (z1 : Int32) (z4 : Int32) (u : SX) (H : Heap) (locs : List Loc) (ls : Array Slot) (h : GX2_addPaper_11_59 z1 z4 u = some (r, u')) (hP : va_P D vwCl (VX cy ad st u) H) (hS : va_S (Ax (AX ad) s.heap.size) s.heap H locs) (hl : lv_has ls 6 [(0, .ref (ad 11)), (1, .int z1), (4, .int z4)]) : W p l e rmX2_addPaper_11 s m args below meth c H locs 0 0 (MQ below (Qi D (VX cy ad st) (AX ad) s.heap.size r u') args s 0 0 (Ax (AX ad) s.heap.size)) (F0 m 59 ls []) := by
  unfold GX2_addPaper_11_59 at h
  refine lv_aload_n C.1 C.2.1 dX2_addPaper_59 rfl (lv_at hl 0 rfl) ?_
  refine lv_iload_n C.1 C.2.1 dX2_addPaper_60 rfl (lv_at hl 1 rfl) ?_
  refine lv_aload_n C.1 C.2.1 dX2_addPaper_61 rfl (lv_at hl 0 rfl) ?_
  refine gX_11_papers C hX2_addPaper_11_X2 hK hP mX2_addPaper_11_1 dX2_addPaper_62 ?_
  obtain ⟨r10, hc12, h⟩ := bd_some h
  refine cs_l (As := [.int (u.1 37)]) (rest := [.int z1, .ref (ad 11)]) (AX_ge hJ) C hK hP hS (metX2_paperBit l D cy st _ (u.1 37) hc12) (va_cwS 1 C.2.2.2.2.2.1 gX2_addPaper_X2_paperBit rfl rfl rfl (by decide +kernel) ⟨(Nat.le_of_ble_eq_true rfl), (Nat.le_of_ble_eq_true rfl)⟩) rfl hl.1 rfl (Nat.le_of_ble_eq_true rfl) dX2_addPaper_65 ⟨Nat.zero_le _, Nat.zero_le _⟩ (fun H locs hP hS => ?_)
  refine lv_iload C.1 C.2.1 dX2_addPaper_68 (lv_at hl 2 rfl) ?_
  obtain ⟨⟨r13, u14⟩, hc15, h⟩ := bd_some h
  try dsimp only at h
  refine cg_v (As := [.int z1, .long r10, .int z4]) (rest := []) (AX_ge hJ) C hK hP hS (metX2_tell_11 l D cy ad st hJ _ z1 r10 z4 hc15) (cwV 3 C.2.2.2.2.2.1 gX2_addPaper_X2_tell rfl rfl rfl (by decide +kernel) ⟨(Nat.le_of_ble_eq_true rfl), (Nat.le_of_ble_eq_true rfl)⟩) 11 2 rfl rfl rfl hl.1 rfl (Nat.le_of_ble_eq_true rfl) dX2_addPaper_70 ⟨Nat.zero_le _, Nat.zero_le _⟩ (fun H locs hP hS => ?_)
  refine lv_aload_n C.1 C.2.1 dX2_addPaper_73 rfl (lv_at hl 0 rfl) ?_
  refine lv_dup C.1 C.2.1 dX2_addPaper_74 rfl ?_
  refine gX_11_papers C hX2_addPaper_11_X2 hK hP mX2_addPaper_11_1 dX2_addPaper_75 ?_
  refine lv_iconst (v := 1) C.1 C.2.1 dX2_addPaper_78 (by decide) ?_
  refine lv_iadd C.1 C.2.1 dX2_addPaper_79 ?_
  refine pX_11_papers C hX2_addPaper_11_X2 hK hP hJ hS mX2_addPaper_11_1 dX2_addPaper_80 (fun H locs hP hS => ?_)
  obtain ⟨u16, hu17, h⟩ := lt_some h
  rw [← hu17] at hP
  refine lv_aload_n C.1 C.2.1 dX2_addPaper_83 rfl (lv_at hl 0 rfl) ?_
  refine gX_11_papers C hX2_addPaper_11_X2 hK hP mX2_addPaper_11_1 dX2_addPaper_84 ?_
  refine lv_iconst (v := 1) C.1 C.2.1 dX2_addPaper_87 (by decide) ?_
  refine lv_isub C.1 C.2.1 dX2_addPaper_88 ?_
  cases h
  exact rt_i C hP hS dX2_addPaper_89
set_option maxHeartbeats 4000000 in
set_option maxRecDepth 100000 in
theorem wX2_addPaper_11 {p : Program} {l : Launch} {e : Env} {s : State} {m : MethodId} {args : Array Value} {below : List Frame} {meth : Method} {c : Code} {D : va_G} {cy : Nat → ClassId} {ad st : Nat → Nat} (C : Cx RX2 cX2_addPaper 6 (some .int) wsX2_addPaper p s m args meth c) (hK : Ky D [(cy 0, .int), (cy 1, .long), (cy 2, .boolean), (cy 3, .byte), (cy 4, .object "HissHorn$Text")] st s) (hJ : JX ad st) (x1 : Int32) (x2 : Int32) (x3 : Int32) (x4 : Int32) {u : SX} {r : Int32} {u' : SX} {H : Heap} {locs : List Loc} {ls : Array Slot} (h : fX2_addPaper_11 x1 x2 x3 x4 u = some (r, u')) (hP : va_P D vwCl (VX cy ad st u) H) (hS : va_S (Ax (AX ad) s.heap.size) s.heap H locs) (hl : lv_has ls 6 [(0, .ref (ad 11)), (1, .int x1), (2, .int x2), (3, .int x3), (4, .int x4)]) : W p l e rmX2_addPaper_11 s m args below meth c H locs 0 0 (MQ below (Qi D (VX cy ad st) (AX ad) s.heap.size r u') args s 0 0 (Ax (AX ad) s.heap.size)) (F0 m 0 ls []) := by
  unfold fX2_addPaper_11 at h
  refine lv_aload_n C.1 C.2.1 dX2_addPaper_0 rfl (lv_at hl 0 rfl) ?_
  refine gX_11_papers C hX2_addPaper_11_X2 hK hP mX2_addPaper_11_1 dX2_addPaper_1 ?_
  refine lv_bipush (v := 20) C.1 C.2.1 dX2_addPaper_4 (by decide) ?_
  refine lv_icmp_lt (tgt := 11) C.1 C.2.1 dX2_addPaper_6 (by decide) (fun c6 => ?_) (fun c6 => ?_)
  · rw [if_pos c6] at h
    refine lv_aload_n C.1 C.2.1 dX2_addPaper_11 rfl (lv_at hl 0 rfl) ?_
    refine gX_11_paperFrom C hX2_addPaper_11_X2 hK hP mX2_addPaper_11_2 dX2_addPaper_12 ?_
    refine lv_aload_n C.1 C.2.1 dX2_addPaper_15 rfl (lv_at hl 0 rfl) ?_
    refine gX_11_papers C hX2_addPaper_11_X2 hK hP mX2_addPaper_11_1 dX2_addPaper_16 ?_
    refine lv_iload_n C.1 C.2.1 dX2_addPaper_19 rfl (lv_at hl 2 rfl) ?_
    obtain ⟨hg1, h⟩ := gd_some h
    refine tX_66 C hK hP hJ hS hg1 dX2_addPaper_20 (fun H locs hP hS => ?_)
    obtain ⟨u2, hu3, h⟩ := lt_some h
    rw [← hu3] at hP
    refine lv_aload_n C.1 C.2.1 dX2_addPaper_21 rfl (lv_at hl 0 rfl) ?_
    refine gX_11_paperTo C hX2_addPaper_11_X2 hK hP mX2_addPaper_11_3 dX2_addPaper_22 ?_
    refine lv_aload_n C.1 C.2.1 dX2_addPaper_25 rfl (lv_at hl 0 rfl) ?_
    refine gX_11_papers C hX2_addPaper_11_X2 hK hP mX2_addPaper_11_1 dX2_addPaper_26 ?_
    refine lv_iload_n C.1 C.2.1 dX2_addPaper_29 rfl (lv_at hl 3 rfl) ?_
    obtain ⟨hg4, h⟩ := gd_some h
    refine tX_67 C hK hP hJ hS hg4 dX2_addPaper_30 (fun H locs hP hS => ?_)
    obtain ⟨u5, hu6, h⟩ := lt_some h
    rw [← hu6] at hP
    refine lv_iconst (v := 0) C.1 C.2.1 dX2_addPaper_31 (by decide) ?_
    refine lv_istore (lv' := [(5, .int 0), (0, .ref (ad 11)), (1, .int x1), (2, .int x2), (3, .int x3), (4, .int x4)]) C.1 C.2.1 dX2_addPaper_32 hl (by decide) rfl (fun ls hl => ?_)
    replace hl := lv_sub (l' := [(0, .ref (ad 11)), (1, .int x1), (2, .int x2), (3, .int x3), (4, .int x4), (5, .int 0)]) hl [1, 2, 3, 4, 5, 0] rfl
    exact wLX2_addPaper_11_34 C hK hJ (wGX2_addPaper_11_59 C hK hJ ) 5000 _ _ _ _ _ _ _ h hP hS (lv_sub hl [0, 1, 4, 5] rfl)
  · rw [if_neg c6] at h
    refine lv_iconst (v := (-1)) C.1 C.2.1 dX2_addPaper_9 (by decide) ?_
    cases h
    exact rt_i C hP hS dX2_addPaper_10
theorem metX2_addPaper_11 (l : Launch) (D : va_G) (cy : Nat → ClassId) (ad st : Nat → Nat) (hJ : JX ad st) (sz : Nat) (x1 : Int32) (x2 : Int32) (x3 : Int32) (x4 : Int32) {u : SX} {r : Int32} {u' : SX} (h : fX2_addPaper_11 x1 x2 x3 x4 u = some (r, u')) : Met l yX2_addPaper wsX2_addPaper rmX2_addPaper_11 (va_Pc [.ref (ad 11), .int x1, .int x2, .int x3, .int x4] (Px D [(cy 0, .int), (cy 1, .long), (cy 2, .boolean), (cy 3, .byte), (cy 4, .object "HissHorn$Text")] st (VX cy ad st) sz u)) (Qi D (VX cy ad st) (AX ad) sz r u') 0 0 (Ax (AX ad) sz) := by
  refine Met.ofW (cc := cX2_addPaper) (maxL := 6) (ret := (some .int)) (by decide) rfl ?_
  intro p e s m args below meth c s₁ B hml hv
  obtain ⟨rfl, hsz, hP, hK⟩ := hv
  subst hsz
  have C : Cx RX2 cX2_addPaper 6 (some .int) wsX2_addPaper p s m _ meth c := ⟨B.exec, B.bytes, hml, B.returns, findClass_of_methodNamed B.named, atoms_spec (ws := wsX2_addPaper) B.pre, B.notSynchronized⟩
  have hl := lv_entry ([.ref (ad 11), .int x1, .int x2, .int x3, .int x4]) (n := 6) (Nat.le_of_ble_eq_true rfl)
  rw [lg_entry_eq]
  exact wX2_addPaper_11 C hK hJ x1 x2 x3 x4 h hP va_S.rf hl

theorem zdX11_print_0 : (and (and (and (and (and (zk cX11_print 0 (.aload_n 0) 1) (zk cX11_print 1 (.getfield 90) 3)) (and (zk cX11_print 4 (.iload_n 1) 1) (zk cX11_print 5 (.invokevirtual 323) 3))) (and (and (zk cX11_print 8 (.ifCond .eq 24) 3) (zk cX11_print 32 (.iconst (-1)) 1)) (and (zk cX11_print 33 (.ireturn) 1) (zk cX11_print 11 (.iload_n 3) 1)))) (and (and (and (zk cX11_print 12 (.sipush (-400)) 3) (zk cX11_print 15 (.if_icmp .lt 17) 3)) (and (zk cX11_print 18 (.iload 4) 2) (zk cX11_print 20 (.sipush 400) 3))) (and (and (zk cX11_print 23 (.if_icmp .gt 9) 3) (zk cX11_print 26 (.iload 4) 2)) (and (zk cX11_print 28 (.iload_n 3) 1) (zk cX11_print 29 (.if_icmp .ge 5) 3))))) (and (and (and (and (zk cX11_print 34 (.iload_n 2) 1) (zk cX11_print 35 (.ifCond .eq 35) 3)) (and (zk cX11_print 70 (.aload_n 0) 1) (zk cX11_print 71 (.getfield 90) 3))) (and (and (zk cX11_print 74 (.getfield 330) 3) (zk cX11_print 77 (.bipush 40) 2)) (and (zk cX11_print 79 (.if_icmp .lt 7) 3) (zk cX11_print 86 (.aload_n 0) 1)))) (and (and (and (zk cX11_print 87 (.getfield 90) 3) (zk cX11_print 90 (.iload_n 1) 1)) (and (zk cX11_print 91 (.iload_n 3) 1) (zk cX11_print 92 (.iload 4) 2))) (and (and (zk cX11_print 94 (.aload_n 0) 1) (zk cX11_print 95 (.getfield 103) 3)) (and (zk cX11_print 98 (.invokevirtual 333) 3) (zk cX11_print 101 (.ireturn) 1)))))) = true := by decide +kernel
theorem dX11_print_0 : decode cX11_print 0 = .ok (.aload_n 0, 1) := zk_of (zk_l (zk_l (zk_l (zk_l (zk_l zdX11_print_0)))))
theorem dX11_print_1 : decode cX11_print 1 = .ok (.getfield 90, 3) := zk_of (zk_r (zk_l (zk_l (zk_l (zk_l zdX11_print_0)))))
theorem dX11_print_4 : decode cX11_print 4 = .ok (.iload_n 1, 1) := zk_of (zk_l (zk_r (zk_l (zk_l (zk_l zdX11_print_0)))))
theorem dX11_print_5 : decode cX11_print 5 = .ok (.invokevirtual 323, 3) := zk_of (zk_r (zk_r (zk_l (zk_l (zk_l zdX11_print_0)))))
theorem dX11_print_8 : decode cX11_print 8 = .ok (.ifCond .eq 24, 3) := zk_of (zk_l (zk_l (zk_r (zk_l (zk_l zdX11_print_0)))))
theorem dX11_print_32 : decode cX11_print 32 = .ok (.iconst (-1), 1) := zk_of (zk_r (zk_l (zk_r (zk_l (zk_l zdX11_print_0)))))
theorem dX11_print_33 : decode cX11_print 33 = .ok (.ireturn, 1) := zk_of (zk_l (zk_r (zk_r (zk_l (zk_l zdX11_print_0)))))
theorem dX11_print_11 : decode cX11_print 11 = .ok (.iload_n 3, 1) := zk_of (zk_r (zk_r (zk_r (zk_l (zk_l zdX11_print_0)))))
theorem dX11_print_12 : decode cX11_print 12 = .ok (.sipush (-400), 3) := zk_of (zk_l (zk_l (zk_l (zk_r (zk_l zdX11_print_0)))))
theorem dX11_print_15 : decode cX11_print 15 = .ok (.if_icmp .lt 17, 3) := zk_of (zk_r (zk_l (zk_l (zk_r (zk_l zdX11_print_0)))))
theorem dX11_print_18 : decode cX11_print 18 = .ok (.iload 4, 2) := zk_of (zk_l (zk_r (zk_l (zk_r (zk_l zdX11_print_0)))))
theorem dX11_print_20 : decode cX11_print 20 = .ok (.sipush 400, 3) := zk_of (zk_r (zk_r (zk_l (zk_r (zk_l zdX11_print_0)))))
theorem dX11_print_23 : decode cX11_print 23 = .ok (.if_icmp .gt 9, 3) := zk_of (zk_l (zk_l (zk_r (zk_r (zk_l zdX11_print_0)))))
theorem dX11_print_26 : decode cX11_print 26 = .ok (.iload 4, 2) := zk_of (zk_r (zk_l (zk_r (zk_r (zk_l zdX11_print_0)))))
theorem dX11_print_28 : decode cX11_print 28 = .ok (.iload_n 3, 1) := zk_of (zk_l (zk_r (zk_r (zk_r (zk_l zdX11_print_0)))))
theorem dX11_print_29 : decode cX11_print 29 = .ok (.if_icmp .ge 5, 3) := zk_of (zk_r (zk_r (zk_r (zk_r (zk_l zdX11_print_0)))))
theorem dX11_print_34 : decode cX11_print 34 = .ok (.iload_n 2, 1) := zk_of (zk_l (zk_l (zk_l (zk_l (zk_r zdX11_print_0)))))
theorem dX11_print_35 : decode cX11_print 35 = .ok (.ifCond .eq 35, 3) := zk_of (zk_r (zk_l (zk_l (zk_l (zk_r zdX11_print_0)))))
theorem dX11_print_70 : decode cX11_print 70 = .ok (.aload_n 0, 1) := zk_of (zk_l (zk_r (zk_l (zk_l (zk_r zdX11_print_0)))))
theorem dX11_print_71 : decode cX11_print 71 = .ok (.getfield 90, 3) := zk_of (zk_r (zk_r (zk_l (zk_l (zk_r zdX11_print_0)))))
theorem dX11_print_74 : decode cX11_print 74 = .ok (.getfield 330, 3) := zk_of (zk_l (zk_l (zk_r (zk_l (zk_r zdX11_print_0)))))
theorem dX11_print_77 : decode cX11_print 77 = .ok (.bipush 40, 2) := zk_of (zk_r (zk_l (zk_r (zk_l (zk_r zdX11_print_0)))))
theorem dX11_print_79 : decode cX11_print 79 = .ok (.if_icmp .lt 7, 3) := zk_of (zk_l (zk_r (zk_r (zk_l (zk_r zdX11_print_0)))))
theorem dX11_print_86 : decode cX11_print 86 = .ok (.aload_n 0, 1) := zk_of (zk_r (zk_r (zk_r (zk_l (zk_r zdX11_print_0)))))
theorem dX11_print_87 : decode cX11_print 87 = .ok (.getfield 90, 3) := zk_of (zk_l (zk_l (zk_l (zk_r (zk_r zdX11_print_0)))))
theorem dX11_print_90 : decode cX11_print 90 = .ok (.iload_n 1, 1) := zk_of (zk_r (zk_l (zk_l (zk_r (zk_r zdX11_print_0)))))
theorem dX11_print_91 : decode cX11_print 91 = .ok (.iload_n 3, 1) := zk_of (zk_l (zk_r (zk_l (zk_r (zk_r zdX11_print_0)))))
theorem dX11_print_92 : decode cX11_print 92 = .ok (.iload 4, 2) := zk_of (zk_r (zk_r (zk_l (zk_r (zk_r zdX11_print_0)))))
theorem dX11_print_94 : decode cX11_print 94 = .ok (.aload_n 0, 1) := zk_of (zk_l (zk_l (zk_r (zk_r (zk_r zdX11_print_0)))))
theorem dX11_print_95 : decode cX11_print 95 = .ok (.getfield 103, 3) := zk_of (zk_r (zk_l (zk_r (zk_r (zk_r zdX11_print_0)))))
theorem dX11_print_98 : decode cX11_print 98 = .ok (.invokevirtual 333, 3) := zk_of (zk_l (zk_r (zk_r (zk_r (zk_r zdX11_print_0)))))
theorem dX11_print_101 : decode cX11_print 101 = .ok (.ireturn, 1) := zk_of (zk_r (zk_r (zk_r (zk_r (zk_r zdX11_print_0)))))
set_option maxRecDepth 20000 in
theorem ggX11_print_X2_has : GoodIn wsX11_print wsX2_has := ggi (fun w h => List.mem_cons_of_mem _ (List.mem_append_left _ (List.mem_append_left _ (List.mem_append_right _ (List.mem_append_left _ h))))) gs_X2_has
set_option maxRecDepth 20000 in
theorem gX11_print_X2_has : GoodIn wsX11_print (wsV RX11 323 RX2 yX2_has wsX2_has) := goodIn_app (goodIn_of _ (by decide +kernel)) ggX11_print_X2_has
set_option maxRecDepth 20000 in
theorem ggX11_print_X2_addPrint : GoodIn wsX11_print wsX2_addPrint := ggi (fun w h => List.mem_cons_of_mem _ (List.mem_append_left _ (List.mem_append_left _ (List.mem_append_right _ (List.mem_append_right _ (List.mem_append_left _ h)))))) gs_X2_addPrint
set_option maxRecDepth 20000 in
theorem gX11_print_X2_addPrint : GoodIn wsX11_print (wsV RX11 333 RX2 yX2_addPrint wsX2_addPrint) := goodIn_app (goodIn_of _ (by decide +kernel)) ggX11_print_X2_addPrint
theorem zdX11_print_82 : (and (and (and (and (and (zk cX11_print 82 (.iconst (-1)) 1) (zk cX11_print 83 (.goto 18) 3)) (zk cX11_print 38 (.aload_n 0) 1)) (and (zk cX11_print 39 (.getfield 90) 3) (zk cX11_print 42 (.getfield 324) 3))) (and (and (zk cX11_print 45 (.bipush 20) 2) (zk cX11_print 47 (.if_icmp .lt 7) 3)) (and (zk cX11_print 54 (.aload_n 0) 1) (zk cX11_print 55 (.getfield 90) 3)))) (and (and (and (and (zk cX11_print 58 (.iload_n 1) 1) (zk cX11_print 59 (.iload_n 3) 1)) (zk cX11_print 60 (.iload 4) 2)) (and (zk cX11_print 62 (.aload_n 0) 1) (zk cX11_print 63 (.getfield 103) 3))) (and (and (zk cX11_print 66 (.invokevirtual 327) 3) (zk cX11_print 69 (.ireturn) 1)) (and (zk cX11_print 50 (.iconst (-1)) 1) (zk cX11_print 51 (.goto 18) 3))))) = true := by decide +kernel
theorem dX11_print_82 : decode cX11_print 82 = .ok (.iconst (-1), 1) := zk_of (zk_l (zk_l (zk_l (zk_l (zk_l zdX11_print_82)))))
theorem dX11_print_83 : decode cX11_print 83 = .ok (.goto 18, 3) := zk_of (zk_r (zk_l (zk_l (zk_l (zk_l zdX11_print_82)))))
theorem dX11_print_38 : decode cX11_print 38 = .ok (.aload_n 0, 1) := zk_of (zk_r (zk_l (zk_l (zk_l zdX11_print_82))))
theorem dX11_print_39 : decode cX11_print 39 = .ok (.getfield 90, 3) := zk_of (zk_l (zk_r (zk_l (zk_l zdX11_print_82))))
theorem dX11_print_42 : decode cX11_print 42 = .ok (.getfield 324, 3) := zk_of (zk_r (zk_r (zk_l (zk_l zdX11_print_82))))
theorem dX11_print_45 : decode cX11_print 45 = .ok (.bipush 20, 2) := zk_of (zk_l (zk_l (zk_r (zk_l zdX11_print_82))))
theorem dX11_print_47 : decode cX11_print 47 = .ok (.if_icmp .lt 7, 3) := zk_of (zk_r (zk_l (zk_r (zk_l zdX11_print_82))))
theorem dX11_print_54 : decode cX11_print 54 = .ok (.aload_n 0, 1) := zk_of (zk_l (zk_r (zk_r (zk_l zdX11_print_82))))
theorem dX11_print_55 : decode cX11_print 55 = .ok (.getfield 90, 3) := zk_of (zk_r (zk_r (zk_r (zk_l zdX11_print_82))))
theorem dX11_print_58 : decode cX11_print 58 = .ok (.iload_n 1, 1) := zk_of (zk_l (zk_l (zk_l (zk_l (zk_r zdX11_print_82)))))
theorem dX11_print_59 : decode cX11_print 59 = .ok (.iload_n 3, 1) := zk_of (zk_r (zk_l (zk_l (zk_l (zk_r zdX11_print_82)))))
theorem dX11_print_60 : decode cX11_print 60 = .ok (.iload 4, 2) := zk_of (zk_r (zk_l (zk_l (zk_r zdX11_print_82))))
theorem dX11_print_62 : decode cX11_print 62 = .ok (.aload_n 0, 1) := zk_of (zk_l (zk_r (zk_l (zk_r zdX11_print_82))))
theorem dX11_print_63 : decode cX11_print 63 = .ok (.getfield 103, 3) := zk_of (zk_r (zk_r (zk_l (zk_r zdX11_print_82))))
theorem dX11_print_66 : decode cX11_print 66 = .ok (.invokevirtual 327, 3) := zk_of (zk_l (zk_l (zk_r (zk_r zdX11_print_82))))
theorem dX11_print_69 : decode cX11_print 69 = .ok (.ireturn, 1) := zk_of (zk_r (zk_l (zk_r (zk_r zdX11_print_82))))
theorem dX11_print_50 : decode cX11_print 50 = .ok (.iconst (-1), 1) := zk_of (zk_l (zk_r (zk_r (zk_r zdX11_print_82))))
theorem dX11_print_51 : decode cX11_print 51 = .ok (.goto 18, 3) := zk_of (zk_r (zk_r (zk_r (zk_r zdX11_print_82))))
set_option maxRecDepth 20000 in
theorem ggX11_print_X2_addPaper : GoodIn wsX11_print wsX2_addPaper := ggi (fun w h => List.mem_cons_of_mem _ (List.mem_append_left _ (List.mem_append_left _ (List.mem_append_right _ (List.mem_append_right _ (List.mem_append_right _ h)))))) gs_X2_addPaper
set_option maxRecDepth 20000 in
theorem gX11_print_X2_addPaper : GoodIn wsX11_print (wsV RX11 327 RX2 yX2_addPaper wsX2_addPaper) := goodIn_app (goodIn_of _ (by decide +kernel)) ggX11_print_X2_addPaper
/-- HissHorn.print(IZII)I of cell 0 -/
def rmX11_print_0 : Room := { frames := 3, cells := 0, slots := 0, locals := 68 }
theorem hX11_print_0_X11 : ∀ w ∈ u_ws RX11 TX11 13, w ∈ wsX11_print := fun w h => (List.mem_cons_of_mem _ (List.mem_append_left _ (List.mem_append_right _ h)))
theorem mX11_print_0_1 : Cond.fieldLink RX11 90 "HissHorn" "houses" "LHissHorn$Houses;" ∈ wsX11_print := (List.mem_cons_of_mem _ (List.mem_append_left _ (List.mem_append_left _ (List.mem_append_left _ (List.mem_of_getElem? (i := 10) rfl)))))
theorem hX11_print_0_X2 : ∀ w ∈ u_ws RX2 TX2 18, w ∈ wsX11_print := fun w h => (List.mem_cons_of_mem _ (List.mem_append_right _ h))
theorem mX11_print_0_3 : Cond.fieldLink RX11 330 "HissHorn$Houses" "prints" "I" ∈ wsX11_print := (List.mem_cons_of_mem _ (List.mem_append_left _ (List.mem_append_left _ (List.mem_append_left _ (List.mem_of_getElem? (i := 11) rfl)))))
theorem mX11_print_0_4 : Cond.fieldLink RX11 103 "HissHorn" "now" "I" ∈ wsX11_print := (List.mem_cons_of_mem _ (List.mem_append_left _ (List.mem_append_left _ (List.mem_append_left _ (List.mem_of_getElem? (i := 12) rfl)))))
theorem mX11_print_0_5 : Cond.fieldLink RX11 324 "HissHorn$Houses" "papers" "I" ∈ wsX11_print := (List.mem_cons_of_mem _ (List.mem_append_left _ (List.mem_append_left _ (List.mem_append_left _ (List.mem_of_getElem? (i := 13) rfl)))))
def fX11_print_0 (x1 : Int32) (x2 : Int32) (x3 : Int32) (x4 : Int32) (u : SX) : Option (Int32 × SX) := ((fX2_has_11 x1 u).bind fun q => match q with | (r1, u2) => (if r1 = 0 then (some ((-1), u2)) else (if x3 < (-400) then (some ((-1), u2)) else (if 400 < x4 then (some ((-1), u2)) else (if x3 ≤ x4 then (if x2 = 0 then (if (u2.1 36) < 40 then ((fX2_addPrint_11 x1 x3 x4 (u2.1 0) u2).bind fun q => match q with | (r4, u5) => (some (r4, u5))) else (some ((-1), u2))) else (if (u2.1 37) < 20 then ((fX2_addPaper_11 x1 x3 x4 (u2.1 0) u2).bind fun q => match q with | (r7, u8) => (some (r7, u8))) else (some ((-1), u2)))) else (some ((-1), u2)))))))
set_option maxHeartbeats 4000000 in
set_option maxRecDepth 100000 in
theorem wX11_print_0 {p : Program} {l : Launch} {e : Env} {s : State} {m : MethodId} {args : Array Value} {below : List Frame} {meth : Method} {c : Code} {D : va_G} {cy : Nat → ClassId} {ad st : Nat → Nat} (C : Cx RX11 cX11_print 5 (some .int) wsX11_print p s m args meth c) (hK : Ky D [(cy 0, .int), (cy 1, .long), (cy 2, .boolean), (cy 3, .byte), (cy 4, .object "HissHorn$Text")] st s) (hJ : JX ad st) (x1 : Int32) (x2 : Int32) (x3 : Int32) (x4 : Int32) {u : SX} {r : Int32} {u' : SX} {H : Heap} {locs : List Loc} {ls : Array Slot} (h : fX11_print_0 x1 x2 x3 x4 u = some (r, u')) (hP : va_P D vwCl (VX cy ad st u) H) (hS : va_S (Ax (AX ad) s.heap.size) s.heap H locs) (hl : lv_has ls 5 [(0, .ref (ad 0)), (1, .int x1), (2, .int x2), (3, .int x3), (4, .int x4)]) : W p l e rmX11_print_0 s m args below meth c H locs 0 0 (MQ below (Qi D (VX cy ad st) (AX ad) s.heap.size r u') args s 0 0 (Ax (AX ad) s.heap.size)) (F0 m 0 ls []) := by
  unfold fX11_print_0 at h
  refine lv_aload_n C.1 C.2.1 dX11_print_0 rfl (lv_at hl 0 rfl) ?_
  refine gX_0_houses C hX11_print_0_X11 hK hP mX11_print_0_1 dX11_print_1 ?_
  refine lv_iload_n C.1 C.2.1 dX11_print_4 rfl (lv_at hl 1 rfl) ?_
  obtain ⟨⟨r1, u2⟩, hc3, h⟩ := bd_some h
  try dsimp only at h
  refine cg_i (As := [.int x1]) (rest := []) (AX_ge hJ) C hK hP hS (metX2_has_11 l D cy ad st hJ _ x1 hc3) (cwV 1 C.2.2.2.2.2.1 gX11_print_X2_has rfl rfl rfl (by decide +kernel) ⟨(Nat.le_of_ble_eq_true rfl), (Nat.le_of_ble_eq_true rfl)⟩) 11 2 rfl rfl rfl hl.1 rfl (Nat.le_of_ble_eq_true rfl) dX11_print_5 ⟨Nat.zero_le _, Nat.zero_le _⟩ (fun H locs hP hS => ?_)
  refine lv_if_eq (tgt := 32) C.1 C.2.1 dX11_print_8 (by decide) (fun c8 => ?_) (fun c8 => ?_)
  · rw [if_pos c8] at h
    refine lv_iconst (v := (-1)) C.1 C.2.1 dX11_print_32 (by decide) ?_
    cases h
    exact rt_i C hP hS dX11_print_33
  · rw [if_neg c8] at h
    refine lv_iload_n C.1 C.2.1 dX11_print_11 rfl (lv_at hl 3 rfl) ?_
    refine lv_sipush (v := (-400)) C.1 C.2.1 dX11_print_12 (by decide) ?_
    refine lv_icmp_lt (tgt := 32) C.1 C.2.1 dX11_print_15 (by decide) (fun c15 => ?_) (fun c15 => ?_)
    · rw [if_pos c15] at h
      refine lv_iconst (v := (-1)) C.1 C.2.1 dX11_print_32 (by decide) ?_
      cases h
      exact rt_i C hP hS dX11_print_33
    · rw [if_neg c15] at h
      refine lv_iload C.1 C.2.1 dX11_print_18 (lv_at hl 4 rfl) ?_
      refine lv_sipush (v := 400) C.1 C.2.1 dX11_print_20 (by decide) ?_
      refine lv_icmp_gt (tgt := 32) C.1 C.2.1 dX11_print_23 (by decide) (fun c23 => ?_) (fun c23 => ?_)
      · rw [if_pos c23] at h
        refine lv_iconst (v := (-1)) C.1 C.2.1 dX11_print_32 (by decide) ?_
        cases h
        exact rt_i C hP hS dX11_print_33
      · rw [if_neg c23] at h
        refine lv_iload C.1 C.2.1 dX11_print_26 (lv_at hl 4 rfl) ?_
        refine lv_iload_n C.1 C.2.1 dX11_print_28 rfl (lv_at hl 3 rfl) ?_
        refine lv_icmp_ge (tgt := 34) C.1 C.2.1 dX11_print_29 (by decide) (fun c29 => ?_) (fun c29 => ?_)
        · rw [if_pos c29] at h
          refine lv_iload_n C.1 C.2.1 dX11_print_34 rfl (lv_at hl 2 rfl) ?_
          refine lv_if_eq (tgt := 70) C.1 C.2.1 dX11_print_35 (by decide) (fun c35 => ?_) (fun c35 => ?_)
          · rw [if_pos c35] at h
            refine lv_aload_n C.1 C.2.1 dX11_print_70 rfl (lv_at hl 0 rfl) ?_
            refine gX_0_houses C hX11_print_0_X11 hK hP mX11_print_0_1 dX11_print_71 ?_
            refine gX_11_prints C hX11_print_0_X2 hK hP mX11_print_0_3 dX11_print_74 ?_
            refine lv_bipush (v := 40) C.1 C.2.1 dX11_print_77 (by decide) ?_
            refine lv_icmp_lt (tgt := 86) C.1 C.2.1 dX11_print_79 (by decide) (fun c79 => ?_) (fun c79 => ?_)
            · rw [if_pos c79] at h
              refine lv_aload_n C.1 C.2.1 dX11_print_86 rfl (lv_at hl 0 rfl) ?_
              refine gX_0_houses C hX11_print_0_X11 hK hP mX11_print_0_1 dX11_print_87 ?_
              refine lv_iload_n C.1 C.2.1 dX11_print_90 rfl (lv_at hl 1 rfl) ?_
              refine lv_iload_n C.1 C.2.1 dX11_print_91 rfl (lv_at hl 3 rfl) ?_
              refine lv_iload C.1 C.2.1 dX11_print_92 (lv_at hl 4 rfl) ?_
              refine lv_aload_n C.1 C.2.1 dX11_print_94 rfl (lv_at hl 0 rfl) ?_
              refine gX_0_now C hX11_print_0_X11 hK hP mX11_print_0_4 dX11_print_95 ?_
              obtain ⟨⟨r4, u5⟩, hc6, h⟩ := bd_some h
              try dsimp only at h
              refine cg_i (As := [.int x1, .int x3, .int x4, .int (u2.1 0)]) (rest := []) (AX_ge hJ) C hK hP hS (metX2_addPrint_11 l D cy ad st hJ _ x1 x3 x4 (u2.1 0) hc6) (cwV 4 C.2.2.2.2.2.1 gX11_print_X2_addPrint rfl rfl rfl (by decide +kernel) ⟨(Nat.le_of_ble_eq_true rfl), (Nat.le_of_ble_eq_true rfl)⟩) 11 2 rfl rfl rfl hl.1 rfl (Nat.le_of_ble_eq_true rfl) dX11_print_98 ⟨Nat.zero_le _, Nat.zero_le _⟩ (fun H locs hP hS => ?_)
              cases h
              exact rt_i C hP hS dX11_print_101
            · rw [if_neg c79] at h
              refine lv_iconst (v := (-1)) C.1 C.2.1 dX11_print_82 (by decide) ?_
              refine lv_goto (tgt := 101) C.1 C.2.1 dX11_print_83 (by decide) ?_
              cases h
              exact rt_i C hP hS dX11_print_101
          · rw [if_neg c35] at h
            refine lv_aload_n C.1 C.2.1 dX11_print_38 rfl (lv_at hl 0 rfl) ?_
            refine gX_0_houses C hX11_print_0_X11 hK hP mX11_print_0_1 dX11_print_39 ?_
            refine gX_11_papers C hX11_print_0_X2 hK hP mX11_print_0_5 dX11_print_42 ?_
            refine lv_bipush (v := 20) C.1 C.2.1 dX11_print_45 (by decide) ?_
            refine lv_icmp_lt (tgt := 54) C.1 C.2.1 dX11_print_47 (by decide) (fun c47 => ?_) (fun c47 => ?_)
            · rw [if_pos c47] at h
              refine lv_aload_n C.1 C.2.1 dX11_print_54 rfl (lv_at hl 0 rfl) ?_
              refine gX_0_houses C hX11_print_0_X11 hK hP mX11_print_0_1 dX11_print_55 ?_
              refine lv_iload_n C.1 C.2.1 dX11_print_58 rfl (lv_at hl 1 rfl) ?_
              refine lv_iload_n C.1 C.2.1 dX11_print_59 rfl (lv_at hl 3 rfl) ?_
              refine lv_iload C.1 C.2.1 dX11_print_60 (lv_at hl 4 rfl) ?_
              refine lv_aload_n C.1 C.2.1 dX11_print_62 rfl (lv_at hl 0 rfl) ?_
              refine gX_0_now C hX11_print_0_X11 hK hP mX11_print_0_4 dX11_print_63 ?_
              obtain ⟨⟨r7, u8⟩, hc9, h⟩ := bd_some h
              try dsimp only at h
              refine cg_i (As := [.int x1, .int x3, .int x4, .int (u2.1 0)]) (rest := []) (AX_ge hJ) C hK hP hS (metX2_addPaper_11 l D cy ad st hJ _ x1 x3 x4 (u2.1 0) hc9) (cwV 4 C.2.2.2.2.2.1 gX11_print_X2_addPaper rfl rfl rfl (by decide +kernel) ⟨(Nat.le_of_ble_eq_true rfl), (Nat.le_of_ble_eq_true rfl)⟩) 11 2 rfl rfl rfl hl.1 rfl (Nat.le_of_ble_eq_true rfl) dX11_print_66 ⟨Nat.zero_le _, Nat.zero_le _⟩ (fun H locs hP hS => ?_)
              cases h
              exact rt_i C hP hS dX11_print_69
            · rw [if_neg c47] at h
              refine lv_iconst (v := (-1)) C.1 C.2.1 dX11_print_50 (by decide) ?_
              refine lv_goto (tgt := 69) C.1 C.2.1 dX11_print_51 (by decide) ?_
              cases h
              exact rt_i C hP hS dX11_print_69
        · rw [if_neg c29] at h
          refine lv_iconst (v := (-1)) C.1 C.2.1 dX11_print_32 (by decide) ?_
          cases h
          exact rt_i C hP hS dX11_print_33
theorem metX11_print_0 (l : Launch) (D : va_G) (cy : Nat → ClassId) (ad st : Nat → Nat) (hJ : JX ad st) (sz : Nat) (x1 : Int32) (x2 : Int32) (x3 : Int32) (x4 : Int32) {u : SX} {r : Int32} {u' : SX} (h : fX11_print_0 x1 x2 x3 x4 u = some (r, u')) : Met l yX11_print wsX11_print rmX11_print_0 (va_Pc [.ref (ad 0), .int x1, .int x2, .int x3, .int x4] (Px D [(cy 0, .int), (cy 1, .long), (cy 2, .boolean), (cy 3, .byte), (cy 4, .object "HissHorn$Text")] st (VX cy ad st) sz u)) (Qi D (VX cy ad st) (AX ad) sz r u') 0 0 (Ax (AX ad) sz) := by
  refine Met.ofW (cc := cX11_print) (maxL := 5) (ret := (some .int)) (by decide) rfl ?_
  intro p e s m args below meth c s₁ B hml hv
  obtain ⟨rfl, hsz, hP, hK⟩ := hv
  subst hsz
  have C : Cx RX11 cX11_print 5 (some .int) wsX11_print p s m _ meth c := ⟨B.exec, B.bytes, hml, B.returns, findClass_of_methodNamed B.named, atoms_spec (ws := wsX11_print) B.pre, B.notSynchronized⟩
  have hl := lv_entry ([.ref (ad 0), .int x1, .int x2, .int x3, .int x4]) (n := 5) (Nat.le_of_ble_eq_true rfl)
  rw [lg_entry_eq]
  exact wX11_print_0 C hK hJ x1 x2 x3 x4 h hP va_S.rf hl
