theorem zdX12_apart_48 : (and (and (and (and (and (zk cX12_apart 48 (.iinc 3 1) 3) (zk cX12_apart 51 (.goto (-41)) 3)) (and (zk cX12_apart 10 (.iload_n 3) 1) (zk cX12_apart 11 (.bipush 41) 2))) (and (and (zk cX12_apart 13 (.if_icmp .ge 41) 3) (zk cX12_apart 54 (.iload_n 1) 1)) (and (zk cX12_apart 55 (.iload_n 2) 1) (zk cX12_apart 56 (.isub) 1)))) (and (and (and (zk cX12_apart 57 (.ireturn) 1) (zk cX12_apart 16 (.aload_n 0) 1)) (and (zk cX12_apart 17 (.getfield 87) 3) (zk cX12_apart 20 (.iload_n 3) 1))) (and (and (zk cX12_apart 21 (.iaload) 1) (zk cX12_apart 22 (.ifCond .ne 6) 3)) (and (zk cX12_apart 28 (.iload_n 1) 1) (zk cX12_apart 29 (.aload_n 0) 1))))) (and (and (and (and (zk cX12_apart 30 (.iload_n 3) 1) (zk cX12_apart 31 (.invokevirtual 378) 3)) (and (zk cX12_apart 34 (.invokestatic 293) 3) (zk cX12_apart 37 (.istore_n 1) 1))) (and (and (zk cX12_apart 38 (.iload_n 2) 1) (zk cX12_apart 39 (.aload_n 0) 1)) (and (zk cX12_apart 40 (.iload_n 3) 1) (zk cX12_apart 41 (.invokevirtual 378) 3)))) (and (and (and (zk cX12_apart 44 (.invokestatic 295) 3) (zk cX12_apart 47 (.istore_n 2) 1)) (and (zk cX12_apart 25 (.goto 23) 3) (zk cX12_apart 0 (.ldc_w 330) 3))) (and (and (zk cX12_apart 3 (.istore_n 1) 1) (zk cX12_apart 4 (.ldc_w 377) 3)) (and (zk cX12_apart 7 (.istore_n 2) 1) (zk cX12_apart 8 (.iconst 0) 1)))))) = true := by decide +kernel
theorem dX12_apart_48 : decode cX12_apart 48 = .ok (.iinc 3 1, 3) := zk_of (zk_l (zk_l (zk_l (zk_l (zk_l zdX12_apart_48)))))
theorem dX12_apart_51 : decode cX12_apart 51 = .ok (.goto (-41), 3) := zk_of (zk_r (zk_l (zk_l (zk_l (zk_l zdX12_apart_48)))))
theorem dX12_apart_10 : decode cX12_apart 10 = .ok (.iload_n 3, 1) := zk_of (zk_l (zk_r (zk_l (zk_l (zk_l zdX12_apart_48)))))
theorem dX12_apart_11 : decode cX12_apart 11 = .ok (.bipush 41, 2) := zk_of (zk_r (zk_r (zk_l (zk_l (zk_l zdX12_apart_48)))))
theorem dX12_apart_13 : decode cX12_apart 13 = .ok (.if_icmp .ge 41, 3) := zk_of (zk_l (zk_l (zk_r (zk_l (zk_l zdX12_apart_48)))))
theorem dX12_apart_54 : decode cX12_apart 54 = .ok (.iload_n 1, 1) := zk_of (zk_r (zk_l (zk_r (zk_l (zk_l zdX12_apart_48)))))
theorem dX12_apart_55 : decode cX12_apart 55 = .ok (.iload_n 2, 1) := zk_of (zk_l (zk_r (zk_r (zk_l (zk_l zdX12_apart_48)))))
theorem dX12_apart_56 : decode cX12_apart 56 = .ok (.isub, 1) := zk_of (zk_r (zk_r (zk_r (zk_l (zk_l zdX12_apart_48)))))
theorem dX12_apart_57 : decode cX12_apart 57 = .ok (.ireturn, 1) := zk_of (zk_l (zk_l (zk_l (zk_r (zk_l zdX12_apart_48)))))
theorem dX12_apart_16 : decode cX12_apart 16 = .ok (.aload_n 0, 1) := zk_of (zk_r (zk_l (zk_l (zk_r (zk_l zdX12_apart_48)))))
theorem dX12_apart_17 : decode cX12_apart 17 = .ok (.getfield 87, 3) := zk_of (zk_l (zk_r (zk_l (zk_r (zk_l zdX12_apart_48)))))
theorem dX12_apart_20 : decode cX12_apart 20 = .ok (.iload_n 3, 1) := zk_of (zk_r (zk_r (zk_l (zk_r (zk_l zdX12_apart_48)))))
theorem dX12_apart_21 : decode cX12_apart 21 = .ok (.iaload, 1) := zk_of (zk_l (zk_l (zk_r (zk_r (zk_l zdX12_apart_48)))))
theorem dX12_apart_22 : decode cX12_apart 22 = .ok (.ifCond .ne 6, 3) := zk_of (zk_r (zk_l (zk_r (zk_r (zk_l zdX12_apart_48)))))
theorem dX12_apart_28 : decode cX12_apart 28 = .ok (.iload_n 1, 1) := zk_of (zk_l (zk_r (zk_r (zk_r (zk_l zdX12_apart_48)))))
theorem dX12_apart_29 : decode cX12_apart 29 = .ok (.aload_n 0, 1) := zk_of (zk_r (zk_r (zk_r (zk_r (zk_l zdX12_apart_48)))))
theorem dX12_apart_30 : decode cX12_apart 30 = .ok (.iload_n 3, 1) := zk_of (zk_l (zk_l (zk_l (zk_l (zk_r zdX12_apart_48)))))
theorem dX12_apart_31 : decode cX12_apart 31 = .ok (.invokevirtual 378, 3) := zk_of (zk_r (zk_l (zk_l (zk_l (zk_r zdX12_apart_48)))))
theorem dX12_apart_34 : decode cX12_apart 34 = .ok (.invokestatic 293, 3) := zk_of (zk_l (zk_r (zk_l (zk_l (zk_r zdX12_apart_48)))))
theorem dX12_apart_37 : decode cX12_apart 37 = .ok (.istore_n 1, 1) := zk_of (zk_r (zk_r (zk_l (zk_l (zk_r zdX12_apart_48)))))
theorem dX12_apart_38 : decode cX12_apart 38 = .ok (.iload_n 2, 1) := zk_of (zk_l (zk_l (zk_r (zk_l (zk_r zdX12_apart_48)))))
theorem dX12_apart_39 : decode cX12_apart 39 = .ok (.aload_n 0, 1) := zk_of (zk_r (zk_l (zk_r (zk_l (zk_r zdX12_apart_48)))))
theorem dX12_apart_40 : decode cX12_apart 40 = .ok (.iload_n 3, 1) := zk_of (zk_l (zk_r (zk_r (zk_l (zk_r zdX12_apart_48)))))
theorem dX12_apart_41 : decode cX12_apart 41 = .ok (.invokevirtual 378, 3) := zk_of (zk_r (zk_r (zk_r (zk_l (zk_r zdX12_apart_48)))))
theorem dX12_apart_44 : decode cX12_apart 44 = .ok (.invokestatic 295, 3) := zk_of (zk_l (zk_l (zk_l (zk_r (zk_r zdX12_apart_48)))))
theorem dX12_apart_47 : decode cX12_apart 47 = .ok (.istore_n 2, 1) := zk_of (zk_r (zk_l (zk_l (zk_r (zk_r zdX12_apart_48)))))
theorem dX12_apart_25 : decode cX12_apart 25 = .ok (.goto 23, 3) := zk_of (zk_l (zk_r (zk_l (zk_r (zk_r zdX12_apart_48)))))
theorem dX12_apart_0 : decode cX12_apart 0 = .ok (.ldc_w 330, 3) := zk_of (zk_r (zk_r (zk_l (zk_r (zk_r zdX12_apart_48)))))
theorem dX12_apart_3 : decode cX12_apart 3 = .ok (.istore_n 1, 1) := zk_of (zk_l (zk_l (zk_r (zk_r (zk_r zdX12_apart_48)))))
theorem dX12_apart_4 : decode cX12_apart 4 = .ok (.ldc_w 377, 3) := zk_of (zk_r (zk_l (zk_r (zk_r (zk_r zdX12_apart_48)))))
theorem dX12_apart_7 : decode cX12_apart 7 = .ok (.istore_n 2, 1) := zk_of (zk_l (zk_r (zk_r (zk_r (zk_r zdX12_apart_48)))))
theorem dX12_apart_8 : decode cX12_apart 8 = .ok (.iconst 0, 1) := zk_of (zk_r (zk_r (zk_r (zk_r (zk_r zdX12_apart_48)))))
set_option maxRecDepth 20000 in
theorem ggX12_apart_X12_mean : GoodIn wsX12_apart wsX12_mean := ggi (fun w h => List.mem_cons_of_mem _ (List.mem_append_left _ (List.mem_append_right _ h))) gs_X12_mean
set_option maxRecDepth 20000 in
theorem gX12_apart_X12_mean : GoodIn wsX12_apart (wsV RX12 378 RX12 yX12_mean wsX12_mean) := goodIn_app (goodIn_of _ (by decide +kernel)) ggX12_apart_X12_mean
theorem dX12_apart_9 : decode cX12_apart 9 = .ok (.istore_n 3, 1) := by decide +kernel
/-- HissHornModel.apart()I of cell 0 -/
def rmX12_apart_0 : Room := { frames := 1, cells := 0, slots := 0, locals := 21 }
theorem mX12_apart_0_0 : Cond.constant RX12 330 (-100000000) ∈ wsX12_apart := (List.mem_cons_of_mem _ (List.mem_append_left _ (List.mem_append_left _ (List.mem_of_getElem? (i := 4) rfl))))
theorem mX12_apart_0_1 : Cond.constant RX12 377 (100000000) ∈ wsX12_apart := (List.mem_cons_of_mem _ (List.mem_append_left _ (List.mem_append_left _ (List.mem_of_getElem? (i := 5) rfl))))
theorem hX12_apart_0_X12 : ∀ w ∈ u_ws RX12 TX12 69, w ∈ wsX12_apart := fun w h => (List.mem_cons_of_mem _ (List.mem_append_right _ h))
theorem mX12_apart_0_3 : Cond.fieldLink RX12 87 "HissHornModel" "many" "[I" ∈ wsX12_apart := (List.mem_cons_of_mem _ (List.mem_append_left _ (List.mem_append_left _ (List.mem_of_getElem? (i := 6) rfl))))
theorem mX12_apart_0_4 : Cond.methodLink RX12 293 Lib.Math.max.name ∈ wsX12_apart := (List.mem_cons_of_mem _ (List.mem_append_left _ (List.mem_append_left _ (List.mem_of_getElem? (i := 7) rfl))))
theorem mX12_apart_0_5 : Cond.static Lib.Math.max.name ∈ wsX12_apart := (List.mem_cons_of_mem _ (List.mem_append_left _ (List.mem_append_left _ (List.mem_of_getElem? (i := 8) rfl))))
theorem mX12_apart_0_6 : Cond.initialized "java/lang/Math" ∈ wsX12_apart := (List.mem_cons_of_mem _ (List.mem_append_left _ (List.mem_append_left _ (List.mem_of_getElem? (i := 9) rfl))))
theorem mX12_apart_0_7 : Cond.code Lib.Math.max.name Lib.Math.max.code 2 (some .int) ∈ wsX12_apart := (List.mem_cons_of_mem _ (List.mem_append_left _ (List.mem_append_left _ (List.mem_of_getElem? (i := 10) rfl))))
theorem mX12_apart_0_8 : Cond.methodLink RX12 295 Lib.Math.min.name ∈ wsX12_apart := (List.mem_cons_of_mem _ (List.mem_append_left _ (List.mem_append_left _ (List.mem_of_getElem? (i := 11) rfl))))
theorem mX12_apart_0_9 : Cond.static Lib.Math.min.name ∈ wsX12_apart := (List.mem_cons_of_mem _ (List.mem_append_left _ (List.mem_append_left _ (List.mem_of_getElem? (i := 12) rfl))))
theorem mX12_apart_0_10 : Cond.code Lib.Math.min.name Lib.Math.min.code 2 (some .int) ∈ wsX12_apart := (List.mem_cons_of_mem _ (List.mem_append_left _ (List.mem_append_left _ (List.mem_of_getElem? (i := 13) rfl))))
def GX12_apart_0_48 (k10 : Int32 → Int32 → Int32 → SX → Option (Int32 × SX)) (z1 : Int32) (z2 : Int32) (z3 : Int32) (u : SX) : Option (Int32 × SX) := (k10 z1 z2 (z3 + 1) u)
def LX12_apart_0_10  : Nat → Int32 → Int32 → Int32 → SX → Option (Int32 × SX)
  | 0, _, _, _, _ => none
  | n + 1, z1, z2, z3, u => (if 41 ≤ z3 then (some (z1 - z2, u)) else (gd (inb z3 41) (if (u.2.1 23 z3.toNatClampNeg) = 0 then (GX12_apart_0_48 (LX12_apart_0_10 n) z1 z2 z3 u) else ((fX12_mean_0 z3 u).bind fun q => match q with | (r2, u3) => (lt (if z1 < r2 then r2 else z1) fun v5 => ((fX12_mean_0 z3 u3).bind fun q => match q with | (r7, u8) => (lt (if r7 < z2 then r7 else z2) fun v10 => (GX12_apart_0_48 (LX12_apart_0_10 n) v5 v10 z3 u8))))))))
def fX12_apart_0  (u : SX) : Option (Int32 × SX) := (LX12_apart_0_10  5000 (-100000000) 100000000 0 u)
set_option maxHeartbeats 4000000 in
set_option maxRecDepth 100000 in
theorem wGX12_apart_0_48 {p : Program} {l : Launch} {e : Env} {s : State} {m : MethodId} {args : Array Value} {below : List Frame} {meth : Method} {c : Code} {D : va_G} {cy : Nat → ClassId} {ad st : Nat → Nat} (C : Cx RX12 cX12_apart 4 (some .int) wsX12_apart p s m args meth c) (hK : Ky D [(cy 0, .int), (cy 1, .long), (cy 2, .boolean), (cy 3, .byte), (cy 4, .object "HissHorn$Text")] st s) (hJ : JM ad st) {r : Int32} {u' : SX} {k10 : Int32 → Int32 → Int32 → SX → Option (Int32 × SX)} (hk10 : ∀ (z1 : Int32) (z2 : Int32) (z3 : Int32) (u : SX) (H : Heap) (locs : List Loc) (ls : Array Slot), k10 z1 z2 z3 u = some (r, u') → va_P D vwCl (VM cy ad st u) H → va_S (Ax (AM ad) s.heap.size) s.heap H locs → lv_has ls 4 [(0, .ref (ad 0)), (1, .int z1), (2, .int z2), (3, .int z3)] → W p l e rmX12_apart_0 s m args below meth c H locs 0 0 (MQ below (Qi D (VM cy ad st) (AM ad) s.heap.size r u') args s 0 0 (Ax (AM ad) s.heap.size)) (F0 m 10 ls [])) (z1 : Int32) (z2 : Int32) (z3 : Int32) (u : SX) (H : Heap) (locs : List Loc) (ls : Array Slot) (h : GX12_apart_0_48 k10 z1 z2 z3 u = some (r, u')) (hP : va_P D vwCl (VM cy ad st u) H) (hS : va_S (Ax (AM ad) s.heap.size) s.heap H locs) (hl : lv_has ls 4 [(0, .ref (ad 0)), (1, .int z1), (2, .int z2), (3, .int z3)]) : W p l e rmX12_apart_0 s m args below meth c H locs 0 0 (MQ below (Qi D (VM cy ad st) (AM ad) s.heap.size r u') args s 0 0 (Ax (AM ad) s.heap.size)) (F0 m 48 ls []) := by
  unfold GX12_apart_0_48 at h
  refine lv_iinc (v := z3 + 1) (lv' := [(3, .int (z3 + 1)), (0, .ref (ad 0)), (1, .int z1), (2, .int z2)]) C.1 C.2.1 dX12_apart_48 hl (k := 3) rfl rfl (by decide) rfl (fun ls hl => ?_)
  replace hl := lv_sub (l' := [(0, .ref (ad 0)), (1, .int z1), (2, .int z2), (3, .int (z3 + 1))]) hl [1, 2, 3, 0] rfl
  refine lv_goto (tgt := 10) C.1 C.2.1 dX12_apart_51 (by decide) ?_
  exact hk10 _ _ _ _ _ _ _ h hP hS hl
set_option maxHeartbeats 4000000 in
set_option maxRecDepth 100000 in
theorem wLX12_apart_0_10 {p : Program} {l : Launch} {e : Env} {s : State} {m : MethodId} {args : Array Value} {below : List Frame} {meth : Method} {c : Code} {D : va_G} {cy : Nat → ClassId} {ad st : Nat → Nat} (C : Cx RX12 cX12_apart 4 (some .int) wsX12_apart p s m args meth c) (hK : Ky D [(cy 0, .int), (cy 1, .long), (cy 2, .boolean), (cy 3, .byte), (cy 4, .object "HissHorn$Text")] st s) (hJ : JM ad st) {r : Int32} {u' : SX}   : ∀ (n : Nat) (z1 : Int32) (z2 : Int32) (z3 : Int32) (u : SX) (H : Heap) (locs : List Loc) (ls : Array Slot), LX12_apart_0_10  n z1 z2 z3 u = some (r, u') → va_P D vwCl (VM cy ad st u) H → va_S (Ax (AM ad) s.heap.size) s.heap H locs → lv_has ls 4 [(0, .ref (ad 0)), (1, .int z1), (2, .int z2), (3, .int z3)] → W p l e rmX12_apart_0 s m args below meth c H locs 0 0 (MQ below (Qi D (VM cy ad st) (AM ad) s.heap.size r u') args s 0 0 (Ax (AM ad) s.heap.size)) (F0 m 10 ls []) := by
  intro n
  induction n with
  | zero =>
    intro z1 z2 z3 u H locs ls h
    exact absurd h (by intro q; cases q)
  | succ n ih =>
    intro z1 z2 z3 u H locs ls h hP hS hl
    rw [LX12_apart_0_10] at h
    refine lv_iload_n C.1 C.2.1 dX12_apart_10 rfl (lv_at hl 3 rfl) ?_
    refine lv_bipush (v := 41) C.1 C.2.1 dX12_apart_11 (by decide) ?_
    refine lv_icmp_ge (tgt := 54) C.1 C.2.1 dX12_apart_13 (by decide) (fun c13 => ?_) (fun c13 => ?_)
    · rw [if_pos c13] at h
      refine lv_iload_n C.1 C.2.1 dX12_apart_54 rfl (lv_at hl 1 rfl) ?_
      refine lv_iload_n C.1 C.2.1 dX12_apart_55 rfl (lv_at hl 2 rfl) ?_
      refine lv_isub C.1 C.2.1 dX12_apart_56 ?_
      cases h
      exact rt_i C hP hS dX12_apart_57
    · rw [if_neg c13] at h
      refine lv_aload_n C.1 C.2.1 dX12_apart_16 rfl (lv_at hl 0 rfl) ?_
      refine gM_0_many C hX12_apart_0_X12 hK hP mX12_apart_0_3 dX12_apart_17 ?_
      refine lv_iload_n C.1 C.2.1 dX12_apart_20 rfl (lv_at hl 3 rfl) ?_
      obtain ⟨hg1, h⟩ := gd_some h
      refine lM_23 C hK hP hg1 dX12_apart_21 ?_
      refine lv_if_ne (tgt := 28) C.1 C.2.1 dX12_apart_22 (by decide) (fun c22 => ?_) (fun c22 => ?_)
      · rw [if_neg c22] at h
        refine lv_iload_n C.1 C.2.1 dX12_apart_28 rfl (lv_at hl 1 rfl) ?_
        refine lv_aload_n C.1 C.2.1 dX12_apart_29 rfl (lv_at hl 0 rfl) ?_
        refine lv_iload_n C.1 C.2.1 dX12_apart_30 rfl (lv_at hl 3 rfl) ?_
        obtain ⟨⟨r2, u3⟩, hc4, h⟩ := bd_some h
        try dsimp only at h
        refine cg_i (As := [.int z3]) (rest := [.int z1]) (AM_ge hJ) C hK hP hS (metX12_mean_0 l D cy ad st hJ _ z3 hc4) (cwV 1 C.2.2.2.2.2.1 gX12_apart_X12_mean rfl rfl rfl (by decide +kernel) ⟨(Nat.le_of_ble_eq_true rfl), (Nat.le_of_ble_eq_true rfl)⟩) 0 12 rfl rfl rfl hl.1 rfl (Nat.le_of_ble_eq_true rfl) dX12_apart_31 ⟨Nat.zero_le _, Nat.zero_le _⟩ (fun H locs hP hS => ?_)
        refine va_mmax C.1 C.2.1 (C.2.2.1.trans hl.1.symm) C.2.2.2.2.1 (C.2.2.2.2.2.1 _ mX12_apart_0_4) (C.2.2.2.2.2.1 _ mX12_apart_0_5) (C.2.2.2.2.2.1 _ mX12_apart_0_6) (C.2.2.2.2.2.1 _ mX12_apart_0_7) (Nat.le_of_ble_eq_true rfl) (Nat.le_of_ble_eq_true rfl) (Nat.zero_le _) (Nat.zero_le _) dX12_apart_34 ?_
        refine lv_topi (fun v5 hv6 => ?_)
        replace h := lt_e hv6 h
        try dsimp only at h
        refine lv_istore_n (lv' := [(1, .int v5), (0, .ref (ad 0)), (2, .int z2), (3, .int z3)]) C.1 C.2.1 dX12_apart_37 rfl hl (by decide) rfl (fun ls hl => ?_)
        replace hl := lv_sub (l' := [(0, .ref (ad 0)), (1, .int v5), (2, .int z2), (3, .int z3)]) hl [1, 0, 2, 3] rfl
        refine lv_iload_n C.1 C.2.1 dX12_apart_38 rfl (lv_at hl 2 rfl) ?_
        refine lv_aload_n C.1 C.2.1 dX12_apart_39 rfl (lv_at hl 0 rfl) ?_
        refine lv_iload_n C.1 C.2.1 dX12_apart_40 rfl (lv_at hl 3 rfl) ?_
        obtain ⟨⟨r7, u8⟩, hc9, h⟩ := bd_some h
        try dsimp only at h
        refine cg_i (As := [.int z3]) (rest := [.int z2]) (AM_ge hJ) C hK hP hS (metX12_mean_0 l D cy ad st hJ _ z3 hc9) (cwV 1 C.2.2.2.2.2.1 gX12_apart_X12_mean rfl rfl rfl (by decide +kernel) ⟨(Nat.le_of_ble_eq_true rfl), (Nat.le_of_ble_eq_true rfl)⟩) 0 12 rfl rfl rfl hl.1 rfl (Nat.le_of_ble_eq_true rfl) dX12_apart_41 ⟨Nat.zero_le _, Nat.zero_le _⟩ (fun H locs hP hS => ?_)
        refine va_mmin C.1 C.2.1 (C.2.2.1.trans hl.1.symm) C.2.2.2.2.1 (C.2.2.2.2.2.1 _ mX12_apart_0_8) (C.2.2.2.2.2.1 _ mX12_apart_0_9) (C.2.2.2.2.2.1 _ mX12_apart_0_6) (C.2.2.2.2.2.1 _ mX12_apart_0_10) (Nat.le_of_ble_eq_true rfl) (Nat.le_of_ble_eq_true rfl) (Nat.zero_le _) (Nat.zero_le _) dX12_apart_44 ?_
        refine lv_topi (fun v10 hv11 => ?_)
        replace h := lt_e hv11 h
        try dsimp only at h
        refine lv_istore_n (lv' := [(2, .int v10), (0, .ref (ad 0)), (1, .int v5), (3, .int z3)]) C.1 C.2.1 dX12_apart_47 rfl hl (by decide) rfl (fun ls hl => ?_)
        replace hl := lv_sub (l' := [(0, .ref (ad 0)), (1, .int v5), (2, .int v10), (3, .int z3)]) hl [1, 2, 0, 3] rfl
        exact wGX12_apart_0_48 C hK hJ ih _ _ _ _ _ _ _ h hP hS hl
      · rw [if_pos c22] at h
        refine lv_goto (tgt := 48) C.1 C.2.1 dX12_apart_25 (by decide) ?_
        exact wGX12_apart_0_48 C hK hJ ih _ _ _ _ _ _ _ h hP hS hl
set_option maxHeartbeats 4000000 in
set_option maxRecDepth 100000 in
theorem wX12_apart_0 {p : Program} {l : Launch} {e : Env} {s : State} {m : MethodId} {args : Array Value} {below : List Frame} {meth : Method} {c : Code} {D : va_G} {cy : Nat → ClassId} {ad st : Nat → Nat} (C : Cx RX12 cX12_apart 4 (some .int) wsX12_apart p s m args meth c) (hK : Ky D [(cy 0, .int), (cy 1, .long), (cy 2, .boolean), (cy 3, .byte), (cy 4, .object "HissHorn$Text")] st s) (hJ : JM ad st)  {u : SX} {r : Int32} {u' : SX} {H : Heap} {locs : List Loc} {ls : Array Slot} (h : fX12_apart_0  u = some (r, u')) (hP : va_P D vwCl (VM cy ad st u) H) (hS : va_S (Ax (AM ad) s.heap.size) s.heap H locs) (hl : lv_has ls 4 [(0, .ref (ad 0))]) : W p l e rmX12_apart_0 s m args below meth c H locs 0 0 (MQ below (Qi D (VM cy ad st) (AM ad) s.heap.size r u') args s 0 0 (Ax (AM ad) s.heap.size)) (F0 m 0 ls []) := by
  unfold fX12_apart_0 at h
  refine lv_ldcw C.1 C.2.1 C.2.2.2.2.1 (C.2.2.2.2.2.1 _ mX12_apart_0_0) dX12_apart_0 ?_
  refine lv_istore_n (lv' := [(1, .int (-100000000)), (0, .ref (ad 0))]) C.1 C.2.1 dX12_apart_3 rfl hl (by decide) rfl (fun ls hl => ?_)
  replace hl := lv_sub (l' := [(0, .ref (ad 0)), (1, .int (-100000000))]) hl [1, 0] rfl
  refine lv_ldcw C.1 C.2.1 C.2.2.2.2.1 (C.2.2.2.2.2.1 _ mX12_apart_0_1) dX12_apart_4 ?_
  refine lv_istore_n (lv' := [(2, .int 100000000), (0, .ref (ad 0)), (1, .int (-100000000))]) C.1 C.2.1 dX12_apart_7 rfl hl (by decide) rfl (fun ls hl => ?_)
  replace hl := lv_sub (l' := [(0, .ref (ad 0)), (1, .int (-100000000)), (2, .int 100000000)]) hl [1, 2, 0] rfl
  refine lv_iconst (v := 0) C.1 C.2.1 dX12_apart_8 (by decide) ?_
  refine lv_istore_n (lv' := [(3, .int 0), (0, .ref (ad 0)), (1, .int (-100000000)), (2, .int 100000000)]) C.1 C.2.1 dX12_apart_9 rfl hl (by decide) rfl (fun ls hl => ?_)
  replace hl := lv_sub (l' := [(0, .ref (ad 0)), (1, .int (-100000000)), (2, .int 100000000), (3, .int 0)]) hl [1, 2, 3, 0] rfl
  exact wLX12_apart_0_10 C hK hJ  5000 _ _ _ _ _ _ _ h hP hS hl
theorem metX12_apart_0 (l : Launch) (D : va_G) (cy : Nat → ClassId) (ad st : Nat → Nat) (hJ : JM ad st) (sz : Nat)  {u : SX} {r : Int32} {u' : SX} (h : fX12_apart_0  u = some (r, u')) : Met l yX12_apart wsX12_apart rmX12_apart_0 (va_Pc [.ref (ad 0)] (Px D [(cy 0, .int), (cy 1, .long), (cy 2, .boolean), (cy 3, .byte), (cy 4, .object "HissHorn$Text")] st (VM cy ad st) sz u)) (Qi D (VM cy ad st) (AM ad) sz r u') 0 0 (Ax (AM ad) sz) := by
  refine Met.ofW (cc := cX12_apart) (maxL := 4) (ret := (some .int)) (by decide) rfl ?_
  intro p e s m args below meth c s₁ B hml hv
  obtain ⟨rfl, hsz, hP, hK⟩ := hv
  subst hsz
  have C : Cx RX12 cX12_apart 4 (some .int) wsX12_apart p s m _ meth c := ⟨B.exec, B.bytes, hml, B.returns, findClass_of_methodNamed B.named, atoms_spec (ws := wsX12_apart) B.pre, B.notSynchronized⟩
  have hl := lv_entry ([.ref (ad 0)]) (n := 4) (Nat.le_of_ble_eq_true rfl)
  rw [lg_entry_eq]
  exact wX12_apart_0 C hK hJ h hP va_S.rf hl

theorem zdX12_goes_0 : (and (and (and (and (and (zk cX12_goes 0 (.aload_n 0) 1) (zk cX12_goes 1 (.iconst 0) 1)) (and (zk cX12_goes 2 (.putfield 151) 3) (zk cX12_goes 5 (.iload_n 1) 1))) (and (and (zk cX12_goes 6 (.iconst 0) 1) (zk cX12_goes 7 (.aload_n 0) 1)) (and (zk cX12_goes 8 (.getfield 159) 3) (zk cX12_goes 11 (.invokestatic 155) 3)))) (and (and (and (zk cX12_goes 14 (.ifCond .eq 12) 3) (zk cX12_goes 26 (.ldc_w 330) 3)) (and (zk cX12_goes 29 (.ireturn) 1) (zk cX12_goes 17 (.iload_n 2) 1))) (and (and (zk cX12_goes 18 (.iconst 0) 1) (zk cX12_goes 19 (.iconst 5) 1)) (and (zk cX12_goes 20 (.invokestatic 155) 3) (zk cX12_goes 23 (.ifCond .ne 7) 3))))) (and (and (and (and (zk cX12_goes 30 (.aload_n 0) 1) (zk cX12_goes 31 (.iload_n 1) 1)) (and (zk cX12_goes 32 (.invokevirtual 374) 3) (zk cX12_goes 35 (.aload_n 0) 1))) (and (and (zk cX12_goes 36 (.getfield 365) 3) (zk cX12_goes 39 (.ifCond .ne 7) 3)) (and (zk cX12_goes 46 (.aload_n 0) 1) (zk cX12_goes 47 (.iload_n 1) 1)))) (and (and (and (zk cX12_goes 48 (.iload_n 2) 1) (zk cX12_goes 49 (.invokevirtual 381) 3)) (and (zk cX12_goes 52 (.aload_n 0) 1) (zk cX12_goes 53 (.invokevirtual 384) 3))) (and (and (zk cX12_goes 56 (.ireturn) 1) (zk cX12_goes 42 (.ldc_w 330) 3)) (zk cX12_goes 45 (.ireturn) 1))))) = true := by decide +kernel
theorem dX12_goes_0 : decode cX12_goes 0 = .ok (.aload_n 0, 1) := zk_of (zk_l (zk_l (zk_l (zk_l (zk_l zdX12_goes_0)))))
theorem dX12_goes_1 : decode cX12_goes 1 = .ok (.iconst 0, 1) := zk_of (zk_r (zk_l (zk_l (zk_l (zk_l zdX12_goes_0)))))
theorem dX12_goes_2 : decode cX12_goes 2 = .ok (.putfield 151, 3) := zk_of (zk_l (zk_r (zk_l (zk_l (zk_l zdX12_goes_0)))))
theorem dX12_goes_5 : decode cX12_goes 5 = .ok (.iload_n 1, 1) := zk_of (zk_r (zk_r (zk_l (zk_l (zk_l zdX12_goes_0)))))
theorem dX12_goes_6 : decode cX12_goes 6 = .ok (.iconst 0, 1) := zk_of (zk_l (zk_l (zk_r (zk_l (zk_l zdX12_goes_0)))))
theorem dX12_goes_7 : decode cX12_goes 7 = .ok (.aload_n 0, 1) := zk_of (zk_r (zk_l (zk_r (zk_l (zk_l zdX12_goes_0)))))
theorem dX12_goes_8 : decode cX12_goes 8 = .ok (.getfield 159, 3) := zk_of (zk_l (zk_r (zk_r (zk_l (zk_l zdX12_goes_0)))))
theorem dX12_goes_11 : decode cX12_goes 11 = .ok (.invokestatic 155, 3) := zk_of (zk_r (zk_r (zk_r (zk_l (zk_l zdX12_goes_0)))))
theorem dX12_goes_14 : decode cX12_goes 14 = .ok (.ifCond .eq 12, 3) := zk_of (zk_l (zk_l (zk_l (zk_r (zk_l zdX12_goes_0)))))
theorem dX12_goes_26 : decode cX12_goes 26 = .ok (.ldc_w 330, 3) := zk_of (zk_r (zk_l (zk_l (zk_r (zk_l zdX12_goes_0)))))
theorem dX12_goes_29 : decode cX12_goes 29 = .ok (.ireturn, 1) := zk_of (zk_l (zk_r (zk_l (zk_r (zk_l zdX12_goes_0)))))
theorem dX12_goes_17 : decode cX12_goes 17 = .ok (.iload_n 2, 1) := zk_of (zk_r (zk_r (zk_l (zk_r (zk_l zdX12_goes_0)))))
theorem dX12_goes_18 : decode cX12_goes 18 = .ok (.iconst 0, 1) := zk_of (zk_l (zk_l (zk_r (zk_r (zk_l zdX12_goes_0)))))
theorem dX12_goes_19 : decode cX12_goes 19 = .ok (.iconst 5, 1) := zk_of (zk_r (zk_l (zk_r (zk_r (zk_l zdX12_goes_0)))))
theorem dX12_goes_20 : decode cX12_goes 20 = .ok (.invokestatic 155, 3) := zk_of (zk_l (zk_r (zk_r (zk_r (zk_l zdX12_goes_0)))))
theorem dX12_goes_23 : decode cX12_goes 23 = .ok (.ifCond .ne 7, 3) := zk_of (zk_r (zk_r (zk_r (zk_r (zk_l zdX12_goes_0)))))
theorem dX12_goes_30 : decode cX12_goes 30 = .ok (.aload_n 0, 1) := zk_of (zk_l (zk_l (zk_l (zk_l (zk_r zdX12_goes_0)))))
theorem dX12_goes_31 : decode cX12_goes 31 = .ok (.iload_n 1, 1) := zk_of (zk_r (zk_l (zk_l (zk_l (zk_r zdX12_goes_0)))))
theorem dX12_goes_32 : decode cX12_goes 32 = .ok (.invokevirtual 374, 3) := zk_of (zk_l (zk_r (zk_l (zk_l (zk_r zdX12_goes_0)))))
theorem dX12_goes_35 : decode cX12_goes 35 = .ok (.aload_n 0, 1) := zk_of (zk_r (zk_r (zk_l (zk_l (zk_r zdX12_goes_0)))))
theorem dX12_goes_36 : decode cX12_goes 36 = .ok (.getfield 365, 3) := zk_of (zk_l (zk_l (zk_r (zk_l (zk_r zdX12_goes_0)))))
theorem dX12_goes_39 : decode cX12_goes 39 = .ok (.ifCond .ne 7, 3) := zk_of (zk_r (zk_l (zk_r (zk_l (zk_r zdX12_goes_0)))))
theorem dX12_goes_46 : decode cX12_goes 46 = .ok (.aload_n 0, 1) := zk_of (zk_l (zk_r (zk_r (zk_l (zk_r zdX12_goes_0)))))
theorem dX12_goes_47 : decode cX12_goes 47 = .ok (.iload_n 1, 1) := zk_of (zk_r (zk_r (zk_r (zk_l (zk_r zdX12_goes_0)))))
theorem dX12_goes_48 : decode cX12_goes 48 = .ok (.iload_n 2, 1) := zk_of (zk_l (zk_l (zk_l (zk_r (zk_r zdX12_goes_0)))))
theorem dX12_goes_49 : decode cX12_goes 49 = .ok (.invokevirtual 381, 3) := zk_of (zk_r (zk_l (zk_l (zk_r (zk_r zdX12_goes_0)))))
theorem dX12_goes_52 : decode cX12_goes 52 = .ok (.aload_n 0, 1) := zk_of (zk_l (zk_r (zk_l (zk_r (zk_r zdX12_goes_0)))))
theorem dX12_goes_53 : decode cX12_goes 53 = .ok (.invokevirtual 384, 3) := zk_of (zk_r (zk_r (zk_l (zk_r (zk_r zdX12_goes_0)))))
theorem dX12_goes_56 : decode cX12_goes 56 = .ok (.ireturn, 1) := zk_of (zk_l (zk_l (zk_r (zk_r (zk_r zdX12_goes_0)))))
theorem dX12_goes_42 : decode cX12_goes 42 = .ok (.ldc_w 330, 3) := zk_of (zk_r (zk_l (zk_r (zk_r (zk_r zdX12_goes_0)))))
theorem dX12_goes_45 : decode cX12_goes 45 = .ok (.ireturn, 1) := zk_of (zk_r (zk_r (zk_r (zk_r zdX12_goes_0))))
set_option maxRecDepth 20000 in
theorem ggX12_goes_X12_isIn : GoodIn wsX12_goes wsX12_isIn := ggi (fun w h => List.mem_cons_of_mem _ (List.mem_append_left _ (List.mem_append_right _ (List.mem_append_left _ h)))) gs_X12_isIn
set_option maxRecDepth 20000 in
theorem gX12_goes_X12_isIn : GoodIn wsX12_goes (va_wsS RX12 155 yX12_isIn wsX12_isIn) := goodIn_app (goodIn_of _ (by decide +kernel)) ggX12_goes_X12_isIn
set_option maxRecDepth 20000 in
theorem ggX12_goes_X12_layAlike : GoodIn wsX12_goes wsX12_layAlike := ggi (fun w h => List.mem_cons_of_mem _ (List.mem_append_left _ (List.mem_append_right _ (List.mem_append_right _ (List.mem_append_left _ h))))) gs_X12_layAlike
set_option maxRecDepth 20000 in
theorem gX12_goes_X12_layAlike : GoodIn wsX12_goes (wsV RX12 374 RX12 yX12_layAlike wsX12_layAlike) := goodIn_app (goodIn_of _ (by decide +kernel)) ggX12_goes_X12_layAlike
set_option maxRecDepth 20000 in
theorem ggX12_goes_X12_layMeans : GoodIn wsX12_goes wsX12_layMeans := ggi (fun w h => List.mem_cons_of_mem _ (List.mem_append_left _ (List.mem_append_right _ (List.mem_append_right _ (List.mem_append_right _ (List.mem_append_left _ h)))))) gs_X12_layMeans
set_option maxRecDepth 20000 in
theorem gX12_goes_X12_layMeans : GoodIn wsX12_goes (wsV RX12 381 RX12 yX12_layMeans wsX12_layMeans) := goodIn_app (goodIn_of _ (by decide +kernel)) ggX12_goes_X12_layMeans
set_option maxRecDepth 20000 in
theorem ggX12_goes_X12_apart : GoodIn wsX12_goes wsX12_apart := ggi (fun w h => List.mem_cons_of_mem _ (List.mem_append_left _ (List.mem_append_right _ (List.mem_append_right _ (List.mem_append_right _ (List.mem_append_right _ h)))))) gs_X12_apart
set_option maxRecDepth 20000 in
theorem gX12_goes_X12_apart : GoodIn wsX12_goes (wsV RX12 384 RX12 yX12_apart wsX12_apart) := goodIn_app (goodIn_of _ (by decide +kernel)) ggX12_goes_X12_apart
/-- HissHornModel.goes(II)I of cell 0 -/
def rmX12_goes_0 : Room := { frames := 143, cells := 0, slots := 0, locals := 8549 }
theorem hX12_goes_0_X12 : ∀ w ∈ u_ws RX12 TX12 69, w ∈ wsX12_goes := fun w h => (List.mem_cons_of_mem _ (List.mem_append_right _ h))
theorem mX12_goes_0_1 : Cond.fieldLink RX12 151 "HissHornModel" "thrown" "I" ∈ wsX12_goes := (List.mem_cons_of_mem _ (List.mem_append_left _ (List.mem_append_left _ (List.mem_of_getElem? (i := 12) rfl))))
theorem mX12_goes_0_2 : Cond.fieldLink RX12 159 "HissHornModel" "now" "I" ∈ wsX12_goes := (List.mem_cons_of_mem _ (List.mem_append_left _ (List.mem_append_left _ (List.mem_of_getElem? (i := 13) rfl))))
theorem mX12_goes_0_3 : Cond.constant RX12 330 (-100000000) ∈ wsX12_goes := (List.mem_cons_of_mem _ (List.mem_append_left _ (List.mem_append_left _ (List.mem_of_getElem? (i := 14) rfl))))
theorem mX12_goes_0_4 : Cond.fieldLink RX12 365 "HissHornModel" "knownMany" "I" ∈ wsX12_goes := (List.mem_cons_of_mem _ (List.mem_append_left _ (List.mem_append_left _ (List.mem_of_getElem? (i := 15) rfl))))
def fX12_goes_0 (x1 : Int32) (x2 : Int32) (u : SX) : Option (Int32 × SX) := (lt (sI u 0 0) fun u1 => ((fX12_isIn x1 0 (u1.1 1)).bind fun r3 => (if r3 = 0 then (some ((-100000000), u1)) else ((fX12_isIn x2 0 5).bind fun r6 => (if r6 = 0 then (some ((-100000000), u1)) else ((fX12_layAlike_0 x1 u1).bind fun q => match q with | (r9, u10) => (if (u10.1 18) = 0 then (some ((-100000000), u10)) else ((fX12_layMeans_0 x1 x2 u10).bind fun q => match q with | (r12, u13) => ((fX12_apart_0  u13).bind fun q => match q with | (r15, u16) => (some (r15, u16)))))))))))
set_option maxHeartbeats 4000000 in
set_option maxRecDepth 100000 in
theorem wX12_goes_0 {p : Program} {l : Launch} {e : Env} {s : State} {m : MethodId} {args : Array Value} {below : List Frame} {meth : Method} {c : Code} {D : va_G} {cy : Nat → ClassId} {ad st : Nat → Nat} (C : Cx RX12 cX12_goes 3 (some .int) wsX12_goes p s m args meth c) (hK : Ky D [(cy 0, .int), (cy 1, .long), (cy 2, .boolean), (cy 3, .byte), (cy 4, .object "HissHorn$Text")] st s) (hJ : JM ad st) (x1 : Int32) (x2 : Int32) {u : SX} {r : Int32} {u' : SX} {H : Heap} {locs : List Loc} {ls : Array Slot} (h : fX12_goes_0 x1 x2 u = some (r, u')) (hP : va_P D vwCl (VM cy ad st u) H) (hS : va_S (Ax (AM ad) s.heap.size) s.heap H locs) (hl : lv_has ls 3 [(0, .ref (ad 0)), (1, .int x1), (2, .int x2)]) : W p l e rmX12_goes_0 s m args below meth c H locs 0 0 (MQ below (Qi D (VM cy ad st) (AM ad) s.heap.size r u') args s 0 0 (Ax (AM ad) s.heap.size)) (F0 m 0 ls []) := by
  unfold fX12_goes_0 at h
  refine lv_aload_n C.1 C.2.1 dX12_goes_0 rfl (lv_at hl 0 rfl) ?_
  refine lv_iconst (v := 0) C.1 C.2.1 dX12_goes_1 (by decide) ?_
  refine pM_0_thrown C hX12_goes_0_X12 hK hP hJ hS mX12_goes_0_1 dX12_goes_2 (fun H locs hP hS => ?_)
  obtain ⟨u1, hu2, h⟩ := lt_some h
  rw [← hu2] at hP
  refine lv_iload_n C.1 C.2.1 dX12_goes_5 rfl (lv_at hl 1 rfl) ?_
  refine lv_iconst (v := 0) C.1 C.2.1 dX12_goes_6 (by decide) ?_
  refine lv_aload_n C.1 C.2.1 dX12_goes_7 rfl (lv_at hl 0 rfl) ?_
  refine gM_0_now C hX12_goes_0_X12 hK hP mX12_goes_0_2 dX12_goes_8 ?_
  obtain ⟨r3, hc5, h⟩ := bd_some h
  refine cs_i (As := [.int x1, .int 0, .int (u1.1 1)]) (rest := []) (AM_ge hJ) C hK hP hS (metX12_isIn l D cy st _ x1 0 (u1.1 1) hc5) (va_cwS 3 C.2.2.2.2.2.1 gX12_goes_X12_isIn rfl rfl rfl (by decide +kernel) ⟨(Nat.le_of_ble_eq_true rfl), (Nat.le_of_ble_eq_true rfl)⟩) rfl hl.1 rfl (Nat.le_of_ble_eq_true rfl) dX12_goes_11 ⟨Nat.zero_le _, Nat.zero_le _⟩ (fun H locs hP hS => ?_)
  refine lv_if_eq (tgt := 26) C.1 C.2.1 dX12_goes_14 (by decide) (fun c14 => ?_) (fun c14 => ?_)
  · rw [if_pos c14] at h
    refine lv_ldcw C.1 C.2.1 C.2.2.2.2.1 (C.2.2.2.2.2.1 _ mX12_goes_0_3) dX12_goes_26 ?_
    cases h
    exact rt_i C hP hS dX12_goes_29
  · rw [if_neg c14] at h
    refine lv_iload_n C.1 C.2.1 dX12_goes_17 rfl (lv_at hl 2 rfl) ?_
    refine lv_iconst (v := 0) C.1 C.2.1 dX12_goes_18 (by decide) ?_
    refine lv_iconst (v := 5) C.1 C.2.1 dX12_goes_19 (by decide) ?_
    obtain ⟨r6, hc8, h⟩ := bd_some h
    refine cs_i (As := [.int x2, .int 0, .int 5]) (rest := []) (AM_ge hJ) C hK hP hS (metX12_isIn l D cy st _ x2 0 5 hc8) (va_cwS 3 C.2.2.2.2.2.1 gX12_goes_X12_isIn rfl rfl rfl (by decide +kernel) ⟨(Nat.le_of_ble_eq_true rfl), (Nat.le_of_ble_eq_true rfl)⟩) rfl hl.1 rfl (Nat.le_of_ble_eq_true rfl) dX12_goes_20 ⟨Nat.zero_le _, Nat.zero_le _⟩ (fun H locs hP hS => ?_)
    refine lv_if_ne (tgt := 30) C.1 C.2.1 dX12_goes_23 (by decide) (fun c23 => ?_) (fun c23 => ?_)
    · rw [if_neg c23] at h
      refine lv_aload_n C.1 C.2.1 dX12_goes_30 rfl (lv_at hl 0 rfl) ?_
      refine lv_iload_n C.1 C.2.1 dX12_goes_31 rfl (lv_at hl 1 rfl) ?_
      obtain ⟨⟨r9, u10⟩, hc11, h⟩ := bd_some h
      try dsimp only at h
      refine cg_v (As := [.int x1]) (rest := []) (AM_ge hJ) C hK hP hS (metX12_layAlike_0 l D cy ad st hJ _ x1 hc11) (cwV 1 C.2.2.2.2.2.1 gX12_goes_X12_layAlike rfl rfl rfl (by decide +kernel) ⟨(Nat.le_of_ble_eq_true rfl), (Nat.le_of_ble_eq_true rfl)⟩) 0 12 rfl rfl rfl hl.1 rfl (Nat.le_of_ble_eq_true rfl) dX12_goes_32 ⟨Nat.zero_le _, Nat.zero_le _⟩ (fun H locs hP hS => ?_)
      refine lv_aload_n C.1 C.2.1 dX12_goes_35 rfl (lv_at hl 0 rfl) ?_
      refine gM_0_knownMany C hX12_goes_0_X12 hK hP mX12_goes_0_4 dX12_goes_36 ?_
      refine lv_if_ne (tgt := 46) C.1 C.2.1 dX12_goes_39 (by decide) (fun c39 => ?_) (fun c39 => ?_)
      · rw [if_neg c39] at h
        refine lv_aload_n C.1 C.2.1 dX12_goes_46 rfl (lv_at hl 0 rfl) ?_
        refine lv_iload_n C.1 C.2.1 dX12_goes_47 rfl (lv_at hl 1 rfl) ?_
        refine lv_iload_n C.1 C.2.1 dX12_goes_48 rfl (lv_at hl 2 rfl) ?_
        obtain ⟨⟨r12, u13⟩, hc14, h⟩ := bd_some h
        try dsimp only at h
        refine cg_v (As := [.int x1, .int x2]) (rest := []) (AM_ge hJ) C hK hP hS (metX12_layMeans_0 l D cy ad st hJ _ x1 x2 hc14) (cwV 2 C.2.2.2.2.2.1 gX12_goes_X12_layMeans rfl rfl rfl (by decide +kernel) ⟨(Nat.le_of_ble_eq_true rfl), (Nat.le_of_ble_eq_true rfl)⟩) 0 12 rfl rfl rfl hl.1 rfl (Nat.le_of_ble_eq_true rfl) dX12_goes_49 ⟨Nat.zero_le _, Nat.zero_le _⟩ (fun H locs hP hS => ?_)
        refine lv_aload_n C.1 C.2.1 dX12_goes_52 rfl (lv_at hl 0 rfl) ?_
        obtain ⟨⟨r15, u16⟩, hc17, h⟩ := bd_some h
        try dsimp only at h
        refine cg_i (As := []) (rest := []) (AM_ge hJ) C hK hP hS (metX12_apart_0 l D cy ad st hJ _  hc17) (cwV 0 C.2.2.2.2.2.1 gX12_goes_X12_apart rfl rfl rfl (by decide +kernel) ⟨(Nat.le_of_ble_eq_true rfl), (Nat.le_of_ble_eq_true rfl)⟩) 0 12 rfl rfl rfl hl.1 rfl (Nat.le_of_ble_eq_true rfl) dX12_goes_53 ⟨Nat.zero_le _, Nat.zero_le _⟩ (fun H locs hP hS => ?_)
        cases h
        exact rt_i C hP hS dX12_goes_56
      · rw [if_pos c39] at h
        refine lv_ldcw C.1 C.2.1 C.2.2.2.2.1 (C.2.2.2.2.2.1 _ mX12_goes_0_3) dX12_goes_42 ?_
        cases h
        exact rt_i C hP hS dX12_goes_45
    · rw [if_pos c23] at h
      refine lv_ldcw C.1 C.2.1 C.2.2.2.2.1 (C.2.2.2.2.2.1 _ mX12_goes_0_3) dX12_goes_26 ?_
      cases h
      exact rt_i C hP hS dX12_goes_29
theorem metX12_goes_0 (l : Launch) (D : va_G) (cy : Nat → ClassId) (ad st : Nat → Nat) (hJ : JM ad st) (sz : Nat) (x1 : Int32) (x2 : Int32) {u : SX} {r : Int32} {u' : SX} (h : fX12_goes_0 x1 x2 u = some (r, u')) : Met l yX12_goes wsX12_goes rmX12_goes_0 (va_Pc [.ref (ad 0), .int x1, .int x2] (Px D [(cy 0, .int), (cy 1, .long), (cy 2, .boolean), (cy 3, .byte), (cy 4, .object "HissHorn$Text")] st (VM cy ad st) sz u)) (Qi D (VM cy ad st) (AM ad) sz r u') 0 0 (Ax (AM ad) sz) := by
  refine Met.ofW (cc := cX12_goes) (maxL := 3) (ret := (some .int)) (by decide) rfl ?_
  intro p e s m args below meth c s₁ B hml hv
  obtain ⟨rfl, hsz, hP, hK⟩ := hv
  subst hsz
  have C : Cx RX12 cX12_goes 3 (some .int) wsX12_goes p s m _ meth c := ⟨B.exec, B.bytes, hml, B.returns, findClass_of_methodNamed B.named, atoms_spec (ws := wsX12_goes) B.pre, B.notSynchronized⟩
  have hl := lv_entry ([.ref (ad 0), .int x1, .int x2]) (n := 3) (Nat.le_of_ble_eq_true rfl)
  rw [lg_entry_eq]
  exact wX12_goes_0 C hK hJ x1 x2 h hP va_S.rf hl

theorem zdX12_even_153 : (and (and (and (and (and (zk cX12_even 153 (.iinc 4 1) 3) (zk cX12_even 156 (.goto (-57)) 3)) (and (zk cX12_even 99 (.iload 4) 2) (zk cX12_even 101 (.bipush 8) 2))) (and (and (zk cX12_even 103 (.if_icmp .ge 56) 3) (zk cX12_even 159 (.iload_n 3) 1)) (and (zk cX12_even 160 (.ireturn) 1) (zk cX12_even 106 (.aload_n 0) 1)))) (and (and (and (zk cX12_even 107 (.getfield 87) 3) (zk cX12_even 110 (.iload 4) 2)) (and (zk cX12_even 112 (.iaload) 1) (zk cX12_even 113 (.ifCond .le 40) 3))) (and (and (zk cX12_even 116 (.aload_n 0) 1) (zk cX12_even 117 (.getfield 87) 3)) (and (zk cX12_even 120 (.iload 4) 2) (zk cX12_even 122 (.bipush 8) 2))))) (and (and (and (and (zk cX12_even 124 (.iadd) 1) (zk cX12_even 125 (.iaload) 1)) (and (zk cX12_even 126 (.ifCond .le 27) 3) (zk cX12_even 129 (.iload_n 3) 1))) (and (and (zk cX12_even 130 (.aload_n 0) 1) (zk cX12_even 131 (.iload 4) 2)) (and (zk cX12_even 133 (.invokevirtual 378) 3) (zk cX12_even 136 (.aload_n 0) 1)))) (and (and (and (zk cX12_even 137 (.iload 4) 2) (zk cX12_even 139 (.bipush 8) 2)) (and (zk cX12_even 141 (.iadd) 1) (zk cX12_even 142 (.invokevirtual 378) 3))) (and (and (zk cX12_even 145 (.isub) 1) (zk cX12_even 146 (.invokestatic 387) 3)) (and (zk cX12_even 149 (.invokestatic 293) 3) (zk cX12_even 152 (.istore_n 3) 1)))))) = true := by decide +kernel
theorem dX12_even_153 : decode cX12_even 153 = .ok (.iinc 4 1, 3) := zk_of (zk_l (zk_l (zk_l (zk_l (zk_l zdX12_even_153)))))
theorem dX12_even_156 : decode cX12_even 156 = .ok (.goto (-57), 3) := zk_of (zk_r (zk_l (zk_l (zk_l (zk_l zdX12_even_153)))))
theorem dX12_even_99 : decode cX12_even 99 = .ok (.iload 4, 2) := zk_of (zk_l (zk_r (zk_l (zk_l (zk_l zdX12_even_153)))))
theorem dX12_even_101 : decode cX12_even 101 = .ok (.bipush 8, 2) := zk_of (zk_r (zk_r (zk_l (zk_l (zk_l zdX12_even_153)))))
theorem dX12_even_103 : decode cX12_even 103 = .ok (.if_icmp .ge 56, 3) := zk_of (zk_l (zk_l (zk_r (zk_l (zk_l zdX12_even_153)))))
theorem dX12_even_159 : decode cX12_even 159 = .ok (.iload_n 3, 1) := zk_of (zk_r (zk_l (zk_r (zk_l (zk_l zdX12_even_153)))))
theorem dX12_even_160 : decode cX12_even 160 = .ok (.ireturn, 1) := zk_of (zk_l (zk_r (zk_r (zk_l (zk_l zdX12_even_153)))))
theorem dX12_even_106 : decode cX12_even 106 = .ok (.aload_n 0, 1) := zk_of (zk_r (zk_r (zk_r (zk_l (zk_l zdX12_even_153)))))
theorem dX12_even_107 : decode cX12_even 107 = .ok (.getfield 87, 3) := zk_of (zk_l (zk_l (zk_l (zk_r (zk_l zdX12_even_153)))))
theorem dX12_even_110 : decode cX12_even 110 = .ok (.iload 4, 2) := zk_of (zk_r (zk_l (zk_l (zk_r (zk_l zdX12_even_153)))))
theorem dX12_even_112 : decode cX12_even 112 = .ok (.iaload, 1) := zk_of (zk_l (zk_r (zk_l (zk_r (zk_l zdX12_even_153)))))
theorem dX12_even_113 : decode cX12_even 113 = .ok (.ifCond .le 40, 3) := zk_of (zk_r (zk_r (zk_l (zk_r (zk_l zdX12_even_153)))))
theorem dX12_even_116 : decode cX12_even 116 = .ok (.aload_n 0, 1) := zk_of (zk_l (zk_l (zk_r (zk_r (zk_l zdX12_even_153)))))
theorem dX12_even_117 : decode cX12_even 117 = .ok (.getfield 87, 3) := zk_of (zk_r (zk_l (zk_r (zk_r (zk_l zdX12_even_153)))))
theorem dX12_even_120 : decode cX12_even 120 = .ok (.iload 4, 2) := zk_of (zk_l (zk_r (zk_r (zk_r (zk_l zdX12_even_153)))))
theorem dX12_even_122 : decode cX12_even 122 = .ok (.bipush 8, 2) := zk_of (zk_r (zk_r (zk_r (zk_r (zk_l zdX12_even_153)))))
theorem dX12_even_124 : decode cX12_even 124 = .ok (.iadd, 1) := zk_of (zk_l (zk_l (zk_l (zk_l (zk_r zdX12_even_153)))))
theorem dX12_even_125 : decode cX12_even 125 = .ok (.iaload, 1) := zk_of (zk_r (zk_l (zk_l (zk_l (zk_r zdX12_even_153)))))
theorem dX12_even_126 : decode cX12_even 126 = .ok (.ifCond .le 27, 3) := zk_of (zk_l (zk_r (zk_l (zk_l (zk_r zdX12_even_153)))))
theorem dX12_even_129 : decode cX12_even 129 = .ok (.iload_n 3, 1) := zk_of (zk_r (zk_r (zk_l (zk_l (zk_r zdX12_even_153)))))
theorem dX12_even_130 : decode cX12_even 130 = .ok (.aload_n 0, 1) := zk_of (zk_l (zk_l (zk_r (zk_l (zk_r zdX12_even_153)))))
theorem dX12_even_131 : decode cX12_even 131 = .ok (.iload 4, 2) := zk_of (zk_r (zk_l (zk_r (zk_l (zk_r zdX12_even_153)))))
theorem dX12_even_133 : decode cX12_even 133 = .ok (.invokevirtual 378, 3) := zk_of (zk_l (zk_r (zk_r (zk_l (zk_r zdX12_even_153)))))
theorem dX12_even_136 : decode cX12_even 136 = .ok (.aload_n 0, 1) := zk_of (zk_r (zk_r (zk_r (zk_l (zk_r zdX12_even_153)))))
theorem dX12_even_137 : decode cX12_even 137 = .ok (.iload 4, 2) := zk_of (zk_l (zk_l (zk_l (zk_r (zk_r zdX12_even_153)))))
theorem dX12_even_139 : decode cX12_even 139 = .ok (.bipush 8, 2) := zk_of (zk_r (zk_l (zk_l (zk_r (zk_r zdX12_even_153)))))
theorem dX12_even_141 : decode cX12_even 141 = .ok (.iadd, 1) := zk_of (zk_l (zk_r (zk_l (zk_r (zk_r zdX12_even_153)))))
theorem dX12_even_142 : decode cX12_even 142 = .ok (.invokevirtual 378, 3) := zk_of (zk_r (zk_r (zk_l (zk_r (zk_r zdX12_even_153)))))
theorem dX12_even_145 : decode cX12_even 145 = .ok (.isub, 1) := zk_of (zk_l (zk_l (zk_r (zk_r (zk_r zdX12_even_153)))))
theorem dX12_even_146 : decode cX12_even 146 = .ok (.invokestatic 387, 3) := zk_of (zk_r (zk_l (zk_r (zk_r (zk_r zdX12_even_153)))))
theorem dX12_even_149 : decode cX12_even 149 = .ok (.invokestatic 293, 3) := zk_of (zk_l (zk_r (zk_r (zk_r (zk_r zdX12_even_153)))))
theorem dX12_even_152 : decode cX12_even 152 = .ok (.istore_n 3, 1) := zk_of (zk_r (zk_r (zk_r (zk_r (zk_r zdX12_even_153)))))
set_option maxRecDepth 20000 in
theorem ggX12_even_X12_mean : GoodIn wsX12_even wsX12_mean := ggi (fun w h => List.mem_cons_of_mem _ (List.mem_append_left _ (List.mem_append_right _ (List.mem_append_left _ h)))) gs_X12_mean
set_option maxRecDepth 20000 in
theorem gX12_even_X12_mean : GoodIn wsX12_even (wsV RX12 378 RX12 yX12_mean wsX12_mean) := goodIn_app (goodIn_of _ (by decide +kernel)) ggX12_even_X12_mean
theorem zdX12_even_68 : (and (and (and (and (and (zk cX12_even 68 (.iadd) 1) (zk cX12_even 69 (.istore_n 3) 1)) (and (zk cX12_even 70 (.iinc 4 1) 3) (zk cX12_even 73 (.goto (-28)) 3))) (and (and (zk cX12_even 45 (.iload 4) 2) (zk cX12_even 47 (.bipush 16) 2)) (and (zk cX12_even 49 (.if_icmp .ge 27) 3) (zk cX12_even 52 (.iload_n 3) 1)))) (and (and (and (zk cX12_even 53 (.aload_n 0) 1) (zk cX12_even 54 (.getfield 87) 3)) (and (zk cX12_even 57 (.iload 4) 2) (zk cX12_even 59 (.iaload) 1))) (and (and (zk cX12_even 60 (.ifCond .le 7) 3) (zk cX12_even 67 (.iconst 0) 1)) (and (zk cX12_even 63 (.iconst 1) 1) (zk cX12_even 64 (.goto 4) 3))))) (and (and (and (and (zk cX12_even 76 (.iload_n 3) 1) (zk cX12_even 77 (.iconst 2) 1)) (and (zk cX12_even 78 (.if_icmp .ge 9) 3) (zk cX12_even 87 (.aload_n 0) 1))) (and (and (zk cX12_even 88 (.invokevirtual 384) 3) (zk cX12_even 91 (.ireturn) 1)) (and (zk cX12_even 81 (.ldc_w 330) 3) (zk cX12_even 84 (.goto 7) 3)))) (and (and (and (zk cX12_even 0 (.aload_n 0) 1) (zk cX12_even 1 (.iconst 0) 1)) (and (zk cX12_even 2 (.putfield 151) 3) (zk cX12_even 5 (.iload_n 1) 1))) (and (and (zk cX12_even 6 (.iconst 0) 1) (zk cX12_even 7 (.aload_n 0) 1)) (and (zk cX12_even 8 (.getfield 159) 3) (zk cX12_even 11 (.invokestatic 155) 3)))))) = true := by decide +kernel
theorem dX12_even_68 : decode cX12_even 68 = .ok (.iadd, 1) := zk_of (zk_l (zk_l (zk_l (zk_l (zk_l zdX12_even_68)))))
theorem dX12_even_69 : decode cX12_even 69 = .ok (.istore_n 3, 1) := zk_of (zk_r (zk_l (zk_l (zk_l (zk_l zdX12_even_68)))))
theorem dX12_even_70 : decode cX12_even 70 = .ok (.iinc 4 1, 3) := zk_of (zk_l (zk_r (zk_l (zk_l (zk_l zdX12_even_68)))))
theorem dX12_even_73 : decode cX12_even 73 = .ok (.goto (-28), 3) := zk_of (zk_r (zk_r (zk_l (zk_l (zk_l zdX12_even_68)))))
theorem dX12_even_45 : decode cX12_even 45 = .ok (.iload 4, 2) := zk_of (zk_l (zk_l (zk_r (zk_l (zk_l zdX12_even_68)))))
theorem dX12_even_47 : decode cX12_even 47 = .ok (.bipush 16, 2) := zk_of (zk_r (zk_l (zk_r (zk_l (zk_l zdX12_even_68)))))
theorem dX12_even_49 : decode cX12_even 49 = .ok (.if_icmp .ge 27, 3) := zk_of (zk_l (zk_r (zk_r (zk_l (zk_l zdX12_even_68)))))
theorem dX12_even_52 : decode cX12_even 52 = .ok (.iload_n 3, 1) := zk_of (zk_r (zk_r (zk_r (zk_l (zk_l zdX12_even_68)))))
theorem dX12_even_53 : decode cX12_even 53 = .ok (.aload_n 0, 1) := zk_of (zk_l (zk_l (zk_l (zk_r (zk_l zdX12_even_68)))))
theorem dX12_even_54 : decode cX12_even 54 = .ok (.getfield 87, 3) := zk_of (zk_r (zk_l (zk_l (zk_r (zk_l zdX12_even_68)))))
theorem dX12_even_57 : decode cX12_even 57 = .ok (.iload 4, 2) := zk_of (zk_l (zk_r (zk_l (zk_r (zk_l zdX12_even_68)))))
theorem dX12_even_59 : decode cX12_even 59 = .ok (.iaload, 1) := zk_of (zk_r (zk_r (zk_l (zk_r (zk_l zdX12_even_68)))))
theorem dX12_even_60 : decode cX12_even 60 = .ok (.ifCond .le 7, 3) := zk_of (zk_l (zk_l (zk_r (zk_r (zk_l zdX12_even_68)))))
theorem dX12_even_67 : decode cX12_even 67 = .ok (.iconst 0, 1) := zk_of (zk_r (zk_l (zk_r (zk_r (zk_l zdX12_even_68)))))
theorem dX12_even_63 : decode cX12_even 63 = .ok (.iconst 1, 1) := zk_of (zk_l (zk_r (zk_r (zk_r (zk_l zdX12_even_68)))))
theorem dX12_even_64 : decode cX12_even 64 = .ok (.goto 4, 3) := zk_of (zk_r (zk_r (zk_r (zk_r (zk_l zdX12_even_68)))))
theorem dX12_even_76 : decode cX12_even 76 = .ok (.iload_n 3, 1) := zk_of (zk_l (zk_l (zk_l (zk_l (zk_r zdX12_even_68)))))
theorem dX12_even_77 : decode cX12_even 77 = .ok (.iconst 2, 1) := zk_of (zk_r (zk_l (zk_l (zk_l (zk_r zdX12_even_68)))))
theorem dX12_even_78 : decode cX12_even 78 = .ok (.if_icmp .ge 9, 3) := zk_of (zk_l (zk_r (zk_l (zk_l (zk_r zdX12_even_68)))))
theorem dX12_even_87 : decode cX12_even 87 = .ok (.aload_n 0, 1) := zk_of (zk_r (zk_r (zk_l (zk_l (zk_r zdX12_even_68)))))
theorem dX12_even_88 : decode cX12_even 88 = .ok (.invokevirtual 384, 3) := zk_of (zk_l (zk_l (zk_r (zk_l (zk_r zdX12_even_68)))))
theorem dX12_even_91 : decode cX12_even 91 = .ok (.ireturn, 1) := zk_of (zk_r (zk_l (zk_r (zk_l (zk_r zdX12_even_68)))))
theorem dX12_even_81 : decode cX12_even 81 = .ok (.ldc_w 330, 3) := zk_of (zk_l (zk_r (zk_r (zk_l (zk_r zdX12_even_68)))))
theorem dX12_even_84 : decode cX12_even 84 = .ok (.goto 7, 3) := zk_of (zk_r (zk_r (zk_r (zk_l (zk_r zdX12_even_68)))))
theorem dX12_even_0 : decode cX12_even 0 = .ok (.aload_n 0, 1) := zk_of (zk_l (zk_l (zk_l (zk_r (zk_r zdX12_even_68)))))
theorem dX12_even_1 : decode cX12_even 1 = .ok (.iconst 0, 1) := zk_of (zk_r (zk_l (zk_l (zk_r (zk_r zdX12_even_68)))))
theorem dX12_even_2 : decode cX12_even 2 = .ok (.putfield 151, 3) := zk_of (zk_l (zk_r (zk_l (zk_r (zk_r zdX12_even_68)))))
theorem dX12_even_5 : decode cX12_even 5 = .ok (.iload_n 1, 1) := zk_of (zk_r (zk_r (zk_l (zk_r (zk_r zdX12_even_68)))))
theorem dX12_even_6 : decode cX12_even 6 = .ok (.iconst 0, 1) := zk_of (zk_l (zk_l (zk_r (zk_r (zk_r zdX12_even_68)))))
theorem dX12_even_7 : decode cX12_even 7 = .ok (.aload_n 0, 1) := zk_of (zk_r (zk_l (zk_r (zk_r (zk_r zdX12_even_68)))))
theorem dX12_even_8 : decode cX12_even 8 = .ok (.getfield 159, 3) := zk_of (zk_l (zk_r (zk_r (zk_r (zk_r zdX12_even_68)))))
theorem dX12_even_11 : decode cX12_even 11 = .ok (.invokestatic 155, 3) := zk_of (zk_r (zk_r (zk_r (zk_r (zk_r zdX12_even_68)))))
set_option maxRecDepth 20000 in
theorem ggX12_even_X12_apart : GoodIn wsX12_even wsX12_apart := ggi (fun w h => List.mem_cons_of_mem _ (List.mem_append_left _ (List.mem_append_right _ (List.mem_append_right _ (List.mem_append_left _ h))))) gs_X12_apart
set_option maxRecDepth 20000 in
theorem gX12_even_X12_apart : GoodIn wsX12_even (wsV RX12 384 RX12 yX12_apart wsX12_apart) := goodIn_app (goodIn_of _ (by decide +kernel)) ggX12_even_X12_apart
set_option maxRecDepth 20000 in
theorem ggX12_even_X12_isIn : GoodIn wsX12_even wsX12_isIn := ggi (fun w h => List.mem_cons_of_mem _ (List.mem_append_left _ (List.mem_append_right _ (List.mem_append_right _ (List.mem_append_right _ (List.mem_append_left _ h)))))) gs_X12_isIn
set_option maxRecDepth 20000 in
theorem gX12_even_X12_isIn : GoodIn wsX12_even (va_wsS RX12 155 yX12_isIn wsX12_isIn) := goodIn_app (goodIn_of _ (by decide +kernel)) ggX12_even_X12_isIn
theorem zdX12_even_14 : (and (and (and (and (and (zk cX12_even 14 (.ifCond .eq 12) 3) (zk cX12_even 26 (.ldc_w 330) 3)) (zk cX12_even 29 (.ireturn) 1)) (and (and (zk cX12_even 17 (.iload_n 2) 1) (zk cX12_even 18 (.iconst 0) 1)) (zk cX12_even 19 (.iconst 1) 1))) (and (and (and (zk cX12_even 20 (.invokestatic 155) 3) (zk cX12_even 23 (.ifCond .ne 7) 3)) (zk cX12_even 30 (.aload_n 0) 1)) (and (zk cX12_even 31 (.iload_n 1) 1) (zk cX12_even 32 (.iconst 0) 1)))) (and (and (and (and (zk cX12_even 33 (.invokevirtual 381) 3) (zk cX12_even 36 (.iload_n 2) 1)) (zk cX12_even 37 (.ifCond .ne 55) 3)) (and (and (zk cX12_even 92 (.ldc_w 330) 3) (zk cX12_even 95 (.istore_n 3) 1)) (zk cX12_even 96 (.iconst 0) 1))) (and (and (and (zk cX12_even 97 (.istore 4) 2) (zk cX12_even 40 (.iconst 0) 1)) (zk cX12_even 41 (.istore_n 3) 1)) (and (zk cX12_even 42 (.iconst 0) 1) (zk cX12_even 43 (.istore 4) 2))))) = true := by decide +kernel
theorem dX12_even_14 : decode cX12_even 14 = .ok (.ifCond .eq 12, 3) := zk_of (zk_l (zk_l (zk_l (zk_l (zk_l zdX12_even_14)))))
theorem dX12_even_26 : decode cX12_even 26 = .ok (.ldc_w 330, 3) := zk_of (zk_r (zk_l (zk_l (zk_l (zk_l zdX12_even_14)))))
theorem dX12_even_29 : decode cX12_even 29 = .ok (.ireturn, 1) := zk_of (zk_r (zk_l (zk_l (zk_l zdX12_even_14))))
theorem dX12_even_17 : decode cX12_even 17 = .ok (.iload_n 2, 1) := zk_of (zk_l (zk_l (zk_r (zk_l (zk_l zdX12_even_14)))))
theorem dX12_even_18 : decode cX12_even 18 = .ok (.iconst 0, 1) := zk_of (zk_r (zk_l (zk_r (zk_l (zk_l zdX12_even_14)))))
theorem dX12_even_19 : decode cX12_even 19 = .ok (.iconst 1, 1) := zk_of (zk_r (zk_r (zk_l (zk_l zdX12_even_14))))
theorem dX12_even_20 : decode cX12_even 20 = .ok (.invokestatic 155, 3) := zk_of (zk_l (zk_l (zk_l (zk_r (zk_l zdX12_even_14)))))
theorem dX12_even_23 : decode cX12_even 23 = .ok (.ifCond .ne 7, 3) := zk_of (zk_r (zk_l (zk_l (zk_r (zk_l zdX12_even_14)))))
theorem dX12_even_30 : decode cX12_even 30 = .ok (.aload_n 0, 1) := zk_of (zk_r (zk_l (zk_r (zk_l zdX12_even_14))))
theorem dX12_even_31 : decode cX12_even 31 = .ok (.iload_n 1, 1) := zk_of (zk_l (zk_r (zk_r (zk_l zdX12_even_14))))
theorem dX12_even_32 : decode cX12_even 32 = .ok (.iconst 0, 1) := zk_of (zk_r (zk_r (zk_r (zk_l zdX12_even_14))))
theorem dX12_even_33 : decode cX12_even 33 = .ok (.invokevirtual 381, 3) := zk_of (zk_l (zk_l (zk_l (zk_l (zk_r zdX12_even_14)))))
theorem dX12_even_36 : decode cX12_even 36 = .ok (.iload_n 2, 1) := zk_of (zk_r (zk_l (zk_l (zk_l (zk_r zdX12_even_14)))))
theorem dX12_even_37 : decode cX12_even 37 = .ok (.ifCond .ne 55, 3) := zk_of (zk_r (zk_l (zk_l (zk_r zdX12_even_14))))
theorem dX12_even_92 : decode cX12_even 92 = .ok (.ldc_w 330, 3) := zk_of (zk_l (zk_l (zk_r (zk_l (zk_r zdX12_even_14)))))
theorem dX12_even_95 : decode cX12_even 95 = .ok (.istore_n 3, 1) := zk_of (zk_r (zk_l (zk_r (zk_l (zk_r zdX12_even_14)))))
theorem dX12_even_96 : decode cX12_even 96 = .ok (.iconst 0, 1) := zk_of (zk_r (zk_r (zk_l (zk_r zdX12_even_14))))
theorem dX12_even_97 : decode cX12_even 97 = .ok (.istore 4, 2) := zk_of (zk_l (zk_l (zk_l (zk_r (zk_r zdX12_even_14)))))
theorem dX12_even_40 : decode cX12_even 40 = .ok (.iconst 0, 1) := zk_of (zk_r (zk_l (zk_l (zk_r (zk_r zdX12_even_14)))))
theorem dX12_even_41 : decode cX12_even 41 = .ok (.istore_n 3, 1) := zk_of (zk_r (zk_l (zk_r (zk_r zdX12_even_14))))
theorem dX12_even_42 : decode cX12_even 42 = .ok (.iconst 0, 1) := zk_of (zk_l (zk_r (zk_r (zk_r zdX12_even_14))))
theorem dX12_even_43 : decode cX12_even 43 = .ok (.istore 4, 2) := zk_of (zk_r (zk_r (zk_r (zk_r zdX12_even_14))))
set_option maxRecDepth 20000 in
theorem ggX12_even_X12_layMeans : GoodIn wsX12_even wsX12_layMeans := ggi (fun w h => List.mem_cons_of_mem _ (List.mem_append_left _ (List.mem_append_right _ (List.mem_append_right _ (List.mem_append_right _ (List.mem_append_right _ h)))))) gs_X12_layMeans
set_option maxRecDepth 20000 in
theorem gX12_even_X12_layMeans : GoodIn wsX12_even (wsV RX12 381 RX12 yX12_layMeans wsX12_layMeans) := goodIn_app (goodIn_of _ (by decide +kernel)) ggX12_even_X12_layMeans
/-- HissHornModel.even(II)I of cell 0 -/
def rmX12_even_0 : Room := { frames := 143, cells := 0, slots := 0, locals := 8549 }
theorem hX12_even_0_X12 : ∀ w ∈ u_ws RX12 TX12 69, w ∈ wsX12_even := fun w h => (List.mem_cons_of_mem _ (List.mem_append_right _ h))
theorem mX12_even_0_1 : Cond.fieldLink RX12 151 "HissHornModel" "thrown" "I" ∈ wsX12_even := (List.mem_cons_of_mem _ (List.mem_append_left _ (List.mem_append_left _ (List.mem_of_getElem? (i := 12) rfl))))
theorem mX12_even_0_2 : Cond.fieldLink RX12 159 "HissHornModel" "now" "I" ∈ wsX12_even := (List.mem_cons_of_mem _ (List.mem_append_left _ (List.mem_append_left _ (List.mem_of_getElem? (i := 13) rfl))))
theorem mX12_even_0_3 : Cond.constant RX12 330 (-100000000) ∈ wsX12_even := (List.mem_cons_of_mem _ (List.mem_append_left _ (List.mem_append_left _ (List.mem_of_getElem? (i := 14) rfl))))
theorem mX12_even_0_4 : Cond.fieldLink RX12 87 "HissHornModel" "many" "[I" ∈ wsX12_even := (List.mem_cons_of_mem _ (List.mem_append_left _ (List.mem_append_left _ (List.mem_of_getElem? (i := 15) rfl))))
def GX12_even_0_153 (k99 : Int32 → Int32 → SX → Option (Int32 × SX)) (z3 : Int32) (z4 : Int32) (u : SX) : Option (Int32 × SX) := (k99 z3 (z4 + 1) u)
theorem mX12_even_0_5 : Cond.methodLink RX12 387 Lib.Math.abs.name ∈ wsX12_even := (List.mem_cons_of_mem _ (List.mem_append_left _ (List.mem_append_left _ (List.mem_of_getElem? (i := 16) rfl))))
theorem mX12_even_0_6 : Cond.static Lib.Math.abs.name ∈ wsX12_even := (List.mem_cons_of_mem _ (List.mem_append_left _ (List.mem_append_left _ (List.mem_of_getElem? (i := 17) rfl))))
theorem mX12_even_0_7 : Cond.initialized "java/lang/Math" ∈ wsX12_even := (List.mem_cons_of_mem _ (List.mem_append_left _ (List.mem_append_left _ (List.mem_of_getElem? (i := 18) rfl))))
theorem mX12_even_0_8 : Cond.code Lib.Math.abs.name Lib.Math.abs.code 1 (some .int) ∈ wsX12_even := (List.mem_cons_of_mem _ (List.mem_append_left _ (List.mem_append_left _ (List.mem_of_getElem? (i := 19) rfl))))
theorem mX12_even_0_9 : Cond.methodLink RX12 293 Lib.Math.max.name ∈ wsX12_even := (List.mem_cons_of_mem _ (List.mem_append_left _ (List.mem_append_left _ (List.mem_of_getElem? (i := 20) rfl))))
theorem mX12_even_0_10 : Cond.static Lib.Math.max.name ∈ wsX12_even := (List.mem_cons_of_mem _ (List.mem_append_left _ (List.mem_append_left _ (List.mem_of_getElem? (i := 21) rfl))))
theorem mX12_even_0_11 : Cond.code Lib.Math.max.name Lib.Math.max.code 2 (some .int) ∈ wsX12_even := (List.mem_cons_of_mem _ (List.mem_append_left _ (List.mem_append_left _ (List.mem_of_getElem? (i := 22) rfl))))
def LX12_even_0_99  : Nat → Int32 → Int32 → SX → Option (Int32 × SX)
  | 0, _, _, _ => none
  | n + 1, z3, z4, u => (if 8 ≤ z4 then (some (z3, u)) else (gd (inb z4 41) (if (u.2.1 23 z4.toNatClampNeg) ≤ 0 then (GX12_even_0_153 (LX12_even_0_99 n) z3 z4 u) else (gd (inb (z4 + 8) 41) (if (u.2.1 23 (z4 + 8).toNatClampNeg) ≤ 0 then (GX12_even_0_153 (LX12_even_0_99 n) z3 z4 u) else ((fX12_mean_0 z4 u).bind fun q => match q with | (r14, u15) => ((fX12_mean_0 (z4 + 8) u15).bind fun q => match q with | (r17, u18) => (lt (if z3 < (if 0 ≤ (r14 - r17) then (r14 - r17) else 0 - (r14 - r17)) then (if 0 ≤ (r14 - r17) then (r14 - r17) else 0 - (r14 - r17)) else z3) fun v20 => (GX12_even_0_153 (LX12_even_0_99 n) v20 z4 u18)))))))))
def GX12_even_0_68 (k45 : Int32 → Int32 → SX → Option (Int32 × SX)) (z4 : Int32) (y0 : Int32) (y1 : Int32) (u : SX) : Option (Int32 × SX) := (lt (y1 + y0) fun v23 => (k45 v23 (z4 + 1) u))
def LX12_even_0_45 (k76 : Int32 → SX → Option (Int32 × SX)) : Nat → Int32 → Int32 → SX → Option (Int32 × SX)
  | 0, _, _, _ => none
  | n + 1, z3, z4, u => (if 16 ≤ z4 then (k76 z3 u) else (gd (inb z4 41) (if (u.2.1 23 z4.toNatClampNeg) ≤ 0 then (GX12_even_0_68 (LX12_even_0_45 k76 n) z4 0 z3 u) else (GX12_even_0_68 (LX12_even_0_45 k76 n) z4 1 z3 u))))
def GX12_even_0_76 (z3 : Int32) (u : SX) : Option (Int32 × SX) := (if 2 ≤ z3 then ((fX12_apart_0  u).bind fun q => match q with | (r25, u26) => (some (r25, u26))) else (some ((-100000000), u)))
def fX12_even_0 (x1 : Int32) (x2 : Int32) (u : SX) : Option (Int32 × SX) := (lt (sI u 0 0) fun u1 => ((fX12_isIn x1 0 (u1.1 1)).bind fun r3 => (if r3 = 0 then (some ((-100000000), u1)) else ((fX12_isIn x2 0 1).bind fun r6 => (if r6 = 0 then (some ((-100000000), u1)) else ((fX12_layMeans_0 x1 0 u1).bind fun q => match q with | (r9, u10) => (if x2 = 0 then (LX12_even_0_45 GX12_even_0_76 5000 0 0 u10) else (LX12_even_0_99  5000 (-100000000) 0 u10))))))))
set_option maxHeartbeats 4000000 in
set_option maxRecDepth 100000 in
theorem wGX12_even_0_153 {p : Program} {l : Launch} {e : Env} {s : State} {m : MethodId} {args : Array Value} {below : List Frame} {meth : Method} {c : Code} {D : va_G} {cy : Nat → ClassId} {ad st : Nat → Nat} (C : Cx RX12 cX12_even 5 (some .int) wsX12_even p s m args meth c) (hK : Ky D [(cy 0, .int), (cy 1, .long), (cy 2, .boolean), (cy 3, .byte), (cy 4, .object "HissHorn$Text")] st s) (hJ : JM ad st) {r : Int32} {u' : SX} {k99 : Int32 → Int32 → SX → Option (Int32 × SX)} (hk99 : ∀ (z3 : Int32) (z4 : Int32) (u : SX) (H : Heap) (locs : List Loc) (ls : Array Slot), k99 z3 z4 u = some (r, u') → va_P D vwCl (VM cy ad st u) H → va_S (Ax (AM ad) s.heap.size) s.heap H locs → lv_has ls 5 [(0, .ref (ad 0)), (3, .int z3), (4, .int z4)] → W p l e rmX12_even_0 s m args below meth c H locs 0 0 (MQ below (Qi D (VM cy ad st) (AM ad) s.heap.size r u') args s 0 0 (Ax (AM ad) s.heap.size)) (F0 m 99 ls [])) (z3 : Int32) (z4 : Int32) (u : SX) (H : Heap) (locs : List Loc) (ls : Array Slot) (h : GX12_even_0_153 k99 z3 z4 u = some (r, u')) (hP : va_P D vwCl (VM cy ad st u) H) (hS : va_S (Ax (AM ad) s.heap.size) s.heap H locs) (hl : lv_has ls 5 [(0, .ref (ad 0)), (3, .int z3), (4, .int z4)]) : W p l e rmX12_even_0 s m args below meth c H locs 0 0 (MQ below (Qi D (VM cy ad st) (AM ad) s.heap.size r u') args s 0 0 (Ax (AM ad) s.heap.size)) (F0 m 153 ls []) := by
  unfold GX12_even_0_153 at h
  refine lv_iinc (v := z4 + 1) (lv' := [(4, .int (z4 + 1)), (0, .ref (ad 0)), (3, .int z3)]) C.1 C.2.1 dX12_even_153 hl (k := 2) rfl rfl (by decide) rfl (fun ls hl => ?_)
  replace hl := lv_sub (l' := [(0, .ref (ad 0)), (3, .int z3), (4, .int (z4 + 1))]) hl [1, 2, 0] rfl
  refine lv_goto (tgt := 99) C.1 C.2.1 dX12_even_156 (by decide) ?_
  exact hk99 _ _ _ _ _ _ h hP hS hl
set_option maxHeartbeats 4000000 in
set_option maxRecDepth 100000 in
theorem wLX12_even_0_99 {p : Program} {l : Launch} {e : Env} {s : State} {m : MethodId} {args : Array Value} {below : List Frame} {meth : Method} {c : Code} {D : va_G} {cy : Nat → ClassId} {ad st : Nat → Nat} (C : Cx RX12 cX12_even 5 (some .int) wsX12_even p s m args meth c) (hK : Ky D [(cy 0, .int), (cy 1, .long), (cy 2, .boolean), (cy 3, .byte), (cy 4, .object "HissHorn$Text")] st s) (hJ : JM ad st) {r : Int32} {u' : SX}   : ∀ (n : Nat) (z3 : Int32) (z4 : Int32) (u : SX) (H : Heap) (locs : List Loc) (ls : Array Slot), LX12_even_0_99  n z3 z4 u = some (r, u') → va_P D vwCl (VM cy ad st u) H → va_S (Ax (AM ad) s.heap.size) s.heap H locs → lv_has ls 5 [(0, .ref (ad 0)), (3, .int z3), (4, .int z4)] → W p l e rmX12_even_0 s m args below meth c H locs 0 0 (MQ below (Qi D (VM cy ad st) (AM ad) s.heap.size r u') args s 0 0 (Ax (AM ad) s.heap.size)) (F0 m 99 ls []) := by
  intro n
  induction n with
  | zero =>
    intro z3 z4 u H locs ls h
    exact absurd h (by intro q; cases q)
  | succ n ih =>
    intro z3 z4 u H locs ls h hP hS hl
    rw [LX12_even_0_99] at h
    refine lv_iload C.1 C.2.1 dX12_even_99 (lv_at hl 2 rfl) ?_
    refine lv_bipush (v := 8) C.1 C.2.1 dX12_even_101 (by decide) ?_
    refine lv_icmp_ge (tgt := 159) C.1 C.2.1 dX12_even_103 (by decide) (fun c103 => ?_) (fun c103 => ?_)
    · rw [if_pos c103] at h
      refine lv_iload_n C.1 C.2.1 dX12_even_159 rfl (lv_at hl 1 rfl) ?_
      cases h
      exact rt_i C hP hS dX12_even_160
    · rw [if_neg c103] at h
      refine lv_aload_n C.1 C.2.1 dX12_even_106 rfl (lv_at hl 0 rfl) ?_
      refine gM_0_many C hX12_even_0_X12 hK hP mX12_even_0_4 dX12_even_107 ?_
      refine lv_iload C.1 C.2.1 dX12_even_110 (lv_at hl 2 rfl) ?_
      obtain ⟨hg12, h⟩ := gd_some h
      refine lM_23 C hK hP hg12 dX12_even_112 ?_
      refine lv_if_le (tgt := 153) C.1 C.2.1 dX12_even_113 (by decide) (fun c113 => ?_) (fun c113 => ?_)
      · rw [if_pos c113] at h
        exact wGX12_even_0_153 C hK hJ ih _ _ _ _ _ _ h hP hS hl
      · rw [if_neg c113] at h
        refine lv_aload_n C.1 C.2.1 dX12_even_116 rfl (lv_at hl 0 rfl) ?_
        refine gM_0_many C hX12_even_0_X12 hK hP mX12_even_0_4 dX12_even_117 ?_
        refine lv_iload C.1 C.2.1 dX12_even_120 (lv_at hl 2 rfl) ?_
        refine lv_bipush (v := 8) C.1 C.2.1 dX12_even_122 (by decide) ?_
        refine lv_iadd C.1 C.2.1 dX12_even_124 ?_
        obtain ⟨hg13, h⟩ := gd_some h
        refine lM_23 C hK hP hg13 dX12_even_125 ?_
        refine lv_if_le (tgt := 153) C.1 C.2.1 dX12_even_126 (by decide) (fun c126 => ?_) (fun c126 => ?_)
        · rw [if_pos c126] at h
          exact wGX12_even_0_153 C hK hJ ih _ _ _ _ _ _ h hP hS hl
        · rw [if_neg c126] at h
          refine lv_iload_n C.1 C.2.1 dX12_even_129 rfl (lv_at hl 1 rfl) ?_
          refine lv_aload_n C.1 C.2.1 dX12_even_130 rfl (lv_at hl 0 rfl) ?_
          refine lv_iload C.1 C.2.1 dX12_even_131 (lv_at hl 2 rfl) ?_
          obtain ⟨⟨r14, u15⟩, hc16, h⟩ := bd_some h
          try dsimp only at h
          refine cg_i (As := [.int z4]) (rest := [.int z3]) (AM_ge hJ) C hK hP hS (metX12_mean_0 l D cy ad st hJ _ z4 hc16) (cwV 1 C.2.2.2.2.2.1 gX12_even_X12_mean rfl rfl rfl (by decide +kernel) ⟨(Nat.le_of_ble_eq_true rfl), (Nat.le_of_ble_eq_true rfl)⟩) 0 12 rfl rfl rfl hl.1 rfl (Nat.le_of_ble_eq_true rfl) dX12_even_133 ⟨Nat.zero_le _, Nat.zero_le _⟩ (fun H locs hP hS => ?_)
          refine lv_aload_n C.1 C.2.1 dX12_even_136 rfl (lv_at hl 0 rfl) ?_
          refine lv_iload C.1 C.2.1 dX12_even_137 (lv_at hl 2 rfl) ?_
          refine lv_bipush (v := 8) C.1 C.2.1 dX12_even_139 (by decide) ?_
          refine lv_iadd C.1 C.2.1 dX12_even_141 ?_
          obtain ⟨⟨r17, u18⟩, hc19, h⟩ := bd_some h
          try dsimp only at h
          refine cg_i (As := [.int (z4 + 8)]) (rest := [.int r14, .int z3]) (AM_ge hJ) C hK hP hS (metX12_mean_0 l D cy ad st hJ _ (z4 + 8) hc19) (cwV 1 C.2.2.2.2.2.1 gX12_even_X12_mean rfl rfl rfl (by decide +kernel) ⟨(Nat.le_of_ble_eq_true rfl), (Nat.le_of_ble_eq_true rfl)⟩) 0 12 rfl rfl rfl hl.1 rfl (Nat.le_of_ble_eq_true rfl) dX12_even_142 ⟨Nat.zero_le _, Nat.zero_le _⟩ (fun H locs hP hS => ?_)
          refine lv_isub C.1 C.2.1 dX12_even_145 ?_
          refine va_mabs C.1 C.2.1 (C.2.2.1.trans hl.1.symm) C.2.2.2.2.1 (C.2.2.2.2.2.1 _ mX12_even_0_5) (C.2.2.2.2.2.1 _ mX12_even_0_6) (C.2.2.2.2.2.1 _ mX12_even_0_7) (C.2.2.2.2.2.1 _ mX12_even_0_8) (Nat.le_of_ble_eq_true rfl) (Nat.le_of_ble_eq_true rfl) (Nat.zero_le _) (Nat.zero_le _) dX12_even_146 ?_
          refine va_mmax C.1 C.2.1 (C.2.2.1.trans hl.1.symm) C.2.2.2.2.1 (C.2.2.2.2.2.1 _ mX12_even_0_9) (C.2.2.2.2.2.1 _ mX12_even_0_10) (C.2.2.2.2.2.1 _ mX12_even_0_7) (C.2.2.2.2.2.1 _ mX12_even_0_11) (Nat.le_of_ble_eq_true rfl) (Nat.le_of_ble_eq_true rfl) (Nat.zero_le _) (Nat.zero_le _) dX12_even_149 ?_
          refine lv_topi (fun v20 hv21 => ?_)
          replace h := lt_e hv21 h
          try dsimp only at h
          refine lv_istore_n (lv' := [(3, .int v20), (0, .ref (ad 0)), (4, .int z4)]) C.1 C.2.1 dX12_even_152 rfl hl (by decide) rfl (fun ls hl => ?_)
          replace hl := lv_sub (l' := [(0, .ref (ad 0)), (3, .int v20), (4, .int z4)]) hl [1, 0, 2] rfl
          exact wGX12_even_0_153 C hK hJ ih _ _ _ _ _ _ h hP hS hl
set_option maxHeartbeats 4000000 in
set_option maxRecDepth 100000 in
theorem wGX12_even_0_68 {p : Program} {l : Launch} {e : Env} {s : State} {m : MethodId} {args : Array Value} {below : List Frame} {meth : Method} {c : Code} {D : va_G} {cy : Nat → ClassId} {ad st : Nat → Nat} (C : Cx RX12 cX12_even 5 (some .int) wsX12_even p s m args meth c) (hK : Ky D [(cy 0, .int), (cy 1, .long), (cy 2, .boolean), (cy 3, .byte), (cy 4, .object "HissHorn$Text")] st s) (hJ : JM ad st) {r : Int32} {u' : SX} {k45 : Int32 → Int32 → SX → Option (Int32 × SX)} (hk45 : ∀ (z3 : Int32) (z4 : Int32) (u : SX) (H : Heap) (locs : List Loc) (ls : Array Slot), k45 z3 z4 u = some (r, u') → va_P D vwCl (VM cy ad st u) H → va_S (Ax (AM ad) s.heap.size) s.heap H locs → lv_has ls 5 [(0, .ref (ad 0)), (3, .int z3), (4, .int z4)] → W p l e rmX12_even_0 s m args below meth c H locs 0 0 (MQ below (Qi D (VM cy ad st) (AM ad) s.heap.size r u') args s 0 0 (Ax (AM ad) s.heap.size)) (F0 m 45 ls [])) (z4 : Int32) (y0 : Int32) (y1 : Int32) (u : SX) (H : Heap) (locs : List Loc) (ls : Array Slot) (h : GX12_even_0_68 k45 z4 y0 y1 u = some (r, u')) (hP : va_P D vwCl (VM cy ad st u) H) (hS : va_S (Ax (AM ad) s.heap.size) s.heap H locs) (hl : lv_has ls 5 [(0, .ref (ad 0)), (4, .int z4)]) : W p l e rmX12_even_0 s m args below meth c H locs 0 0 (MQ below (Qi D (VM cy ad st) (AM ad) s.heap.size r u') args s 0 0 (Ax (AM ad) s.heap.size)) (F0 m 68 ls [.int y0, .int y1]) := by
  unfold GX12_even_0_68 at h
  refine lv_iadd C.1 C.2.1 dX12_even_68 ?_
  refine lv_topi (fun v23 hv24 => ?_)
  replace h := lt_e hv24 h
  try dsimp only at h
  refine lv_istore_n (lv' := [(3, .int v23), (0, .ref (ad 0)), (4, .int z4)]) C.1 C.2.1 dX12_even_69 rfl hl (by decide) rfl (fun ls hl => ?_)
  replace hl := lv_sub (l' := [(0, .ref (ad 0)), (3, .int v23), (4, .int z4)]) hl [1, 0, 2] rfl
  refine lv_iinc (v := z4 + 1) (lv' := [(4, .int (z4 + 1)), (0, .ref (ad 0)), (3, .int v23)]) C.1 C.2.1 dX12_even_70 hl (k := 2) rfl rfl (by decide) rfl (fun ls hl => ?_)
  replace hl := lv_sub (l' := [(0, .ref (ad 0)), (3, .int v23), (4, .int (z4 + 1))]) hl [1, 2, 0] rfl
  refine lv_goto (tgt := 45) C.1 C.2.1 dX12_even_73 (by decide) ?_
  exact hk45 _ _ _ _ _ _ h hP hS hl
set_option maxHeartbeats 4000000 in
set_option maxRecDepth 100000 in
theorem wLX12_even_0_45 {p : Program} {l : Launch} {e : Env} {s : State} {m : MethodId} {args : Array Value} {below : List Frame} {meth : Method} {c : Code} {D : va_G} {cy : Nat → ClassId} {ad st : Nat → Nat} (C : Cx RX12 cX12_even 5 (some .int) wsX12_even p s m args meth c) (hK : Ky D [(cy 0, .int), (cy 1, .long), (cy 2, .boolean), (cy 3, .byte), (cy 4, .object "HissHorn$Text")] st s) (hJ : JM ad st) {r : Int32} {u' : SX} {k76 : Int32 → SX → Option (Int32 × SX)} (hk76 : ∀ (z3 : Int32) (u : SX) (H : Heap) (locs : List Loc) (ls : Array Slot), k76 z3 u = some (r, u') → va_P D vwCl (VM cy ad st u) H → va_S (Ax (AM ad) s.heap.size) s.heap H locs → lv_has ls 5 [(0, .ref (ad 0)), (3, .int z3)] → W p l e rmX12_even_0 s m args below meth c H locs 0 0 (MQ below (Qi D (VM cy ad st) (AM ad) s.heap.size r u') args s 0 0 (Ax (AM ad) s.heap.size)) (F0 m 76 ls [])) : ∀ (n : Nat) (z3 : Int32) (z4 : Int32) (u : SX) (H : Heap) (locs : List Loc) (ls : Array Slot), LX12_even_0_45 k76 n z3 z4 u = some (r, u') → va_P D vwCl (VM cy ad st u) H → va_S (Ax (AM ad) s.heap.size) s.heap H locs → lv_has ls 5 [(0, .ref (ad 0)), (3, .int z3), (4, .int z4)] → W p l e rmX12_even_0 s m args below meth c H locs 0 0 (MQ below (Qi D (VM cy ad st) (AM ad) s.heap.size r u') args s 0 0 (Ax (AM ad) s.heap.size)) (F0 m 45 ls []) := by
  intro n
  induction n with
  | zero =>
    intro z3 z4 u H locs ls h
    exact absurd h (by intro q; cases q)
  | succ n ih =>
    intro z3 z4 u H locs ls h hP hS hl
    rw [LX12_even_0_45] at h
    refine lv_iload C.1 C.2.1 dX12_even_45 (lv_at hl 2 rfl) ?_
    refine lv_bipush (v := 16) C.1 C.2.1 dX12_even_47 (by decide) ?_
    refine lv_icmp_ge (tgt := 76) C.1 C.2.1 dX12_even_49 (by decide) (fun c49 => ?_) (fun c49 => ?_)
    · rw [if_pos c49] at h
      exact hk76 _ _ _ _ _ h hP hS (lv_sub hl [0, 1] rfl)
    · rw [if_neg c49] at h
      refine lv_iload_n C.1 C.2.1 dX12_even_52 rfl (lv_at hl 1 rfl) ?_
      refine lv_aload_n C.1 C.2.1 dX12_even_53 rfl (lv_at hl 0 rfl) ?_
      refine gM_0_many C hX12_even_0_X12 hK hP mX12_even_0_4 dX12_even_54 ?_
      refine lv_iload C.1 C.2.1 dX12_even_57 (lv_at hl 2 rfl) ?_
      obtain ⟨hg22, h⟩ := gd_some h
      refine lM_23 C hK hP hg22 dX12_even_59 ?_
      refine lv_if_le (tgt := 67) C.1 C.2.1 dX12_even_60 (by decide) (fun c60 => ?_) (fun c60 => ?_)
      · rw [if_pos c60] at h
        refine lv_iconst (v := 0) C.1 C.2.1 dX12_even_67 (by decide) ?_
        exact wGX12_even_0_68 C hK hJ ih _ _ _ _ _ _ _ h hP hS (lv_sub hl [0, 2] rfl)
      · rw [if_neg c60] at h
        refine lv_iconst (v := 1) C.1 C.2.1 dX12_even_63 (by decide) ?_
        refine lv_goto (tgt := 68) C.1 C.2.1 dX12_even_64 (by decide) ?_
        exact wGX12_even_0_68 C hK hJ ih _ _ _ _ _ _ _ h hP hS (lv_sub hl [0, 2] rfl)
set_option maxHeartbeats 4000000 in
set_option maxRecDepth 100000 in
theorem wGX12_even_0_76 {p : Program} {l : Launch} {e : Env} {s : State} {m : MethodId} {args : Array Value} {below : List Frame} {meth : Method} {c : Code} {D : va_G} {cy : Nat → ClassId} {ad st : Nat → Nat} (C : Cx RX12 cX12_even 5 (some .int) wsX12_even p s m args meth c) (hK : Ky D [(cy 0, .int), (cy 1, .long), (cy 2, .boolean), (cy 3, .byte), (cy 4, .object "HissHorn$Text")] st s) (hJ : JM ad st) {r : Int32} {u' : SX}   (z3 : Int32) (u : SX) (H : Heap) (locs : List Loc) (ls : Array Slot) (h : GX12_even_0_76 z3 u = some (r, u')) (hP : va_P D vwCl (VM cy ad st u) H) (hS : va_S (Ax (AM ad) s.heap.size) s.heap H locs) (hl : lv_has ls 5 [(0, .ref (ad 0)), (3, .int z3)]) : W p l e rmX12_even_0 s m args below meth c H locs 0 0 (MQ below (Qi D (VM cy ad st) (AM ad) s.heap.size r u') args s 0 0 (Ax (AM ad) s.heap.size)) (F0 m 76 ls []) := by
  unfold GX12_even_0_76 at h
  refine lv_iload_n C.1 C.2.1 dX12_even_76 rfl (lv_at hl 1 rfl) ?_
  refine lv_iconst (v := 2) C.1 C.2.1 dX12_even_77 (by decide) ?_
  refine lv_icmp_ge (tgt := 87) C.1 C.2.1 dX12_even_78 (by decide) (fun c78 => ?_) (fun c78 => ?_)
  · rw [if_pos c78] at h
    refine lv_aload_n C.1 C.2.1 dX12_even_87 rfl (lv_at hl 0 rfl) ?_
    obtain ⟨⟨r25, u26⟩, hc27, h⟩ := bd_some h
    try dsimp only at h
    refine cg_i (As := []) (rest := []) (AM_ge hJ) C hK hP hS (metX12_apart_0 l D cy ad st hJ _  hc27) (cwV 0 C.2.2.2.2.2.1 gX12_even_X12_apart rfl rfl rfl (by decide +kernel) ⟨(Nat.le_of_ble_eq_true rfl), (Nat.le_of_ble_eq_true rfl)⟩) 0 12 rfl rfl rfl hl.1 rfl (Nat.le_of_ble_eq_true rfl) dX12_even_88 ⟨Nat.zero_le _, Nat.zero_le _⟩ (fun H locs hP hS => ?_)
    cases h
    exact rt_i C hP hS dX12_even_91
  · rw [if_neg c78] at h
    refine lv_ldcw C.1 C.2.1 C.2.2.2.2.1 (C.2.2.2.2.2.1 _ mX12_even_0_3) dX12_even_81 ?_
    refine lv_goto (tgt := 91) C.1 C.2.1 dX12_even_84 (by decide) ?_
    cases h
    exact rt_i C hP hS dX12_even_91
set_option maxHeartbeats 4000000 in
set_option maxRecDepth 100000 in
theorem wX12_even_0 {p : Program} {l : Launch} {e : Env} {s : State} {m : MethodId} {args : Array Value} {below : List Frame} {meth : Method} {c : Code} {D : va_G} {cy : Nat → ClassId} {ad st : Nat → Nat} (C : Cx RX12 cX12_even 5 (some .int) wsX12_even p s m args meth c) (hK : Ky D [(cy 0, .int), (cy 1, .long), (cy 2, .boolean), (cy 3, .byte), (cy 4, .object "HissHorn$Text")] st s) (hJ : JM ad st) (x1 : Int32) (x2 : Int32) {u : SX} {r : Int32} {u' : SX} {H : Heap} {locs : List Loc} {ls : Array Slot} (h : fX12_even_0 x1 x2 u = some (r, u')) (hP : va_P D vwCl (VM cy ad st u) H) (hS : va_S (Ax (AM ad) s.heap.size) s.heap H locs) (hl : lv_has ls 5 [(0, .ref (ad 0)), (1, .int x1), (2, .int x2)]) : W p l e rmX12_even_0 s m args below meth c H locs 0 0 (MQ below (Qi D (VM cy ad st) (AM ad) s.heap.size r u') args s 0 0 (Ax (AM ad) s.heap.size)) (F0 m 0 ls []) := by
  unfold fX12_even_0 at h
  refine lv_aload_n C.1 C.2.1 dX12_even_0 rfl (lv_at hl 0 rfl) ?_
  refine lv_iconst (v := 0) C.1 C.2.1 dX12_even_1 (by decide) ?_
  refine pM_0_thrown C hX12_even_0_X12 hK hP hJ hS mX12_even_0_1 dX12_even_2 (fun H locs hP hS => ?_)
  obtain ⟨u1, hu2, h⟩ := lt_some h
  rw [← hu2] at hP
  refine lv_iload_n C.1 C.2.1 dX12_even_5 rfl (lv_at hl 1 rfl) ?_
  refine lv_iconst (v := 0) C.1 C.2.1 dX12_even_6 (by decide) ?_
  refine lv_aload_n C.1 C.2.1 dX12_even_7 rfl (lv_at hl 0 rfl) ?_
  refine gM_0_now C hX12_even_0_X12 hK hP mX12_even_0_2 dX12_even_8 ?_
  obtain ⟨r3, hc5, h⟩ := bd_some h
  refine cs_i (As := [.int x1, .int 0, .int (u1.1 1)]) (rest := []) (AM_ge hJ) C hK hP hS (metX12_isIn l D cy st _ x1 0 (u1.1 1) hc5) (va_cwS 3 C.2.2.2.2.2.1 gX12_even_X12_isIn rfl rfl rfl (by decide +kernel) ⟨(Nat.le_of_ble_eq_true rfl), (Nat.le_of_ble_eq_true rfl)⟩) rfl hl.1 rfl (Nat.le_of_ble_eq_true rfl) dX12_even_11 ⟨Nat.zero_le _, Nat.zero_le _⟩ (fun H locs hP hS => ?_)
  refine lv_if_eq (tgt := 26) C.1 C.2.1 dX12_even_14 (by decide) (fun c14 => ?_) (fun c14 => ?_)
  · rw [if_pos c14] at h
    refine lv_ldcw C.1 C.2.1 C.2.2.2.2.1 (C.2.2.2.2.2.1 _ mX12_even_0_3) dX12_even_26 ?_
    cases h
    exact rt_i C hP hS dX12_even_29
  · rw [if_neg c14] at h
    refine lv_iload_n C.1 C.2.1 dX12_even_17 rfl (lv_at hl 2 rfl) ?_
    refine lv_iconst (v := 0) C.1 C.2.1 dX12_even_18 (by decide) ?_
    refine lv_iconst (v := 1) C.1 C.2.1 dX12_even_19 (by decide) ?_
    obtain ⟨r6, hc8, h⟩ := bd_some h
    refine cs_i (As := [.int x2, .int 0, .int 1]) (rest := []) (AM_ge hJ) C hK hP hS (metX12_isIn l D cy st _ x2 0 1 hc8) (va_cwS 3 C.2.2.2.2.2.1 gX12_even_X12_isIn rfl rfl rfl (by decide +kernel) ⟨(Nat.le_of_ble_eq_true rfl), (Nat.le_of_ble_eq_true rfl)⟩) rfl hl.1 rfl (Nat.le_of_ble_eq_true rfl) dX12_even_20 ⟨Nat.zero_le _, Nat.zero_le _⟩ (fun H locs hP hS => ?_)
    refine lv_if_ne (tgt := 30) C.1 C.2.1 dX12_even_23 (by decide) (fun c23 => ?_) (fun c23 => ?_)
    · rw [if_neg c23] at h
      refine lv_aload_n C.1 C.2.1 dX12_even_30 rfl (lv_at hl 0 rfl) ?_
      refine lv_iload_n C.1 C.2.1 dX12_even_31 rfl (lv_at hl 1 rfl) ?_
      refine lv_iconst (v := 0) C.1 C.2.1 dX12_even_32 (by decide) ?_
      obtain ⟨⟨r9, u10⟩, hc11, h⟩ := bd_some h
      try dsimp only at h
      refine cg_v (As := [.int x1, .int 0]) (rest := []) (AM_ge hJ) C hK hP hS (metX12_layMeans_0 l D cy ad st hJ _ x1 0 hc11) (cwV 2 C.2.2.2.2.2.1 gX12_even_X12_layMeans rfl rfl rfl (by decide +kernel) ⟨(Nat.le_of_ble_eq_true rfl), (Nat.le_of_ble_eq_true rfl)⟩) 0 12 rfl rfl rfl hl.1 rfl (Nat.le_of_ble_eq_true rfl) dX12_even_33 ⟨Nat.zero_le _, Nat.zero_le _⟩ (fun H locs hP hS => ?_)
      refine lv_iload_n C.1 C.2.1 dX12_even_36 rfl (lv_at hl 2 rfl) ?_
      refine lv_if_ne (tgt := 92) C.1 C.2.1 dX12_even_37 (by decide) (fun c37 => ?_) (fun c37 => ?_)
      · rw [if_neg c37] at h
        refine lv_ldcw C.1 C.2.1 C.2.2.2.2.1 (C.2.2.2.2.2.1 _ mX12_even_0_3) dX12_even_92 ?_
        refine lv_istore_n (lv' := [(3, .int (-100000000)), (0, .ref (ad 0)), (1, .int x1), (2, .int x2)]) C.1 C.2.1 dX12_even_95 rfl hl (by decide) rfl (fun ls hl => ?_)
        replace hl := lv_sub (l' := [(0, .ref (ad 0)), (1, .int x1), (2, .int x2), (3, .int (-100000000))]) hl [1, 2, 3, 0] rfl
        refine lv_iconst (v := 0) C.1 C.2.1 dX12_even_96 (by decide) ?_
        refine lv_istore (lv' := [(4, .int 0), (0, .ref (ad 0)), (1, .int x1), (2, .int x2), (3, .int (-100000000))]) C.1 C.2.1 dX12_even_97 hl (by decide) rfl (fun ls hl => ?_)
        replace hl := lv_sub (l' := [(0, .ref (ad 0)), (1, .int x1), (2, .int x2), (3, .int (-100000000)), (4, .int 0)]) hl [1, 2, 3, 4, 0] rfl
        exact wLX12_even_0_99 C hK hJ  5000 _ _ _ _ _ _ h hP hS (lv_sub hl [0, 3, 4] rfl)
      · rw [if_pos c37] at h
        refine lv_iconst (v := 0) C.1 C.2.1 dX12_even_40 (by decide) ?_
        refine lv_istore_n (lv' := [(3, .int 0), (0, .ref (ad 0)), (1, .int x1), (2, .int x2)]) C.1 C.2.1 dX12_even_41 rfl hl (by decide) rfl (fun ls hl => ?_)
        replace hl := lv_sub (l' := [(0, .ref (ad 0)), (1, .int x1), (2, .int x2), (3, .int 0)]) hl [1, 2, 3, 0] rfl
        refine lv_iconst (v := 0) C.1 C.2.1 dX12_even_42 (by decide) ?_
        refine lv_istore (lv' := [(4, .int 0), (0, .ref (ad 0)), (1, .int x1), (2, .int x2), (3, .int 0)]) C.1 C.2.1 dX12_even_43 hl (by decide) rfl (fun ls hl => ?_)
        replace hl := lv_sub (l' := [(0, .ref (ad 0)), (1, .int x1), (2, .int x2), (3, .int 0), (4, .int 0)]) hl [1, 2, 3, 4, 0] rfl
        exact wLX12_even_0_45 C hK hJ (wGX12_even_0_76 C hK hJ ) 5000 _ _ _ _ _ _ h hP hS (lv_sub hl [0, 3, 4] rfl)
    · rw [if_pos c23] at h
      refine lv_ldcw C.1 C.2.1 C.2.2.2.2.1 (C.2.2.2.2.2.1 _ mX12_even_0_3) dX12_even_26 ?_
      cases h
      exact rt_i C hP hS dX12_even_29
theorem metX12_even_0 (l : Launch) (D : va_G) (cy : Nat → ClassId) (ad st : Nat → Nat) (hJ : JM ad st) (sz : Nat) (x1 : Int32) (x2 : Int32) {u : SX} {r : Int32} {u' : SX} (h : fX12_even_0 x1 x2 u = some (r, u')) : Met l yX12_even wsX12_even rmX12_even_0 (va_Pc [.ref (ad 0), .int x1, .int x2] (Px D [(cy 0, .int), (cy 1, .long), (cy 2, .boolean), (cy 3, .byte), (cy 4, .object "HissHorn$Text")] st (VM cy ad st) sz u)) (Qi D (VM cy ad st) (AM ad) sz r u') 0 0 (Ax (AM ad) sz) := by
  refine Met.ofW (cc := cX12_even) (maxL := 5) (ret := (some .int)) (by decide) rfl ?_
  intro p e s m args below meth c s₁ B hml hv
  obtain ⟨rfl, hsz, hP, hK⟩ := hv
  subst hsz
  have C : Cx RX12 cX12_even 5 (some .int) wsX12_even p s m _ meth c := ⟨B.exec, B.bytes, hml, B.returns, findClass_of_methodNamed B.named, atoms_spec (ws := wsX12_even) B.pre, B.notSynchronized⟩
  have hl := lv_entry ([.ref (ad 0), .int x1, .int x2]) (n := 5) (Nat.le_of_ble_eq_true rfl)
  rw [lg_entry_eq]
  exact wX12_even_0 C hK hJ x1 x2 h hP va_S.rf hl

theorem zdX12_could_54 : (and (and (and (and (and (zk cX12_could 54 (.iload 6) 2) (zk cX12_could 56 (.sipush 400) 3)) (and (zk cX12_could 59 (.if_icmp .gt 17) 3) (zk cX12_could 62 (.aload_n 0) 1))) (and (and (zk cX12_could 63 (.getfield 90) 3) (zk cX12_could 66 (.iload 6) 2)) (and (zk cX12_could 68 (.iconst 1) 1) (zk cX12_could 69 (.bastore) 1)))) (and (and (and (zk cX12_could 70 (.iinc 6 1) 3) (zk cX12_could 73 (.goto (-19)) 3)) (and (zk cX12_could 197 (.bastore) 1) (zk cX12_could 198 (.iinc 9 1) 3))) (and (and (zk cX12_could 201 (.goto (-65)) 3) (zk cX12_could 196 (.iconst 0) 1)) (and (zk cX12_could 136 (.iload 9) 2) (zk cX12_could 138 (.sipush 400) 3))))) (and (and (and (and (zk cX12_could 141 (.if_icmp .gt 63) 3) (zk cX12_could 144 (.aload_n 0) 1)) (and (zk cX12_could 145 (.getfield 90) 3) (zk cX12_could 148 (.iload 9) 2))) (and (and (zk cX12_could 150 (.aload_n 0) 1) (zk cX12_could 151 (.getfield 90) 3)) (and (zk cX12_could 154 (.iload 9) 2) (zk cX12_could 156 (.baload) 1)))) (and (and (and (zk cX12_could 157 (.ifCond .eq 39) 3) (zk cX12_could 160 (.iload 9) 2)) (and (zk cX12_could 162 (.aload_n 0) 1) (zk cX12_could 163 (.getfield 71) 3))) (and (and (zk cX12_could 166 (.iload_n 1) 1) (zk cX12_could 167 (.iaload) 1)) (and (zk cX12_could 168 (.invokestatic 323) 3) (zk cX12_could 171 (.iload 7) 2)))))) = true := by decide +kernel
theorem dX12_could_54 : decode cX12_could 54 = .ok (.iload 6, 2) := zk_of (zk_l (zk_l (zk_l (zk_l (zk_l zdX12_could_54)))))
theorem dX12_could_56 : decode cX12_could 56 = .ok (.sipush 400, 3) := zk_of (zk_r (zk_l (zk_l (zk_l (zk_l zdX12_could_54)))))
theorem dX12_could_59 : decode cX12_could 59 = .ok (.if_icmp .gt 17, 3) := zk_of (zk_l (zk_r (zk_l (zk_l (zk_l zdX12_could_54)))))
theorem dX12_could_62 : decode cX12_could 62 = .ok (.aload_n 0, 1) := zk_of (zk_r (zk_r (zk_l (zk_l (zk_l zdX12_could_54)))))
theorem dX12_could_63 : decode cX12_could 63 = .ok (.getfield 90, 3) := zk_of (zk_l (zk_l (zk_r (zk_l (zk_l zdX12_could_54)))))
theorem dX12_could_66 : decode cX12_could 66 = .ok (.iload 6, 2) := zk_of (zk_r (zk_l (zk_r (zk_l (zk_l zdX12_could_54)))))
theorem dX12_could_68 : decode cX12_could 68 = .ok (.iconst 1, 1) := zk_of (zk_l (zk_r (zk_r (zk_l (zk_l zdX12_could_54)))))
theorem dX12_could_69 : decode cX12_could 69 = .ok (.bastore, 1) := zk_of (zk_r (zk_r (zk_r (zk_l (zk_l zdX12_could_54)))))
theorem dX12_could_70 : decode cX12_could 70 = .ok (.iinc 6 1, 3) := zk_of (zk_l (zk_l (zk_l (zk_r (zk_l zdX12_could_54)))))
theorem dX12_could_73 : decode cX12_could 73 = .ok (.goto (-19), 3) := zk_of (zk_r (zk_l (zk_l (zk_r (zk_l zdX12_could_54)))))
theorem dX12_could_197 : decode cX12_could 197 = .ok (.bastore, 1) := zk_of (zk_l (zk_r (zk_l (zk_r (zk_l zdX12_could_54)))))
theorem dX12_could_198 : decode cX12_could 198 = .ok (.iinc 9 1, 3) := zk_of (zk_r (zk_r (zk_l (zk_r (zk_l zdX12_could_54)))))
theorem dX12_could_201 : decode cX12_could 201 = .ok (.goto (-65), 3) := zk_of (zk_l (zk_l (zk_r (zk_r (zk_l zdX12_could_54)))))
theorem dX12_could_196 : decode cX12_could 196 = .ok (.iconst 0, 1) := zk_of (zk_r (zk_l (zk_r (zk_r (zk_l zdX12_could_54)))))
theorem dX12_could_136 : decode cX12_could 136 = .ok (.iload 9, 2) := zk_of (zk_l (zk_r (zk_r (zk_r (zk_l zdX12_could_54)))))
theorem dX12_could_138 : decode cX12_could 138 = .ok (.sipush 400, 3) := zk_of (zk_r (zk_r (zk_r (zk_r (zk_l zdX12_could_54)))))
theorem dX12_could_141 : decode cX12_could 141 = .ok (.if_icmp .gt 63, 3) := zk_of (zk_l (zk_l (zk_l (zk_l (zk_r zdX12_could_54)))))
theorem dX12_could_144 : decode cX12_could 144 = .ok (.aload_n 0, 1) := zk_of (zk_r (zk_l (zk_l (zk_l (zk_r zdX12_could_54)))))
theorem dX12_could_145 : decode cX12_could 145 = .ok (.getfield 90, 3) := zk_of (zk_l (zk_r (zk_l (zk_l (zk_r zdX12_could_54)))))
theorem dX12_could_148 : decode cX12_could 148 = .ok (.iload 9, 2) := zk_of (zk_r (zk_r (zk_l (zk_l (zk_r zdX12_could_54)))))
theorem dX12_could_150 : decode cX12_could 150 = .ok (.aload_n 0, 1) := zk_of (zk_l (zk_l (zk_r (zk_l (zk_r zdX12_could_54)))))
theorem dX12_could_151 : decode cX12_could 151 = .ok (.getfield 90, 3) := zk_of (zk_r (zk_l (zk_r (zk_l (zk_r zdX12_could_54)))))
theorem dX12_could_154 : decode cX12_could 154 = .ok (.iload 9, 2) := zk_of (zk_l (zk_r (zk_r (zk_l (zk_r zdX12_could_54)))))
theorem dX12_could_156 : decode cX12_could 156 = .ok (.baload, 1) := zk_of (zk_r (zk_r (zk_r (zk_l (zk_r zdX12_could_54)))))
theorem dX12_could_157 : decode cX12_could 157 = .ok (.ifCond .eq 39, 3) := zk_of (zk_l (zk_l (zk_l (zk_r (zk_r zdX12_could_54)))))
theorem dX12_could_160 : decode cX12_could 160 = .ok (.iload 9, 2) := zk_of (zk_r (zk_l (zk_l (zk_r (zk_r zdX12_could_54)))))
theorem dX12_could_162 : decode cX12_could 162 = .ok (.aload_n 0, 1) := zk_of (zk_l (zk_r (zk_l (zk_r (zk_r zdX12_could_54)))))
theorem dX12_could_163 : decode cX12_could 163 = .ok (.getfield 71, 3) := zk_of (zk_r (zk_r (zk_l (zk_r (zk_r zdX12_could_54)))))
theorem dX12_could_166 : decode cX12_could 166 = .ok (.iload_n 1, 1) := zk_of (zk_l (zk_l (zk_r (zk_r (zk_r zdX12_could_54)))))
theorem dX12_could_167 : decode cX12_could 167 = .ok (.iaload, 1) := zk_of (zk_r (zk_l (zk_r (zk_r (zk_r zdX12_could_54)))))
theorem dX12_could_168 : decode cX12_could 168 = .ok (.invokestatic 323, 3) := zk_of (zk_l (zk_r (zk_r (zk_r (zk_r zdX12_could_54)))))
theorem dX12_could_171 : decode cX12_could 171 = .ok (.iload 7, 2) := zk_of (zk_r (zk_r (zk_r (zk_r (zk_r zdX12_could_54)))))
set_option maxRecDepth 20000 in
theorem ggX12_could_X12_shines : GoodIn wsX12_could wsX12_shines := ggi (fun w h => List.mem_cons_of_mem _ (List.mem_append_left _ (List.mem_append_right _ (List.mem_append_left _ h)))) gs_X12_shines
set_option maxRecDepth 20000 in
theorem gX12_could_X12_shines : GoodIn wsX12_could (va_wsS RX12 323 yX12_shines wsX12_shines) := goodIn_app (goodIn_of _ (by decide +kernel)) ggX12_could_X12_shines
theorem zdX12_could_173 : (and (and (and (and (and (zk cX12_could 173 (.if_icmp .lt 23) 3) (zk cX12_could 176 (.iload 9) 2)) (and (zk cX12_could 178 (.aload_n 0) 1) (zk cX12_could 179 (.getfield 71) 3))) (and (and (zk cX12_could 182 (.iload_n 1) 1) (zk cX12_could 183 (.iaload) 1)) (and (zk cX12_could 184 (.invokestatic 323) 3) (zk cX12_could 187 (.iload 8) 2)))) (and (and (and (zk cX12_could 189 (.if_icmp .gt 7) 3) (zk cX12_could 192 (.iconst 1) 1)) (and (zk cX12_could 193 (.goto 4) 3) (zk cX12_could 204 (.iinc 6 1) 3))) (and (and (zk cX12_could 207 (.goto (-128)) 3) (zk cX12_could 79 (.iload 6) 2)) (and (zk cX12_could 81 (.aload_n 0) 1) (zk cX12_could 82 (.getfield 335) 3))))) (and (and (and (and (zk cX12_could 85 (.if_icmp .ge 125) 3) (zk cX12_could 88 (.aload_n 0) 1)) (and (zk cX12_could 89 (.getfield 80) 3) (zk cX12_could 92 (.iload 6) 2))) (and (and (zk cX12_could 94 (.iaload) 1) (zk cX12_could 95 (.iload_n 2) 1)) (and (zk cX12_could 96 (.if_icmp .le 6) 3) (zk cX12_could 102 (.aload_n 0) 1)))) (and (and (and (zk cX12_could 103 (.iload 6) 2) (zk cX12_could 105 (.iload_n 2) 1)) (and (zk cX12_could 106 (.invokevirtual 361) 3) (zk cX12_could 109 (.aload_n 0) 1))) (and (and (zk cX12_could 110 (.getfield 346) 3) (zk cX12_could 113 (.aload_n 0) 1)) (and (zk cX12_could 114 (.iload_n 1) 1) (zk cX12_could 115 (.invokevirtual 352) 3)))))) = true := by decide +kernel
theorem dX12_could_173 : decode cX12_could 173 = .ok (.if_icmp .lt 23, 3) := zk_of (zk_l (zk_l (zk_l (zk_l (zk_l zdX12_could_173)))))
theorem dX12_could_176 : decode cX12_could 176 = .ok (.iload 9, 2) := zk_of (zk_r (zk_l (zk_l (zk_l (zk_l zdX12_could_173)))))
theorem dX12_could_178 : decode cX12_could 178 = .ok (.aload_n 0, 1) := zk_of (zk_l (zk_r (zk_l (zk_l (zk_l zdX12_could_173)))))
theorem dX12_could_179 : decode cX12_could 179 = .ok (.getfield 71, 3) := zk_of (zk_r (zk_r (zk_l (zk_l (zk_l zdX12_could_173)))))
theorem dX12_could_182 : decode cX12_could 182 = .ok (.iload_n 1, 1) := zk_of (zk_l (zk_l (zk_r (zk_l (zk_l zdX12_could_173)))))
theorem dX12_could_183 : decode cX12_could 183 = .ok (.iaload, 1) := zk_of (zk_r (zk_l (zk_r (zk_l (zk_l zdX12_could_173)))))
theorem dX12_could_184 : decode cX12_could 184 = .ok (.invokestatic 323, 3) := zk_of (zk_l (zk_r (zk_r (zk_l (zk_l zdX12_could_173)))))
theorem dX12_could_187 : decode cX12_could 187 = .ok (.iload 8, 2) := zk_of (zk_r (zk_r (zk_r (zk_l (zk_l zdX12_could_173)))))
theorem dX12_could_189 : decode cX12_could 189 = .ok (.if_icmp .gt 7, 3) := zk_of (zk_l (zk_l (zk_l (zk_r (zk_l zdX12_could_173)))))
theorem dX12_could_192 : decode cX12_could 192 = .ok (.iconst 1, 1) := zk_of (zk_r (zk_l (zk_l (zk_r (zk_l zdX12_could_173)))))
theorem dX12_could_193 : decode cX12_could 193 = .ok (.goto 4, 3) := zk_of (zk_l (zk_r (zk_l (zk_r (zk_l zdX12_could_173)))))
theorem dX12_could_204 : decode cX12_could 204 = .ok (.iinc 6 1, 3) := zk_of (zk_r (zk_r (zk_l (zk_r (zk_l zdX12_could_173)))))
theorem dX12_could_207 : decode cX12_could 207 = .ok (.goto (-128), 3) := zk_of (zk_l (zk_l (zk_r (zk_r (zk_l zdX12_could_173)))))
theorem dX12_could_79 : decode cX12_could 79 = .ok (.iload 6, 2) := zk_of (zk_r (zk_l (zk_r (zk_r (zk_l zdX12_could_173)))))
theorem dX12_could_81 : decode cX12_could 81 = .ok (.aload_n 0, 1) := zk_of (zk_l (zk_r (zk_r (zk_r (zk_l zdX12_could_173)))))
theorem dX12_could_82 : decode cX12_could 82 = .ok (.getfield 335, 3) := zk_of (zk_r (zk_r (zk_r (zk_r (zk_l zdX12_could_173)))))
theorem dX12_could_85 : decode cX12_could 85 = .ok (.if_icmp .ge 125, 3) := zk_of (zk_l (zk_l (zk_l (zk_l (zk_r zdX12_could_173)))))
theorem dX12_could_88 : decode cX12_could 88 = .ok (.aload_n 0, 1) := zk_of (zk_r (zk_l (zk_l (zk_l (zk_r zdX12_could_173)))))
theorem dX12_could_89 : decode cX12_could 89 = .ok (.getfield 80, 3) := zk_of (zk_l (zk_r (zk_l (zk_l (zk_r zdX12_could_173)))))
theorem dX12_could_92 : decode cX12_could 92 = .ok (.iload 6, 2) := zk_of (zk_r (zk_r (zk_l (zk_l (zk_r zdX12_could_173)))))
theorem dX12_could_94 : decode cX12_could 94 = .ok (.iaload, 1) := zk_of (zk_l (zk_l (zk_r (zk_l (zk_r zdX12_could_173)))))
theorem dX12_could_95 : decode cX12_could 95 = .ok (.iload_n 2, 1) := zk_of (zk_r (zk_l (zk_r (zk_l (zk_r zdX12_could_173)))))
theorem dX12_could_96 : decode cX12_could 96 = .ok (.if_icmp .le 6, 3) := zk_of (zk_l (zk_r (zk_r (zk_l (zk_r zdX12_could_173)))))
theorem dX12_could_102 : decode cX12_could 102 = .ok (.aload_n 0, 1) := zk_of (zk_r (zk_r (zk_r (zk_l (zk_r zdX12_could_173)))))
theorem dX12_could_103 : decode cX12_could 103 = .ok (.iload 6, 2) := zk_of (zk_l (zk_l (zk_l (zk_r (zk_r zdX12_could_173)))))
theorem dX12_could_105 : decode cX12_could 105 = .ok (.iload_n 2, 1) := zk_of (zk_r (zk_l (zk_l (zk_r (zk_r zdX12_could_173)))))
theorem dX12_could_106 : decode cX12_could 106 = .ok (.invokevirtual 361, 3) := zk_of (zk_l (zk_r (zk_l (zk_r (zk_r zdX12_could_173)))))
theorem dX12_could_109 : decode cX12_could 109 = .ok (.aload_n 0, 1) := zk_of (zk_r (zk_r (zk_l (zk_r (zk_r zdX12_could_173)))))
theorem dX12_could_110 : decode cX12_could 110 = .ok (.getfield 346, 3) := zk_of (zk_l (zk_l (zk_r (zk_r (zk_r zdX12_could_173)))))
theorem dX12_could_113 : decode cX12_could 113 = .ok (.aload_n 0, 1) := zk_of (zk_r (zk_l (zk_r (zk_r (zk_r zdX12_could_173)))))
theorem dX12_could_114 : decode cX12_could 114 = .ok (.iload_n 1, 1) := zk_of (zk_l (zk_r (zk_r (zk_r (zk_r zdX12_could_173)))))
theorem dX12_could_115 : decode cX12_could 115 = .ok (.invokevirtual 352, 3) := zk_of (zk_r (zk_r (zk_r (zk_r (zk_r zdX12_could_173)))))
set_option maxRecDepth 20000 in
theorem ggX12_could_X12_layLeft : GoodIn wsX12_could wsX12_layLeft := ggi (fun w h => List.mem_cons_of_mem _ (List.mem_append_left _ (List.mem_append_right _ (List.mem_append_right _ (List.mem_append_left _ h))))) gs_X12_layLeft
set_option maxRecDepth 20000 in
theorem gX12_could_X12_layLeft : GoodIn wsX12_could (wsV RX12 361 RX12 yX12_layLeft wsX12_layLeft) := goodIn_app (goodIn_of _ (by decide +kernel)) ggX12_could_X12_layLeft
set_option maxRecDepth 20000 in
theorem ggX12_could_X12_most : GoodIn wsX12_could wsX12_most := ggi (fun w h => List.mem_cons_of_mem _ (List.mem_append_left _ (List.mem_append_right _ (List.mem_append_right _ (List.mem_append_right _ (List.mem_append_left _ h)))))) gs_X12_most
set_option maxRecDepth 20000 in
theorem gX12_could_X12_most : GoodIn wsX12_could (wsV RX12 352 RX12 yX12_most wsX12_most) := goodIn_app (goodIn_of _ (by decide +kernel)) ggX12_could_X12_most
theorem zdX12_could_118 : (and (and (and (and (and (zk cX12_could 118 (.iadd) 1) (zk cX12_could 119 (.istore 7) 2)) (and (zk cX12_could 121 (.aload_n 0) 1) (zk cX12_could 122 (.getfield 349) 3))) (and (and (zk cX12_could 125 (.aload_n 0) 1) (zk cX12_could 126 (.iload_n 1) 1)) (and (zk cX12_could 127 (.invokevirtual 355) 3) (zk cX12_could 130 (.iadd) 1)))) (and (and (and (zk cX12_could 131 (.istore 8) 2) (zk cX12_could 133 (.iconst 0) 1)) (and (zk cX12_could 134 (.istore 9) 2) (zk cX12_could 99 (.goto 105) 3))) (and (and (zk cX12_could 210 (.iload 4) 2) (zk cX12_could 212 (.sipush 400) 3)) (and (zk cX12_could 215 (.if_icmp .gt 19) 3) (zk cX12_could 218 (.aload_n 0) 1))))) (and (and (and (and (zk cX12_could 219 (.getfield 90) 3) (zk cX12_could 222 (.iload 4) 2)) (and (zk cX12_could 224 (.baload) 1) (zk cX12_could 225 (.ifCond .ne 9) 3))) (and (and (zk cX12_could 228 (.iinc 4 1) 3) (zk cX12_could 231 (.goto (-21)) 3)) (and (zk cX12_could 234 (.iload 5) 2) (zk cX12_could 236 (.ifCond .lt 19) 3)))) (and (and (and (zk cX12_could 239 (.aload_n 0) 1) (zk cX12_could 240 (.getfield 90) 3)) (and (zk cX12_could 243 (.iload 5) 2) (zk cX12_could 245 (.baload) 1))) (and (and (zk cX12_could 246 (.ifCond .ne 9) 3) (zk cX12_could 249 (.iinc 5 (-1)) 3)) (and (zk cX12_could 252 (.goto (-18)) 3) (zk cX12_could 255 (.iload 4) 2)))))) = true := by decide +kernel
theorem dX12_could_118 : decode cX12_could 118 = .ok (.iadd, 1) := zk_of (zk_l (zk_l (zk_l (zk_l (zk_l zdX12_could_118)))))
theorem dX12_could_119 : decode cX12_could 119 = .ok (.istore 7, 2) := zk_of (zk_r (zk_l (zk_l (zk_l (zk_l zdX12_could_118)))))
theorem dX12_could_121 : decode cX12_could 121 = .ok (.aload_n 0, 1) := zk_of (zk_l (zk_r (zk_l (zk_l (zk_l zdX12_could_118)))))
theorem dX12_could_122 : decode cX12_could 122 = .ok (.getfield 349, 3) := zk_of (zk_r (zk_r (zk_l (zk_l (zk_l zdX12_could_118)))))
theorem dX12_could_125 : decode cX12_could 125 = .ok (.aload_n 0, 1) := zk_of (zk_l (zk_l (zk_r (zk_l (zk_l zdX12_could_118)))))
theorem dX12_could_126 : decode cX12_could 126 = .ok (.iload_n 1, 1) := zk_of (zk_r (zk_l (zk_r (zk_l (zk_l zdX12_could_118)))))
theorem dX12_could_127 : decode cX12_could 127 = .ok (.invokevirtual 355, 3) := zk_of (zk_l (zk_r (zk_r (zk_l (zk_l zdX12_could_118)))))
theorem dX12_could_130 : decode cX12_could 130 = .ok (.iadd, 1) := zk_of (zk_r (zk_r (zk_r (zk_l (zk_l zdX12_could_118)))))
theorem dX12_could_131 : decode cX12_could 131 = .ok (.istore 8, 2) := zk_of (zk_l (zk_l (zk_l (zk_r (zk_l zdX12_could_118)))))
theorem dX12_could_133 : decode cX12_could 133 = .ok (.iconst 0, 1) := zk_of (zk_r (zk_l (zk_l (zk_r (zk_l zdX12_could_118)))))
theorem dX12_could_134 : decode cX12_could 134 = .ok (.istore 9, 2) := zk_of (zk_l (zk_r (zk_l (zk_r (zk_l zdX12_could_118)))))
theorem dX12_could_99 : decode cX12_could 99 = .ok (.goto 105, 3) := zk_of (zk_r (zk_r (zk_l (zk_r (zk_l zdX12_could_118)))))
theorem dX12_could_210 : decode cX12_could 210 = .ok (.iload 4, 2) := zk_of (zk_l (zk_l (zk_r (zk_r (zk_l zdX12_could_118)))))
theorem dX12_could_212 : decode cX12_could 212 = .ok (.sipush 400, 3) := zk_of (zk_r (zk_l (zk_r (zk_r (zk_l zdX12_could_118)))))
theorem dX12_could_215 : decode cX12_could 215 = .ok (.if_icmp .gt 19, 3) := zk_of (zk_l (zk_r (zk_r (zk_r (zk_l zdX12_could_118)))))
theorem dX12_could_218 : decode cX12_could 218 = .ok (.aload_n 0, 1) := zk_of (zk_r (zk_r (zk_r (zk_r (zk_l zdX12_could_118)))))
theorem dX12_could_219 : decode cX12_could 219 = .ok (.getfield 90, 3) := zk_of (zk_l (zk_l (zk_l (zk_l (zk_r zdX12_could_118)))))
theorem dX12_could_222 : decode cX12_could 222 = .ok (.iload 4, 2) := zk_of (zk_r (zk_l (zk_l (zk_l (zk_r zdX12_could_118)))))
theorem dX12_could_224 : decode cX12_could 224 = .ok (.baload, 1) := zk_of (zk_l (zk_r (zk_l (zk_l (zk_r zdX12_could_118)))))
theorem dX12_could_225 : decode cX12_could 225 = .ok (.ifCond .ne 9, 3) := zk_of (zk_r (zk_r (zk_l (zk_l (zk_r zdX12_could_118)))))
theorem dX12_could_228 : decode cX12_could 228 = .ok (.iinc 4 1, 3) := zk_of (zk_l (zk_l (zk_r (zk_l (zk_r zdX12_could_118)))))
theorem dX12_could_231 : decode cX12_could 231 = .ok (.goto (-21), 3) := zk_of (zk_r (zk_l (zk_r (zk_l (zk_r zdX12_could_118)))))
theorem dX12_could_234 : decode cX12_could 234 = .ok (.iload 5, 2) := zk_of (zk_l (zk_r (zk_r (zk_l (zk_r zdX12_could_118)))))
theorem dX12_could_236 : decode cX12_could 236 = .ok (.ifCond .lt 19, 3) := zk_of (zk_r (zk_r (zk_r (zk_l (zk_r zdX12_could_118)))))
theorem dX12_could_239 : decode cX12_could 239 = .ok (.aload_n 0, 1) := zk_of (zk_l (zk_l (zk_l (zk_r (zk_r zdX12_could_118)))))
theorem dX12_could_240 : decode cX12_could 240 = .ok (.getfield 90, 3) := zk_of (zk_r (zk_l (zk_l (zk_r (zk_r zdX12_could_118)))))
theorem dX12_could_243 : decode cX12_could 243 = .ok (.iload 5, 2) := zk_of (zk_l (zk_r (zk_l (zk_r (zk_r zdX12_could_118)))))
theorem dX12_could_245 : decode cX12_could 245 = .ok (.baload, 1) := zk_of (zk_r (zk_r (zk_l (zk_r (zk_r zdX12_could_118)))))
theorem dX12_could_246 : decode cX12_could 246 = .ok (.ifCond .ne 9, 3) := zk_of (zk_l (zk_l (zk_r (zk_r (zk_r zdX12_could_118)))))
theorem dX12_could_249 : decode cX12_could 249 = .ok (.iinc 5 (-1), 3) := zk_of (zk_r (zk_l (zk_r (zk_r (zk_r zdX12_could_118)))))
theorem dX12_could_252 : decode cX12_could 252 = .ok (.goto (-18), 3) := zk_of (zk_l (zk_r (zk_r (zk_r (zk_r zdX12_could_118)))))
theorem dX12_could_255 : decode cX12_could 255 = .ok (.iload 4, 2) := zk_of (zk_r (zk_r (zk_r (zk_r (zk_r zdX12_could_118)))))
set_option maxRecDepth 20000 in
theorem ggX12_could_X12_least : GoodIn wsX12_could wsX12_least := ggi (fun w h => List.mem_cons_of_mem _ (List.mem_append_left _ (List.mem_append_right _ (List.mem_append_right _ (List.mem_append_right _ (List.mem_append_right _ (List.mem_append_left _ h))))))) gs_X12_least
set_option maxRecDepth 20000 in
theorem gX12_could_X12_least : GoodIn wsX12_could (wsV RX12 355 RX12 yX12_least wsX12_least) := goodIn_app (goodIn_of _ (by decide +kernel)) ggX12_could_X12_least
theorem zdX12_could_257 : (and (and (and (and (and (zk cX12_could 257 (.sipush 400) 3) (zk cX12_could 260 (.if_icmp .le 7) 3)) (and (zk cX12_could 267 (.iload_n 3) 1) (zk cX12_could 268 (.ifCond .ne 8) 3))) (and (and (zk cX12_could 276 (.iload 5) 2) (zk cX12_could 278 (.ireturn) 1)) (and (zk cX12_could 271 (.iload 4) 2) (zk cX12_could 273 (.goto 5) 3)))) (and (and (and (zk cX12_could 263 (.iconst (-1)) 1) (zk cX12_could 264 (.goto 14) 3)) (and (zk cX12_could 76 (.iconst 0) 1) (zk cX12_could 77 (.istore 6) 2))) (and (and (zk cX12_could 0 (.aload_n 0) 1) (zk cX12_could 1 (.iconst 0) 1)) (and (zk cX12_could 2 (.putfield 151) 3) (zk cX12_could 5 (.aload_n 0) 1))))) (and (and (and (and (zk cX12_could 6 (.iload_n 1) 1) (zk cX12_could 7 (.invokevirtual 307) 3)) (and (zk cX12_could 10 (.ifCond .eq 26) 3) (zk cX12_could 36 (.iconst (-1)) 1))) (and (and (zk cX12_could 37 (.ireturn) 1) (zk cX12_could 13 (.aload_n 0) 1)) (and (zk cX12_could 14 (.aload_n 0) 1) (zk cX12_could 15 (.getfield 47) 3)))) (and (and (and (zk cX12_could 18 (.iload_n 1) 1) (zk cX12_could 19 (.iaload) 1)) (and (zk cX12_could 20 (.iload_n 2) 1) (zk cX12_could 21 (.invokevirtual 310) 3))) (and (and (zk cX12_could 24 (.ifCond .eq 12) 3) (zk cX12_could 27 (.iload_n 3) 1)) (and (zk cX12_could 28 (.iconst 0) 1) (zk cX12_could 29 (.iconst 1) 1)))))) = true := by decide +kernel
theorem dX12_could_257 : decode cX12_could 257 = .ok (.sipush 400, 3) := zk_of (zk_l (zk_l (zk_l (zk_l (zk_l zdX12_could_257)))))
theorem dX12_could_260 : decode cX12_could 260 = .ok (.if_icmp .le 7, 3) := zk_of (zk_r (zk_l (zk_l (zk_l (zk_l zdX12_could_257)))))
theorem dX12_could_267 : decode cX12_could 267 = .ok (.iload_n 3, 1) := zk_of (zk_l (zk_r (zk_l (zk_l (zk_l zdX12_could_257)))))
theorem dX12_could_268 : decode cX12_could 268 = .ok (.ifCond .ne 8, 3) := zk_of (zk_r (zk_r (zk_l (zk_l (zk_l zdX12_could_257)))))
theorem dX12_could_276 : decode cX12_could 276 = .ok (.iload 5, 2) := zk_of (zk_l (zk_l (zk_r (zk_l (zk_l zdX12_could_257)))))
theorem dX12_could_278 : decode cX12_could 278 = .ok (.ireturn, 1) := zk_of (zk_r (zk_l (zk_r (zk_l (zk_l zdX12_could_257)))))
theorem dX12_could_271 : decode cX12_could 271 = .ok (.iload 4, 2) := zk_of (zk_l (zk_r (zk_r (zk_l (zk_l zdX12_could_257)))))
theorem dX12_could_273 : decode cX12_could 273 = .ok (.goto 5, 3) := zk_of (zk_r (zk_r (zk_r (zk_l (zk_l zdX12_could_257)))))
theorem dX12_could_263 : decode cX12_could 263 = .ok (.iconst (-1), 1) := zk_of (zk_l (zk_l (zk_l (zk_r (zk_l zdX12_could_257)))))
theorem dX12_could_264 : decode cX12_could 264 = .ok (.goto 14, 3) := zk_of (zk_r (zk_l (zk_l (zk_r (zk_l zdX12_could_257)))))
theorem dX12_could_76 : decode cX12_could 76 = .ok (.iconst 0, 1) := zk_of (zk_l (zk_r (zk_l (zk_r (zk_l zdX12_could_257)))))
theorem dX12_could_77 : decode cX12_could 77 = .ok (.istore 6, 2) := zk_of (zk_r (zk_r (zk_l (zk_r (zk_l zdX12_could_257)))))
theorem dX12_could_0 : decode cX12_could 0 = .ok (.aload_n 0, 1) := zk_of (zk_l (zk_l (zk_r (zk_r (zk_l zdX12_could_257)))))
theorem dX12_could_1 : decode cX12_could 1 = .ok (.iconst 0, 1) := zk_of (zk_r (zk_l (zk_r (zk_r (zk_l zdX12_could_257)))))
theorem dX12_could_2 : decode cX12_could 2 = .ok (.putfield 151, 3) := zk_of (zk_l (zk_r (zk_r (zk_r (zk_l zdX12_could_257)))))
theorem dX12_could_5 : decode cX12_could 5 = .ok (.aload_n 0, 1) := zk_of (zk_r (zk_r (zk_r (zk_r (zk_l zdX12_could_257)))))
theorem dX12_could_6 : decode cX12_could 6 = .ok (.iload_n 1, 1) := zk_of (zk_l (zk_l (zk_l (zk_l (zk_r zdX12_could_257)))))
theorem dX12_could_7 : decode cX12_could 7 = .ok (.invokevirtual 307, 3) := zk_of (zk_r (zk_l (zk_l (zk_l (zk_r zdX12_could_257)))))
theorem dX12_could_10 : decode cX12_could 10 = .ok (.ifCond .eq 26, 3) := zk_of (zk_l (zk_r (zk_l (zk_l (zk_r zdX12_could_257)))))
theorem dX12_could_36 : decode cX12_could 36 = .ok (.iconst (-1), 1) := zk_of (zk_r (zk_r (zk_l (zk_l (zk_r zdX12_could_257)))))
theorem dX12_could_37 : decode cX12_could 37 = .ok (.ireturn, 1) := zk_of (zk_l (zk_l (zk_r (zk_l (zk_r zdX12_could_257)))))
theorem dX12_could_13 : decode cX12_could 13 = .ok (.aload_n 0, 1) := zk_of (zk_r (zk_l (zk_r (zk_l (zk_r zdX12_could_257)))))
theorem dX12_could_14 : decode cX12_could 14 = .ok (.aload_n 0, 1) := zk_of (zk_l (zk_r (zk_r (zk_l (zk_r zdX12_could_257)))))
theorem dX12_could_15 : decode cX12_could 15 = .ok (.getfield 47, 3) := zk_of (zk_r (zk_r (zk_r (zk_l (zk_r zdX12_could_257)))))
theorem dX12_could_18 : decode cX12_could 18 = .ok (.iload_n 1, 1) := zk_of (zk_l (zk_l (zk_l (zk_r (zk_r zdX12_could_257)))))
theorem dX12_could_19 : decode cX12_could 19 = .ok (.iaload, 1) := zk_of (zk_r (zk_l (zk_l (zk_r (zk_r zdX12_could_257)))))
theorem dX12_could_20 : decode cX12_could 20 = .ok (.iload_n 2, 1) := zk_of (zk_l (zk_r (zk_l (zk_r (zk_r zdX12_could_257)))))
theorem dX12_could_21 : decode cX12_could 21 = .ok (.invokevirtual 310, 3) := zk_of (zk_r (zk_r (zk_l (zk_r (zk_r zdX12_could_257)))))
theorem dX12_could_24 : decode cX12_could 24 = .ok (.ifCond .eq 12, 3) := zk_of (zk_l (zk_l (zk_r (zk_r (zk_r zdX12_could_257)))))
theorem dX12_could_27 : decode cX12_could 27 = .ok (.iload_n 3, 1) := zk_of (zk_r (zk_l (zk_r (zk_r (zk_r zdX12_could_257)))))
theorem dX12_could_28 : decode cX12_could 28 = .ok (.iconst 0, 1) := zk_of (zk_l (zk_r (zk_r (zk_r (zk_r zdX12_could_257)))))
theorem dX12_could_29 : decode cX12_could 29 = .ok (.iconst 1, 1) := zk_of (zk_r (zk_r (zk_r (zk_r (zk_r zdX12_could_257)))))
set_option maxRecDepth 20000 in
theorem ggX12_could_X12_isPart : GoodIn wsX12_could wsX12_isPart := ggi (fun w h => List.mem_cons_of_mem _ (List.mem_append_left _ (List.mem_append_right _ (List.mem_append_right _ (List.mem_append_right _ (List.mem_append_right _ (List.mem_append_right _ (List.mem_append_left _ h)))))))) gs_X12_isPart
set_option maxRecDepth 20000 in
theorem gX12_could_X12_isPart : GoodIn wsX12_could (wsV RX12 307 RX12 yX12_isPart wsX12_isPart) := goodIn_app (goodIn_of _ (by decide +kernel)) ggX12_could_X12_isPart
set_option maxRecDepth 20000 in
theorem ggX12_could_X12_isKnown : GoodIn wsX12_could wsX12_isKnown := ggi (fun w h => List.mem_cons_of_mem _ (List.mem_append_left _ (List.mem_append_right _ (List.mem_append_right _ (List.mem_append_right _ (List.mem_append_right _ (List.mem_append_right _ (List.mem_append_right _ (List.mem_append_left _ h))))))))) gs_X12_isKnown
set_option maxRecDepth 20000 in
theorem gX12_could_X12_isKnown : GoodIn wsX12_could (wsV RX12 310 RX12 yX12_isKnown wsX12_isKnown) := goodIn_app (goodIn_of _ (by decide +kernel)) ggX12_could_X12_isKnown
set_option maxRecDepth 20000 in
theorem ggX12_could_X12_isIn : GoodIn wsX12_could wsX12_isIn := ggi (fun w h => List.mem_cons_of_mem _ (List.mem_append_left _ (List.mem_append_right _ (List.mem_append_right _ (List.mem_append_right _ (List.mem_append_right _ (List.mem_append_right _ (List.mem_append_right _ (List.mem_append_right _ (List.mem_append_left _ h)))))))))) gs_X12_isIn
set_option maxRecDepth 20000 in
theorem gX12_could_X12_isIn : GoodIn wsX12_could (va_wsS RX12 155 yX12_isIn wsX12_isIn) := goodIn_app (goodIn_of _ (by decide +kernel)) ggX12_could_X12_isIn
theorem zdX12_could_30 : (and (and (and (and (zk cX12_could 30 (.invokestatic 155) 3) (zk cX12_could 33 (.ifCond .ne 5) 3)) (zk cX12_could 38 (.aload_n 0) 1)) (and (and (zk cX12_could 39 (.iload_n 2) 1) (zk cX12_could 40 (.invokevirtual 313) 3)) (zk cX12_could 43 (.iconst 0) 1))) (and (and (and (zk cX12_could 44 (.istore 4) 2) (zk cX12_could 46 (.sipush 400) 3)) (zk cX12_could 49 (.istore 5) 2)) (and (zk cX12_could 51 (.iconst 0) 1) (zk cX12_could 52 (.istore 6) 2)))) = true := by decide +kernel
theorem dX12_could_30 : decode cX12_could 30 = .ok (.invokestatic 155, 3) := zk_of (zk_l (zk_l (zk_l (zk_l zdX12_could_30))))
theorem dX12_could_33 : decode cX12_could 33 = .ok (.ifCond .ne 5, 3) := zk_of (zk_r (zk_l (zk_l (zk_l zdX12_could_30))))
theorem dX12_could_38 : decode cX12_could 38 = .ok (.aload_n 0, 1) := zk_of (zk_r (zk_l (zk_l zdX12_could_30)))
theorem dX12_could_39 : decode cX12_could 39 = .ok (.iload_n 2, 1) := zk_of (zk_l (zk_l (zk_r (zk_l zdX12_could_30))))
theorem dX12_could_40 : decode cX12_could 40 = .ok (.invokevirtual 313, 3) := zk_of (zk_r (zk_l (zk_r (zk_l zdX12_could_30))))
theorem dX12_could_43 : decode cX12_could 43 = .ok (.iconst 0, 1) := zk_of (zk_r (zk_r (zk_l zdX12_could_30)))
theorem dX12_could_44 : decode cX12_could 44 = .ok (.istore 4, 2) := zk_of (zk_l (zk_l (zk_l (zk_r zdX12_could_30))))
theorem dX12_could_46 : decode cX12_could 46 = .ok (.sipush 400, 3) := zk_of (zk_r (zk_l (zk_l (zk_r zdX12_could_30))))
theorem dX12_could_49 : decode cX12_could 49 = .ok (.istore 5, 2) := zk_of (zk_r (zk_l (zk_r zdX12_could_30)))
theorem dX12_could_51 : decode cX12_could 51 = .ok (.iconst 0, 1) := zk_of (zk_l (zk_r (zk_r zdX12_could_30)))
theorem dX12_could_52 : decode cX12_could 52 = .ok (.istore 6, 2) := zk_of (zk_r (zk_r (zk_r zdX12_could_30)))
set_option maxRecDepth 20000 in
theorem ggX12_could_X12_laySpansOf : GoodIn wsX12_could wsX12_laySpansOf := ggi (fun w h => List.mem_cons_of_mem _ (List.mem_append_left _ (List.mem_append_right _ (List.mem_append_right _ (List.mem_append_right _ (List.mem_append_right _ (List.mem_append_right _ (List.mem_append_right _ (List.mem_append_right _ (List.mem_append_right _ h)))))))))) gs_X12_laySpansOf
set_option maxRecDepth 20000 in
theorem gX12_could_X12_laySpansOf : GoodIn wsX12_could (wsV RX12 313 RX12 yX12_laySpansOf wsX12_laySpansOf) := goodIn_app (goodIn_of _ (by decide +kernel)) ggX12_could_X12_laySpansOf
/-- HissHornModel.could(III)I of cell 0 -/
def rmX12_could_0 : Room := { frames := 142, cells := 0, slots := 0, locals := 8525 }
theorem hX12_could_0_X12 : ∀ w ∈ u_ws RX12 TX12 69, w ∈ wsX12_could := fun w h => (List.mem_cons_of_mem _ (List.mem_append_right _ h))
theorem mX12_could_0_1 : Cond.fieldLink RX12 151 "HissHornModel" "thrown" "I" ∈ wsX12_could := (List.mem_cons_of_mem _ (List.mem_append_left _ (List.mem_append_left _ (List.mem_of_getElem? (i := 23) rfl))))
theorem mX12_could_0_2 : Cond.fieldLink RX12 47 "HissHornModel" "partTold" "[I" ∈ wsX12_could := (List.mem_cons_of_mem _ (List.mem_append_left _ (List.mem_append_left _ (List.mem_of_getElem? (i := 24) rfl))))
theorem mX12_could_0_3 : Cond.fieldLink RX12 90 "HissHornModel" "fine" "[Z" ∈ wsX12_could := (List.mem_cons_of_mem _ (List.mem_append_left _ (List.mem_append_left _ (List.mem_of_getElem? (i := 25) rfl))))
def LX12_could_0_54 (k76 : Int32 → Int32 → Int32 → Int32 → Int32 → SX → Option (Int32 × SX)) : Nat → Int32 → Int32 → Int32 → Int32 → Int32 → Int32 → SX → Option (Int32 × SX)
  | 0, _, _, _, _, _, _, _ => none
  | n + 1, z1, z2, z3, z4, z5, z6, u => (if 400 < z6 then (k76 z1 z2 z3 z4 z5 u) else (gd (inb z6 401) (lt (sA u 24 (upd (u.2.1 24) z6.toNatClampNeg (vp_nar .boolean 1))) fun u17 => ((LX12_could_0_54 k76 n) z1 z2 z3 z4 z5 (z6 + 1) u17))))
theorem mX12_could_0_4 : Cond.fieldLink RX12 335 "HissHornModel" "readings" "I" ∈ wsX12_could := (List.mem_cons_of_mem _ (List.mem_append_left _ (List.mem_append_left _ (List.mem_of_getElem? (i := 26) rfl))))
theorem mX12_could_0_5 : Cond.fieldLink RX12 80 "HissHornModel" "readDay" "[I" ∈ wsX12_could := (List.mem_cons_of_mem _ (List.mem_append_left _ (List.mem_append_left _ (List.mem_of_getElem? (i := 27) rfl))))
theorem mX12_could_0_6 : Cond.fieldLink RX12 346 "HissHornModel" "leftFrom" "I" ∈ wsX12_could := (List.mem_cons_of_mem _ (List.mem_append_left _ (List.mem_append_left _ (List.mem_of_getElem? (i := 28) rfl))))
theorem mX12_could_0_7 : Cond.fieldLink RX12 349 "HissHornModel" "leftTo" "I" ∈ wsX12_could := (List.mem_cons_of_mem _ (List.mem_append_left _ (List.mem_append_left _ (List.mem_of_getElem? (i := 29) rfl))))
def GX12_could_0_197 (k136 : Int32 → Int32 → Int32 → Int32 → Int32 → Int32 → Int32 → Int32 → Int32 → SX → Option (Int32 × SX)) (z1 : Int32) (z2 : Int32) (z3 : Int32) (z4 : Int32) (z5 : Int32) (z6 : Int32) (z7 : Int32) (z8 : Int32) (z9 : Int32) (y0 : Int32) (y1 : Int32) (u : SX) : Option (Int32 × SX) := (gd (inb y1 401) (lt (sA u 24 (upd (u.2.1 24) y1.toNatClampNeg (vp_nar .boolean y0))) fun u35 => (k136 z1 z2 z3 z4 z5 z6 z7 z8 (z9 + 1) u35)))
def GX12_could_0_196 (k136 : Int32 → Int32 → Int32 → Int32 → Int32 → Int32 → Int32 → Int32 → Int32 → SX → Option (Int32 × SX)) (z1 : Int32) (z2 : Int32) (z3 : Int32) (z4 : Int32) (z5 : Int32) (z6 : Int32) (z7 : Int32) (z8 : Int32) (z9 : Int32) (y0 : Int32) (u : SX) : Option (Int32 × SX) := (GX12_could_0_197 k136 z1 z2 z3 z4 z5 z6 z7 z8 z9 0 y0 u)
theorem mX12_could_0_8 : Cond.fieldLink RX12 71 "HissHornModel" "worths" "[I" ∈ wsX12_could := (List.mem_cons_of_mem _ (List.mem_append_left _ (List.mem_append_left _ (List.mem_of_getElem? (i := 30) rfl))))
def LX12_could_0_136 (k204 : Int32 → Int32 → Int32 → Int32 → Int32 → Int32 → SX → Option (Int32 × SX)) : Nat → Int32 → Int32 → Int32 → Int32 → Int32 → Int32 → Int32 → Int32 → Int32 → SX → Option (Int32 × SX)
  | 0, _, _, _, _, _, _, _, _, _, _ => none
  | n + 1, z1, z2, z3, z4, z5, z6, z7, z8, z9, u => (if 400 < z9 then (k204 z1 z2 z3 z4 z5 z6 u) else (gd (inb z9 401) (if (u.2.1 24 z9.toNatClampNeg) = 0 then (GX12_could_0_196 (LX12_could_0_136 k204 n) z1 z2 z3 z4 z5 z6 z7 z8 z9 z9 u) else (gd (inb z1 12) ((fX12_shines z9 (u.2.1 18 z1.toNatClampNeg)).bind fun r38 => (if r38 < z7 then (GX12_could_0_196 (LX12_could_0_136 k204 n) z1 z2 z3 z4 z5 z6 z7 z8 z9 z9 u) else (gd (inb z1 12) ((fX12_shines z9 (u.2.1 18 z1.toNatClampNeg)).bind fun r42 => (if z8 < r42 then (GX12_could_0_196 (LX12_could_0_136 k204 n) z1 z2 z3 z4 z5 z6 z7 z8 z9 z9 u) else (GX12_could_0_197 (LX12_could_0_136 k204 n) z1 z2 z3 z4 z5 z6 z7 z8 z9 1 z9 u))))))))))
def GX12_could_0_204 (k79 : Int32 → Int32 → Int32 → Int32 → Int32 → Int32 → SX → Option (Int32 × SX)) (z1 : Int32) (z2 : Int32) (z3 : Int32) (z4 : Int32) (z5 : Int32) (z6 : Int32) (u : SX) : Option (Int32 × SX) := (k79 z1 z2 z3 z4 z5 (z6 + 1) u)
def LX12_could_0_79 (k210 : Int32 → Int32 → Int32 → SX → Option (Int32 × SX)) : Nat → Int32 → Int32 → Int32 → Int32 → Int32 → Int32 → SX → Option (Int32 × SX)
  | 0, _, _, _, _, _, _, _ => none
  | n + 1, z1, z2, z3, z4, z5, z6, u => (if (u.1 15) ≤ z6 then (k210 z3 z4 z5 u) else (gd (inb z6 80) (if (u.2.1 21 z6.toNatClampNeg) ≤ z2 then ((fX12_layLeft_0 z6 z2 u).bind fun q => match q with | (r20, u21) => ((fX12_most_0 z1 u21).bind fun q => match q with | (r23, u24) => (lt ((u21.1 16) + r23) fun v26 => ((fX12_least_0 z1 u24).bind fun q => match q with | (r28, u29) => (lt ((u24.1 17) + r28) fun v31 => (LX12_could_0_136 (GX12_could_0_204 (LX12_could_0_79 k210 n)) 5000 z1 z2 z3 z4 z5 z6 v26 v31 0 u29)))))) else (GX12_could_0_204 (LX12_could_0_79 k210 n) z1 z2 z3 z4 z5 z6 u))))
def LX12_could_0_210 (k234 : Int32 → Int32 → Int32 → SX → Option (Int32 × SX)) : Nat → Int32 → Int32 → Int32 → SX → Option (Int32 × SX)
  | 0, _, _, _, _ => none
  | n + 1, z3, z4, z5, u => (if 400 < z4 then (k234 z3 z4 z5 u) else (gd (inb z4 401) (if (u.2.1 24 z4.toNatClampNeg) = 0 then ((LX12_could_0_210 k234 n) z3 (z4 + 1) z5 u) else (k234 z3 z4 z5 u))))
def LX12_could_0_234 (k255 : Int32 → Int32 → Int32 → SX → Option (Int32 × SX)) : Nat → Int32 → Int32 → Int32 → SX → Option (Int32 × SX)
  | 0, _, _, _, _ => none
  | n + 1, z3, z4, z5, u => (if z5 < 0 then (k255 z3 z4 z5 u) else (gd (inb z5 401) (if (u.2.1 24 z5.toNatClampNeg) = 0 then ((LX12_could_0_234 k255 n) z3 z4 (z5 + (-1)) u) else (k255 z3 z4 z5 u))))
def GX12_could_0_255 (z3 : Int32) (z4 : Int32) (z5 : Int32) (u : SX) : Option (Int32 × SX) := (if z4 ≤ 400 then (if z3 = 0 then (some (z4, u)) else (some (z5, u))) else (some ((-1), u)))
def GX12_could_0_76 (z1 : Int32) (z2 : Int32) (z3 : Int32) (z4 : Int32) (z5 : Int32) (u : SX) : Option (Int32 × SX) := (LX12_could_0_79 (LX12_could_0_210 (LX12_could_0_234 GX12_could_0_255 5000) 5000) 5000 z1 z2 z3 z4 z5 0 u)
def fX12_could_0 (x1 : Int32) (x2 : Int32) (x3 : Int32) (u : SX) : Option (Int32 × SX) := (lt (sI u 0 0) fun u1 => ((fX12_isPart_0 x1 u1).bind fun q => match q with | (r3, u4) => (if r3 = 0 then (some ((-1), u4)) else (gd (inb x1 12) ((fX12_isKnown_0 (u4.2.1 10 x1.toNatClampNeg) x2 u4).bind fun q => match q with | (r7, u8) => (if r7 = 0 then (some ((-1), u8)) else ((fX12_isIn x3 0 1).bind fun r10 => (if r10 = 0 then (some ((-1), u8)) else ((fX12_laySpansOf_0 x2 u8).bind fun q => match q with | (r13, u14) => (LX12_could_0_54 GX12_could_0_76 5000 x1 x2 x3 0 400 0 u14))))))))))
set_option maxHeartbeats 4000000 in
set_option maxRecDepth 100000 in
theorem wLX12_could_0_54 {p : Program} {l : Launch} {e : Env} {s : State} {m : MethodId} {args : Array Value} {below : List Frame} {meth : Method} {c : Code} {D : va_G} {cy : Nat → ClassId} {ad st : Nat → Nat} (C : Cx RX12 cX12_could 10 (some .int) wsX12_could p s m args meth c) (hK : Ky D [(cy 0, .int), (cy 1, .long), (cy 2, .boolean), (cy 3, .byte), (cy 4, .object "HissHorn$Text")] st s) (hJ : JM ad st) {r : Int32} {u' : SX} {k76 : Int32 → Int32 → Int32 → Int32 → Int32 → SX → Option (Int32 × SX)} (hk76 : ∀ (z1 : Int32) (z2 : Int32) (z3 : Int32) (z4 : Int32) (z5 : Int32) (u : SX) (H : Heap) (locs : List Loc) (ls : Array Slot), k76 z1 z2 z3 z4 z5 u = some (r, u') → va_P D vwCl (VM cy ad st u) H → va_S (Ax (AM ad) s.heap.size) s.heap H locs → lv_has ls 10 [(0, .ref (ad 0)), (1, .int z1), (2, .int z2), (3, .int z3), (4, .int z4), (5, .int z5)] → W p l e rmX12_could_0 s m args below meth c H locs 0 0 (MQ below (Qi D (VM cy ad st) (AM ad) s.heap.size r u') args s 0 0 (Ax (AM ad) s.heap.size)) (F0 m 76 ls [])) : ∀ (n : Nat) (z1 : Int32) (z2 : Int32) (z3 : Int32) (z4 : Int32) (z5 : Int32) (z6 : Int32) (u : SX) (H : Heap) (locs : List Loc) (ls : Array Slot), LX12_could_0_54 k76 n z1 z2 z3 z4 z5 z6 u = some (r, u') → va_P D vwCl (VM cy ad st u) H → va_S (Ax (AM ad) s.heap.size) s.heap H locs → lv_has ls 10 [(0, .ref (ad 0)), (1, .int z1), (2, .int z2), (3, .int z3), (4, .int z4), (5, .int z5), (6, .int z6)] → W p l e rmX12_could_0 s m args below meth c H locs 0 0 (MQ below (Qi D (VM cy ad st) (AM ad) s.heap.size r u') args s 0 0 (Ax (AM ad) s.heap.size)) (F0 m 54 ls []) := by
  intro n
  induction n with
  | zero =>
    intro z1 z2 z3 z4 z5 z6 u H locs ls h
    exact absurd h (by intro q; cases q)
  | succ n ih =>
    intro z1 z2 z3 z4 z5 z6 u H locs ls h hP hS hl
    rw [LX12_could_0_54] at h
    refine lv_iload C.1 C.2.1 dX12_could_54 (lv_at hl 6 rfl) ?_
    refine lv_sipush (v := 400) C.1 C.2.1 dX12_could_56 (by decide) ?_
    refine lv_icmp_gt (tgt := 76) C.1 C.2.1 dX12_could_59 (by decide) (fun c59 => ?_) (fun c59 => ?_)
    · rw [if_pos c59] at h
      exact hk76 _ _ _ _ _ _ _ _ _ h hP hS (lv_sub hl [0, 1, 2, 3, 4, 5] rfl)
    · rw [if_neg c59] at h
      refine lv_aload_n C.1 C.2.1 dX12_could_62 rfl (lv_at hl 0 rfl) ?_
      refine gM_0_fine C hX12_could_0_X12 hK hP mX12_could_0_3 dX12_could_63 ?_
      refine lv_iload C.1 C.2.1 dX12_could_66 (lv_at hl 6 rfl) ?_
      refine lv_iconst (v := 1) C.1 C.2.1 dX12_could_68 (by decide) ?_
      obtain ⟨hg16, h⟩ := gd_some h
      refine tM_24 C hK hP hJ hS hg16 dX12_could_69 (fun H locs hP hS => ?_)
      obtain ⟨u17, hu18, h⟩ := lt_some h
      rw [← hu18] at hP
      refine lv_iinc (v := z6 + 1) (lv' := [(6, .int (z6 + 1)), (0, .ref (ad 0)), (1, .int z1), (2, .int z2), (3, .int z3), (4, .int z4), (5, .int z5)]) C.1 C.2.1 dX12_could_70 hl (k := 6) rfl rfl (by decide) rfl (fun ls hl => ?_)
      replace hl := lv_sub (l' := [(0, .ref (ad 0)), (1, .int z1), (2, .int z2), (3, .int z3), (4, .int z4), (5, .int z5), (6, .int (z6 + 1))]) hl [1, 2, 3, 4, 5, 6, 0] rfl
      refine lv_goto (tgt := 54) C.1 C.2.1 dX12_could_73 (by decide) ?_
      exact ih _ _ _ _ _ _ _ _ _ _ h hP hS hl
set_option maxHeartbeats 4000000 in
set_option maxRecDepth 100000 in
theorem wGX12_could_0_197 {p : Program} {l : Launch} {e : Env} {s : State} {m : MethodId} {args : Array Value} {below : List Frame} {meth : Method} {c : Code} {D : va_G} {cy : Nat → ClassId} {ad st : Nat → Nat} (C : Cx RX12 cX12_could 10 (some .int) wsX12_could p s m args meth c) (hK : Ky D [(cy 0, .int), (cy 1, .long), (cy 2, .boolean), (cy 3, .byte), (cy 4, .object "HissHorn$Text")] st s) (hJ : JM ad st) {r : Int32} {u' : SX} {k136 : Int32 → Int32 → Int32 → Int32 → Int32 → Int32 → Int32 → Int32 → Int32 → SX → Option (Int32 × SX)} (hk136 : ∀ (z1 : Int32) (z2 : Int32) (z3 : Int32) (z4 : Int32) (z5 : Int32) (z6 : Int32) (z7 : Int32) (z8 : Int32) (z9 : Int32) (u : SX) (H : Heap) (locs : List Loc) (ls : Array Slot), k136 z1 z2 z3 z4 z5 z6 z7 z8 z9 u = some (r, u') → va_P D vwCl (VM cy ad st u) H → va_S (Ax (AM ad) s.heap.size) s.heap H locs → lv_has ls 10 [(0, .ref (ad 0)), (1, .int z1), (2, .int z2), (3, .int z3), (4, .int z4), (5, .int z5), (6, .int z6), (7, .int z7), (8, .int z8), (9, .int z9)] → W p l e rmX12_could_0 s m args below meth c H locs 0 0 (MQ below (Qi D (VM cy ad st) (AM ad) s.heap.size r u') args s 0 0 (Ax (AM ad) s.heap.size)) (F0 m 136 ls [])) (z1 : Int32) (z2 : Int32) (z3 : Int32) (z4 : Int32) (z5 : Int32) (z6 : Int32) (z7 : Int32) (z8 : Int32) (z9 : Int32) (y0 : Int32) (y1 : Int32) (u : SX) (H : Heap) (locs : List Loc) (ls : Array Slot) (h : GX12_could_0_197 k136 z1 z2 z3 z4 z5 z6 z7 z8 z9 y0 y1 u = some (r, u')) (hP : va_P D vwCl (VM cy ad st u) H) (hS : va_S (Ax (AM ad) s.heap.size) s.heap H locs) (hl : lv_has ls 10 [(0, .ref (ad 0)), (1, .int z1), (2, .int z2), (3, .int z3), (4, .int z4), (5, .int z5), (6, .int z6), (7, .int z7), (8, .int z8), (9, .int z9)]) : W p l e rmX12_could_0 s m args below meth c H locs 0 0 (MQ below (Qi D (VM cy ad st) (AM ad) s.heap.size r u') args s 0 0 (Ax (AM ad) s.heap.size)) (F0 m 197 ls [.int y0, .int y1, .ref (ad 24)]) := by
  unfold GX12_could_0_197 at h
  obtain ⟨hg34, h⟩ := gd_some h
  refine tM_24 C hK hP hJ hS hg34 dX12_could_197 (fun H locs hP hS => ?_)
  obtain ⟨u35, hu36, h⟩ := lt_some h
  rw [← hu36] at hP
  refine lv_iinc (v := z9 + 1) (lv' := [(9, .int (z9 + 1)), (0, .ref (ad 0)), (1, .int z1), (2, .int z2), (3, .int z3), (4, .int z4), (5, .int z5), (6, .int z6), (7, .int z7), (8, .int z8)]) C.1 C.2.1 dX12_could_198 hl (k := 9) rfl rfl (by decide) rfl (fun ls hl => ?_)
  replace hl := lv_sub (l' := [(0, .ref (ad 0)), (1, .int z1), (2, .int z2), (3, .int z3), (4, .int z4), (5, .int z5), (6, .int z6), (7, .int z7), (8, .int z8), (9, .int (z9 + 1))]) hl [1, 2, 3, 4, 5, 6, 7, 8, 9, 0] rfl
  refine lv_goto (tgt := 136) C.1 C.2.1 dX12_could_201 (by decide) ?_
  exact hk136 _ _ _ _ _ _ _ _ _ _ _ _ _ h hP hS hl
set_option maxHeartbeats 4000000 in
set_option maxRecDepth 100000 in
theorem wGX12_could_0_196 {p : Program} {l : Launch} {e : Env} {s : State} {m : MethodId} {args : Array Value} {below : List Frame} {meth : Method} {c : Code} {D : va_G} {cy : Nat → ClassId} {ad st : Nat → Nat} (C : Cx RX12 cX12_could 10 (some .int) wsX12_could p s m args meth c) (hK : Ky D [(cy 0, .int), (cy 1, .long), (cy 2, .boolean), (cy 3, .byte), (cy 4, .object "HissHorn$Text")] st s) (hJ : JM ad st) {r : Int32} {u' : SX} {k136 : Int32 → Int32 → Int32 → Int32 → Int32 → Int32 → Int32 → Int32 → Int32 → SX → Option (Int32 × SX)} (hk136 : ∀ (z1 : Int32) (z2 : Int32) (z3 : Int32) (z4 : Int32) (z5 : Int32) (z6 : Int32) (z7 : Int32) (z8 : Int32) (z9 : Int32) (u : SX) (H : Heap) (locs : List Loc) (ls : Array Slot), k136 z1 z2 z3 z4 z5 z6 z7 z8 z9 u = some (r, u') → va_P D vwCl (VM cy ad st u) H → va_S (Ax (AM ad) s.heap.size) s.heap H locs → lv_has ls 10 [(0, .ref (ad 0)), (1, .int z1), (2, .int z2), (3, .int z3), (4, .int z4), (5, .int z5), (6, .int z6), (7, .int z7), (8, .int z8), (9, .int z9)] → W p l e rmX12_could_0 s m args below meth c H locs 0 0 (MQ below (Qi D (VM cy ad st) (AM ad) s.heap.size r u') args s 0 0 (Ax (AM ad) s.heap.size)) (F0 m 136 ls [])) (z1 : Int32) (z2 : Int32) (z3 : Int32) (z4 : Int32) (z5 : Int32) (z6 : Int32) (z7 : Int32) (z8 : Int32) (z9 : Int32) (y0 : Int32) (u : SX) (H : Heap) (locs : List Loc) (ls : Array Slot) (h : GX12_could_0_196 k136 z1 z2 z3 z4 z5 z6 z7 z8 z9 y0 u = some (r, u')) (hP : va_P D vwCl (VM cy ad st u) H) (hS : va_S (Ax (AM ad) s.heap.size) s.heap H locs) (hl : lv_has ls 10 [(0, .ref (ad 0)), (1, .int z1), (2, .int z2), (3, .int z3), (4, .int z4), (5, .int z5), (6, .int z6), (7, .int z7), (8, .int z8), (9, .int z9)]) : W p l e rmX12_could_0 s m args below meth c H locs 0 0 (MQ below (Qi D (VM cy ad st) (AM ad) s.heap.size r u') args s 0 0 (Ax (AM ad) s.heap.size)) (F0 m 196 ls [.int y0, .ref (ad 24)]) := by
  unfold GX12_could_0_196 at h
  refine lv_iconst (v := 0) C.1 C.2.1 dX12_could_196 (by decide) ?_
  exact wGX12_could_0_197 C hK hJ hk136 _ _ _ _ _ _ _ _ _ _ _ _ _ _ _ h hP hS hl
set_option maxHeartbeats 4000000 in
set_option maxRecDepth 100000 in
theorem wLX12_could_0_136 {p : Program} {l : Launch} {e : Env} {s : State} {m : MethodId} {args : Array Value} {below : List Frame} {meth : Method} {c : Code} {D : va_G} {cy : Nat → ClassId} {ad st : Nat → Nat} (C : Cx RX12 cX12_could 10 (some .int) wsX12_could p s m args meth c) (hK : Ky D [(cy 0, .int), (cy 1, .long), (cy 2, .boolean), (cy 3, .byte), (cy 4, .object "HissHorn$Text")] st s) (hJ : JM ad st) {r : Int32} {u' : SX} {k204 : Int32 → Int32 → Int32 → Int32 → Int32 → Int32 → SX → Option (Int32 × SX)} (hk204 : ∀ (z1 : Int32) (z2 : Int32) (z3 : Int32) (z4 : Int32) (z5 : Int32) (z6 : Int32) (u : SX) (H : Heap) (locs : List Loc) (ls : Array Slot), k204 z1 z2 z3 z4 z5 z6 u = some (r, u') → va_P D vwCl (VM cy ad st u) H → va_S (Ax (AM ad) s.heap.size) s.heap H locs → lv_has ls 10 [(0, .ref (ad 0)), (1, .int z1), (2, .int z2), (3, .int z3), (4, .int z4), (5, .int z5), (6, .int z6)] → W p l e rmX12_could_0 s m args below meth c H locs 0 0 (MQ below (Qi D (VM cy ad st) (AM ad) s.heap.size r u') args s 0 0 (Ax (AM ad) s.heap.size)) (F0 m 204 ls [])) : ∀ (n : Nat) (z1 : Int32) (z2 : Int32) (z3 : Int32) (z4 : Int32) (z5 : Int32) (z6 : Int32) (z7 : Int32) (z8 : Int32) (z9 : Int32) (u : SX) (H : Heap) (locs : List Loc) (ls : Array Slot), LX12_could_0_136 k204 n z1 z2 z3 z4 z5 z6 z7 z8 z9 u = some (r, u') → va_P D vwCl (VM cy ad st u) H → va_S (Ax (AM ad) s.heap.size) s.heap H locs → lv_has ls 10 [(0, .ref (ad 0)), (1, .int z1), (2, .int z2), (3, .int z3), (4, .int z4), (5, .int z5), (6, .int z6), (7, .int z7), (8, .int z8), (9, .int z9)] → W p l e rmX12_could_0 s m args below meth c H locs 0 0 (MQ below (Qi D (VM cy ad st) (AM ad) s.heap.size r u') args s 0 0 (Ax (AM ad) s.heap.size)) (F0 m 136 ls []) := by
  intro n
  induction n with
  | zero =>
    intro z1 z2 z3 z4 z5 z6 z7 z8 z9 u H locs ls h
    exact absurd h (by intro q; cases q)
  | succ n ih =>
    intro z1 z2 z3 z4 z5 z6 z7 z8 z9 u H locs ls h hP hS hl
    rw [LX12_could_0_136] at h
    refine lv_iload C.1 C.2.1 dX12_could_136 (lv_at hl 9 rfl) ?_
    refine lv_sipush (v := 400) C.1 C.2.1 dX12_could_138 (by decide) ?_
    refine lv_icmp_gt (tgt := 204) C.1 C.2.1 dX12_could_141 (by decide) (fun c141 => ?_) (fun c141 => ?_)
    · rw [if_pos c141] at h
      exact hk204 _ _ _ _ _ _ _ _ _ _ h hP hS (lv_sub hl [0, 1, 2, 3, 4, 5, 6] rfl)
    · rw [if_neg c141] at h
      refine lv_aload_n C.1 C.2.1 dX12_could_144 rfl (lv_at hl 0 rfl) ?_
      refine gM_0_fine C hX12_could_0_X12 hK hP mX12_could_0_3 dX12_could_145 ?_
      refine lv_iload C.1 C.2.1 dX12_could_148 (lv_at hl 9 rfl) ?_
      refine lv_aload_n C.1 C.2.1 dX12_could_150 rfl (lv_at hl 0 rfl) ?_
      refine gM_0_fine C hX12_could_0_X12 hK hP mX12_could_0_3 dX12_could_151 ?_
      refine lv_iload C.1 C.2.1 dX12_could_154 (lv_at hl 9 rfl) ?_
      obtain ⟨hg33, h⟩ := gd_some h
      refine lM_24 C hK hP hg33 dX12_could_156 ?_
      refine lv_if_eq (tgt := 196) C.1 C.2.1 dX12_could_157 (by decide) (fun c157 => ?_) (fun c157 => ?_)
      · rw [if_pos c157] at h
        exact wGX12_could_0_196 C hK hJ ih _ _ _ _ _ _ _ _ _ _ _ _ _ _ h hP hS hl
      · rw [if_neg c157] at h
        refine lv_iload C.1 C.2.1 dX12_could_160 (lv_at hl 9 rfl) ?_
        refine lv_aload_n C.1 C.2.1 dX12_could_162 rfl (lv_at hl 0 rfl) ?_
        refine gM_0_worths C hX12_could_0_X12 hK hP mX12_could_0_8 dX12_could_163 ?_
        refine lv_iload_n C.1 C.2.1 dX12_could_166 rfl (lv_at hl 1 rfl) ?_
        obtain ⟨hg37, h⟩ := gd_some h
        refine lM_18 C hK hP hg37 dX12_could_167 ?_
        obtain ⟨r38, hc40, h⟩ := bd_some h
        refine cs_i (As := [.int z9, .int (u.2.1 18 z1.toNatClampNeg)]) (rest := [.int z9, .ref (ad 24)]) (AM_ge hJ) C hK hP hS (metX12_shines l D cy st _ z9 (u.2.1 18 z1.toNatClampNeg) hc40) (va_cwS 2 C.2.2.2.2.2.1 gX12_could_X12_shines rfl rfl rfl (by decide +kernel) ⟨(Nat.le_of_ble_eq_true rfl), (Nat.le_of_ble_eq_true rfl)⟩) rfl hl.1 rfl (Nat.le_of_ble_eq_true rfl) dX12_could_168 ⟨Nat.zero_le _, Nat.zero_le _⟩ (fun H locs hP hS => ?_)
        refine lv_iload C.1 C.2.1 dX12_could_171 (lv_at hl 7 rfl) ?_
        refine lv_icmp_lt (tgt := 196) C.1 C.2.1 dX12_could_173 (by decide) (fun c173 => ?_) (fun c173 => ?_)
        · rw [if_pos c173] at h
          exact wGX12_could_0_196 C hK hJ ih _ _ _ _ _ _ _ _ _ _ _ _ _ _ h hP hS hl
        · rw [if_neg c173] at h
          refine lv_iload C.1 C.2.1 dX12_could_176 (lv_at hl 9 rfl) ?_
          refine lv_aload_n C.1 C.2.1 dX12_could_178 rfl (lv_at hl 0 rfl) ?_
          refine gM_0_worths C hX12_could_0_X12 hK hP mX12_could_0_8 dX12_could_179 ?_
          refine lv_iload_n C.1 C.2.1 dX12_could_182 rfl (lv_at hl 1 rfl) ?_
          obtain ⟨hg41, h⟩ := gd_some h
          refine lM_18 C hK hP hg41 dX12_could_183 ?_
          obtain ⟨r42, hc44, h⟩ := bd_some h
          refine cs_i (As := [.int z9, .int (u.2.1 18 z1.toNatClampNeg)]) (rest := [.int z9, .ref (ad 24)]) (AM_ge hJ) C hK hP hS (metX12_shines l D cy st _ z9 (u.2.1 18 z1.toNatClampNeg) hc44) (va_cwS 2 C.2.2.2.2.2.1 gX12_could_X12_shines rfl rfl rfl (by decide +kernel) ⟨(Nat.le_of_ble_eq_true rfl), (Nat.le_of_ble_eq_true rfl)⟩) rfl hl.1 rfl (Nat.le_of_ble_eq_true rfl) dX12_could_184 ⟨Nat.zero_le _, Nat.zero_le _⟩ (fun H locs hP hS => ?_)
          refine lv_iload C.1 C.2.1 dX12_could_187 (lv_at hl 8 rfl) ?_
          refine lv_icmp_gt (tgt := 196) C.1 C.2.1 dX12_could_189 (by decide) (fun c189 => ?_) (fun c189 => ?_)
          · rw [if_pos c189] at h
            exact wGX12_could_0_196 C hK hJ ih _ _ _ _ _ _ _ _ _ _ _ _ _ _ h hP hS hl
          · rw [if_neg c189] at h
            refine lv_iconst (v := 1) C.1 C.2.1 dX12_could_192 (by decide) ?_
            refine lv_goto (tgt := 197) C.1 C.2.1 dX12_could_193 (by decide) ?_
            exact wGX12_could_0_197 C hK hJ ih _ _ _ _ _ _ _ _ _ _ _ _ _ _ _ h hP hS hl
set_option maxHeartbeats 4000000 in
set_option maxRecDepth 100000 in
theorem wGX12_could_0_204 {p : Program} {l : Launch} {e : Env} {s : State} {m : MethodId} {args : Array Value} {below : List Frame} {meth : Method} {c : Code} {D : va_G} {cy : Nat → ClassId} {ad st : Nat → Nat} (C : Cx RX12 cX12_could 10 (some .int) wsX12_could p s m args meth c) (hK : Ky D [(cy 0, .int), (cy 1, .long), (cy 2, .boolean), (cy 3, .byte), (cy 4, .object "HissHorn$Text")] st s) (hJ : JM ad st) {r : Int32} {u' : SX} {k79 : Int32 → Int32 → Int32 → Int32 → Int32 → Int32 → SX → Option (Int32 × SX)} (hk79 : ∀ (z1 : Int32) (z2 : Int32) (z3 : Int32) (z4 : Int32) (z5 : Int32) (z6 : Int32) (u : SX) (H : Heap) (locs : List Loc) (ls : Array Slot), k79 z1 z2 z3 z4 z5 z6 u = some (r, u') → va_P D vwCl (VM cy ad st u) H → va_S (Ax (AM ad) s.heap.size) s.heap H locs → lv_has ls 10 [(0, .ref (ad 0)), (1, .int z1), (2, .int z2), (3, .int z3), (4, .int z4), (5, .int z5), (6, .int z6)] → W p l e rmX12_could_0 s m args below meth c H locs 0 0 (MQ below (Qi D (VM cy ad st) (AM ad) s.heap.size r u') args s 0 0 (Ax (AM ad) s.heap.size)) (F0 m 79 ls [])) (z1 : Int32) (z2 : Int32) (z3 : Int32) (z4 : Int32) (z5 : Int32) (z6 : Int32) (u : SX) (H : Heap) (locs : List Loc) (ls : Array Slot) (h : GX12_could_0_204 k79 z1 z2 z3 z4 z5 z6 u = some (r, u')) (hP : va_P D vwCl (VM cy ad st u) H) (hS : va_S (Ax (AM ad) s.heap.size) s.heap H locs) (hl : lv_has ls 10 [(0, .ref (ad 0)), (1, .int z1), (2, .int z2), (3, .int z3), (4, .int z4), (5, .int z5), (6, .int z6)]) : W p l e rmX12_could_0 s m args below meth c H locs 0 0 (MQ below (Qi D (VM cy ad st) (AM ad) s.heap.size r u') args s 0 0 (Ax (AM ad) s.heap.size)) (F0 m 204 ls []) := by
  unfold GX12_could_0_204 at h
  refine lv_iinc (v := z6 + 1) (lv' := [(6, .int (z6 + 1)), (0, .ref (ad 0)), (1, .int z1), (2, .int z2), (3, .int z3), (4, .int z4), (5, .int z5)]) C.1 C.2.1 dX12_could_204 hl (k := 6) rfl rfl (by decide) rfl (fun ls hl => ?_)
  replace hl := lv_sub (l' := [(0, .ref (ad 0)), (1, .int z1), (2, .int z2), (3, .int z3), (4, .int z4), (5, .int z5), (6, .int (z6 + 1))]) hl [1, 2, 3, 4, 5, 6, 0] rfl
  refine lv_goto (tgt := 79) C.1 C.2.1 dX12_could_207 (by decide) ?_
  exact hk79 _ _ _ _ _ _ _ _ _ _ h hP hS hl
set_option maxHeartbeats 4000000 in
set_option maxRecDepth 100000 in
theorem wLX12_could_0_79 {p : Program} {l : Launch} {e : Env} {s : State} {m : MethodId} {args : Array Value} {below : List Frame} {meth : Method} {c : Code} {D : va_G} {cy : Nat → ClassId} {ad st : Nat → Nat} (C : Cx RX12 cX12_could 10 (some .int) wsX12_could p s m args meth c) (hK : Ky D [(cy 0, .int), (cy 1, .long), (cy 2, .boolean), (cy 3, .byte), (cy 4, .object "HissHorn$Text")] st s) (hJ : JM ad st) {r : Int32} {u' : SX} {k210 : Int32 → Int32 → Int32 → SX → Option (Int32 × SX)} (hk210 : ∀ (z3 : Int32) (z4 : Int32) (z5 : Int32) (u : SX) (H : Heap) (locs : List Loc) (ls : Array Slot), k210 z3 z4 z5 u = some (r, u') → va_P D vwCl (VM cy ad st u) H → va_S (Ax (AM ad) s.heap.size) s.heap H locs → lv_has ls 10 [(0, .ref (ad 0)), (3, .int z3), (4, .int z4), (5, .int z5)] → W p l e rmX12_could_0 s m args below meth c H locs 0 0 (MQ below (Qi D (VM cy ad st) (AM ad) s.heap.size r u') args s 0 0 (Ax (AM ad) s.heap.size)) (F0 m 210 ls [])) : ∀ (n : Nat) (z1 : Int32) (z2 : Int32) (z3 : Int32) (z4 : Int32) (z5 : Int32) (z6 : Int32) (u : SX) (H : Heap) (locs : List Loc) (ls : Array Slot), LX12_could_0_79 k210 n z1 z2 z3 z4 z5 z6 u = some (r, u') → va_P D vwCl (VM cy ad st u) H → va_S (Ax (AM ad) s.heap.size) s.heap H locs → lv_has ls 10 [(0, .ref (ad 0)), (1, .int z1), (2, .int z2), (3, .int z3), (4, .int z4), (5, .int z5), (6, .int z6)] → W p l e rmX12_could_0 s m args below meth c H locs 0 0 (MQ below (Qi D (VM cy ad st) (AM ad) s.heap.size r u') args s 0 0 (Ax (AM ad) s.heap.size)) (F0 m 79 ls []) := by
  intro n
  induction n with
  | zero =>
    intro z1 z2 z3 z4 z5 z6 u H locs ls h
    exact absurd h (by intro q; cases q)
  | succ n ih =>
    intro z1 z2 z3 z4 z5 z6 u H locs ls h hP hS hl
    rw [LX12_could_0_79] at h
    refine lv_iload C.1 C.2.1 dX12_could_79 (lv_at hl 6 rfl) ?_
    refine lv_aload_n C.1 C.2.1 dX12_could_81 rfl (lv_at hl 0 rfl) ?_
    refine gM_0_readings C hX12_could_0_X12 hK hP mX12_could_0_4 dX12_could_82 ?_
    refine lv_icmp_ge (tgt := 210) C.1 C.2.1 dX12_could_85 (by decide) (fun c85 => ?_) (fun c85 => ?_)
    · rw [if_pos c85] at h
      exact hk210 _ _ _ _ _ _ _ h hP hS (lv_sub hl [0, 3, 4, 5] rfl)
    · rw [if_neg c85] at h
      refine lv_aload_n C.1 C.2.1 dX12_could_88 rfl (lv_at hl 0 rfl) ?_
      refine gM_0_readDay C hX12_could_0_X12 hK hP mX12_could_0_5 dX12_could_89 ?_
      refine lv_iload C.1 C.2.1 dX12_could_92 (lv_at hl 6 rfl) ?_
      obtain ⟨hg19, h⟩ := gd_some h
      refine lM_21 C hK hP hg19 dX12_could_94 ?_
      refine lv_iload_n C.1 C.2.1 dX12_could_95 rfl (lv_at hl 2 rfl) ?_
      refine lv_icmp_le (tgt := 102) C.1 C.2.1 dX12_could_96 (by decide) (fun c96 => ?_) (fun c96 => ?_)
      · rw [if_pos c96] at h
        refine lv_aload_n C.1 C.2.1 dX12_could_102 rfl (lv_at hl 0 rfl) ?_
        refine lv_iload C.1 C.2.1 dX12_could_103 (lv_at hl 6 rfl) ?_
        refine lv_iload_n C.1 C.2.1 dX12_could_105 rfl (lv_at hl 2 rfl) ?_
        obtain ⟨⟨r20, u21⟩, hc22, h⟩ := bd_some h
        try dsimp only at h
        refine cg_v (As := [.int z6, .int z2]) (rest := []) (AM_ge hJ) C hK hP hS (metX12_layLeft_0 l D cy ad st hJ _ z6 z2 hc22) (cwV 2 C.2.2.2.2.2.1 gX12_could_X12_layLeft rfl rfl rfl (by decide +kernel) ⟨(Nat.le_of_ble_eq_true rfl), (Nat.le_of_ble_eq_true rfl)⟩) 0 12 rfl rfl rfl hl.1 rfl (Nat.le_of_ble_eq_true rfl) dX12_could_106 ⟨Nat.zero_le _, Nat.zero_le _⟩ (fun H locs hP hS => ?_)
        refine lv_aload_n C.1 C.2.1 dX12_could_109 rfl (lv_at hl 0 rfl) ?_
        refine gM_0_leftFrom C hX12_could_0_X12 hK hP mX12_could_0_6 dX12_could_110 ?_
        refine lv_aload_n C.1 C.2.1 dX12_could_113 rfl (lv_at hl 0 rfl) ?_
        refine lv_iload_n C.1 C.2.1 dX12_could_114 rfl (lv_at hl 1 rfl) ?_
        obtain ⟨⟨r23, u24⟩, hc25, h⟩ := bd_some h
        try dsimp only at h
        refine cg_i (As := [.int z1]) (rest := [.int (u21.1 16)]) (AM_ge hJ) C hK hP hS (metX12_most_0 l D cy ad st hJ _ z1 hc25) (cwV 1 C.2.2.2.2.2.1 gX12_could_X12_most rfl rfl rfl (by decide +kernel) ⟨(Nat.le_of_ble_eq_true rfl), (Nat.le_of_ble_eq_true rfl)⟩) 0 12 rfl rfl rfl hl.1 rfl (Nat.le_of_ble_eq_true rfl) dX12_could_115 ⟨Nat.zero_le _, Nat.zero_le _⟩ (fun H locs hP hS => ?_)
        refine lv_iadd C.1 C.2.1 dX12_could_118 ?_
        refine lv_topi (fun v26 hv27 => ?_)
        replace h := lt_e hv27 h
        try dsimp only at h
        refine lv_istore (lv' := [(7, .int v26), (0, .ref (ad 0)), (1, .int z1), (2, .int z2), (3, .int z3), (4, .int z4), (5, .int z5), (6, .int z6)]) C.1 C.2.1 dX12_could_119 hl (by decide) rfl (fun ls hl => ?_)
        replace hl := lv_sub (l' := [(0, .ref (ad 0)), (1, .int z1), (2, .int z2), (3, .int z3), (4, .int z4), (5, .int z5), (6, .int z6), (7, .int v26)]) hl [1, 2, 3, 4, 5, 6, 7, 0] rfl
        refine lv_aload_n C.1 C.2.1 dX12_could_121 rfl (lv_at hl 0 rfl) ?_
        refine gM_0_leftTo C hX12_could_0_X12 hK hP mX12_could_0_7 dX12_could_122 ?_
        refine lv_aload_n C.1 C.2.1 dX12_could_125 rfl (lv_at hl 0 rfl) ?_
        refine lv_iload_n C.1 C.2.1 dX12_could_126 rfl (lv_at hl 1 rfl) ?_
        obtain ⟨⟨r28, u29⟩, hc30, h⟩ := bd_some h
        try dsimp only at h
        refine cg_i (As := [.int z1]) (rest := [.int (u24.1 17)]) (AM_ge hJ) C hK hP hS (metX12_least_0 l D cy ad st hJ _ z1 hc30) (cwV 1 C.2.2.2.2.2.1 gX12_could_X12_least rfl rfl rfl (by decide +kernel) ⟨(Nat.le_of_ble_eq_true rfl), (Nat.le_of_ble_eq_true rfl)⟩) 0 12 rfl rfl rfl hl.1 rfl (Nat.le_of_ble_eq_true rfl) dX12_could_127 ⟨Nat.zero_le _, Nat.zero_le _⟩ (fun H locs hP hS => ?_)
        refine lv_iadd C.1 C.2.1 dX12_could_130 ?_
        refine lv_topi (fun v31 hv32 => ?_)
        replace h := lt_e hv32 h
        try dsimp only at h
        refine lv_istore (lv' := [(8, .int v31), (0, .ref (ad 0)), (1, .int z1), (2, .int z2), (3, .int z3), (4, .int z4), (5, .int z5), (6, .int z6), (7, .int v26)]) C.1 C.2.1 dX12_could_131 hl (by decide) rfl (fun ls hl => ?_)
        replace hl := lv_sub (l' := [(0, .ref (ad 0)), (1, .int z1), (2, .int z2), (3, .int z3), (4, .int z4), (5, .int z5), (6, .int z6), (7, .int v26), (8, .int v31)]) hl [1, 2, 3, 4, 5, 6, 7, 8, 0] rfl
        refine lv_iconst (v := 0) C.1 C.2.1 dX12_could_133 (by decide) ?_
        refine lv_istore (lv' := [(9, .int 0), (0, .ref (ad 0)), (1, .int z1), (2, .int z2), (3, .int z3), (4, .int z4), (5, .int z5), (6, .int z6), (7, .int v26), (8, .int v31)]) C.1 C.2.1 dX12_could_134 hl (by decide) rfl (fun ls hl => ?_)
        replace hl := lv_sub (l' := [(0, .ref (ad 0)), (1, .int z1), (2, .int z2), (3, .int z3), (4, .int z4), (5, .int z5), (6, .int z6), (7, .int v26), (8, .int v31), (9, .int 0)]) hl [1, 2, 3, 4, 5, 6, 7, 8, 9, 0] rfl
        exact wLX12_could_0_136 C hK hJ (wGX12_could_0_204 C hK hJ ih) 5000 _ _ _ _ _ _ _ _ _ _ _ _ _ h hP hS hl
      · rw [if_neg c96] at h
        refine lv_goto (tgt := 204) C.1 C.2.1 dX12_could_99 (by decide) ?_
        exact wGX12_could_0_204 C hK hJ ih _ _ _ _ _ _ _ _ _ _ h hP hS hl
set_option maxHeartbeats 4000000 in
set_option maxRecDepth 100000 in
theorem wLX12_could_0_210 {p : Program} {l : Launch} {e : Env} {s : State} {m : MethodId} {args : Array Value} {below : List Frame} {meth : Method} {c : Code} {D : va_G} {cy : Nat → ClassId} {ad st : Nat → Nat} (C : Cx RX12 cX12_could 10 (some .int) wsX12_could p s m args meth c) (hK : Ky D [(cy 0, .int), (cy 1, .long), (cy 2, .boolean), (cy 3, .byte), (cy 4, .object "HissHorn$Text")] st s) (hJ : JM ad st) {r : Int32} {u' : SX} {k234 : Int32 → Int32 → Int32 → SX → Option (Int32 × SX)} (hk234 : ∀ (z3 : Int32) (z4 : Int32) (z5 : Int32) (u : SX) (H : Heap) (locs : List Loc) (ls : Array Slot), k234 z3 z4 z5 u = some (r, u') → va_P D vwCl (VM cy ad st u) H → va_S (Ax (AM ad) s.heap.size) s.heap H locs → lv_has ls 10 [(0, .ref (ad 0)), (3, .int z3), (4, .int z4), (5, .int z5)] → W p l e rmX12_could_0 s m args below meth c H locs 0 0 (MQ below (Qi D (VM cy ad st) (AM ad) s.heap.size r u') args s 0 0 (Ax (AM ad) s.heap.size)) (F0 m 234 ls [])) : ∀ (n : Nat) (z3 : Int32) (z4 : Int32) (z5 : Int32) (u : SX) (H : Heap) (locs : List Loc) (ls : Array Slot), LX12_could_0_210 k234 n z3 z4 z5 u = some (r, u') → va_P D vwCl (VM cy ad st u) H → va_S (Ax (AM ad) s.heap.size) s.heap H locs → lv_has ls 10 [(0, .ref (ad 0)), (3, .int z3), (4, .int z4), (5, .int z5)] → W p l e rmX12_could_0 s m args below meth c H locs 0 0 (MQ below (Qi D (VM cy ad st) (AM ad) s.heap.size r u') args s 0 0 (Ax (AM ad) s.heap.size)) (F0 m 210 ls []) := by
  intro n
  induction n with
  | zero =>
    intro z3 z4 z5 u H locs ls h
    exact absurd h (by intro q; cases q)
  | succ n ih =>
    intro z3 z4 z5 u H locs ls h hP hS hl
    rw [LX12_could_0_210] at h
    refine lv_iload C.1 C.2.1 dX12_could_210 (lv_at hl 2 rfl) ?_
    refine lv_sipush (v := 400) C.1 C.2.1 dX12_could_212 (by decide) ?_
    refine lv_icmp_gt (tgt := 234) C.1 C.2.1 dX12_could_215 (by decide) (fun c215 => ?_) (fun c215 => ?_)
    · rw [if_pos c215] at h
      exact hk234 _ _ _ _ _ _ _ h hP hS hl
    · rw [if_neg c215] at h
      refine lv_aload_n C.1 C.2.1 dX12_could_218 rfl (lv_at hl 0 rfl) ?_
      refine gM_0_fine C hX12_could_0_X12 hK hP mX12_could_0_3 dX12_could_219 ?_
      refine lv_iload C.1 C.2.1 dX12_could_222 (lv_at hl 2 rfl) ?_
      obtain ⟨hg45, h⟩ := gd_some h
      refine lM_24 C hK hP hg45 dX12_could_224 ?_
      refine lv_if_ne (tgt := 234) C.1 C.2.1 dX12_could_225 (by decide) (fun c225 => ?_) (fun c225 => ?_)
      · rw [if_neg c225] at h
        exact hk234 _ _ _ _ _ _ _ h hP hS hl
      · rw [if_pos c225] at h
        refine lv_iinc (v := z4 + 1) (lv' := [(4, .int (z4 + 1)), (0, .ref (ad 0)), (3, .int z3), (5, .int z5)]) C.1 C.2.1 dX12_could_228 hl (k := 2) rfl rfl (by decide) rfl (fun ls hl => ?_)
        replace hl := lv_sub (l' := [(0, .ref (ad 0)), (3, .int z3), (4, .int (z4 + 1)), (5, .int z5)]) hl [1, 2, 0, 3] rfl
        refine lv_goto (tgt := 210) C.1 C.2.1 dX12_could_231 (by decide) ?_
        exact ih _ _ _ _ _ _ _ h hP hS hl
set_option maxHeartbeats 4000000 in
set_option maxRecDepth 100000 in
theorem wLX12_could_0_234 {p : Program} {l : Launch} {e : Env} {s : State} {m : MethodId} {args : Array Value} {below : List Frame} {meth : Method} {c : Code} {D : va_G} {cy : Nat → ClassId} {ad st : Nat → Nat} (C : Cx RX12 cX12_could 10 (some .int) wsX12_could p s m args meth c) (hK : Ky D [(cy 0, .int), (cy 1, .long), (cy 2, .boolean), (cy 3, .byte), (cy 4, .object "HissHorn$Text")] st s) (hJ : JM ad st) {r : Int32} {u' : SX} {k255 : Int32 → Int32 → Int32 → SX → Option (Int32 × SX)} (hk255 : ∀ (z3 : Int32) (z4 : Int32) (z5 : Int32) (u : SX) (H : Heap) (locs : List Loc) (ls : Array Slot), k255 z3 z4 z5 u = some (r, u') → va_P D vwCl (VM cy ad st u) H → va_S (Ax (AM ad) s.heap.size) s.heap H locs → lv_has ls 10 [(3, .int z3), (4, .int z4), (5, .int z5)] → W p l e rmX12_could_0 s m args below meth c H locs 0 0 (MQ below (Qi D (VM cy ad st) (AM ad) s.heap.size r u') args s 0 0 (Ax (AM ad) s.heap.size)) (F0 m 255 ls [])) : ∀ (n : Nat) (z3 : Int32) (z4 : Int32) (z5 : Int32) (u : SX) (H : Heap) (locs : List Loc) (ls : Array Slot), LX12_could_0_234 k255 n z3 z4 z5 u = some (r, u') → va_P D vwCl (VM cy ad st u) H → va_S (Ax (AM ad) s.heap.size) s.heap H locs → lv_has ls 10 [(0, .ref (ad 0)), (3, .int z3), (4, .int z4), (5, .int z5)] → W p l e rmX12_could_0 s m args below meth c H locs 0 0 (MQ below (Qi D (VM cy ad st) (AM ad) s.heap.size r u') args s 0 0 (Ax (AM ad) s.heap.size)) (F0 m 234 ls []) := by
  intro n
  induction n with
  | zero =>
    intro z3 z4 z5 u H locs ls h
    exact absurd h (by intro q; cases q)
  | succ n ih =>
    intro z3 z4 z5 u H locs ls h hP hS hl
    rw [LX12_could_0_234] at h
    refine lv_iload C.1 C.2.1 dX12_could_234 (lv_at hl 3 rfl) ?_
    refine lv_if_lt (tgt := 255) C.1 C.2.1 dX12_could_236 (by decide) (fun c236 => ?_) (fun c236 => ?_)
    · rw [if_pos c236] at h
      exact hk255 _ _ _ _ _ _ _ h hP hS (lv_sub hl [1, 2, 3] rfl)
    · rw [if_neg c236] at h
      refine lv_aload_n C.1 C.2.1 dX12_could_239 rfl (lv_at hl 0 rfl) ?_
      refine gM_0_fine C hX12_could_0_X12 hK hP mX12_could_0_3 dX12_could_240 ?_
      refine lv_iload C.1 C.2.1 dX12_could_243 (lv_at hl 3 rfl) ?_
      obtain ⟨hg46, h⟩ := gd_some h
      refine lM_24 C hK hP hg46 dX12_could_245 ?_
      refine lv_if_ne (tgt := 255) C.1 C.2.1 dX12_could_246 (by decide) (fun c246 => ?_) (fun c246 => ?_)
      · rw [if_neg c246] at h
        exact hk255 _ _ _ _ _ _ _ h hP hS (lv_sub hl [1, 2, 3] rfl)
      · rw [if_pos c246] at h
        refine lv_iinc (v := z5 + (-1)) (lv' := [(5, .int (z5 + (-1))), (0, .ref (ad 0)), (3, .int z3), (4, .int z4)]) C.1 C.2.1 dX12_could_249 hl (k := 3) rfl rfl (by decide) rfl (fun ls hl => ?_)
        replace hl := lv_sub (l' := [(0, .ref (ad 0)), (3, .int z3), (4, .int z4), (5, .int (z5 + (-1)))]) hl [1, 2, 3, 0] rfl
        refine lv_goto (tgt := 234) C.1 C.2.1 dX12_could_252 (by decide) ?_
        exact ih _ _ _ _ _ _ _ h hP hS hl
set_option maxHeartbeats 4000000 in
set_option maxRecDepth 100000 in
theorem wGX12_could_0_255 {p : Program} {l : Launch} {e : Env} {s : State} {m : MethodId} {args : Array Value} {below : List Frame} {meth : Method} {c : Code} {D : va_G} {cy : Nat → ClassId} {ad st : Nat → Nat} (C : Cx RX12 cX12_could 10 (some .int) wsX12_could p s m args meth c) (hK : Ky D [(cy 0, .int), (cy 1, .long), (cy 2, .boolean), (cy 3, .byte), (cy 4, .object "HissHorn$Text")] st s) (hJ : JM ad st) {r : Int32} {u' : SX}   (z3 : Int32) (z4 : Int32) (z5 : Int32) (u : SX) (H : Heap) (locs : List Loc) (ls : Array Slot) (h : GX12_could_0_255 z3 z4 z5 u = some (r, u')) (hP : va_P D vwCl (VM cy ad st u) H) (hS : va_S (Ax (AM ad) s.heap.size) s.heap H locs) (hl : lv_has ls 10 [(3, .int z3), (4, .int z4), (5, .int z5)]) : W p l e rmX12_could_0 s m args below meth c H locs 0 0 (MQ below (Qi D (VM cy ad st) (AM ad) s.heap.size r u') args s 0 0 (Ax (AM ad) s.heap.size)) (F0 m 255 ls []) := by
  unfold GX12_could_0_255 at h
  refine lv_iload C.1 C.2.1 dX12_could_255 (lv_at hl 1 rfl) ?_
  refine lv_sipush (v := 400) C.1 C.2.1 dX12_could_257 (by decide) ?_
  refine lv_icmp_le (tgt := 267) C.1 C.2.1 dX12_could_260 (by decide) (fun c260 => ?_) (fun c260 => ?_)
  · rw [if_pos c260] at h
    refine lv_iload_n C.1 C.2.1 dX12_could_267 rfl (lv_at hl 0 rfl) ?_
    refine lv_if_ne (tgt := 276) C.1 C.2.1 dX12_could_268 (by decide) (fun c268 => ?_) (fun c268 => ?_)
    · rw [if_neg c268] at h
      refine lv_iload C.1 C.2.1 dX12_could_276 (lv_at hl 2 rfl) ?_
      cases h
      exact rt_i C hP hS dX12_could_278
    · rw [if_pos c268] at h
      refine lv_iload C.1 C.2.1 dX12_could_271 (lv_at hl 1 rfl) ?_
      refine lv_goto (tgt := 278) C.1 C.2.1 dX12_could_273 (by decide) ?_
      cases h
      exact rt_i C hP hS dX12_could_278
  · rw [if_neg c260] at h
    refine lv_iconst (v := (-1)) C.1 C.2.1 dX12_could_263 (by decide) ?_
    refine lv_goto (tgt := 278) C.1 C.2.1 dX12_could_264 (by decide) ?_
    cases h
    exact rt_i C hP hS dX12_could_278
set_option maxHeartbeats 4000000 in
set_option maxRecDepth 100000 in
theorem wGX12_could_0_76 {p : Program} {l : Launch} {e : Env} {s : State} {m : MethodId} {args : Array Value} {below : List Frame} {meth : Method} {c : Code} {D : va_G} {cy : Nat → ClassId} {ad st : Nat → Nat} (C : Cx RX12 cX12_could 10 (some .int) wsX12_could p s m args meth c) (hK : Ky D [(cy 0, .int), (cy 1, .long), (cy 2, .boolean), (cy 3, .byte), (cy 4, .object "HissHorn$Text")] st s) (hJ : JM ad st) {r : Int32} {u' : SX}   (z1 : Int32) (z2 : Int32) (z3 : Int32) (z4 : Int32) (z5 : Int32) (u : SX) (H : Heap) (locs : List Loc) (ls : Array Slot) (h : GX12_could_0_76 z1 z2 z3 z4 z5 u = some (r, u')) (hP : va_P D vwCl (VM cy ad st u) H) (hS : va_S (Ax (AM ad) s.heap.size) s.heap H locs) (hl : lv_has ls 10 [(0, .ref (ad 0)), (1, .int z1), (2, .int z2), (3, .int z3), (4, .int z4), (5, .int z5)]) : W p l e rmX12_could_0 s m args below meth c H locs 0 0 (MQ below (Qi D (VM cy ad st) (AM ad) s.heap.size r u') args s 0 0 (Ax (AM ad) s.heap.size)) (F0 m 76 ls []) := by
  unfold GX12_could_0_76 at h
  refine lv_iconst (v := 0) C.1 C.2.1 dX12_could_76 (by decide) ?_
  refine lv_istore (lv' := [(6, .int 0), (0, .ref (ad 0)), (1, .int z1), (2, .int z2), (3, .int z3), (4, .int z4), (5, .int z5)]) C.1 C.2.1 dX12_could_77 hl (by decide) rfl (fun ls hl => ?_)
  replace hl := lv_sub (l' := [(0, .ref (ad 0)), (1, .int z1), (2, .int z2), (3, .int z3), (4, .int z4), (5, .int z5), (6, .int 0)]) hl [1, 2, 3, 4, 5, 6, 0] rfl
  exact wLX12_could_0_79 C hK hJ (wLX12_could_0_210 C hK hJ (wLX12_could_0_234 C hK hJ (wGX12_could_0_255 C hK hJ ) 5000) 5000) 5000 _ _ _ _ _ _ _ _ _ _ h hP hS hl
set_option maxHeartbeats 4000000 in
set_option maxRecDepth 100000 in
theorem wX12_could_0 {p : Program} {l : Launch} {e : Env} {s : State} {m : MethodId} {args : Array Value} {below : List Frame} {meth : Method} {c : Code} {D : va_G} {cy : Nat → ClassId} {ad st : Nat → Nat} (C : Cx RX12 cX12_could 10 (some .int) wsX12_could p s m args meth c) (hK : Ky D [(cy 0, .int), (cy 1, .long), (cy 2, .boolean), (cy 3, .byte), (cy 4, .object "HissHorn$Text")] st s) (hJ : JM ad st) (x1 : Int32) (x2 : Int32) (x3 : Int32) {u : SX} {r : Int32} {u' : SX} {H : Heap} {locs : List Loc} {ls : Array Slot} (h : fX12_could_0 x1 x2 x3 u = some (r, u')) (hP : va_P D vwCl (VM cy ad st u) H) (hS : va_S (Ax (AM ad) s.heap.size) s.heap H locs) (hl : lv_has ls 10 [(0, .ref (ad 0)), (1, .int x1), (2, .int x2), (3, .int x3)]) : W p l e rmX12_could_0 s m args below meth c H locs 0 0 (MQ below (Qi D (VM cy ad st) (AM ad) s.heap.size r u') args s 0 0 (Ax (AM ad) s.heap.size)) (F0 m 0 ls []) := by
  unfold fX12_could_0 at h
  refine lv_aload_n C.1 C.2.1 dX12_could_0 rfl (lv_at hl 0 rfl) ?_
  refine lv_iconst (v := 0) C.1 C.2.1 dX12_could_1 (by decide) ?_
  refine pM_0_thrown C hX12_could_0_X12 hK hP hJ hS mX12_could_0_1 dX12_could_2 (fun H locs hP hS => ?_)
  obtain ⟨u1, hu2, h⟩ := lt_some h
  rw [← hu2] at hP
  refine lv_aload_n C.1 C.2.1 dX12_could_5 rfl (lv_at hl 0 rfl) ?_
  refine lv_iload_n C.1 C.2.1 dX12_could_6 rfl (lv_at hl 1 rfl) ?_
  obtain ⟨⟨r3, u4⟩, hc5, h⟩ := bd_some h
  try dsimp only at h
  refine cg_i (As := [.int x1]) (rest := []) (AM_ge hJ) C hK hP hS (metX12_isPart_0 l D cy ad st hJ _ x1 hc5) (cwV 1 C.2.2.2.2.2.1 gX12_could_X12_isPart rfl rfl rfl (by decide +kernel) ⟨(Nat.le_of_ble_eq_true rfl), (Nat.le_of_ble_eq_true rfl)⟩) 0 12 rfl rfl rfl hl.1 rfl (Nat.le_of_ble_eq_true rfl) dX12_could_7 ⟨Nat.zero_le _, Nat.zero_le _⟩ (fun H locs hP hS => ?_)
  refine lv_if_eq (tgt := 36) C.1 C.2.1 dX12_could_10 (by decide) (fun c10 => ?_) (fun c10 => ?_)
  · rw [if_pos c10] at h
    refine lv_iconst (v := (-1)) C.1 C.2.1 dX12_could_36 (by decide) ?_
    cases h
    exact rt_i C hP hS dX12_could_37
  · rw [if_neg c10] at h
    refine lv_aload_n C.1 C.2.1 dX12_could_13 rfl (lv_at hl 0 rfl) ?_
    refine lv_aload_n C.1 C.2.1 dX12_could_14 rfl (lv_at hl 0 rfl) ?_
    refine gM_0_partTold C hX12_could_0_X12 hK hP mX12_could_0_2 dX12_could_15 ?_
    refine lv_iload_n C.1 C.2.1 dX12_could_18 rfl (lv_at hl 1 rfl) ?_
    obtain ⟨hg6, h⟩ := gd_some h
    refine lM_10 C hK hP hg6 dX12_could_19 ?_
    refine lv_iload_n C.1 C.2.1 dX12_could_20 rfl (lv_at hl 2 rfl) ?_
    obtain ⟨⟨r7, u8⟩, hc9, h⟩ := bd_some h
    try dsimp only at h
    refine cg_i (As := [.int (u4.2.1 10 x1.toNatClampNeg), .int x2]) (rest := []) (AM_ge hJ) C hK hP hS (metX12_isKnown_0 l D cy ad st hJ _ (u4.2.1 10 x1.toNatClampNeg) x2 hc9) (cwV 2 C.2.2.2.2.2.1 gX12_could_X12_isKnown rfl rfl rfl (by decide +kernel) ⟨(Nat.le_of_ble_eq_true rfl), (Nat.le_of_ble_eq_true rfl)⟩) 0 12 rfl rfl rfl hl.1 rfl (Nat.le_of_ble_eq_true rfl) dX12_could_21 ⟨Nat.zero_le _, Nat.zero_le _⟩ (fun H locs hP hS => ?_)
    refine lv_if_eq (tgt := 36) C.1 C.2.1 dX12_could_24 (by decide) (fun c24 => ?_) (fun c24 => ?_)
    · rw [if_pos c24] at h
      refine lv_iconst (v := (-1)) C.1 C.2.1 dX12_could_36 (by decide) ?_
      cases h
      exact rt_i C hP hS dX12_could_37
    · rw [if_neg c24] at h
      refine lv_iload_n C.1 C.2.1 dX12_could_27 rfl (lv_at hl 3 rfl) ?_
      refine lv_iconst (v := 0) C.1 C.2.1 dX12_could_28 (by decide) ?_
      refine lv_iconst (v := 1) C.1 C.2.1 dX12_could_29 (by decide) ?_
      obtain ⟨r10, hc12, h⟩ := bd_some h
      refine cs_i (As := [.int x3, .int 0, .int 1]) (rest := []) (AM_ge hJ) C hK hP hS (metX12_isIn l D cy st _ x3 0 1 hc12) (va_cwS 3 C.2.2.2.2.2.1 gX12_could_X12_isIn rfl rfl rfl (by decide +kernel) ⟨(Nat.le_of_ble_eq_true rfl), (Nat.le_of_ble_eq_true rfl)⟩) rfl hl.1 rfl (Nat.le_of_ble_eq_true rfl) dX12_could_30 ⟨Nat.zero_le _, Nat.zero_le _⟩ (fun H locs hP hS => ?_)
      refine lv_if_ne (tgt := 38) C.1 C.2.1 dX12_could_33 (by decide) (fun c33 => ?_) (fun c33 => ?_)
      · rw [if_neg c33] at h
        refine lv_aload_n C.1 C.2.1 dX12_could_38 rfl (lv_at hl 0 rfl) ?_
        refine lv_iload_n C.1 C.2.1 dX12_could_39 rfl (lv_at hl 2 rfl) ?_
        obtain ⟨⟨r13, u14⟩, hc15, h⟩ := bd_some h
        try dsimp only at h
        refine cg_v (As := [.int x2]) (rest := []) (AM_ge hJ) C hK hP hS (metX12_laySpansOf_0 l D cy ad st hJ _ x2 hc15) (cwV 1 C.2.2.2.2.2.1 gX12_could_X12_laySpansOf rfl rfl rfl (by decide +kernel) ⟨(Nat.le_of_ble_eq_true rfl), (Nat.le_of_ble_eq_true rfl)⟩) 0 12 rfl rfl rfl hl.1 rfl (Nat.le_of_ble_eq_true rfl) dX12_could_40 ⟨Nat.zero_le _, Nat.zero_le _⟩ (fun H locs hP hS => ?_)
        refine lv_iconst (v := 0) C.1 C.2.1 dX12_could_43 (by decide) ?_
        refine lv_istore (lv' := [(4, .int 0), (0, .ref (ad 0)), (1, .int x1), (2, .int x2), (3, .int x3)]) C.1 C.2.1 dX12_could_44 hl (by decide) rfl (fun ls hl => ?_)
        replace hl := lv_sub (l' := [(0, .ref (ad 0)), (1, .int x1), (2, .int x2), (3, .int x3), (4, .int 0)]) hl [1, 2, 3, 4, 0] rfl
        refine lv_sipush (v := 400) C.1 C.2.1 dX12_could_46 (by decide) ?_
        refine lv_istore (lv' := [(5, .int 400), (0, .ref (ad 0)), (1, .int x1), (2, .int x2), (3, .int x3), (4, .int 0)]) C.1 C.2.1 dX12_could_49 hl (by decide) rfl (fun ls hl => ?_)
        replace hl := lv_sub (l' := [(0, .ref (ad 0)), (1, .int x1), (2, .int x2), (3, .int x3), (4, .int 0), (5, .int 400)]) hl [1, 2, 3, 4, 5, 0] rfl
        refine lv_iconst (v := 0) C.1 C.2.1 dX12_could_51 (by decide) ?_
        refine lv_istore (lv' := [(6, .int 0), (0, .ref (ad 0)), (1, .int x1), (2, .int x2), (3, .int x3), (4, .int 0), (5, .int 400)]) C.1 C.2.1 dX12_could_52 hl (by decide) rfl (fun ls hl => ?_)
        replace hl := lv_sub (l' := [(0, .ref (ad 0)), (1, .int x1), (2, .int x2), (3, .int x3), (4, .int 0), (5, .int 400), (6, .int 0)]) hl [1, 2, 3, 4, 5, 6, 0] rfl
        exact wLX12_could_0_54 C hK hJ (wGX12_could_0_76 C hK hJ ) 5000 _ _ _ _ _ _ _ _ _ _ h hP hS hl
      · rw [if_pos c33] at h
        refine lv_iconst (v := (-1)) C.1 C.2.1 dX12_could_36 (by decide) ?_
        cases h
        exact rt_i C hP hS dX12_could_37
theorem metX12_could_0 (l : Launch) (D : va_G) (cy : Nat → ClassId) (ad st : Nat → Nat) (hJ : JM ad st) (sz : Nat) (x1 : Int32) (x2 : Int32) (x3 : Int32) {u : SX} {r : Int32} {u' : SX} (h : fX12_could_0 x1 x2 x3 u = some (r, u')) : Met l yX12_could wsX12_could rmX12_could_0 (va_Pc [.ref (ad 0), .int x1, .int x2, .int x3] (Px D [(cy 0, .int), (cy 1, .long), (cy 2, .boolean), (cy 3, .byte), (cy 4, .object "HissHorn$Text")] st (VM cy ad st) sz u)) (Qi D (VM cy ad st) (AM ad) sz r u') 0 0 (Ax (AM ad) sz) := by
  refine Met.ofW (cc := cX12_could) (maxL := 10) (ret := (some .int)) (by decide) rfl ?_
  intro p e s m args below meth c s₁ B hml hv
  obtain ⟨rfl, hsz, hP, hK⟩ := hv
  subst hsz
  have C : Cx RX12 cX12_could 10 (some .int) wsX12_could p s m _ meth c := ⟨B.exec, B.bytes, hml, B.returns, findClass_of_methodNamed B.named, atoms_spec (ws := wsX12_could) B.pre, B.notSynchronized⟩
  have hl := lv_entry ([.ref (ad 0), .int x1, .int x2, .int x3]) (n := 10) (Nat.le_of_ble_eq_true rfl)
  rw [lg_entry_eq]
  exact wX12_could_0 C hK hJ x1 x2 x3 h hP va_S.rf hl

theorem zdJ6_bitCount_0f7a4_0 : (and (and (and (and (and (zk cJ6_bitCount_0f7a4 0 (.iload_n 0) 1) (zk cJ6_bitCount_0f7a4 1 (.iload_n 0) 1)) (and (zk cJ6_bitCount_0f7a4 2 (.iconst 1) 1) (zk cJ6_bitCount_0f7a4 3 (.iushr) 1))) (and (and (zk cJ6_bitCount_0f7a4 4 (.ldc_w 265) 3) (zk cJ6_bitCount_0f7a4 7 (.iand) 1)) (and (zk cJ6_bitCount_0f7a4 8 (.isub) 1) (zk cJ6_bitCount_0f7a4 9 (.istore_n 0) 1)))) (and (and (and (zk cJ6_bitCount_0f7a4 10 (.iload_n 0) 1) (zk cJ6_bitCount_0f7a4 11 (.ldc_w 266) 3)) (and (zk cJ6_bitCount_0f7a4 14 (.iand) 1) (zk cJ6_bitCount_0f7a4 15 (.iload_n 0) 1))) (and (and (zk cJ6_bitCount_0f7a4 16 (.iconst 2) 1) (zk cJ6_bitCount_0f7a4 17 (.iushr) 1)) (and (zk cJ6_bitCount_0f7a4 18 (.ldc_w 266) 3) (zk cJ6_bitCount_0f7a4 21 (.iand) 1))))) (and (and (and (and (zk cJ6_bitCount_0f7a4 22 (.iadd) 1) (zk cJ6_bitCount_0f7a4 23 (.istore_n 0) 1)) (and (zk cJ6_bitCount_0f7a4 24 (.iload_n 0) 1) (zk cJ6_bitCount_0f7a4 25 (.iload_n 0) 1))) (and (and (zk cJ6_bitCount_0f7a4 26 (.iconst 4) 1) (zk cJ6_bitCount_0f7a4 27 (.iushr) 1)) (and (zk cJ6_bitCount_0f7a4 28 (.iadd) 1) (zk cJ6_bitCount_0f7a4 29 (.ldc_w 267) 3)))) (and (and (and (zk cJ6_bitCount_0f7a4 32 (.iand) 1) (zk cJ6_bitCount_0f7a4 33 (.istore_n 0) 1)) (and (zk cJ6_bitCount_0f7a4 34 (.iload_n 0) 1) (zk cJ6_bitCount_0f7a4 35 (.iload_n 0) 1))) (and (and (zk cJ6_bitCount_0f7a4 36 (.bipush 8) 2) (zk cJ6_bitCount_0f7a4 38 (.iushr) 1)) (and (zk cJ6_bitCount_0f7a4 39 (.iadd) 1) (zk cJ6_bitCount_0f7a4 40 (.istore_n 0) 1)))))) = true := by decide +kernel
theorem dJ6_bitCount_0f7a4_0 : decode cJ6_bitCount_0f7a4 0 = .ok (.iload_n 0, 1) := zk_of (zk_l (zk_l (zk_l (zk_l (zk_l zdJ6_bitCount_0f7a4_0)))))
theorem dJ6_bitCount_0f7a4_1 : decode cJ6_bitCount_0f7a4 1 = .ok (.iload_n 0, 1) := zk_of (zk_r (zk_l (zk_l (zk_l (zk_l zdJ6_bitCount_0f7a4_0)))))
theorem dJ6_bitCount_0f7a4_2 : decode cJ6_bitCount_0f7a4 2 = .ok (.iconst 1, 1) := zk_of (zk_l (zk_r (zk_l (zk_l (zk_l zdJ6_bitCount_0f7a4_0)))))
theorem dJ6_bitCount_0f7a4_3 : decode cJ6_bitCount_0f7a4 3 = .ok (.iushr, 1) := zk_of (zk_r (zk_r (zk_l (zk_l (zk_l zdJ6_bitCount_0f7a4_0)))))
theorem dJ6_bitCount_0f7a4_4 : decode cJ6_bitCount_0f7a4 4 = .ok (.ldc_w 265, 3) := zk_of (zk_l (zk_l (zk_r (zk_l (zk_l zdJ6_bitCount_0f7a4_0)))))
theorem dJ6_bitCount_0f7a4_7 : decode cJ6_bitCount_0f7a4 7 = .ok (.iand, 1) := zk_of (zk_r (zk_l (zk_r (zk_l (zk_l zdJ6_bitCount_0f7a4_0)))))
theorem dJ6_bitCount_0f7a4_8 : decode cJ6_bitCount_0f7a4 8 = .ok (.isub, 1) := zk_of (zk_l (zk_r (zk_r (zk_l (zk_l zdJ6_bitCount_0f7a4_0)))))
theorem dJ6_bitCount_0f7a4_9 : decode cJ6_bitCount_0f7a4 9 = .ok (.istore_n 0, 1) := zk_of (zk_r (zk_r (zk_r (zk_l (zk_l zdJ6_bitCount_0f7a4_0)))))
theorem dJ6_bitCount_0f7a4_10 : decode cJ6_bitCount_0f7a4 10 = .ok (.iload_n 0, 1) := zk_of (zk_l (zk_l (zk_l (zk_r (zk_l zdJ6_bitCount_0f7a4_0)))))
theorem dJ6_bitCount_0f7a4_11 : decode cJ6_bitCount_0f7a4 11 = .ok (.ldc_w 266, 3) := zk_of (zk_r (zk_l (zk_l (zk_r (zk_l zdJ6_bitCount_0f7a4_0)))))
theorem dJ6_bitCount_0f7a4_14 : decode cJ6_bitCount_0f7a4 14 = .ok (.iand, 1) := zk_of (zk_l (zk_r (zk_l (zk_r (zk_l zdJ6_bitCount_0f7a4_0)))))
theorem dJ6_bitCount_0f7a4_15 : decode cJ6_bitCount_0f7a4 15 = .ok (.iload_n 0, 1) := zk_of (zk_r (zk_r (zk_l (zk_r (zk_l zdJ6_bitCount_0f7a4_0)))))
theorem dJ6_bitCount_0f7a4_16 : decode cJ6_bitCount_0f7a4 16 = .ok (.iconst 2, 1) := zk_of (zk_l (zk_l (zk_r (zk_r (zk_l zdJ6_bitCount_0f7a4_0)))))
theorem dJ6_bitCount_0f7a4_17 : decode cJ6_bitCount_0f7a4 17 = .ok (.iushr, 1) := zk_of (zk_r (zk_l (zk_r (zk_r (zk_l zdJ6_bitCount_0f7a4_0)))))
theorem dJ6_bitCount_0f7a4_18 : decode cJ6_bitCount_0f7a4 18 = .ok (.ldc_w 266, 3) := zk_of (zk_l (zk_r (zk_r (zk_r (zk_l zdJ6_bitCount_0f7a4_0)))))
theorem dJ6_bitCount_0f7a4_21 : decode cJ6_bitCount_0f7a4 21 = .ok (.iand, 1) := zk_of (zk_r (zk_r (zk_r (zk_r (zk_l zdJ6_bitCount_0f7a4_0)))))
theorem dJ6_bitCount_0f7a4_22 : decode cJ6_bitCount_0f7a4 22 = .ok (.iadd, 1) := zk_of (zk_l (zk_l (zk_l (zk_l (zk_r zdJ6_bitCount_0f7a4_0)))))
theorem dJ6_bitCount_0f7a4_23 : decode cJ6_bitCount_0f7a4 23 = .ok (.istore_n 0, 1) := zk_of (zk_r (zk_l (zk_l (zk_l (zk_r zdJ6_bitCount_0f7a4_0)))))
theorem dJ6_bitCount_0f7a4_24 : decode cJ6_bitCount_0f7a4 24 = .ok (.iload_n 0, 1) := zk_of (zk_l (zk_r (zk_l (zk_l (zk_r zdJ6_bitCount_0f7a4_0)))))
theorem dJ6_bitCount_0f7a4_25 : decode cJ6_bitCount_0f7a4 25 = .ok (.iload_n 0, 1) := zk_of (zk_r (zk_r (zk_l (zk_l (zk_r zdJ6_bitCount_0f7a4_0)))))
theorem dJ6_bitCount_0f7a4_26 : decode cJ6_bitCount_0f7a4 26 = .ok (.iconst 4, 1) := zk_of (zk_l (zk_l (zk_r (zk_l (zk_r zdJ6_bitCount_0f7a4_0)))))
theorem dJ6_bitCount_0f7a4_27 : decode cJ6_bitCount_0f7a4 27 = .ok (.iushr, 1) := zk_of (zk_r (zk_l (zk_r (zk_l (zk_r zdJ6_bitCount_0f7a4_0)))))
theorem dJ6_bitCount_0f7a4_28 : decode cJ6_bitCount_0f7a4 28 = .ok (.iadd, 1) := zk_of (zk_l (zk_r (zk_r (zk_l (zk_r zdJ6_bitCount_0f7a4_0)))))
theorem dJ6_bitCount_0f7a4_29 : decode cJ6_bitCount_0f7a4 29 = .ok (.ldc_w 267, 3) := zk_of (zk_r (zk_r (zk_r (zk_l (zk_r zdJ6_bitCount_0f7a4_0)))))
theorem dJ6_bitCount_0f7a4_32 : decode cJ6_bitCount_0f7a4 32 = .ok (.iand, 1) := zk_of (zk_l (zk_l (zk_l (zk_r (zk_r zdJ6_bitCount_0f7a4_0)))))
theorem dJ6_bitCount_0f7a4_33 : decode cJ6_bitCount_0f7a4 33 = .ok (.istore_n 0, 1) := zk_of (zk_r (zk_l (zk_l (zk_r (zk_r zdJ6_bitCount_0f7a4_0)))))
theorem dJ6_bitCount_0f7a4_34 : decode cJ6_bitCount_0f7a4 34 = .ok (.iload_n 0, 1) := zk_of (zk_l (zk_r (zk_l (zk_r (zk_r zdJ6_bitCount_0f7a4_0)))))
theorem dJ6_bitCount_0f7a4_35 : decode cJ6_bitCount_0f7a4 35 = .ok (.iload_n 0, 1) := zk_of (zk_r (zk_r (zk_l (zk_r (zk_r zdJ6_bitCount_0f7a4_0)))))
theorem dJ6_bitCount_0f7a4_36 : decode cJ6_bitCount_0f7a4 36 = .ok (.bipush 8, 2) := zk_of (zk_l (zk_l (zk_r (zk_r (zk_r zdJ6_bitCount_0f7a4_0)))))
theorem dJ6_bitCount_0f7a4_38 : decode cJ6_bitCount_0f7a4 38 = .ok (.iushr, 1) := zk_of (zk_r (zk_l (zk_r (zk_r (zk_r zdJ6_bitCount_0f7a4_0)))))
theorem dJ6_bitCount_0f7a4_39 : decode cJ6_bitCount_0f7a4 39 = .ok (.iadd, 1) := zk_of (zk_l (zk_r (zk_r (zk_r (zk_r zdJ6_bitCount_0f7a4_0)))))
theorem dJ6_bitCount_0f7a4_40 : decode cJ6_bitCount_0f7a4 40 = .ok (.istore_n 0, 1) := zk_of (zk_r (zk_r (zk_r (zk_r (zk_r zdJ6_bitCount_0f7a4_0)))))
theorem zdJ6_bitCount_0f7a4_41 : (and (and (and (and (zk cJ6_bitCount_0f7a4 41 (.iload_n 0) 1) (zk cJ6_bitCount_0f7a4 42 (.iload_n 0) 1)) (zk cJ6_bitCount_0f7a4 43 (.bipush 16) 2)) (and (zk cJ6_bitCount_0f7a4 45 (.iushr) 1) (zk cJ6_bitCount_0f7a4 46 (.iadd) 1))) (and (and (and (zk cJ6_bitCount_0f7a4 47 (.istore_n 0) 1) (zk cJ6_bitCount_0f7a4 48 (.iload_n 0) 1)) (zk cJ6_bitCount_0f7a4 49 (.bipush 63) 2)) (and (zk cJ6_bitCount_0f7a4 51 (.iand) 1) (zk cJ6_bitCount_0f7a4 52 (.ireturn) 1)))) = true := by decide +kernel
theorem dJ6_bitCount_0f7a4_41 : decode cJ6_bitCount_0f7a4 41 = .ok (.iload_n 0, 1) := zk_of (zk_l (zk_l (zk_l (zk_l zdJ6_bitCount_0f7a4_41))))
theorem dJ6_bitCount_0f7a4_42 : decode cJ6_bitCount_0f7a4 42 = .ok (.iload_n 0, 1) := zk_of (zk_r (zk_l (zk_l (zk_l zdJ6_bitCount_0f7a4_41))))
theorem dJ6_bitCount_0f7a4_43 : decode cJ6_bitCount_0f7a4 43 = .ok (.bipush 16, 2) := zk_of (zk_r (zk_l (zk_l zdJ6_bitCount_0f7a4_41)))
theorem dJ6_bitCount_0f7a4_45 : decode cJ6_bitCount_0f7a4 45 = .ok (.iushr, 1) := zk_of (zk_l (zk_r (zk_l zdJ6_bitCount_0f7a4_41)))
theorem dJ6_bitCount_0f7a4_46 : decode cJ6_bitCount_0f7a4 46 = .ok (.iadd, 1) := zk_of (zk_r (zk_r (zk_l zdJ6_bitCount_0f7a4_41)))
theorem dJ6_bitCount_0f7a4_47 : decode cJ6_bitCount_0f7a4 47 = .ok (.istore_n 0, 1) := zk_of (zk_l (zk_l (zk_l (zk_r zdJ6_bitCount_0f7a4_41))))
theorem dJ6_bitCount_0f7a4_48 : decode cJ6_bitCount_0f7a4 48 = .ok (.iload_n 0, 1) := zk_of (zk_r (zk_l (zk_l (zk_r zdJ6_bitCount_0f7a4_41))))
theorem dJ6_bitCount_0f7a4_49 : decode cJ6_bitCount_0f7a4 49 = .ok (.bipush 63, 2) := zk_of (zk_r (zk_l (zk_r zdJ6_bitCount_0f7a4_41)))
theorem dJ6_bitCount_0f7a4_51 : decode cJ6_bitCount_0f7a4 51 = .ok (.iand, 1) := zk_of (zk_l (zk_r (zk_r zdJ6_bitCount_0f7a4_41)))
theorem dJ6_bitCount_0f7a4_52 : decode cJ6_bitCount_0f7a4 52 = .ok (.ireturn, 1) := zk_of (zk_r (zk_r (zk_r zdJ6_bitCount_0f7a4_41)))
/-- java/lang/Integer.bitCount(I)I -/
def rmJ6_bitCount_0f7a4 : Room := { frames := 0, cells := 0, slots := 0, locals := 0 }
theorem mJ6_bitCount_0f7a4_0 : Cond.constant RJ6 265 (1431655765) ∈ wsJ6_bitCount_0f7a4 := (List.mem_cons_of_mem _ (List.mem_of_getElem? (i := 0) rfl))
theorem mJ6_bitCount_0f7a4_1 : Cond.constant RJ6 266 (858993459) ∈ wsJ6_bitCount_0f7a4 := (List.mem_cons_of_mem _ (List.mem_of_getElem? (i := 1) rfl))
theorem mJ6_bitCount_0f7a4_2 : Cond.constant RJ6 267 (252645135) ∈ wsJ6_bitCount_0f7a4 := (List.mem_cons_of_mem _ (List.mem_of_getElem? (i := 2) rfl))
def fJ6_bitCount_0f7a4 (x0 : Int32) : Option Int32 := (lt (x0 - (((x0.toUInt32 >>> ((1 : Int32).toUInt32 &&& Int32.toUInt32 31)).toInt32) &&& 1431655765)) fun v1 => (lt ((v1 &&& 858993459) + (((v1.toUInt32 >>> ((2 : Int32).toUInt32 &&& Int32.toUInt32 31)).toInt32) &&& 858993459)) fun v3 => (lt ((v3 + ((v3.toUInt32 >>> ((4 : Int32).toUInt32 &&& Int32.toUInt32 31)).toInt32)) &&& 252645135) fun v5 => (lt (v5 + ((v5.toUInt32 >>> ((8 : Int32).toUInt32 &&& Int32.toUInt32 31)).toInt32)) fun v7 => (lt (v7 + ((v7.toUInt32 >>> ((16 : Int32).toUInt32 &&& Int32.toUInt32 31)).toInt32)) fun v9 => (some (v9 &&& 63)))))))
set_option maxHeartbeats 4000000 in
set_option maxRecDepth 100000 in
theorem wJ6_bitCount_0f7a4 {p : Program} {l : Launch} {e : Env} {s : State} {m : MethodId} {args : Array Value} {below : List Frame} {meth : Method} {c : Code} {D : va_G} {cy : Nat → ClassId} {st : Nat → Nat} (C : Cx RJ6 cJ6_bitCount_0f7a4 1 (some .int) wsJ6_bitCount_0f7a4 p s m args meth c) (hK : Ky D [(cy 0, .int), (cy 1, .long), (cy 2, .boolean), (cy 3, .byte), (cy 4, .object "HissHorn$Text")] st s) (x0 : Int32) {r : Int32} {H : Heap} {locs : List Loc} {ls : Array Slot} (h : fJ6_bitCount_0f7a4 x0 = some r) (hP : va_P D vwCl (V0 u00) H) (hS : va_S (Ax (A0) s.heap.size) s.heap H locs) (hl : lv_has ls 1 [(0, .int x0)]) : W p l e rmJ6_bitCount_0f7a4 s m args below meth c H locs 0 0 (MQ below (Qi D (V0) (A0) s.heap.size r u00) args s 0 0 (Ax (A0) s.heap.size)) (F0 m 0 ls []) := by
  unfold fJ6_bitCount_0f7a4 at h
  refine lv_iload_n C.1 C.2.1 dJ6_bitCount_0f7a4_0 rfl (lv_at hl 0 rfl) ?_
  refine lv_iload_n C.1 C.2.1 dJ6_bitCount_0f7a4_1 rfl (lv_at hl 0 rfl) ?_
  refine lv_iconst (v := 1) C.1 C.2.1 dJ6_bitCount_0f7a4_2 (by decide) ?_
  refine lv_iushr (v := (x0.toUInt32 >>> ((1 : Int32).toUInt32 &&& Int32.toUInt32 31)).toInt32) C.1 C.2.1 dJ6_bitCount_0f7a4_3 rfl ?_
  refine lv_ldcw C.1 C.2.1 C.2.2.2.2.1 (C.2.2.2.2.2.1 _ mJ6_bitCount_0f7a4_0) dJ6_bitCount_0f7a4_4 ?_
  refine lv_iand C.1 C.2.1 dJ6_bitCount_0f7a4_7 ?_
  refine lv_isub C.1 C.2.1 dJ6_bitCount_0f7a4_8 ?_
  refine lv_topi (fun v1 hv2 => ?_)
  replace h := lt_e hv2 h
  try dsimp only at h
  refine lv_istore_n (lv' := [(0, .int v1)]) C.1 C.2.1 dJ6_bitCount_0f7a4_9 rfl hl (by decide) rfl (fun ls hl => ?_)
  refine lv_iload_n C.1 C.2.1 dJ6_bitCount_0f7a4_10 rfl (lv_at hl 0 rfl) ?_
  refine lv_ldcw C.1 C.2.1 C.2.2.2.2.1 (C.2.2.2.2.2.1 _ mJ6_bitCount_0f7a4_1) dJ6_bitCount_0f7a4_11 ?_
  refine lv_iand C.1 C.2.1 dJ6_bitCount_0f7a4_14 ?_
  refine lv_iload_n C.1 C.2.1 dJ6_bitCount_0f7a4_15 rfl (lv_at hl 0 rfl) ?_
  refine lv_iconst (v := 2) C.1 C.2.1 dJ6_bitCount_0f7a4_16 (by decide) ?_
  refine lv_iushr (v := (v1.toUInt32 >>> ((2 : Int32).toUInt32 &&& Int32.toUInt32 31)).toInt32) C.1 C.2.1 dJ6_bitCount_0f7a4_17 rfl ?_
  refine lv_ldcw C.1 C.2.1 C.2.2.2.2.1 (C.2.2.2.2.2.1 _ mJ6_bitCount_0f7a4_1) dJ6_bitCount_0f7a4_18 ?_
  refine lv_iand C.1 C.2.1 dJ6_bitCount_0f7a4_21 ?_
  refine lv_iadd C.1 C.2.1 dJ6_bitCount_0f7a4_22 ?_
  refine lv_topi (fun v3 hv4 => ?_)
  replace h := lt_e hv4 h
  try dsimp only at h
  refine lv_istore_n (lv' := [(0, .int v3)]) C.1 C.2.1 dJ6_bitCount_0f7a4_23 rfl hl (by decide) rfl (fun ls hl => ?_)
  refine lv_iload_n C.1 C.2.1 dJ6_bitCount_0f7a4_24 rfl (lv_at hl 0 rfl) ?_
  refine lv_iload_n C.1 C.2.1 dJ6_bitCount_0f7a4_25 rfl (lv_at hl 0 rfl) ?_
  refine lv_iconst (v := 4) C.1 C.2.1 dJ6_bitCount_0f7a4_26 (by decide) ?_
  refine lv_iushr (v := (v3.toUInt32 >>> ((4 : Int32).toUInt32 &&& Int32.toUInt32 31)).toInt32) C.1 C.2.1 dJ6_bitCount_0f7a4_27 rfl ?_
  refine lv_iadd C.1 C.2.1 dJ6_bitCount_0f7a4_28 ?_
  refine lv_ldcw C.1 C.2.1 C.2.2.2.2.1 (C.2.2.2.2.2.1 _ mJ6_bitCount_0f7a4_2) dJ6_bitCount_0f7a4_29 ?_
  refine lv_iand C.1 C.2.1 dJ6_bitCount_0f7a4_32 ?_
  refine lv_topi (fun v5 hv6 => ?_)
  replace h := lt_e hv6 h
  try dsimp only at h
  refine lv_istore_n (lv' := [(0, .int v5)]) C.1 C.2.1 dJ6_bitCount_0f7a4_33 rfl hl (by decide) rfl (fun ls hl => ?_)
  refine lv_iload_n C.1 C.2.1 dJ6_bitCount_0f7a4_34 rfl (lv_at hl 0 rfl) ?_
  refine lv_iload_n C.1 C.2.1 dJ6_bitCount_0f7a4_35 rfl (lv_at hl 0 rfl) ?_
  refine lv_bipush (v := 8) C.1 C.2.1 dJ6_bitCount_0f7a4_36 (by decide) ?_
  refine lv_iushr (v := (v5.toUInt32 >>> ((8 : Int32).toUInt32 &&& Int32.toUInt32 31)).toInt32) C.1 C.2.1 dJ6_bitCount_0f7a4_38 rfl ?_
  refine lv_iadd C.1 C.2.1 dJ6_bitCount_0f7a4_39 ?_
  refine lv_topi (fun v7 hv8 => ?_)
  replace h := lt_e hv8 h
  try dsimp only at h
  refine lv_istore_n (lv' := [(0, .int v7)]) C.1 C.2.1 dJ6_bitCount_0f7a4_40 rfl hl (by decide) rfl (fun ls hl => ?_)
  refine lv_iload_n C.1 C.2.1 dJ6_bitCount_0f7a4_41 rfl (lv_at hl 0 rfl) ?_
  refine lv_iload_n C.1 C.2.1 dJ6_bitCount_0f7a4_42 rfl (lv_at hl 0 rfl) ?_
  refine lv_bipush (v := 16) C.1 C.2.1 dJ6_bitCount_0f7a4_43 (by decide) ?_
  refine lv_iushr (v := (v7.toUInt32 >>> ((16 : Int32).toUInt32 &&& Int32.toUInt32 31)).toInt32) C.1 C.2.1 dJ6_bitCount_0f7a4_45 rfl ?_
  refine lv_iadd C.1 C.2.1 dJ6_bitCount_0f7a4_46 ?_
  refine lv_topi (fun v9 hv10 => ?_)
  replace h := lt_e hv10 h
  try dsimp only at h
  refine lv_istore_n (lv' := [(0, .int v9)]) C.1 C.2.1 dJ6_bitCount_0f7a4_47 rfl hl (by decide) rfl (fun ls hl => ?_)
  refine lv_iload_n C.1 C.2.1 dJ6_bitCount_0f7a4_48 rfl (lv_at hl 0 rfl) ?_
  refine lv_bipush (v := 63) C.1 C.2.1 dJ6_bitCount_0f7a4_49 (by decide) ?_
  refine lv_iand C.1 C.2.1 dJ6_bitCount_0f7a4_51 ?_
  cases h
  exact rt_i C hP hS dJ6_bitCount_0f7a4_52
theorem metJ6_bitCount_0f7a4 (l : Launch) (D : va_G) (cy : Nat → ClassId) (st : Nat → Nat) (sz : Nat) (x0 : Int32) {r : Int32} (h : fJ6_bitCount_0f7a4 x0 = some r) : Met l yJ6_bitCount_0f7a4 wsJ6_bitCount_0f7a4 rmJ6_bitCount_0f7a4 (va_Pc [.int x0] (Px D [(cy 0, .int), (cy 1, .long), (cy 2, .boolean), (cy 3, .byte), (cy 4, .object "HissHorn$Text")] st V0 sz u00)) (Qi D V0 A0 sz r u00) 0 0 (Ax A0 sz) := by
  refine Met.ofW (cc := cJ6_bitCount_0f7a4) (maxL := 1) (ret := (some .int)) (by decide) rfl ?_
  intro p e s m args below meth c s₁ B hml hv
  obtain ⟨rfl, hsz, hP, hK⟩ := hv
  subst hsz
  have C : Cx RJ6 cJ6_bitCount_0f7a4 1 (some .int) wsJ6_bitCount_0f7a4 p s m _ meth c := ⟨B.exec, B.bytes, hml, B.returns, findClass_of_methodNamed B.named, atoms_spec (ws := wsJ6_bitCount_0f7a4) B.pre, B.notSynchronized⟩
  have hl := lv_entry ([.int x0]) (n := 1) (Nat.le_of_ble_eq_true rfl)
  rw [lg_entry_eq]
  exact wJ6_bitCount_0f7a4 C hK x0 h hP va_S.rf hl

theorem zdX12_isBetter_18 : (and (and (and (and (and (zk cX12_isBetter 18 (.istore_n 2) 1) (zk cX12_isBetter 19 (.iload_n 2) 1)) (and (zk cX12_isBetter 20 (.ifCond .lt 20) 3) (zk cX12_isBetter 40 (.iconst 1) 1))) (and (and (zk cX12_isBetter 41 (.goto 4) 3) (zk cX12_isBetter 45 (.ireturn) 1)) (and (zk cX12_isBetter 23 (.iload_n 2) 1) (zk cX12_isBetter 24 (.ifCond .ne 20) 3)))) (and (and (and (zk cX12_isBetter 44 (.iconst 0) 1) (zk cX12_isBetter 27 (.iload_n 0) 1)) (and (zk cX12_isBetter 28 (.iload_n 0) 1) (zk cX12_isBetter 29 (.iload_n 1) 1))) (and (and (zk cX12_isBetter 30 (.ixor) 1) (zk cX12_isBetter 31 (.iand) 1)) (zk cX12_isBetter 32 (.iload_n 0) 1)))) (and (and (and (and (zk cX12_isBetter 33 (.iload_n 1) 1) (zk cX12_isBetter 34 (.ixor) 1)) (and (zk cX12_isBetter 35 (.ineg) 1) (zk cX12_isBetter 36 (.iand) 1))) (and (and (zk cX12_isBetter 37 (.ifCond .eq 7) 3) (zk cX12_isBetter 0 (.iload_n 1) 1)) (and (zk cX12_isBetter 1 (.iconst (-1)) 1) (zk cX12_isBetter 2 (.if_icmp .ne 7) 3)))) (and (and (and (zk cX12_isBetter 9 (.iload_n 0) 1) (zk cX12_isBetter 10 (.invokestatic 390) 3)) (and (zk cX12_isBetter 13 (.iload_n 1) 1) (zk cX12_isBetter 14 (.invokestatic 390) 3))) (and (and (zk cX12_isBetter 17 (.isub) 1) (zk cX12_isBetter 5 (.iconst (-1)) 1)) (zk cX12_isBetter 6 (.goto 12) 3))))) = true := by decide +kernel
theorem dX12_isBetter_18 : decode cX12_isBetter 18 = .ok (.istore_n 2, 1) := zk_of (zk_l (zk_l (zk_l (zk_l (zk_l zdX12_isBetter_18)))))
theorem dX12_isBetter_19 : decode cX12_isBetter 19 = .ok (.iload_n 2, 1) := zk_of (zk_r (zk_l (zk_l (zk_l (zk_l zdX12_isBetter_18)))))
theorem dX12_isBetter_20 : decode cX12_isBetter 20 = .ok (.ifCond .lt 20, 3) := zk_of (zk_l (zk_r (zk_l (zk_l (zk_l zdX12_isBetter_18)))))
theorem dX12_isBetter_40 : decode cX12_isBetter 40 = .ok (.iconst 1, 1) := zk_of (zk_r (zk_r (zk_l (zk_l (zk_l zdX12_isBetter_18)))))
theorem dX12_isBetter_41 : decode cX12_isBetter 41 = .ok (.goto 4, 3) := zk_of (zk_l (zk_l (zk_r (zk_l (zk_l zdX12_isBetter_18)))))
theorem dX12_isBetter_45 : decode cX12_isBetter 45 = .ok (.ireturn, 1) := zk_of (zk_r (zk_l (zk_r (zk_l (zk_l zdX12_isBetter_18)))))
theorem dX12_isBetter_23 : decode cX12_isBetter 23 = .ok (.iload_n 2, 1) := zk_of (zk_l (zk_r (zk_r (zk_l (zk_l zdX12_isBetter_18)))))
theorem dX12_isBetter_24 : decode cX12_isBetter 24 = .ok (.ifCond .ne 20, 3) := zk_of (zk_r (zk_r (zk_r (zk_l (zk_l zdX12_isBetter_18)))))
theorem dX12_isBetter_44 : decode cX12_isBetter 44 = .ok (.iconst 0, 1) := zk_of (zk_l (zk_l (zk_l (zk_r (zk_l zdX12_isBetter_18)))))
theorem dX12_isBetter_27 : decode cX12_isBetter 27 = .ok (.iload_n 0, 1) := zk_of (zk_r (zk_l (zk_l (zk_r (zk_l zdX12_isBetter_18)))))
theorem dX12_isBetter_28 : decode cX12_isBetter 28 = .ok (.iload_n 0, 1) := zk_of (zk_l (zk_r (zk_l (zk_r (zk_l zdX12_isBetter_18)))))
theorem dX12_isBetter_29 : decode cX12_isBetter 29 = .ok (.iload_n 1, 1) := zk_of (zk_r (zk_r (zk_l (zk_r (zk_l zdX12_isBetter_18)))))
theorem dX12_isBetter_30 : decode cX12_isBetter 30 = .ok (.ixor, 1) := zk_of (zk_l (zk_l (zk_r (zk_r (zk_l zdX12_isBetter_18)))))
theorem dX12_isBetter_31 : decode cX12_isBetter 31 = .ok (.iand, 1) := zk_of (zk_r (zk_l (zk_r (zk_r (zk_l zdX12_isBetter_18)))))
theorem dX12_isBetter_32 : decode cX12_isBetter 32 = .ok (.iload_n 0, 1) := zk_of (zk_r (zk_r (zk_r (zk_l zdX12_isBetter_18))))
theorem dX12_isBetter_33 : decode cX12_isBetter 33 = .ok (.iload_n 1, 1) := zk_of (zk_l (zk_l (zk_l (zk_l (zk_r zdX12_isBetter_18)))))
theorem dX12_isBetter_34 : decode cX12_isBetter 34 = .ok (.ixor, 1) := zk_of (zk_r (zk_l (zk_l (zk_l (zk_r zdX12_isBetter_18)))))
theorem dX12_isBetter_35 : decode cX12_isBetter 35 = .ok (.ineg, 1) := zk_of (zk_l (zk_r (zk_l (zk_l (zk_r zdX12_isBetter_18)))))
theorem dX12_isBetter_36 : decode cX12_isBetter 36 = .ok (.iand, 1) := zk_of (zk_r (zk_r (zk_l (zk_l (zk_r zdX12_isBetter_18)))))
theorem dX12_isBetter_37 : decode cX12_isBetter 37 = .ok (.ifCond .eq 7, 3) := zk_of (zk_l (zk_l (zk_r (zk_l (zk_r zdX12_isBetter_18)))))
theorem dX12_isBetter_0 : decode cX12_isBetter 0 = .ok (.iload_n 1, 1) := zk_of (zk_r (zk_l (zk_r (zk_l (zk_r zdX12_isBetter_18)))))
theorem dX12_isBetter_1 : decode cX12_isBetter 1 = .ok (.iconst (-1), 1) := zk_of (zk_l (zk_r (zk_r (zk_l (zk_r zdX12_isBetter_18)))))
theorem dX12_isBetter_2 : decode cX12_isBetter 2 = .ok (.if_icmp .ne 7, 3) := zk_of (zk_r (zk_r (zk_r (zk_l (zk_r zdX12_isBetter_18)))))
theorem dX12_isBetter_9 : decode cX12_isBetter 9 = .ok (.iload_n 0, 1) := zk_of (zk_l (zk_l (zk_l (zk_r (zk_r zdX12_isBetter_18)))))
theorem dX12_isBetter_10 : decode cX12_isBetter 10 = .ok (.invokestatic 390, 3) := zk_of (zk_r (zk_l (zk_l (zk_r (zk_r zdX12_isBetter_18)))))
theorem dX12_isBetter_13 : decode cX12_isBetter 13 = .ok (.iload_n 1, 1) := zk_of (zk_l (zk_r (zk_l (zk_r (zk_r zdX12_isBetter_18)))))
theorem dX12_isBetter_14 : decode cX12_isBetter 14 = .ok (.invokestatic 390, 3) := zk_of (zk_r (zk_r (zk_l (zk_r (zk_r zdX12_isBetter_18)))))
theorem dX12_isBetter_17 : decode cX12_isBetter 17 = .ok (.isub, 1) := zk_of (zk_l (zk_l (zk_r (zk_r (zk_r zdX12_isBetter_18)))))
theorem dX12_isBetter_5 : decode cX12_isBetter 5 = .ok (.iconst (-1), 1) := zk_of (zk_r (zk_l (zk_r (zk_r (zk_r zdX12_isBetter_18)))))
theorem dX12_isBetter_6 : decode cX12_isBetter 6 = .ok (.goto 12, 3) := zk_of (zk_r (zk_r (zk_r (zk_r zdX12_isBetter_18))))
set_option maxRecDepth 20000 in
theorem ggX12_isBetter_J6_bitCount_0f7a4 : GoodIn wsX12_isBetter wsJ6_bitCount_0f7a4 := ggi (fun w h => List.mem_cons_of_mem _ (List.mem_append_right _ h)) gs_J6_bitCount_0f7a4
set_option maxRecDepth 20000 in
theorem gX12_isBetter_J6_bitCount_0f7a4 : GoodIn wsX12_isBetter (va_wsS RX12 390 yJ6_bitCount_0f7a4 wsJ6_bitCount_0f7a4) := goodIn_app (goodIn_of _ (by decide +kernel)) ggX12_isBetter_J6_bitCount_0f7a4
/-- HissHornModel.isBetter(II)Z -/
def rmX12_isBetter : Room := { frames := 1, cells := 0, slots := 0, locals := 20 }
def GX12_isBetter_18 (z0 : Int32) (z1 : Int32) (y0 : Int32) : Option Int32 := (if y0 < 0 then (gd (isB 1) (some 1)) else (if y0 = 0 then (if ((z0 &&& (z0 ^^^ z1)) &&& (-(z0 ^^^ z1))) = 0 then (gd (isB 0) (some 0)) else (gd (isB 1) (some 1))) else (gd (isB 0) (some 0))))
def fX12_isBetter (x0 : Int32) (x1 : Int32) : Option Int32 := (if x1 = (-1) then (GX12_isBetter_18 x0 x1 (-1)) else ((fJ6_bitCount_0f7a4 x0).bind fun r1 => ((fJ6_bitCount_0f7a4 x1).bind fun r4 => (GX12_isBetter_18 x0 x1 (r1 - r4)))))
set_option maxHeartbeats 4000000 in
set_option maxRecDepth 100000 in
theorem wGX12_isBetter_18 {p : Program} {l : Launch} {e : Env} {s : State} {m : MethodId} {args : Array Value} {below : List Frame} {meth : Method} {c : Code} {D : va_G} {cy : Nat → ClassId} {st : Nat → Nat} (C : Cx RX12 cX12_isBetter 3 (some .boolean) wsX12_isBetter p s m args meth c) (hK : Ky D [(cy 0, .int), (cy 1, .long), (cy 2, .boolean), (cy 3, .byte), (cy 4, .object "HissHorn$Text")] st s) {r : Int32}   (z0 : Int32) (z1 : Int32) (y0 : Int32) (H : Heap) (locs : List Loc) (ls : Array Slot) (h : GX12_isBetter_18 z0 z1 y0 = some r) (hP : va_P D vwCl (V0 u00) H) (hS : va_S (Ax (A0) s.heap.size) s.heap H locs) (hl : lv_has ls 3 [(0, .int z0), (1, .int z1)]) : W p l e rmX12_isBetter s m args below meth c H locs 0 0 (MQ below (Qi D (V0) (A0) s.heap.size r u00) args s 0 0 (Ax (A0) s.heap.size)) (F0 m 18 ls [.int y0]) := by
  unfold GX12_isBetter_18 at h
  refine lv_istore_n (lv' := [(2, .int y0), (0, .int z0), (1, .int z1)]) C.1 C.2.1 dX12_isBetter_18 rfl hl (by decide) rfl (fun ls hl => ?_)
  replace hl := lv_sub (l' := [(0, .int z0), (1, .int z1), (2, .int y0)]) hl [1, 2, 0] rfl
  refine lv_iload_n C.1 C.2.1 dX12_isBetter_19 rfl (lv_at hl 2 rfl) ?_
  refine lv_if_lt (tgt := 40) C.1 C.2.1 dX12_isBetter_20 (by decide) (fun c20 => ?_) (fun c20 => ?_)
  · rw [if_pos c20] at h
    refine lv_iconst (v := 1) C.1 C.2.1 dX12_isBetter_40 (by decide) ?_
    refine lv_goto (tgt := 45) C.1 C.2.1 dX12_isBetter_41 (by decide) ?_
    obtain ⟨hg7, h⟩ := gd_some h
    cases h
    exact rt_z hg7 C hP hS dX12_isBetter_45
  · rw [if_neg c20] at h
    refine lv_iload_n C.1 C.2.1 dX12_isBetter_23 rfl (lv_at hl 2 rfl) ?_
    refine lv_if_ne (tgt := 44) C.1 C.2.1 dX12_isBetter_24 (by decide) (fun c24 => ?_) (fun c24 => ?_)
    · rw [if_neg c24] at h
      refine lv_iconst (v := 0) C.1 C.2.1 dX12_isBetter_44 (by decide) ?_
      obtain ⟨hg8, h⟩ := gd_some h
      cases h
      exact rt_z hg8 C hP hS dX12_isBetter_45
    · rw [if_pos c24] at h
      refine lv_iload_n C.1 C.2.1 dX12_isBetter_27 rfl (lv_at hl 0 rfl) ?_
      refine lv_iload_n C.1 C.2.1 dX12_isBetter_28 rfl (lv_at hl 0 rfl) ?_
      refine lv_iload_n C.1 C.2.1 dX12_isBetter_29 rfl (lv_at hl 1 rfl) ?_
      refine lv_ixor C.1 C.2.1 dX12_isBetter_30 ?_
      refine lv_iand C.1 C.2.1 dX12_isBetter_31 ?_
      refine lv_iload_n C.1 C.2.1 dX12_isBetter_32 rfl (lv_at hl 0 rfl) ?_
      refine lv_iload_n C.1 C.2.1 dX12_isBetter_33 rfl (lv_at hl 1 rfl) ?_
      refine lv_ixor C.1 C.2.1 dX12_isBetter_34 ?_
      refine lv_ineg C.1 C.2.1 dX12_isBetter_35 ?_
      refine lv_iand C.1 C.2.1 dX12_isBetter_36 ?_
      refine lv_if_eq (tgt := 44) C.1 C.2.1 dX12_isBetter_37 (by decide) (fun c37 => ?_) (fun c37 => ?_)
      · rw [if_pos c37] at h
        refine lv_iconst (v := 0) C.1 C.2.1 dX12_isBetter_44 (by decide) ?_
        obtain ⟨hg9, h⟩ := gd_some h
        cases h
        exact rt_z hg9 C hP hS dX12_isBetter_45
      · rw [if_neg c37] at h
        refine lv_iconst (v := 1) C.1 C.2.1 dX12_isBetter_40 (by decide) ?_
        refine lv_goto (tgt := 45) C.1 C.2.1 dX12_isBetter_41 (by decide) ?_
        obtain ⟨hg10, h⟩ := gd_some h
        cases h
        exact rt_z hg10 C hP hS dX12_isBetter_45
set_option maxHeartbeats 4000000 in
set_option maxRecDepth 100000 in
theorem wX12_isBetter {p : Program} {l : Launch} {e : Env} {s : State} {m : MethodId} {args : Array Value} {below : List Frame} {meth : Method} {c : Code} {D : va_G} {cy : Nat → ClassId} {st : Nat → Nat} (C : Cx RX12 cX12_isBetter 3 (some .boolean) wsX12_isBetter p s m args meth c) (hK : Ky D [(cy 0, .int), (cy 1, .long), (cy 2, .boolean), (cy 3, .byte), (cy 4, .object "HissHorn$Text")] st s) (x0 : Int32) (x1 : Int32) {r : Int32} {H : Heap} {locs : List Loc} {ls : Array Slot} (h : fX12_isBetter x0 x1 = some r) (hP : va_P D vwCl (V0 u00) H) (hS : va_S (Ax (A0) s.heap.size) s.heap H locs) (hl : lv_has ls 3 [(0, .int x0), (1, .int x1)]) : W p l e rmX12_isBetter s m args below meth c H locs 0 0 (MQ below (Qi D (V0) (A0) s.heap.size r u00) args s 0 0 (Ax (A0) s.heap.size)) (F0 m 0 ls []) := by
  unfold fX12_isBetter at h
  refine lv_iload_n C.1 C.2.1 dX12_isBetter_0 rfl (lv_at hl 1 rfl) ?_
  refine lv_iconst (v := (-1)) C.1 C.2.1 dX12_isBetter_1 (by decide) ?_
  refine lv_icmp_ne (tgt := 9) C.1 C.2.1 dX12_isBetter_2 (by decide) (fun c2 => ?_) (fun c2 => ?_)
  · rw [if_neg c2] at h
    refine lv_iload_n C.1 C.2.1 dX12_isBetter_9 rfl (lv_at hl 0 rfl) ?_
    obtain ⟨r1, hc3, h⟩ := bd_some h
    refine cs_i (As := [.int x0]) (rest := []) A0_ge C hK hP hS (metJ6_bitCount_0f7a4 l D cy st _ x0 hc3) (va_cwS 1 C.2.2.2.2.2.1 gX12_isBetter_J6_bitCount_0f7a4 rfl rfl rfl (by decide +kernel) ⟨(Nat.le_of_ble_eq_true rfl), (Nat.le_of_ble_eq_true rfl)⟩) rfl hl.1 rfl (Nat.le_of_ble_eq_true rfl) dX12_isBetter_10 ⟨Nat.zero_le _, Nat.zero_le _⟩ (fun H locs hP hS => ?_)
    refine lv_iload_n C.1 C.2.1 dX12_isBetter_13 rfl (lv_at hl 1 rfl) ?_
    obtain ⟨r4, hc6, h⟩ := bd_some h
    refine cs_i (As := [.int x1]) (rest := [.int r1]) A0_ge C hK hP hS (metJ6_bitCount_0f7a4 l D cy st _ x1 hc6) (va_cwS 1 C.2.2.2.2.2.1 gX12_isBetter_J6_bitCount_0f7a4 rfl rfl rfl (by decide +kernel) ⟨(Nat.le_of_ble_eq_true rfl), (Nat.le_of_ble_eq_true rfl)⟩) rfl hl.1 rfl (Nat.le_of_ble_eq_true rfl) dX12_isBetter_14 ⟨Nat.zero_le _, Nat.zero_le _⟩ (fun H locs hP hS => ?_)
    refine lv_isub C.1 C.2.1 dX12_isBetter_17 ?_
    exact wGX12_isBetter_18 C hK _ _ _ _ _ _ h hP hS hl
  · rw [if_pos c2] at h
    refine lv_iconst (v := (-1)) C.1 C.2.1 dX12_isBetter_5 (by decide) ?_
    refine lv_goto (tgt := 18) C.1 C.2.1 dX12_isBetter_6 (by decide) ?_
    exact wGX12_isBetter_18 C hK _ _ _ _ _ _ h hP hS hl
theorem metX12_isBetter (l : Launch) (D : va_G) (cy : Nat → ClassId) (st : Nat → Nat) (sz : Nat) (x0 : Int32) (x1 : Int32) {r : Int32} (h : fX12_isBetter x0 x1 = some r) : Met l yX12_isBetter wsX12_isBetter rmX12_isBetter (va_Pc [.int x0, .int x1] (Px D [(cy 0, .int), (cy 1, .long), (cy 2, .boolean), (cy 3, .byte), (cy 4, .object "HissHorn$Text")] st V0 sz u00)) (Qi D V0 A0 sz r u00) 0 0 (Ax A0 sz) := by
  refine Met.ofW (cc := cX12_isBetter) (maxL := 3) (ret := (some .boolean)) (by decide) rfl ?_
  intro p e s m args below meth c s₁ B hml hv
  obtain ⟨rfl, hsz, hP, hK⟩ := hv
  subst hsz
  have C : Cx RX12 cX12_isBetter 3 (some .boolean) wsX12_isBetter p s m _ meth c := ⟨B.exec, B.bytes, hml, B.returns, findClass_of_methodNamed B.named, atoms_spec (ws := wsX12_isBetter) B.pre, B.notSynchronized⟩
  have hl := lv_entry ([.int x0, .int x1]) (n := 3) (Nat.le_of_ble_eq_true rfl)
  rw [lg_entry_eq]
  exact wX12_isBetter C hK x0 x1 h hP va_S.rf hl

theorem zdX12_isSet_156 : (and (and (and (and (and (zk cX12_isSet 156 (.iinc 6 1) 3) (zk cX12_isSet 159 (.goto (-117)) 3)) (and (zk cX12_isSet 153 (.isub) 1) (zk cX12_isSet 154 (.istore 5) 2))) (and (and (zk cX12_isSet 116 (.isub) 1) (zk cX12_isSet 117 (.istore 4) 2)) (and (zk cX12_isSet 119 (.iload 5) 2) (zk cX12_isSet 121 (.iload 7) 2)))) (and (and (and (zk cX12_isSet 123 (.ifCond .eq 18) 3) (zk cX12_isSet 141 (.aload_n 0) 1)) (and (zk cX12_isSet 142 (.getfield 94) 3) (zk cX12_isSet 145 (.bipush 12) 2))) (and (and (zk cX12_isSet 147 (.iload_n 3) 1) (zk cX12_isSet 148 (.imul) 1)) (and (zk cX12_isSet 149 (.iload 6) 2) (zk cX12_isSet 151 (.iadd) 1))))) (and (and (and (and (zk cX12_isSet 152 (.iaload) 1) (zk cX12_isSet 126 (.aload_n 0) 1)) (and (zk cX12_isSet 127 (.getfield 100) 3) (zk cX12_isSet 130 (.bipush 12) 2))) (and (and (zk cX12_isSet 132 (.iload_n 3) 1) (zk cX12_isSet 133 (.imul) 1)) (and (zk cX12_isSet 134 (.iload 6) 2) (zk cX12_isSet 136 (.iadd) 1)))) (and (and (and (zk cX12_isSet 137 (.iaload) 1) (zk cX12_isSet 138 (.goto 15) 3)) (and (zk cX12_isSet 80 (.istore 7) 2) (zk cX12_isSet 82 (.iload 4) 2))) (and (and (zk cX12_isSet 84 (.iload 7) 2) (zk cX12_isSet 86 (.ifCond .eq 18) 3)) (and (zk cX12_isSet 104 (.aload_n 0) 1) (zk cX12_isSet 105 (.getfield 97) 3)))))) = true := by decide +kernel
theorem dX12_isSet_156 : decode cX12_isSet 156 = .ok (.iinc 6 1, 3) := zk_of (zk_l (zk_l (zk_l (zk_l (zk_l zdX12_isSet_156)))))
theorem dX12_isSet_159 : decode cX12_isSet 159 = .ok (.goto (-117), 3) := zk_of (zk_r (zk_l (zk_l (zk_l (zk_l zdX12_isSet_156)))))
theorem dX12_isSet_153 : decode cX12_isSet 153 = .ok (.isub, 1) := zk_of (zk_l (zk_r (zk_l (zk_l (zk_l zdX12_isSet_156)))))
theorem dX12_isSet_154 : decode cX12_isSet 154 = .ok (.istore 5, 2) := zk_of (zk_r (zk_r (zk_l (zk_l (zk_l zdX12_isSet_156)))))
theorem dX12_isSet_116 : decode cX12_isSet 116 = .ok (.isub, 1) := zk_of (zk_l (zk_l (zk_r (zk_l (zk_l zdX12_isSet_156)))))
theorem dX12_isSet_117 : decode cX12_isSet 117 = .ok (.istore 4, 2) := zk_of (zk_r (zk_l (zk_r (zk_l (zk_l zdX12_isSet_156)))))
theorem dX12_isSet_119 : decode cX12_isSet 119 = .ok (.iload 5, 2) := zk_of (zk_l (zk_r (zk_r (zk_l (zk_l zdX12_isSet_156)))))
theorem dX12_isSet_121 : decode cX12_isSet 121 = .ok (.iload 7, 2) := zk_of (zk_r (zk_r (zk_r (zk_l (zk_l zdX12_isSet_156)))))
theorem dX12_isSet_123 : decode cX12_isSet 123 = .ok (.ifCond .eq 18, 3) := zk_of (zk_l (zk_l (zk_l (zk_r (zk_l zdX12_isSet_156)))))
theorem dX12_isSet_141 : decode cX12_isSet 141 = .ok (.aload_n 0, 1) := zk_of (zk_r (zk_l (zk_l (zk_r (zk_l zdX12_isSet_156)))))
theorem dX12_isSet_142 : decode cX12_isSet 142 = .ok (.getfield 94, 3) := zk_of (zk_l (zk_r (zk_l (zk_r (zk_l zdX12_isSet_156)))))
theorem dX12_isSet_145 : decode cX12_isSet 145 = .ok (.bipush 12, 2) := zk_of (zk_r (zk_r (zk_l (zk_r (zk_l zdX12_isSet_156)))))
theorem dX12_isSet_147 : decode cX12_isSet 147 = .ok (.iload_n 3, 1) := zk_of (zk_l (zk_l (zk_r (zk_r (zk_l zdX12_isSet_156)))))
theorem dX12_isSet_148 : decode cX12_isSet 148 = .ok (.imul, 1) := zk_of (zk_r (zk_l (zk_r (zk_r (zk_l zdX12_isSet_156)))))
theorem dX12_isSet_149 : decode cX12_isSet 149 = .ok (.iload 6, 2) := zk_of (zk_l (zk_r (zk_r (zk_r (zk_l zdX12_isSet_156)))))
theorem dX12_isSet_151 : decode cX12_isSet 151 = .ok (.iadd, 1) := zk_of (zk_r (zk_r (zk_r (zk_r (zk_l zdX12_isSet_156)))))
theorem dX12_isSet_152 : decode cX12_isSet 152 = .ok (.iaload, 1) := zk_of (zk_l (zk_l (zk_l (zk_l (zk_r zdX12_isSet_156)))))
theorem dX12_isSet_126 : decode cX12_isSet 126 = .ok (.aload_n 0, 1) := zk_of (zk_r (zk_l (zk_l (zk_l (zk_r zdX12_isSet_156)))))
theorem dX12_isSet_127 : decode cX12_isSet 127 = .ok (.getfield 100, 3) := zk_of (zk_l (zk_r (zk_l (zk_l (zk_r zdX12_isSet_156)))))
theorem dX12_isSet_130 : decode cX12_isSet 130 = .ok (.bipush 12, 2) := zk_of (zk_r (zk_r (zk_l (zk_l (zk_r zdX12_isSet_156)))))
theorem dX12_isSet_132 : decode cX12_isSet 132 = .ok (.iload_n 3, 1) := zk_of (zk_l (zk_l (zk_r (zk_l (zk_r zdX12_isSet_156)))))
theorem dX12_isSet_133 : decode cX12_isSet 133 = .ok (.imul, 1) := zk_of (zk_r (zk_l (zk_r (zk_l (zk_r zdX12_isSet_156)))))
theorem dX12_isSet_134 : decode cX12_isSet 134 = .ok (.iload 6, 2) := zk_of (zk_l (zk_r (zk_r (zk_l (zk_r zdX12_isSet_156)))))
theorem dX12_isSet_136 : decode cX12_isSet 136 = .ok (.iadd, 1) := zk_of (zk_r (zk_r (zk_r (zk_l (zk_r zdX12_isSet_156)))))
theorem dX12_isSet_137 : decode cX12_isSet 137 = .ok (.iaload, 1) := zk_of (zk_l (zk_l (zk_l (zk_r (zk_r zdX12_isSet_156)))))
theorem dX12_isSet_138 : decode cX12_isSet 138 = .ok (.goto 15, 3) := zk_of (zk_r (zk_l (zk_l (zk_r (zk_r zdX12_isSet_156)))))
theorem dX12_isSet_80 : decode cX12_isSet 80 = .ok (.istore 7, 2) := zk_of (zk_l (zk_r (zk_l (zk_r (zk_r zdX12_isSet_156)))))
theorem dX12_isSet_82 : decode cX12_isSet 82 = .ok (.iload 4, 2) := zk_of (zk_r (zk_r (zk_l (zk_r (zk_r zdX12_isSet_156)))))
theorem dX12_isSet_84 : decode cX12_isSet 84 = .ok (.iload 7, 2) := zk_of (zk_l (zk_l (zk_r (zk_r (zk_r zdX12_isSet_156)))))
theorem dX12_isSet_86 : decode cX12_isSet 86 = .ok (.ifCond .eq 18, 3) := zk_of (zk_r (zk_l (zk_r (zk_r (zk_r zdX12_isSet_156)))))
theorem dX12_isSet_104 : decode cX12_isSet 104 = .ok (.aload_n 0, 1) := zk_of (zk_l (zk_r (zk_r (zk_r (zk_r zdX12_isSet_156)))))
theorem dX12_isSet_105 : decode cX12_isSet 105 = .ok (.getfield 97, 3) := zk_of (zk_r (zk_r (zk_r (zk_r (zk_r zdX12_isSet_156)))))
theorem zdX12_isSet_108 : (and (and (and (and (and (zk cX12_isSet 108 (.bipush 12) 2) (zk cX12_isSet 110 (.iload_n 3) 1)) (and (zk cX12_isSet 111 (.imul) 1) (zk cX12_isSet 112 (.iload 6) 2))) (and (and (zk cX12_isSet 114 (.iadd) 1) (zk cX12_isSet 115 (.iaload) 1)) (and (zk cX12_isSet 89 (.aload_n 0) 1) (zk cX12_isSet 90 (.getfield 103) 3)))) (and (and (and (zk cX12_isSet 93 (.bipush 12) 2) (zk cX12_isSet 95 (.iload_n 3) 1)) (and (zk cX12_isSet 96 (.imul) 1) (zk cX12_isSet 97 (.iload 6) 2))) (and (and (zk cX12_isSet 99 (.iadd) 1) (zk cX12_isSet 100 (.iaload) 1)) (and (zk cX12_isSet 101 (.goto 15) 3) (zk cX12_isSet 42 (.iload 6) 2))))) (and (and (and (and (zk cX12_isSet 44 (.aload_n 0) 1) (zk cX12_isSet 45 (.getfield 286) 3)) (and (zk cX12_isSet 48 (.if_icmp .ge 114) 3) (zk cX12_isSet 51 (.aload_n 0) 1))) (and (and (zk cX12_isSet 52 (.getfield 47) 3) (zk cX12_isSet 55 (.iload 6) 2)) (and (zk cX12_isSet 57 (.iaload) 1) (zk cX12_isSet 58 (.iload_n 2) 1)))) (and (and (and (zk cX12_isSet 59 (.if_icmp .le 6) 3) (zk cX12_isSet 65 (.iload_n 1) 1)) (and (zk cX12_isSet 66 (.iload 6) 2) (zk cX12_isSet 68 (.ishr) 1))) (and (and (zk cX12_isSet 69 (.iconst 1) 1) (zk cX12_isSet 70 (.iand) 1)) (and (zk cX12_isSet 71 (.iconst 1) 1) (zk cX12_isSet 72 (.if_icmp .ne 7) 3)))))) = true := by decide +kernel
theorem dX12_isSet_108 : decode cX12_isSet 108 = .ok (.bipush 12, 2) := zk_of (zk_l (zk_l (zk_l (zk_l (zk_l zdX12_isSet_108)))))
theorem dX12_isSet_110 : decode cX12_isSet 110 = .ok (.iload_n 3, 1) := zk_of (zk_r (zk_l (zk_l (zk_l (zk_l zdX12_isSet_108)))))
theorem dX12_isSet_111 : decode cX12_isSet 111 = .ok (.imul, 1) := zk_of (zk_l (zk_r (zk_l (zk_l (zk_l zdX12_isSet_108)))))
theorem dX12_isSet_112 : decode cX12_isSet 112 = .ok (.iload 6, 2) := zk_of (zk_r (zk_r (zk_l (zk_l (zk_l zdX12_isSet_108)))))
theorem dX12_isSet_114 : decode cX12_isSet 114 = .ok (.iadd, 1) := zk_of (zk_l (zk_l (zk_r (zk_l (zk_l zdX12_isSet_108)))))
theorem dX12_isSet_115 : decode cX12_isSet 115 = .ok (.iaload, 1) := zk_of (zk_r (zk_l (zk_r (zk_l (zk_l zdX12_isSet_108)))))
theorem dX12_isSet_89 : decode cX12_isSet 89 = .ok (.aload_n 0, 1) := zk_of (zk_l (zk_r (zk_r (zk_l (zk_l zdX12_isSet_108)))))
theorem dX12_isSet_90 : decode cX12_isSet 90 = .ok (.getfield 103, 3) := zk_of (zk_r (zk_r (zk_r (zk_l (zk_l zdX12_isSet_108)))))
theorem dX12_isSet_93 : decode cX12_isSet 93 = .ok (.bipush 12, 2) := zk_of (zk_l (zk_l (zk_l (zk_r (zk_l zdX12_isSet_108)))))
theorem dX12_isSet_95 : decode cX12_isSet 95 = .ok (.iload_n 3, 1) := zk_of (zk_r (zk_l (zk_l (zk_r (zk_l zdX12_isSet_108)))))
theorem dX12_isSet_96 : decode cX12_isSet 96 = .ok (.imul, 1) := zk_of (zk_l (zk_r (zk_l (zk_r (zk_l zdX12_isSet_108)))))
theorem dX12_isSet_97 : decode cX12_isSet 97 = .ok (.iload 6, 2) := zk_of (zk_r (zk_r (zk_l (zk_r (zk_l zdX12_isSet_108)))))
theorem dX12_isSet_99 : decode cX12_isSet 99 = .ok (.iadd, 1) := zk_of (zk_l (zk_l (zk_r (zk_r (zk_l zdX12_isSet_108)))))
theorem dX12_isSet_100 : decode cX12_isSet 100 = .ok (.iaload, 1) := zk_of (zk_r (zk_l (zk_r (zk_r (zk_l zdX12_isSet_108)))))
theorem dX12_isSet_101 : decode cX12_isSet 101 = .ok (.goto 15, 3) := zk_of (zk_l (zk_r (zk_r (zk_r (zk_l zdX12_isSet_108)))))
theorem dX12_isSet_42 : decode cX12_isSet 42 = .ok (.iload 6, 2) := zk_of (zk_r (zk_r (zk_r (zk_r (zk_l zdX12_isSet_108)))))
theorem dX12_isSet_44 : decode cX12_isSet 44 = .ok (.aload_n 0, 1) := zk_of (zk_l (zk_l (zk_l (zk_l (zk_r zdX12_isSet_108)))))
theorem dX12_isSet_45 : decode cX12_isSet 45 = .ok (.getfield 286, 3) := zk_of (zk_r (zk_l (zk_l (zk_l (zk_r zdX12_isSet_108)))))
theorem dX12_isSet_48 : decode cX12_isSet 48 = .ok (.if_icmp .ge 114, 3) := zk_of (zk_l (zk_r (zk_l (zk_l (zk_r zdX12_isSet_108)))))
theorem dX12_isSet_51 : decode cX12_isSet 51 = .ok (.aload_n 0, 1) := zk_of (zk_r (zk_r (zk_l (zk_l (zk_r zdX12_isSet_108)))))
theorem dX12_isSet_52 : decode cX12_isSet 52 = .ok (.getfield 47, 3) := zk_of (zk_l (zk_l (zk_r (zk_l (zk_r zdX12_isSet_108)))))
theorem dX12_isSet_55 : decode cX12_isSet 55 = .ok (.iload 6, 2) := zk_of (zk_r (zk_l (zk_r (zk_l (zk_r zdX12_isSet_108)))))
theorem dX12_isSet_57 : decode cX12_isSet 57 = .ok (.iaload, 1) := zk_of (zk_l (zk_r (zk_r (zk_l (zk_r zdX12_isSet_108)))))
theorem dX12_isSet_58 : decode cX12_isSet 58 = .ok (.iload_n 2, 1) := zk_of (zk_r (zk_r (zk_r (zk_l (zk_r zdX12_isSet_108)))))
theorem dX12_isSet_59 : decode cX12_isSet 59 = .ok (.if_icmp .le 6, 3) := zk_of (zk_l (zk_l (zk_l (zk_r (zk_r zdX12_isSet_108)))))
theorem dX12_isSet_65 : decode cX12_isSet 65 = .ok (.iload_n 1, 1) := zk_of (zk_r (zk_l (zk_l (zk_r (zk_r zdX12_isSet_108)))))
theorem dX12_isSet_66 : decode cX12_isSet 66 = .ok (.iload 6, 2) := zk_of (zk_l (zk_r (zk_l (zk_r (zk_r zdX12_isSet_108)))))
theorem dX12_isSet_68 : decode cX12_isSet 68 = .ok (.ishr, 1) := zk_of (zk_r (zk_r (zk_l (zk_r (zk_r zdX12_isSet_108)))))
theorem dX12_isSet_69 : decode cX12_isSet 69 = .ok (.iconst 1, 1) := zk_of (zk_l (zk_l (zk_r (zk_r (zk_r zdX12_isSet_108)))))
theorem dX12_isSet_70 : decode cX12_isSet 70 = .ok (.iand, 1) := zk_of (zk_r (zk_l (zk_r (zk_r (zk_r zdX12_isSet_108)))))
theorem dX12_isSet_71 : decode cX12_isSet 71 = .ok (.iconst 1, 1) := zk_of (zk_l (zk_r (zk_r (zk_r (zk_r zdX12_isSet_108)))))
theorem dX12_isSet_72 : decode cX12_isSet 72 = .ok (.if_icmp .ne 7, 3) := zk_of (zk_r (zk_r (zk_r (zk_r (zk_r zdX12_isSet_108)))))
theorem zdX12_isSet_79 : (and (and (and (and (and (zk cX12_isSet 79 (.iconst 0) 1) (zk cX12_isSet 75 (.iconst 1) 1)) (and (zk cX12_isSet 76 (.goto 4) 3) (zk cX12_isSet 62 (.goto 94) 3))) (and (and (zk cX12_isSet 174 (.iinc 3 1) 3) (zk cX12_isSet 177 (.goto (-175)) 3)) (and (zk cX12_isSet 162 (.iload 4) 2) (zk cX12_isSet 164 (.ifCond .gt 8) 3)))) (and (and (and (zk cX12_isSet 172 (.iconst 0) 1) (zk cX12_isSet 173 (.ireturn) 1)) (and (zk cX12_isSet 167 (.iload 5) 2) (zk cX12_isSet 169 (.ifCond .ge 5) 3))) (and (and (zk cX12_isSet 2 (.iload_n 3) 1) (zk cX12_isSet 3 (.aload_n 0) 1)) (and (zk cX12_isSet 4 (.getfield 335) 3) (zk cX12_isSet 7 (.if_icmp .ge 173) 3))))) (and (and (and (and (zk cX12_isSet 180 (.iconst 1) 1) (zk cX12_isSet 181 (.ireturn) 1)) (and (zk cX12_isSet 10 (.aload_n 0) 1) (zk cX12_isSet 11 (.getfield 80) 3))) (and (and (zk cX12_isSet 14 (.iload_n 3) 1) (zk cX12_isSet 15 (.iaload) 1)) (and (zk cX12_isSet 16 (.iload_n 2) 1) (zk cX12_isSet 17 (.if_icmp .le 6) 3)))) (and (and (and (zk cX12_isSet 23 (.aload_n 0) 1) (zk cX12_isSet 24 (.getfield 77) 3)) (and (zk cX12_isSet 27 (.iload_n 3) 1) (zk cX12_isSet 28 (.iaload) 1))) (and (and (zk cX12_isSet 29 (.istore 4) 2) (zk cX12_isSet 31 (.aload_n 0) 1)) (and (zk cX12_isSet 32 (.getfield 77) 3) (zk cX12_isSet 35 (.iload_n 3) 1)))))) = true := by decide +kernel
theorem dX12_isSet_79 : decode cX12_isSet 79 = .ok (.iconst 0, 1) := zk_of (zk_l (zk_l (zk_l (zk_l (zk_l zdX12_isSet_79)))))
theorem dX12_isSet_75 : decode cX12_isSet 75 = .ok (.iconst 1, 1) := zk_of (zk_r (zk_l (zk_l (zk_l (zk_l zdX12_isSet_79)))))
theorem dX12_isSet_76 : decode cX12_isSet 76 = .ok (.goto 4, 3) := zk_of (zk_l (zk_r (zk_l (zk_l (zk_l zdX12_isSet_79)))))
theorem dX12_isSet_62 : decode cX12_isSet 62 = .ok (.goto 94, 3) := zk_of (zk_r (zk_r (zk_l (zk_l (zk_l zdX12_isSet_79)))))
theorem dX12_isSet_174 : decode cX12_isSet 174 = .ok (.iinc 3 1, 3) := zk_of (zk_l (zk_l (zk_r (zk_l (zk_l zdX12_isSet_79)))))
theorem dX12_isSet_177 : decode cX12_isSet 177 = .ok (.goto (-175), 3) := zk_of (zk_r (zk_l (zk_r (zk_l (zk_l zdX12_isSet_79)))))
theorem dX12_isSet_162 : decode cX12_isSet 162 = .ok (.iload 4, 2) := zk_of (zk_l (zk_r (zk_r (zk_l (zk_l zdX12_isSet_79)))))
theorem dX12_isSet_164 : decode cX12_isSet 164 = .ok (.ifCond .gt 8, 3) := zk_of (zk_r (zk_r (zk_r (zk_l (zk_l zdX12_isSet_79)))))
theorem dX12_isSet_172 : decode cX12_isSet 172 = .ok (.iconst 0, 1) := zk_of (zk_l (zk_l (zk_l (zk_r (zk_l zdX12_isSet_79)))))
theorem dX12_isSet_173 : decode cX12_isSet 173 = .ok (.ireturn, 1) := zk_of (zk_r (zk_l (zk_l (zk_r (zk_l zdX12_isSet_79)))))
theorem dX12_isSet_167 : decode cX12_isSet 167 = .ok (.iload 5, 2) := zk_of (zk_l (zk_r (zk_l (zk_r (zk_l zdX12_isSet_79)))))
theorem dX12_isSet_169 : decode cX12_isSet 169 = .ok (.ifCond .ge 5, 3) := zk_of (zk_r (zk_r (zk_l (zk_r (zk_l zdX12_isSet_79)))))
theorem dX12_isSet_2 : decode cX12_isSet 2 = .ok (.iload_n 3, 1) := zk_of (zk_l (zk_l (zk_r (zk_r (zk_l zdX12_isSet_79)))))
theorem dX12_isSet_3 : decode cX12_isSet 3 = .ok (.aload_n 0, 1) := zk_of (zk_r (zk_l (zk_r (zk_r (zk_l zdX12_isSet_79)))))
theorem dX12_isSet_4 : decode cX12_isSet 4 = .ok (.getfield 335, 3) := zk_of (zk_l (zk_r (zk_r (zk_r (zk_l zdX12_isSet_79)))))
theorem dX12_isSet_7 : decode cX12_isSet 7 = .ok (.if_icmp .ge 173, 3) := zk_of (zk_r (zk_r (zk_r (zk_r (zk_l zdX12_isSet_79)))))
theorem dX12_isSet_180 : decode cX12_isSet 180 = .ok (.iconst 1, 1) := zk_of (zk_l (zk_l (zk_l (zk_l (zk_r zdX12_isSet_79)))))
theorem dX12_isSet_181 : decode cX12_isSet 181 = .ok (.ireturn, 1) := zk_of (zk_r (zk_l (zk_l (zk_l (zk_r zdX12_isSet_79)))))
theorem dX12_isSet_10 : decode cX12_isSet 10 = .ok (.aload_n 0, 1) := zk_of (zk_l (zk_r (zk_l (zk_l (zk_r zdX12_isSet_79)))))
theorem dX12_isSet_11 : decode cX12_isSet 11 = .ok (.getfield 80, 3) := zk_of (zk_r (zk_r (zk_l (zk_l (zk_r zdX12_isSet_79)))))
theorem dX12_isSet_14 : decode cX12_isSet 14 = .ok (.iload_n 3, 1) := zk_of (zk_l (zk_l (zk_r (zk_l (zk_r zdX12_isSet_79)))))
theorem dX12_isSet_15 : decode cX12_isSet 15 = .ok (.iaload, 1) := zk_of (zk_r (zk_l (zk_r (zk_l (zk_r zdX12_isSet_79)))))
theorem dX12_isSet_16 : decode cX12_isSet 16 = .ok (.iload_n 2, 1) := zk_of (zk_l (zk_r (zk_r (zk_l (zk_r zdX12_isSet_79)))))
theorem dX12_isSet_17 : decode cX12_isSet 17 = .ok (.if_icmp .le 6, 3) := zk_of (zk_r (zk_r (zk_r (zk_l (zk_r zdX12_isSet_79)))))
theorem dX12_isSet_23 : decode cX12_isSet 23 = .ok (.aload_n 0, 1) := zk_of (zk_l (zk_l (zk_l (zk_r (zk_r zdX12_isSet_79)))))
theorem dX12_isSet_24 : decode cX12_isSet 24 = .ok (.getfield 77, 3) := zk_of (zk_r (zk_l (zk_l (zk_r (zk_r zdX12_isSet_79)))))
theorem dX12_isSet_27 : decode cX12_isSet 27 = .ok (.iload_n 3, 1) := zk_of (zk_l (zk_r (zk_l (zk_r (zk_r zdX12_isSet_79)))))
theorem dX12_isSet_28 : decode cX12_isSet 28 = .ok (.iaload, 1) := zk_of (zk_r (zk_r (zk_l (zk_r (zk_r zdX12_isSet_79)))))
theorem dX12_isSet_29 : decode cX12_isSet 29 = .ok (.istore 4, 2) := zk_of (zk_l (zk_l (zk_r (zk_r (zk_r zdX12_isSet_79)))))
theorem dX12_isSet_31 : decode cX12_isSet 31 = .ok (.aload_n 0, 1) := zk_of (zk_r (zk_l (zk_r (zk_r (zk_r zdX12_isSet_79)))))
theorem dX12_isSet_32 : decode cX12_isSet 32 = .ok (.getfield 77, 3) := zk_of (zk_l (zk_r (zk_r (zk_r (zk_r zdX12_isSet_79)))))
theorem dX12_isSet_35 : decode cX12_isSet 35 = .ok (.iload_n 3, 1) := zk_of (zk_r (zk_r (zk_r (zk_r (zk_r zdX12_isSet_79)))))
theorem zdX12_isSet_36 : (and (and (and (zk cX12_isSet 36 (.iaload) 1) (zk cX12_isSet 37 (.istore 5) 2)) (and (zk cX12_isSet 39 (.iconst 0) 1) (zk cX12_isSet 40 (.istore 6) 2))) (and (and (zk cX12_isSet 20 (.goto 154) 3) (zk cX12_isSet 0 (.iconst 0) 1)) (zk cX12_isSet 1 (.istore_n 3) 1))) = true := by decide +kernel
theorem dX12_isSet_36 : decode cX12_isSet 36 = .ok (.iaload, 1) := zk_of (zk_l (zk_l (zk_l zdX12_isSet_36)))
theorem dX12_isSet_37 : decode cX12_isSet 37 = .ok (.istore 5, 2) := zk_of (zk_r (zk_l (zk_l zdX12_isSet_36)))
theorem dX12_isSet_39 : decode cX12_isSet 39 = .ok (.iconst 0, 1) := zk_of (zk_l (zk_r (zk_l zdX12_isSet_36)))
theorem dX12_isSet_40 : decode cX12_isSet 40 = .ok (.istore 6, 2) := zk_of (zk_r (zk_r (zk_l zdX12_isSet_36)))
theorem dX12_isSet_20 : decode cX12_isSet 20 = .ok (.goto 154, 3) := zk_of (zk_l (zk_l (zk_r zdX12_isSet_36)))
theorem dX12_isSet_0 : decode cX12_isSet 0 = .ok (.iconst 0, 1) := zk_of (zk_r (zk_l (zk_r zdX12_isSet_36)))
theorem dX12_isSet_1 : decode cX12_isSet 1 = .ok (.istore_n 3, 1) := zk_of (zk_r (zk_r zdX12_isSet_36))
/-- HissHornModel.isSet(II)Z of cell 0 -/
def rmX12_isSet_0 : Room := { frames := 0, cells := 0, slots := 0, locals := 0 }
theorem hX12_isSet_0_X12 : ∀ w ∈ u_ws RX12 TX12 69, w ∈ wsX12_isSet := fun w h => (List.mem_cons_of_mem _ (List.mem_append_right _ h))
theorem mX12_isSet_0_1 : Cond.fieldLink RX12 335 "HissHornModel" "readings" "I" ∈ wsX12_isSet := (List.mem_cons_of_mem _ (List.mem_append_left _ (List.mem_of_getElem? (i := 0) rfl)))
theorem mX12_isSet_0_2 : Cond.fieldLink RX12 80 "HissHornModel" "readDay" "[I" ∈ wsX12_isSet := (List.mem_cons_of_mem _ (List.mem_append_left _ (List.mem_of_getElem? (i := 1) rfl)))
theorem mX12_isSet_0_3 : Cond.fieldLink RX12 77 "HissHornModel" "number" "[I" ∈ wsX12_isSet := (List.mem_cons_of_mem _ (List.mem_append_left _ (List.mem_of_getElem? (i := 2) rfl)))
theorem mX12_isSet_0_4 : Cond.fieldLink RX12 286 "HissHornModel" "parts" "I" ∈ wsX12_isSet := (List.mem_cons_of_mem _ (List.mem_append_left _ (List.mem_of_getElem? (i := 3) rfl)))
theorem mX12_isSet_0_5 : Cond.fieldLink RX12 47 "HissHornModel" "partTold" "[I" ∈ wsX12_isSet := (List.mem_cons_of_mem _ (List.mem_append_left _ (List.mem_of_getElem? (i := 4) rfl)))
theorem mX12_isSet_0_6 : Cond.fieldLink RX12 97 "HissHornModel" "highs" "[I" ∈ wsX12_isSet := (List.mem_cons_of_mem _ (List.mem_append_left _ (List.mem_of_getElem? (i := 6) rfl)))
theorem mX12_isSet_0_7 : Cond.fieldLink RX12 94 "HissHornModel" "lows" "[I" ∈ wsX12_isSet := (List.mem_cons_of_mem _ (List.mem_append_left _ (List.mem_of_getElem? (i := 8) rfl)))
def GX12_isSet_0_156 (k42 : Int32 → Int32 → Int32 → Int32 → Int32 → Int32 → SX → Option (Int32 × SX)) (z1 : Int32) (z2 : Int32) (z3 : Int32) (z4 : Int32) (z5 : Int32) (z6 : Int32) (u : SX) : Option (Int32 × SX) := (k42 z1 z2 z3 z4 z5 (z6 + 1) u)
def GX12_isSet_0_153 (k42 : Int32 → Int32 → Int32 → Int32 → Int32 → Int32 → SX → Option (Int32 × SX)) (z1 : Int32) (z2 : Int32) (z3 : Int32) (z4 : Int32) (z6 : Int32) (y0 : Int32) (y1 : Int32) (u : SX) : Option (Int32 × SX) := (lt (y1 - y0) fun v14 => (GX12_isSet_0_156 k42 z1 z2 z3 z4 v14 z6 u))
theorem mX12_isSet_0_8 : Cond.fieldLink RX12 100 "HissHornModel" "wideLows" "[I" ∈ wsX12_isSet := (List.mem_cons_of_mem _ (List.mem_append_left _ (List.mem_of_getElem? (i := 7) rfl)))
def GX12_isSet_0_116 (k42 : Int32 → Int32 → Int32 → Int32 → Int32 → Int32 → SX → Option (Int32 × SX)) (z1 : Int32) (z2 : Int32) (z3 : Int32) (z5 : Int32) (z6 : Int32) (z7 : Int32) (y0 : Int32) (y1 : Int32) (u : SX) : Option (Int32 × SX) := (lt (y1 - y0) fun v11 => (if z7 = 0 then (gd (inb ((12 * z3) + z6) 960) (GX12_isSet_0_153 k42 z1 z2 z3 v11 z6 (u.2.1 25 ((12 * z3) + z6).toNatClampNeg) z5 u)) else (gd (inb ((12 * z3) + z6) 960) (GX12_isSet_0_153 k42 z1 z2 z3 v11 z6 (u.2.1 27 ((12 * z3) + z6).toNatClampNeg) z5 u))))
theorem mX12_isSet_0_9 : Cond.fieldLink RX12 103 "HissHornModel" "wideHighs" "[I" ∈ wsX12_isSet := (List.mem_cons_of_mem _ (List.mem_append_left _ (List.mem_of_getElem? (i := 5) rfl)))
def GX12_isSet_0_80 (k42 : Int32 → Int32 → Int32 → Int32 → Int32 → Int32 → SX → Option (Int32 × SX)) (z1 : Int32) (z2 : Int32) (z3 : Int32) (z4 : Int32) (z5 : Int32) (z6 : Int32) (y0 : Int32) (u : SX) : Option (Int32 × SX) := (if y0 = 0 then (gd (inb ((12 * z3) + z6) 960) (GX12_isSet_0_116 k42 z1 z2 z3 z5 z6 y0 (u.2.1 26 ((12 * z3) + z6).toNatClampNeg) z4 u)) else (gd (inb ((12 * z3) + z6) 960) (GX12_isSet_0_116 k42 z1 z2 z3 z5 z6 y0 (u.2.1 28 ((12 * z3) + z6).toNatClampNeg) z4 u)))
def LX12_isSet_0_42 (k162 : Int32 → Int32 → Int32 → Int32 → Int32 → SX → Option (Int32 × SX)) : Nat → Int32 → Int32 → Int32 → Int32 → Int32 → Int32 → SX → Option (Int32 × SX)
  | 0, _, _, _, _, _, _, _ => none
  | n + 1, z1, z2, z3, z4, z5, z6, u => (if (u.1 12) ≤ z6 then (k162 z1 z2 z3 z4 z5 u) else (gd (inb z6 12) (if (u.2.1 10 z6.toNatClampNeg) ≤ z2 then (if ((z1 >>> (z6 &&& 31)) &&& 1) = 1 then (GX12_isSet_0_80 (LX12_isSet_0_42 k162 n) z1 z2 z3 z4 z5 z6 1 u) else (GX12_isSet_0_80 (LX12_isSet_0_42 k162 n) z1 z2 z3 z4 z5 z6 0 u)) else (GX12_isSet_0_156 (LX12_isSet_0_42 k162 n) z1 z2 z3 z4 z5 z6 u))))
def GX12_isSet_0_174 (k2 : Int32 → Int32 → Int32 → SX → Option (Int32 × SX)) (z1 : Int32) (z2 : Int32) (z3 : Int32) (u : SX) : Option (Int32 × SX) := (k2 z1 z2 (z3 + 1) u)
def GX12_isSet_0_162 (k2 : Int32 → Int32 → Int32 → SX → Option (Int32 × SX)) (z1 : Int32) (z2 : Int32) (z3 : Int32) (z4 : Int32) (z5 : Int32) (u : SX) : Option (Int32 × SX) := (if 0 < z4 then (gd (isB 0) (some (0, u))) else (if 0 ≤ z5 then (GX12_isSet_0_174 k2 z1 z2 z3 u) else (gd (isB 0) (some (0, u)))))
def LX12_isSet_0_2  : Nat → Int32 → Int32 → Int32 → SX → Option (Int32 × SX)
  | 0, _, _, _, _ => none
  | n + 1, z1, z2, z3, u => (if (u.1 15) ≤ z3 then (gd (isB 1) (some (1, u))) else (gd (inb z3 80) (if (u.2.1 21 z3.toNatClampNeg) ≤ z2 then (gd (inb z3 80) (lt (u.2.1 20 z3.toNatClampNeg) fun v4 => (gd (inb z3 80) (lt (u.2.1 20 z3.toNatClampNeg) fun v7 => (LX12_isSet_0_42 (GX12_isSet_0_162 (LX12_isSet_0_2 n)) 5000 z1 z2 z3 v4 v7 0 u))))) else (GX12_isSet_0_174 (LX12_isSet_0_2 n) z1 z2 z3 u))))
def fX12_isSet_0 (x1 : Int32) (x2 : Int32) (u : SX) : Option (Int32 × SX) := (LX12_isSet_0_2  5000 x1 x2 0 u)
set_option maxHeartbeats 4000000 in
set_option maxRecDepth 100000 in
theorem wGX12_isSet_0_156 {p : Program} {l : Launch} {e : Env} {s : State} {m : MethodId} {args : Array Value} {below : List Frame} {meth : Method} {c : Code} {D : va_G} {cy : Nat → ClassId} {ad st : Nat → Nat} (C : Cx RX12 cX12_isSet 8 (some .boolean) wsX12_isSet p s m args meth c) (hK : Ky D [(cy 0, .int), (cy 1, .long), (cy 2, .boolean), (cy 3, .byte), (cy 4, .object "HissHorn$Text")] st s) (hJ : JM ad st) {r : Int32} {u' : SX} {k42 : Int32 → Int32 → Int32 → Int32 → Int32 → Int32 → SX → Option (Int32 × SX)} (hk42 : ∀ (z1 : Int32) (z2 : Int32) (z3 : Int32) (z4 : Int32) (z5 : Int32) (z6 : Int32) (u : SX) (H : Heap) (locs : List Loc) (ls : Array Slot), k42 z1 z2 z3 z4 z5 z6 u = some (r, u') → va_P D vwCl (VM cy ad st u) H → va_S (Ax (AM ad) s.heap.size) s.heap H locs → lv_has ls 8 [(0, .ref (ad 0)), (1, .int z1), (2, .int z2), (3, .int z3), (4, .int z4), (5, .int z5), (6, .int z6)] → W p l e rmX12_isSet_0 s m args below meth c H locs 0 0 (MQ below (Qi D (VM cy ad st) (AM ad) s.heap.size r u') args s 0 0 (Ax (AM ad) s.heap.size)) (F0 m 42 ls [])) (z1 : Int32) (z2 : Int32) (z3 : Int32) (z4 : Int32) (z5 : Int32) (z6 : Int32) (u : SX) (H : Heap) (locs : List Loc) (ls : Array Slot) (h : GX12_isSet_0_156 k42 z1 z2 z3 z4 z5 z6 u = some (r, u')) (hP : va_P D vwCl (VM cy ad st u) H) (hS : va_S (Ax (AM ad) s.heap.size) s.heap H locs) (hl : lv_has ls 8 [(0, .ref (ad 0)), (1, .int z1), (2, .int z2), (3, .int z3), (4, .int z4), (5, .int z5), (6, .int z6)]) : W p l e rmX12_isSet_0 s m args below meth c H locs 0 0 (MQ below (Qi D (VM cy ad st) (AM ad) s.heap.size r u') args s 0 0 (Ax (AM ad) s.heap.size)) (F0 m 156 ls []) := by
  unfold GX12_isSet_0_156 at h
  refine lv_iinc (v := z6 + 1) (lv' := [(6, .int (z6 + 1)), (0, .ref (ad 0)), (1, .int z1), (2, .int z2), (3, .int z3), (4, .int z4), (5, .int z5)]) C.1 C.2.1 dX12_isSet_156 hl (k := 6) rfl rfl (by decide) rfl (fun ls hl => ?_)
  replace hl := lv_sub (l' := [(0, .ref (ad 0)), (1, .int z1), (2, .int z2), (3, .int z3), (4, .int z4), (5, .int z5), (6, .int (z6 + 1))]) hl [1, 2, 3, 4, 5, 6, 0] rfl
  refine lv_goto (tgt := 42) C.1 C.2.1 dX12_isSet_159 (by decide) ?_
  exact hk42 _ _ _ _ _ _ _ _ _ _ h hP hS hl
set_option maxHeartbeats 4000000 in
set_option maxRecDepth 100000 in
theorem wGX12_isSet_0_153 {p : Program} {l : Launch} {e : Env} {s : State} {m : MethodId} {args : Array Value} {below : List Frame} {meth : Method} {c : Code} {D : va_G} {cy : Nat → ClassId} {ad st : Nat → Nat} (C : Cx RX12 cX12_isSet 8 (some .boolean) wsX12_isSet p s m args meth c) (hK : Ky D [(cy 0, .int), (cy 1, .long), (cy 2, .boolean), (cy 3, .byte), (cy 4, .object "HissHorn$Text")] st s) (hJ : JM ad st) {r : Int32} {u' : SX} {k42 : Int32 → Int32 → Int32 → Int32 → Int32 → Int32 → SX → Option (Int32 × SX)} (hk42 : ∀ (z1 : Int32) (z2 : Int32) (z3 : Int32) (z4 : Int32) (z5 : Int32) (z6 : Int32) (u : SX) (H : Heap) (locs : List Loc) (ls : Array Slot), k42 z1 z2 z3 z4 z5 z6 u = some (r, u') → va_P D vwCl (VM cy ad st u) H → va_S (Ax (AM ad) s.heap.size) s.heap H locs → lv_has ls 8 [(0, .ref (ad 0)), (1, .int z1), (2, .int z2), (3, .int z3), (4, .int z4), (5, .int z5), (6, .int z6)] → W p l e rmX12_isSet_0 s m args below meth c H locs 0 0 (MQ below (Qi D (VM cy ad st) (AM ad) s.heap.size r u') args s 0 0 (Ax (AM ad) s.heap.size)) (F0 m 42 ls [])) (z1 : Int32) (z2 : Int32) (z3 : Int32) (z4 : Int32) (z6 : Int32) (y0 : Int32) (y1 : Int32) (u : SX) (H : Heap) (locs : List Loc) (ls : Array Slot) (h : GX12_isSet_0_153 k42 z1 z2 z3 z4 z6 y0 y1 u = some (r, u')) (hP : va_P D vwCl (VM cy ad st u) H) (hS : va_S (Ax (AM ad) s.heap.size) s.heap H locs) (hl : lv_has ls 8 [(0, .ref (ad 0)), (1, .int z1), (2, .int z2), (3, .int z3), (4, .int z4), (6, .int z6)]) : W p l e rmX12_isSet_0 s m args below meth c H locs 0 0 (MQ below (Qi D (VM cy ad st) (AM ad) s.heap.size r u') args s 0 0 (Ax (AM ad) s.heap.size)) (F0 m 153 ls [.int y0, .int y1]) := by
  unfold GX12_isSet_0_153 at h
  refine lv_isub C.1 C.2.1 dX12_isSet_153 ?_
  refine lv_topi (fun v14 hv15 => ?_)
  replace h := lt_e hv15 h
  try dsimp only at h
  refine lv_istore (lv' := [(5, .int v14), (0, .ref (ad 0)), (1, .int z1), (2, .int z2), (3, .int z3), (4, .int z4), (6, .int z6)]) C.1 C.2.1 dX12_isSet_154 hl (by decide) rfl (fun ls hl => ?_)
  replace hl := lv_sub (l' := [(0, .ref (ad 0)), (1, .int z1), (2, .int z2), (3, .int z3), (4, .int z4), (5, .int v14), (6, .int z6)]) hl [1, 2, 3, 4, 5, 0, 6] rfl
  exact wGX12_isSet_0_156 C hK hJ hk42 _ _ _ _ _ _ _ _ _ _ h hP hS hl
set_option maxHeartbeats 4000000 in
set_option maxRecDepth 100000 in
theorem wGX12_isSet_0_116 {p : Program} {l : Launch} {e : Env} {s : State} {m : MethodId} {args : Array Value} {below : List Frame} {meth : Method} {c : Code} {D : va_G} {cy : Nat → ClassId} {ad st : Nat → Nat} (C : Cx RX12 cX12_isSet 8 (some .boolean) wsX12_isSet p s m args meth c) (hK : Ky D [(cy 0, .int), (cy 1, .long), (cy 2, .boolean), (cy 3, .byte), (cy 4, .object "HissHorn$Text")] st s) (hJ : JM ad st) {r : Int32} {u' : SX} {k42 : Int32 → Int32 → Int32 → Int32 → Int32 → Int32 → SX → Option (Int32 × SX)} (hk42 : ∀ (z1 : Int32) (z2 : Int32) (z3 : Int32) (z4 : Int32) (z5 : Int32) (z6 : Int32) (u : SX) (H : Heap) (locs : List Loc) (ls : Array Slot), k42 z1 z2 z3 z4 z5 z6 u = some (r, u') → va_P D vwCl (VM cy ad st u) H → va_S (Ax (AM ad) s.heap.size) s.heap H locs → lv_has ls 8 [(0, .ref (ad 0)), (1, .int z1), (2, .int z2), (3, .int z3), (4, .int z4), (5, .int z5), (6, .int z6)] → W p l e rmX12_isSet_0 s m args below meth c H locs 0 0 (MQ below (Qi D (VM cy ad st) (AM ad) s.heap.size r u') args s 0 0 (Ax (AM ad) s.heap.size)) (F0 m 42 ls [])) (z1 : Int32) (z2 : Int32) (z3 : Int32) (z5 : Int32) (z6 : Int32) (z7 : Int32) (y0 : Int32) (y1 : Int32) (u : SX) (H : Heap) (locs : List Loc) (ls : Array Slot) (h : GX12_isSet_0_116 k42 z1 z2 z3 z5 z6 z7 y0 y1 u = some (r, u')) (hP : va_P D vwCl (VM cy ad st u) H) (hS : va_S (Ax (AM ad) s.heap.size) s.heap H locs) (hl : lv_has ls 8 [(0, .ref (ad 0)), (1, .int z1), (2, .int z2), (3, .int z3), (5, .int z5), (6, .int z6), (7, .int z7)]) : W p l e rmX12_isSet_0 s m args below meth c H locs 0 0 (MQ below (Qi D (VM cy ad st) (AM ad) s.heap.size r u') args s 0 0 (Ax (AM ad) s.heap.size)) (F0 m 116 ls [.int y0, .int y1]) := by
  unfold GX12_isSet_0_116 at h
  refine lv_isub C.1 C.2.1 dX12_isSet_116 ?_
  refine lv_topi (fun v11 hv12 => ?_)
  replace h := lt_e hv12 h
  try dsimp only at h
  refine lv_istore (lv' := [(4, .int v11), (0, .ref (ad 0)), (1, .int z1), (2, .int z2), (3, .int z3), (5, .int z5), (6, .int z6), (7, .int z7)]) C.1 C.2.1 dX12_isSet_117 hl (by decide) rfl (fun ls hl => ?_)
  replace hl := lv_sub (l' := [(0, .ref (ad 0)), (1, .int z1), (2, .int z2), (3, .int z3), (4, .int v11), (5, .int z5), (6, .int z6), (7, .int z7)]) hl [1, 2, 3, 4, 0, 5, 6, 7] rfl
  refine lv_iload C.1 C.2.1 dX12_isSet_119 (lv_at hl 5 rfl) ?_
  refine lv_iload C.1 C.2.1 dX12_isSet_121 (lv_at hl 7 rfl) ?_
  refine lv_if_eq (tgt := 141) C.1 C.2.1 dX12_isSet_123 (by decide) (fun c123 => ?_) (fun c123 => ?_)
  · rw [if_pos c123] at h
    refine lv_aload_n C.1 C.2.1 dX12_isSet_141 rfl (lv_at hl 0 rfl) ?_
    refine gM_0_lows C hX12_isSet_0_X12 hK hP mX12_isSet_0_7 dX12_isSet_142 ?_
    refine lv_bipush (v := 12) C.1 C.2.1 dX12_isSet_145 (by decide) ?_
    refine lv_iload_n C.1 C.2.1 dX12_isSet_147 rfl (lv_at hl 3 rfl) ?_
    refine lv_imul C.1 C.2.1 dX12_isSet_148 ?_
    refine lv_iload C.1 C.2.1 dX12_isSet_149 (lv_at hl 6 rfl) ?_
    refine lv_iadd C.1 C.2.1 dX12_isSet_151 ?_
    obtain ⟨hg13, h⟩ := gd_some h
    refine lM_25 C hK hP hg13 dX12_isSet_152 ?_
    exact wGX12_isSet_0_153 C hK hJ hk42 _ _ _ _ _ _ _ _ _ _ _ h hP hS (lv_sub hl [0, 1, 2, 3, 4, 6] rfl)
  · rw [if_neg c123] at h
    refine lv_aload_n C.1 C.2.1 dX12_isSet_126 rfl (lv_at hl 0 rfl) ?_
    refine gM_0_wideLows C hX12_isSet_0_X12 hK hP mX12_isSet_0_8 dX12_isSet_127 ?_
    refine lv_bipush (v := 12) C.1 C.2.1 dX12_isSet_130 (by decide) ?_
    refine lv_iload_n C.1 C.2.1 dX12_isSet_132 rfl (lv_at hl 3 rfl) ?_
    refine lv_imul C.1 C.2.1 dX12_isSet_133 ?_
    refine lv_iload C.1 C.2.1 dX12_isSet_134 (lv_at hl 6 rfl) ?_
    refine lv_iadd C.1 C.2.1 dX12_isSet_136 ?_
    obtain ⟨hg16, h⟩ := gd_some h
    refine lM_27 C hK hP hg16 dX12_isSet_137 ?_
    refine lv_goto (tgt := 153) C.1 C.2.1 dX12_isSet_138 (by decide) ?_
    exact wGX12_isSet_0_153 C hK hJ hk42 _ _ _ _ _ _ _ _ _ _ _ h hP hS (lv_sub hl [0, 1, 2, 3, 4, 6] rfl)
set_option maxHeartbeats 4000000 in
set_option maxRecDepth 100000 in
theorem wGX12_isSet_0_80 {p : Program} {l : Launch} {e : Env} {s : State} {m : MethodId} {args : Array Value} {below : List Frame} {meth : Method} {c : Code} {D : va_G} {cy : Nat → ClassId} {ad st : Nat → Nat} (C : Cx RX12 cX12_isSet 8 (some .boolean) wsX12_isSet p s m args meth c) (hK : Ky D [(cy 0, .int), (cy 1, .long), (cy 2, .boolean), (cy 3, .byte), (cy 4, .object "HissHorn$Text")] st s) (hJ : JM ad st) {r : Int32} {u' : SX} {k42 : Int32 → Int32 → Int32 → Int32 → Int32 → Int32 → SX → Option (Int32 × SX)} (hk42 : ∀ (z1 : Int32) (z2 : Int32) (z3 : Int32) (z4 : Int32) (z5 : Int32) (z6 : Int32) (u : SX) (H : Heap) (locs : List Loc) (ls : Array Slot), k42 z1 z2 z3 z4 z5 z6 u = some (r, u') → va_P D vwCl (VM cy ad st u) H → va_S (Ax (AM ad) s.heap.size) s.heap H locs → lv_has ls 8 [(0, .ref (ad 0)), (1, .int z1), (2, .int z2), (3, .int z3), (4, .int z4), (5, .int z5), (6, .int z6)] → W p l e rmX12_isSet_0 s m args below meth c H locs 0 0 (MQ below (Qi D (VM cy ad st) (AM ad) s.heap.size r u') args s 0 0 (Ax (AM ad) s.heap.size)) (F0 m 42 ls [])) (z1 : Int32) (z2 : Int32) (z3 : Int32) (z4 : Int32) (z5 : Int32) (z6 : Int32) (y0 : Int32) (u : SX) (H : Heap) (locs : List Loc) (ls : Array Slot) (h : GX12_isSet_0_80 k42 z1 z2 z3 z4 z5 z6 y0 u = some (r, u')) (hP : va_P D vwCl (VM cy ad st u) H) (hS : va_S (Ax (AM ad) s.heap.size) s.heap H locs) (hl : lv_has ls 8 [(0, .ref (ad 0)), (1, .int z1), (2, .int z2), (3, .int z3), (4, .int z4), (5, .int z5), (6, .int z6)]) : W p l e rmX12_isSet_0 s m args below meth c H locs 0 0 (MQ below (Qi D (VM cy ad st) (AM ad) s.heap.size r u') args s 0 0 (Ax (AM ad) s.heap.size)) (F0 m 80 ls [.int y0]) := by
  unfold GX12_isSet_0_80 at h
  refine lv_istore (lv' := [(7, .int y0), (0, .ref (ad 0)), (1, .int z1), (2, .int z2), (3, .int z3), (4, .int z4), (5, .int z5), (6, .int z6)]) C.1 C.2.1 dX12_isSet_80 hl (by decide) rfl (fun ls hl => ?_)
  replace hl := lv_sub (l' := [(0, .ref (ad 0)), (1, .int z1), (2, .int z2), (3, .int z3), (4, .int z4), (5, .int z5), (6, .int z6), (7, .int y0)]) hl [1, 2, 3, 4, 5, 6, 7, 0] rfl
  refine lv_iload C.1 C.2.1 dX12_isSet_82 (lv_at hl 4 rfl) ?_
  refine lv_iload C.1 C.2.1 dX12_isSet_84 (lv_at hl 7 rfl) ?_
  refine lv_if_eq (tgt := 104) C.1 C.2.1 dX12_isSet_86 (by decide) (fun c86 => ?_) (fun c86 => ?_)
  · rw [if_pos c86] at h
    refine lv_aload_n C.1 C.2.1 dX12_isSet_104 rfl (lv_at hl 0 rfl) ?_
    refine gM_0_highs C hX12_isSet_0_X12 hK hP mX12_isSet_0_6 dX12_isSet_105 ?_
    refine lv_bipush (v := 12) C.1 C.2.1 dX12_isSet_108 (by decide) ?_
    refine lv_iload_n C.1 C.2.1 dX12_isSet_110 rfl (lv_at hl 3 rfl) ?_
    refine lv_imul C.1 C.2.1 dX12_isSet_111 ?_
    refine lv_iload C.1 C.2.1 dX12_isSet_112 (lv_at hl 6 rfl) ?_
    refine lv_iadd C.1 C.2.1 dX12_isSet_114 ?_
    obtain ⟨hg10, h⟩ := gd_some h
    refine lM_26 C hK hP hg10 dX12_isSet_115 ?_
    exact wGX12_isSet_0_116 C hK hJ hk42 _ _ _ _ _ _ _ _ _ _ _ _ h hP hS (lv_sub hl [0, 1, 2, 3, 5, 6, 7] rfl)
  · rw [if_neg c86] at h
    refine lv_aload_n C.1 C.2.1 dX12_isSet_89 rfl (lv_at hl 0 rfl) ?_
    refine gM_0_wideHighs C hX12_isSet_0_X12 hK hP mX12_isSet_0_9 dX12_isSet_90 ?_
    refine lv_bipush (v := 12) C.1 C.2.1 dX12_isSet_93 (by decide) ?_
    refine lv_iload_n C.1 C.2.1 dX12_isSet_95 rfl (lv_at hl 3 rfl) ?_
    refine lv_imul C.1 C.2.1 dX12_isSet_96 ?_
    refine lv_iload C.1 C.2.1 dX12_isSet_97 (lv_at hl 6 rfl) ?_
    refine lv_iadd C.1 C.2.1 dX12_isSet_99 ?_
    obtain ⟨hg17, h⟩ := gd_some h
    refine lM_28 C hK hP hg17 dX12_isSet_100 ?_
    refine lv_goto (tgt := 116) C.1 C.2.1 dX12_isSet_101 (by decide) ?_
    exact wGX12_isSet_0_116 C hK hJ hk42 _ _ _ _ _ _ _ _ _ _ _ _ h hP hS (lv_sub hl [0, 1, 2, 3, 5, 6, 7] rfl)
set_option maxHeartbeats 4000000 in
set_option maxRecDepth 100000 in
theorem wLX12_isSet_0_42 {p : Program} {l : Launch} {e : Env} {s : State} {m : MethodId} {args : Array Value} {below : List Frame} {meth : Method} {c : Code} {D : va_G} {cy : Nat → ClassId} {ad st : Nat → Nat} (C : Cx RX12 cX12_isSet 8 (some .boolean) wsX12_isSet p s m args meth c) (hK : Ky D [(cy 0, .int), (cy 1, .long), (cy 2, .boolean), (cy 3, .byte), (cy 4, .object "HissHorn$Text")] st s) (hJ : JM ad st) {r : Int32} {u' : SX} {k162 : Int32 → Int32 → Int32 → Int32 → Int32 → SX → Option (Int32 × SX)} (hk162 : ∀ (z1 : Int32) (z2 : Int32) (z3 : Int32) (z4 : Int32) (z5 : Int32) (u : SX) (H : Heap) (locs : List Loc) (ls : Array Slot), k162 z1 z2 z3 z4 z5 u = some (r, u') → va_P D vwCl (VM cy ad st u) H → va_S (Ax (AM ad) s.heap.size) s.heap H locs → lv_has ls 8 [(0, .ref (ad 0)), (1, .int z1), (2, .int z2), (3, .int z3), (4, .int z4), (5, .int z5)] → W p l e rmX12_isSet_0 s m args below meth c H locs 0 0 (MQ below (Qi D (VM cy ad st) (AM ad) s.heap.size r u') args s 0 0 (Ax (AM ad) s.heap.size)) (F0 m 162 ls [])) : ∀ (n : Nat) (z1 : Int32) (z2 : Int32) (z3 : Int32) (z4 : Int32) (z5 : Int32) (z6 : Int32) (u : SX) (H : Heap) (locs : List Loc) (ls : Array Slot), LX12_isSet_0_42 k162 n z1 z2 z3 z4 z5 z6 u = some (r, u') → va_P D vwCl (VM cy ad st u) H → va_S (Ax (AM ad) s.heap.size) s.heap H locs → lv_has ls 8 [(0, .ref (ad 0)), (1, .int z1), (2, .int z2), (3, .int z3), (4, .int z4), (5, .int z5), (6, .int z6)] → W p l e rmX12_isSet_0 s m args below meth c H locs 0 0 (MQ below (Qi D (VM cy ad st) (AM ad) s.heap.size r u') args s 0 0 (Ax (AM ad) s.heap.size)) (F0 m 42 ls []) := by
  intro n
  induction n with
  | zero =>
    intro z1 z2 z3 z4 z5 z6 u H locs ls h
    exact absurd h (by intro q; cases q)
  | succ n ih =>
    intro z1 z2 z3 z4 z5 z6 u H locs ls h hP hS hl
    rw [LX12_isSet_0_42] at h
    refine lv_iload C.1 C.2.1 dX12_isSet_42 (lv_at hl 6 rfl) ?_
    refine lv_aload_n C.1 C.2.1 dX12_isSet_44 rfl (lv_at hl 0 rfl) ?_
    refine gM_0_parts C hX12_isSet_0_X12 hK hP mX12_isSet_0_4 dX12_isSet_45 ?_
    refine lv_icmp_ge (tgt := 162) C.1 C.2.1 dX12_isSet_48 (by decide) (fun c48 => ?_) (fun c48 => ?_)
    · rw [if_pos c48] at h
      exact hk162 _ _ _ _ _ _ _ _ _ h hP hS (lv_sub hl [0, 1, 2, 3, 4, 5] rfl)
    · rw [if_neg c48] at h
      refine lv_aload_n C.1 C.2.1 dX12_isSet_51 rfl (lv_at hl 0 rfl) ?_
      refine gM_0_partTold C hX12_isSet_0_X12 hK hP mX12_isSet_0_5 dX12_isSet_52 ?_
      refine lv_iload C.1 C.2.1 dX12_isSet_55 (lv_at hl 6 rfl) ?_
      obtain ⟨hg9, h⟩ := gd_some h
      refine lM_10 C hK hP hg9 dX12_isSet_57 ?_
      refine lv_iload_n C.1 C.2.1 dX12_isSet_58 rfl (lv_at hl 2 rfl) ?_
      refine lv_icmp_le (tgt := 65) C.1 C.2.1 dX12_isSet_59 (by decide) (fun c59 => ?_) (fun c59 => ?_)
      · rw [if_pos c59] at h
        refine lv_iload_n C.1 C.2.1 dX12_isSet_65 rfl (lv_at hl 1 rfl) ?_
        refine lv_iload C.1 C.2.1 dX12_isSet_66 (lv_at hl 6 rfl) ?_
        refine lv_ishr C.1 C.2.1 dX12_isSet_68 ?_
        refine lv_iconst (v := 1) C.1 C.2.1 dX12_isSet_69 (by decide) ?_
        refine lv_iand C.1 C.2.1 dX12_isSet_70 ?_
        refine lv_iconst (v := 1) C.1 C.2.1 dX12_isSet_71 (by decide) ?_
        refine lv_icmp_ne (tgt := 79) C.1 C.2.1 dX12_isSet_72 (by decide) (fun c72 => ?_) (fun c72 => ?_)
        · rw [if_neg c72] at h
          refine lv_iconst (v := 0) C.1 C.2.1 dX12_isSet_79 (by decide) ?_
          exact wGX12_isSet_0_80 C hK hJ ih _ _ _ _ _ _ _ _ _ _ _ h hP hS hl
        · rw [if_pos c72] at h
          refine lv_iconst (v := 1) C.1 C.2.1 dX12_isSet_75 (by decide) ?_
          refine lv_goto (tgt := 80) C.1 C.2.1 dX12_isSet_76 (by decide) ?_
          exact wGX12_isSet_0_80 C hK hJ ih _ _ _ _ _ _ _ _ _ _ _ h hP hS hl
      · rw [if_neg c59] at h
        refine lv_goto (tgt := 156) C.1 C.2.1 dX12_isSet_62 (by decide) ?_
        exact wGX12_isSet_0_156 C hK hJ ih _ _ _ _ _ _ _ _ _ _ h hP hS hl
set_option maxHeartbeats 4000000 in
set_option maxRecDepth 100000 in
theorem wGX12_isSet_0_174 {p : Program} {l : Launch} {e : Env} {s : State} {m : MethodId} {args : Array Value} {below : List Frame} {meth : Method} {c : Code} {D : va_G} {cy : Nat → ClassId} {ad st : Nat → Nat} (C : Cx RX12 cX12_isSet 8 (some .boolean) wsX12_isSet p s m args meth c) (hK : Ky D [(cy 0, .int), (cy 1, .long), (cy 2, .boolean), (cy 3, .byte), (cy 4, .object "HissHorn$Text")] st s) (hJ : JM ad st) {r : Int32} {u' : SX} {k2 : Int32 → Int32 → Int32 → SX → Option (Int32 × SX)} (hk2 : ∀ (z1 : Int32) (z2 : Int32) (z3 : Int32) (u : SX) (H : Heap) (locs : List Loc) (ls : Array Slot), k2 z1 z2 z3 u = some (r, u') → va_P D vwCl (VM cy ad st u) H → va_S (Ax (AM ad) s.heap.size) s.heap H locs → lv_has ls 8 [(0, .ref (ad 0)), (1, .int z1), (2, .int z2), (3, .int z3)] → W p l e rmX12_isSet_0 s m args below meth c H locs 0 0 (MQ below (Qi D (VM cy ad st) (AM ad) s.heap.size r u') args s 0 0 (Ax (AM ad) s.heap.size)) (F0 m 2 ls [])) (z1 : Int32) (z2 : Int32) (z3 : Int32) (u : SX) (H : Heap) (locs : List Loc) (ls : Array Slot) (h : GX12_isSet_0_174 k2 z1 z2 z3 u = some (r, u')) (hP : va_P D vwCl (VM cy ad st u) H) (hS : va_S (Ax (AM ad) s.heap.size) s.heap H locs) (hl : lv_has ls 8 [(0, .ref (ad 0)), (1, .int z1), (2, .int z2), (3, .int z3)]) : W p l e rmX12_isSet_0 s m args below meth c H locs 0 0 (MQ below (Qi D (VM cy ad st) (AM ad) s.heap.size r u') args s 0 0 (Ax (AM ad) s.heap.size)) (F0 m 174 ls []) := by
  unfold GX12_isSet_0_174 at h
  refine lv_iinc (v := z3 + 1) (lv' := [(3, .int (z3 + 1)), (0, .ref (ad 0)), (1, .int z1), (2, .int z2)]) C.1 C.2.1 dX12_isSet_174 hl (k := 3) rfl rfl (by decide) rfl (fun ls hl => ?_)
  replace hl := lv_sub (l' := [(0, .ref (ad 0)), (1, .int z1), (2, .int z2), (3, .int (z3 + 1))]) hl [1, 2, 3, 0] rfl
  refine lv_goto (tgt := 2) C.1 C.2.1 dX12_isSet_177 (by decide) ?_
  exact hk2 _ _ _ _ _ _ _ h hP hS hl
set_option maxHeartbeats 4000000 in
set_option maxRecDepth 100000 in
theorem wGX12_isSet_0_162 {p : Program} {l : Launch} {e : Env} {s : State} {m : MethodId} {args : Array Value} {below : List Frame} {meth : Method} {c : Code} {D : va_G} {cy : Nat → ClassId} {ad st : Nat → Nat} (C : Cx RX12 cX12_isSet 8 (some .boolean) wsX12_isSet p s m args meth c) (hK : Ky D [(cy 0, .int), (cy 1, .long), (cy 2, .boolean), (cy 3, .byte), (cy 4, .object "HissHorn$Text")] st s) (hJ : JM ad st) {r : Int32} {u' : SX} {k2 : Int32 → Int32 → Int32 → SX → Option (Int32 × SX)} (hk2 : ∀ (z1 : Int32) (z2 : Int32) (z3 : Int32) (u : SX) (H : Heap) (locs : List Loc) (ls : Array Slot), k2 z1 z2 z3 u = some (r, u') → va_P D vwCl (VM cy ad st u) H → va_S (Ax (AM ad) s.heap.size) s.heap H locs → lv_has ls 8 [(0, .ref (ad 0)), (1, .int z1), (2, .int z2), (3, .int z3)] → W p l e rmX12_isSet_0 s m args below meth c H locs 0 0 (MQ below (Qi D (VM cy ad st) (AM ad) s.heap.size r u') args s 0 0 (Ax (AM ad) s.heap.size)) (F0 m 2 ls [])) (z1 : Int32) (z2 : Int32) (z3 : Int32) (z4 : Int32) (z5 : Int32) (u : SX) (H : Heap) (locs : List Loc) (ls : Array Slot) (h : GX12_isSet_0_162 k2 z1 z2 z3 z4 z5 u = some (r, u')) (hP : va_P D vwCl (VM cy ad st u) H) (hS : va_S (Ax (AM ad) s.heap.size) s.heap H locs) (hl : lv_has ls 8 [(0, .ref (ad 0)), (1, .int z1), (2, .int z2), (3, .int z3), (4, .int z4), (5, .int z5)]) : W p l e rmX12_isSet_0 s m args below meth c H locs 0 0 (MQ below (Qi D (VM cy ad st) (AM ad) s.heap.size r u') args s 0 0 (Ax (AM ad) s.heap.size)) (F0 m 162 ls []) := by
  unfold GX12_isSet_0_162 at h
  refine lv_iload C.1 C.2.1 dX12_isSet_162 (lv_at hl 4 rfl) ?_
  refine lv_if_gt (tgt := 172) C.1 C.2.1 dX12_isSet_164 (by decide) (fun c164 => ?_) (fun c164 => ?_)
  · rw [if_pos c164] at h
    refine lv_iconst (v := 0) C.1 C.2.1 dX12_isSet_172 (by decide) ?_
    obtain ⟨hg18, h⟩ := gd_some h
    cases h
    exact rt_z hg18 C hP hS dX12_isSet_173
  · rw [if_neg c164] at h
    refine lv_iload C.1 C.2.1 dX12_isSet_167 (lv_at hl 5 rfl) ?_
    refine lv_if_ge (tgt := 174) C.1 C.2.1 dX12_isSet_169 (by decide) (fun c169 => ?_) (fun c169 => ?_)
    · rw [if_pos c169] at h
      exact wGX12_isSet_0_174 C hK hJ hk2 _ _ _ _ _ _ _ h hP hS (lv_sub hl [0, 1, 2, 3] rfl)
    · rw [if_neg c169] at h
      refine lv_iconst (v := 0) C.1 C.2.1 dX12_isSet_172 (by decide) ?_
      obtain ⟨hg19, h⟩ := gd_some h
      cases h
      exact rt_z hg19 C hP hS dX12_isSet_173
set_option maxHeartbeats 4000000 in
set_option maxRecDepth 100000 in
theorem wLX12_isSet_0_2 {p : Program} {l : Launch} {e : Env} {s : State} {m : MethodId} {args : Array Value} {below : List Frame} {meth : Method} {c : Code} {D : va_G} {cy : Nat → ClassId} {ad st : Nat → Nat} (C : Cx RX12 cX12_isSet 8 (some .boolean) wsX12_isSet p s m args meth c) (hK : Ky D [(cy 0, .int), (cy 1, .long), (cy 2, .boolean), (cy 3, .byte), (cy 4, .object "HissHorn$Text")] st s) (hJ : JM ad st) {r : Int32} {u' : SX}   : ∀ (n : Nat) (z1 : Int32) (z2 : Int32) (z3 : Int32) (u : SX) (H : Heap) (locs : List Loc) (ls : Array Slot), LX12_isSet_0_2  n z1 z2 z3 u = some (r, u') → va_P D vwCl (VM cy ad st u) H → va_S (Ax (AM ad) s.heap.size) s.heap H locs → lv_has ls 8 [(0, .ref (ad 0)), (1, .int z1), (2, .int z2), (3, .int z3)] → W p l e rmX12_isSet_0 s m args below meth c H locs 0 0 (MQ below (Qi D (VM cy ad st) (AM ad) s.heap.size r u') args s 0 0 (Ax (AM ad) s.heap.size)) (F0 m 2 ls []) := by
  intro n
  induction n with
  | zero =>
    intro z1 z2 z3 u H locs ls h
    exact absurd h (by intro q; cases q)
  | succ n ih =>
    intro z1 z2 z3 u H locs ls h hP hS hl
    rw [LX12_isSet_0_2] at h
    refine lv_iload_n C.1 C.2.1 dX12_isSet_2 rfl (lv_at hl 3 rfl) ?_
    refine lv_aload_n C.1 C.2.1 dX12_isSet_3 rfl (lv_at hl 0 rfl) ?_
    refine gM_0_readings C hX12_isSet_0_X12 hK hP mX12_isSet_0_1 dX12_isSet_4 ?_
    refine lv_icmp_ge (tgt := 180) C.1 C.2.1 dX12_isSet_7 (by decide) (fun c7 => ?_) (fun c7 => ?_)
    · rw [if_pos c7] at h
      refine lv_iconst (v := 1) C.1 C.2.1 dX12_isSet_180 (by decide) ?_
      obtain ⟨hg1, h⟩ := gd_some h
      cases h
      exact rt_z hg1 C hP hS dX12_isSet_181
    · rw [if_neg c7] at h
      refine lv_aload_n C.1 C.2.1 dX12_isSet_10 rfl (lv_at hl 0 rfl) ?_
      refine gM_0_readDay C hX12_isSet_0_X12 hK hP mX12_isSet_0_2 dX12_isSet_11 ?_
      refine lv_iload_n C.1 C.2.1 dX12_isSet_14 rfl (lv_at hl 3 rfl) ?_
      obtain ⟨hg2, h⟩ := gd_some h
      refine lM_21 C hK hP hg2 dX12_isSet_15 ?_
      refine lv_iload_n C.1 C.2.1 dX12_isSet_16 rfl (lv_at hl 2 rfl) ?_
      refine lv_icmp_le (tgt := 23) C.1 C.2.1 dX12_isSet_17 (by decide) (fun c17 => ?_) (fun c17 => ?_)
      · rw [if_pos c17] at h
        refine lv_aload_n C.1 C.2.1 dX12_isSet_23 rfl (lv_at hl 0 rfl) ?_
        refine gM_0_number C hX12_isSet_0_X12 hK hP mX12_isSet_0_3 dX12_isSet_24 ?_
        refine lv_iload_n C.1 C.2.1 dX12_isSet_27 rfl (lv_at hl 3 rfl) ?_
        obtain ⟨hg3, h⟩ := gd_some h
        refine lM_20 C hK hP hg3 dX12_isSet_28 ?_
        refine lv_topi (fun v4 hv5 => ?_)
        replace h := lt_e hv5 h
        try dsimp only at h
        refine lv_istore (lv' := [(4, .int v4), (0, .ref (ad 0)), (1, .int z1), (2, .int z2), (3, .int z3)]) C.1 C.2.1 dX12_isSet_29 hl (by decide) rfl (fun ls hl => ?_)
        replace hl := lv_sub (l' := [(0, .ref (ad 0)), (1, .int z1), (2, .int z2), (3, .int z3), (4, .int v4)]) hl [1, 2, 3, 4, 0] rfl
        refine lv_aload_n C.1 C.2.1 dX12_isSet_31 rfl (lv_at hl 0 rfl) ?_
        refine gM_0_number C hX12_isSet_0_X12 hK hP mX12_isSet_0_3 dX12_isSet_32 ?_
        refine lv_iload_n C.1 C.2.1 dX12_isSet_35 rfl (lv_at hl 3 rfl) ?_
        obtain ⟨hg6, h⟩ := gd_some h
        refine lM_20 C hK hP hg6 dX12_isSet_36 ?_
        refine lv_topi (fun v7 hv8 => ?_)
        replace h := lt_e hv8 h
        try dsimp only at h
        refine lv_istore (lv' := [(5, .int v7), (0, .ref (ad 0)), (1, .int z1), (2, .int z2), (3, .int z3), (4, .int v4)]) C.1 C.2.1 dX12_isSet_37 hl (by decide) rfl (fun ls hl => ?_)
        replace hl := lv_sub (l' := [(0, .ref (ad 0)), (1, .int z1), (2, .int z2), (3, .int z3), (4, .int v4), (5, .int v7)]) hl [1, 2, 3, 4, 5, 0] rfl
        refine lv_iconst (v := 0) C.1 C.2.1 dX12_isSet_39 (by decide) ?_
        refine lv_istore (lv' := [(6, .int 0), (0, .ref (ad 0)), (1, .int z1), (2, .int z2), (3, .int z3), (4, .int v4), (5, .int v7)]) C.1 C.2.1 dX12_isSet_40 hl (by decide) rfl (fun ls hl => ?_)
        replace hl := lv_sub (l' := [(0, .ref (ad 0)), (1, .int z1), (2, .int z2), (3, .int z3), (4, .int v4), (5, .int v7), (6, .int 0)]) hl [1, 2, 3, 4, 5, 6, 0] rfl
        exact wLX12_isSet_0_42 C hK hJ (wGX12_isSet_0_162 C hK hJ ih) 5000 _ _ _ _ _ _ _ _ _ _ h hP hS hl
      · rw [if_neg c17] at h
        refine lv_goto (tgt := 174) C.1 C.2.1 dX12_isSet_20 (by decide) ?_
        exact wGX12_isSet_0_174 C hK hJ ih _ _ _ _ _ _ _ h hP hS hl
set_option maxHeartbeats 4000000 in
set_option maxRecDepth 100000 in
theorem wX12_isSet_0 {p : Program} {l : Launch} {e : Env} {s : State} {m : MethodId} {args : Array Value} {below : List Frame} {meth : Method} {c : Code} {D : va_G} {cy : Nat → ClassId} {ad st : Nat → Nat} (C : Cx RX12 cX12_isSet 8 (some .boolean) wsX12_isSet p s m args meth c) (hK : Ky D [(cy 0, .int), (cy 1, .long), (cy 2, .boolean), (cy 3, .byte), (cy 4, .object "HissHorn$Text")] st s) (hJ : JM ad st) (x1 : Int32) (x2 : Int32) {u : SX} {r : Int32} {u' : SX} {H : Heap} {locs : List Loc} {ls : Array Slot} (h : fX12_isSet_0 x1 x2 u = some (r, u')) (hP : va_P D vwCl (VM cy ad st u) H) (hS : va_S (Ax (AM ad) s.heap.size) s.heap H locs) (hl : lv_has ls 8 [(0, .ref (ad 0)), (1, .int x1), (2, .int x2)]) : W p l e rmX12_isSet_0 s m args below meth c H locs 0 0 (MQ below (Qi D (VM cy ad st) (AM ad) s.heap.size r u') args s 0 0 (Ax (AM ad) s.heap.size)) (F0 m 0 ls []) := by
  unfold fX12_isSet_0 at h
  refine lv_iconst (v := 0) C.1 C.2.1 dX12_isSet_0 (by decide) ?_
  refine lv_istore_n (lv' := [(3, .int 0), (0, .ref (ad 0)), (1, .int x1), (2, .int x2)]) C.1 C.2.1 dX12_isSet_1 rfl hl (by decide) rfl (fun ls hl => ?_)
  replace hl := lv_sub (l' := [(0, .ref (ad 0)), (1, .int x1), (2, .int x2), (3, .int 0)]) hl [1, 2, 3, 0] rfl
  exact wLX12_isSet_0_2 C hK hJ  5000 _ _ _ _ _ _ _ h hP hS hl
theorem metX12_isSet_0 (l : Launch) (D : va_G) (cy : Nat → ClassId) (ad st : Nat → Nat) (hJ : JM ad st) (sz : Nat) (x1 : Int32) (x2 : Int32) {u : SX} {r : Int32} {u' : SX} (h : fX12_isSet_0 x1 x2 u = some (r, u')) : Met l yX12_isSet wsX12_isSet rmX12_isSet_0 (va_Pc [.ref (ad 0), .int x1, .int x2] (Px D [(cy 0, .int), (cy 1, .long), (cy 2, .boolean), (cy 3, .byte), (cy 4, .object "HissHorn$Text")] st (VM cy ad st) sz u)) (Qi D (VM cy ad st) (AM ad) sz r u') 0 0 (Ax (AM ad) sz) := by
  refine Met.ofW (cc := cX12_isSet) (maxL := 8) (ret := (some .boolean)) (by decide) rfl ?_
  intro p e s m args below meth c s₁ B hml hv
  obtain ⟨rfl, hsz, hP, hK⟩ := hv
  subst hsz
  have C : Cx RX12 cX12_isSet 8 (some .boolean) wsX12_isSet p s m _ meth c := ⟨B.exec, B.bytes, hml, B.returns, findClass_of_methodNamed B.named, atoms_spec (ws := wsX12_isSet) B.pre, B.notSynchronized⟩
  have hl := lv_entry ([.ref (ad 0), .int x1, .int x2]) (n := 8) (Nat.le_of_ble_eq_true rfl)
  rw [lg_entry_eq]
  exact wX12_isSet_0 C hK hJ x1 x2 h hP va_S.rf hl

theorem zdX12_sets_54 : (and (and (and (and (and (zk cX12_sets 54 (.ior) 1) (zk cX12_sets 55 (.istore_n 2) 1)) (and (zk cX12_sets 56 (.iinc 3 1) 3) (zk cX12_sets 59 (.goto (-31)) 3))) (and (and (zk cX12_sets 28 (.iload_n 3) 1) (zk cX12_sets 29 (.aload_n 0) 1)) (and (zk cX12_sets 30 (.getfield 286) 3) (zk cX12_sets 33 (.if_icmp .ge 29) 3)))) (and (and (and (zk cX12_sets 36 (.iload_n 2) 1) (zk cX12_sets 37 (.aload_n 0) 1)) (and (zk cX12_sets 38 (.getfield 47) 3) (zk cX12_sets 41 (.iload_n 3) 1))) (and (and (zk cX12_sets 42 (.iaload) 1) (zk cX12_sets 43 (.iload_n 1) 1)) (and (zk cX12_sets 44 (.if_icmp .gt 9) 3) (zk cX12_sets 53 (.iconst 0) 1))))) (and (and (and (and (zk cX12_sets 47 (.iconst 1) 1) (zk cX12_sets 48 (.iload_n 3) 1)) (and (zk cX12_sets 49 (.ishl) 1) (zk cX12_sets 50 (.goto 4) 3))) (and (and (zk cX12_sets 93 (.iload 4) 2) (zk cX12_sets 95 (.aload_n 0) 1)) (and (zk cX12_sets 96 (.getfield 286) 3) (zk cX12_sets 99 (.if_icmp .ge 103) 3)))) (and (and (and (zk cX12_sets 102 (.aload_n 0) 1) (zk cX12_sets 103 (.getfield 94) 3)) (and (zk cX12_sets 106 (.bipush 12) 2) (zk cX12_sets 108 (.iload_n 3) 1))) (and (and (zk cX12_sets 109 (.imul) 1) (zk cX12_sets 110 (.iload 4) 2)) (and (zk cX12_sets 112 (.iadd) 1) (zk cX12_sets 113 (.aload_n 0) 1)))))) = true := by decide +kernel
theorem dX12_sets_54 : decode cX12_sets 54 = .ok (.ior, 1) := zk_of (zk_l (zk_l (zk_l (zk_l (zk_l zdX12_sets_54)))))
theorem dX12_sets_55 : decode cX12_sets 55 = .ok (.istore_n 2, 1) := zk_of (zk_r (zk_l (zk_l (zk_l (zk_l zdX12_sets_54)))))
theorem dX12_sets_56 : decode cX12_sets 56 = .ok (.iinc 3 1, 3) := zk_of (zk_l (zk_r (zk_l (zk_l (zk_l zdX12_sets_54)))))
theorem dX12_sets_59 : decode cX12_sets 59 = .ok (.goto (-31), 3) := zk_of (zk_r (zk_r (zk_l (zk_l (zk_l zdX12_sets_54)))))
theorem dX12_sets_28 : decode cX12_sets 28 = .ok (.iload_n 3, 1) := zk_of (zk_l (zk_l (zk_r (zk_l (zk_l zdX12_sets_54)))))
theorem dX12_sets_29 : decode cX12_sets 29 = .ok (.aload_n 0, 1) := zk_of (zk_r (zk_l (zk_r (zk_l (zk_l zdX12_sets_54)))))
theorem dX12_sets_30 : decode cX12_sets 30 = .ok (.getfield 286, 3) := zk_of (zk_l (zk_r (zk_r (zk_l (zk_l zdX12_sets_54)))))
theorem dX12_sets_33 : decode cX12_sets 33 = .ok (.if_icmp .ge 29, 3) := zk_of (zk_r (zk_r (zk_r (zk_l (zk_l zdX12_sets_54)))))
theorem dX12_sets_36 : decode cX12_sets 36 = .ok (.iload_n 2, 1) := zk_of (zk_l (zk_l (zk_l (zk_r (zk_l zdX12_sets_54)))))
theorem dX12_sets_37 : decode cX12_sets 37 = .ok (.aload_n 0, 1) := zk_of (zk_r (zk_l (zk_l (zk_r (zk_l zdX12_sets_54)))))
theorem dX12_sets_38 : decode cX12_sets 38 = .ok (.getfield 47, 3) := zk_of (zk_l (zk_r (zk_l (zk_r (zk_l zdX12_sets_54)))))
theorem dX12_sets_41 : decode cX12_sets 41 = .ok (.iload_n 3, 1) := zk_of (zk_r (zk_r (zk_l (zk_r (zk_l zdX12_sets_54)))))
theorem dX12_sets_42 : decode cX12_sets 42 = .ok (.iaload, 1) := zk_of (zk_l (zk_l (zk_r (zk_r (zk_l zdX12_sets_54)))))
theorem dX12_sets_43 : decode cX12_sets 43 = .ok (.iload_n 1, 1) := zk_of (zk_r (zk_l (zk_r (zk_r (zk_l zdX12_sets_54)))))
theorem dX12_sets_44 : decode cX12_sets 44 = .ok (.if_icmp .gt 9, 3) := zk_of (zk_l (zk_r (zk_r (zk_r (zk_l zdX12_sets_54)))))
theorem dX12_sets_53 : decode cX12_sets 53 = .ok (.iconst 0, 1) := zk_of (zk_r (zk_r (zk_r (zk_r (zk_l zdX12_sets_54)))))
theorem dX12_sets_47 : decode cX12_sets 47 = .ok (.iconst 1, 1) := zk_of (zk_l (zk_l (zk_l (zk_l (zk_r zdX12_sets_54)))))
theorem dX12_sets_48 : decode cX12_sets 48 = .ok (.iload_n 3, 1) := zk_of (zk_r (zk_l (zk_l (zk_l (zk_r zdX12_sets_54)))))
theorem dX12_sets_49 : decode cX12_sets 49 = .ok (.ishl, 1) := zk_of (zk_l (zk_r (zk_l (zk_l (zk_r zdX12_sets_54)))))
theorem dX12_sets_50 : decode cX12_sets 50 = .ok (.goto 4, 3) := zk_of (zk_r (zk_r (zk_l (zk_l (zk_r zdX12_sets_54)))))
theorem dX12_sets_93 : decode cX12_sets 93 = .ok (.iload 4, 2) := zk_of (zk_l (zk_l (zk_r (zk_l (zk_r zdX12_sets_54)))))
theorem dX12_sets_95 : decode cX12_sets 95 = .ok (.aload_n 0, 1) := zk_of (zk_r (zk_l (zk_r (zk_l (zk_r zdX12_sets_54)))))
theorem dX12_sets_96 : decode cX12_sets 96 = .ok (.getfield 286, 3) := zk_of (zk_l (zk_r (zk_r (zk_l (zk_r zdX12_sets_54)))))
theorem dX12_sets_99 : decode cX12_sets 99 = .ok (.if_icmp .ge 103, 3) := zk_of (zk_r (zk_r (zk_r (zk_l (zk_r zdX12_sets_54)))))
theorem dX12_sets_102 : decode cX12_sets 102 = .ok (.aload_n 0, 1) := zk_of (zk_l (zk_l (zk_l (zk_r (zk_r zdX12_sets_54)))))
theorem dX12_sets_103 : decode cX12_sets 103 = .ok (.getfield 94, 3) := zk_of (zk_r (zk_l (zk_l (zk_r (zk_r zdX12_sets_54)))))
theorem dX12_sets_106 : decode cX12_sets 106 = .ok (.bipush 12, 2) := zk_of (zk_l (zk_r (zk_l (zk_r (zk_r zdX12_sets_54)))))
theorem dX12_sets_108 : decode cX12_sets 108 = .ok (.iload_n 3, 1) := zk_of (zk_r (zk_r (zk_l (zk_r (zk_r zdX12_sets_54)))))
theorem dX12_sets_109 : decode cX12_sets 109 = .ok (.imul, 1) := zk_of (zk_l (zk_l (zk_r (zk_r (zk_r zdX12_sets_54)))))
theorem dX12_sets_110 : decode cX12_sets 110 = .ok (.iload 4, 2) := zk_of (zk_r (zk_l (zk_r (zk_r (zk_r zdX12_sets_54)))))
theorem dX12_sets_112 : decode cX12_sets 112 = .ok (.iadd, 1) := zk_of (zk_l (zk_r (zk_r (zk_r (zk_r zdX12_sets_54)))))
theorem dX12_sets_113 : decode cX12_sets 113 = .ok (.aload_n 0, 1) := zk_of (zk_r (zk_r (zk_r (zk_r (zk_r zdX12_sets_54)))))
theorem zdX12_sets_114 : (and (and (and (and (and (zk cX12_sets 114 (.iload 4) 2) (zk cX12_sets 116 (.invokevirtual 355) 3)) (and (zk cX12_sets 119 (.iastore) 1) (zk cX12_sets 120 (.aload_n 0) 1))) (and (and (zk cX12_sets 121 (.getfield 97) 3) (zk cX12_sets 124 (.bipush 12) 2)) (and (zk cX12_sets 126 (.iload_n 3) 1) (zk cX12_sets 127 (.imul) 1)))) (and (and (and (zk cX12_sets 128 (.iload 4) 2) (zk cX12_sets 130 (.iadd) 1)) (and (zk cX12_sets 131 (.aload_n 0) 1) (zk cX12_sets 132 (.iload 4) 2))) (and (and (zk cX12_sets 134 (.invokevirtual 352) 3) (zk cX12_sets 137 (.iastore) 1)) (and (zk cX12_sets 138 (.aload_n 0) 1) (zk cX12_sets 139 (.getfield 100) 3))))) (and (and (and (and (zk cX12_sets 142 (.bipush 12) 2) (zk cX12_sets 144 (.iload_n 3) 1)) (and (zk cX12_sets 145 (.imul) 1) (zk cX12_sets 146 (.iload 4) 2))) (and (and (zk cX12_sets 148 (.iadd) 1) (zk cX12_sets 149 (.iconst 0) 1)) (and (zk cX12_sets 150 (.sipush 400) 3) (zk cX12_sets 153 (.aload_n 0) 1)))) (and (and (and (zk cX12_sets 154 (.getfield 71) 3) (zk cX12_sets 157 (.iload 4) 2)) (and (zk cX12_sets 159 (.iaload) 1) (zk cX12_sets 160 (.invokestatic 323) 3))) (and (and (zk cX12_sets 163 (.invokestatic 295) 3) (zk cX12_sets 166 (.iastore) 1)) (and (zk cX12_sets 167 (.aload_n 0) 1) (zk cX12_sets 168 (.getfield 103) 3)))))) = true := by decide +kernel
theorem dX12_sets_114 : decode cX12_sets 114 = .ok (.iload 4, 2) := zk_of (zk_l (zk_l (zk_l (zk_l (zk_l zdX12_sets_114)))))
theorem dX12_sets_116 : decode cX12_sets 116 = .ok (.invokevirtual 355, 3) := zk_of (zk_r (zk_l (zk_l (zk_l (zk_l zdX12_sets_114)))))
theorem dX12_sets_119 : decode cX12_sets 119 = .ok (.iastore, 1) := zk_of (zk_l (zk_r (zk_l (zk_l (zk_l zdX12_sets_114)))))
theorem dX12_sets_120 : decode cX12_sets 120 = .ok (.aload_n 0, 1) := zk_of (zk_r (zk_r (zk_l (zk_l (zk_l zdX12_sets_114)))))
theorem dX12_sets_121 : decode cX12_sets 121 = .ok (.getfield 97, 3) := zk_of (zk_l (zk_l (zk_r (zk_l (zk_l zdX12_sets_114)))))
theorem dX12_sets_124 : decode cX12_sets 124 = .ok (.bipush 12, 2) := zk_of (zk_r (zk_l (zk_r (zk_l (zk_l zdX12_sets_114)))))
theorem dX12_sets_126 : decode cX12_sets 126 = .ok (.iload_n 3, 1) := zk_of (zk_l (zk_r (zk_r (zk_l (zk_l zdX12_sets_114)))))
theorem dX12_sets_127 : decode cX12_sets 127 = .ok (.imul, 1) := zk_of (zk_r (zk_r (zk_r (zk_l (zk_l zdX12_sets_114)))))
theorem dX12_sets_128 : decode cX12_sets 128 = .ok (.iload 4, 2) := zk_of (zk_l (zk_l (zk_l (zk_r (zk_l zdX12_sets_114)))))
theorem dX12_sets_130 : decode cX12_sets 130 = .ok (.iadd, 1) := zk_of (zk_r (zk_l (zk_l (zk_r (zk_l zdX12_sets_114)))))
theorem dX12_sets_131 : decode cX12_sets 131 = .ok (.aload_n 0, 1) := zk_of (zk_l (zk_r (zk_l (zk_r (zk_l zdX12_sets_114)))))
theorem dX12_sets_132 : decode cX12_sets 132 = .ok (.iload 4, 2) := zk_of (zk_r (zk_r (zk_l (zk_r (zk_l zdX12_sets_114)))))
theorem dX12_sets_134 : decode cX12_sets 134 = .ok (.invokevirtual 352, 3) := zk_of (zk_l (zk_l (zk_r (zk_r (zk_l zdX12_sets_114)))))
theorem dX12_sets_137 : decode cX12_sets 137 = .ok (.iastore, 1) := zk_of (zk_r (zk_l (zk_r (zk_r (zk_l zdX12_sets_114)))))
theorem dX12_sets_138 : decode cX12_sets 138 = .ok (.aload_n 0, 1) := zk_of (zk_l (zk_r (zk_r (zk_r (zk_l zdX12_sets_114)))))
theorem dX12_sets_139 : decode cX12_sets 139 = .ok (.getfield 100, 3) := zk_of (zk_r (zk_r (zk_r (zk_r (zk_l zdX12_sets_114)))))
theorem dX12_sets_142 : decode cX12_sets 142 = .ok (.bipush 12, 2) := zk_of (zk_l (zk_l (zk_l (zk_l (zk_r zdX12_sets_114)))))
theorem dX12_sets_144 : decode cX12_sets 144 = .ok (.iload_n 3, 1) := zk_of (zk_r (zk_l (zk_l (zk_l (zk_r zdX12_sets_114)))))
theorem dX12_sets_145 : decode cX12_sets 145 = .ok (.imul, 1) := zk_of (zk_l (zk_r (zk_l (zk_l (zk_r zdX12_sets_114)))))
theorem dX12_sets_146 : decode cX12_sets 146 = .ok (.iload 4, 2) := zk_of (zk_r (zk_r (zk_l (zk_l (zk_r zdX12_sets_114)))))
theorem dX12_sets_148 : decode cX12_sets 148 = .ok (.iadd, 1) := zk_of (zk_l (zk_l (zk_r (zk_l (zk_r zdX12_sets_114)))))
theorem dX12_sets_149 : decode cX12_sets 149 = .ok (.iconst 0, 1) := zk_of (zk_r (zk_l (zk_r (zk_l (zk_r zdX12_sets_114)))))
theorem dX12_sets_150 : decode cX12_sets 150 = .ok (.sipush 400, 3) := zk_of (zk_l (zk_r (zk_r (zk_l (zk_r zdX12_sets_114)))))
theorem dX12_sets_153 : decode cX12_sets 153 = .ok (.aload_n 0, 1) := zk_of (zk_r (zk_r (zk_r (zk_l (zk_r zdX12_sets_114)))))
theorem dX12_sets_154 : decode cX12_sets 154 = .ok (.getfield 71, 3) := zk_of (zk_l (zk_l (zk_l (zk_r (zk_r zdX12_sets_114)))))
theorem dX12_sets_157 : decode cX12_sets 157 = .ok (.iload 4, 2) := zk_of (zk_r (zk_l (zk_l (zk_r (zk_r zdX12_sets_114)))))
theorem dX12_sets_159 : decode cX12_sets 159 = .ok (.iaload, 1) := zk_of (zk_l (zk_r (zk_l (zk_r (zk_r zdX12_sets_114)))))
theorem dX12_sets_160 : decode cX12_sets 160 = .ok (.invokestatic 323, 3) := zk_of (zk_r (zk_r (zk_l (zk_r (zk_r zdX12_sets_114)))))
theorem dX12_sets_163 : decode cX12_sets 163 = .ok (.invokestatic 295, 3) := zk_of (zk_l (zk_l (zk_r (zk_r (zk_r zdX12_sets_114)))))
theorem dX12_sets_166 : decode cX12_sets 166 = .ok (.iastore, 1) := zk_of (zk_r (zk_l (zk_r (zk_r (zk_r zdX12_sets_114)))))
theorem dX12_sets_167 : decode cX12_sets 167 = .ok (.aload_n 0, 1) := zk_of (zk_l (zk_r (zk_r (zk_r (zk_r zdX12_sets_114)))))
theorem dX12_sets_168 : decode cX12_sets 168 = .ok (.getfield 103, 3) := zk_of (zk_r (zk_r (zk_r (zk_r (zk_r zdX12_sets_114)))))
set_option maxRecDepth 20000 in
theorem ggX12_sets_X12_least : GoodIn wsX12_sets wsX12_least := ggi (fun w h => List.mem_cons_of_mem _ (List.mem_append_left _ (List.mem_append_right _ (List.mem_append_left _ h)))) gs_X12_least
set_option maxRecDepth 20000 in
theorem gX12_sets_X12_least : GoodIn wsX12_sets (wsV RX12 355 RX12 yX12_least wsX12_least) := goodIn_app (goodIn_of _ (by decide +kernel)) ggX12_sets_X12_least
set_option maxRecDepth 20000 in
theorem ggX12_sets_X12_most : GoodIn wsX12_sets wsX12_most := ggi (fun w h => List.mem_cons_of_mem _ (List.mem_append_left _ (List.mem_append_right _ (List.mem_append_right _ (List.mem_append_left _ h))))) gs_X12_most
set_option maxRecDepth 20000 in
theorem gX12_sets_X12_most : GoodIn wsX12_sets (wsV RX12 352 RX12 yX12_most wsX12_most) := goodIn_app (goodIn_of _ (by decide +kernel)) ggX12_sets_X12_most
set_option maxRecDepth 20000 in
theorem ggX12_sets_X12_shines : GoodIn wsX12_sets wsX12_shines := ggi (fun w h => List.mem_cons_of_mem _ (List.mem_append_left _ (List.mem_append_right _ (List.mem_append_right _ (List.mem_append_right _ (List.mem_append_left _ h)))))) gs_X12_shines
set_option maxRecDepth 20000 in
theorem gX12_sets_X12_shines : GoodIn wsX12_sets (va_wsS RX12 323 yX12_shines wsX12_shines) := goodIn_app (goodIn_of _ (by decide +kernel)) ggX12_sets_X12_shines
theorem zdX12_sets_171 : (and (and (and (and (and (zk cX12_sets 171 (.bipush 12) 2) (zk cX12_sets 173 (.iload_n 3) 1)) (and (zk cX12_sets 174 (.imul) 1) (zk cX12_sets 175 (.iload 4) 2))) (and (and (zk cX12_sets 177 (.iadd) 1) (zk cX12_sets 178 (.iconst 0) 1)) (and (zk cX12_sets 179 (.sipush 400) 3) (zk cX12_sets 182 (.aload_n 0) 1)))) (and (and (and (zk cX12_sets 183 (.getfield 71) 3) (zk cX12_sets 186 (.iload 4) 2)) (and (zk cX12_sets 188 (.iaload) 1) (zk cX12_sets 189 (.invokestatic 323) 3))) (and (and (zk cX12_sets 192 (.invokestatic 293) 3) (zk cX12_sets 195 (.iastore) 1)) (and (zk cX12_sets 196 (.iinc 4 1) 3) (zk cX12_sets 199 (.goto (-106)) 3))))) (and (and (and (and (zk cX12_sets 202 (.iinc 3 1) 3) (zk cX12_sets 205 (.goto (-141)) 3)) (and (zk cX12_sets 64 (.iload_n 3) 1) (zk cX12_sets 65 (.aload_n 0) 1))) (and (and (zk cX12_sets 66 (.getfield 335) 3) (zk cX12_sets 69 (.if_icmp .ge 139) 3)) (and (zk cX12_sets 72 (.aload_n 0) 1) (zk cX12_sets 73 (.getfield 80) 3)))) (and (and (and (zk cX12_sets 76 (.iload_n 3) 1) (zk cX12_sets 77 (.iaload) 1)) (and (zk cX12_sets 78 (.iload_n 1) 1) (zk cX12_sets 79 (.if_icmp .le 6) 3))) (and (and (zk cX12_sets 85 (.aload_n 0) 1) (zk cX12_sets 86 (.iload_n 3) 1)) (and (zk cX12_sets 87 (.invokevirtual 343) 3) (zk cX12_sets 90 (.iconst 0) 1)))))) = true := by decide +kernel
theorem dX12_sets_171 : decode cX12_sets 171 = .ok (.bipush 12, 2) := zk_of (zk_l (zk_l (zk_l (zk_l (zk_l zdX12_sets_171)))))
theorem dX12_sets_173 : decode cX12_sets 173 = .ok (.iload_n 3, 1) := zk_of (zk_r (zk_l (zk_l (zk_l (zk_l zdX12_sets_171)))))
theorem dX12_sets_174 : decode cX12_sets 174 = .ok (.imul, 1) := zk_of (zk_l (zk_r (zk_l (zk_l (zk_l zdX12_sets_171)))))
theorem dX12_sets_175 : decode cX12_sets 175 = .ok (.iload 4, 2) := zk_of (zk_r (zk_r (zk_l (zk_l (zk_l zdX12_sets_171)))))
theorem dX12_sets_177 : decode cX12_sets 177 = .ok (.iadd, 1) := zk_of (zk_l (zk_l (zk_r (zk_l (zk_l zdX12_sets_171)))))
theorem dX12_sets_178 : decode cX12_sets 178 = .ok (.iconst 0, 1) := zk_of (zk_r (zk_l (zk_r (zk_l (zk_l zdX12_sets_171)))))
theorem dX12_sets_179 : decode cX12_sets 179 = .ok (.sipush 400, 3) := zk_of (zk_l (zk_r (zk_r (zk_l (zk_l zdX12_sets_171)))))
theorem dX12_sets_182 : decode cX12_sets 182 = .ok (.aload_n 0, 1) := zk_of (zk_r (zk_r (zk_r (zk_l (zk_l zdX12_sets_171)))))
theorem dX12_sets_183 : decode cX12_sets 183 = .ok (.getfield 71, 3) := zk_of (zk_l (zk_l (zk_l (zk_r (zk_l zdX12_sets_171)))))
theorem dX12_sets_186 : decode cX12_sets 186 = .ok (.iload 4, 2) := zk_of (zk_r (zk_l (zk_l (zk_r (zk_l zdX12_sets_171)))))
theorem dX12_sets_188 : decode cX12_sets 188 = .ok (.iaload, 1) := zk_of (zk_l (zk_r (zk_l (zk_r (zk_l zdX12_sets_171)))))
theorem dX12_sets_189 : decode cX12_sets 189 = .ok (.invokestatic 323, 3) := zk_of (zk_r (zk_r (zk_l (zk_r (zk_l zdX12_sets_171)))))
theorem dX12_sets_192 : decode cX12_sets 192 = .ok (.invokestatic 293, 3) := zk_of (zk_l (zk_l (zk_r (zk_r (zk_l zdX12_sets_171)))))
theorem dX12_sets_195 : decode cX12_sets 195 = .ok (.iastore, 1) := zk_of (zk_r (zk_l (zk_r (zk_r (zk_l zdX12_sets_171)))))
theorem dX12_sets_196 : decode cX12_sets 196 = .ok (.iinc 4 1, 3) := zk_of (zk_l (zk_r (zk_r (zk_r (zk_l zdX12_sets_171)))))
theorem dX12_sets_199 : decode cX12_sets 199 = .ok (.goto (-106), 3) := zk_of (zk_r (zk_r (zk_r (zk_r (zk_l zdX12_sets_171)))))
theorem dX12_sets_202 : decode cX12_sets 202 = .ok (.iinc 3 1, 3) := zk_of (zk_l (zk_l (zk_l (zk_l (zk_r zdX12_sets_171)))))
theorem dX12_sets_205 : decode cX12_sets 205 = .ok (.goto (-141), 3) := zk_of (zk_r (zk_l (zk_l (zk_l (zk_r zdX12_sets_171)))))
theorem dX12_sets_64 : decode cX12_sets 64 = .ok (.iload_n 3, 1) := zk_of (zk_l (zk_r (zk_l (zk_l (zk_r zdX12_sets_171)))))
theorem dX12_sets_65 : decode cX12_sets 65 = .ok (.aload_n 0, 1) := zk_of (zk_r (zk_r (zk_l (zk_l (zk_r zdX12_sets_171)))))
theorem dX12_sets_66 : decode cX12_sets 66 = .ok (.getfield 335, 3) := zk_of (zk_l (zk_l (zk_r (zk_l (zk_r zdX12_sets_171)))))
theorem dX12_sets_69 : decode cX12_sets 69 = .ok (.if_icmp .ge 139, 3) := zk_of (zk_r (zk_l (zk_r (zk_l (zk_r zdX12_sets_171)))))
theorem dX12_sets_72 : decode cX12_sets 72 = .ok (.aload_n 0, 1) := zk_of (zk_l (zk_r (zk_r (zk_l (zk_r zdX12_sets_171)))))
theorem dX12_sets_73 : decode cX12_sets 73 = .ok (.getfield 80, 3) := zk_of (zk_r (zk_r (zk_r (zk_l (zk_r zdX12_sets_171)))))
theorem dX12_sets_76 : decode cX12_sets 76 = .ok (.iload_n 3, 1) := zk_of (zk_l (zk_l (zk_l (zk_r (zk_r zdX12_sets_171)))))
theorem dX12_sets_77 : decode cX12_sets 77 = .ok (.iaload, 1) := zk_of (zk_r (zk_l (zk_l (zk_r (zk_r zdX12_sets_171)))))
theorem dX12_sets_78 : decode cX12_sets 78 = .ok (.iload_n 1, 1) := zk_of (zk_l (zk_r (zk_l (zk_r (zk_r zdX12_sets_171)))))
theorem dX12_sets_79 : decode cX12_sets 79 = .ok (.if_icmp .le 6, 3) := zk_of (zk_r (zk_r (zk_l (zk_r (zk_r zdX12_sets_171)))))
theorem dX12_sets_85 : decode cX12_sets 85 = .ok (.aload_n 0, 1) := zk_of (zk_l (zk_l (zk_r (zk_r (zk_r zdX12_sets_171)))))
theorem dX12_sets_86 : decode cX12_sets 86 = .ok (.iload_n 3, 1) := zk_of (zk_r (zk_l (zk_r (zk_r (zk_r zdX12_sets_171)))))
theorem dX12_sets_87 : decode cX12_sets 87 = .ok (.invokevirtual 343, 3) := zk_of (zk_l (zk_r (zk_r (zk_r (zk_r zdX12_sets_171)))))
theorem dX12_sets_90 : decode cX12_sets 90 = .ok (.iconst 0, 1) := zk_of (zk_r (zk_r (zk_r (zk_r (zk_r zdX12_sets_171)))))
set_option maxRecDepth 20000 in
theorem ggX12_sets_X12_layWorthsOf : GoodIn wsX12_sets wsX12_layWorthsOf := ggi (fun w h => List.mem_cons_of_mem _ (List.mem_append_left _ (List.mem_append_right _ (List.mem_append_right _ (List.mem_append_right _ (List.mem_append_right _ (List.mem_append_left _ h))))))) gs_X12_layWorthsOf
set_option maxRecDepth 20000 in
theorem gX12_sets_X12_layWorthsOf : GoodIn wsX12_sets (wsV RX12 343 RX12 yX12_layWorthsOf wsX12_layWorthsOf) := goodIn_app (goodIn_of _ (by decide +kernel)) ggX12_sets_X12_layWorthsOf
theorem zdX12_sets_91 : (and (and (and (and (and (zk cX12_sets 91 (.istore 4) 2) (zk cX12_sets 82 (.goto 120) 3)) (and (zk cX12_sets 255 (.iinc 4 1) 3) (zk cX12_sets 258 (.goto (-45)) 3))) (and (and (zk cX12_sets 213 (.iload 4) 2) (zk cX12_sets 215 (.iconst 1) 1)) (and (zk cX12_sets 216 (.aload_n 0) 1) (zk cX12_sets 217 (.getfield 286) 3)))) (and (and (and (zk cX12_sets 220 (.ishl) 1) (zk cX12_sets 221 (.if_icmp .ge 40) 3)) (and (zk cX12_sets 261 (.iload_n 3) 1) (zk cX12_sets 262 (.ireturn) 1))) (and (and (zk cX12_sets 224 (.iload 4) 2) (zk cX12_sets 226 (.iload_n 2) 1)) (and (zk cX12_sets 227 (.iconst (-1)) 1) (zk cX12_sets 228 (.ixor) 1))))) (and (and (and (and (zk cX12_sets 229 (.iand) 1) (zk cX12_sets 230 (.ifCond .ne 25) 3)) (and (zk cX12_sets 233 (.iload 4) 2) (zk cX12_sets 235 (.iload_n 3) 1))) (and (and (zk cX12_sets 236 (.invokestatic 395) 3) (zk cX12_sets 239 (.ifCond .eq 16) 3)) (and (zk cX12_sets 242 (.aload_n 0) 1) (zk cX12_sets 243 (.iload 4) 2)))) (and (and (and (zk cX12_sets 245 (.iload_n 1) 1) (zk cX12_sets 246 (.invokevirtual 398) 3)) (and (zk cX12_sets 249 (.ifCond .eq 6) 3) (zk cX12_sets 252 (.iload 4) 2))) (and (and (zk cX12_sets 254 (.istore_n 3) 1) (zk cX12_sets 208 (.iconst (-1)) 1)) (and (zk cX12_sets 209 (.istore_n 3) 1) (zk cX12_sets 210 (.iconst 0) 1)))))) = true := by decide +kernel
theorem dX12_sets_91 : decode cX12_sets 91 = .ok (.istore 4, 2) := zk_of (zk_l (zk_l (zk_l (zk_l (zk_l zdX12_sets_91)))))
theorem dX12_sets_82 : decode cX12_sets 82 = .ok (.goto 120, 3) := zk_of (zk_r (zk_l (zk_l (zk_l (zk_l zdX12_sets_91)))))
theorem dX12_sets_255 : decode cX12_sets 255 = .ok (.iinc 4 1, 3) := zk_of (zk_l (zk_r (zk_l (zk_l (zk_l zdX12_sets_91)))))
theorem dX12_sets_258 : decode cX12_sets 258 = .ok (.goto (-45), 3) := zk_of (zk_r (zk_r (zk_l (zk_l (zk_l zdX12_sets_91)))))
theorem dX12_sets_213 : decode cX12_sets 213 = .ok (.iload 4, 2) := zk_of (zk_l (zk_l (zk_r (zk_l (zk_l zdX12_sets_91)))))
theorem dX12_sets_215 : decode cX12_sets 215 = .ok (.iconst 1, 1) := zk_of (zk_r (zk_l (zk_r (zk_l (zk_l zdX12_sets_91)))))
theorem dX12_sets_216 : decode cX12_sets 216 = .ok (.aload_n 0, 1) := zk_of (zk_l (zk_r (zk_r (zk_l (zk_l zdX12_sets_91)))))
theorem dX12_sets_217 : decode cX12_sets 217 = .ok (.getfield 286, 3) := zk_of (zk_r (zk_r (zk_r (zk_l (zk_l zdX12_sets_91)))))
theorem dX12_sets_220 : decode cX12_sets 220 = .ok (.ishl, 1) := zk_of (zk_l (zk_l (zk_l (zk_r (zk_l zdX12_sets_91)))))
theorem dX12_sets_221 : decode cX12_sets 221 = .ok (.if_icmp .ge 40, 3) := zk_of (zk_r (zk_l (zk_l (zk_r (zk_l zdX12_sets_91)))))
theorem dX12_sets_261 : decode cX12_sets 261 = .ok (.iload_n 3, 1) := zk_of (zk_l (zk_r (zk_l (zk_r (zk_l zdX12_sets_91)))))
theorem dX12_sets_262 : decode cX12_sets 262 = .ok (.ireturn, 1) := zk_of (zk_r (zk_r (zk_l (zk_r (zk_l zdX12_sets_91)))))
theorem dX12_sets_224 : decode cX12_sets 224 = .ok (.iload 4, 2) := zk_of (zk_l (zk_l (zk_r (zk_r (zk_l zdX12_sets_91)))))
theorem dX12_sets_226 : decode cX12_sets 226 = .ok (.iload_n 2, 1) := zk_of (zk_r (zk_l (zk_r (zk_r (zk_l zdX12_sets_91)))))
theorem dX12_sets_227 : decode cX12_sets 227 = .ok (.iconst (-1), 1) := zk_of (zk_l (zk_r (zk_r (zk_r (zk_l zdX12_sets_91)))))
theorem dX12_sets_228 : decode cX12_sets 228 = .ok (.ixor, 1) := zk_of (zk_r (zk_r (zk_r (zk_r (zk_l zdX12_sets_91)))))
theorem dX12_sets_229 : decode cX12_sets 229 = .ok (.iand, 1) := zk_of (zk_l (zk_l (zk_l (zk_l (zk_r zdX12_sets_91)))))
theorem dX12_sets_230 : decode cX12_sets 230 = .ok (.ifCond .ne 25, 3) := zk_of (zk_r (zk_l (zk_l (zk_l (zk_r zdX12_sets_91)))))
theorem dX12_sets_233 : decode cX12_sets 233 = .ok (.iload 4, 2) := zk_of (zk_l (zk_r (zk_l (zk_l (zk_r zdX12_sets_91)))))
theorem dX12_sets_235 : decode cX12_sets 235 = .ok (.iload_n 3, 1) := zk_of (zk_r (zk_r (zk_l (zk_l (zk_r zdX12_sets_91)))))
theorem dX12_sets_236 : decode cX12_sets 236 = .ok (.invokestatic 395, 3) := zk_of (zk_l (zk_l (zk_r (zk_l (zk_r zdX12_sets_91)))))
theorem dX12_sets_239 : decode cX12_sets 239 = .ok (.ifCond .eq 16, 3) := zk_of (zk_r (zk_l (zk_r (zk_l (zk_r zdX12_sets_91)))))
theorem dX12_sets_242 : decode cX12_sets 242 = .ok (.aload_n 0, 1) := zk_of (zk_l (zk_r (zk_r (zk_l (zk_r zdX12_sets_91)))))
theorem dX12_sets_243 : decode cX12_sets 243 = .ok (.iload 4, 2) := zk_of (zk_r (zk_r (zk_r (zk_l (zk_r zdX12_sets_91)))))
theorem dX12_sets_245 : decode cX12_sets 245 = .ok (.iload_n 1, 1) := zk_of (zk_l (zk_l (zk_l (zk_r (zk_r zdX12_sets_91)))))
theorem dX12_sets_246 : decode cX12_sets 246 = .ok (.invokevirtual 398, 3) := zk_of (zk_r (zk_l (zk_l (zk_r (zk_r zdX12_sets_91)))))
theorem dX12_sets_249 : decode cX12_sets 249 = .ok (.ifCond .eq 6, 3) := zk_of (zk_l (zk_r (zk_l (zk_r (zk_r zdX12_sets_91)))))
theorem dX12_sets_252 : decode cX12_sets 252 = .ok (.iload 4, 2) := zk_of (zk_r (zk_r (zk_l (zk_r (zk_r zdX12_sets_91)))))
theorem dX12_sets_254 : decode cX12_sets 254 = .ok (.istore_n 3, 1) := zk_of (zk_l (zk_l (zk_r (zk_r (zk_r zdX12_sets_91)))))
theorem dX12_sets_208 : decode cX12_sets 208 = .ok (.iconst (-1), 1) := zk_of (zk_r (zk_l (zk_r (zk_r (zk_r zdX12_sets_91)))))
theorem dX12_sets_209 : decode cX12_sets 209 = .ok (.istore_n 3, 1) := zk_of (zk_l (zk_r (zk_r (zk_r (zk_r zdX12_sets_91)))))
theorem dX12_sets_210 : decode cX12_sets 210 = .ok (.iconst 0, 1) := zk_of (zk_r (zk_r (zk_r (zk_r (zk_r zdX12_sets_91)))))
set_option maxRecDepth 20000 in
theorem ggX12_sets_X12_isBetter : GoodIn wsX12_sets wsX12_isBetter := ggi (fun w h => List.mem_cons_of_mem _ (List.mem_append_left _ (List.mem_append_right _ (List.mem_append_right _ (List.mem_append_right _ (List.mem_append_right _ (List.mem_append_right _ (List.mem_append_left _ h)))))))) gs_X12_isBetter
set_option maxRecDepth 20000 in
theorem gX12_sets_X12_isBetter : GoodIn wsX12_sets (va_wsS RX12 395 yX12_isBetter wsX12_isBetter) := goodIn_app (goodIn_of _ (by decide +kernel)) ggX12_sets_X12_isBetter
set_option maxRecDepth 20000 in
theorem ggX12_sets_X12_isSet : GoodIn wsX12_sets wsX12_isSet := ggi (fun w h => List.mem_cons_of_mem _ (List.mem_append_left _ (List.mem_append_right _ (List.mem_append_right _ (List.mem_append_right _ (List.mem_append_right _ (List.mem_append_right _ (List.mem_append_right _ (List.mem_append_left _ h))))))))) gs_X12_isSet
set_option maxRecDepth 20000 in
theorem gX12_sets_X12_isSet : GoodIn wsX12_sets (wsV RX12 398 RX12 yX12_isSet wsX12_isSet) := goodIn_app (goodIn_of _ (by decide +kernel)) ggX12_sets_X12_isSet
theorem zdX12_sets_211 : (and (and (and (and (and (zk cX12_sets 211 (.istore 4) 2) (zk cX12_sets 62 (.iconst 0) 1)) (zk cX12_sets 63 (.istore_n 3) 1)) (and (and (zk cX12_sets 0 (.aload_n 0) 1) (zk cX12_sets 1 (.iconst 0) 1)) (zk cX12_sets 2 (.putfield 151) 3))) (and (and (and (zk cX12_sets 5 (.iload_n 1) 1) (zk cX12_sets 6 (.iconst 0) 1)) (zk cX12_sets 7 (.aload_n 0) 1)) (and (zk cX12_sets 8 (.getfield 159) 3) (zk cX12_sets 11 (.invokestatic 155) 3)))) (and (and (and (and (zk cX12_sets 14 (.ifCond .ne 5) 3) (zk cX12_sets 19 (.aload_n 0) 1)) (zk cX12_sets 20 (.iload_n 1) 1)) (and (zk cX12_sets 21 (.invokevirtual 313) 3) (zk cX12_sets 24 (.iconst 0) 1))) (and (and (and (zk cX12_sets 25 (.istore_n 2) 1) (zk cX12_sets 26 (.iconst 0) 1)) (zk cX12_sets 27 (.istore_n 3) 1)) (and (zk cX12_sets 17 (.iconst (-1)) 1) (zk cX12_sets 18 (.ireturn) 1))))) = true := by decide +kernel
theorem dX12_sets_211 : decode cX12_sets 211 = .ok (.istore 4, 2) := zk_of (zk_l (zk_l (zk_l (zk_l (zk_l zdX12_sets_211)))))
theorem dX12_sets_62 : decode cX12_sets 62 = .ok (.iconst 0, 1) := zk_of (zk_r (zk_l (zk_l (zk_l (zk_l zdX12_sets_211)))))
theorem dX12_sets_63 : decode cX12_sets 63 = .ok (.istore_n 3, 1) := zk_of (zk_r (zk_l (zk_l (zk_l zdX12_sets_211))))
theorem dX12_sets_0 : decode cX12_sets 0 = .ok (.aload_n 0, 1) := zk_of (zk_l (zk_l (zk_r (zk_l (zk_l zdX12_sets_211)))))
theorem dX12_sets_1 : decode cX12_sets 1 = .ok (.iconst 0, 1) := zk_of (zk_r (zk_l (zk_r (zk_l (zk_l zdX12_sets_211)))))
theorem dX12_sets_2 : decode cX12_sets 2 = .ok (.putfield 151, 3) := zk_of (zk_r (zk_r (zk_l (zk_l zdX12_sets_211))))
theorem dX12_sets_5 : decode cX12_sets 5 = .ok (.iload_n 1, 1) := zk_of (zk_l (zk_l (zk_l (zk_r (zk_l zdX12_sets_211)))))
theorem dX12_sets_6 : decode cX12_sets 6 = .ok (.iconst 0, 1) := zk_of (zk_r (zk_l (zk_l (zk_r (zk_l zdX12_sets_211)))))
theorem dX12_sets_7 : decode cX12_sets 7 = .ok (.aload_n 0, 1) := zk_of (zk_r (zk_l (zk_r (zk_l zdX12_sets_211))))
theorem dX12_sets_8 : decode cX12_sets 8 = .ok (.getfield 159, 3) := zk_of (zk_l (zk_r (zk_r (zk_l zdX12_sets_211))))
theorem dX12_sets_11 : decode cX12_sets 11 = .ok (.invokestatic 155, 3) := zk_of (zk_r (zk_r (zk_r (zk_l zdX12_sets_211))))
theorem dX12_sets_14 : decode cX12_sets 14 = .ok (.ifCond .ne 5, 3) := zk_of (zk_l (zk_l (zk_l (zk_l (zk_r zdX12_sets_211)))))
theorem dX12_sets_19 : decode cX12_sets 19 = .ok (.aload_n 0, 1) := zk_of (zk_r (zk_l (zk_l (zk_l (zk_r zdX12_sets_211)))))
theorem dX12_sets_20 : decode cX12_sets 20 = .ok (.iload_n 1, 1) := zk_of (zk_r (zk_l (zk_l (zk_r zdX12_sets_211))))
theorem dX12_sets_21 : decode cX12_sets 21 = .ok (.invokevirtual 313, 3) := zk_of (zk_l (zk_r (zk_l (zk_r zdX12_sets_211))))
theorem dX12_sets_24 : decode cX12_sets 24 = .ok (.iconst 0, 1) := zk_of (zk_r (zk_r (zk_l (zk_r zdX12_sets_211))))
theorem dX12_sets_25 : decode cX12_sets 25 = .ok (.istore_n 2, 1) := zk_of (zk_l (zk_l (zk_l (zk_r (zk_r zdX12_sets_211)))))
theorem dX12_sets_26 : decode cX12_sets 26 = .ok (.iconst 0, 1) := zk_of (zk_r (zk_l (zk_l (zk_r (zk_r zdX12_sets_211)))))
theorem dX12_sets_27 : decode cX12_sets 27 = .ok (.istore_n 3, 1) := zk_of (zk_r (zk_l (zk_r (zk_r zdX12_sets_211))))
theorem dX12_sets_17 : decode cX12_sets 17 = .ok (.iconst (-1), 1) := zk_of (zk_l (zk_r (zk_r (zk_r zdX12_sets_211))))
theorem dX12_sets_18 : decode cX12_sets 18 = .ok (.ireturn, 1) := zk_of (zk_r (zk_r (zk_r (zk_r zdX12_sets_211))))
set_option maxRecDepth 20000 in
theorem ggX12_sets_X12_isIn : GoodIn wsX12_sets wsX12_isIn := ggi (fun w h => List.mem_cons_of_mem _ (List.mem_append_left _ (List.mem_append_right _ (List.mem_append_right _ (List.mem_append_right _ (List.mem_append_right _ (List.mem_append_right _ (List.mem_append_right _ (List.mem_append_right _ (List.mem_append_left _ h)))))))))) gs_X12_isIn
set_option maxRecDepth 20000 in
theorem gX12_sets_X12_isIn : GoodIn wsX12_sets (va_wsS RX12 155 yX12_isIn wsX12_isIn) := goodIn_app (goodIn_of _ (by decide +kernel)) ggX12_sets_X12_isIn
set_option maxRecDepth 20000 in
theorem ggX12_sets_X12_laySpansOf : GoodIn wsX12_sets wsX12_laySpansOf := ggi (fun w h => List.mem_cons_of_mem _ (List.mem_append_left _ (List.mem_append_right _ (List.mem_append_right _ (List.mem_append_right _ (List.mem_append_right _ (List.mem_append_right _ (List.mem_append_right _ (List.mem_append_right _ (List.mem_append_right _ h)))))))))) gs_X12_laySpansOf
set_option maxRecDepth 20000 in
theorem gX12_sets_X12_laySpansOf : GoodIn wsX12_sets (wsV RX12 313 RX12 yX12_laySpansOf wsX12_laySpansOf) := goodIn_app (goodIn_of _ (by decide +kernel)) ggX12_sets_X12_laySpansOf
/-- HissHornModel.sets(I)I of cell 0 -/
def rmX12_sets_0 : Room := { frames := 141, cells := 0, slots := 0, locals := 8502 }
theorem hX12_sets_0_X12 : ∀ w ∈ u_ws RX12 TX12 69, w ∈ wsX12_sets := fun w h => (List.mem_cons_of_mem _ (List.mem_append_right _ h))
theorem mX12_sets_0_1 : Cond.fieldLink RX12 151 "HissHornModel" "thrown" "I" ∈ wsX12_sets := (List.mem_cons_of_mem _ (List.mem_append_left _ (List.mem_append_left _ (List.mem_of_getElem? (i := 22) rfl))))
theorem mX12_sets_0_2 : Cond.fieldLink RX12 159 "HissHornModel" "now" "I" ∈ wsX12_sets := (List.mem_cons_of_mem _ (List.mem_append_left _ (List.mem_append_left _ (List.mem_of_getElem? (i := 23) rfl))))
theorem mX12_sets_0_3 : Cond.fieldLink RX12 286 "HissHornModel" "parts" "I" ∈ wsX12_sets := (List.mem_cons_of_mem _ (List.mem_append_left _ (List.mem_append_left _ (List.mem_of_getElem? (i := 24) rfl))))
theorem mX12_sets_0_4 : Cond.fieldLink RX12 47 "HissHornModel" "partTold" "[I" ∈ wsX12_sets := (List.mem_cons_of_mem _ (List.mem_append_left _ (List.mem_append_left _ (List.mem_of_getElem? (i := 25) rfl))))
def GX12_sets_0_54 (k28 : Int32 → Int32 → Int32 → SX → Option (Int32 × SX)) (z1 : Int32) (z3 : Int32) (y0 : Int32) (y1 : Int32) (u : SX) : Option (Int32 × SX) := (lt (y1 ||| y0) fun v10 => (k28 z1 v10 (z3 + 1) u))
def LX12_sets_0_28 (k62 : Int32 → Int32 → SX → Option (Int32 × SX)) : Nat → Int32 → Int32 → Int32 → SX → Option (Int32 × SX)
  | 0, _, _, _, _ => none
  | n + 1, z1, z2, z3, u => (if (u.1 12) ≤ z3 then (k62 z1 z2 u) else (gd (inb z3 12) (if z1 < (u.2.1 10 z3.toNatClampNeg) then (GX12_sets_0_54 (LX12_sets_0_28 k62 n) z1 z3 0 z2 u) else (GX12_sets_0_54 (LX12_sets_0_28 k62 n) z1 z3 (1 <<< (z3 &&& 31)) z2 u))))
theorem mX12_sets_0_5 : Cond.fieldLink RX12 335 "HissHornModel" "readings" "I" ∈ wsX12_sets := (List.mem_cons_of_mem _ (List.mem_append_left _ (List.mem_append_left _ (List.mem_of_getElem? (i := 26) rfl))))
theorem mX12_sets_0_6 : Cond.fieldLink RX12 80 "HissHornModel" "readDay" "[I" ∈ wsX12_sets := (List.mem_cons_of_mem _ (List.mem_append_left _ (List.mem_append_left _ (List.mem_of_getElem? (i := 27) rfl))))
theorem mX12_sets_0_7 : Cond.fieldLink RX12 94 "HissHornModel" "lows" "[I" ∈ wsX12_sets := (List.mem_cons_of_mem _ (List.mem_append_left _ (List.mem_append_left _ (List.mem_of_getElem? (i := 28) rfl))))
theorem mX12_sets_0_8 : Cond.fieldLink RX12 97 "HissHornModel" "highs" "[I" ∈ wsX12_sets := (List.mem_cons_of_mem _ (List.mem_append_left _ (List.mem_append_left _ (List.mem_of_getElem? (i := 29) rfl))))
theorem mX12_sets_0_9 : Cond.fieldLink RX12 100 "HissHornModel" "wideLows" "[I" ∈ wsX12_sets := (List.mem_cons_of_mem _ (List.mem_append_left _ (List.mem_append_left _ (List.mem_of_getElem? (i := 30) rfl))))
theorem mX12_sets_0_10 : Cond.fieldLink RX12 71 "HissHornModel" "worths" "[I" ∈ wsX12_sets := (List.mem_cons_of_mem _ (List.mem_append_left _ (List.mem_append_left _ (List.mem_of_getElem? (i := 31) rfl))))
theorem mX12_sets_0_11 : Cond.methodLink RX12 295 Lib.Math.min.name ∈ wsX12_sets := (List.mem_cons_of_mem _ (List.mem_append_left _ (List.mem_append_left _ (List.mem_of_getElem? (i := 32) rfl))))
theorem mX12_sets_0_12 : Cond.static Lib.Math.min.name ∈ wsX12_sets := (List.mem_cons_of_mem _ (List.mem_append_left _ (List.mem_append_left _ (List.mem_of_getElem? (i := 33) rfl))))
theorem mX12_sets_0_13 : Cond.initialized "java/lang/Math" ∈ wsX12_sets := (List.mem_cons_of_mem _ (List.mem_append_left _ (List.mem_append_left _ (List.mem_of_getElem? (i := 34) rfl))))
theorem mX12_sets_0_14 : Cond.code Lib.Math.min.name Lib.Math.min.code 2 (some .int) ∈ wsX12_sets := (List.mem_cons_of_mem _ (List.mem_append_left _ (List.mem_append_left _ (List.mem_of_getElem? (i := 35) rfl))))
theorem mX12_sets_0_15 : Cond.fieldLink RX12 103 "HissHornModel" "wideHighs" "[I" ∈ wsX12_sets := (List.mem_cons_of_mem _ (List.mem_append_left _ (List.mem_append_left _ (List.mem_of_getElem? (i := 36) rfl))))
theorem mX12_sets_0_16 : Cond.methodLink RX12 293 Lib.Math.max.name ∈ wsX12_sets := (List.mem_cons_of_mem _ (List.mem_append_left _ (List.mem_append_left _ (List.mem_of_getElem? (i := 37) rfl))))
theorem mX12_sets_0_17 : Cond.static Lib.Math.max.name ∈ wsX12_sets := (List.mem_cons_of_mem _ (List.mem_append_left _ (List.mem_append_left _ (List.mem_of_getElem? (i := 38) rfl))))
theorem mX12_sets_0_18 : Cond.code Lib.Math.max.name Lib.Math.max.code 2 (some .int) ∈ wsX12_sets := (List.mem_cons_of_mem _ (List.mem_append_left _ (List.mem_append_left _ (List.mem_of_getElem? (i := 39) rfl))))
def LX12_sets_0_93 (k202 : Int32 → Int32 → Int32 → SX → Option (Int32 × SX)) : Nat → Int32 → Int32 → Int32 → Int32 → SX → Option (Int32 × SX)
  | 0, _, _, _, _, _ => none
  | n + 1, z1, z2, z3, z4, u => (if (u.1 12) ≤ z4 then (k202 z1 z2 z3 u) else ((fX12_least_0 z4 u).bind fun q => match q with | (r16, u17) => (gd (inb ((12 * z3) + z4) 960) (lt (sA u17 25 (upd (u17.2.1 25) ((12 * z3) + z4).toNatClampNeg r16)) fun u20 => ((fX12_most_0 z4 u20).bind fun q => match q with | (r22, u23) => (gd (inb ((12 * z3) + z4) 960) (lt (sA u23 26 (upd (u23.2.1 26) ((12 * z3) + z4).toNatClampNeg r22)) fun u26 => (gd (inb z4 12) ((fX12_shines 400 (u26.2.1 18 z4.toNatClampNeg)).bind fun r29 => (gd (inb ((12 * z3) + z4) 960) (lt (sA u26 27 (upd (u26.2.1 27) ((12 * z3) + z4).toNatClampNeg (if r29 < 0 then r29 else 0))) fun u33 => (gd (inb z4 12) ((fX12_shines 400 (u33.2.1 18 z4.toNatClampNeg)).bind fun r36 => (gd (inb ((12 * z3) + z4) 960) (lt (sA u33 28 (upd (u33.2.1 28) ((12 * z3) + z4).toNatClampNeg (if 0 < r36 then r36 else 0))) fun u40 => ((LX12_sets_0_93 k202 n) z1 z2 z3 (z4 + 1) u40))))))))))))))))
def GX12_sets_0_202 (k64 : Int32 → Int32 → Int32 → SX → Option (Int32 × SX)) (z1 : Int32) (z2 : Int32) (z3 : Int32) (u : SX) : Option (Int32 × SX) := (k64 z1 z2 (z3 + 1) u)
def LX12_sets_0_64 (k208 : Int32 → Int32 → SX → Option (Int32 × SX)) : Nat → Int32 → Int32 → Int32 → SX → Option (Int32 × SX)
  | 0, _, _, _, _ => none
  | n + 1, z1, z2, z3, u => (if (u.1 15) ≤ z3 then (k208 z1 z2 u) else (gd (inb z3 80) (if (u.2.1 21 z3.toNatClampNeg) ≤ z1 then ((fX12_layWorthsOf_0 z3 u).bind fun q => match q with | (r13, u14) => (LX12_sets_0_93 (GX12_sets_0_202 (LX12_sets_0_64 k208 n)) 5000 z1 z2 z3 0 u14)) else (GX12_sets_0_202 (LX12_sets_0_64 k208 n) z1 z2 z3 u))))
def GX12_sets_0_255 (k213 : Int32 → Int32 → Int32 → Int32 → SX → Option (Int32 × SX)) (z1 : Int32) (z2 : Int32) (z3 : Int32) (z4 : Int32) (u : SX) : Option (Int32 × SX) := (k213 z1 z2 z3 (z4 + 1) u)
def LX12_sets_0_213  : Nat → Int32 → Int32 → Int32 → Int32 → SX → Option (Int32 × SX)
  | 0, _, _, _, _, _ => none
  | n + 1, z1, z2, z3, z4, u => (if (1 <<< ((u.1 12) &&& 31)) ≤ z4 then (some (z3, u)) else (if (z4 &&& (z2 ^^^ (-1))) = 0 then ((fX12_isBetter z4 z3).bind fun r42 => (if r42 = 0 then (GX12_sets_0_255 (LX12_sets_0_213 n) z1 z2 z3 z4 u) else ((fX12_isSet_0 z4 z1 u).bind fun q => match q with | (r45, u46) => (if r45 = 0 then (GX12_sets_0_255 (LX12_sets_0_213 n) z1 z2 z3 z4 u46) else (GX12_sets_0_255 (LX12_sets_0_213 n) z1 z2 z4 z4 u46))))) else (GX12_sets_0_255 (LX12_sets_0_213 n) z1 z2 z3 z4 u)))
def GX12_sets_0_208 (z1 : Int32) (z2 : Int32) (u : SX) : Option (Int32 × SX) := (LX12_sets_0_213  5000 z1 z2 (-1) 0 u)
def GX12_sets_0_62 (z1 : Int32) (z2 : Int32) (u : SX) : Option (Int32 × SX) := (LX12_sets_0_64 GX12_sets_0_208 5000 z1 z2 0 u)
def fX12_sets_0 (x1 : Int32) (u : SX) : Option (Int32 × SX) := (lt (sI u 0 0) fun u1 => ((fX12_isIn x1 0 (u1.1 1)).bind fun r3 => (if r3 = 0 then (some ((-1), u1)) else ((fX12_laySpansOf_0 x1 u1).bind fun q => match q with | (r6, u7) => (LX12_sets_0_28 GX12_sets_0_62 5000 x1 0 0 u7)))))
set_option maxHeartbeats 4000000 in
set_option maxRecDepth 100000 in
theorem wGX12_sets_0_54 {p : Program} {l : Launch} {e : Env} {s : State} {m : MethodId} {args : Array Value} {below : List Frame} {meth : Method} {c : Code} {D : va_G} {cy : Nat → ClassId} {ad st : Nat → Nat} (C : Cx RX12 cX12_sets 5 (some .int) wsX12_sets p s m args meth c) (hK : Ky D [(cy 0, .int), (cy 1, .long), (cy 2, .boolean), (cy 3, .byte), (cy 4, .object "HissHorn$Text")] st s) (hJ : JM ad st) {r : Int32} {u' : SX} {k28 : Int32 → Int32 → Int32 → SX → Option (Int32 × SX)} (hk28 : ∀ (z1 : Int32) (z2 : Int32) (z3 : Int32) (u : SX) (H : Heap) (locs : List Loc) (ls : Array Slot), k28 z1 z2 z3 u = some (r, u') → va_P D vwCl (VM cy ad st u) H → va_S (Ax (AM ad) s.heap.size) s.heap H locs → lv_has ls 5 [(0, .ref (ad 0)), (1, .int z1), (2, .int z2), (3, .int z3)] → W p l e rmX12_sets_0 s m args below meth c H locs 0 0 (MQ below (Qi D (VM cy ad st) (AM ad) s.heap.size r u') args s 0 0 (Ax (AM ad) s.heap.size)) (F0 m 28 ls [])) (z1 : Int32) (z3 : Int32) (y0 : Int32) (y1 : Int32) (u : SX) (H : Heap) (locs : List Loc) (ls : Array Slot) (h : GX12_sets_0_54 k28 z1 z3 y0 y1 u = some (r, u')) (hP : va_P D vwCl (VM cy ad st u) H) (hS : va_S (Ax (AM ad) s.heap.size) s.heap H locs) (hl : lv_has ls 5 [(0, .ref (ad 0)), (1, .int z1), (3, .int z3)]) : W p l e rmX12_sets_0 s m args below meth c H locs 0 0 (MQ below (Qi D (VM cy ad st) (AM ad) s.heap.size r u') args s 0 0 (Ax (AM ad) s.heap.size)) (F0 m 54 ls [.int y0, .int y1]) := by
  unfold GX12_sets_0_54 at h
  refine lv_ior C.1 C.2.1 dX12_sets_54 ?_
  refine lv_topi (fun v10 hv11 => ?_)
  replace h := lt_e hv11 h
  try dsimp only at h
  refine lv_istore_n (lv' := [(2, .int v10), (0, .ref (ad 0)), (1, .int z1), (3, .int z3)]) C.1 C.2.1 dX12_sets_55 rfl hl (by decide) rfl (fun ls hl => ?_)
  replace hl := lv_sub (l' := [(0, .ref (ad 0)), (1, .int z1), (2, .int v10), (3, .int z3)]) hl [1, 2, 0, 3] rfl
  refine lv_iinc (v := z3 + 1) (lv' := [(3, .int (z3 + 1)), (0, .ref (ad 0)), (1, .int z1), (2, .int v10)]) C.1 C.2.1 dX12_sets_56 hl (k := 3) rfl rfl (by decide) rfl (fun ls hl => ?_)
  replace hl := lv_sub (l' := [(0, .ref (ad 0)), (1, .int z1), (2, .int v10), (3, .int (z3 + 1))]) hl [1, 2, 3, 0] rfl
  refine lv_goto (tgt := 28) C.1 C.2.1 dX12_sets_59 (by decide) ?_
  exact hk28 _ _ _ _ _ _ _ h hP hS hl
set_option maxHeartbeats 4000000 in
set_option maxRecDepth 100000 in
theorem wLX12_sets_0_28 {p : Program} {l : Launch} {e : Env} {s : State} {m : MethodId} {args : Array Value} {below : List Frame} {meth : Method} {c : Code} {D : va_G} {cy : Nat → ClassId} {ad st : Nat → Nat} (C : Cx RX12 cX12_sets 5 (some .int) wsX12_sets p s m args meth c) (hK : Ky D [(cy 0, .int), (cy 1, .long), (cy 2, .boolean), (cy 3, .byte), (cy 4, .object "HissHorn$Text")] st s) (hJ : JM ad st) {r : Int32} {u' : SX} {k62 : Int32 → Int32 → SX → Option (Int32 × SX)} (hk62 : ∀ (z1 : Int32) (z2 : Int32) (u : SX) (H : Heap) (locs : List Loc) (ls : Array Slot), k62 z1 z2 u = some (r, u') → va_P D vwCl (VM cy ad st u) H → va_S (Ax (AM ad) s.heap.size) s.heap H locs → lv_has ls 5 [(0, .ref (ad 0)), (1, .int z1), (2, .int z2)] → W p l e rmX12_sets_0 s m args below meth c H locs 0 0 (MQ below (Qi D (VM cy ad st) (AM ad) s.heap.size r u') args s 0 0 (Ax (AM ad) s.heap.size)) (F0 m 62 ls [])) : ∀ (n : Nat) (z1 : Int32) (z2 : Int32) (z3 : Int32) (u : SX) (H : Heap) (locs : List Loc) (ls : Array Slot), LX12_sets_0_28 k62 n z1 z2 z3 u = some (r, u') → va_P D vwCl (VM cy ad st u) H → va_S (Ax (AM ad) s.heap.size) s.heap H locs → lv_has ls 5 [(0, .ref (ad 0)), (1, .int z1), (2, .int z2), (3, .int z3)] → W p l e rmX12_sets_0 s m args below meth c H locs 0 0 (MQ below (Qi D (VM cy ad st) (AM ad) s.heap.size r u') args s 0 0 (Ax (AM ad) s.heap.size)) (F0 m 28 ls []) := by
  intro n
  induction n with
  | zero =>
    intro z1 z2 z3 u H locs ls h
    exact absurd h (by intro q; cases q)
  | succ n ih =>
    intro z1 z2 z3 u H locs ls h hP hS hl
    rw [LX12_sets_0_28] at h
    refine lv_iload_n C.1 C.2.1 dX12_sets_28 rfl (lv_at hl 3 rfl) ?_
    refine lv_aload_n C.1 C.2.1 dX12_sets_29 rfl (lv_at hl 0 rfl) ?_
    refine gM_0_parts C hX12_sets_0_X12 hK hP mX12_sets_0_3 dX12_sets_30 ?_
    refine lv_icmp_ge (tgt := 62) C.1 C.2.1 dX12_sets_33 (by decide) (fun c33 => ?_) (fun c33 => ?_)
    · rw [if_pos c33] at h
      exact hk62 _ _ _ _ _ _ h hP hS (lv_sub hl [0, 1, 2] rfl)
    · rw [if_neg c33] at h
      refine lv_iload_n C.1 C.2.1 dX12_sets_36 rfl (lv_at hl 2 rfl) ?_
      refine lv_aload_n C.1 C.2.1 dX12_sets_37 rfl (lv_at hl 0 rfl) ?_
      refine gM_0_partTold C hX12_sets_0_X12 hK hP mX12_sets_0_4 dX12_sets_38 ?_
      refine lv_iload_n C.1 C.2.1 dX12_sets_41 rfl (lv_at hl 3 rfl) ?_
      obtain ⟨hg9, h⟩ := gd_some h
      refine lM_10 C hK hP hg9 dX12_sets_42 ?_
      refine lv_iload_n C.1 C.2.1 dX12_sets_43 rfl (lv_at hl 1 rfl) ?_
      refine lv_icmp_gt (tgt := 53) C.1 C.2.1 dX12_sets_44 (by decide) (fun c44 => ?_) (fun c44 => ?_)
      · rw [if_pos c44] at h
        refine lv_iconst (v := 0) C.1 C.2.1 dX12_sets_53 (by decide) ?_
        exact wGX12_sets_0_54 C hK hJ ih _ _ _ _ _ _ _ _ h hP hS (lv_sub hl [0, 1, 3] rfl)
      · rw [if_neg c44] at h
        refine lv_iconst (v := 1) C.1 C.2.1 dX12_sets_47 (by decide) ?_
        refine lv_iload_n C.1 C.2.1 dX12_sets_48 rfl (lv_at hl 3 rfl) ?_
        refine lv_ishl C.1 C.2.1 dX12_sets_49 ?_
        refine lv_goto (tgt := 54) C.1 C.2.1 dX12_sets_50 (by decide) ?_
        exact wGX12_sets_0_54 C hK hJ ih _ _ _ _ _ _ _ _ h hP hS (lv_sub hl [0, 1, 3] rfl)
set_option maxHeartbeats 4000000 in
set_option maxRecDepth 100000 in
theorem wLX12_sets_0_93 {p : Program} {l : Launch} {e : Env} {s : State} {m : MethodId} {args : Array Value} {below : List Frame} {meth : Method} {c : Code} {D : va_G} {cy : Nat → ClassId} {ad st : Nat → Nat} (C : Cx RX12 cX12_sets 5 (some .int) wsX12_sets p s m args meth c) (hK : Ky D [(cy 0, .int), (cy 1, .long), (cy 2, .boolean), (cy 3, .byte), (cy 4, .object "HissHorn$Text")] st s) (hJ : JM ad st) {r : Int32} {u' : SX} {k202 : Int32 → Int32 → Int32 → SX → Option (Int32 × SX)} (hk202 : ∀ (z1 : Int32) (z2 : Int32) (z3 : Int32) (u : SX) (H : Heap) (locs : List Loc) (ls : Array Slot), k202 z1 z2 z3 u = some (r, u') → va_P D vwCl (VM cy ad st u) H → va_S (Ax (AM ad) s.heap.size) s.heap H locs → lv_has ls 5 [(0, .ref (ad 0)), (1, .int z1), (2, .int z2), (3, .int z3)] → W p l e rmX12_sets_0 s m args below meth c H locs 0 0 (MQ below (Qi D (VM cy ad st) (AM ad) s.heap.size r u') args s 0 0 (Ax (AM ad) s.heap.size)) (F0 m 202 ls [])) : ∀ (n : Nat) (z1 : Int32) (z2 : Int32) (z3 : Int32) (z4 : Int32) (u : SX) (H : Heap) (locs : List Loc) (ls : Array Slot), LX12_sets_0_93 k202 n z1 z2 z3 z4 u = some (r, u') → va_P D vwCl (VM cy ad st u) H → va_S (Ax (AM ad) s.heap.size) s.heap H locs → lv_has ls 5 [(0, .ref (ad 0)), (1, .int z1), (2, .int z2), (3, .int z3), (4, .int z4)] → W p l e rmX12_sets_0 s m args below meth c H locs 0 0 (MQ below (Qi D (VM cy ad st) (AM ad) s.heap.size r u') args s 0 0 (Ax (AM ad) s.heap.size)) (F0 m 93 ls []) := by
  intro n
  induction n with
  | zero =>
    intro z1 z2 z3 z4 u H locs ls h
    exact absurd h (by intro q; cases q)
  | succ n ih =>
    intro z1 z2 z3 z4 u H locs ls h hP hS hl
    rw [LX12_sets_0_93] at h
    refine lv_iload C.1 C.2.1 dX12_sets_93 (lv_at hl 4 rfl) ?_
    refine lv_aload_n C.1 C.2.1 dX12_sets_95 rfl (lv_at hl 0 rfl) ?_
    refine gM_0_parts C hX12_sets_0_X12 hK hP mX12_sets_0_3 dX12_sets_96 ?_
    refine lv_icmp_ge (tgt := 202) C.1 C.2.1 dX12_sets_99 (by decide) (fun c99 => ?_) (fun c99 => ?_)
    · rw [if_pos c99] at h
      exact hk202 _ _ _ _ _ _ _ h hP hS (lv_sub hl [0, 1, 2, 3] rfl)
    · rw [if_neg c99] at h
      refine lv_aload_n C.1 C.2.1 dX12_sets_102 rfl (lv_at hl 0 rfl) ?_
      refine gM_0_lows C hX12_sets_0_X12 hK hP mX12_sets_0_7 dX12_sets_103 ?_
      refine lv_bipush (v := 12) C.1 C.2.1 dX12_sets_106 (by decide) ?_
      refine lv_iload_n C.1 C.2.1 dX12_sets_108 rfl (lv_at hl 3 rfl) ?_
      refine lv_imul C.1 C.2.1 dX12_sets_109 ?_
      refine lv_iload C.1 C.2.1 dX12_sets_110 (lv_at hl 4 rfl) ?_
      refine lv_iadd C.1 C.2.1 dX12_sets_112 ?_
      refine lv_aload_n C.1 C.2.1 dX12_sets_113 rfl (lv_at hl 0 rfl) ?_
      refine lv_iload C.1 C.2.1 dX12_sets_114 (lv_at hl 4 rfl) ?_
      obtain ⟨⟨r16, u17⟩, hc18, h⟩ := bd_some h
      try dsimp only at h
      refine cg_i (As := [.int z4]) (rest := [.int ((12 * z3) + z4), .ref (ad 25)]) (AM_ge hJ) C hK hP hS (metX12_least_0 l D cy ad st hJ _ z4 hc18) (cwV 1 C.2.2.2.2.2.1 gX12_sets_X12_least rfl rfl rfl (by decide +kernel) ⟨(Nat.le_of_ble_eq_true rfl), (Nat.le_of_ble_eq_true rfl)⟩) 0 12 rfl rfl rfl hl.1 rfl (Nat.le_of_ble_eq_true rfl) dX12_sets_116 ⟨Nat.zero_le _, Nat.zero_le _⟩ (fun H locs hP hS => ?_)
      obtain ⟨hg19, h⟩ := gd_some h
      refine tM_25 C hK hP hJ hS hg19 dX12_sets_119 (fun H locs hP hS => ?_)
      obtain ⟨u20, hu21, h⟩ := lt_some h
      rw [← hu21] at hP
      refine lv_aload_n C.1 C.2.1 dX12_sets_120 rfl (lv_at hl 0 rfl) ?_
      refine gM_0_highs C hX12_sets_0_X12 hK hP mX12_sets_0_8 dX12_sets_121 ?_
      refine lv_bipush (v := 12) C.1 C.2.1 dX12_sets_124 (by decide) ?_
      refine lv_iload_n C.1 C.2.1 dX12_sets_126 rfl (lv_at hl 3 rfl) ?_
      refine lv_imul C.1 C.2.1 dX12_sets_127 ?_
      refine lv_iload C.1 C.2.1 dX12_sets_128 (lv_at hl 4 rfl) ?_
      refine lv_iadd C.1 C.2.1 dX12_sets_130 ?_
      refine lv_aload_n C.1 C.2.1 dX12_sets_131 rfl (lv_at hl 0 rfl) ?_
      refine lv_iload C.1 C.2.1 dX12_sets_132 (lv_at hl 4 rfl) ?_
      obtain ⟨⟨r22, u23⟩, hc24, h⟩ := bd_some h
      try dsimp only at h
      refine cg_i (As := [.int z4]) (rest := [.int ((12 * z3) + z4), .ref (ad 26)]) (AM_ge hJ) C hK hP hS (metX12_most_0 l D cy ad st hJ _ z4 hc24) (cwV 1 C.2.2.2.2.2.1 gX12_sets_X12_most rfl rfl rfl (by decide +kernel) ⟨(Nat.le_of_ble_eq_true rfl), (Nat.le_of_ble_eq_true rfl)⟩) 0 12 rfl rfl rfl hl.1 rfl (Nat.le_of_ble_eq_true rfl) dX12_sets_134 ⟨Nat.zero_le _, Nat.zero_le _⟩ (fun H locs hP hS => ?_)
      obtain ⟨hg25, h⟩ := gd_some h
      refine tM_26 C hK hP hJ hS hg25 dX12_sets_137 (fun H locs hP hS => ?_)
      obtain ⟨u26, hu27, h⟩ := lt_some h
      rw [← hu27] at hP
      refine lv_aload_n C.1 C.2.1 dX12_sets_138 rfl (lv_at hl 0 rfl) ?_
      refine gM_0_wideLows C hX12_sets_0_X12 hK hP mX12_sets_0_9 dX12_sets_139 ?_
      refine lv_bipush (v := 12) C.1 C.2.1 dX12_sets_142 (by decide) ?_
      refine lv_iload_n C.1 C.2.1 dX12_sets_144 rfl (lv_at hl 3 rfl) ?_
      refine lv_imul C.1 C.2.1 dX12_sets_145 ?_
      refine lv_iload C.1 C.2.1 dX12_sets_146 (lv_at hl 4 rfl) ?_
      refine lv_iadd C.1 C.2.1 dX12_sets_148 ?_
      refine lv_iconst (v := 0) C.1 C.2.1 dX12_sets_149 (by decide) ?_
      refine lv_sipush (v := 400) C.1 C.2.1 dX12_sets_150 (by decide) ?_
      refine lv_aload_n C.1 C.2.1 dX12_sets_153 rfl (lv_at hl 0 rfl) ?_
      refine gM_0_worths C hX12_sets_0_X12 hK hP mX12_sets_0_10 dX12_sets_154 ?_
      refine lv_iload C.1 C.2.1 dX12_sets_157 (lv_at hl 4 rfl) ?_
      obtain ⟨hg28, h⟩ := gd_some h
      refine lM_18 C hK hP hg28 dX12_sets_159 ?_
      obtain ⟨r29, hc31, h⟩ := bd_some h
      refine cs_i (As := [.int 400, .int (u26.2.1 18 z4.toNatClampNeg)]) (rest := [.int 0, .int ((12 * z3) + z4), .ref (ad 27)]) (AM_ge hJ) C hK hP hS (metX12_shines l D cy st _ 400 (u26.2.1 18 z4.toNatClampNeg) hc31) (va_cwS 2 C.2.2.2.2.2.1 gX12_sets_X12_shines rfl rfl rfl (by decide +kernel) ⟨(Nat.le_of_ble_eq_true rfl), (Nat.le_of_ble_eq_true rfl)⟩) rfl hl.1 rfl (Nat.le_of_ble_eq_true rfl) dX12_sets_160 ⟨Nat.zero_le _, Nat.zero_le _⟩ (fun H locs hP hS => ?_)
      refine va_mmin C.1 C.2.1 (C.2.2.1.trans hl.1.symm) C.2.2.2.2.1 (C.2.2.2.2.2.1 _ mX12_sets_0_11) (C.2.2.2.2.2.1 _ mX12_sets_0_12) (C.2.2.2.2.2.1 _ mX12_sets_0_13) (C.2.2.2.2.2.1 _ mX12_sets_0_14) (Nat.le_of_ble_eq_true rfl) (Nat.le_of_ble_eq_true rfl) (Nat.zero_le _) (Nat.zero_le _) dX12_sets_163 ?_
      obtain ⟨hg32, h⟩ := gd_some h
      refine tM_27 C hK hP hJ hS hg32 dX12_sets_166 (fun H locs hP hS => ?_)
      obtain ⟨u33, hu34, h⟩ := lt_some h
      rw [← hu34] at hP
      refine lv_aload_n C.1 C.2.1 dX12_sets_167 rfl (lv_at hl 0 rfl) ?_
      refine gM_0_wideHighs C hX12_sets_0_X12 hK hP mX12_sets_0_15 dX12_sets_168 ?_
      refine lv_bipush (v := 12) C.1 C.2.1 dX12_sets_171 (by decide) ?_
      refine lv_iload_n C.1 C.2.1 dX12_sets_173 rfl (lv_at hl 3 rfl) ?_
      refine lv_imul C.1 C.2.1 dX12_sets_174 ?_
      refine lv_iload C.1 C.2.1 dX12_sets_175 (lv_at hl 4 rfl) ?_
      refine lv_iadd C.1 C.2.1 dX12_sets_177 ?_
      refine lv_iconst (v := 0) C.1 C.2.1 dX12_sets_178 (by decide) ?_
      refine lv_sipush (v := 400) C.1 C.2.1 dX12_sets_179 (by decide) ?_
      refine lv_aload_n C.1 C.2.1 dX12_sets_182 rfl (lv_at hl 0 rfl) ?_
      refine gM_0_worths C hX12_sets_0_X12 hK hP mX12_sets_0_10 dX12_sets_183 ?_
      refine lv_iload C.1 C.2.1 dX12_sets_186 (lv_at hl 4 rfl) ?_
      obtain ⟨hg35, h⟩ := gd_some h
      refine lM_18 C hK hP hg35 dX12_sets_188 ?_
      obtain ⟨r36, hc38, h⟩ := bd_some h
      refine cs_i (As := [.int 400, .int (u33.2.1 18 z4.toNatClampNeg)]) (rest := [.int 0, .int ((12 * z3) + z4), .ref (ad 28)]) (AM_ge hJ) C hK hP hS (metX12_shines l D cy st _ 400 (u33.2.1 18 z4.toNatClampNeg) hc38) (va_cwS 2 C.2.2.2.2.2.1 gX12_sets_X12_shines rfl rfl rfl (by decide +kernel) ⟨(Nat.le_of_ble_eq_true rfl), (Nat.le_of_ble_eq_true rfl)⟩) rfl hl.1 rfl (Nat.le_of_ble_eq_true rfl) dX12_sets_189 ⟨Nat.zero_le _, Nat.zero_le _⟩ (fun H locs hP hS => ?_)
      refine va_mmax C.1 C.2.1 (C.2.2.1.trans hl.1.symm) C.2.2.2.2.1 (C.2.2.2.2.2.1 _ mX12_sets_0_16) (C.2.2.2.2.2.1 _ mX12_sets_0_17) (C.2.2.2.2.2.1 _ mX12_sets_0_13) (C.2.2.2.2.2.1 _ mX12_sets_0_18) (Nat.le_of_ble_eq_true rfl) (Nat.le_of_ble_eq_true rfl) (Nat.zero_le _) (Nat.zero_le _) dX12_sets_192 ?_
      obtain ⟨hg39, h⟩ := gd_some h
      refine tM_28 C hK hP hJ hS hg39 dX12_sets_195 (fun H locs hP hS => ?_)
      obtain ⟨u40, hu41, h⟩ := lt_some h
      rw [← hu41] at hP
      refine lv_iinc (v := z4 + 1) (lv' := [(4, .int (z4 + 1)), (0, .ref (ad 0)), (1, .int z1), (2, .int z2), (3, .int z3)]) C.1 C.2.1 dX12_sets_196 hl (k := 4) rfl rfl (by decide) rfl (fun ls hl => ?_)
      replace hl := lv_sub (l' := [(0, .ref (ad 0)), (1, .int z1), (2, .int z2), (3, .int z3), (4, .int (z4 + 1))]) hl [1, 2, 3, 4, 0] rfl
      refine lv_goto (tgt := 93) C.1 C.2.1 dX12_sets_199 (by decide) ?_
      exact ih _ _ _ _ _ _ _ _ h hP hS hl
set_option maxHeartbeats 4000000 in
set_option maxRecDepth 100000 in
theorem wGX12_sets_0_202 {p : Program} {l : Launch} {e : Env} {s : State} {m : MethodId} {args : Array Value} {below : List Frame} {meth : Method} {c : Code} {D : va_G} {cy : Nat → ClassId} {ad st : Nat → Nat} (C : Cx RX12 cX12_sets 5 (some .int) wsX12_sets p s m args meth c) (hK : Ky D [(cy 0, .int), (cy 1, .long), (cy 2, .boolean), (cy 3, .byte), (cy 4, .object "HissHorn$Text")] st s) (hJ : JM ad st) {r : Int32} {u' : SX} {k64 : Int32 → Int32 → Int32 → SX → Option (Int32 × SX)} (hk64 : ∀ (z1 : Int32) (z2 : Int32) (z3 : Int32) (u : SX) (H : Heap) (locs : List Loc) (ls : Array Slot), k64 z1 z2 z3 u = some (r, u') → va_P D vwCl (VM cy ad st u) H → va_S (Ax (AM ad) s.heap.size) s.heap H locs → lv_has ls 5 [(0, .ref (ad 0)), (1, .int z1), (2, .int z2), (3, .int z3)] → W p l e rmX12_sets_0 s m args below meth c H locs 0 0 (MQ below (Qi D (VM cy ad st) (AM ad) s.heap.size r u') args s 0 0 (Ax (AM ad) s.heap.size)) (F0 m 64 ls [])) (z1 : Int32) (z2 : Int32) (z3 : Int32) (u : SX) (H : Heap) (locs : List Loc) (ls : Array Slot) (h : GX12_sets_0_202 k64 z1 z2 z3 u = some (r, u')) (hP : va_P D vwCl (VM cy ad st u) H) (hS : va_S (Ax (AM ad) s.heap.size) s.heap H locs) (hl : lv_has ls 5 [(0, .ref (ad 0)), (1, .int z1), (2, .int z2), (3, .int z3)]) : W p l e rmX12_sets_0 s m args below meth c H locs 0 0 (MQ below (Qi D (VM cy ad st) (AM ad) s.heap.size r u') args s 0 0 (Ax (AM ad) s.heap.size)) (F0 m 202 ls []) := by
  unfold GX12_sets_0_202 at h
  refine lv_iinc (v := z3 + 1) (lv' := [(3, .int (z3 + 1)), (0, .ref (ad 0)), (1, .int z1), (2, .int z2)]) C.1 C.2.1 dX12_sets_202 hl (k := 3) rfl rfl (by decide) rfl (fun ls hl => ?_)
  replace hl := lv_sub (l' := [(0, .ref (ad 0)), (1, .int z1), (2, .int z2), (3, .int (z3 + 1))]) hl [1, 2, 3, 0] rfl
  refine lv_goto (tgt := 64) C.1 C.2.1 dX12_sets_205 (by decide) ?_
  exact hk64 _ _ _ _ _ _ _ h hP hS hl
set_option maxHeartbeats 4000000 in
set_option maxRecDepth 100000 in
theorem wLX12_sets_0_64 {p : Program} {l : Launch} {e : Env} {s : State} {m : MethodId} {args : Array Value} {below : List Frame} {meth : Method} {c : Code} {D : va_G} {cy : Nat → ClassId} {ad st : Nat → Nat} (C : Cx RX12 cX12_sets 5 (some .int) wsX12_sets p s m args meth c) (hK : Ky D [(cy 0, .int), (cy 1, .long), (cy 2, .boolean), (cy 3, .byte), (cy 4, .object "HissHorn$Text")] st s) (hJ : JM ad st) {r : Int32} {u' : SX} {k208 : Int32 → Int32 → SX → Option (Int32 × SX)} (hk208 : ∀ (z1 : Int32) (z2 : Int32) (u : SX) (H : Heap) (locs : List Loc) (ls : Array Slot), k208 z1 z2 u = some (r, u') → va_P D vwCl (VM cy ad st u) H → va_S (Ax (AM ad) s.heap.size) s.heap H locs → lv_has ls 5 [(0, .ref (ad 0)), (1, .int z1), (2, .int z2)] → W p l e rmX12_sets_0 s m args below meth c H locs 0 0 (MQ below (Qi D (VM cy ad st) (AM ad) s.heap.size r u') args s 0 0 (Ax (AM ad) s.heap.size)) (F0 m 208 ls [])) : ∀ (n : Nat) (z1 : Int32) (z2 : Int32) (z3 : Int32) (u : SX) (H : Heap) (locs : List Loc) (ls : Array Slot), LX12_sets_0_64 k208 n z1 z2 z3 u = some (r, u') → va_P D vwCl (VM cy ad st u) H → va_S (Ax (AM ad) s.heap.size) s.heap H locs → lv_has ls 5 [(0, .ref (ad 0)), (1, .int z1), (2, .int z2), (3, .int z3)] → W p l e rmX12_sets_0 s m args below meth c H locs 0 0 (MQ below (Qi D (VM cy ad st) (AM ad) s.heap.size r u') args s 0 0 (Ax (AM ad) s.heap.size)) (F0 m 64 ls []) := by
  intro n
  induction n with
  | zero =>
    intro z1 z2 z3 u H locs ls h
    exact absurd h (by intro q; cases q)
  | succ n ih =>
    intro z1 z2 z3 u H locs ls h hP hS hl
    rw [LX12_sets_0_64] at h
    refine lv_iload_n C.1 C.2.1 dX12_sets_64 rfl (lv_at hl 3 rfl) ?_
    refine lv_aload_n C.1 C.2.1 dX12_sets_65 rfl (lv_at hl 0 rfl) ?_
    refine gM_0_readings C hX12_sets_0_X12 hK hP mX12_sets_0_5 dX12_sets_66 ?_
    refine lv_icmp_ge (tgt := 208) C.1 C.2.1 dX12_sets_69 (by decide) (fun c69 => ?_) (fun c69 => ?_)
    · rw [if_pos c69] at h
      exact hk208 _ _ _ _ _ _ h hP hS (lv_sub hl [0, 1, 2] rfl)
    · rw [if_neg c69] at h
      refine lv_aload_n C.1 C.2.1 dX12_sets_72 rfl (lv_at hl 0 rfl) ?_
      refine gM_0_readDay C hX12_sets_0_X12 hK hP mX12_sets_0_6 dX12_sets_73 ?_
      refine lv_iload_n C.1 C.2.1 dX12_sets_76 rfl (lv_at hl 3 rfl) ?_
      obtain ⟨hg12, h⟩ := gd_some h
      refine lM_21 C hK hP hg12 dX12_sets_77 ?_
      refine lv_iload_n C.1 C.2.1 dX12_sets_78 rfl (lv_at hl 1 rfl) ?_
      refine lv_icmp_le (tgt := 85) C.1 C.2.1 dX12_sets_79 (by decide) (fun c79 => ?_) (fun c79 => ?_)
      · rw [if_pos c79] at h
        refine lv_aload_n C.1 C.2.1 dX12_sets_85 rfl (lv_at hl 0 rfl) ?_
        refine lv_iload_n C.1 C.2.1 dX12_sets_86 rfl (lv_at hl 3 rfl) ?_
        obtain ⟨⟨r13, u14⟩, hc15, h⟩ := bd_some h
        try dsimp only at h
        refine cg_v (As := [.int z3]) (rest := []) (AM_ge hJ) C hK hP hS (metX12_layWorthsOf_0 l D cy ad st hJ _ z3 hc15) (cwV 1 C.2.2.2.2.2.1 gX12_sets_X12_layWorthsOf rfl rfl rfl (by decide +kernel) ⟨(Nat.le_of_ble_eq_true rfl), (Nat.le_of_ble_eq_true rfl)⟩) 0 12 rfl rfl rfl hl.1 rfl (Nat.le_of_ble_eq_true rfl) dX12_sets_87 ⟨Nat.zero_le _, Nat.zero_le _⟩ (fun H locs hP hS => ?_)
        refine lv_iconst (v := 0) C.1 C.2.1 dX12_sets_90 (by decide) ?_
        refine lv_istore (lv' := [(4, .int 0), (0, .ref (ad 0)), (1, .int z1), (2, .int z2), (3, .int z3)]) C.1 C.2.1 dX12_sets_91 hl (by decide) rfl (fun ls hl => ?_)
        replace hl := lv_sub (l' := [(0, .ref (ad 0)), (1, .int z1), (2, .int z2), (3, .int z3), (4, .int 0)]) hl [1, 2, 3, 4, 0] rfl
        exact wLX12_sets_0_93 C hK hJ (wGX12_sets_0_202 C hK hJ ih) 5000 _ _ _ _ _ _ _ _ h hP hS hl
      · rw [if_neg c79] at h
        refine lv_goto (tgt := 202) C.1 C.2.1 dX12_sets_82 (by decide) ?_
        exact wGX12_sets_0_202 C hK hJ ih _ _ _ _ _ _ _ h hP hS hl
set_option maxHeartbeats 4000000 in
set_option maxRecDepth 100000 in
theorem wGX12_sets_0_255 {p : Program} {l : Launch} {e : Env} {s : State} {m : MethodId} {args : Array Value} {below : List Frame} {meth : Method} {c : Code} {D : va_G} {cy : Nat → ClassId} {ad st : Nat → Nat} (C : Cx RX12 cX12_sets 5 (some .int) wsX12_sets p s m args meth c) (hK : Ky D [(cy 0, .int), (cy 1, .long), (cy 2, .boolean), (cy 3, .byte), (cy 4, .object "HissHorn$Text")] st s) (hJ : JM ad st) {r : Int32} {u' : SX} {k213 : Int32 → Int32 → Int32 → Int32 → SX → Option (Int32 × SX)} (hk213 : ∀ (z1 : Int32) (z2 : Int32) (z3 : Int32) (z4 : Int32) (u : SX) (H : Heap) (locs : List Loc) (ls : Array Slot), k213 z1 z2 z3 z4 u = some (r, u') → va_P D vwCl (VM cy ad st u) H → va_S (Ax (AM ad) s.heap.size) s.heap H locs → lv_has ls 5 [(0, .ref (ad 0)), (1, .int z1), (2, .int z2), (3, .int z3), (4, .int z4)] → W p l e rmX12_sets_0 s m args below meth c H locs 0 0 (MQ below (Qi D (VM cy ad st) (AM ad) s.heap.size r u') args s 0 0 (Ax (AM ad) s.heap.size)) (F0 m 213 ls [])) (z1 : Int32) (z2 : Int32) (z3 : Int32) (z4 : Int32) (u : SX) (H : Heap) (locs : List Loc) (ls : Array Slot) (h : GX12_sets_0_255 k213 z1 z2 z3 z4 u = some (r, u')) (hP : va_P D vwCl (VM cy ad st u) H) (hS : va_S (Ax (AM ad) s.heap.size) s.heap H locs) (hl : lv_has ls 5 [(0, .ref (ad 0)), (1, .int z1), (2, .int z2), (3, .int z3), (4, .int z4)]) : W p l e rmX12_sets_0 s m args below meth c H locs 0 0 (MQ below (Qi D (VM cy ad st) (AM ad) s.heap.size r u') args s 0 0 (Ax (AM ad) s.heap.size)) (F0 m 255 ls []) := by
  unfold GX12_sets_0_255 at h
  refine lv_iinc (v := z4 + 1) (lv' := [(4, .int (z4 + 1)), (0, .ref (ad 0)), (1, .int z1), (2, .int z2), (3, .int z3)]) C.1 C.2.1 dX12_sets_255 hl (k := 4) rfl rfl (by decide) rfl (fun ls hl => ?_)
  replace hl := lv_sub (l' := [(0, .ref (ad 0)), (1, .int z1), (2, .int z2), (3, .int z3), (4, .int (z4 + 1))]) hl [1, 2, 3, 4, 0] rfl
  refine lv_goto (tgt := 213) C.1 C.2.1 dX12_sets_258 (by decide) ?_
  exact hk213 _ _ _ _ _ _ _ _ h hP hS hl
set_option maxHeartbeats 4000000 in
set_option maxRecDepth 100000 in
theorem wLX12_sets_0_213 {p : Program} {l : Launch} {e : Env} {s : State} {m : MethodId} {args : Array Value} {below : List Frame} {meth : Method} {c : Code} {D : va_G} {cy : Nat → ClassId} {ad st : Nat → Nat} (C : Cx RX12 cX12_sets 5 (some .int) wsX12_sets p s m args meth c) (hK : Ky D [(cy 0, .int), (cy 1, .long), (cy 2, .boolean), (cy 3, .byte), (cy 4, .object "HissHorn$Text")] st s) (hJ : JM ad st) {r : Int32} {u' : SX}   : ∀ (n : Nat) (z1 : Int32) (z2 : Int32) (z3 : Int32) (z4 : Int32) (u : SX) (H : Heap) (locs : List Loc) (ls : Array Slot), LX12_sets_0_213  n z1 z2 z3 z4 u = some (r, u') → va_P D vwCl (VM cy ad st u) H → va_S (Ax (AM ad) s.heap.size) s.heap H locs → lv_has ls 5 [(0, .ref (ad 0)), (1, .int z1), (2, .int z2), (3, .int z3), (4, .int z4)] → W p l e rmX12_sets_0 s m args below meth c H locs 0 0 (MQ below (Qi D (VM cy ad st) (AM ad) s.heap.size r u') args s 0 0 (Ax (AM ad) s.heap.size)) (F0 m 213 ls []) := by
  intro n
  induction n with
  | zero =>
    intro z1 z2 z3 z4 u H locs ls h
    exact absurd h (by intro q; cases q)
  | succ n ih =>
    intro z1 z2 z3 z4 u H locs ls h hP hS hl
    rw [LX12_sets_0_213] at h
    refine lv_iload C.1 C.2.1 dX12_sets_213 (lv_at hl 4 rfl) ?_
    refine lv_iconst (v := 1) C.1 C.2.1 dX12_sets_215 (by decide) ?_
    refine lv_aload_n C.1 C.2.1 dX12_sets_216 rfl (lv_at hl 0 rfl) ?_
    refine gM_0_parts C hX12_sets_0_X12 hK hP mX12_sets_0_3 dX12_sets_217 ?_
    refine lv_ishl C.1 C.2.1 dX12_sets_220 ?_
    refine lv_icmp_ge (tgt := 261) C.1 C.2.1 dX12_sets_221 (by decide) (fun c221 => ?_) (fun c221 => ?_)
    · rw [if_pos c221] at h
      refine lv_iload_n C.1 C.2.1 dX12_sets_261 rfl (lv_at hl 3 rfl) ?_
      cases h
      exact rt_i C hP hS dX12_sets_262
    · rw [if_neg c221] at h
      refine lv_iload C.1 C.2.1 dX12_sets_224 (lv_at hl 4 rfl) ?_
      refine lv_iload_n C.1 C.2.1 dX12_sets_226 rfl (lv_at hl 2 rfl) ?_
      refine lv_iconst (v := (-1)) C.1 C.2.1 dX12_sets_227 (by decide) ?_
      refine lv_ixor C.1 C.2.1 dX12_sets_228 ?_
      refine lv_iand C.1 C.2.1 dX12_sets_229 ?_
      refine lv_if_ne (tgt := 255) C.1 C.2.1 dX12_sets_230 (by decide) (fun c230 => ?_) (fun c230 => ?_)
      · rw [if_neg c230] at h
        exact wGX12_sets_0_255 C hK hJ ih _ _ _ _ _ _ _ _ h hP hS hl
      · rw [if_pos c230] at h
        refine lv_iload C.1 C.2.1 dX12_sets_233 (lv_at hl 4 rfl) ?_
        refine lv_iload_n C.1 C.2.1 dX12_sets_235 rfl (lv_at hl 3 rfl) ?_
        obtain ⟨r42, hc44, h⟩ := bd_some h
        refine cs_i (As := [.int z4, .int z3]) (rest := []) (AM_ge hJ) C hK hP hS (metX12_isBetter l D cy st _ z4 z3 hc44) (va_cwS 2 C.2.2.2.2.2.1 gX12_sets_X12_isBetter rfl rfl rfl (by decide +kernel) ⟨(Nat.le_of_ble_eq_true rfl), (Nat.le_of_ble_eq_true rfl)⟩) rfl hl.1 rfl (Nat.le_of_ble_eq_true rfl) dX12_sets_236 ⟨Nat.zero_le _, Nat.zero_le _⟩ (fun H locs hP hS => ?_)
        refine lv_if_eq (tgt := 255) C.1 C.2.1 dX12_sets_239 (by decide) (fun c239 => ?_) (fun c239 => ?_)
        · rw [if_pos c239] at h
          exact wGX12_sets_0_255 C hK hJ ih _ _ _ _ _ _ _ _ h hP hS hl
        · rw [if_neg c239] at h
          refine lv_aload_n C.1 C.2.1 dX12_sets_242 rfl (lv_at hl 0 rfl) ?_
          refine lv_iload C.1 C.2.1 dX12_sets_243 (lv_at hl 4 rfl) ?_
          refine lv_iload_n C.1 C.2.1 dX12_sets_245 rfl (lv_at hl 1 rfl) ?_
          obtain ⟨⟨r45, u46⟩, hc47, h⟩ := bd_some h
          try dsimp only at h
          refine cg_i (As := [.int z4, .int z1]) (rest := []) (AM_ge hJ) C hK hP hS (metX12_isSet_0 l D cy ad st hJ _ z4 z1 hc47) (cwV 2 C.2.2.2.2.2.1 gX12_sets_X12_isSet rfl rfl rfl (by decide +kernel) ⟨(Nat.le_of_ble_eq_true rfl), (Nat.le_of_ble_eq_true rfl)⟩) 0 12 rfl rfl rfl hl.1 rfl (Nat.le_of_ble_eq_true rfl) dX12_sets_246 ⟨Nat.zero_le _, Nat.zero_le _⟩ (fun H locs hP hS => ?_)
          refine lv_if_eq (tgt := 255) C.1 C.2.1 dX12_sets_249 (by decide) (fun c249 => ?_) (fun c249 => ?_)
          · rw [if_pos c249] at h
            exact wGX12_sets_0_255 C hK hJ ih _ _ _ _ _ _ _ _ h hP hS hl
          · rw [if_neg c249] at h
            refine lv_iload C.1 C.2.1 dX12_sets_252 (lv_at hl 4 rfl) ?_
            refine lv_istore_n (lv' := [(3, .int z4), (0, .ref (ad 0)), (1, .int z1), (2, .int z2), (4, .int z4)]) C.1 C.2.1 dX12_sets_254 rfl hl (by decide) rfl (fun ls hl => ?_)
            replace hl := lv_sub (l' := [(0, .ref (ad 0)), (1, .int z1), (2, .int z2), (3, .int z4), (4, .int z4)]) hl [1, 2, 3, 0, 4] rfl
            exact wGX12_sets_0_255 C hK hJ ih _ _ _ _ _ _ _ _ h hP hS hl
set_option maxHeartbeats 4000000 in
set_option maxRecDepth 100000 in
theorem wGX12_sets_0_208 {p : Program} {l : Launch} {e : Env} {s : State} {m : MethodId} {args : Array Value} {below : List Frame} {meth : Method} {c : Code} {D : va_G} {cy : Nat → ClassId} {ad st : Nat → Nat} (C : Cx RX12 cX12_sets 5 (some .int) wsX12_sets p s m args meth c) (hK : Ky D [(cy 0, .int), (cy 1, .long), (cy 2, .boolean), (cy 3, .byte), (cy 4, .object "HissHorn$Text")] st s) (hJ : JM ad st) {r : Int32} {u' : SX}   (z1 : Int32) (z2 : Int32) (u : SX) (H : Heap) (locs : List Loc) (ls : Array Slot) (h : GX12_sets_0_208 z1 z2 u = some (r, u')) (hP : va_P D vwCl (VM cy ad st u) H) (hS : va_S (Ax (AM ad) s.heap.size) s.heap H locs) (hl : lv_has ls 5 [(0, .ref (ad 0)), (1, .int z1), (2, .int z2)]) : W p l e rmX12_sets_0 s m args below meth c H locs 0 0 (MQ below (Qi D (VM cy ad st) (AM ad) s.heap.size r u') args s 0 0 (Ax (AM ad) s.heap.size)) (F0 m 208 ls []) := by
  unfold GX12_sets_0_208 at h
  refine lv_iconst (v := (-1)) C.1 C.2.1 dX12_sets_208 (by decide) ?_
  refine lv_istore_n (lv' := [(3, .int (-1)), (0, .ref (ad 0)), (1, .int z1), (2, .int z2)]) C.1 C.2.1 dX12_sets_209 rfl hl (by decide) rfl (fun ls hl => ?_)
  replace hl := lv_sub (l' := [(0, .ref (ad 0)), (1, .int z1), (2, .int z2), (3, .int (-1))]) hl [1, 2, 3, 0] rfl
  refine lv_iconst (v := 0) C.1 C.2.1 dX12_sets_210 (by decide) ?_
  refine lv_istore (lv' := [(4, .int 0), (0, .ref (ad 0)), (1, .int z1), (2, .int z2), (3, .int (-1))]) C.1 C.2.1 dX12_sets_211 hl (by decide) rfl (fun ls hl => ?_)
  replace hl := lv_sub (l' := [(0, .ref (ad 0)), (1, .int z1), (2, .int z2), (3, .int (-1)), (4, .int 0)]) hl [1, 2, 3, 4, 0] rfl
  exact wLX12_sets_0_213 C hK hJ  5000 _ _ _ _ _ _ _ _ h hP hS hl
set_option maxHeartbeats 4000000 in
set_option maxRecDepth 100000 in
theorem wGX12_sets_0_62 {p : Program} {l : Launch} {e : Env} {s : State} {m : MethodId} {args : Array Value} {below : List Frame} {meth : Method} {c : Code} {D : va_G} {cy : Nat → ClassId} {ad st : Nat → Nat} (C : Cx RX12 cX12_sets 5 (some .int) wsX12_sets p s m args meth c) (hK : Ky D [(cy 0, .int), (cy 1, .long), (cy 2, .boolean), (cy 3, .byte), (cy 4, .object "HissHorn$Text")] st s) (hJ : JM ad st) {r : Int32} {u' : SX}   (z1 : Int32) (z2 : Int32) (u : SX) (H : Heap) (locs : List Loc) (ls : Array Slot) (h : GX12_sets_0_62 z1 z2 u = some (r, u')) (hP : va_P D vwCl (VM cy ad st u) H) (hS : va_S (Ax (AM ad) s.heap.size) s.heap H locs) (hl : lv_has ls 5 [(0, .ref (ad 0)), (1, .int z1), (2, .int z2)]) : W p l e rmX12_sets_0 s m args below meth c H locs 0 0 (MQ below (Qi D (VM cy ad st) (AM ad) s.heap.size r u') args s 0 0 (Ax (AM ad) s.heap.size)) (F0 m 62 ls []) := by
  unfold GX12_sets_0_62 at h
  refine lv_iconst (v := 0) C.1 C.2.1 dX12_sets_62 (by decide) ?_
  refine lv_istore_n (lv' := [(3, .int 0), (0, .ref (ad 0)), (1, .int z1), (2, .int z2)]) C.1 C.2.1 dX12_sets_63 rfl hl (by decide) rfl (fun ls hl => ?_)
  replace hl := lv_sub (l' := [(0, .ref (ad 0)), (1, .int z1), (2, .int z2), (3, .int 0)]) hl [1, 2, 3, 0] rfl
  exact wLX12_sets_0_64 C hK hJ (wGX12_sets_0_208 C hK hJ ) 5000 _ _ _ _ _ _ _ h hP hS hl
set_option maxHeartbeats 4000000 in
set_option maxRecDepth 100000 in
theorem wX12_sets_0 {p : Program} {l : Launch} {e : Env} {s : State} {m : MethodId} {args : Array Value} {below : List Frame} {meth : Method} {c : Code} {D : va_G} {cy : Nat → ClassId} {ad st : Nat → Nat} (C : Cx RX12 cX12_sets 5 (some .int) wsX12_sets p s m args meth c) (hK : Ky D [(cy 0, .int), (cy 1, .long), (cy 2, .boolean), (cy 3, .byte), (cy 4, .object "HissHorn$Text")] st s) (hJ : JM ad st) (x1 : Int32) {u : SX} {r : Int32} {u' : SX} {H : Heap} {locs : List Loc} {ls : Array Slot} (h : fX12_sets_0 x1 u = some (r, u')) (hP : va_P D vwCl (VM cy ad st u) H) (hS : va_S (Ax (AM ad) s.heap.size) s.heap H locs) (hl : lv_has ls 5 [(0, .ref (ad 0)), (1, .int x1)]) : W p l e rmX12_sets_0 s m args below meth c H locs 0 0 (MQ below (Qi D (VM cy ad st) (AM ad) s.heap.size r u') args s 0 0 (Ax (AM ad) s.heap.size)) (F0 m 0 ls []) := by
  unfold fX12_sets_0 at h
  refine lv_aload_n C.1 C.2.1 dX12_sets_0 rfl (lv_at hl 0 rfl) ?_
  refine lv_iconst (v := 0) C.1 C.2.1 dX12_sets_1 (by decide) ?_
  refine pM_0_thrown C hX12_sets_0_X12 hK hP hJ hS mX12_sets_0_1 dX12_sets_2 (fun H locs hP hS => ?_)
  obtain ⟨u1, hu2, h⟩ := lt_some h
  rw [← hu2] at hP
  refine lv_iload_n C.1 C.2.1 dX12_sets_5 rfl (lv_at hl 1 rfl) ?_
  refine lv_iconst (v := 0) C.1 C.2.1 dX12_sets_6 (by decide) ?_
  refine lv_aload_n C.1 C.2.1 dX12_sets_7 rfl (lv_at hl 0 rfl) ?_
  refine gM_0_now C hX12_sets_0_X12 hK hP mX12_sets_0_2 dX12_sets_8 ?_
  obtain ⟨r3, hc5, h⟩ := bd_some h
  refine cs_i (As := [.int x1, .int 0, .int (u1.1 1)]) (rest := []) (AM_ge hJ) C hK hP hS (metX12_isIn l D cy st _ x1 0 (u1.1 1) hc5) (va_cwS 3 C.2.2.2.2.2.1 gX12_sets_X12_isIn rfl rfl rfl (by decide +kernel) ⟨(Nat.le_of_ble_eq_true rfl), (Nat.le_of_ble_eq_true rfl)⟩) rfl hl.1 rfl (Nat.le_of_ble_eq_true rfl) dX12_sets_11 ⟨Nat.zero_le _, Nat.zero_le _⟩ (fun H locs hP hS => ?_)
  refine lv_if_ne (tgt := 19) C.1 C.2.1 dX12_sets_14 (by decide) (fun c14 => ?_) (fun c14 => ?_)
  · rw [if_neg c14] at h
    refine lv_aload_n C.1 C.2.1 dX12_sets_19 rfl (lv_at hl 0 rfl) ?_
    refine lv_iload_n C.1 C.2.1 dX12_sets_20 rfl (lv_at hl 1 rfl) ?_
    obtain ⟨⟨r6, u7⟩, hc8, h⟩ := bd_some h
    try dsimp only at h
    refine cg_v (As := [.int x1]) (rest := []) (AM_ge hJ) C hK hP hS (metX12_laySpansOf_0 l D cy ad st hJ _ x1 hc8) (cwV 1 C.2.2.2.2.2.1 gX12_sets_X12_laySpansOf rfl rfl rfl (by decide +kernel) ⟨(Nat.le_of_ble_eq_true rfl), (Nat.le_of_ble_eq_true rfl)⟩) 0 12 rfl rfl rfl hl.1 rfl (Nat.le_of_ble_eq_true rfl) dX12_sets_21 ⟨Nat.zero_le _, Nat.zero_le _⟩ (fun H locs hP hS => ?_)
    refine lv_iconst (v := 0) C.1 C.2.1 dX12_sets_24 (by decide) ?_
    refine lv_istore_n (lv' := [(2, .int 0), (0, .ref (ad 0)), (1, .int x1)]) C.1 C.2.1 dX12_sets_25 rfl hl (by decide) rfl (fun ls hl => ?_)
    replace hl := lv_sub (l' := [(0, .ref (ad 0)), (1, .int x1), (2, .int 0)]) hl [1, 2, 0] rfl
    refine lv_iconst (v := 0) C.1 C.2.1 dX12_sets_26 (by decide) ?_
    refine lv_istore_n (lv' := [(3, .int 0), (0, .ref (ad 0)), (1, .int x1), (2, .int 0)]) C.1 C.2.1 dX12_sets_27 rfl hl (by decide) rfl (fun ls hl => ?_)
    replace hl := lv_sub (l' := [(0, .ref (ad 0)), (1, .int x1), (2, .int 0), (3, .int 0)]) hl [1, 2, 3, 0] rfl
    exact wLX12_sets_0_28 C hK hJ (wGX12_sets_0_62 C hK hJ ) 5000 _ _ _ _ _ _ _ h hP hS hl
  · rw [if_pos c14] at h
    refine lv_iconst (v := (-1)) C.1 C.2.1 dX12_sets_17 (by decide) ?_
    cases h
    exact rt_i C hP hS dX12_sets_18
theorem metX12_sets_0 (l : Launch) (D : va_G) (cy : Nat → ClassId) (ad st : Nat → Nat) (hJ : JM ad st) (sz : Nat) (x1 : Int32) {u : SX} {r : Int32} {u' : SX} (h : fX12_sets_0 x1 u = some (r, u')) : Met l yX12_sets wsX12_sets rmX12_sets_0 (va_Pc [.ref (ad 0), .int x1] (Px D [(cy 0, .int), (cy 1, .long), (cy 2, .boolean), (cy 3, .byte), (cy 4, .object "HissHorn$Text")] st (VM cy ad st) sz u)) (Qi D (VM cy ad st) (AM ad) sz r u') 0 0 (Ax (AM ad) sz) := by
  refine Met.ofW (cc := cX12_sets) (maxL := 5) (ret := (some .int)) (by decide) rfl ?_
  intro p e s m args below meth c s₁ B hml hv
  obtain ⟨rfl, hsz, hP, hK⟩ := hv
  subst hsz
  have C : Cx RX12 cX12_sets 5 (some .int) wsX12_sets p s m _ meth c := ⟨B.exec, B.bytes, hml, B.returns, findClass_of_methodNamed B.named, atoms_spec (ws := wsX12_sets) B.pre, B.notSynchronized⟩
  have hl := lv_entry ([.ref (ad 0), .int x1]) (n := 5) (Nat.le_of_ble_eq_true rfl)
  rw [lg_entry_eq]
  exact wX12_sets_0 C hK hJ x1 h hP va_S.rf hl
