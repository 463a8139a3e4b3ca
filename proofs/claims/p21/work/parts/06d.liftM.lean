theorem zdX12_shines_0 : (and (and (and (zk cX12_shines 0 (.iload_n 0) 1) (zk cX12_shines 1 (.iload_n 1) 1)) (zk cX12_shines 2 (.imul) 1)) (and (and (zk cX12_shines 3 (.bipush 100) 2) (zk cX12_shines 5 (.idiv) 1)) (zk cX12_shines 6 (.ireturn) 1))) = true := by decide +kernel
theorem dX12_shines_0 : decode cX12_shines 0 = .ok (.iload_n 0, 1) := zk_of (zk_l (zk_l (zk_l zdX12_shines_0)))
theorem dX12_shines_1 : decode cX12_shines 1 = .ok (.iload_n 1, 1) := zk_of (zk_r (zk_l (zk_l zdX12_shines_0)))
theorem dX12_shines_2 : decode cX12_shines 2 = .ok (.imul, 1) := zk_of (zk_r (zk_l zdX12_shines_0))
theorem dX12_shines_3 : decode cX12_shines 3 = .ok (.bipush 100, 2) := zk_of (zk_l (zk_l (zk_r zdX12_shines_0)))
theorem dX12_shines_5 : decode cX12_shines 5 = .ok (.idiv, 1) := zk_of (zk_r (zk_l (zk_r zdX12_shines_0)))
theorem dX12_shines_6 : decode cX12_shines 6 = .ok (.ireturn, 1) := zk_of (zk_r (zk_r zdX12_shines_0))
/-- HissHornModel.shines(II)I -/
def rmX12_shines : Room := { frames := 0, cells := 0, slots := 0, locals := 0 }
def fX12_shines (x0 : Int32) (x1 : Int32) : Option Int32 := (gd (nz 100) (some ((x0 * x1) / 100)))
set_option maxHeartbeats 4000000 in
set_option maxRecDepth 100000 in
theorem wX12_shines {p : Program} {l : Launch} {e : Env} {s : State} {m : MethodId} {args : Array Value} {below : List Frame} {meth : Method} {c : Code} {D : va_G} {cy : Nat → ClassId} {st : Nat → Nat} (C : Cx RX12 cX12_shines 2 (some .int) wsX12_shines p s m args meth c) (hK : Ky D [(cy 0, .int), (cy 1, .long), (cy 2, .boolean), (cy 3, .byte), (cy 4, .object "HissHorn$Text")] st s) (x0 : Int32) (x1 : Int32) {r : Int32} {H : Heap} {locs : List Loc} {ls : Array Slot} (h : fX12_shines x0 x1 = some r) (hP : va_P D vwCl (V0 u00) H) (hS : va_S (Ax (A0) s.heap.size) s.heap H locs) (hl : lv_has ls 2 [(0, .int x0), (1, .int x1)]) : W p l e rmX12_shines s m args below meth c H locs 0 0 (MQ below (Qi D (V0) (A0) s.heap.size r u00) args s 0 0 (Ax (A0) s.heap.size)) (F0 m 0 ls []) := by
  unfold fX12_shines at h
  refine lv_iload_n C.1 C.2.1 dX12_shines_0 rfl (lv_at hl 0 rfl) ?_
  refine lv_iload_n C.1 C.2.1 dX12_shines_1 rfl (lv_at hl 1 rfl) ?_
  refine lv_imul C.1 C.2.1 dX12_shines_2 ?_
  refine lv_bipush (v := 100) C.1 C.2.1 dX12_shines_3 (by decide) ?_
  obtain ⟨hg1, h⟩ := gd_some h
  refine lv_idiv C.1 C.2.1 dX12_shines_5 (nz_n hg1) ?_
  cases h
  exact rt_i C hP hS dX12_shines_6
theorem metX12_shines (l : Launch) (D : va_G) (cy : Nat → ClassId) (st : Nat → Nat) (sz : Nat) (x0 : Int32) (x1 : Int32) {r : Int32} (h : fX12_shines x0 x1 = some r) : Met l yX12_shines wsX12_shines rmX12_shines (va_Pc [.int x0, .int x1] (Px D [(cy 0, .int), (cy 1, .long), (cy 2, .boolean), (cy 3, .byte), (cy 4, .object "HissHorn$Text")] st V0 sz u00)) (Qi D V0 A0 sz r u00) 0 0 (Ax A0 sz) := by
  refine Met.ofW (cc := cX12_shines) (maxL := 2) (ret := (some .int)) (by decide) rfl ?_
  intro p e s m args below meth c s₁ B hml hv
  obtain ⟨rfl, hsz, hP, hK⟩ := hv
  subst hsz
  have C : Cx RX12 cX12_shines 2 (some .int) wsX12_shines p s m _ meth c := ⟨B.exec, B.bytes, hml, B.returns, findClass_of_methodNamed B.named, atoms_spec (ws := wsX12_shines) B.pre, B.notSynchronized⟩
  have hl := lv_entry ([.int x0, .int x1]) (n := 2) (Nat.le_of_ble_eq_true rfl)
  rw [lg_entry_eq]
  exact wX12_shines C hK x0 x1 h hP va_S.rf hl

theorem zdX12_trueSum_22 : (and (and (and (and (and (zk cX12_trueSum 22 (.iload 8) 2) (zk cX12_trueSum 24 (.aload_n 0) 1)) (and (zk cX12_trueSum 25 (.getfield 286) 3) (zk cX12_trueSum 28 (.if_icmp .ge 31) 3))) (and (and (zk cX12_trueSum 59 (.iload 7) 2) (zk cX12_trueSum 61 (.ireturn) 1)) (and (zk cX12_trueSum 31 (.iload 7) 2) (zk cX12_trueSum 33 (.aload_n 0) 1)))) (and (and (and (zk cX12_trueSum 34 (.getfield 44) 3) (zk cX12_trueSum 37 (.iload 8) 2)) (and (zk cX12_trueSum 39 (.iaload) 1) (zk cX12_trueSum 40 (.aload_n 0) 1))) (and (and (zk cX12_trueSum 41 (.getfield 71) 3) (zk cX12_trueSum 44 (.iload 8) 2)) (and (zk cX12_trueSum 46 (.iaload) 1) (zk cX12_trueSum 47 (.invokestatic 323) 3))))) (and (and (and (and (zk cX12_trueSum 50 (.iadd) 1) (zk cX12_trueSum 51 (.istore 7) 2)) (and (zk cX12_trueSum 53 (.iinc 8 1) 3) (zk cX12_trueSum 56 (.goto (-34)) 3))) (and (and (zk cX12_trueSum 0 (.aload_n 0) 1) (zk cX12_trueSum 1 (.iload_n 2) 1)) (and (zk cX12_trueSum 2 (.iload_n 3) 1) (zk cX12_trueSum 3 (.iload 4) 2)))) (and (and (and (zk cX12_trueSum 5 (.iload_n 1) 1) (zk cX12_trueSum 6 (.invokestatic 316) 3)) (and (zk cX12_trueSum 9 (.iload 5) 2) (zk cX12_trueSum 11 (.iload 6) 2))) (and (and (zk cX12_trueSum 13 (.invokevirtual 319) 3) (zk cX12_trueSum 16 (.iconst 0) 1)) (and (zk cX12_trueSum 17 (.istore 7) 2) (zk cX12_trueSum 19 (.iconst 0) 1)))))) = true := by decide +kernel
theorem dX12_trueSum_22 : decode cX12_trueSum 22 = .ok (.iload 8, 2) := zk_of (zk_l (zk_l (zk_l (zk_l (zk_l zdX12_trueSum_22)))))
theorem dX12_trueSum_24 : decode cX12_trueSum 24 = .ok (.aload_n 0, 1) := zk_of (zk_r (zk_l (zk_l (zk_l (zk_l zdX12_trueSum_22)))))
theorem dX12_trueSum_25 : decode cX12_trueSum 25 = .ok (.getfield 286, 3) := zk_of (zk_l (zk_r (zk_l (zk_l (zk_l zdX12_trueSum_22)))))
theorem dX12_trueSum_28 : decode cX12_trueSum 28 = .ok (.if_icmp .ge 31, 3) := zk_of (zk_r (zk_r (zk_l (zk_l (zk_l zdX12_trueSum_22)))))
theorem dX12_trueSum_59 : decode cX12_trueSum 59 = .ok (.iload 7, 2) := zk_of (zk_l (zk_l (zk_r (zk_l (zk_l zdX12_trueSum_22)))))
theorem dX12_trueSum_61 : decode cX12_trueSum 61 = .ok (.ireturn, 1) := zk_of (zk_r (zk_l (zk_r (zk_l (zk_l zdX12_trueSum_22)))))
theorem dX12_trueSum_31 : decode cX12_trueSum 31 = .ok (.iload 7, 2) := zk_of (zk_l (zk_r (zk_r (zk_l (zk_l zdX12_trueSum_22)))))
theorem dX12_trueSum_33 : decode cX12_trueSum 33 = .ok (.aload_n 0, 1) := zk_of (zk_r (zk_r (zk_r (zk_l (zk_l zdX12_trueSum_22)))))
theorem dX12_trueSum_34 : decode cX12_trueSum 34 = .ok (.getfield 44, 3) := zk_of (zk_l (zk_l (zk_l (zk_r (zk_l zdX12_trueSum_22)))))
theorem dX12_trueSum_37 : decode cX12_trueSum 37 = .ok (.iload 8, 2) := zk_of (zk_r (zk_l (zk_l (zk_r (zk_l zdX12_trueSum_22)))))
theorem dX12_trueSum_39 : decode cX12_trueSum 39 = .ok (.iaload, 1) := zk_of (zk_l (zk_r (zk_l (zk_r (zk_l zdX12_trueSum_22)))))
theorem dX12_trueSum_40 : decode cX12_trueSum 40 = .ok (.aload_n 0, 1) := zk_of (zk_r (zk_r (zk_l (zk_r (zk_l zdX12_trueSum_22)))))
theorem dX12_trueSum_41 : decode cX12_trueSum 41 = .ok (.getfield 71, 3) := zk_of (zk_l (zk_l (zk_r (zk_r (zk_l zdX12_trueSum_22)))))
theorem dX12_trueSum_44 : decode cX12_trueSum 44 = .ok (.iload 8, 2) := zk_of (zk_r (zk_l (zk_r (zk_r (zk_l zdX12_trueSum_22)))))
theorem dX12_trueSum_46 : decode cX12_trueSum 46 = .ok (.iaload, 1) := zk_of (zk_l (zk_r (zk_r (zk_r (zk_l zdX12_trueSum_22)))))
theorem dX12_trueSum_47 : decode cX12_trueSum 47 = .ok (.invokestatic 323, 3) := zk_of (zk_r (zk_r (zk_r (zk_r (zk_l zdX12_trueSum_22)))))
theorem dX12_trueSum_50 : decode cX12_trueSum 50 = .ok (.iadd, 1) := zk_of (zk_l (zk_l (zk_l (zk_l (zk_r zdX12_trueSum_22)))))
theorem dX12_trueSum_51 : decode cX12_trueSum 51 = .ok (.istore 7, 2) := zk_of (zk_r (zk_l (zk_l (zk_l (zk_r zdX12_trueSum_22)))))
theorem dX12_trueSum_53 : decode cX12_trueSum 53 = .ok (.iinc 8 1, 3) := zk_of (zk_l (zk_r (zk_l (zk_l (zk_r zdX12_trueSum_22)))))
theorem dX12_trueSum_56 : decode cX12_trueSum 56 = .ok (.goto (-34), 3) := zk_of (zk_r (zk_r (zk_l (zk_l (zk_r zdX12_trueSum_22)))))
theorem dX12_trueSum_0 : decode cX12_trueSum 0 = .ok (.aload_n 0, 1) := zk_of (zk_l (zk_l (zk_r (zk_l (zk_r zdX12_trueSum_22)))))
theorem dX12_trueSum_1 : decode cX12_trueSum 1 = .ok (.iload_n 2, 1) := zk_of (zk_r (zk_l (zk_r (zk_l (zk_r zdX12_trueSum_22)))))
theorem dX12_trueSum_2 : decode cX12_trueSum 2 = .ok (.iload_n 3, 1) := zk_of (zk_l (zk_r (zk_r (zk_l (zk_r zdX12_trueSum_22)))))
theorem dX12_trueSum_3 : decode cX12_trueSum 3 = .ok (.iload 4, 2) := zk_of (zk_r (zk_r (zk_r (zk_l (zk_r zdX12_trueSum_22)))))
theorem dX12_trueSum_5 : decode cX12_trueSum 5 = .ok (.iload_n 1, 1) := zk_of (zk_l (zk_l (zk_l (zk_r (zk_r zdX12_trueSum_22)))))
theorem dX12_trueSum_6 : decode cX12_trueSum 6 = .ok (.invokestatic 316, 3) := zk_of (zk_r (zk_l (zk_l (zk_r (zk_r zdX12_trueSum_22)))))
theorem dX12_trueSum_9 : decode cX12_trueSum 9 = .ok (.iload 5, 2) := zk_of (zk_l (zk_r (zk_l (zk_r (zk_r zdX12_trueSum_22)))))
theorem dX12_trueSum_11 : decode cX12_trueSum 11 = .ok (.iload 6, 2) := zk_of (zk_r (zk_r (zk_l (zk_r (zk_r zdX12_trueSum_22)))))
theorem dX12_trueSum_13 : decode cX12_trueSum 13 = .ok (.invokevirtual 319, 3) := zk_of (zk_l (zk_l (zk_r (zk_r (zk_r zdX12_trueSum_22)))))
theorem dX12_trueSum_16 : decode cX12_trueSum 16 = .ok (.iconst 0, 1) := zk_of (zk_r (zk_l (zk_r (zk_r (zk_r zdX12_trueSum_22)))))
theorem dX12_trueSum_17 : decode cX12_trueSum 17 = .ok (.istore 7, 2) := zk_of (zk_l (zk_r (zk_r (zk_r (zk_r zdX12_trueSum_22)))))
theorem dX12_trueSum_19 : decode cX12_trueSum 19 = .ok (.iconst 0, 1) := zk_of (zk_r (zk_r (zk_r (zk_r (zk_r zdX12_trueSum_22)))))
set_option maxRecDepth 20000 in
theorem ggX12_trueSum_X12_shines : GoodIn wsX12_trueSum wsX12_shines := ggi (fun w h => List.mem_cons_of_mem _ (List.mem_append_left _ (List.mem_append_right _ (List.mem_append_left _ h)))) gs_X12_shines
set_option maxRecDepth 20000 in
theorem gX12_trueSum_X12_shines : GoodIn wsX12_trueSum (va_wsS RX12 323 yX12_shines wsX12_shines) := goodIn_app (goodIn_of _ (by decide +kernel)) ggX12_trueSum_X12_shines
set_option maxRecDepth 20000 in
theorem ggX12_trueSum_X12_season : GoodIn wsX12_trueSum wsX12_season := ggi (fun w h => List.mem_cons_of_mem _ (List.mem_append_left _ (List.mem_append_right _ (List.mem_append_right _ (List.mem_append_left _ h))))) gs_X12_season
set_option maxRecDepth 20000 in
theorem gX12_trueSum_X12_season : GoodIn wsX12_trueSum (va_wsS RX12 316 yX12_season wsX12_season) := goodIn_app (goodIn_of _ (by decide +kernel)) ggX12_trueSum_X12_season
set_option maxRecDepth 20000 in
theorem ggX12_trueSum_X12_layWorths : GoodIn wsX12_trueSum wsX12_layWorths := ggi (fun w h => List.mem_cons_of_mem _ (List.mem_append_left _ (List.mem_append_right _ (List.mem_append_right _ (List.mem_append_right _ h))))) gs_X12_layWorths
set_option maxRecDepth 20000 in
theorem gX12_trueSum_X12_layWorths : GoodIn wsX12_trueSum (wsV RX12 319 RX12 yX12_layWorths wsX12_layWorths) := goodIn_app (goodIn_of _ (by decide +kernel)) ggX12_trueSum_X12_layWorths
theorem dX12_trueSum_20 : decode cX12_trueSum 20 = .ok (.istore 8, 2) := by decide +kernel
/-- HissHornModel.trueSum(IIIIII)I of cell 0 -/
def rmX12_trueSum_0 : Room := { frames := 140, cells := 0, slots := 0, locals := 8481 }
theorem hX12_trueSum_0_X12 : ∀ w ∈ u_ws RX12 TX12 69, w ∈ wsX12_trueSum := fun w h => (List.mem_cons_of_mem _ (List.mem_append_right _ h))
theorem mX12_trueSum_0_1 : Cond.fieldLink RX12 286 "HissHornModel" "parts" "I" ∈ wsX12_trueSum := (List.mem_cons_of_mem _ (List.mem_append_left _ (List.mem_append_left _ (List.mem_of_getElem? (i := 8) rfl))))
theorem mX12_trueSum_0_2 : Cond.fieldLink RX12 44 "HissHornModel" "truly" "[I" ∈ wsX12_trueSum := (List.mem_cons_of_mem _ (List.mem_append_left _ (List.mem_append_left _ (List.mem_of_getElem? (i := 9) rfl))))
theorem mX12_trueSum_0_3 : Cond.fieldLink RX12 71 "HissHornModel" "worths" "[I" ∈ wsX12_trueSum := (List.mem_cons_of_mem _ (List.mem_append_left _ (List.mem_append_left _ (List.mem_of_getElem? (i := 10) rfl))))
def LX12_trueSum_0_22  : Nat → Int32 → Int32 → SX → Option (Int32 × SX)
  | 0, _, _, _ => none
  | n + 1, z7, z8, u => (if (u.1 12) ≤ z8 then (some (z7, u)) else (gd (inb z8 12) (gd (inb z8 12) ((fX12_shines (u.2.1 9 z8.toNatClampNeg) (u.2.1 18 z8.toNatClampNeg)).bind fun r9 => (lt (z7 + r9) fun v12 => ((LX12_trueSum_0_22 n) v12 (z8 + 1) u))))))
def fX12_trueSum_0 (x1 : Int32) (x2 : Int32) (x3 : Int32) (x4 : Int32) (x5 : Int32) (x6 : Int32) (u : SX) : Option (Int32 × SX) := ((fX12_season x1).bind fun r1 => ((fX12_layWorths_0 x2 x3 x4 r1 x5 x6 u).bind fun q => match q with | (r4, u5) => (LX12_trueSum_0_22  5000 0 0 u5)))
set_option maxHeartbeats 4000000 in
set_option maxRecDepth 100000 in
theorem wLX12_trueSum_0_22 {p : Program} {l : Launch} {e : Env} {s : State} {m : MethodId} {args : Array Value} {below : List Frame} {meth : Method} {c : Code} {D : va_G} {cy : Nat → ClassId} {ad st : Nat → Nat} (C : Cx RX12 cX12_trueSum 9 (some .int) wsX12_trueSum p s m args meth c) (hK : Ky D [(cy 0, .int), (cy 1, .long), (cy 2, .boolean), (cy 3, .byte), (cy 4, .object "HissHorn$Text")] st s) (hJ : JM ad st) {r : Int32} {u' : SX}   : ∀ (n : Nat) (z7 : Int32) (z8 : Int32) (u : SX) (H : Heap) (locs : List Loc) (ls : Array Slot), LX12_trueSum_0_22  n z7 z8 u = some (r, u') → va_P D vwCl (VM cy ad st u) H → va_S (Ax (AM ad) s.heap.size) s.heap H locs → lv_has ls 9 [(0, .ref (ad 0)), (7, .int z7), (8, .int z8)] → W p l e rmX12_trueSum_0 s m args below meth c H locs 0 0 (MQ below (Qi D (VM cy ad st) (AM ad) s.heap.size r u') args s 0 0 (Ax (AM ad) s.heap.size)) (F0 m 22 ls []) := by
  intro n
  induction n with
  | zero =>
    intro z7 z8 u H locs ls h
    exact absurd h (by intro q; cases q)
  | succ n ih =>
    intro z7 z8 u H locs ls h hP hS hl
    rw [LX12_trueSum_0_22] at h
    refine lv_iload C.1 C.2.1 dX12_trueSum_22 (lv_at hl 2 rfl) ?_
    refine lv_aload_n C.1 C.2.1 dX12_trueSum_24 rfl (lv_at hl 0 rfl) ?_
    refine gM_0_parts C hX12_trueSum_0_X12 hK hP mX12_trueSum_0_1 dX12_trueSum_25 ?_
    refine lv_icmp_ge (tgt := 59) C.1 C.2.1 dX12_trueSum_28 (by decide) (fun c28 => ?_) (fun c28 => ?_)
    · rw [if_pos c28] at h
      refine lv_iload C.1 C.2.1 dX12_trueSum_59 (lv_at hl 1 rfl) ?_
      cases h
      exact rt_i C hP hS dX12_trueSum_61
    · rw [if_neg c28] at h
      refine lv_iload C.1 C.2.1 dX12_trueSum_31 (lv_at hl 1 rfl) ?_
      refine lv_aload_n C.1 C.2.1 dX12_trueSum_33 rfl (lv_at hl 0 rfl) ?_
      refine gM_0_truly C hX12_trueSum_0_X12 hK hP mX12_trueSum_0_2 dX12_trueSum_34 ?_
      refine lv_iload C.1 C.2.1 dX12_trueSum_37 (lv_at hl 2 rfl) ?_
      obtain ⟨hg7, h⟩ := gd_some h
      refine lM_9 C hK hP hg7 dX12_trueSum_39 ?_
      refine lv_aload_n C.1 C.2.1 dX12_trueSum_40 rfl (lv_at hl 0 rfl) ?_
      refine gM_0_worths C hX12_trueSum_0_X12 hK hP mX12_trueSum_0_3 dX12_trueSum_41 ?_
      refine lv_iload C.1 C.2.1 dX12_trueSum_44 (lv_at hl 2 rfl) ?_
      obtain ⟨hg8, h⟩ := gd_some h
      refine lM_18 C hK hP hg8 dX12_trueSum_46 ?_
      obtain ⟨r9, hc11, h⟩ := bd_some h
      refine cs_i (As := [.int (u.2.1 9 z8.toNatClampNeg), .int (u.2.1 18 z8.toNatClampNeg)]) (rest := [.int z7]) (AM_ge hJ) C hK hP hS (metX12_shines l D cy st _ (u.2.1 9 z8.toNatClampNeg) (u.2.1 18 z8.toNatClampNeg) hc11) (va_cwS 2 C.2.2.2.2.2.1 gX12_trueSum_X12_shines rfl rfl rfl (by decide +kernel) ⟨(Nat.le_of_ble_eq_true rfl), (Nat.le_of_ble_eq_true rfl)⟩) rfl hl.1 rfl (Nat.le_of_ble_eq_true rfl) dX12_trueSum_47 ⟨Nat.zero_le _, Nat.zero_le _⟩ (fun H locs hP hS => ?_)
      refine lv_iadd C.1 C.2.1 dX12_trueSum_50 ?_
      refine lv_topi (fun v12 hv13 => ?_)
      replace h := lt_e hv13 h
      try dsimp only at h
      refine lv_istore (lv' := [(7, .int v12), (0, .ref (ad 0)), (8, .int z8)]) C.1 C.2.1 dX12_trueSum_51 hl (by decide) rfl (fun ls hl => ?_)
      replace hl := lv_sub (l' := [(0, .ref (ad 0)), (7, .int v12), (8, .int z8)]) hl [1, 0, 2] rfl
      refine lv_iinc (v := z8 + 1) (lv' := [(8, .int (z8 + 1)), (0, .ref (ad 0)), (7, .int v12)]) C.1 C.2.1 dX12_trueSum_53 hl (k := 2) rfl rfl (by decide) rfl (fun ls hl => ?_)
      replace hl := lv_sub (l' := [(0, .ref (ad 0)), (7, .int v12), (8, .int (z8 + 1))]) hl [1, 2, 0] rfl
      refine lv_goto (tgt := 22) C.1 C.2.1 dX12_trueSum_56 (by decide) ?_
      exact ih _ _ _ _ _ _ h hP hS hl
set_option maxHeartbeats 4000000 in
set_option maxRecDepth 100000 in
theorem wX12_trueSum_0 {p : Program} {l : Launch} {e : Env} {s : State} {m : MethodId} {args : Array Value} {below : List Frame} {meth : Method} {c : Code} {D : va_G} {cy : Nat → ClassId} {ad st : Nat → Nat} (C : Cx RX12 cX12_trueSum 9 (some .int) wsX12_trueSum p s m args meth c) (hK : Ky D [(cy 0, .int), (cy 1, .long), (cy 2, .boolean), (cy 3, .byte), (cy 4, .object "HissHorn$Text")] st s) (hJ : JM ad st) (x1 : Int32) (x2 : Int32) (x3 : Int32) (x4 : Int32) (x5 : Int32) (x6 : Int32) {u : SX} {r : Int32} {u' : SX} {H : Heap} {locs : List Loc} {ls : Array Slot} (h : fX12_trueSum_0 x1 x2 x3 x4 x5 x6 u = some (r, u')) (hP : va_P D vwCl (VM cy ad st u) H) (hS : va_S (Ax (AM ad) s.heap.size) s.heap H locs) (hl : lv_has ls 9 [(0, .ref (ad 0)), (1, .int x1), (2, .int x2), (3, .int x3), (4, .int x4), (5, .int x5), (6, .int x6)]) : W p l e rmX12_trueSum_0 s m args below meth c H locs 0 0 (MQ below (Qi D (VM cy ad st) (AM ad) s.heap.size r u') args s 0 0 (Ax (AM ad) s.heap.size)) (F0 m 0 ls []) := by
  unfold fX12_trueSum_0 at h
  refine lv_aload_n C.1 C.2.1 dX12_trueSum_0 rfl (lv_at hl 0 rfl) ?_
  refine lv_iload_n C.1 C.2.1 dX12_trueSum_1 rfl (lv_at hl 2 rfl) ?_
  refine lv_iload_n C.1 C.2.1 dX12_trueSum_2 rfl (lv_at hl 3 rfl) ?_
  refine lv_iload C.1 C.2.1 dX12_trueSum_3 (lv_at hl 4 rfl) ?_
  refine lv_iload_n C.1 C.2.1 dX12_trueSum_5 rfl (lv_at hl 1 rfl) ?_
  obtain ⟨r1, hc3, h⟩ := bd_some h
  refine cs_i (As := [.int x1]) (rest := [.int x4, .int x3, .int x2, .ref (ad 0)]) (AM_ge hJ) C hK hP hS (metX12_season l D cy st _ x1 hc3) (va_cwS 1 C.2.2.2.2.2.1 gX12_trueSum_X12_season rfl rfl rfl (by decide +kernel) ⟨(Nat.le_of_ble_eq_true rfl), (Nat.le_of_ble_eq_true rfl)⟩) rfl hl.1 rfl (Nat.le_of_ble_eq_true rfl) dX12_trueSum_6 ⟨Nat.zero_le _, Nat.zero_le _⟩ (fun H locs hP hS => ?_)
  refine lv_iload C.1 C.2.1 dX12_trueSum_9 (lv_at hl 5 rfl) ?_
  refine lv_iload C.1 C.2.1 dX12_trueSum_11 (lv_at hl 6 rfl) ?_
  obtain ⟨⟨r4, u5⟩, hc6, h⟩ := bd_some h
  try dsimp only at h
  refine cg_v (As := [.int x2, .int x3, .int x4, .int r1, .int x5, .int x6]) (rest := []) (AM_ge hJ) C hK hP hS (metX12_layWorths_0 l D cy ad st hJ _ x2 x3 x4 r1 x5 x6 hc6) (cwV 6 C.2.2.2.2.2.1 gX12_trueSum_X12_layWorths rfl rfl rfl (by decide +kernel) ⟨(Nat.le_of_ble_eq_true rfl), (Nat.le_of_ble_eq_true rfl)⟩) 0 12 rfl rfl rfl hl.1 rfl (Nat.le_of_ble_eq_true rfl) dX12_trueSum_13 ⟨Nat.zero_le _, Nat.zero_le _⟩ (fun H locs hP hS => ?_)
  refine lv_iconst (v := 0) C.1 C.2.1 dX12_trueSum_16 (by decide) ?_
  refine lv_istore (lv' := [(7, .int 0), (0, .ref (ad 0)), (1, .int x1), (2, .int x2), (3, .int x3), (4, .int x4), (5, .int x5), (6, .int x6)]) C.1 C.2.1 dX12_trueSum_17 hl (by decide) rfl (fun ls hl => ?_)
  replace hl := lv_sub (l' := [(0, .ref (ad 0)), (1, .int x1), (2, .int x2), (3, .int x3), (4, .int x4), (5, .int x5), (6, .int x6), (7, .int 0)]) hl [1, 2, 3, 4, 5, 6, 7, 0] rfl
  refine lv_iconst (v := 0) C.1 C.2.1 dX12_trueSum_19 (by decide) ?_
  refine lv_istore (lv' := [(8, .int 0), (0, .ref (ad 0)), (1, .int x1), (2, .int x2), (3, .int x3), (4, .int x4), (5, .int x5), (6, .int x6), (7, .int 0)]) C.1 C.2.1 dX12_trueSum_20 hl (by decide) rfl (fun ls hl => ?_)
  replace hl := lv_sub (l' := [(0, .ref (ad 0)), (1, .int x1), (2, .int x2), (3, .int x3), (4, .int x4), (5, .int x5), (6, .int x6), (7, .int 0), (8, .int 0)]) hl [1, 2, 3, 4, 5, 6, 7, 8, 0] rfl
  exact wLX12_trueSum_0_22 C hK hJ  5000 _ _ _ _ _ _ h hP hS (lv_sub hl [0, 7, 8] rfl)
theorem metX12_trueSum_0 (l : Launch) (D : va_G) (cy : Nat → ClassId) (ad st : Nat → Nat) (hJ : JM ad st) (sz : Nat) (x1 : Int32) (x2 : Int32) (x3 : Int32) (x4 : Int32) (x5 : Int32) (x6 : Int32) {u : SX} {r : Int32} {u' : SX} (h : fX12_trueSum_0 x1 x2 x3 x4 x5 x6 u = some (r, u')) : Met l yX12_trueSum wsX12_trueSum rmX12_trueSum_0 (va_Pc [.ref (ad 0), .int x1, .int x2, .int x3, .int x4, .int x5, .int x6] (Px D [(cy 0, .int), (cy 1, .long), (cy 2, .boolean), (cy 3, .byte), (cy 4, .object "HissHorn$Text")] st (VM cy ad st) sz u)) (Qi D (VM cy ad st) (AM ad) sz r u') 0 0 (Ax (AM ad) sz) := by
  refine Met.ofW (cc := cX12_trueSum) (maxL := 9) (ret := (some .int)) (by decide) rfl ?_
  intro p e s m args below meth c s₁ B hml hv
  obtain ⟨rfl, hsz, hP, hK⟩ := hv
  subst hsz
  have C : Cx RX12 cX12_trueSum 9 (some .int) wsX12_trueSum p s m _ meth c := ⟨B.exec, B.bytes, hml, B.returns, findClass_of_methodNamed B.named, atoms_spec (ws := wsX12_trueSum) B.pre, B.notSynchronized⟩
  have hl := lv_entry ([.ref (ad 0), .int x1, .int x2, .int x3, .int x4, .int x5, .int x6]) (n := 9) (Nat.le_of_ble_eq_true rfl)
  rw [lg_entry_eq]
  exact wX12_trueSum_0 C hK hJ x1 x2 x3 x4 x5 x6 h hP va_S.rf hl

theorem zdX12_sum__0 : (and (and (and (and (and (zk cX12_sum_ 0 (.aload_n 0) 1) (zk cX12_sum_ 1 (.iconst 0) 1)) (and (zk cX12_sum_ 2 (.putfield 151) 3) (zk cX12_sum_ 5 (.iload_n 1) 1))) (and (and (zk cX12_sum_ 6 (.iconst 0) 1) (zk cX12_sum_ 7 (.bipush 120) 2)) (zk cX12_sum_ 9 (.invokestatic 155) 3))) (and (and (and (zk cX12_sum_ 12 (.ifCond .eq 33) 3) (zk cX12_sum_ 45 (.ldc_w 330) 3)) (zk cX12_sum_ 48 (.ireturn) 1)) (and (and (zk cX12_sum_ 15 (.iload_n 2) 1) (zk cX12_sum_ 16 (.iload_n 3) 1)) (zk cX12_sum_ 17 (.iload 4) 2)))) (and (and (and (and (zk cX12_sum_ 19 (.iload 5) 2) (zk cX12_sum_ 21 (.iload 6) 2)) (and (zk cX12_sum_ 23 (.invokestatic 278) 3) (zk cX12_sum_ 26 (.ifCond .eq 19) 3))) (and (and (zk cX12_sum_ 29 (.aload_n 0) 1) (zk cX12_sum_ 30 (.iload_n 1) 1)) (zk cX12_sum_ 31 (.iload_n 2) 1))) (and (and (and (zk cX12_sum_ 32 (.iload_n 3) 1) (zk cX12_sum_ 33 (.iload 4) 2)) (zk cX12_sum_ 35 (.iload 5) 2)) (and (and (zk cX12_sum_ 37 (.iload 6) 2) (zk cX12_sum_ 39 (.invokevirtual 326) 3)) (zk cX12_sum_ 42 (.goto 6) 3))))) = true := by decide +kernel
theorem dX12_sum__0 : decode cX12_sum_ 0 = .ok (.aload_n 0, 1) := zk_of (zk_l (zk_l (zk_l (zk_l (zk_l zdX12_sum__0)))))
theorem dX12_sum__1 : decode cX12_sum_ 1 = .ok (.iconst 0, 1) := zk_of (zk_r (zk_l (zk_l (zk_l (zk_l zdX12_sum__0)))))
theorem dX12_sum__2 : decode cX12_sum_ 2 = .ok (.putfield 151, 3) := zk_of (zk_l (zk_r (zk_l (zk_l (zk_l zdX12_sum__0)))))
theorem dX12_sum__5 : decode cX12_sum_ 5 = .ok (.iload_n 1, 1) := zk_of (zk_r (zk_r (zk_l (zk_l (zk_l zdX12_sum__0)))))
theorem dX12_sum__6 : decode cX12_sum_ 6 = .ok (.iconst 0, 1) := zk_of (zk_l (zk_l (zk_r (zk_l (zk_l zdX12_sum__0)))))
theorem dX12_sum__7 : decode cX12_sum_ 7 = .ok (.bipush 120, 2) := zk_of (zk_r (zk_l (zk_r (zk_l (zk_l zdX12_sum__0)))))
theorem dX12_sum__9 : decode cX12_sum_ 9 = .ok (.invokestatic 155, 3) := zk_of (zk_r (zk_r (zk_l (zk_l zdX12_sum__0))))
theorem dX12_sum__12 : decode cX12_sum_ 12 = .ok (.ifCond .eq 33, 3) := zk_of (zk_l (zk_l (zk_l (zk_r (zk_l zdX12_sum__0)))))
theorem dX12_sum__45 : decode cX12_sum_ 45 = .ok (.ldc_w 330, 3) := zk_of (zk_r (zk_l (zk_l (zk_r (zk_l zdX12_sum__0)))))
theorem dX12_sum__48 : decode cX12_sum_ 48 = .ok (.ireturn, 1) := zk_of (zk_r (zk_l (zk_r (zk_l zdX12_sum__0))))
theorem dX12_sum__15 : decode cX12_sum_ 15 = .ok (.iload_n 2, 1) := zk_of (zk_l (zk_l (zk_r (zk_r (zk_l zdX12_sum__0)))))
theorem dX12_sum__16 : decode cX12_sum_ 16 = .ok (.iload_n 3, 1) := zk_of (zk_r (zk_l (zk_r (zk_r (zk_l zdX12_sum__0)))))
theorem dX12_sum__17 : decode cX12_sum_ 17 = .ok (.iload 4, 2) := zk_of (zk_r (zk_r (zk_r (zk_l zdX12_sum__0))))
theorem dX12_sum__19 : decode cX12_sum_ 19 = .ok (.iload 5, 2) := zk_of (zk_l (zk_l (zk_l (zk_l (zk_r zdX12_sum__0)))))
theorem dX12_sum__21 : decode cX12_sum_ 21 = .ok (.iload 6, 2) := zk_of (zk_r (zk_l (zk_l (zk_l (zk_r zdX12_sum__0)))))
theorem dX12_sum__23 : decode cX12_sum_ 23 = .ok (.invokestatic 278, 3) := zk_of (zk_l (zk_r (zk_l (zk_l (zk_r zdX12_sum__0)))))
theorem dX12_sum__26 : decode cX12_sum_ 26 = .ok (.ifCond .eq 19, 3) := zk_of (zk_r (zk_r (zk_l (zk_l (zk_r zdX12_sum__0)))))
theorem dX12_sum__29 : decode cX12_sum_ 29 = .ok (.aload_n 0, 1) := zk_of (zk_l (zk_l (zk_r (zk_l (zk_r zdX12_sum__0)))))
theorem dX12_sum__30 : decode cX12_sum_ 30 = .ok (.iload_n 1, 1) := zk_of (zk_r (zk_l (zk_r (zk_l (zk_r zdX12_sum__0)))))
theorem dX12_sum__31 : decode cX12_sum_ 31 = .ok (.iload_n 2, 1) := zk_of (zk_r (zk_r (zk_l (zk_r zdX12_sum__0))))
theorem dX12_sum__32 : decode cX12_sum_ 32 = .ok (.iload_n 3, 1) := zk_of (zk_l (zk_l (zk_l (zk_r (zk_r zdX12_sum__0)))))
theorem dX12_sum__33 : decode cX12_sum_ 33 = .ok (.iload 4, 2) := zk_of (zk_r (zk_l (zk_l (zk_r (zk_r zdX12_sum__0)))))
theorem dX12_sum__35 : decode cX12_sum_ 35 = .ok (.iload 5, 2) := zk_of (zk_r (zk_l (zk_r (zk_r zdX12_sum__0))))
theorem dX12_sum__37 : decode cX12_sum_ 37 = .ok (.iload 6, 2) := zk_of (zk_l (zk_l (zk_r (zk_r (zk_r zdX12_sum__0)))))
theorem dX12_sum__39 : decode cX12_sum_ 39 = .ok (.invokevirtual 326, 3) := zk_of (zk_r (zk_l (zk_r (zk_r (zk_r zdX12_sum__0)))))
theorem dX12_sum__42 : decode cX12_sum_ 42 = .ok (.goto 6, 3) := zk_of (zk_r (zk_r (zk_r (zk_r zdX12_sum__0))))
set_option maxRecDepth 20000 in
theorem ggX12_sum__X12_isIn : GoodIn wsX12_sum_ wsX12_isIn := ggi (fun w h => List.mem_cons_of_mem _ (List.mem_append_left _ (List.mem_append_right _ (List.mem_append_left _ h)))) gs_X12_isIn
set_option maxRecDepth 20000 in
theorem gX12_sum__X12_isIn : GoodIn wsX12_sum_ (va_wsS RX12 155 yX12_isIn wsX12_isIn) := goodIn_app (goodIn_of _ (by decide +kernel)) ggX12_sum__X12_isIn
set_option maxRecDepth 20000 in
theorem ggX12_sum__X12_isAim : GoodIn wsX12_sum_ wsX12_isAim := ggi (fun w h => List.mem_cons_of_mem _ (List.mem_append_left _ (List.mem_append_right _ (List.mem_append_right _ (List.mem_append_left _ h))))) gs_X12_isAim
set_option maxRecDepth 20000 in
theorem gX12_sum__X12_isAim : GoodIn wsX12_sum_ (va_wsS RX12 278 yX12_isAim wsX12_isAim) := goodIn_app (goodIn_of _ (by decide +kernel)) ggX12_sum__X12_isAim
set_option maxRecDepth 20000 in
theorem ggX12_sum__X12_trueSum : GoodIn wsX12_sum_ wsX12_trueSum := ggi (fun w h => List.mem_cons_of_mem _ (List.mem_append_left _ (List.mem_append_right _ (List.mem_append_right _ (List.mem_append_right _ h))))) gs_X12_trueSum
set_option maxRecDepth 20000 in
theorem gX12_sum__X12_trueSum : GoodIn wsX12_sum_ (wsV RX12 326 RX12 yX12_trueSum wsX12_trueSum) := goodIn_app (goodIn_of _ (by decide +kernel)) ggX12_sum__X12_trueSum
/-- HissHornModel.sum(IIIIII)I of cell 0 -/
def rmX12_sum__0 : Room := { frames := 141, cells := 0, slots := 0, locals := 8509 }
theorem hX12_sum__0_X12 : ∀ w ∈ u_ws RX12 TX12 69, w ∈ wsX12_sum_ := fun w h => (List.mem_cons_of_mem _ (List.mem_append_right _ h))
theorem mX12_sum__0_1 : Cond.fieldLink RX12 151 "HissHornModel" "thrown" "I" ∈ wsX12_sum_ := (List.mem_cons_of_mem _ (List.mem_append_left _ (List.mem_append_left _ (List.mem_of_getElem? (i := 8) rfl))))
theorem mX12_sum__0_2 : Cond.constant RX12 330 (-100000000) ∈ wsX12_sum_ := (List.mem_cons_of_mem _ (List.mem_append_left _ (List.mem_append_left _ (List.mem_of_getElem? (i := 9) rfl))))
def fX12_sum__0 (x1 : Int32) (x2 : Int32) (x3 : Int32) (x4 : Int32) (x5 : Int32) (x6 : Int32) (u : SX) : Option (Int32 × SX) := (lt (sI u 0 0) fun u1 => ((fX12_isIn x1 0 120).bind fun r3 => (if r3 = 0 then (some ((-100000000), u1)) else ((fX12_isAim x2 x3 x4 x5 x6).bind fun r6 => (if r6 = 0 then (some ((-100000000), u1)) else ((fX12_trueSum_0 x1 x2 x3 x4 x5 x6 u1).bind fun q => match q with | (r9, u10) => (some (r9, u10))))))))
set_option maxHeartbeats 4000000 in
set_option maxRecDepth 100000 in
theorem wX12_sum__0 {p : Program} {l : Launch} {e : Env} {s : State} {m : MethodId} {args : Array Value} {below : List Frame} {meth : Method} {c : Code} {D : va_G} {cy : Nat → ClassId} {ad st : Nat → Nat} (C : Cx RX12 cX12_sum_ 7 (some .int) wsX12_sum_ p s m args meth c) (hK : Ky D [(cy 0, .int), (cy 1, .long), (cy 2, .boolean), (cy 3, .byte), (cy 4, .object "HissHorn$Text")] st s) (hJ : JM ad st) (x1 : Int32) (x2 : Int32) (x3 : Int32) (x4 : Int32) (x5 : Int32) (x6 : Int32) {u : SX} {r : Int32} {u' : SX} {H : Heap} {locs : List Loc} {ls : Array Slot} (h : fX12_sum__0 x1 x2 x3 x4 x5 x6 u = some (r, u')) (hP : va_P D vwCl (VM cy ad st u) H) (hS : va_S (Ax (AM ad) s.heap.size) s.heap H locs) (hl : lv_has ls 7 [(0, .ref (ad 0)), (1, .int x1), (2, .int x2), (3, .int x3), (4, .int x4), (5, .int x5), (6, .int x6)]) : W p l e rmX12_sum__0 s m args below meth c H locs 0 0 (MQ below (Qi D (VM cy ad st) (AM ad) s.heap.size r u') args s 0 0 (Ax (AM ad) s.heap.size)) (F0 m 0 ls []) := by
  unfold fX12_sum__0 at h
  refine lv_aload_n C.1 C.2.1 dX12_sum__0 rfl (lv_at hl 0 rfl) ?_
  refine lv_iconst (v := 0) C.1 C.2.1 dX12_sum__1 (by decide) ?_
  refine pM_0_thrown C hX12_sum__0_X12 hK hP hJ hS mX12_sum__0_1 dX12_sum__2 (fun H locs hP hS => ?_)
  obtain ⟨u1, hu2, h⟩ := lt_some h
  rw [← hu2] at hP
  refine lv_iload_n C.1 C.2.1 dX12_sum__5 rfl (lv_at hl 1 rfl) ?_
  refine lv_iconst (v := 0) C.1 C.2.1 dX12_sum__6 (by decide) ?_
  refine lv_bipush (v := 120) C.1 C.2.1 dX12_sum__7 (by decide) ?_
  obtain ⟨r3, hc5, h⟩ := bd_some h
  refine cs_i (As := [.int x1, .int 0, .int 120]) (rest := []) (AM_ge hJ) C hK hP hS (metX12_isIn l D cy st _ x1 0 120 hc5) (va_cwS 3 C.2.2.2.2.2.1 gX12_sum__X12_isIn rfl rfl rfl (by decide +kernel) ⟨(Nat.le_of_ble_eq_true rfl), (Nat.le_of_ble_eq_true rfl)⟩) rfl hl.1 rfl (Nat.le_of_ble_eq_true rfl) dX12_sum__9 ⟨Nat.zero_le _, Nat.zero_le _⟩ (fun H locs hP hS => ?_)
  refine lv_if_eq (tgt := 45) C.1 C.2.1 dX12_sum__12 (by decide) (fun c12 => ?_) (fun c12 => ?_)
  · rw [if_pos c12] at h
    refine lv_ldcw C.1 C.2.1 C.2.2.2.2.1 (C.2.2.2.2.2.1 _ mX12_sum__0_2) dX12_sum__45 ?_
    cases h
    exact rt_i C hP hS dX12_sum__48
  · rw [if_neg c12] at h
    refine lv_iload_n C.1 C.2.1 dX12_sum__15 rfl (lv_at hl 2 rfl) ?_
    refine lv_iload_n C.1 C.2.1 dX12_sum__16 rfl (lv_at hl 3 rfl) ?_
    refine lv_iload C.1 C.2.1 dX12_sum__17 (lv_at hl 4 rfl) ?_
    refine lv_iload C.1 C.2.1 dX12_sum__19 (lv_at hl 5 rfl) ?_
    refine lv_iload C.1 C.2.1 dX12_sum__21 (lv_at hl 6 rfl) ?_
    obtain ⟨r6, hc8, h⟩ := bd_some h
    refine cs_i (As := [.int x2, .int x3, .int x4, .int x5, .int x6]) (rest := []) (AM_ge hJ) C hK hP hS (metX12_isAim l D cy st _ x2 x3 x4 x5 x6 hc8) (va_cwS 5 C.2.2.2.2.2.1 gX12_sum__X12_isAim rfl rfl rfl (by decide +kernel) ⟨(Nat.le_of_ble_eq_true rfl), (Nat.le_of_ble_eq_true rfl)⟩) rfl hl.1 rfl (Nat.le_of_ble_eq_true rfl) dX12_sum__23 ⟨Nat.zero_le _, Nat.zero_le _⟩ (fun H locs hP hS => ?_)
    refine lv_if_eq (tgt := 45) C.1 C.2.1 dX12_sum__26 (by decide) (fun c26 => ?_) (fun c26 => ?_)
    · rw [if_pos c26] at h
      refine lv_ldcw C.1 C.2.1 C.2.2.2.2.1 (C.2.2.2.2.2.1 _ mX12_sum__0_2) dX12_sum__45 ?_
      cases h
      exact rt_i C hP hS dX12_sum__48
    · rw [if_neg c26] at h
      refine lv_aload_n C.1 C.2.1 dX12_sum__29 rfl (lv_at hl 0 rfl) ?_
      refine lv_iload_n C.1 C.2.1 dX12_sum__30 rfl (lv_at hl 1 rfl) ?_
      refine lv_iload_n C.1 C.2.1 dX12_sum__31 rfl (lv_at hl 2 rfl) ?_
      refine lv_iload_n C.1 C.2.1 dX12_sum__32 rfl (lv_at hl 3 rfl) ?_
      refine lv_iload C.1 C.2.1 dX12_sum__33 (lv_at hl 4 rfl) ?_
      refine lv_iload C.1 C.2.1 dX12_sum__35 (lv_at hl 5 rfl) ?_
      refine lv_iload C.1 C.2.1 dX12_sum__37 (lv_at hl 6 rfl) ?_
      obtain ⟨⟨r9, u10⟩, hc11, h⟩ := bd_some h
      try dsimp only at h
      refine cg_i (As := [.int x1, .int x2, .int x3, .int x4, .int x5, .int x6]) (rest := []) (AM_ge hJ) C hK hP hS (metX12_trueSum_0 l D cy ad st hJ _ x1 x2 x3 x4 x5 x6 hc11) (cwV 6 C.2.2.2.2.2.1 gX12_sum__X12_trueSum rfl rfl rfl (by decide +kernel) ⟨(Nat.le_of_ble_eq_true rfl), (Nat.le_of_ble_eq_true rfl)⟩) 0 12 rfl rfl rfl hl.1 rfl (Nat.le_of_ble_eq_true rfl) dX12_sum__39 ⟨Nat.zero_le _, Nat.zero_le _⟩ (fun H locs hP hS => ?_)
      refine lv_goto (tgt := 48) C.1 C.2.1 dX12_sum__42 (by decide) ?_
      cases h
      exact rt_i C hP hS dX12_sum__48
theorem metX12_sum__0 (l : Launch) (D : va_G) (cy : Nat → ClassId) (ad st : Nat → Nat) (hJ : JM ad st) (sz : Nat) (x1 : Int32) (x2 : Int32) (x3 : Int32) (x4 : Int32) (x5 : Int32) (x6 : Int32) {u : SX} {r : Int32} {u' : SX} (h : fX12_sum__0 x1 x2 x3 x4 x5 x6 u = some (r, u')) : Met l yX12_sum_ wsX12_sum_ rmX12_sum__0 (va_Pc [.ref (ad 0), .int x1, .int x2, .int x3, .int x4, .int x5, .int x6] (Px D [(cy 0, .int), (cy 1, .long), (cy 2, .boolean), (cy 3, .byte), (cy 4, .object "HissHorn$Text")] st (VM cy ad st) sz u)) (Qi D (VM cy ad st) (AM ad) sz r u') 0 0 (Ax (AM ad) sz) := by
  refine Met.ofW (cc := cX12_sum_) (maxL := 7) (ret := (some .int)) (by decide) rfl ?_
  intro p e s m args below meth c s₁ B hml hv
  obtain ⟨rfl, hsz, hP, hK⟩ := hv
  subst hsz
  have C : Cx RX12 cX12_sum_ 7 (some .int) wsX12_sum_ p s m _ meth c := ⟨B.exec, B.bytes, hml, B.returns, findClass_of_methodNamed B.named, atoms_spec (ws := wsX12_sum_) B.pre, B.notSynchronized⟩
  have hl := lv_entry ([.ref (ad 0), .int x1, .int x2, .int x3, .int x4, .int x5, .int x6]) (n := 7) (Nat.le_of_ble_eq_true rfl)
  rw [lg_entry_eq]
  exact wX12_sum__0 C hK hJ x1 x2 x3 x4 x5 x6 h hP va_S.rf hl

theorem zdX12_heard_0 : (and (and (and (and (and (zk cX12_heard 0 (.aload_n 0) 1) (zk cX12_heard 1 (.iconst 0) 1)) (and (zk cX12_heard 2 (.putfield 151) 3) (zk cX12_heard 5 (.iload_n 1) 1))) (and (and (zk cX12_heard 6 (.iload_n 2) 1) (zk cX12_heard 7 (.iload_n 3) 1)) (and (zk cX12_heard 8 (.iload 4) 2) (zk cX12_heard 10 (.iload 5) 2)))) (and (and (and (zk cX12_heard 12 (.invokestatic 278) 3) (zk cX12_heard 15 (.ifCond .eq 14) 3)) (and (zk cX12_heard 29 (.ldc_w 330) 3) (zk cX12_heard 32 (.ireturn) 1))) (and (and (zk cX12_heard 18 (.iload 6) 2) (zk cX12_heard 20 (.iconst 0) 1)) (and (zk cX12_heard 21 (.bipush 50) 2) (zk cX12_heard 23 (.invokestatic 155) 3))))) (and (and (and (and (zk cX12_heard 26 (.ifCond .ne 7) 3) (zk cX12_heard 33 (.lload 7) 2)) (and (zk cX12_heard 35 (.ldc2_w 331) 3) (zk cX12_heard 38 (.lmul) 1))) (and (and (zk cX12_heard 39 (.ldc2_w 333) 3) (zk cX12_heard 42 (.ladd) 1)) (and (zk cX12_heard 43 (.lstore 9) 2) (zk cX12_heard 45 (.aload_n 0) 1)))) (and (and (and (zk cX12_heard 46 (.aload_n 0) 1) (zk cX12_heard 47 (.getfield 159) 3)) (and (zk cX12_heard 50 (.iload_n 1) 1) (zk cX12_heard 51 (.iload_n 2) 1))) (and (and (zk cX12_heard 52 (.iload_n 3) 1) (zk cX12_heard 53 (.iload 4) 2)) (and (zk cX12_heard 55 (.iload 5) 2) (zk cX12_heard 57 (.invokevirtual 326) 3)))))) = true := by decide +kernel
theorem dX12_heard_0 : decode cX12_heard 0 = .ok (.aload_n 0, 1) := zk_of (zk_l (zk_l (zk_l (zk_l (zk_l zdX12_heard_0)))))
theorem dX12_heard_1 : decode cX12_heard 1 = .ok (.iconst 0, 1) := zk_of (zk_r (zk_l (zk_l (zk_l (zk_l zdX12_heard_0)))))
theorem dX12_heard_2 : decode cX12_heard 2 = .ok (.putfield 151, 3) := zk_of (zk_l (zk_r (zk_l (zk_l (zk_l zdX12_heard_0)))))
theorem dX12_heard_5 : decode cX12_heard 5 = .ok (.iload_n 1, 1) := zk_of (zk_r (zk_r (zk_l (zk_l (zk_l zdX12_heard_0)))))
theorem dX12_heard_6 : decode cX12_heard 6 = .ok (.iload_n 2, 1) := zk_of (zk_l (zk_l (zk_r (zk_l (zk_l zdX12_heard_0)))))
theorem dX12_heard_7 : decode cX12_heard 7 = .ok (.iload_n 3, 1) := zk_of (zk_r (zk_l (zk_r (zk_l (zk_l zdX12_heard_0)))))
theorem dX12_heard_8 : decode cX12_heard 8 = .ok (.iload 4, 2) := zk_of (zk_l (zk_r (zk_r (zk_l (zk_l zdX12_heard_0)))))
theorem dX12_heard_10 : decode cX12_heard 10 = .ok (.iload 5, 2) := zk_of (zk_r (zk_r (zk_r (zk_l (zk_l zdX12_heard_0)))))
theorem dX12_heard_12 : decode cX12_heard 12 = .ok (.invokestatic 278, 3) := zk_of (zk_l (zk_l (zk_l (zk_r (zk_l zdX12_heard_0)))))
theorem dX12_heard_15 : decode cX12_heard 15 = .ok (.ifCond .eq 14, 3) := zk_of (zk_r (zk_l (zk_l (zk_r (zk_l zdX12_heard_0)))))
theorem dX12_heard_29 : decode cX12_heard 29 = .ok (.ldc_w 330, 3) := zk_of (zk_l (zk_r (zk_l (zk_r (zk_l zdX12_heard_0)))))
theorem dX12_heard_32 : decode cX12_heard 32 = .ok (.ireturn, 1) := zk_of (zk_r (zk_r (zk_l (zk_r (zk_l zdX12_heard_0)))))
theorem dX12_heard_18 : decode cX12_heard 18 = .ok (.iload 6, 2) := zk_of (zk_l (zk_l (zk_r (zk_r (zk_l zdX12_heard_0)))))
theorem dX12_heard_20 : decode cX12_heard 20 = .ok (.iconst 0, 1) := zk_of (zk_r (zk_l (zk_r (zk_r (zk_l zdX12_heard_0)))))
theorem dX12_heard_21 : decode cX12_heard 21 = .ok (.bipush 50, 2) := zk_of (zk_l (zk_r (zk_r (zk_r (zk_l zdX12_heard_0)))))
theorem dX12_heard_23 : decode cX12_heard 23 = .ok (.invokestatic 155, 3) := zk_of (zk_r (zk_r (zk_r (zk_r (zk_l zdX12_heard_0)))))
theorem dX12_heard_26 : decode cX12_heard 26 = .ok (.ifCond .ne 7, 3) := zk_of (zk_l (zk_l (zk_l (zk_l (zk_r zdX12_heard_0)))))
theorem dX12_heard_33 : decode cX12_heard 33 = .ok (.lload 7, 2) := zk_of (zk_r (zk_l (zk_l (zk_l (zk_r zdX12_heard_0)))))
theorem dX12_heard_35 : decode cX12_heard 35 = .ok (.ldc2_w 331, 3) := zk_of (zk_l (zk_r (zk_l (zk_l (zk_r zdX12_heard_0)))))
theorem dX12_heard_38 : decode cX12_heard 38 = .ok (.lmul, 1) := zk_of (zk_r (zk_r (zk_l (zk_l (zk_r zdX12_heard_0)))))
theorem dX12_heard_39 : decode cX12_heard 39 = .ok (.ldc2_w 333, 3) := zk_of (zk_l (zk_l (zk_r (zk_l (zk_r zdX12_heard_0)))))
theorem dX12_heard_42 : decode cX12_heard 42 = .ok (.ladd, 1) := zk_of (zk_r (zk_l (zk_r (zk_l (zk_r zdX12_heard_0)))))
theorem dX12_heard_43 : decode cX12_heard 43 = .ok (.lstore 9, 2) := zk_of (zk_l (zk_r (zk_r (zk_l (zk_r zdX12_heard_0)))))
theorem dX12_heard_45 : decode cX12_heard 45 = .ok (.aload_n 0, 1) := zk_of (zk_r (zk_r (zk_r (zk_l (zk_r zdX12_heard_0)))))
theorem dX12_heard_46 : decode cX12_heard 46 = .ok (.aload_n 0, 1) := zk_of (zk_l (zk_l (zk_l (zk_r (zk_r zdX12_heard_0)))))
theorem dX12_heard_47 : decode cX12_heard 47 = .ok (.getfield 159, 3) := zk_of (zk_r (zk_l (zk_l (zk_r (zk_r zdX12_heard_0)))))
theorem dX12_heard_50 : decode cX12_heard 50 = .ok (.iload_n 1, 1) := zk_of (zk_l (zk_r (zk_l (zk_r (zk_r zdX12_heard_0)))))
theorem dX12_heard_51 : decode cX12_heard 51 = .ok (.iload_n 2, 1) := zk_of (zk_r (zk_r (zk_l (zk_r (zk_r zdX12_heard_0)))))
theorem dX12_heard_52 : decode cX12_heard 52 = .ok (.iload_n 3, 1) := zk_of (zk_l (zk_l (zk_r (zk_r (zk_r zdX12_heard_0)))))
theorem dX12_heard_53 : decode cX12_heard 53 = .ok (.iload 4, 2) := zk_of (zk_r (zk_l (zk_r (zk_r (zk_r zdX12_heard_0)))))
theorem dX12_heard_55 : decode cX12_heard 55 = .ok (.iload 5, 2) := zk_of (zk_l (zk_r (zk_r (zk_r (zk_r zdX12_heard_0)))))
theorem dX12_heard_57 : decode cX12_heard 57 = .ok (.invokevirtual 326, 3) := zk_of (zk_r (zk_r (zk_r (zk_r (zk_r zdX12_heard_0)))))
set_option maxRecDepth 20000 in
theorem ggX12_heard_X12_isAim : GoodIn wsX12_heard wsX12_isAim := ggi (fun w h => List.mem_cons_of_mem _ (List.mem_append_left _ (List.mem_append_right _ (List.mem_append_left _ h)))) gs_X12_isAim
set_option maxRecDepth 20000 in
theorem gX12_heard_X12_isAim : GoodIn wsX12_heard (va_wsS RX12 278 yX12_isAim wsX12_isAim) := goodIn_app (goodIn_of _ (by decide +kernel)) ggX12_heard_X12_isAim
set_option maxRecDepth 20000 in
theorem ggX12_heard_X12_isIn : GoodIn wsX12_heard wsX12_isIn := ggi (fun w h => List.mem_cons_of_mem _ (List.mem_append_left _ (List.mem_append_right _ (List.mem_append_right _ (List.mem_append_left _ h))))) gs_X12_isIn
set_option maxRecDepth 20000 in
theorem gX12_heard_X12_isIn : GoodIn wsX12_heard (va_wsS RX12 155 yX12_isIn wsX12_isIn) := goodIn_app (goodIn_of _ (by decide +kernel)) ggX12_heard_X12_isIn
set_option maxRecDepth 20000 in
theorem ggX12_heard_X12_trueSum : GoodIn wsX12_heard wsX12_trueSum := ggi (fun w h => List.mem_cons_of_mem _ (List.mem_append_left _ (List.mem_append_right _ (List.mem_append_right _ (List.mem_append_right _ h))))) gs_X12_trueSum
set_option maxRecDepth 20000 in
theorem gX12_heard_X12_trueSum : GoodIn wsX12_heard (wsV RX12 326 RX12 yX12_trueSum wsX12_trueSum) := goodIn_app (goodIn_of _ (by decide +kernel)) ggX12_heard_X12_trueSum
theorem zdX12_heard_60 : (and (and (and (and (zk cX12_heard 60 (.lload 9) 2) (zk cX12_heard 62 (.bipush 33) 2)) (and (zk cX12_heard 64 (.lushr) 1) (zk cX12_heard 65 (.iconst 2) 1))) (and (and (zk cX12_heard 66 (.iload 6) 2) (zk cX12_heard 68 (.imul) 1)) (and (zk cX12_heard 69 (.iconst 1) 1) (zk cX12_heard 70 (.iadd) 1)))) (and (and (and (zk cX12_heard 71 (.i2l) 1) (zk cX12_heard 72 (.lrem) 1)) (and (zk cX12_heard 73 (.l2i) 1) (zk cX12_heard 74 (.iadd) 1))) (and (and (zk cX12_heard 75 (.iload 6) 2) (zk cX12_heard 77 (.isub) 1)) (zk cX12_heard 78 (.ireturn) 1)))) = true := by decide +kernel
theorem dX12_heard_60 : decode cX12_heard 60 = .ok (.lload 9, 2) := zk_of (zk_l (zk_l (zk_l (zk_l zdX12_heard_60))))
theorem dX12_heard_62 : decode cX12_heard 62 = .ok (.bipush 33, 2) := zk_of (zk_r (zk_l (zk_l (zk_l zdX12_heard_60))))
theorem dX12_heard_64 : decode cX12_heard 64 = .ok (.lushr, 1) := zk_of (zk_l (zk_r (zk_l (zk_l zdX12_heard_60))))
theorem dX12_heard_65 : decode cX12_heard 65 = .ok (.iconst 2, 1) := zk_of (zk_r (zk_r (zk_l (zk_l zdX12_heard_60))))
theorem dX12_heard_66 : decode cX12_heard 66 = .ok (.iload 6, 2) := zk_of (zk_l (zk_l (zk_r (zk_l zdX12_heard_60))))
theorem dX12_heard_68 : decode cX12_heard 68 = .ok (.imul, 1) := zk_of (zk_r (zk_l (zk_r (zk_l zdX12_heard_60))))
theorem dX12_heard_69 : decode cX12_heard 69 = .ok (.iconst 1, 1) := zk_of (zk_l (zk_r (zk_r (zk_l zdX12_heard_60))))
theorem dX12_heard_70 : decode cX12_heard 70 = .ok (.iadd, 1) := zk_of (zk_r (zk_r (zk_r (zk_l zdX12_heard_60))))
theorem dX12_heard_71 : decode cX12_heard 71 = .ok (.i2l, 1) := zk_of (zk_l (zk_l (zk_l (zk_r zdX12_heard_60))))
theorem dX12_heard_72 : decode cX12_heard 72 = .ok (.lrem, 1) := zk_of (zk_r (zk_l (zk_l (zk_r zdX12_heard_60))))
theorem dX12_heard_73 : decode cX12_heard 73 = .ok (.l2i, 1) := zk_of (zk_l (zk_r (zk_l (zk_r zdX12_heard_60))))
theorem dX12_heard_74 : decode cX12_heard 74 = .ok (.iadd, 1) := zk_of (zk_r (zk_r (zk_l (zk_r zdX12_heard_60))))
theorem dX12_heard_75 : decode cX12_heard 75 = .ok (.iload 6, 2) := zk_of (zk_l (zk_l (zk_r (zk_r zdX12_heard_60))))
theorem dX12_heard_77 : decode cX12_heard 77 = .ok (.isub, 1) := zk_of (zk_r (zk_l (zk_r (zk_r zdX12_heard_60))))
theorem dX12_heard_78 : decode cX12_heard 78 = .ok (.ireturn, 1) := zk_of (zk_r (zk_r (zk_r zdX12_heard_60)))
/-- HissHornModel.heard(IIIIIIJ)I of cell 0 -/
def rmX12_heard_0 : Room := { frames := 141, cells := 0, slots := 0, locals := 8509 }
theorem hX12_heard_0_X12 : ∀ w ∈ u_ws RX12 TX12 69, w ∈ wsX12_heard := fun w h => (List.mem_cons_of_mem _ (List.mem_append_right _ h))
theorem mX12_heard_0_1 : Cond.fieldLink RX12 151 "HissHornModel" "thrown" "I" ∈ wsX12_heard := (List.mem_cons_of_mem _ (List.mem_append_left _ (List.mem_append_left _ (List.mem_of_getElem? (i := 8) rfl))))
theorem mX12_heard_0_2 : Cond.constant RX12 330 (-100000000) ∈ wsX12_heard := (List.mem_cons_of_mem _ (List.mem_append_left _ (List.mem_append_left _ (List.mem_of_getElem? (i := 9) rfl))))
theorem mX12_heard_0_3 : Cond.constantLong RX12 331 (6364136223846793005) ∈ wsX12_heard := (List.mem_cons_of_mem _ (List.mem_append_left _ (List.mem_append_left _ (List.mem_of_getElem? (i := 10) rfl))))
theorem mX12_heard_0_4 : Cond.constantLong RX12 333 (1442695040888963407) ∈ wsX12_heard := (List.mem_cons_of_mem _ (List.mem_append_left _ (List.mem_append_left _ (List.mem_of_getElem? (i := 11) rfl))))
theorem mX12_heard_0_5 : Cond.fieldLink RX12 159 "HissHornModel" "now" "I" ∈ wsX12_heard := (List.mem_cons_of_mem _ (List.mem_append_left _ (List.mem_append_left _ (List.mem_of_getElem? (i := 12) rfl))))
def fX12_heard_0 (x1 : Int32) (x2 : Int32) (x3 : Int32) (x4 : Int32) (x5 : Int32) (x6 : Int32) (x7 : Int64) (u : SX) : Option (Int32 × SX) := (lt (sI u 0 0) fun u1 => ((fX12_isAim x1 x2 x3 x4 x5).bind fun r3 => (if r3 = 0 then (some ((-100000000), u1)) else ((fX12_isIn x6 0 50).bind fun r6 => (if r6 = 0 then (some ((-100000000), u1)) else (lt ((x7 * 6364136223846793005) + 1442695040888963407) fun v9 => ((fX12_trueSum_0 (u1.1 1) x1 x2 x3 x4 x5 u1).bind fun q => match q with | (r11, u12) => (gd (nzL (((2 * x6) + 1).toInt64)) (some ((r11 + ((((v9.toUInt64 >>> ((33 : Int32).toInt64.toUInt64 &&& Int64.toUInt64 63)).toInt64) - ((v9.toUInt64 >>> ((33 : Int32).toInt64.toUInt64 &&& Int64.toUInt64 63)).toInt64) / (((2 * x6) + 1).toInt64) * (((2 * x6) + 1).toInt64)).toInt32)) - x6, u12))))))))))
set_option maxHeartbeats 4000000 in
set_option maxRecDepth 100000 in
theorem wX12_heard_0 {p : Program} {l : Launch} {e : Env} {s : State} {m : MethodId} {args : Array Value} {below : List Frame} {meth : Method} {c : Code} {D : va_G} {cy : Nat → ClassId} {ad st : Nat → Nat} (C : Cx RX12 cX12_heard 11 (some .int) wsX12_heard p s m args meth c) (hK : Ky D [(cy 0, .int), (cy 1, .long), (cy 2, .boolean), (cy 3, .byte), (cy 4, .object "HissHorn$Text")] st s) (hJ : JM ad st) (x1 : Int32) (x2 : Int32) (x3 : Int32) (x4 : Int32) (x5 : Int32) (x6 : Int32) (x7 : Int64) {u : SX} {r : Int32} {u' : SX} {H : Heap} {locs : List Loc} {ls : Array Slot} (h : fX12_heard_0 x1 x2 x3 x4 x5 x6 x7 u = some (r, u')) (hP : va_P D vwCl (VM cy ad st u) H) (hS : va_S (Ax (AM ad) s.heap.size) s.heap H locs) (hl : lv_has ls 11 [(0, .ref (ad 0)), (1, .int x1), (2, .int x2), (3, .int x3), (4, .int x4), (5, .int x5), (6, .int x6), (7, .long x7)]) : W p l e rmX12_heard_0 s m args below meth c H locs 0 0 (MQ below (Qi D (VM cy ad st) (AM ad) s.heap.size r u') args s 0 0 (Ax (AM ad) s.heap.size)) (F0 m 0 ls []) := by
  unfold fX12_heard_0 at h
  refine lv_aload_n C.1 C.2.1 dX12_heard_0 rfl (lv_at hl 0 rfl) ?_
  refine lv_iconst (v := 0) C.1 C.2.1 dX12_heard_1 (by decide) ?_
  refine pM_0_thrown C hX12_heard_0_X12 hK hP hJ hS mX12_heard_0_1 dX12_heard_2 (fun H locs hP hS => ?_)
  obtain ⟨u1, hu2, h⟩ := lt_some h
  rw [← hu2] at hP
  refine lv_iload_n C.1 C.2.1 dX12_heard_5 rfl (lv_at hl 1 rfl) ?_
  refine lv_iload_n C.1 C.2.1 dX12_heard_6 rfl (lv_at hl 2 rfl) ?_
  refine lv_iload_n C.1 C.2.1 dX12_heard_7 rfl (lv_at hl 3 rfl) ?_
  refine lv_iload C.1 C.2.1 dX12_heard_8 (lv_at hl 4 rfl) ?_
  refine lv_iload C.1 C.2.1 dX12_heard_10 (lv_at hl 5 rfl) ?_
  obtain ⟨r3, hc5, h⟩ := bd_some h
  refine cs_i (As := [.int x1, .int x2, .int x3, .int x4, .int x5]) (rest := []) (AM_ge hJ) C hK hP hS (metX12_isAim l D cy st _ x1 x2 x3 x4 x5 hc5) (va_cwS 5 C.2.2.2.2.2.1 gX12_heard_X12_isAim rfl rfl rfl (by decide +kernel) ⟨(Nat.le_of_ble_eq_true rfl), (Nat.le_of_ble_eq_true rfl)⟩) rfl hl.1 rfl (Nat.le_of_ble_eq_true rfl) dX12_heard_12 ⟨Nat.zero_le _, Nat.zero_le _⟩ (fun H locs hP hS => ?_)
  refine lv_if_eq (tgt := 29) C.1 C.2.1 dX12_heard_15 (by decide) (fun c15 => ?_) (fun c15 => ?_)
  · rw [if_pos c15] at h
    refine lv_ldcw C.1 C.2.1 C.2.2.2.2.1 (C.2.2.2.2.2.1 _ mX12_heard_0_2) dX12_heard_29 ?_
    cases h
    exact rt_i C hP hS dX12_heard_32
  · rw [if_neg c15] at h
    refine lv_iload C.1 C.2.1 dX12_heard_18 (lv_at hl 6 rfl) ?_
    refine lv_iconst (v := 0) C.1 C.2.1 dX12_heard_20 (by decide) ?_
    refine lv_bipush (v := 50) C.1 C.2.1 dX12_heard_21 (by decide) ?_
    obtain ⟨r6, hc8, h⟩ := bd_some h
    refine cs_i (As := [.int x6, .int 0, .int 50]) (rest := []) (AM_ge hJ) C hK hP hS (metX12_isIn l D cy st _ x6 0 50 hc8) (va_cwS 3 C.2.2.2.2.2.1 gX12_heard_X12_isIn rfl rfl rfl (by decide +kernel) ⟨(Nat.le_of_ble_eq_true rfl), (Nat.le_of_ble_eq_true rfl)⟩) rfl hl.1 rfl (Nat.le_of_ble_eq_true rfl) dX12_heard_23 ⟨Nat.zero_le _, Nat.zero_le _⟩ (fun H locs hP hS => ?_)
    refine lv_if_ne (tgt := 33) C.1 C.2.1 dX12_heard_26 (by decide) (fun c26 => ?_) (fun c26 => ?_)
    · rw [if_neg c26] at h
      refine lv_lload C.1 C.2.1 dX12_heard_33 (lv_at hl 7 rfl) ?_
      refine lv_ldc2 C.1 C.2.1 C.2.2.2.2.1 (C.2.2.2.2.2.1 _ mX12_heard_0_3) dX12_heard_35 ?_
      refine lv_lmul C.1 C.2.1 dX12_heard_38 ?_
      refine lv_ldc2 C.1 C.2.1 C.2.2.2.2.1 (C.2.2.2.2.2.1 _ mX12_heard_0_4) dX12_heard_39 ?_
      refine lv_ladd C.1 C.2.1 dX12_heard_42 ?_
      refine lv_topl (fun v9 hv10 => ?_)
      replace h := lt_e hv10 h
      try dsimp only at h
      refine lv_lstore (lv' := [(9, .long v9), (0, .ref (ad 0)), (1, .int x1), (2, .int x2), (3, .int x3), (4, .int x4), (5, .int x5), (6, .int x6), (7, .long x7)]) C.1 C.2.1 dX12_heard_43 hl (by decide) rfl (fun ls hl => ?_)
      replace hl := lv_sub (l' := [(0, .ref (ad 0)), (1, .int x1), (2, .int x2), (3, .int x3), (4, .int x4), (5, .int x5), (6, .int x6), (7, .long x7), (9, .long v9)]) hl [1, 2, 3, 4, 5, 6, 7, 8, 0] rfl
      refine lv_aload_n C.1 C.2.1 dX12_heard_45 rfl (lv_at hl 0 rfl) ?_
      refine lv_aload_n C.1 C.2.1 dX12_heard_46 rfl (lv_at hl 0 rfl) ?_
      refine gM_0_now C hX12_heard_0_X12 hK hP mX12_heard_0_5 dX12_heard_47 ?_
      refine lv_iload_n C.1 C.2.1 dX12_heard_50 rfl (lv_at hl 1 rfl) ?_
      refine lv_iload_n C.1 C.2.1 dX12_heard_51 rfl (lv_at hl 2 rfl) ?_
      refine lv_iload_n C.1 C.2.1 dX12_heard_52 rfl (lv_at hl 3 rfl) ?_
      refine lv_iload C.1 C.2.1 dX12_heard_53 (lv_at hl 4 rfl) ?_
      refine lv_iload C.1 C.2.1 dX12_heard_55 (lv_at hl 5 rfl) ?_
      obtain ⟨⟨r11, u12⟩, hc13, h⟩ := bd_some h
      try dsimp only at h
      refine cg_i (As := [.int (u1.1 1), .int x1, .int x2, .int x3, .int x4, .int x5]) (rest := []) (AM_ge hJ) C hK hP hS (metX12_trueSum_0 l D cy ad st hJ _ (u1.1 1) x1 x2 x3 x4 x5 hc13) (cwV 6 C.2.2.2.2.2.1 gX12_heard_X12_trueSum rfl rfl rfl (by decide +kernel) ⟨(Nat.le_of_ble_eq_true rfl), (Nat.le_of_ble_eq_true rfl)⟩) 0 12 rfl rfl rfl hl.1 rfl (Nat.le_of_ble_eq_true rfl) dX12_heard_57 ⟨Nat.zero_le _, Nat.zero_le _⟩ (fun H locs hP hS => ?_)
      refine lv_lload C.1 C.2.1 dX12_heard_60 (lv_at hl 8 rfl) ?_
      refine lv_bipush (v := 33) C.1 C.2.1 dX12_heard_62 (by decide) ?_
      refine lv_lushr (v := (v9.toUInt64 >>> ((33 : Int32).toInt64.toUInt64 &&& Int64.toUInt64 63)).toInt64) C.1 C.2.1 dX12_heard_64 rfl ?_
      refine lv_iconst (v := 2) C.1 C.2.1 dX12_heard_65 (by decide) ?_
      refine lv_iload C.1 C.2.1 dX12_heard_66 (lv_at hl 6 rfl) ?_
      refine lv_imul C.1 C.2.1 dX12_heard_68 ?_
      refine lv_iconst (v := 1) C.1 C.2.1 dX12_heard_69 (by decide) ?_
      refine lv_iadd C.1 C.2.1 dX12_heard_70 ?_
      refine lv_i2l (v := ((2 * x6) + 1).toInt64) C.1 C.2.1 dX12_heard_71 rfl ?_
      obtain ⟨hg14, h⟩ := gd_some h
      refine lv_lrem C.1 C.2.1 dX12_heard_72 (nzL_n hg14) ?_
      refine lv_l2i (v := (((v9.toUInt64 >>> ((33 : Int32).toInt64.toUInt64 &&& Int64.toUInt64 63)).toInt64) - ((v9.toUInt64 >>> ((33 : Int32).toInt64.toUInt64 &&& Int64.toUInt64 63)).toInt64) / (((2 * x6) + 1).toInt64) * (((2 * x6) + 1).toInt64)).toInt32) C.1 C.2.1 dX12_heard_73 rfl ?_
      refine lv_iadd C.1 C.2.1 dX12_heard_74 ?_
      refine lv_iload C.1 C.2.1 dX12_heard_75 (lv_at hl 6 rfl) ?_
      refine lv_isub C.1 C.2.1 dX12_heard_77 ?_
      cases h
      exact rt_i C hP hS dX12_heard_78
    · rw [if_pos c26] at h
      refine lv_ldcw C.1 C.2.1 C.2.2.2.2.1 (C.2.2.2.2.2.1 _ mX12_heard_0_2) dX12_heard_29 ?_
      cases h
      exact rt_i C hP hS dX12_heard_32
theorem metX12_heard_0 (l : Launch) (D : va_G) (cy : Nat → ClassId) (ad st : Nat → Nat) (hJ : JM ad st) (sz : Nat) (x1 : Int32) (x2 : Int32) (x3 : Int32) (x4 : Int32) (x5 : Int32) (x6 : Int32) (x7 : Int64) {u : SX} {r : Int32} {u' : SX} (h : fX12_heard_0 x1 x2 x3 x4 x5 x6 x7 u = some (r, u')) : Met l yX12_heard wsX12_heard rmX12_heard_0 (va_Pc [.ref (ad 0), .int x1, .int x2, .int x3, .int x4, .int x5, .int x6, .long x7] (Px D [(cy 0, .int), (cy 1, .long), (cy 2, .boolean), (cy 3, .byte), (cy 4, .object "HissHorn$Text")] st (VM cy ad st) sz u)) (Qi D (VM cy ad st) (AM ad) sz r u') 0 0 (Ax (AM ad) sz) := by
  refine Met.ofW (cc := cX12_heard) (maxL := 11) (ret := (some .int)) (by decide) rfl ?_
  intro p e s m args below meth c s₁ B hml hv
  obtain ⟨rfl, hsz, hP, hK⟩ := hv
  subst hsz
  have C : Cx RX12 cX12_heard 11 (some .int) wsX12_heard p s m _ meth c := ⟨B.exec, B.bytes, hml, B.returns, findClass_of_methodNamed B.named, atoms_spec (ws := wsX12_heard) B.pre, B.notSynchronized⟩
  have hl := lv_entry ([.ref (ad 0), .int x1, .int x2, .int x3, .int x4, .int x5, .int x6, .long x7]) (n := 11) (Nat.le_of_ble_eq_true rfl)
  rw [lg_entry_eq]
  exact wX12_heard_0 C hK hJ x1 x2 x3 x4 x5 x6 x7 h hP va_S.rf hl

theorem zdX12_isReading_0 : (and (and (and (and (zk cX12_isReading 0 (.iload_n 1) 1) (zk cX12_isReading 1 (.ifCond .lt 15) 3)) (zk cX12_isReading 16 (.iconst 0) 1)) (and (zk cX12_isReading 17 (.ireturn) 1) (zk cX12_isReading 4 (.iload_n 1) 1))) (and (and (and (zk cX12_isReading 5 (.aload_n 0) 1) (zk cX12_isReading 6 (.getfield 335) 3)) (zk cX12_isReading 9 (.if_icmp .ge 7) 3)) (and (zk cX12_isReading 12 (.iconst 1) 1) (zk cX12_isReading 13 (.goto 4) 3)))) = true := by decide +kernel
theorem dX12_isReading_0 : decode cX12_isReading 0 = .ok (.iload_n 1, 1) := zk_of (zk_l (zk_l (zk_l (zk_l zdX12_isReading_0))))
theorem dX12_isReading_1 : decode cX12_isReading 1 = .ok (.ifCond .lt 15, 3) := zk_of (zk_r (zk_l (zk_l (zk_l zdX12_isReading_0))))
theorem dX12_isReading_16 : decode cX12_isReading 16 = .ok (.iconst 0, 1) := zk_of (zk_r (zk_l (zk_l zdX12_isReading_0)))
theorem dX12_isReading_17 : decode cX12_isReading 17 = .ok (.ireturn, 1) := zk_of (zk_l (zk_r (zk_l zdX12_isReading_0)))
theorem dX12_isReading_4 : decode cX12_isReading 4 = .ok (.iload_n 1, 1) := zk_of (zk_r (zk_r (zk_l zdX12_isReading_0)))
theorem dX12_isReading_5 : decode cX12_isReading 5 = .ok (.aload_n 0, 1) := zk_of (zk_l (zk_l (zk_l (zk_r zdX12_isReading_0))))
theorem dX12_isReading_6 : decode cX12_isReading 6 = .ok (.getfield 335, 3) := zk_of (zk_r (zk_l (zk_l (zk_r zdX12_isReading_0))))
theorem dX12_isReading_9 : decode cX12_isReading 9 = .ok (.if_icmp .ge 7, 3) := zk_of (zk_r (zk_l (zk_r zdX12_isReading_0)))
theorem dX12_isReading_12 : decode cX12_isReading 12 = .ok (.iconst 1, 1) := zk_of (zk_l (zk_r (zk_r zdX12_isReading_0)))
theorem dX12_isReading_13 : decode cX12_isReading 13 = .ok (.goto 4, 3) := zk_of (zk_r (zk_r (zk_r zdX12_isReading_0)))
/-- HissHornModel.isReading(I)Z of cell 0 -/
def rmX12_isReading_0 : Room := { frames := 0, cells := 0, slots := 0, locals := 0 }
theorem hX12_isReading_0_X12 : ∀ w ∈ u_ws RX12 TX12 69, w ∈ wsX12_isReading := fun w h => (List.mem_cons_of_mem _ (List.mem_append_right _ h))
theorem mX12_isReading_0_1 : Cond.fieldLink RX12 335 "HissHornModel" "readings" "I" ∈ wsX12_isReading := (List.mem_cons_of_mem _ (List.mem_append_left _ (List.mem_of_getElem? (i := 0) rfl)))
def fX12_isReading_0 (x1 : Int32) (u : SX) : Option (Int32 × SX) := (if x1 < 0 then (gd (isB 0) (some (0, u))) else (if (u.1 15) ≤ x1 then (gd (isB 0) (some (0, u))) else (gd (isB 1) (some (1, u)))))
set_option maxHeartbeats 4000000 in
set_option maxRecDepth 100000 in
theorem wX12_isReading_0 {p : Program} {l : Launch} {e : Env} {s : State} {m : MethodId} {args : Array Value} {below : List Frame} {meth : Method} {c : Code} {D : va_G} {cy : Nat → ClassId} {ad st : Nat → Nat} (C : Cx RX12 cX12_isReading 2 (some .boolean) wsX12_isReading p s m args meth c) (hK : Ky D [(cy 0, .int), (cy 1, .long), (cy 2, .boolean), (cy 3, .byte), (cy 4, .object "HissHorn$Text")] st s) (hJ : JM ad st) (x1 : Int32) {u : SX} {r : Int32} {u' : SX} {H : Heap} {locs : List Loc} {ls : Array Slot} (h : fX12_isReading_0 x1 u = some (r, u')) (hP : va_P D vwCl (VM cy ad st u) H) (hS : va_S (Ax (AM ad) s.heap.size) s.heap H locs) (hl : lv_has ls 2 [(0, .ref (ad 0)), (1, .int x1)]) : W p l e rmX12_isReading_0 s m args below meth c H locs 0 0 (MQ below (Qi D (VM cy ad st) (AM ad) s.heap.size r u') args s 0 0 (Ax (AM ad) s.heap.size)) (F0 m 0 ls []) := by
  unfold fX12_isReading_0 at h
  refine lv_iload_n C.1 C.2.1 dX12_isReading_0 rfl (lv_at hl 1 rfl) ?_
  refine lv_if_lt (tgt := 16) C.1 C.2.1 dX12_isReading_1 (by decide) (fun c1 => ?_) (fun c1 => ?_)
  · rw [if_pos c1] at h
    refine lv_iconst (v := 0) C.1 C.2.1 dX12_isReading_16 (by decide) ?_
    obtain ⟨hg1, h⟩ := gd_some h
    cases h
    exact rt_z hg1 C hP hS dX12_isReading_17
  · rw [if_neg c1] at h
    refine lv_iload_n C.1 C.2.1 dX12_isReading_4 rfl (lv_at hl 1 rfl) ?_
    refine lv_aload_n C.1 C.2.1 dX12_isReading_5 rfl (lv_at hl 0 rfl) ?_
    refine gM_0_readings C hX12_isReading_0_X12 hK hP mX12_isReading_0_1 dX12_isReading_6 ?_
    refine lv_icmp_ge (tgt := 16) C.1 C.2.1 dX12_isReading_9 (by decide) (fun c9 => ?_) (fun c9 => ?_)
    · rw [if_pos c9] at h
      refine lv_iconst (v := 0) C.1 C.2.1 dX12_isReading_16 (by decide) ?_
      obtain ⟨hg2, h⟩ := gd_some h
      cases h
      exact rt_z hg2 C hP hS dX12_isReading_17
    · rw [if_neg c9] at h
      refine lv_iconst (v := 1) C.1 C.2.1 dX12_isReading_12 (by decide) ?_
      refine lv_goto (tgt := 17) C.1 C.2.1 dX12_isReading_13 (by decide) ?_
      obtain ⟨hg3, h⟩ := gd_some h
      cases h
      exact rt_z hg3 C hP hS dX12_isReading_17
theorem metX12_isReading_0 (l : Launch) (D : va_G) (cy : Nat → ClassId) (ad st : Nat → Nat) (hJ : JM ad st) (sz : Nat) (x1 : Int32) {u : SX} {r : Int32} {u' : SX} (h : fX12_isReading_0 x1 u = some (r, u')) : Met l yX12_isReading wsX12_isReading rmX12_isReading_0 (va_Pc [.ref (ad 0), .int x1] (Px D [(cy 0, .int), (cy 1, .long), (cy 2, .boolean), (cy 3, .byte), (cy 4, .object "HissHorn$Text")] st (VM cy ad st) sz u)) (Qi D (VM cy ad st) (AM ad) sz r u') 0 0 (Ax (AM ad) sz) := by
  refine Met.ofW (cc := cX12_isReading) (maxL := 2) (ret := (some .boolean)) (by decide) rfl ?_
  intro p e s m args below meth c s₁ B hml hv
  obtain ⟨rfl, hsz, hP, hK⟩ := hv
  subst hsz
  have C : Cx RX12 cX12_isReading 2 (some .boolean) wsX12_isReading p s m _ meth c := ⟨B.exec, B.bytes, hml, B.returns, findClass_of_methodNamed B.named, atoms_spec (ws := wsX12_isReading) B.pre, B.notSynchronized⟩
  have hl := lv_entry ([.ref (ad 0), .int x1]) (n := 2) (Nat.le_of_ble_eq_true rfl)
  rw [lg_entry_eq]
  exact wX12_isReading_0 C hK hJ x1 h hP va_S.rf hl

theorem zdX12_read_0 : (and (and (and (and (and (zk cX12_read 0 (.aload_n 0) 1) (zk cX12_read 1 (.iconst 0) 1)) (and (zk cX12_read 2 (.putfield 151) 3) (zk cX12_read 5 (.aload_n 0) 1))) (and (and (zk cX12_read 6 (.getfield 335) 3) (zk cX12_read 9 (.bipush 80) 2)) (and (zk cX12_read 11 (.if_icmp .eq 30) 3) (zk cX12_read 41 (.iconst (-1)) 1)))) (and (and (and (zk cX12_read 42 (.ireturn) 1) (zk cX12_read 14 (.iload_n 1) 1)) (and (zk cX12_read 15 (.iload_n 2) 1) (zk cX12_read 16 (.iload_n 3) 1))) (and (and (zk cX12_read 17 (.iload 4) 2) (zk cX12_read 19 (.iload 5) 2)) (and (zk cX12_read 21 (.invokestatic 278) 3) (zk cX12_read 24 (.ifCond .eq 17) 3))))) (and (and (and (and (zk cX12_read 27 (.iload 6) 2) (zk cX12_read 29 (.ldc_w 338) 3)) (and (zk cX12_read 32 (.ldc_w 339) 3) (zk cX12_read 35 (.invokestatic 155) 3))) (and (and (zk cX12_read 38 (.ifCond .ne 5) 3) (zk cX12_read 43 (.aload_n 0) 1)) (and (zk cX12_read 44 (.getfield 74) 3) (zk cX12_read 47 (.iconst 5) 1)))) (and (and (and (zk cX12_read 48 (.aload_n 0) 1) (zk cX12_read 49 (.getfield 335) 3)) (and (zk cX12_read 52 (.imul) 1) (zk cX12_read 53 (.iload_n 1) 1))) (and (and (zk cX12_read 54 (.iastore) 1) (zk cX12_read 55 (.aload_n 0) 1)) (and (zk cX12_read 56 (.getfield 74) 3) (zk cX12_read 59 (.iconst 5) 1)))))) = true := by decide +kernel
theorem dX12_read_0 : decode cX12_read 0 = .ok (.aload_n 0, 1) := zk_of (zk_l (zk_l (zk_l (zk_l (zk_l zdX12_read_0)))))
theorem dX12_read_1 : decode cX12_read 1 = .ok (.iconst 0, 1) := zk_of (zk_r (zk_l (zk_l (zk_l (zk_l zdX12_read_0)))))
theorem dX12_read_2 : decode cX12_read 2 = .ok (.putfield 151, 3) := zk_of (zk_l (zk_r (zk_l (zk_l (zk_l zdX12_read_0)))))
theorem dX12_read_5 : decode cX12_read 5 = .ok (.aload_n 0, 1) := zk_of (zk_r (zk_r (zk_l (zk_l (zk_l zdX12_read_0)))))
theorem dX12_read_6 : decode cX12_read 6 = .ok (.getfield 335, 3) := zk_of (zk_l (zk_l (zk_r (zk_l (zk_l zdX12_read_0)))))
theorem dX12_read_9 : decode cX12_read 9 = .ok (.bipush 80, 2) := zk_of (zk_r (zk_l (zk_r (zk_l (zk_l zdX12_read_0)))))
theorem dX12_read_11 : decode cX12_read 11 = .ok (.if_icmp .eq 30, 3) := zk_of (zk_l (zk_r (zk_r (zk_l (zk_l zdX12_read_0)))))
theorem dX12_read_41 : decode cX12_read 41 = .ok (.iconst (-1), 1) := zk_of (zk_r (zk_r (zk_r (zk_l (zk_l zdX12_read_0)))))
theorem dX12_read_42 : decode cX12_read 42 = .ok (.ireturn, 1) := zk_of (zk_l (zk_l (zk_l (zk_r (zk_l zdX12_read_0)))))
theorem dX12_read_14 : decode cX12_read 14 = .ok (.iload_n 1, 1) := zk_of (zk_r (zk_l (zk_l (zk_r (zk_l zdX12_read_0)))))
theorem dX12_read_15 : decode cX12_read 15 = .ok (.iload_n 2, 1) := zk_of (zk_l (zk_r (zk_l (zk_r (zk_l zdX12_read_0)))))
theorem dX12_read_16 : decode cX12_read 16 = .ok (.iload_n 3, 1) := zk_of (zk_r (zk_r (zk_l (zk_r (zk_l zdX12_read_0)))))
theorem dX12_read_17 : decode cX12_read 17 = .ok (.iload 4, 2) := zk_of (zk_l (zk_l (zk_r (zk_r (zk_l zdX12_read_0)))))
theorem dX12_read_19 : decode cX12_read 19 = .ok (.iload 5, 2) := zk_of (zk_r (zk_l (zk_r (zk_r (zk_l zdX12_read_0)))))
theorem dX12_read_21 : decode cX12_read 21 = .ok (.invokestatic 278, 3) := zk_of (zk_l (zk_r (zk_r (zk_r (zk_l zdX12_read_0)))))
theorem dX12_read_24 : decode cX12_read 24 = .ok (.ifCond .eq 17, 3) := zk_of (zk_r (zk_r (zk_r (zk_r (zk_l zdX12_read_0)))))
theorem dX12_read_27 : decode cX12_read 27 = .ok (.iload 6, 2) := zk_of (zk_l (zk_l (zk_l (zk_l (zk_r zdX12_read_0)))))
theorem dX12_read_29 : decode cX12_read 29 = .ok (.ldc_w 338, 3) := zk_of (zk_r (zk_l (zk_l (zk_l (zk_r zdX12_read_0)))))
theorem dX12_read_32 : decode cX12_read 32 = .ok (.ldc_w 339, 3) := zk_of (zk_l (zk_r (zk_l (zk_l (zk_r zdX12_read_0)))))
theorem dX12_read_35 : decode cX12_read 35 = .ok (.invokestatic 155, 3) := zk_of (zk_r (zk_r (zk_l (zk_l (zk_r zdX12_read_0)))))
theorem dX12_read_38 : decode cX12_read 38 = .ok (.ifCond .ne 5, 3) := zk_of (zk_l (zk_l (zk_r (zk_l (zk_r zdX12_read_0)))))
theorem dX12_read_43 : decode cX12_read 43 = .ok (.aload_n 0, 1) := zk_of (zk_r (zk_l (zk_r (zk_l (zk_r zdX12_read_0)))))
theorem dX12_read_44 : decode cX12_read 44 = .ok (.getfield 74, 3) := zk_of (zk_l (zk_r (zk_r (zk_l (zk_r zdX12_read_0)))))
theorem dX12_read_47 : decode cX12_read 47 = .ok (.iconst 5, 1) := zk_of (zk_r (zk_r (zk_r (zk_l (zk_r zdX12_read_0)))))
theorem dX12_read_48 : decode cX12_read 48 = .ok (.aload_n 0, 1) := zk_of (zk_l (zk_l (zk_l (zk_r (zk_r zdX12_read_0)))))
theorem dX12_read_49 : decode cX12_read 49 = .ok (.getfield 335, 3) := zk_of (zk_r (zk_l (zk_l (zk_r (zk_r zdX12_read_0)))))
theorem dX12_read_52 : decode cX12_read 52 = .ok (.imul, 1) := zk_of (zk_l (zk_r (zk_l (zk_r (zk_r zdX12_read_0)))))
theorem dX12_read_53 : decode cX12_read 53 = .ok (.iload_n 1, 1) := zk_of (zk_r (zk_r (zk_l (zk_r (zk_r zdX12_read_0)))))
theorem dX12_read_54 : decode cX12_read 54 = .ok (.iastore, 1) := zk_of (zk_l (zk_l (zk_r (zk_r (zk_r zdX12_read_0)))))
theorem dX12_read_55 : decode cX12_read 55 = .ok (.aload_n 0, 1) := zk_of (zk_r (zk_l (zk_r (zk_r (zk_r zdX12_read_0)))))
theorem dX12_read_56 : decode cX12_read 56 = .ok (.getfield 74, 3) := zk_of (zk_l (zk_r (zk_r (zk_r (zk_r zdX12_read_0)))))
theorem dX12_read_59 : decode cX12_read 59 = .ok (.iconst 5, 1) := zk_of (zk_r (zk_r (zk_r (zk_r (zk_r zdX12_read_0)))))
set_option maxRecDepth 20000 in
theorem ggX12_read_X12_isAim : GoodIn wsX12_read wsX12_isAim := ggi (fun w h => List.mem_cons_of_mem _ (List.mem_append_left _ (List.mem_append_right _ (List.mem_append_left _ h)))) gs_X12_isAim
set_option maxRecDepth 20000 in
theorem gX12_read_X12_isAim : GoodIn wsX12_read (va_wsS RX12 278 yX12_isAim wsX12_isAim) := goodIn_app (goodIn_of _ (by decide +kernel)) ggX12_read_X12_isAim
set_option maxRecDepth 20000 in
theorem ggX12_read_X12_isIn : GoodIn wsX12_read wsX12_isIn := ggi (fun w h => List.mem_cons_of_mem _ (List.mem_append_left _ (List.mem_append_right _ (List.mem_append_right _ h)))) gs_X12_isIn
set_option maxRecDepth 20000 in
theorem gX12_read_X12_isIn : GoodIn wsX12_read (va_wsS RX12 155 yX12_isIn wsX12_isIn) := goodIn_app (goodIn_of _ (by decide +kernel)) ggX12_read_X12_isIn
theorem zdX12_read_60 : (and (and (and (and (and (zk cX12_read 60 (.aload_n 0) 1) (zk cX12_read 61 (.getfield 335) 3)) (and (zk cX12_read 64 (.imul) 1) (zk cX12_read 65 (.iconst 1) 1))) (and (and (zk cX12_read 66 (.iadd) 1) (zk cX12_read 67 (.iload_n 2) 1)) (and (zk cX12_read 68 (.iastore) 1) (zk cX12_read 69 (.aload_n 0) 1)))) (and (and (and (zk cX12_read 70 (.getfield 74) 3) (zk cX12_read 73 (.iconst 5) 1)) (and (zk cX12_read 74 (.aload_n 0) 1) (zk cX12_read 75 (.getfield 335) 3))) (and (and (zk cX12_read 78 (.imul) 1) (zk cX12_read 79 (.iconst 2) 1)) (and (zk cX12_read 80 (.iadd) 1) (zk cX12_read 81 (.iload_n 3) 1))))) (and (and (and (and (zk cX12_read 82 (.iastore) 1) (zk cX12_read 83 (.aload_n 0) 1)) (and (zk cX12_read 84 (.getfield 74) 3) (zk cX12_read 87 (.iconst 5) 1))) (and (and (zk cX12_read 88 (.aload_n 0) 1) (zk cX12_read 89 (.getfield 335) 3)) (and (zk cX12_read 92 (.imul) 1) (zk cX12_read 93 (.iconst 3) 1)))) (and (and (and (zk cX12_read 94 (.iadd) 1) (zk cX12_read 95 (.iload 4) 2)) (and (zk cX12_read 97 (.iastore) 1) (zk cX12_read 98 (.aload_n 0) 1))) (and (and (zk cX12_read 99 (.getfield 74) 3) (zk cX12_read 102 (.iconst 5) 1)) (and (zk cX12_read 103 (.aload_n 0) 1) (zk cX12_read 104 (.getfield 335) 3)))))) = true := by decide +kernel
theorem dX12_read_60 : decode cX12_read 60 = .ok (.aload_n 0, 1) := zk_of (zk_l (zk_l (zk_l (zk_l (zk_l zdX12_read_60)))))
theorem dX12_read_61 : decode cX12_read 61 = .ok (.getfield 335, 3) := zk_of (zk_r (zk_l (zk_l (zk_l (zk_l zdX12_read_60)))))
theorem dX12_read_64 : decode cX12_read 64 = .ok (.imul, 1) := zk_of (zk_l (zk_r (zk_l (zk_l (zk_l zdX12_read_60)))))
theorem dX12_read_65 : decode cX12_read 65 = .ok (.iconst 1, 1) := zk_of (zk_r (zk_r (zk_l (zk_l (zk_l zdX12_read_60)))))
theorem dX12_read_66 : decode cX12_read 66 = .ok (.iadd, 1) := zk_of (zk_l (zk_l (zk_r (zk_l (zk_l zdX12_read_60)))))
theorem dX12_read_67 : decode cX12_read 67 = .ok (.iload_n 2, 1) := zk_of (zk_r (zk_l (zk_r (zk_l (zk_l zdX12_read_60)))))
theorem dX12_read_68 : decode cX12_read 68 = .ok (.iastore, 1) := zk_of (zk_l (zk_r (zk_r (zk_l (zk_l zdX12_read_60)))))
theorem dX12_read_69 : decode cX12_read 69 = .ok (.aload_n 0, 1) := zk_of (zk_r (zk_r (zk_r (zk_l (zk_l zdX12_read_60)))))
theorem dX12_read_70 : decode cX12_read 70 = .ok (.getfield 74, 3) := zk_of (zk_l (zk_l (zk_l (zk_r (zk_l zdX12_read_60)))))
theorem dX12_read_73 : decode cX12_read 73 = .ok (.iconst 5, 1) := zk_of (zk_r (zk_l (zk_l (zk_r (zk_l zdX12_read_60)))))
theorem dX12_read_74 : decode cX12_read 74 = .ok (.aload_n 0, 1) := zk_of (zk_l (zk_r (zk_l (zk_r (zk_l zdX12_read_60)))))
theorem dX12_read_75 : decode cX12_read 75 = .ok (.getfield 335, 3) := zk_of (zk_r (zk_r (zk_l (zk_r (zk_l zdX12_read_60)))))
theorem dX12_read_78 : decode cX12_read 78 = .ok (.imul, 1) := zk_of (zk_l (zk_l (zk_r (zk_r (zk_l zdX12_read_60)))))
theorem dX12_read_79 : decode cX12_read 79 = .ok (.iconst 2, 1) := zk_of (zk_r (zk_l (zk_r (zk_r (zk_l zdX12_read_60)))))
theorem dX12_read_80 : decode cX12_read 80 = .ok (.iadd, 1) := zk_of (zk_l (zk_r (zk_r (zk_r (zk_l zdX12_read_60)))))
theorem dX12_read_81 : decode cX12_read 81 = .ok (.iload_n 3, 1) := zk_of (zk_r (zk_r (zk_r (zk_r (zk_l zdX12_read_60)))))
theorem dX12_read_82 : decode cX12_read 82 = .ok (.iastore, 1) := zk_of (zk_l (zk_l (zk_l (zk_l (zk_r zdX12_read_60)))))
theorem dX12_read_83 : decode cX12_read 83 = .ok (.aload_n 0, 1) := zk_of (zk_r (zk_l (zk_l (zk_l (zk_r zdX12_read_60)))))
theorem dX12_read_84 : decode cX12_read 84 = .ok (.getfield 74, 3) := zk_of (zk_l (zk_r (zk_l (zk_l (zk_r zdX12_read_60)))))
theorem dX12_read_87 : decode cX12_read 87 = .ok (.iconst 5, 1) := zk_of (zk_r (zk_r (zk_l (zk_l (zk_r zdX12_read_60)))))
theorem dX12_read_88 : decode cX12_read 88 = .ok (.aload_n 0, 1) := zk_of (zk_l (zk_l (zk_r (zk_l (zk_r zdX12_read_60)))))
theorem dX12_read_89 : decode cX12_read 89 = .ok (.getfield 335, 3) := zk_of (zk_r (zk_l (zk_r (zk_l (zk_r zdX12_read_60)))))
theorem dX12_read_92 : decode cX12_read 92 = .ok (.imul, 1) := zk_of (zk_l (zk_r (zk_r (zk_l (zk_r zdX12_read_60)))))
theorem dX12_read_93 : decode cX12_read 93 = .ok (.iconst 3, 1) := zk_of (zk_r (zk_r (zk_r (zk_l (zk_r zdX12_read_60)))))
theorem dX12_read_94 : decode cX12_read 94 = .ok (.iadd, 1) := zk_of (zk_l (zk_l (zk_l (zk_r (zk_r zdX12_read_60)))))
theorem dX12_read_95 : decode cX12_read 95 = .ok (.iload 4, 2) := zk_of (zk_r (zk_l (zk_l (zk_r (zk_r zdX12_read_60)))))
theorem dX12_read_97 : decode cX12_read 97 = .ok (.iastore, 1) := zk_of (zk_l (zk_r (zk_l (zk_r (zk_r zdX12_read_60)))))
theorem dX12_read_98 : decode cX12_read 98 = .ok (.aload_n 0, 1) := zk_of (zk_r (zk_r (zk_l (zk_r (zk_r zdX12_read_60)))))
theorem dX12_read_99 : decode cX12_read 99 = .ok (.getfield 74, 3) := zk_of (zk_l (zk_l (zk_r (zk_r (zk_r zdX12_read_60)))))
theorem dX12_read_102 : decode cX12_read 102 = .ok (.iconst 5, 1) := zk_of (zk_r (zk_l (zk_r (zk_r (zk_r zdX12_read_60)))))
theorem dX12_read_103 : decode cX12_read 103 = .ok (.aload_n 0, 1) := zk_of (zk_l (zk_r (zk_r (zk_r (zk_r zdX12_read_60)))))
theorem dX12_read_104 : decode cX12_read 104 = .ok (.getfield 335, 3) := zk_of (zk_r (zk_r (zk_r (zk_r (zk_r zdX12_read_60)))))
theorem zdX12_read_107 : (and (and (and (and (and (zk cX12_read 107 (.imul) 1) (zk cX12_read 108 (.iconst 4) 1)) (and (zk cX12_read 109 (.iadd) 1) (zk cX12_read 110 (.iload 5) 2))) (and (and (zk cX12_read 112 (.iastore) 1) (zk cX12_read 113 (.aload_n 0) 1)) (and (zk cX12_read 114 (.getfield 77) 3) (zk cX12_read 117 (.aload_n 0) 1)))) (and (and (and (zk cX12_read 118 (.getfield 335) 3) (zk cX12_read 121 (.iload 6) 2)) (and (zk cX12_read 123 (.iastore) 1) (zk cX12_read 124 (.aload_n 0) 1))) (and (and (zk cX12_read 125 (.getfield 80) 3) (zk cX12_read 128 (.aload_n 0) 1)) (zk cX12_read 129 (.getfield 335) 3)))) (and (and (and (and (zk cX12_read 132 (.aload_n 0) 1) (zk cX12_read 133 (.getfield 159) 3)) (and (zk cX12_read 136 (.iastore) 1) (zk cX12_read 137 (.aload_n 0) 1))) (and (and (zk cX12_read 138 (.dup) 1) (zk cX12_read 139 (.getfield 335) 3)) (zk cX12_read 142 (.iconst 1) 1))) (and (and (and (zk cX12_read 143 (.iadd) 1) (zk cX12_read 144 (.putfield 335) 3)) (and (zk cX12_read 147 (.aload_n 0) 1) (zk cX12_read 148 (.getfield 335) 3))) (and (and (zk cX12_read 151 (.iconst 1) 1) (zk cX12_read 152 (.isub) 1)) (zk cX12_read 153 (.ireturn) 1))))) = true := by decide +kernel
theorem dX12_read_107 : decode cX12_read 107 = .ok (.imul, 1) := zk_of (zk_l (zk_l (zk_l (zk_l (zk_l zdX12_read_107)))))
theorem dX12_read_108 : decode cX12_read 108 = .ok (.iconst 4, 1) := zk_of (zk_r (zk_l (zk_l (zk_l (zk_l zdX12_read_107)))))
theorem dX12_read_109 : decode cX12_read 109 = .ok (.iadd, 1) := zk_of (zk_l (zk_r (zk_l (zk_l (zk_l zdX12_read_107)))))
theorem dX12_read_110 : decode cX12_read 110 = .ok (.iload 5, 2) := zk_of (zk_r (zk_r (zk_l (zk_l (zk_l zdX12_read_107)))))
theorem dX12_read_112 : decode cX12_read 112 = .ok (.iastore, 1) := zk_of (zk_l (zk_l (zk_r (zk_l (zk_l zdX12_read_107)))))
theorem dX12_read_113 : decode cX12_read 113 = .ok (.aload_n 0, 1) := zk_of (zk_r (zk_l (zk_r (zk_l (zk_l zdX12_read_107)))))
theorem dX12_read_114 : decode cX12_read 114 = .ok (.getfield 77, 3) := zk_of (zk_l (zk_r (zk_r (zk_l (zk_l zdX12_read_107)))))
theorem dX12_read_117 : decode cX12_read 117 = .ok (.aload_n 0, 1) := zk_of (zk_r (zk_r (zk_r (zk_l (zk_l zdX12_read_107)))))
theorem dX12_read_118 : decode cX12_read 118 = .ok (.getfield 335, 3) := zk_of (zk_l (zk_l (zk_l (zk_r (zk_l zdX12_read_107)))))
theorem dX12_read_121 : decode cX12_read 121 = .ok (.iload 6, 2) := zk_of (zk_r (zk_l (zk_l (zk_r (zk_l zdX12_read_107)))))
theorem dX12_read_123 : decode cX12_read 123 = .ok (.iastore, 1) := zk_of (zk_l (zk_r (zk_l (zk_r (zk_l zdX12_read_107)))))
theorem dX12_read_124 : decode cX12_read 124 = .ok (.aload_n 0, 1) := zk_of (zk_r (zk_r (zk_l (zk_r (zk_l zdX12_read_107)))))
theorem dX12_read_125 : decode cX12_read 125 = .ok (.getfield 80, 3) := zk_of (zk_l (zk_l (zk_r (zk_r (zk_l zdX12_read_107)))))
theorem dX12_read_128 : decode cX12_read 128 = .ok (.aload_n 0, 1) := zk_of (zk_r (zk_l (zk_r (zk_r (zk_l zdX12_read_107)))))
theorem dX12_read_129 : decode cX12_read 129 = .ok (.getfield 335, 3) := zk_of (zk_r (zk_r (zk_r (zk_l zdX12_read_107))))
theorem dX12_read_132 : decode cX12_read 132 = .ok (.aload_n 0, 1) := zk_of (zk_l (zk_l (zk_l (zk_l (zk_r zdX12_read_107)))))
theorem dX12_read_133 : decode cX12_read 133 = .ok (.getfield 159, 3) := zk_of (zk_r (zk_l (zk_l (zk_l (zk_r zdX12_read_107)))))
theorem dX12_read_136 : decode cX12_read 136 = .ok (.iastore, 1) := zk_of (zk_l (zk_r (zk_l (zk_l (zk_r zdX12_read_107)))))
theorem dX12_read_137 : decode cX12_read 137 = .ok (.aload_n 0, 1) := zk_of (zk_r (zk_r (zk_l (zk_l (zk_r zdX12_read_107)))))
theorem dX12_read_138 : decode cX12_read 138 = .ok (.dup, 1) := zk_of (zk_l (zk_l (zk_r (zk_l (zk_r zdX12_read_107)))))
theorem dX12_read_139 : decode cX12_read 139 = .ok (.getfield 335, 3) := zk_of (zk_r (zk_l (zk_r (zk_l (zk_r zdX12_read_107)))))
theorem dX12_read_142 : decode cX12_read 142 = .ok (.iconst 1, 1) := zk_of (zk_r (zk_r (zk_l (zk_r zdX12_read_107))))
theorem dX12_read_143 : decode cX12_read 143 = .ok (.iadd, 1) := zk_of (zk_l (zk_l (zk_l (zk_r (zk_r zdX12_read_107)))))
theorem dX12_read_144 : decode cX12_read 144 = .ok (.putfield 335, 3) := zk_of (zk_r (zk_l (zk_l (zk_r (zk_r zdX12_read_107)))))
theorem dX12_read_147 : decode cX12_read 147 = .ok (.aload_n 0, 1) := zk_of (zk_l (zk_r (zk_l (zk_r (zk_r zdX12_read_107)))))
theorem dX12_read_148 : decode cX12_read 148 = .ok (.getfield 335, 3) := zk_of (zk_r (zk_r (zk_l (zk_r (zk_r zdX12_read_107)))))
theorem dX12_read_151 : decode cX12_read 151 = .ok (.iconst 1, 1) := zk_of (zk_l (zk_l (zk_r (zk_r (zk_r zdX12_read_107)))))
theorem dX12_read_152 : decode cX12_read 152 = .ok (.isub, 1) := zk_of (zk_r (zk_l (zk_r (zk_r (zk_r zdX12_read_107)))))
theorem dX12_read_153 : decode cX12_read 153 = .ok (.ireturn, 1) := zk_of (zk_r (zk_r (zk_r (zk_r zdX12_read_107))))
/-- HissHornModel.read(IIIIII)I of cell 0 -/
def rmX12_read_0 : Room := { frames := 2, cells := 0, slots := 0, locals := 46 }
theorem hX12_read_0_X12 : ∀ w ∈ u_ws RX12 TX12 69, w ∈ wsX12_read := fun w h => (List.mem_cons_of_mem _ (List.mem_append_right _ h))
theorem mX12_read_0_1 : Cond.fieldLink RX12 151 "HissHornModel" "thrown" "I" ∈ wsX12_read := (List.mem_cons_of_mem _ (List.mem_append_left _ (List.mem_append_left _ (List.mem_of_getElem? (i := 5) rfl))))
theorem mX12_read_0_2 : Cond.fieldLink RX12 335 "HissHornModel" "readings" "I" ∈ wsX12_read := (List.mem_cons_of_mem _ (List.mem_append_left _ (List.mem_append_left _ (List.mem_of_getElem? (i := 6) rfl))))
theorem mX12_read_0_3 : Cond.constant RX12 338 (-100000) ∈ wsX12_read := (List.mem_cons_of_mem _ (List.mem_append_left _ (List.mem_append_left _ (List.mem_of_getElem? (i := 7) rfl))))
theorem mX12_read_0_4 : Cond.constant RX12 339 (100000) ∈ wsX12_read := (List.mem_cons_of_mem _ (List.mem_append_left _ (List.mem_append_left _ (List.mem_of_getElem? (i := 8) rfl))))
theorem mX12_read_0_5 : Cond.fieldLink RX12 74 "HissHornModel" "aims" "[I" ∈ wsX12_read := (List.mem_cons_of_mem _ (List.mem_append_left _ (List.mem_append_left _ (List.mem_of_getElem? (i := 9) rfl))))
theorem mX12_read_0_6 : Cond.fieldLink RX12 77 "HissHornModel" "number" "[I" ∈ wsX12_read := (List.mem_cons_of_mem _ (List.mem_append_left _ (List.mem_append_left _ (List.mem_of_getElem? (i := 10) rfl))))
theorem mX12_read_0_7 : Cond.fieldLink RX12 80 "HissHornModel" "readDay" "[I" ∈ wsX12_read := (List.mem_cons_of_mem _ (List.mem_append_left _ (List.mem_append_left _ (List.mem_of_getElem? (i := 11) rfl))))
theorem mX12_read_0_8 : Cond.fieldLink RX12 159 "HissHornModel" "now" "I" ∈ wsX12_read := (List.mem_cons_of_mem _ (List.mem_append_left _ (List.mem_append_left _ (List.mem_of_getElem? (i := 12) rfl))))
def fX12_read_0 (x1 : Int32) (x2 : Int32) (x3 : Int32) (x4 : Int32) (x5 : Int32) (x6 : Int32) (u : SX) : Option (Int32 × SX) := (lt (sI u 0 0) fun u1 => (if (u1.1 15) = 80 then (some ((-1), u1)) else ((fX12_isAim x1 x2 x3 x4 x5).bind fun r3 => (if r3 = 0 then (some ((-1), u1)) else ((fX12_isIn x6 (-100000) 100000).bind fun r6 => (if r6 = 0 then (some ((-1), u1)) else (gd (inb (5 * (u1.1 15)) 400) (lt (sA u1 19 (upd (u1.2.1 19) (5 * (u1.1 15)).toNatClampNeg x1)) fun u10 => (gd (inb ((5 * (u10.1 15)) + 1) 400) (lt (sA u10 19 (upd (u10.2.1 19) ((5 * (u10.1 15)) + 1).toNatClampNeg x2)) fun u13 => (gd (inb ((5 * (u13.1 15)) + 2) 400) (lt (sA u13 19 (upd (u13.2.1 19) ((5 * (u13.1 15)) + 2).toNatClampNeg x3)) fun u16 => (gd (inb ((5 * (u16.1 15)) + 3) 400) (lt (sA u16 19 (upd (u16.2.1 19) ((5 * (u16.1 15)) + 3).toNatClampNeg x4)) fun u19 => (gd (inb ((5 * (u19.1 15)) + 4) 400) (lt (sA u19 19 (upd (u19.2.1 19) ((5 * (u19.1 15)) + 4).toNatClampNeg x5)) fun u22 => (gd (inb (u22.1 15) 80) (lt (sA u22 20 (upd (u22.2.1 20) (u22.1 15).toNatClampNeg x6)) fun u25 => (gd (inb (u25.1 15) 80) (lt (sA u25 21 (upd (u25.2.1 21) (u25.1 15).toNatClampNeg (u25.1 1))) fun u28 => (lt (sI u28 15 ((u28.1 15) + 1)) fun u30 => (some ((u30.1 15) - 1, u30)))))))))))))))))))))))
set_option maxHeartbeats 4000000 in
set_option maxRecDepth 100000 in
theorem wX12_read_0 {p : Program} {l : Launch} {e : Env} {s : State} {m : MethodId} {args : Array Value} {below : List Frame} {meth : Method} {c : Code} {D : va_G} {cy : Nat → ClassId} {ad st : Nat → Nat} (C : Cx RX12 cX12_read 7 (some .int) wsX12_read p s m args meth c) (hK : Ky D [(cy 0, .int), (cy 1, .long), (cy 2, .boolean), (cy 3, .byte), (cy 4, .object "HissHorn$Text")] st s) (hJ : JM ad st) (x1 : Int32) (x2 : Int32) (x3 : Int32) (x4 : Int32) (x5 : Int32) (x6 : Int32) {u : SX} {r : Int32} {u' : SX} {H : Heap} {locs : List Loc} {ls : Array Slot} (h : fX12_read_0 x1 x2 x3 x4 x5 x6 u = some (r, u')) (hP : va_P D vwCl (VM cy ad st u) H) (hS : va_S (Ax (AM ad) s.heap.size) s.heap H locs) (hl : lv_has ls 7 [(0, .ref (ad 0)), (1, .int x1), (2, .int x2), (3, .int x3), (4, .int x4), (5, .int x5), (6, .int x6)]) : W p l e rmX12_read_0 s m args below meth c H locs 0 0 (MQ below (Qi D (VM cy ad st) (AM ad) s.heap.size r u') args s 0 0 (Ax (AM ad) s.heap.size)) (F0 m 0 ls []) := by
  unfold fX12_read_0 at h
  refine lv_aload_n C.1 C.2.1 dX12_read_0 rfl (lv_at hl 0 rfl) ?_
  refine lv_iconst (v := 0) C.1 C.2.1 dX12_read_1 (by decide) ?_
  refine pM_0_thrown C hX12_read_0_X12 hK hP hJ hS mX12_read_0_1 dX12_read_2 (fun H locs hP hS => ?_)
  obtain ⟨u1, hu2, h⟩ := lt_some h
  rw [← hu2] at hP
  refine lv_aload_n C.1 C.2.1 dX12_read_5 rfl (lv_at hl 0 rfl) ?_
  refine gM_0_readings C hX12_read_0_X12 hK hP mX12_read_0_2 dX12_read_6 ?_
  refine lv_bipush (v := 80) C.1 C.2.1 dX12_read_9 (by decide) ?_
  refine lv_icmp_eq (tgt := 41) C.1 C.2.1 dX12_read_11 (by decide) (fun c11 => ?_) (fun c11 => ?_)
  · rw [if_pos c11] at h
    refine lv_iconst (v := (-1)) C.1 C.2.1 dX12_read_41 (by decide) ?_
    cases h
    exact rt_i C hP hS dX12_read_42
  · rw [if_neg c11] at h
    refine lv_iload_n C.1 C.2.1 dX12_read_14 rfl (lv_at hl 1 rfl) ?_
    refine lv_iload_n C.1 C.2.1 dX12_read_15 rfl (lv_at hl 2 rfl) ?_
    refine lv_iload_n C.1 C.2.1 dX12_read_16 rfl (lv_at hl 3 rfl) ?_
    refine lv_iload C.1 C.2.1 dX12_read_17 (lv_at hl 4 rfl) ?_
    refine lv_iload C.1 C.2.1 dX12_read_19 (lv_at hl 5 rfl) ?_
    obtain ⟨r3, hc5, h⟩ := bd_some h
    refine cs_i (As := [.int x1, .int x2, .int x3, .int x4, .int x5]) (rest := []) (AM_ge hJ) C hK hP hS (metX12_isAim l D cy st _ x1 x2 x3 x4 x5 hc5) (va_cwS 5 C.2.2.2.2.2.1 gX12_read_X12_isAim rfl rfl rfl (by decide +kernel) ⟨(Nat.le_of_ble_eq_true rfl), (Nat.le_of_ble_eq_true rfl)⟩) rfl hl.1 rfl (Nat.le_of_ble_eq_true rfl) dX12_read_21 ⟨Nat.zero_le _, Nat.zero_le _⟩ (fun H locs hP hS => ?_)
    refine lv_if_eq (tgt := 41) C.1 C.2.1 dX12_read_24 (by decide) (fun c24 => ?_) (fun c24 => ?_)
    · rw [if_pos c24] at h
      refine lv_iconst (v := (-1)) C.1 C.2.1 dX12_read_41 (by decide) ?_
      cases h
      exact rt_i C hP hS dX12_read_42
    · rw [if_neg c24] at h
      refine lv_iload C.1 C.2.1 dX12_read_27 (lv_at hl 6 rfl) ?_
      refine lv_ldcw C.1 C.2.1 C.2.2.2.2.1 (C.2.2.2.2.2.1 _ mX12_read_0_3) dX12_read_29 ?_
      refine lv_ldcw C.1 C.2.1 C.2.2.2.2.1 (C.2.2.2.2.2.1 _ mX12_read_0_4) dX12_read_32 ?_
      obtain ⟨r6, hc8, h⟩ := bd_some h
      refine cs_i (As := [.int x6, .int (-100000), .int 100000]) (rest := []) (AM_ge hJ) C hK hP hS (metX12_isIn l D cy st _ x6 (-100000) 100000 hc8) (va_cwS 3 C.2.2.2.2.2.1 gX12_read_X12_isIn rfl rfl rfl (by decide +kernel) ⟨(Nat.le_of_ble_eq_true rfl), (Nat.le_of_ble_eq_true rfl)⟩) rfl hl.1 rfl (Nat.le_of_ble_eq_true rfl) dX12_read_35 ⟨Nat.zero_le _, Nat.zero_le _⟩ (fun H locs hP hS => ?_)
      refine lv_if_ne (tgt := 43) C.1 C.2.1 dX12_read_38 (by decide) (fun c38 => ?_) (fun c38 => ?_)
      · rw [if_neg c38] at h
        refine lv_aload_n C.1 C.2.1 dX12_read_43 rfl (lv_at hl 0 rfl) ?_
        refine gM_0_aims C hX12_read_0_X12 hK hP mX12_read_0_5 dX12_read_44 ?_
        refine lv_iconst (v := 5) C.1 C.2.1 dX12_read_47 (by decide) ?_
        refine lv_aload_n C.1 C.2.1 dX12_read_48 rfl (lv_at hl 0 rfl) ?_
        refine gM_0_readings C hX12_read_0_X12 hK hP mX12_read_0_2 dX12_read_49 ?_
        refine lv_imul C.1 C.2.1 dX12_read_52 ?_
        refine lv_iload_n C.1 C.2.1 dX12_read_53 rfl (lv_at hl 1 rfl) ?_
        obtain ⟨hg9, h⟩ := gd_some h
        refine tM_19 C hK hP hJ hS hg9 dX12_read_54 (fun H locs hP hS => ?_)
        obtain ⟨u10, hu11, h⟩ := lt_some h
        rw [← hu11] at hP
        refine lv_aload_n C.1 C.2.1 dX12_read_55 rfl (lv_at hl 0 rfl) ?_
        refine gM_0_aims C hX12_read_0_X12 hK hP mX12_read_0_5 dX12_read_56 ?_
        refine lv_iconst (v := 5) C.1 C.2.1 dX12_read_59 (by decide) ?_
        refine lv_aload_n C.1 C.2.1 dX12_read_60 rfl (lv_at hl 0 rfl) ?_
        refine gM_0_readings C hX12_read_0_X12 hK hP mX12_read_0_2 dX12_read_61 ?_
        refine lv_imul C.1 C.2.1 dX12_read_64 ?_
        refine lv_iconst (v := 1) C.1 C.2.1 dX12_read_65 (by decide) ?_
        refine lv_iadd C.1 C.2.1 dX12_read_66 ?_
        refine lv_iload_n C.1 C.2.1 dX12_read_67 rfl (lv_at hl 2 rfl) ?_
        obtain ⟨hg12, h⟩ := gd_some h
        refine tM_19 C hK hP hJ hS hg12 dX12_read_68 (fun H locs hP hS => ?_)
        obtain ⟨u13, hu14, h⟩ := lt_some h
        rw [← hu14] at hP
        refine lv_aload_n C.1 C.2.1 dX12_read_69 rfl (lv_at hl 0 rfl) ?_
        refine gM_0_aims C hX12_read_0_X12 hK hP mX12_read_0_5 dX12_read_70 ?_
        refine lv_iconst (v := 5) C.1 C.2.1 dX12_read_73 (by decide) ?_
        refine lv_aload_n C.1 C.2.1 dX12_read_74 rfl (lv_at hl 0 rfl) ?_
        refine gM_0_readings C hX12_read_0_X12 hK hP mX12_read_0_2 dX12_read_75 ?_
        refine lv_imul C.1 C.2.1 dX12_read_78 ?_
        refine lv_iconst (v := 2) C.1 C.2.1 dX12_read_79 (by decide) ?_
        refine lv_iadd C.1 C.2.1 dX12_read_80 ?_
        refine lv_iload_n C.1 C.2.1 dX12_read_81 rfl (lv_at hl 3 rfl) ?_
        obtain ⟨hg15, h⟩ := gd_some h
        refine tM_19 C hK hP hJ hS hg15 dX12_read_82 (fun H locs hP hS => ?_)
        obtain ⟨u16, hu17, h⟩ := lt_some h
        rw [← hu17] at hP
        refine lv_aload_n C.1 C.2.1 dX12_read_83 rfl (lv_at hl 0 rfl) ?_
        refine gM_0_aims C hX12_read_0_X12 hK hP mX12_read_0_5 dX12_read_84 ?_
        refine lv_iconst (v := 5) C.1 C.2.1 dX12_read_87 (by decide) ?_
        refine lv_aload_n C.1 C.2.1 dX12_read_88 rfl (lv_at hl 0 rfl) ?_
        refine gM_0_readings C hX12_read_0_X12 hK hP mX12_read_0_2 dX12_read_89 ?_
        refine lv_imul C.1 C.2.1 dX12_read_92 ?_
        refine lv_iconst (v := 3) C.1 C.2.1 dX12_read_93 (by decide) ?_
        refine lv_iadd C.1 C.2.1 dX12_read_94 ?_
        refine lv_iload C.1 C.2.1 dX12_read_95 (lv_at hl 4 rfl) ?_
        obtain ⟨hg18, h⟩ := gd_some h
        refine tM_19 C hK hP hJ hS hg18 dX12_read_97 (fun H locs hP hS => ?_)
        obtain ⟨u19, hu20, h⟩ := lt_some h
        rw [← hu20] at hP
        refine lv_aload_n C.1 C.2.1 dX12_read_98 rfl (lv_at hl 0 rfl) ?_
        refine gM_0_aims C hX12_read_0_X12 hK hP mX12_read_0_5 dX12_read_99 ?_
        refine lv_iconst (v := 5) C.1 C.2.1 dX12_read_102 (by decide) ?_
        refine lv_aload_n C.1 C.2.1 dX12_read_103 rfl (lv_at hl 0 rfl) ?_
        refine gM_0_readings C hX12_read_0_X12 hK hP mX12_read_0_2 dX12_read_104 ?_
        refine lv_imul C.1 C.2.1 dX12_read_107 ?_
        refine lv_iconst (v := 4) C.1 C.2.1 dX12_read_108 (by decide) ?_
        refine lv_iadd C.1 C.2.1 dX12_read_109 ?_
        refine lv_iload C.1 C.2.1 dX12_read_110 (lv_at hl 5 rfl) ?_
        obtain ⟨hg21, h⟩ := gd_some h
        refine tM_19 C hK hP hJ hS hg21 dX12_read_112 (fun H locs hP hS => ?_)
        obtain ⟨u22, hu23, h⟩ := lt_some h
        rw [← hu23] at hP
        refine lv_aload_n C.1 C.2.1 dX12_read_113 rfl (lv_at hl 0 rfl) ?_
        refine gM_0_number C hX12_read_0_X12 hK hP mX12_read_0_6 dX12_read_114 ?_
        refine lv_aload_n C.1 C.2.1 dX12_read_117 rfl (lv_at hl 0 rfl) ?_
        refine gM_0_readings C hX12_read_0_X12 hK hP mX12_read_0_2 dX12_read_118 ?_
        refine lv_iload C.1 C.2.1 dX12_read_121 (lv_at hl 6 rfl) ?_
        obtain ⟨hg24, h⟩ := gd_some h
        refine tM_20 C hK hP hJ hS hg24 dX12_read_123 (fun H locs hP hS => ?_)
        obtain ⟨u25, hu26, h⟩ := lt_some h
        rw [← hu26] at hP
        refine lv_aload_n C.1 C.2.1 dX12_read_124 rfl (lv_at hl 0 rfl) ?_
        refine gM_0_readDay C hX12_read_0_X12 hK hP mX12_read_0_7 dX12_read_125 ?_
        refine lv_aload_n C.1 C.2.1 dX12_read_128 rfl (lv_at hl 0 rfl) ?_
        refine gM_0_readings C hX12_read_0_X12 hK hP mX12_read_0_2 dX12_read_129 ?_
        refine lv_aload_n C.1 C.2.1 dX12_read_132 rfl (lv_at hl 0 rfl) ?_
        refine gM_0_now C hX12_read_0_X12 hK hP mX12_read_0_8 dX12_read_133 ?_
        obtain ⟨hg27, h⟩ := gd_some h
        refine tM_21 C hK hP hJ hS hg27 dX12_read_136 (fun H locs hP hS => ?_)
        obtain ⟨u28, hu29, h⟩ := lt_some h
        rw [← hu29] at hP
        refine lv_aload_n C.1 C.2.1 dX12_read_137 rfl (lv_at hl 0 rfl) ?_
        refine lv_dup C.1 C.2.1 dX12_read_138 rfl ?_
        refine gM_0_readings C hX12_read_0_X12 hK hP mX12_read_0_2 dX12_read_139 ?_
        refine lv_iconst (v := 1) C.1 C.2.1 dX12_read_142 (by decide) ?_
        refine lv_iadd C.1 C.2.1 dX12_read_143 ?_
        refine pM_0_readings C hX12_read_0_X12 hK hP hJ hS mX12_read_0_2 dX12_read_144 (fun H locs hP hS => ?_)
        obtain ⟨u30, hu31, h⟩ := lt_some h
        rw [← hu31] at hP
        refine lv_aload_n C.1 C.2.1 dX12_read_147 rfl (lv_at hl 0 rfl) ?_
        refine gM_0_readings C hX12_read_0_X12 hK hP mX12_read_0_2 dX12_read_148 ?_
        refine lv_iconst (v := 1) C.1 C.2.1 dX12_read_151 (by decide) ?_
        refine lv_isub C.1 C.2.1 dX12_read_152 ?_
        cases h
        exact rt_i C hP hS dX12_read_153
      · rw [if_pos c38] at h
        refine lv_iconst (v := (-1)) C.1 C.2.1 dX12_read_41 (by decide) ?_
        cases h
        exact rt_i C hP hS dX12_read_42
theorem metX12_read_0 (l : Launch) (D : va_G) (cy : Nat → ClassId) (ad st : Nat → Nat) (hJ : JM ad st) (sz : Nat) (x1 : Int32) (x2 : Int32) (x3 : Int32) (x4 : Int32) (x5 : Int32) (x6 : Int32) {u : SX} {r : Int32} {u' : SX} (h : fX12_read_0 x1 x2 x3 x4 x5 x6 u = some (r, u')) : Met l yX12_read wsX12_read rmX12_read_0 (va_Pc [.ref (ad 0), .int x1, .int x2, .int x3, .int x4, .int x5, .int x6] (Px D [(cy 0, .int), (cy 1, .long), (cy 2, .boolean), (cy 3, .byte), (cy 4, .object "HissHorn$Text")] st (VM cy ad st) sz u)) (Qi D (VM cy ad st) (AM ad) sz r u') 0 0 (Ax (AM ad) sz) := by
  refine Met.ofW (cc := cX12_read) (maxL := 7) (ret := (some .int)) (by decide) rfl ?_
  intro p e s m args below meth c s₁ B hml hv
  obtain ⟨rfl, hsz, hP, hK⟩ := hv
  subst hsz
  have C : Cx RX12 cX12_read 7 (some .int) wsX12_read p s m _ meth c := ⟨B.exec, B.bytes, hml, B.returns, findClass_of_methodNamed B.named, atoms_spec (ws := wsX12_read) B.pre, B.notSynchronized⟩
  have hl := lv_entry ([.ref (ad 0), .int x1, .int x2, .int x3, .int x4, .int x5, .int x6]) (n := 7) (Nat.le_of_ble_eq_true rfl)
  rw [lg_entry_eq]
  exact wX12_read_0 C hK hJ x1 x2 x3 x4 x5 x6 h hP va_S.rf hl

theorem zdX12_aimOf_0 : (and (and (and (and (and (zk cX12_aimOf 0 (.iload_n 2) 1) (zk cX12_aimOf 1 (.iconst 3) 1)) (and (zk cX12_aimOf 2 (.if_icmp .ne 15) 3) (zk cX12_aimOf 17 (.aload_n 0) 1))) (and (and (zk cX12_aimOf 18 (.getfield 74) 3) (zk cX12_aimOf 21 (.iconst 5) 1)) (zk cX12_aimOf 22 (.iload_n 1) 1))) (and (and (and (zk cX12_aimOf 23 (.imul) 1) (zk cX12_aimOf 24 (.iload_n 2) 1)) (zk cX12_aimOf 25 (.iconst 3) 1)) (and (and (zk cX12_aimOf 26 (.if_icmp .ge 7) 3) (zk cX12_aimOf 33 (.iload_n 2) 1)) (zk cX12_aimOf 34 (.iconst 1) 1)))) (and (and (and (and (zk cX12_aimOf 35 (.isub) 1) (zk cX12_aimOf 36 (.iadd) 1)) (zk cX12_aimOf 37 (.iaload) 1)) (and (and (zk cX12_aimOf 38 (.ireturn) 1) (zk cX12_aimOf 29 (.iload_n 2) 1)) (zk cX12_aimOf 30 (.goto 6) 3))) (and (and (and (zk cX12_aimOf 5 (.aload_n 0) 1) (zk cX12_aimOf 6 (.getfield 80) 3)) (zk cX12_aimOf 9 (.iload_n 1) 1)) (and (and (zk cX12_aimOf 10 (.iaload) 1) (zk cX12_aimOf 11 (.invokestatic 316) 3)) (zk cX12_aimOf 14 (.goto 24) 3))))) = true := by decide +kernel
theorem dX12_aimOf_0 : decode cX12_aimOf 0 = .ok (.iload_n 2, 1) := zk_of (zk_l (zk_l (zk_l (zk_l (zk_l zdX12_aimOf_0)))))
theorem dX12_aimOf_1 : decode cX12_aimOf 1 = .ok (.iconst 3, 1) := zk_of (zk_r (zk_l (zk_l (zk_l (zk_l zdX12_aimOf_0)))))
theorem dX12_aimOf_2 : decode cX12_aimOf 2 = .ok (.if_icmp .ne 15, 3) := zk_of (zk_l (zk_r (zk_l (zk_l (zk_l zdX12_aimOf_0)))))
theorem dX12_aimOf_17 : decode cX12_aimOf 17 = .ok (.aload_n 0, 1) := zk_of (zk_r (zk_r (zk_l (zk_l (zk_l zdX12_aimOf_0)))))
theorem dX12_aimOf_18 : decode cX12_aimOf 18 = .ok (.getfield 74, 3) := zk_of (zk_l (zk_l (zk_r (zk_l (zk_l zdX12_aimOf_0)))))
theorem dX12_aimOf_21 : decode cX12_aimOf 21 = .ok (.iconst 5, 1) := zk_of (zk_r (zk_l (zk_r (zk_l (zk_l zdX12_aimOf_0)))))
theorem dX12_aimOf_22 : decode cX12_aimOf 22 = .ok (.iload_n 1, 1) := zk_of (zk_r (zk_r (zk_l (zk_l zdX12_aimOf_0))))
theorem dX12_aimOf_23 : decode cX12_aimOf 23 = .ok (.imul, 1) := zk_of (zk_l (zk_l (zk_l (zk_r (zk_l zdX12_aimOf_0)))))
theorem dX12_aimOf_24 : decode cX12_aimOf 24 = .ok (.iload_n 2, 1) := zk_of (zk_r (zk_l (zk_l (zk_r (zk_l zdX12_aimOf_0)))))
theorem dX12_aimOf_25 : decode cX12_aimOf 25 = .ok (.iconst 3, 1) := zk_of (zk_r (zk_l (zk_r (zk_l zdX12_aimOf_0))))
theorem dX12_aimOf_26 : decode cX12_aimOf 26 = .ok (.if_icmp .ge 7, 3) := zk_of (zk_l (zk_l (zk_r (zk_r (zk_l zdX12_aimOf_0)))))
theorem dX12_aimOf_33 : decode cX12_aimOf 33 = .ok (.iload_n 2, 1) := zk_of (zk_r (zk_l (zk_r (zk_r (zk_l zdX12_aimOf_0)))))
theorem dX12_aimOf_34 : decode cX12_aimOf 34 = .ok (.iconst 1, 1) := zk_of (zk_r (zk_r (zk_r (zk_l zdX12_aimOf_0))))
theorem dX12_aimOf_35 : decode cX12_aimOf 35 = .ok (.isub, 1) := zk_of (zk_l (zk_l (zk_l (zk_l (zk_r zdX12_aimOf_0)))))
theorem dX12_aimOf_36 : decode cX12_aimOf 36 = .ok (.iadd, 1) := zk_of (zk_r (zk_l (zk_l (zk_l (zk_r zdX12_aimOf_0)))))
theorem dX12_aimOf_37 : decode cX12_aimOf 37 = .ok (.iaload, 1) := zk_of (zk_r (zk_l (zk_l (zk_r zdX12_aimOf_0))))
theorem dX12_aimOf_38 : decode cX12_aimOf 38 = .ok (.ireturn, 1) := zk_of (zk_l (zk_l (zk_r (zk_l (zk_r zdX12_aimOf_0)))))
theorem dX12_aimOf_29 : decode cX12_aimOf 29 = .ok (.iload_n 2, 1) := zk_of (zk_r (zk_l (zk_r (zk_l (zk_r zdX12_aimOf_0)))))
theorem dX12_aimOf_30 : decode cX12_aimOf 30 = .ok (.goto 6, 3) := zk_of (zk_r (zk_r (zk_l (zk_r zdX12_aimOf_0))))
theorem dX12_aimOf_5 : decode cX12_aimOf 5 = .ok (.aload_n 0, 1) := zk_of (zk_l (zk_l (zk_l (zk_r (zk_r zdX12_aimOf_0)))))
theorem dX12_aimOf_6 : decode cX12_aimOf 6 = .ok (.getfield 80, 3) := zk_of (zk_r (zk_l (zk_l (zk_r (zk_r zdX12_aimOf_0)))))
theorem dX12_aimOf_9 : decode cX12_aimOf 9 = .ok (.iload_n 1, 1) := zk_of (zk_r (zk_l (zk_r (zk_r zdX12_aimOf_0))))
theorem dX12_aimOf_10 : decode cX12_aimOf 10 = .ok (.iaload, 1) := zk_of (zk_l (zk_l (zk_r (zk_r (zk_r zdX12_aimOf_0)))))
theorem dX12_aimOf_11 : decode cX12_aimOf 11 = .ok (.invokestatic 316, 3) := zk_of (zk_r (zk_l (zk_r (zk_r (zk_r zdX12_aimOf_0)))))
theorem dX12_aimOf_14 : decode cX12_aimOf 14 = .ok (.goto 24, 3) := zk_of (zk_r (zk_r (zk_r (zk_r zdX12_aimOf_0))))
set_option maxRecDepth 20000 in
theorem ggX12_aimOf_X12_season : GoodIn wsX12_aimOf wsX12_season := ggi (fun w h => List.mem_cons_of_mem _ (List.mem_append_left _ (List.mem_append_right _ h))) gs_X12_season
set_option maxRecDepth 20000 in
theorem gX12_aimOf_X12_season : GoodIn wsX12_aimOf (va_wsS RX12 316 yX12_season wsX12_season) := goodIn_app (goodIn_of _ (by decide +kernel)) ggX12_aimOf_X12_season
/-- HissHornModel.aimOf(II)I of cell 0 -/
def rmX12_aimOf_0 : Room := { frames := 1, cells := 0, slots := 0, locals := 20 }
theorem hX12_aimOf_0_X12 : ∀ w ∈ u_ws RX12 TX12 69, w ∈ wsX12_aimOf := fun w h => (List.mem_cons_of_mem _ (List.mem_append_right _ h))
theorem mX12_aimOf_0_1 : Cond.fieldLink RX12 74 "HissHornModel" "aims" "[I" ∈ wsX12_aimOf := (List.mem_cons_of_mem _ (List.mem_append_left _ (List.mem_append_left _ (List.mem_of_getElem? (i := 3) rfl))))
theorem mX12_aimOf_0_2 : Cond.fieldLink RX12 80 "HissHornModel" "readDay" "[I" ∈ wsX12_aimOf := (List.mem_cons_of_mem _ (List.mem_append_left _ (List.mem_append_left _ (List.mem_of_getElem? (i := 4) rfl))))
def fX12_aimOf_0 (x1 : Int32) (x2 : Int32) (u : SX) : Option (Int32 × SX) := (if x2 = 3 then (gd (inb x1 80) ((fX12_season (u.2.1 21 x1.toNatClampNeg)).bind fun r4 => (some (r4, u)))) else (if 3 ≤ x2 then (gd (inb ((5 * x1) + (x2 - 1)) 400) (some (u.2.1 19 ((5 * x1) + (x2 - 1)).toNatClampNeg, u))) else (gd (inb ((5 * x1) + x2) 400) (some (u.2.1 19 ((5 * x1) + x2).toNatClampNeg, u)))))
set_option maxHeartbeats 4000000 in
set_option maxRecDepth 100000 in
theorem wX12_aimOf_0 {p : Program} {l : Launch} {e : Env} {s : State} {m : MethodId} {args : Array Value} {below : List Frame} {meth : Method} {c : Code} {D : va_G} {cy : Nat → ClassId} {ad st : Nat → Nat} (C : Cx RX12 cX12_aimOf 3 (some .int) wsX12_aimOf p s m args meth c) (hK : Ky D [(cy 0, .int), (cy 1, .long), (cy 2, .boolean), (cy 3, .byte), (cy 4, .object "HissHorn$Text")] st s) (hJ : JM ad st) (x1 : Int32) (x2 : Int32) {u : SX} {r : Int32} {u' : SX} {H : Heap} {locs : List Loc} {ls : Array Slot} (h : fX12_aimOf_0 x1 x2 u = some (r, u')) (hP : va_P D vwCl (VM cy ad st u) H) (hS : va_S (Ax (AM ad) s.heap.size) s.heap H locs) (hl : lv_has ls 3 [(0, .ref (ad 0)), (1, .int x1), (2, .int x2)]) : W p l e rmX12_aimOf_0 s m args below meth c H locs 0 0 (MQ below (Qi D (VM cy ad st) (AM ad) s.heap.size r u') args s 0 0 (Ax (AM ad) s.heap.size)) (F0 m 0 ls []) := by
  unfold fX12_aimOf_0 at h
  refine lv_iload_n C.1 C.2.1 dX12_aimOf_0 rfl (lv_at hl 2 rfl) ?_
  refine lv_iconst (v := 3) C.1 C.2.1 dX12_aimOf_1 (by decide) ?_
  refine lv_icmp_ne (tgt := 17) C.1 C.2.1 dX12_aimOf_2 (by decide) (fun c2 => ?_) (fun c2 => ?_)
  · rw [if_neg c2] at h
    refine lv_aload_n C.1 C.2.1 dX12_aimOf_17 rfl (lv_at hl 0 rfl) ?_
    refine gM_0_aims C hX12_aimOf_0_X12 hK hP mX12_aimOf_0_1 dX12_aimOf_18 ?_
    refine lv_iconst (v := 5) C.1 C.2.1 dX12_aimOf_21 (by decide) ?_
    refine lv_iload_n C.1 C.2.1 dX12_aimOf_22 rfl (lv_at hl 1 rfl) ?_
    refine lv_imul C.1 C.2.1 dX12_aimOf_23 ?_
    refine lv_iload_n C.1 C.2.1 dX12_aimOf_24 rfl (lv_at hl 2 rfl) ?_
    refine lv_iconst (v := 3) C.1 C.2.1 dX12_aimOf_25 (by decide) ?_
    refine lv_icmp_ge (tgt := 33) C.1 C.2.1 dX12_aimOf_26 (by decide) (fun c26 => ?_) (fun c26 => ?_)
    · rw [if_pos c26] at h
      refine lv_iload_n C.1 C.2.1 dX12_aimOf_33 rfl (lv_at hl 2 rfl) ?_
      refine lv_iconst (v := 1) C.1 C.2.1 dX12_aimOf_34 (by decide) ?_
      refine lv_isub C.1 C.2.1 dX12_aimOf_35 ?_
      refine lv_iadd C.1 C.2.1 dX12_aimOf_36 ?_
      obtain ⟨hg1, h⟩ := gd_some h
      refine lM_19 C hK hP hg1 dX12_aimOf_37 ?_
      cases h
      exact rt_i C hP hS dX12_aimOf_38
    · rw [if_neg c26] at h
      refine lv_iload_n C.1 C.2.1 dX12_aimOf_29 rfl (lv_at hl 2 rfl) ?_
      refine lv_goto (tgt := 36) C.1 C.2.1 dX12_aimOf_30 (by decide) ?_
      refine lv_iadd C.1 C.2.1 dX12_aimOf_36 ?_
      obtain ⟨hg2, h⟩ := gd_some h
      refine lM_19 C hK hP hg2 dX12_aimOf_37 ?_
      cases h
      exact rt_i C hP hS dX12_aimOf_38
  · rw [if_pos c2] at h
    refine lv_aload_n C.1 C.2.1 dX12_aimOf_5 rfl (lv_at hl 0 rfl) ?_
    refine gM_0_readDay C hX12_aimOf_0_X12 hK hP mX12_aimOf_0_2 dX12_aimOf_6 ?_
    refine lv_iload_n C.1 C.2.1 dX12_aimOf_9 rfl (lv_at hl 1 rfl) ?_
    obtain ⟨hg3, h⟩ := gd_some h
    refine lM_21 C hK hP hg3 dX12_aimOf_10 ?_
    obtain ⟨r4, hc6, h⟩ := bd_some h
    refine cs_i (As := [.int (u.2.1 21 x1.toNatClampNeg)]) (rest := []) (AM_ge hJ) C hK hP hS (metX12_season l D cy st _ (u.2.1 21 x1.toNatClampNeg) hc6) (va_cwS 1 C.2.2.2.2.2.1 gX12_aimOf_X12_season rfl rfl rfl (by decide +kernel) ⟨(Nat.le_of_ble_eq_true rfl), (Nat.le_of_ble_eq_true rfl)⟩) rfl hl.1 rfl (Nat.le_of_ble_eq_true rfl) dX12_aimOf_11 ⟨Nat.zero_le _, Nat.zero_le _⟩ (fun H locs hP hS => ?_)
    refine lv_goto (tgt := 38) C.1 C.2.1 dX12_aimOf_14 (by decide) ?_
    cases h
    exact rt_i C hP hS dX12_aimOf_38
theorem metX12_aimOf_0 (l : Launch) (D : va_G) (cy : Nat → ClassId) (ad st : Nat → Nat) (hJ : JM ad st) (sz : Nat) (x1 : Int32) (x2 : Int32) {u : SX} {r : Int32} {u' : SX} (h : fX12_aimOf_0 x1 x2 u = some (r, u')) : Met l yX12_aimOf wsX12_aimOf rmX12_aimOf_0 (va_Pc [.ref (ad 0), .int x1, .int x2] (Px D [(cy 0, .int), (cy 1, .long), (cy 2, .boolean), (cy 3, .byte), (cy 4, .object "HissHorn$Text")] st (VM cy ad st) sz u)) (Qi D (VM cy ad st) (AM ad) sz r u') 0 0 (Ax (AM ad) sz) := by
  refine Met.ofW (cc := cX12_aimOf) (maxL := 3) (ret := (some .int)) (by decide) rfl ?_
  intro p e s m args below meth c s₁ B hml hv
  obtain ⟨rfl, hsz, hP, hK⟩ := hv
  subst hsz
  have C : Cx RX12 cX12_aimOf 3 (some .int) wsX12_aimOf p s m _ meth c := ⟨B.exec, B.bytes, hml, B.returns, findClass_of_methodNamed B.named, atoms_spec (ws := wsX12_aimOf) B.pre, B.notSynchronized⟩
  have hl := lv_entry ([.ref (ad 0), .int x1, .int x2]) (n := 3) (Nat.le_of_ble_eq_true rfl)
  rw [lg_entry_eq]
  exact wX12_aimOf_0 C hK hJ x1 x2 h hP va_S.rf hl

theorem zdX12_layWorthsOf_0 : (and (and (and (and (and (zk cX12_layWorthsOf 0 (.aload_n 0) 1) (zk cX12_layWorthsOf 1 (.aload_n 0) 1)) (and (zk cX12_layWorthsOf 2 (.iload_n 1) 1) (zk cX12_layWorthsOf 3 (.iconst 0) 1))) (and (and (zk cX12_layWorthsOf 4 (.invokevirtual 340) 3) (zk cX12_layWorthsOf 7 (.aload_n 0) 1)) (zk cX12_layWorthsOf 8 (.iload_n 1) 1))) (and (and (and (zk cX12_layWorthsOf 9 (.iconst 1) 1) (zk cX12_layWorthsOf 10 (.invokevirtual 340) 3)) (and (zk cX12_layWorthsOf 13 (.aload_n 0) 1) (zk cX12_layWorthsOf 14 (.iload_n 1) 1))) (and (and (zk cX12_layWorthsOf 15 (.iconst 2) 1) (zk cX12_layWorthsOf 16 (.invokevirtual 340) 3)) (zk cX12_layWorthsOf 19 (.aload_n 0) 1)))) (and (and (and (and (zk cX12_layWorthsOf 20 (.iload_n 1) 1) (zk cX12_layWorthsOf 21 (.iconst 3) 1)) (and (zk cX12_layWorthsOf 22 (.invokevirtual 340) 3) (zk cX12_layWorthsOf 25 (.aload_n 0) 1))) (and (and (zk cX12_layWorthsOf 26 (.iload_n 1) 1) (zk cX12_layWorthsOf 27 (.iconst 4) 1)) (zk cX12_layWorthsOf 28 (.invokevirtual 340) 3))) (and (and (and (zk cX12_layWorthsOf 31 (.aload_n 0) 1) (zk cX12_layWorthsOf 32 (.iload_n 1) 1)) (zk cX12_layWorthsOf 33 (.iconst 5) 1)) (and (and (zk cX12_layWorthsOf 34 (.invokevirtual 340) 3) (zk cX12_layWorthsOf 37 (.invokevirtual 319) 3)) (zk cX12_layWorthsOf 40 (.return_) 1))))) = true := by decide +kernel
theorem dX12_layWorthsOf_0 : decode cX12_layWorthsOf 0 = .ok (.aload_n 0, 1) := zk_of (zk_l (zk_l (zk_l (zk_l (zk_l zdX12_layWorthsOf_0)))))
theorem dX12_layWorthsOf_1 : decode cX12_layWorthsOf 1 = .ok (.aload_n 0, 1) := zk_of (zk_r (zk_l (zk_l (zk_l (zk_l zdX12_layWorthsOf_0)))))
theorem dX12_layWorthsOf_2 : decode cX12_layWorthsOf 2 = .ok (.iload_n 1, 1) := zk_of (zk_l (zk_r (zk_l (zk_l (zk_l zdX12_layWorthsOf_0)))))
theorem dX12_layWorthsOf_3 : decode cX12_layWorthsOf 3 = .ok (.iconst 0, 1) := zk_of (zk_r (zk_r (zk_l (zk_l (zk_l zdX12_layWorthsOf_0)))))
theorem dX12_layWorthsOf_4 : decode cX12_layWorthsOf 4 = .ok (.invokevirtual 340, 3) := zk_of (zk_l (zk_l (zk_r (zk_l (zk_l zdX12_layWorthsOf_0)))))
theorem dX12_layWorthsOf_7 : decode cX12_layWorthsOf 7 = .ok (.aload_n 0, 1) := zk_of (zk_r (zk_l (zk_r (zk_l (zk_l zdX12_layWorthsOf_0)))))
theorem dX12_layWorthsOf_8 : decode cX12_layWorthsOf 8 = .ok (.iload_n 1, 1) := zk_of (zk_r (zk_r (zk_l (zk_l zdX12_layWorthsOf_0))))
theorem dX12_layWorthsOf_9 : decode cX12_layWorthsOf 9 = .ok (.iconst 1, 1) := zk_of (zk_l (zk_l (zk_l (zk_r (zk_l zdX12_layWorthsOf_0)))))
theorem dX12_layWorthsOf_10 : decode cX12_layWorthsOf 10 = .ok (.invokevirtual 340, 3) := zk_of (zk_r (zk_l (zk_l (zk_r (zk_l zdX12_layWorthsOf_0)))))
theorem dX12_layWorthsOf_13 : decode cX12_layWorthsOf 13 = .ok (.aload_n 0, 1) := zk_of (zk_l (zk_r (zk_l (zk_r (zk_l zdX12_layWorthsOf_0)))))
theorem dX12_layWorthsOf_14 : decode cX12_layWorthsOf 14 = .ok (.iload_n 1, 1) := zk_of (zk_r (zk_r (zk_l (zk_r (zk_l zdX12_layWorthsOf_0)))))
theorem dX12_layWorthsOf_15 : decode cX12_layWorthsOf 15 = .ok (.iconst 2, 1) := zk_of (zk_l (zk_l (zk_r (zk_r (zk_l zdX12_layWorthsOf_0)))))
theorem dX12_layWorthsOf_16 : decode cX12_layWorthsOf 16 = .ok (.invokevirtual 340, 3) := zk_of (zk_r (zk_l (zk_r (zk_r (zk_l zdX12_layWorthsOf_0)))))
theorem dX12_layWorthsOf_19 : decode cX12_layWorthsOf 19 = .ok (.aload_n 0, 1) := zk_of (zk_r (zk_r (zk_r (zk_l zdX12_layWorthsOf_0))))
theorem dX12_layWorthsOf_20 : decode cX12_layWorthsOf 20 = .ok (.iload_n 1, 1) := zk_of (zk_l (zk_l (zk_l (zk_l (zk_r zdX12_layWorthsOf_0)))))
theorem dX12_layWorthsOf_21 : decode cX12_layWorthsOf 21 = .ok (.iconst 3, 1) := zk_of (zk_r (zk_l (zk_l (zk_l (zk_r zdX12_layWorthsOf_0)))))
theorem dX12_layWorthsOf_22 : decode cX12_layWorthsOf 22 = .ok (.invokevirtual 340, 3) := zk_of (zk_l (zk_r (zk_l (zk_l (zk_r zdX12_layWorthsOf_0)))))
theorem dX12_layWorthsOf_25 : decode cX12_layWorthsOf 25 = .ok (.aload_n 0, 1) := zk_of (zk_r (zk_r (zk_l (zk_l (zk_r zdX12_layWorthsOf_0)))))
theorem dX12_layWorthsOf_26 : decode cX12_layWorthsOf 26 = .ok (.iload_n 1, 1) := zk_of (zk_l (zk_l (zk_r (zk_l (zk_r zdX12_layWorthsOf_0)))))
theorem dX12_layWorthsOf_27 : decode cX12_layWorthsOf 27 = .ok (.iconst 4, 1) := zk_of (zk_r (zk_l (zk_r (zk_l (zk_r zdX12_layWorthsOf_0)))))
theorem dX12_layWorthsOf_28 : decode cX12_layWorthsOf 28 = .ok (.invokevirtual 340, 3) := zk_of (zk_r (zk_r (zk_l (zk_r zdX12_layWorthsOf_0))))
theorem dX12_layWorthsOf_31 : decode cX12_layWorthsOf 31 = .ok (.aload_n 0, 1) := zk_of (zk_l (zk_l (zk_l (zk_r (zk_r zdX12_layWorthsOf_0)))))
theorem dX12_layWorthsOf_32 : decode cX12_layWorthsOf 32 = .ok (.iload_n 1, 1) := zk_of (zk_r (zk_l (zk_l (zk_r (zk_r zdX12_layWorthsOf_0)))))
theorem dX12_layWorthsOf_33 : decode cX12_layWorthsOf 33 = .ok (.iconst 5, 1) := zk_of (zk_r (zk_l (zk_r (zk_r zdX12_layWorthsOf_0))))
theorem dX12_layWorthsOf_34 : decode cX12_layWorthsOf 34 = .ok (.invokevirtual 340, 3) := zk_of (zk_l (zk_l (zk_r (zk_r (zk_r zdX12_layWorthsOf_0)))))
theorem dX12_layWorthsOf_37 : decode cX12_layWorthsOf 37 = .ok (.invokevirtual 319, 3) := zk_of (zk_r (zk_l (zk_r (zk_r (zk_r zdX12_layWorthsOf_0)))))
theorem dX12_layWorthsOf_40 : decode cX12_layWorthsOf 40 = .ok (.return_, 1) := zk_of (zk_r (zk_r (zk_r (zk_r zdX12_layWorthsOf_0))))
set_option maxRecDepth 20000 in
theorem ggX12_layWorthsOf_X12_aimOf : GoodIn wsX12_layWorthsOf wsX12_aimOf := ggi (fun w h => List.mem_cons_of_mem _ (List.mem_append_left _ (List.mem_append_right _ (List.mem_append_left _ h)))) gs_X12_aimOf
set_option maxRecDepth 20000 in
theorem gX12_layWorthsOf_X12_aimOf : GoodIn wsX12_layWorthsOf (wsV RX12 340 RX12 yX12_aimOf wsX12_aimOf) := goodIn_app (goodIn_of _ (by decide +kernel)) ggX12_layWorthsOf_X12_aimOf
set_option maxRecDepth 20000 in
theorem ggX12_layWorthsOf_X12_layWorths : GoodIn wsX12_layWorthsOf wsX12_layWorths := ggi (fun w h => List.mem_cons_of_mem _ (List.mem_append_left _ (List.mem_append_right _ (List.mem_append_right _ h)))) gs_X12_layWorths
set_option maxRecDepth 20000 in
theorem gX12_layWorthsOf_X12_layWorths : GoodIn wsX12_layWorthsOf (wsV RX12 319 RX12 yX12_layWorths wsX12_layWorths) := goodIn_app (goodIn_of _ (by decide +kernel)) ggX12_layWorthsOf_X12_layWorths
/-- HissHornModel.layWorthsOf(I)V of cell 0 -/
def rmX12_layWorthsOf_0 : Room := { frames := 140, cells := 0, slots := 0, locals := 8481 }
def fX12_layWorthsOf_0 (x1 : Int32) (u : SX) : Option (Int32 × SX) := ((fX12_aimOf_0 x1 0 u).bind fun q => match q with | (r1, u2) => ((fX12_aimOf_0 x1 1 u2).bind fun q => match q with | (r4, u5) => ((fX12_aimOf_0 x1 2 u5).bind fun q => match q with | (r7, u8) => ((fX12_aimOf_0 x1 3 u8).bind fun q => match q with | (r10, u11) => ((fX12_aimOf_0 x1 4 u11).bind fun q => match q with | (r13, u14) => ((fX12_aimOf_0 x1 5 u14).bind fun q => match q with | (r16, u17) => ((fX12_layWorths_0 r1 r4 r7 r10 r13 r16 u17).bind fun q => match q with | (r19, u20) => (some (0, u20)))))))))
set_option maxHeartbeats 4000000 in
set_option maxRecDepth 100000 in
theorem wX12_layWorthsOf_0 {p : Program} {l : Launch} {e : Env} {s : State} {m : MethodId} {args : Array Value} {below : List Frame} {meth : Method} {c : Code} {D : va_G} {cy : Nat → ClassId} {ad st : Nat → Nat} (C : Cx RX12 cX12_layWorthsOf 2 none wsX12_layWorthsOf p s m args meth c) (hK : Ky D [(cy 0, .int), (cy 1, .long), (cy 2, .boolean), (cy 3, .byte), (cy 4, .object "HissHorn$Text")] st s) (hJ : JM ad st) (x1 : Int32) {u : SX} {r : Int32} {u' : SX} {H : Heap} {locs : List Loc} {ls : Array Slot} (h : fX12_layWorthsOf_0 x1 u = some (r, u')) (hP : va_P D vwCl (VM cy ad st u) H) (hS : va_S (Ax (AM ad) s.heap.size) s.heap H locs) (hl : lv_has ls 2 [(0, .ref (ad 0)), (1, .int x1)]) : W p l e rmX12_layWorthsOf_0 s m args below meth c H locs 0 0 (MQ below (Qv D (VM cy ad st) (AM ad) s.heap.size r u') args s 0 0 (Ax (AM ad) s.heap.size)) (F0 m 0 ls []) := by
  unfold fX12_layWorthsOf_0 at h
  refine lv_aload_n C.1 C.2.1 dX12_layWorthsOf_0 rfl (lv_at hl 0 rfl) ?_
  refine lv_aload_n C.1 C.2.1 dX12_layWorthsOf_1 rfl (lv_at hl 0 rfl) ?_
  refine lv_iload_n C.1 C.2.1 dX12_layWorthsOf_2 rfl (lv_at hl 1 rfl) ?_
  refine lv_iconst (v := 0) C.1 C.2.1 dX12_layWorthsOf_3 (by decide) ?_
  obtain ⟨⟨r1, u2⟩, hc3, h⟩ := bd_some h
  try dsimp only at h
  refine cg_i (As := [.int x1, .int 0]) (rest := [.ref (ad 0)]) (AM_ge hJ) C hK hP hS (metX12_aimOf_0 l D cy ad st hJ _ x1 0 hc3) (cwV 2 C.2.2.2.2.2.1 gX12_layWorthsOf_X12_aimOf rfl rfl rfl (by decide +kernel) ⟨(Nat.le_of_ble_eq_true rfl), (Nat.le_of_ble_eq_true rfl)⟩) 0 12 rfl rfl rfl hl.1 rfl (Nat.le_of_ble_eq_true rfl) dX12_layWorthsOf_4 ⟨Nat.zero_le _, Nat.zero_le _⟩ (fun H locs hP hS => ?_)
  refine lv_aload_n C.1 C.2.1 dX12_layWorthsOf_7 rfl (lv_at hl 0 rfl) ?_
  refine lv_iload_n C.1 C.2.1 dX12_layWorthsOf_8 rfl (lv_at hl 1 rfl) ?_
  refine lv_iconst (v := 1) C.1 C.2.1 dX12_layWorthsOf_9 (by decide) ?_
  obtain ⟨⟨r4, u5⟩, hc6, h⟩ := bd_some h
  try dsimp only at h
  refine cg_i (As := [.int x1, .int 1]) (rest := [.int r1, .ref (ad 0)]) (AM_ge hJ) C hK hP hS (metX12_aimOf_0 l D cy ad st hJ _ x1 1 hc6) (cwV 2 C.2.2.2.2.2.1 gX12_layWorthsOf_X12_aimOf rfl rfl rfl (by decide +kernel) ⟨(Nat.le_of_ble_eq_true rfl), (Nat.le_of_ble_eq_true rfl)⟩) 0 12 rfl rfl rfl hl.1 rfl (Nat.le_of_ble_eq_true rfl) dX12_layWorthsOf_10 ⟨Nat.zero_le _, Nat.zero_le _⟩ (fun H locs hP hS => ?_)
  refine lv_aload_n C.1 C.2.1 dX12_layWorthsOf_13 rfl (lv_at hl 0 rfl) ?_
  refine lv_iload_n C.1 C.2.1 dX12_layWorthsOf_14 rfl (lv_at hl 1 rfl) ?_
  refine lv_iconst (v := 2) C.1 C.2.1 dX12_layWorthsOf_15 (by decide) ?_
  obtain ⟨⟨r7, u8⟩, hc9, h⟩ := bd_some h
  try dsimp only at h
  refine cg_i (As := [.int x1, .int 2]) (rest := [.int r4, .int r1, .ref (ad 0)]) (AM_ge hJ) C hK hP hS (metX12_aimOf_0 l D cy ad st hJ _ x1 2 hc9) (cwV 2 C.2.2.2.2.2.1 gX12_layWorthsOf_X12_aimOf rfl rfl rfl (by decide +kernel) ⟨(Nat.le_of_ble_eq_true rfl), (Nat.le_of_ble_eq_true rfl)⟩) 0 12 rfl rfl rfl hl.1 rfl (Nat.le_of_ble_eq_true rfl) dX12_layWorthsOf_16 ⟨Nat.zero_le _, Nat.zero_le _⟩ (fun H locs hP hS => ?_)
  refine lv_aload_n C.1 C.2.1 dX12_layWorthsOf_19 rfl (lv_at hl 0 rfl) ?_
  refine lv_iload_n C.1 C.2.1 dX12_layWorthsOf_20 rfl (lv_at hl 1 rfl) ?_
  refine lv_iconst (v := 3) C.1 C.2.1 dX12_layWorthsOf_21 (by decide) ?_
  obtain ⟨⟨r10, u11⟩, hc12, h⟩ := bd_some h
  try dsimp only at h
  refine cg_i (As := [.int x1, .int 3]) (rest := [.int r7, .int r4, .int r1, .ref (ad 0)]) (AM_ge hJ) C hK hP hS (metX12_aimOf_0 l D cy ad st hJ _ x1 3 hc12) (cwV 2 C.2.2.2.2.2.1 gX12_layWorthsOf_X12_aimOf rfl rfl rfl (by decide +kernel) ⟨(Nat.le_of_ble_eq_true rfl), (Nat.le_of_ble_eq_true rfl)⟩) 0 12 rfl rfl rfl hl.1 rfl (Nat.le_of_ble_eq_true rfl) dX12_layWorthsOf_22 ⟨Nat.zero_le _, Nat.zero_le _⟩ (fun H locs hP hS => ?_)
  refine lv_aload_n C.1 C.2.1 dX12_layWorthsOf_25 rfl (lv_at hl 0 rfl) ?_
  refine lv_iload_n C.1 C.2.1 dX12_layWorthsOf_26 rfl (lv_at hl 1 rfl) ?_
  refine lv_iconst (v := 4) C.1 C.2.1 dX12_layWorthsOf_27 (by decide) ?_
  obtain ⟨⟨r13, u14⟩, hc15, h⟩ := bd_some h
  try dsimp only at h
  refine cg_i (As := [.int x1, .int 4]) (rest := [.int r10, .int r7, .int r4, .int r1, .ref (ad 0)]) (AM_ge hJ) C hK hP hS (metX12_aimOf_0 l D cy ad st hJ _ x1 4 hc15) (cwV 2 C.2.2.2.2.2.1 gX12_layWorthsOf_X12_aimOf rfl rfl rfl (by decide +kernel) ⟨(Nat.le_of_ble_eq_true rfl), (Nat.le_of_ble_eq_true rfl)⟩) 0 12 rfl rfl rfl hl.1 rfl (Nat.le_of_ble_eq_true rfl) dX12_layWorthsOf_28 ⟨Nat.zero_le _, Nat.zero_le _⟩ (fun H locs hP hS => ?_)
  refine lv_aload_n C.1 C.2.1 dX12_layWorthsOf_31 rfl (lv_at hl 0 rfl) ?_
  refine lv_iload_n C.1 C.2.1 dX12_layWorthsOf_32 rfl (lv_at hl 1 rfl) ?_
  refine lv_iconst (v := 5) C.1 C.2.1 dX12_layWorthsOf_33 (by decide) ?_
  obtain ⟨⟨r16, u17⟩, hc18, h⟩ := bd_some h
  try dsimp only at h
  refine cg_i (As := [.int x1, .int 5]) (rest := [.int r13, .int r10, .int r7, .int r4, .int r1, .ref (ad 0)]) (AM_ge hJ) C hK hP hS (metX12_aimOf_0 l D cy ad st hJ _ x1 5 hc18) (cwV 2 C.2.2.2.2.2.1 gX12_layWorthsOf_X12_aimOf rfl rfl rfl (by decide +kernel) ⟨(Nat.le_of_ble_eq_true rfl), (Nat.le_of_ble_eq_true rfl)⟩) 0 12 rfl rfl rfl hl.1 rfl (Nat.le_of_ble_eq_true rfl) dX12_layWorthsOf_34 ⟨Nat.zero_le _, Nat.zero_le _⟩ (fun H locs hP hS => ?_)
  obtain ⟨⟨r19, u20⟩, hc21, h⟩ := bd_some h
  try dsimp only at h
  refine cg_v (As := [.int r1, .int r4, .int r7, .int r10, .int r13, .int r16]) (rest := []) (AM_ge hJ) C hK hP hS (metX12_layWorths_0 l D cy ad st hJ _ r1 r4 r7 r10 r13 r16 hc21) (cwV 6 C.2.2.2.2.2.1 gX12_layWorthsOf_X12_layWorths rfl rfl rfl (by decide +kernel) ⟨(Nat.le_of_ble_eq_true rfl), (Nat.le_of_ble_eq_true rfl)⟩) 0 12 rfl rfl rfl hl.1 rfl (Nat.le_of_ble_eq_true rfl) dX12_layWorthsOf_37 ⟨Nat.zero_le _, Nat.zero_le _⟩ (fun H locs hP hS => ?_)
  cases h
  exact rt_v C hP hS dX12_layWorthsOf_40
theorem metX12_layWorthsOf_0 (l : Launch) (D : va_G) (cy : Nat → ClassId) (ad st : Nat → Nat) (hJ : JM ad st) (sz : Nat) (x1 : Int32) {u : SX} {r : Int32} {u' : SX} (h : fX12_layWorthsOf_0 x1 u = some (r, u')) : Met l yX12_layWorthsOf wsX12_layWorthsOf rmX12_layWorthsOf_0 (va_Pc [.ref (ad 0), .int x1] (Px D [(cy 0, .int), (cy 1, .long), (cy 2, .boolean), (cy 3, .byte), (cy 4, .object "HissHorn$Text")] st (VM cy ad st) sz u)) (Qv D (VM cy ad st) (AM ad) sz r u') 0 0 (Ax (AM ad) sz) := by
  refine Met.ofW (cc := cX12_layWorthsOf) (maxL := 2) (ret := none) (by decide) rfl ?_
  intro p e s m args below meth c s₁ B hml hv
  obtain ⟨rfl, hsz, hP, hK⟩ := hv
  subst hsz
  have C : Cx RX12 cX12_layWorthsOf 2 none wsX12_layWorthsOf p s m _ meth c := ⟨B.exec, B.bytes, hml, B.returns, findClass_of_methodNamed B.named, atoms_spec (ws := wsX12_layWorthsOf) B.pre, B.notSynchronized⟩
  have hl := lv_entry ([.ref (ad 0), .int x1]) (n := 2) (Nat.le_of_ble_eq_true rfl)
  rw [lg_entry_eq]
  exact wX12_layWorthsOf_0 C hK hJ x1 h hP va_S.rf hl

theorem zdX12_most_0 : (and (and (and (and (and (zk cX12_most 0 (.aload_n 0) 1) (zk cX12_most 1 (.getfield 65) 3)) (zk cX12_most 4 (.iload_n 1) 1)) (and (zk cX12_most 5 (.iaload) 1) (zk cX12_most 6 (.aload_n 0) 1))) (and (and (and (zk cX12_most 7 (.getfield 71) 3) (zk cX12_most 10 (.iload_n 1) 1)) (zk cX12_most 11 (.iaload) 1)) (and (zk cX12_most 12 (.invokestatic 323) 3) (zk cX12_most 15 (.aload_n 0) 1)))) (and (and (and (and (zk cX12_most 16 (.getfield 68) 3) (zk cX12_most 19 (.iload_n 1) 1)) (zk cX12_most 20 (.iaload) 1)) (and (zk cX12_most 21 (.aload_n 0) 1) (zk cX12_most 22 (.getfield 71) 3))) (and (and (and (zk cX12_most 25 (.iload_n 1) 1) (zk cX12_most 26 (.iaload) 1)) (zk cX12_most 27 (.invokestatic 323) 3)) (and (zk cX12_most 30 (.invokestatic 293) 3) (zk cX12_most 33 (.ireturn) 1))))) = true := by decide +kernel
theorem dX12_most_0 : decode cX12_most 0 = .ok (.aload_n 0, 1) := zk_of (zk_l (zk_l (zk_l (zk_l (zk_l zdX12_most_0)))))
theorem dX12_most_1 : decode cX12_most 1 = .ok (.getfield 65, 3) := zk_of (zk_r (zk_l (zk_l (zk_l (zk_l zdX12_most_0)))))
theorem dX12_most_4 : decode cX12_most 4 = .ok (.iload_n 1, 1) := zk_of (zk_r (zk_l (zk_l (zk_l zdX12_most_0))))
theorem dX12_most_5 : decode cX12_most 5 = .ok (.iaload, 1) := zk_of (zk_l (zk_r (zk_l (zk_l zdX12_most_0))))
theorem dX12_most_6 : decode cX12_most 6 = .ok (.aload_n 0, 1) := zk_of (zk_r (zk_r (zk_l (zk_l zdX12_most_0))))
theorem dX12_most_7 : decode cX12_most 7 = .ok (.getfield 71, 3) := zk_of (zk_l (zk_l (zk_l (zk_r (zk_l zdX12_most_0)))))
theorem dX12_most_10 : decode cX12_most 10 = .ok (.iload_n 1, 1) := zk_of (zk_r (zk_l (zk_l (zk_r (zk_l zdX12_most_0)))))
theorem dX12_most_11 : decode cX12_most 11 = .ok (.iaload, 1) := zk_of (zk_r (zk_l (zk_r (zk_l zdX12_most_0))))
theorem dX12_most_12 : decode cX12_most 12 = .ok (.invokestatic 323, 3) := zk_of (zk_l (zk_r (zk_r (zk_l zdX12_most_0))))
theorem dX12_most_15 : decode cX12_most 15 = .ok (.aload_n 0, 1) := zk_of (zk_r (zk_r (zk_r (zk_l zdX12_most_0))))
theorem dX12_most_16 : decode cX12_most 16 = .ok (.getfield 68, 3) := zk_of (zk_l (zk_l (zk_l (zk_l (zk_r zdX12_most_0)))))
theorem dX12_most_19 : decode cX12_most 19 = .ok (.iload_n 1, 1) := zk_of (zk_r (zk_l (zk_l (zk_l (zk_r zdX12_most_0)))))
theorem dX12_most_20 : decode cX12_most 20 = .ok (.iaload, 1) := zk_of (zk_r (zk_l (zk_l (zk_r zdX12_most_0))))
theorem dX12_most_21 : decode cX12_most 21 = .ok (.aload_n 0, 1) := zk_of (zk_l (zk_r (zk_l (zk_r zdX12_most_0))))
theorem dX12_most_22 : decode cX12_most 22 = .ok (.getfield 71, 3) := zk_of (zk_r (zk_r (zk_l (zk_r zdX12_most_0))))
theorem dX12_most_25 : decode cX12_most 25 = .ok (.iload_n 1, 1) := zk_of (zk_l (zk_l (zk_l (zk_r (zk_r zdX12_most_0)))))
theorem dX12_most_26 : decode cX12_most 26 = .ok (.iaload, 1) := zk_of (zk_r (zk_l (zk_l (zk_r (zk_r zdX12_most_0)))))
theorem dX12_most_27 : decode cX12_most 27 = .ok (.invokestatic 323, 3) := zk_of (zk_r (zk_l (zk_r (zk_r zdX12_most_0))))
theorem dX12_most_30 : decode cX12_most 30 = .ok (.invokestatic 293, 3) := zk_of (zk_l (zk_r (zk_r (zk_r zdX12_most_0))))
theorem dX12_most_33 : decode cX12_most 33 = .ok (.ireturn, 1) := zk_of (zk_r (zk_r (zk_r (zk_r zdX12_most_0))))
set_option maxRecDepth 20000 in
theorem ggX12_most_X12_shines : GoodIn wsX12_most wsX12_shines := ggi (fun w h => List.mem_cons_of_mem _ (List.mem_append_left _ (List.mem_append_right _ h))) gs_X12_shines
set_option maxRecDepth 20000 in
theorem gX12_most_X12_shines : GoodIn wsX12_most (va_wsS RX12 323 yX12_shines wsX12_shines) := goodIn_app (goodIn_of _ (by decide +kernel)) ggX12_most_X12_shines
/-- HissHornModel.most(I)I of cell 0 -/
def rmX12_most_0 : Room := { frames := 1, cells := 0, slots := 0, locals := 21 }
theorem hX12_most_0_X12 : ∀ w ∈ u_ws RX12 TX12 69, w ∈ wsX12_most := fun w h => (List.mem_cons_of_mem _ (List.mem_append_right _ h))
theorem mX12_most_0_1 : Cond.fieldLink RX12 65 "HissHornModel" "from" "[I" ∈ wsX12_most := (List.mem_cons_of_mem _ (List.mem_append_left _ (List.mem_append_left _ (List.mem_of_getElem? (i := 3) rfl))))
theorem mX12_most_0_2 : Cond.fieldLink RX12 71 "HissHornModel" "worths" "[I" ∈ wsX12_most := (List.mem_cons_of_mem _ (List.mem_append_left _ (List.mem_append_left _ (List.mem_of_getElem? (i := 4) rfl))))
theorem mX12_most_0_3 : Cond.fieldLink RX12 68 "HissHornModel" "to" "[I" ∈ wsX12_most := (List.mem_cons_of_mem _ (List.mem_append_left _ (List.mem_append_left _ (List.mem_of_getElem? (i := 5) rfl))))
theorem mX12_most_0_4 : Cond.methodLink RX12 293 Lib.Math.max.name ∈ wsX12_most := (List.mem_cons_of_mem _ (List.mem_append_left _ (List.mem_append_left _ (List.mem_of_getElem? (i := 6) rfl))))
theorem mX12_most_0_5 : Cond.static Lib.Math.max.name ∈ wsX12_most := (List.mem_cons_of_mem _ (List.mem_append_left _ (List.mem_append_left _ (List.mem_of_getElem? (i := 7) rfl))))
theorem mX12_most_0_6 : Cond.initialized "java/lang/Math" ∈ wsX12_most := (List.mem_cons_of_mem _ (List.mem_append_left _ (List.mem_append_left _ (List.mem_of_getElem? (i := 8) rfl))))
theorem mX12_most_0_7 : Cond.code Lib.Math.max.name Lib.Math.max.code 2 (some .int) ∈ wsX12_most := (List.mem_cons_of_mem _ (List.mem_append_left _ (List.mem_append_left _ (List.mem_of_getElem? (i := 9) rfl))))
def fX12_most_0 (x1 : Int32) (u : SX) : Option (Int32 × SX) := (gd (inb x1 12) (gd (inb x1 12) ((fX12_shines (u.2.1 16 x1.toNatClampNeg) (u.2.1 18 x1.toNatClampNeg)).bind fun r3 => (gd (inb x1 12) (gd (inb x1 12) ((fX12_shines (u.2.1 17 x1.toNatClampNeg) (u.2.1 18 x1.toNatClampNeg)).bind fun r8 => (some (if r3 < r8 then r8 else r3, u))))))))
set_option maxHeartbeats 4000000 in
set_option maxRecDepth 100000 in
theorem wX12_most_0 {p : Program} {l : Launch} {e : Env} {s : State} {m : MethodId} {args : Array Value} {below : List Frame} {meth : Method} {c : Code} {D : va_G} {cy : Nat → ClassId} {ad st : Nat → Nat} (C : Cx RX12 cX12_most 2 (some .int) wsX12_most p s m args meth c) (hK : Ky D [(cy 0, .int), (cy 1, .long), (cy 2, .boolean), (cy 3, .byte), (cy 4, .object "HissHorn$Text")] st s) (hJ : JM ad st) (x1 : Int32) {u : SX} {r : Int32} {u' : SX} {H : Heap} {locs : List Loc} {ls : Array Slot} (h : fX12_most_0 x1 u = some (r, u')) (hP : va_P D vwCl (VM cy ad st u) H) (hS : va_S (Ax (AM ad) s.heap.size) s.heap H locs) (hl : lv_has ls 2 [(0, .ref (ad 0)), (1, .int x1)]) : W p l e rmX12_most_0 s m args below meth c H locs 0 0 (MQ below (Qi D (VM cy ad st) (AM ad) s.heap.size r u') args s 0 0 (Ax (AM ad) s.heap.size)) (F0 m 0 ls []) := by
  unfold fX12_most_0 at h
  refine lv_aload_n C.1 C.2.1 dX12_most_0 rfl (lv_at hl 0 rfl) ?_
  refine gM_0_from C hX12_most_0_X12 hK hP mX12_most_0_1 dX12_most_1 ?_
  refine lv_iload_n C.1 C.2.1 dX12_most_4 rfl (lv_at hl 1 rfl) ?_
  obtain ⟨hg1, h⟩ := gd_some h
  refine lM_16 C hK hP hg1 dX12_most_5 ?_
  refine lv_aload_n C.1 C.2.1 dX12_most_6 rfl (lv_at hl 0 rfl) ?_
  refine gM_0_worths C hX12_most_0_X12 hK hP mX12_most_0_2 dX12_most_7 ?_
  refine lv_iload_n C.1 C.2.1 dX12_most_10 rfl (lv_at hl 1 rfl) ?_
  obtain ⟨hg2, h⟩ := gd_some h
  refine lM_18 C hK hP hg2 dX12_most_11 ?_
  obtain ⟨r3, hc5, h⟩ := bd_some h
  refine cs_i (As := [.int (u.2.1 16 x1.toNatClampNeg), .int (u.2.1 18 x1.toNatClampNeg)]) (rest := []) (AM_ge hJ) C hK hP hS (metX12_shines l D cy st _ (u.2.1 16 x1.toNatClampNeg) (u.2.1 18 x1.toNatClampNeg) hc5) (va_cwS 2 C.2.2.2.2.2.1 gX12_most_X12_shines rfl rfl rfl (by decide +kernel) ⟨(Nat.le_of_ble_eq_true rfl), (Nat.le_of_ble_eq_true rfl)⟩) rfl hl.1 rfl (Nat.le_of_ble_eq_true rfl) dX12_most_12 ⟨Nat.zero_le _, Nat.zero_le _⟩ (fun H locs hP hS => ?_)
  refine lv_aload_n C.1 C.2.1 dX12_most_15 rfl (lv_at hl 0 rfl) ?_
  refine gM_0_to C hX12_most_0_X12 hK hP mX12_most_0_3 dX12_most_16 ?_
  refine lv_iload_n C.1 C.2.1 dX12_most_19 rfl (lv_at hl 1 rfl) ?_
  obtain ⟨hg6, h⟩ := gd_some h
  refine lM_17 C hK hP hg6 dX12_most_20 ?_
  refine lv_aload_n C.1 C.2.1 dX12_most_21 rfl (lv_at hl 0 rfl) ?_
  refine gM_0_worths C hX12_most_0_X12 hK hP mX12_most_0_2 dX12_most_22 ?_
  refine lv_iload_n C.1 C.2.1 dX12_most_25 rfl (lv_at hl 1 rfl) ?_
  obtain ⟨hg7, h⟩ := gd_some h
  refine lM_18 C hK hP hg7 dX12_most_26 ?_
  obtain ⟨r8, hc10, h⟩ := bd_some h
  refine cs_i (As := [.int (u.2.1 17 x1.toNatClampNeg), .int (u.2.1 18 x1.toNatClampNeg)]) (rest := [.int r3]) (AM_ge hJ) C hK hP hS (metX12_shines l D cy st _ (u.2.1 17 x1.toNatClampNeg) (u.2.1 18 x1.toNatClampNeg) hc10) (va_cwS 2 C.2.2.2.2.2.1 gX12_most_X12_shines rfl rfl rfl (by decide +kernel) ⟨(Nat.le_of_ble_eq_true rfl), (Nat.le_of_ble_eq_true rfl)⟩) rfl hl.1 rfl (Nat.le_of_ble_eq_true rfl) dX12_most_27 ⟨Nat.zero_le _, Nat.zero_le _⟩ (fun H locs hP hS => ?_)
  refine va_mmax C.1 C.2.1 (C.2.2.1.trans hl.1.symm) C.2.2.2.2.1 (C.2.2.2.2.2.1 _ mX12_most_0_4) (C.2.2.2.2.2.1 _ mX12_most_0_5) (C.2.2.2.2.2.1 _ mX12_most_0_6) (C.2.2.2.2.2.1 _ mX12_most_0_7) (Nat.le_of_ble_eq_true rfl) (Nat.le_of_ble_eq_true rfl) (Nat.zero_le _) (Nat.zero_le _) dX12_most_30 ?_
  cases h
  exact rt_i C hP hS dX12_most_33
theorem metX12_most_0 (l : Launch) (D : va_G) (cy : Nat → ClassId) (ad st : Nat → Nat) (hJ : JM ad st) (sz : Nat) (x1 : Int32) {u : SX} {r : Int32} {u' : SX} (h : fX12_most_0 x1 u = some (r, u')) : Met l yX12_most wsX12_most rmX12_most_0 (va_Pc [.ref (ad 0), .int x1] (Px D [(cy 0, .int), (cy 1, .long), (cy 2, .boolean), (cy 3, .byte), (cy 4, .object "HissHorn$Text")] st (VM cy ad st) sz u)) (Qi D (VM cy ad st) (AM ad) sz r u') 0 0 (Ax (AM ad) sz) := by
  refine Met.ofW (cc := cX12_most) (maxL := 2) (ret := (some .int)) (by decide) rfl ?_
  intro p e s m args below meth c s₁ B hml hv
  obtain ⟨rfl, hsz, hP, hK⟩ := hv
  subst hsz
  have C : Cx RX12 cX12_most 2 (some .int) wsX12_most p s m _ meth c := ⟨B.exec, B.bytes, hml, B.returns, findClass_of_methodNamed B.named, atoms_spec (ws := wsX12_most) B.pre, B.notSynchronized⟩
  have hl := lv_entry ([.ref (ad 0), .int x1]) (n := 2) (Nat.le_of_ble_eq_true rfl)
  rw [lg_entry_eq]
  exact wX12_most_0 C hK hJ x1 h hP va_S.rf hl

theorem zdX12_least_0 : (and (and (and (and (and (zk cX12_least 0 (.aload_n 0) 1) (zk cX12_least 1 (.getfield 65) 3)) (zk cX12_least 4 (.iload_n 1) 1)) (and (zk cX12_least 5 (.iaload) 1) (zk cX12_least 6 (.aload_n 0) 1))) (and (and (and (zk cX12_least 7 (.getfield 71) 3) (zk cX12_least 10 (.iload_n 1) 1)) (zk cX12_least 11 (.iaload) 1)) (and (zk cX12_least 12 (.invokestatic 323) 3) (zk cX12_least 15 (.aload_n 0) 1)))) (and (and (and (and (zk cX12_least 16 (.getfield 68) 3) (zk cX12_least 19 (.iload_n 1) 1)) (zk cX12_least 20 (.iaload) 1)) (and (zk cX12_least 21 (.aload_n 0) 1) (zk cX12_least 22 (.getfield 71) 3))) (and (and (and (zk cX12_least 25 (.iload_n 1) 1) (zk cX12_least 26 (.iaload) 1)) (zk cX12_least 27 (.invokestatic 323) 3)) (and (zk cX12_least 30 (.invokestatic 295) 3) (zk cX12_least 33 (.ireturn) 1))))) = true := by decide +kernel
theorem dX12_least_0 : decode cX12_least 0 = .ok (.aload_n 0, 1) := zk_of (zk_l (zk_l (zk_l (zk_l (zk_l zdX12_least_0)))))
theorem dX12_least_1 : decode cX12_least 1 = .ok (.getfield 65, 3) := zk_of (zk_r (zk_l (zk_l (zk_l (zk_l zdX12_least_0)))))
theorem dX12_least_4 : decode cX12_least 4 = .ok (.iload_n 1, 1) := zk_of (zk_r (zk_l (zk_l (zk_l zdX12_least_0))))
theorem dX12_least_5 : decode cX12_least 5 = .ok (.iaload, 1) := zk_of (zk_l (zk_r (zk_l (zk_l zdX12_least_0))))
theorem dX12_least_6 : decode cX12_least 6 = .ok (.aload_n 0, 1) := zk_of (zk_r (zk_r (zk_l (zk_l zdX12_least_0))))
theorem dX12_least_7 : decode cX12_least 7 = .ok (.getfield 71, 3) := zk_of (zk_l (zk_l (zk_l (zk_r (zk_l zdX12_least_0)))))
theorem dX12_least_10 : decode cX12_least 10 = .ok (.iload_n 1, 1) := zk_of (zk_r (zk_l (zk_l (zk_r (zk_l zdX12_least_0)))))
theorem dX12_least_11 : decode cX12_least 11 = .ok (.iaload, 1) := zk_of (zk_r (zk_l (zk_r (zk_l zdX12_least_0))))
theorem dX12_least_12 : decode cX12_least 12 = .ok (.invokestatic 323, 3) := zk_of (zk_l (zk_r (zk_r (zk_l zdX12_least_0))))
theorem dX12_least_15 : decode cX12_least 15 = .ok (.aload_n 0, 1) := zk_of (zk_r (zk_r (zk_r (zk_l zdX12_least_0))))
theorem dX12_least_16 : decode cX12_least 16 = .ok (.getfield 68, 3) := zk_of (zk_l (zk_l (zk_l (zk_l (zk_r zdX12_least_0)))))
theorem dX12_least_19 : decode cX12_least 19 = .ok (.iload_n 1, 1) := zk_of (zk_r (zk_l (zk_l (zk_l (zk_r zdX12_least_0)))))
theorem dX12_least_20 : decode cX12_least 20 = .ok (.iaload, 1) := zk_of (zk_r (zk_l (zk_l (zk_r zdX12_least_0))))
theorem dX12_least_21 : decode cX12_least 21 = .ok (.aload_n 0, 1) := zk_of (zk_l (zk_r (zk_l (zk_r zdX12_least_0))))
theorem dX12_least_22 : decode cX12_least 22 = .ok (.getfield 71, 3) := zk_of (zk_r (zk_r (zk_l (zk_r zdX12_least_0))))
theorem dX12_least_25 : decode cX12_least 25 = .ok (.iload_n 1, 1) := zk_of (zk_l (zk_l (zk_l (zk_r (zk_r zdX12_least_0)))))
theorem dX12_least_26 : decode cX12_least 26 = .ok (.iaload, 1) := zk_of (zk_r (zk_l (zk_l (zk_r (zk_r zdX12_least_0)))))
theorem dX12_least_27 : decode cX12_least 27 = .ok (.invokestatic 323, 3) := zk_of (zk_r (zk_l (zk_r (zk_r zdX12_least_0))))
theorem dX12_least_30 : decode cX12_least 30 = .ok (.invokestatic 295, 3) := zk_of (zk_l (zk_r (zk_r (zk_r zdX12_least_0))))
theorem dX12_least_33 : decode cX12_least 33 = .ok (.ireturn, 1) := zk_of (zk_r (zk_r (zk_r (zk_r zdX12_least_0))))
set_option maxRecDepth 20000 in
theorem ggX12_least_X12_shines : GoodIn wsX12_least wsX12_shines := ggi (fun w h => List.mem_cons_of_mem _ (List.mem_append_left _ (List.mem_append_right _ h))) gs_X12_shines
set_option maxRecDepth 20000 in
theorem gX12_least_X12_shines : GoodIn wsX12_least (va_wsS RX12 323 yX12_shines wsX12_shines) := goodIn_app (goodIn_of _ (by decide +kernel)) ggX12_least_X12_shines
/-- HissHornModel.least(I)I of cell 0 -/
def rmX12_least_0 : Room := { frames := 1, cells := 0, slots := 0, locals := 21 }
theorem hX12_least_0_X12 : ∀ w ∈ u_ws RX12 TX12 69, w ∈ wsX12_least := fun w h => (List.mem_cons_of_mem _ (List.mem_append_right _ h))
theorem mX12_least_0_1 : Cond.fieldLink RX12 65 "HissHornModel" "from" "[I" ∈ wsX12_least := (List.mem_cons_of_mem _ (List.mem_append_left _ (List.mem_append_left _ (List.mem_of_getElem? (i := 3) rfl))))
theorem mX12_least_0_2 : Cond.fieldLink RX12 71 "HissHornModel" "worths" "[I" ∈ wsX12_least := (List.mem_cons_of_mem _ (List.mem_append_left _ (List.mem_append_left _ (List.mem_of_getElem? (i := 4) rfl))))
theorem mX12_least_0_3 : Cond.fieldLink RX12 68 "HissHornModel" "to" "[I" ∈ wsX12_least := (List.mem_cons_of_mem _ (List.mem_append_left _ (List.mem_append_left _ (List.mem_of_getElem? (i := 5) rfl))))
theorem mX12_least_0_4 : Cond.methodLink RX12 295 Lib.Math.min.name ∈ wsX12_least := (List.mem_cons_of_mem _ (List.mem_append_left _ (List.mem_append_left _ (List.mem_of_getElem? (i := 6) rfl))))
theorem mX12_least_0_5 : Cond.static Lib.Math.min.name ∈ wsX12_least := (List.mem_cons_of_mem _ (List.mem_append_left _ (List.mem_append_left _ (List.mem_of_getElem? (i := 7) rfl))))
theorem mX12_least_0_6 : Cond.initialized "java/lang/Math" ∈ wsX12_least := (List.mem_cons_of_mem _ (List.mem_append_left _ (List.mem_append_left _ (List.mem_of_getElem? (i := 8) rfl))))
theorem mX12_least_0_7 : Cond.code Lib.Math.min.name Lib.Math.min.code 2 (some .int) ∈ wsX12_least := (List.mem_cons_of_mem _ (List.mem_append_left _ (List.mem_append_left _ (List.mem_of_getElem? (i := 9) rfl))))
def fX12_least_0 (x1 : Int32) (u : SX) : Option (Int32 × SX) := (gd (inb x1 12) (gd (inb x1 12) ((fX12_shines (u.2.1 16 x1.toNatClampNeg) (u.2.1 18 x1.toNatClampNeg)).bind fun r3 => (gd (inb x1 12) (gd (inb x1 12) ((fX12_shines (u.2.1 17 x1.toNatClampNeg) (u.2.1 18 x1.toNatClampNeg)).bind fun r8 => (some (if r8 < r3 then r8 else r3, u))))))))
set_option maxHeartbeats 4000000 in
set_option maxRecDepth 100000 in
theorem wX12_least_0 {p : Program} {l : Launch} {e : Env} {s : State} {m : MethodId} {args : Array Value} {below : List Frame} {meth : Method} {c : Code} {D : va_G} {cy : Nat → ClassId} {ad st : Nat → Nat} (C : Cx RX12 cX12_least 2 (some .int) wsX12_least p s m args meth c) (hK : Ky D [(cy 0, .int), (cy 1, .long), (cy 2, .boolean), (cy 3, .byte), (cy 4, .object "HissHorn$Text")] st s) (hJ : JM ad st) (x1 : Int32) {u : SX} {r : Int32} {u' : SX} {H : Heap} {locs : List Loc} {ls : Array Slot} (h : fX12_least_0 x1 u = some (r, u')) (hP : va_P D vwCl (VM cy ad st u) H) (hS : va_S (Ax (AM ad) s.heap.size) s.heap H locs) (hl : lv_has ls 2 [(0, .ref (ad 0)), (1, .int x1)]) : W p l e rmX12_least_0 s m args below meth c H locs 0 0 (MQ below (Qi D (VM cy ad st) (AM ad) s.heap.size r u') args s 0 0 (Ax (AM ad) s.heap.size)) (F0 m 0 ls []) := by
  unfold fX12_least_0 at h
  refine lv_aload_n C.1 C.2.1 dX12_least_0 rfl (lv_at hl 0 rfl) ?_
  refine gM_0_from C hX12_least_0_X12 hK hP mX12_least_0_1 dX12_least_1 ?_
  refine lv_iload_n C.1 C.2.1 dX12_least_4 rfl (lv_at hl 1 rfl) ?_
  obtain ⟨hg1, h⟩ := gd_some h
  refine lM_16 C hK hP hg1 dX12_least_5 ?_
  refine lv_aload_n C.1 C.2.1 dX12_least_6 rfl (lv_at hl 0 rfl) ?_
  refine gM_0_worths C hX12_least_0_X12 hK hP mX12_least_0_2 dX12_least_7 ?_
  refine lv_iload_n C.1 C.2.1 dX12_least_10 rfl (lv_at hl 1 rfl) ?_
  obtain ⟨hg2, h⟩ := gd_some h
  refine lM_18 C hK hP hg2 dX12_least_11 ?_
  obtain ⟨r3, hc5, h⟩ := bd_some h
  refine cs_i (As := [.int (u.2.1 16 x1.toNatClampNeg), .int (u.2.1 18 x1.toNatClampNeg)]) (rest := []) (AM_ge hJ) C hK hP hS (metX12_shines l D cy st _ (u.2.1 16 x1.toNatClampNeg) (u.2.1 18 x1.toNatClampNeg) hc5) (va_cwS 2 C.2.2.2.2.2.1 gX12_least_X12_shines rfl rfl rfl (by decide +kernel) ⟨(Nat.le_of_ble_eq_true rfl), (Nat.le_of_ble_eq_true rfl)⟩) rfl hl.1 rfl (Nat.le_of_ble_eq_true rfl) dX12_least_12 ⟨Nat.zero_le _, Nat.zero_le _⟩ (fun H locs hP hS => ?_)
  refine lv_aload_n C.1 C.2.1 dX12_least_15 rfl (lv_at hl 0 rfl) ?_
  refine gM_0_to C hX12_least_0_X12 hK hP mX12_least_0_3 dX12_least_16 ?_
  refine lv_iload_n C.1 C.2.1 dX12_least_19 rfl (lv_at hl 1 rfl) ?_
  obtain ⟨hg6, h⟩ := gd_some h
  refine lM_17 C hK hP hg6 dX12_least_20 ?_
  refine lv_aload_n C.1 C.2.1 dX12_least_21 rfl (lv_at hl 0 rfl) ?_
  refine gM_0_worths C hX12_least_0_X12 hK hP mX12_least_0_2 dX12_least_22 ?_
  refine lv_iload_n C.1 C.2.1 dX12_least_25 rfl (lv_at hl 1 rfl) ?_
  obtain ⟨hg7, h⟩ := gd_some h
  refine lM_18 C hK hP hg7 dX12_least_26 ?_
  obtain ⟨r8, hc10, h⟩ := bd_some h
  refine cs_i (As := [.int (u.2.1 17 x1.toNatClampNeg), .int (u.2.1 18 x1.toNatClampNeg)]) (rest := [.int r3]) (AM_ge hJ) C hK hP hS (metX12_shines l D cy st _ (u.2.1 17 x1.toNatClampNeg) (u.2.1 18 x1.toNatClampNeg) hc10) (va_cwS 2 C.2.2.2.2.2.1 gX12_least_X12_shines rfl rfl rfl (by decide +kernel) ⟨(Nat.le_of_ble_eq_true rfl), (Nat.le_of_ble_eq_true rfl)⟩) rfl hl.1 rfl (Nat.le_of_ble_eq_true rfl) dX12_least_27 ⟨Nat.zero_le _, Nat.zero_le _⟩ (fun H locs hP hS => ?_)
  refine va_mmin C.1 C.2.1 (C.2.2.1.trans hl.1.symm) C.2.2.2.2.1 (C.2.2.2.2.2.1 _ mX12_least_0_4) (C.2.2.2.2.2.1 _ mX12_least_0_5) (C.2.2.2.2.2.1 _ mX12_least_0_6) (C.2.2.2.2.2.1 _ mX12_least_0_7) (Nat.le_of_ble_eq_true rfl) (Nat.le_of_ble_eq_true rfl) (Nat.zero_le _) (Nat.zero_le _) dX12_least_30 ?_
  cases h
  exact rt_i C hP hS dX12_least_33
theorem metX12_least_0 (l : Launch) (D : va_G) (cy : Nat → ClassId) (ad st : Nat → Nat) (hJ : JM ad st) (sz : Nat) (x1 : Int32) {u : SX} {r : Int32} {u' : SX} (h : fX12_least_0 x1 u = some (r, u')) : Met l yX12_least wsX12_least rmX12_least_0 (va_Pc [.ref (ad 0), .int x1] (Px D [(cy 0, .int), (cy 1, .long), (cy 2, .boolean), (cy 3, .byte), (cy 4, .object "HissHorn$Text")] st (VM cy ad st) sz u)) (Qi D (VM cy ad st) (AM ad) sz r u') 0 0 (Ax (AM ad) sz) := by
  refine Met.ofW (cc := cX12_least) (maxL := 2) (ret := (some .int)) (by decide) rfl ?_
  intro p e s m args below meth c s₁ B hml hv
  obtain ⟨rfl, hsz, hP, hK⟩ := hv
  subst hsz
  have C : Cx RX12 cX12_least 2 (some .int) wsX12_least p s m _ meth c := ⟨B.exec, B.bytes, hml, B.returns, findClass_of_methodNamed B.named, atoms_spec (ws := wsX12_least) B.pre, B.notSynchronized⟩
  have hl := lv_entry ([.ref (ad 0), .int x1]) (n := 2) (Nat.le_of_ble_eq_true rfl)
  rw [lg_entry_eq]
  exact wX12_least_0 C hK hJ x1 h hP va_S.rf hl

theorem zdX12_layLeft_76 : (and (and (and (and (and (zk cX12_layLeft 76 (.iinc 3 1) 3) (zk cX12_layLeft 79 (.goto (-52)) 3)) (and (zk cX12_layLeft 27 (.iload_n 3) 1) (zk cX12_layLeft 28 (.aload_n 0) 1))) (and (and (zk cX12_layLeft 29 (.getfield 286) 3) (zk cX12_layLeft 32 (.if_icmp .ge 50) 3)) (and (zk cX12_layLeft 82 (.return_) 1) (zk cX12_layLeft 35 (.aload_n 0) 1)))) (and (and (and (zk cX12_layLeft 36 (.getfield 47) 3) (zk cX12_layLeft 39 (.iload_n 3) 1)) (and (zk cX12_layLeft 40 (.iaload) 1) (zk cX12_layLeft 41 (.iload_n 2) 1))) (and (and (zk cX12_layLeft 42 (.if_icmp .le 6) 3) (zk cX12_layLeft 48 (.aload_n 0) 1)) (and (zk cX12_layLeft 49 (.dup) 1) (zk cX12_layLeft 50 (.getfield 346) 3))))) (and (and (and (and (zk cX12_layLeft 53 (.aload_n 0) 1) (zk cX12_layLeft 54 (.iload_n 3) 1)) (and (zk cX12_layLeft 55 (.invokevirtual 352) 3) (zk cX12_layLeft 58 (.isub) 1))) (and (and (zk cX12_layLeft 59 (.putfield 346) 3) (zk cX12_layLeft 62 (.aload_n 0) 1)) (and (zk cX12_layLeft 63 (.dup) 1) (zk cX12_layLeft 64 (.getfield 349) 3)))) (and (and (and (zk cX12_layLeft 67 (.aload_n 0) 1) (zk cX12_layLeft 68 (.iload_n 3) 1)) (and (zk cX12_layLeft 69 (.invokevirtual 355) 3) (zk cX12_layLeft 72 (.isub) 1))) (and (and (zk cX12_layLeft 73 (.putfield 349) 3) (zk cX12_layLeft 45 (.goto 31) 3)) (and (zk cX12_layLeft 0 (.aload_n 0) 1) (zk cX12_layLeft 1 (.iload_n 1) 1)))))) = true := by decide +kernel
theorem dX12_layLeft_76 : decode cX12_layLeft 76 = .ok (.iinc 3 1, 3) := zk_of (zk_l (zk_l (zk_l (zk_l (zk_l zdX12_layLeft_76)))))
theorem dX12_layLeft_79 : decode cX12_layLeft 79 = .ok (.goto (-52), 3) := zk_of (zk_r (zk_l (zk_l (zk_l (zk_l zdX12_layLeft_76)))))
theorem dX12_layLeft_27 : decode cX12_layLeft 27 = .ok (.iload_n 3, 1) := zk_of (zk_l (zk_r (zk_l (zk_l (zk_l zdX12_layLeft_76)))))
theorem dX12_layLeft_28 : decode cX12_layLeft 28 = .ok (.aload_n 0, 1) := zk_of (zk_r (zk_r (zk_l (zk_l (zk_l zdX12_layLeft_76)))))
theorem dX12_layLeft_29 : decode cX12_layLeft 29 = .ok (.getfield 286, 3) := zk_of (zk_l (zk_l (zk_r (zk_l (zk_l zdX12_layLeft_76)))))
theorem dX12_layLeft_32 : decode cX12_layLeft 32 = .ok (.if_icmp .ge 50, 3) := zk_of (zk_r (zk_l (zk_r (zk_l (zk_l zdX12_layLeft_76)))))
theorem dX12_layLeft_82 : decode cX12_layLeft 82 = .ok (.return_, 1) := zk_of (zk_l (zk_r (zk_r (zk_l (zk_l zdX12_layLeft_76)))))
theorem dX12_layLeft_35 : decode cX12_layLeft 35 = .ok (.aload_n 0, 1) := zk_of (zk_r (zk_r (zk_r (zk_l (zk_l zdX12_layLeft_76)))))
theorem dX12_layLeft_36 : decode cX12_layLeft 36 = .ok (.getfield 47, 3) := zk_of (zk_l (zk_l (zk_l (zk_r (zk_l zdX12_layLeft_76)))))
theorem dX12_layLeft_39 : decode cX12_layLeft 39 = .ok (.iload_n 3, 1) := zk_of (zk_r (zk_l (zk_l (zk_r (zk_l zdX12_layLeft_76)))))
theorem dX12_layLeft_40 : decode cX12_layLeft 40 = .ok (.iaload, 1) := zk_of (zk_l (zk_r (zk_l (zk_r (zk_l zdX12_layLeft_76)))))
theorem dX12_layLeft_41 : decode cX12_layLeft 41 = .ok (.iload_n 2, 1) := zk_of (zk_r (zk_r (zk_l (zk_r (zk_l zdX12_layLeft_76)))))
theorem dX12_layLeft_42 : decode cX12_layLeft 42 = .ok (.if_icmp .le 6, 3) := zk_of (zk_l (zk_l (zk_r (zk_r (zk_l zdX12_layLeft_76)))))
theorem dX12_layLeft_48 : decode cX12_layLeft 48 = .ok (.aload_n 0, 1) := zk_of (zk_r (zk_l (zk_r (zk_r (zk_l zdX12_layLeft_76)))))
theorem dX12_layLeft_49 : decode cX12_layLeft 49 = .ok (.dup, 1) := zk_of (zk_l (zk_r (zk_r (zk_r (zk_l zdX12_layLeft_76)))))
theorem dX12_layLeft_50 : decode cX12_layLeft 50 = .ok (.getfield 346, 3) := zk_of (zk_r (zk_r (zk_r (zk_r (zk_l zdX12_layLeft_76)))))
theorem dX12_layLeft_53 : decode cX12_layLeft 53 = .ok (.aload_n 0, 1) := zk_of (zk_l (zk_l (zk_l (zk_l (zk_r zdX12_layLeft_76)))))
theorem dX12_layLeft_54 : decode cX12_layLeft 54 = .ok (.iload_n 3, 1) := zk_of (zk_r (zk_l (zk_l (zk_l (zk_r zdX12_layLeft_76)))))
theorem dX12_layLeft_55 : decode cX12_layLeft 55 = .ok (.invokevirtual 352, 3) := zk_of (zk_l (zk_r (zk_l (zk_l (zk_r zdX12_layLeft_76)))))
theorem dX12_layLeft_58 : decode cX12_layLeft 58 = .ok (.isub, 1) := zk_of (zk_r (zk_r (zk_l (zk_l (zk_r zdX12_layLeft_76)))))
theorem dX12_layLeft_59 : decode cX12_layLeft 59 = .ok (.putfield 346, 3) := zk_of (zk_l (zk_l (zk_r (zk_l (zk_r zdX12_layLeft_76)))))
theorem dX12_layLeft_62 : decode cX12_layLeft 62 = .ok (.aload_n 0, 1) := zk_of (zk_r (zk_l (zk_r (zk_l (zk_r zdX12_layLeft_76)))))
theorem dX12_layLeft_63 : decode cX12_layLeft 63 = .ok (.dup, 1) := zk_of (zk_l (zk_r (zk_r (zk_l (zk_r zdX12_layLeft_76)))))
theorem dX12_layLeft_64 : decode cX12_layLeft 64 = .ok (.getfield 349, 3) := zk_of (zk_r (zk_r (zk_r (zk_l (zk_r zdX12_layLeft_76)))))
theorem dX12_layLeft_67 : decode cX12_layLeft 67 = .ok (.aload_n 0, 1) := zk_of (zk_l (zk_l (zk_l (zk_r (zk_r zdX12_layLeft_76)))))
theorem dX12_layLeft_68 : decode cX12_layLeft 68 = .ok (.iload_n 3, 1) := zk_of (zk_r (zk_l (zk_l (zk_r (zk_r zdX12_layLeft_76)))))
theorem dX12_layLeft_69 : decode cX12_layLeft 69 = .ok (.invokevirtual 355, 3) := zk_of (zk_l (zk_r (zk_l (zk_r (zk_r zdX12_layLeft_76)))))
theorem dX12_layLeft_72 : decode cX12_layLeft 72 = .ok (.isub, 1) := zk_of (zk_r (zk_r (zk_l (zk_r (zk_r zdX12_layLeft_76)))))
theorem dX12_layLeft_73 : decode cX12_layLeft 73 = .ok (.putfield 349, 3) := zk_of (zk_l (zk_l (zk_r (zk_r (zk_r zdX12_layLeft_76)))))
theorem dX12_layLeft_45 : decode cX12_layLeft 45 = .ok (.goto 31, 3) := zk_of (zk_r (zk_l (zk_r (zk_r (zk_r zdX12_layLeft_76)))))
theorem dX12_layLeft_0 : decode cX12_layLeft 0 = .ok (.aload_n 0, 1) := zk_of (zk_l (zk_r (zk_r (zk_r (zk_r zdX12_layLeft_76)))))
theorem dX12_layLeft_1 : decode cX12_layLeft 1 = .ok (.iload_n 1, 1) := zk_of (zk_r (zk_r (zk_r (zk_r (zk_r zdX12_layLeft_76)))))
set_option maxRecDepth 20000 in
theorem ggX12_layLeft_X12_most : GoodIn wsX12_layLeft wsX12_most := ggi (fun w h => List.mem_cons_of_mem _ (List.mem_append_left _ (List.mem_append_right _ (List.mem_append_left _ h)))) gs_X12_most
set_option maxRecDepth 20000 in
theorem gX12_layLeft_X12_most : GoodIn wsX12_layLeft (wsV RX12 352 RX12 yX12_most wsX12_most) := goodIn_app (goodIn_of _ (by decide +kernel)) ggX12_layLeft_X12_most
set_option maxRecDepth 20000 in
theorem ggX12_layLeft_X12_least : GoodIn wsX12_layLeft wsX12_least := ggi (fun w h => List.mem_cons_of_mem _ (List.mem_append_left _ (List.mem_append_right _ (List.mem_append_right _ (List.mem_append_left _ h))))) gs_X12_least
set_option maxRecDepth 20000 in
theorem gX12_layLeft_X12_least : GoodIn wsX12_layLeft (wsV RX12 355 RX12 yX12_least wsX12_least) := goodIn_app (goodIn_of _ (by decide +kernel)) ggX12_layLeft_X12_least
set_option maxRecDepth 20000 in
theorem ggX12_layLeft_X12_layWorthsOf : GoodIn wsX12_layLeft wsX12_layWorthsOf := ggi (fun w h => List.mem_cons_of_mem _ (List.mem_append_left _ (List.mem_append_right _ (List.mem_append_right _ (List.mem_append_right _ h))))) gs_X12_layWorthsOf
set_option maxRecDepth 20000 in
theorem gX12_layLeft_X12_layWorthsOf : GoodIn wsX12_layLeft (wsV RX12 343 RX12 yX12_layWorthsOf wsX12_layWorthsOf) := goodIn_app (goodIn_of _ (by decide +kernel)) ggX12_layLeft_X12_layWorthsOf
theorem zdX12_layLeft_2 : (and (and (and (and (zk cX12_layLeft 2 (.invokevirtual 343) 3) (zk cX12_layLeft 5 (.aload_n 0) 1)) (and (zk cX12_layLeft 6 (.aload_n 0) 1) (zk cX12_layLeft 7 (.getfield 77) 3))) (and (and (zk cX12_layLeft 10 (.iload_n 1) 1) (zk cX12_layLeft 11 (.iaload) 1)) (and (zk cX12_layLeft 12 (.putfield 346) 3) (zk cX12_layLeft 15 (.aload_n 0) 1)))) (and (and (and (zk cX12_layLeft 16 (.aload_n 0) 1) (zk cX12_layLeft 17 (.getfield 77) 3)) (and (zk cX12_layLeft 20 (.iload_n 1) 1) (zk cX12_layLeft 21 (.iaload) 1))) (and (and (zk cX12_layLeft 22 (.putfield 349) 3) (zk cX12_layLeft 25 (.iconst 0) 1)) (zk cX12_layLeft 26 (.istore_n 3) 1)))) = true := by decide +kernel
theorem dX12_layLeft_2 : decode cX12_layLeft 2 = .ok (.invokevirtual 343, 3) := zk_of (zk_l (zk_l (zk_l (zk_l zdX12_layLeft_2))))
theorem dX12_layLeft_5 : decode cX12_layLeft 5 = .ok (.aload_n 0, 1) := zk_of (zk_r (zk_l (zk_l (zk_l zdX12_layLeft_2))))
theorem dX12_layLeft_6 : decode cX12_layLeft 6 = .ok (.aload_n 0, 1) := zk_of (zk_l (zk_r (zk_l (zk_l zdX12_layLeft_2))))
theorem dX12_layLeft_7 : decode cX12_layLeft 7 = .ok (.getfield 77, 3) := zk_of (zk_r (zk_r (zk_l (zk_l zdX12_layLeft_2))))
theorem dX12_layLeft_10 : decode cX12_layLeft 10 = .ok (.iload_n 1, 1) := zk_of (zk_l (zk_l (zk_r (zk_l zdX12_layLeft_2))))
theorem dX12_layLeft_11 : decode cX12_layLeft 11 = .ok (.iaload, 1) := zk_of (zk_r (zk_l (zk_r (zk_l zdX12_layLeft_2))))
theorem dX12_layLeft_12 : decode cX12_layLeft 12 = .ok (.putfield 346, 3) := zk_of (zk_l (zk_r (zk_r (zk_l zdX12_layLeft_2))))
theorem dX12_layLeft_15 : decode cX12_layLeft 15 = .ok (.aload_n 0, 1) := zk_of (zk_r (zk_r (zk_r (zk_l zdX12_layLeft_2))))
theorem dX12_layLeft_16 : decode cX12_layLeft 16 = .ok (.aload_n 0, 1) := zk_of (zk_l (zk_l (zk_l (zk_r zdX12_layLeft_2))))
theorem dX12_layLeft_17 : decode cX12_layLeft 17 = .ok (.getfield 77, 3) := zk_of (zk_r (zk_l (zk_l (zk_r zdX12_layLeft_2))))
theorem dX12_layLeft_20 : decode cX12_layLeft 20 = .ok (.iload_n 1, 1) := zk_of (zk_l (zk_r (zk_l (zk_r zdX12_layLeft_2))))
theorem dX12_layLeft_21 : decode cX12_layLeft 21 = .ok (.iaload, 1) := zk_of (zk_r (zk_r (zk_l (zk_r zdX12_layLeft_2))))
theorem dX12_layLeft_22 : decode cX12_layLeft 22 = .ok (.putfield 349, 3) := zk_of (zk_l (zk_l (zk_r (zk_r zdX12_layLeft_2))))
theorem dX12_layLeft_25 : decode cX12_layLeft 25 = .ok (.iconst 0, 1) := zk_of (zk_r (zk_l (zk_r (zk_r zdX12_layLeft_2))))
theorem dX12_layLeft_26 : decode cX12_layLeft 26 = .ok (.istore_n 3, 1) := zk_of (zk_r (zk_r (zk_r zdX12_layLeft_2)))
/-- HissHornModel.layLeft(II)V of cell 0 -/
def rmX12_layLeft_0 : Room := { frames := 141, cells := 0, slots := 0, locals := 8502 }
theorem hX12_layLeft_0_X12 : ∀ w ∈ u_ws RX12 TX12 69, w ∈ wsX12_layLeft := fun w h => (List.mem_cons_of_mem _ (List.mem_append_right _ h))
theorem mX12_layLeft_0_1 : Cond.fieldLink RX12 77 "HissHornModel" "number" "[I" ∈ wsX12_layLeft := (List.mem_cons_of_mem _ (List.mem_append_left _ (List.mem_append_left _ (List.mem_of_getElem? (i := 10) rfl))))
theorem mX12_layLeft_0_2 : Cond.fieldLink RX12 346 "HissHornModel" "leftFrom" "I" ∈ wsX12_layLeft := (List.mem_cons_of_mem _ (List.mem_append_left _ (List.mem_append_left _ (List.mem_of_getElem? (i := 11) rfl))))
theorem mX12_layLeft_0_3 : Cond.fieldLink RX12 349 "HissHornModel" "leftTo" "I" ∈ wsX12_layLeft := (List.mem_cons_of_mem _ (List.mem_append_left _ (List.mem_append_left _ (List.mem_of_getElem? (i := 12) rfl))))
theorem mX12_layLeft_0_4 : Cond.fieldLink RX12 286 "HissHornModel" "parts" "I" ∈ wsX12_layLeft := (List.mem_cons_of_mem _ (List.mem_append_left _ (List.mem_append_left _ (List.mem_of_getElem? (i := 13) rfl))))
theorem mX12_layLeft_0_5 : Cond.fieldLink RX12 47 "HissHornModel" "partTold" "[I" ∈ wsX12_layLeft := (List.mem_cons_of_mem _ (List.mem_append_left _ (List.mem_append_left _ (List.mem_of_getElem? (i := 14) rfl))))
def GX12_layLeft_0_76 (k27 : Int32 → Int32 → SX → Option (Int32 × SX)) (z2 : Int32) (z3 : Int32) (u : SX) : Option (Int32 × SX) := (k27 z2 (z3 + 1) u)
def LX12_layLeft_0_27  : Nat → Int32 → Int32 → SX → Option (Int32 × SX)
  | 0, _, _, _ => none
  | n + 1, z2, z3, u => (if (u.1 12) ≤ z3 then (some (0, u)) else (gd (inb z3 12) (if (u.2.1 10 z3.toNatClampNeg) ≤ z2 then ((fX12_most_0 z3 u).bind fun q => match q with | (r11, u12) => (lt (sI u12 16 ((u.1 16) - r11)) fun u14 => ((fX12_least_0 z3 u14).bind fun q => match q with | (r16, u17) => (lt (sI u17 17 ((u14.1 17) - r16)) fun u19 => (GX12_layLeft_0_76 (LX12_layLeft_0_27 n) z2 z3 u19))))) else (GX12_layLeft_0_76 (LX12_layLeft_0_27 n) z2 z3 u))))
def fX12_layLeft_0 (x1 : Int32) (x2 : Int32) (u : SX) : Option (Int32 × SX) := ((fX12_layWorthsOf_0 x1 u).bind fun q => match q with | (r1, u2) => (gd (inb x1 80) (lt (sI u2 16 (u2.2.1 20 x1.toNatClampNeg)) fun u5 => (gd (inb x1 80) (lt (sI u5 17 (u5.2.1 20 x1.toNatClampNeg)) fun u8 => (LX12_layLeft_0_27  5000 x2 0 u8))))))
set_option maxHeartbeats 4000000 in
set_option maxRecDepth 100000 in
theorem wGX12_layLeft_0_76 {p : Program} {l : Launch} {e : Env} {s : State} {m : MethodId} {args : Array Value} {below : List Frame} {meth : Method} {c : Code} {D : va_G} {cy : Nat → ClassId} {ad st : Nat → Nat} (C : Cx RX12 cX12_layLeft 4 none wsX12_layLeft p s m args meth c) (hK : Ky D [(cy 0, .int), (cy 1, .long), (cy 2, .boolean), (cy 3, .byte), (cy 4, .object "HissHorn$Text")] st s) (hJ : JM ad st) {r : Int32} {u' : SX} {k27 : Int32 → Int32 → SX → Option (Int32 × SX)} (hk27 : ∀ (z2 : Int32) (z3 : Int32) (u : SX) (H : Heap) (locs : List Loc) (ls : Array Slot), k27 z2 z3 u = some (r, u') → va_P D vwCl (VM cy ad st u) H → va_S (Ax (AM ad) s.heap.size) s.heap H locs → lv_has ls 4 [(0, .ref (ad 0)), (2, .int z2), (3, .int z3)] → W p l e rmX12_layLeft_0 s m args below meth c H locs 0 0 (MQ below (Qv D (VM cy ad st) (AM ad) s.heap.size r u') args s 0 0 (Ax (AM ad) s.heap.size)) (F0 m 27 ls [])) (z2 : Int32) (z3 : Int32) (u : SX) (H : Heap) (locs : List Loc) (ls : Array Slot) (h : GX12_layLeft_0_76 k27 z2 z3 u = some (r, u')) (hP : va_P D vwCl (VM cy ad st u) H) (hS : va_S (Ax (AM ad) s.heap.size) s.heap H locs) (hl : lv_has ls 4 [(0, .ref (ad 0)), (2, .int z2), (3, .int z3)]) : W p l e rmX12_layLeft_0 s m args below meth c H locs 0 0 (MQ below (Qv D (VM cy ad st) (AM ad) s.heap.size r u') args s 0 0 (Ax (AM ad) s.heap.size)) (F0 m 76 ls []) := by
  unfold GX12_layLeft_0_76 at h
  refine lv_iinc (v := z3 + 1) (lv' := [(3, .int (z3 + 1)), (0, .ref (ad 0)), (2, .int z2)]) C.1 C.2.1 dX12_layLeft_76 hl (k := 2) rfl rfl (by decide) rfl (fun ls hl => ?_)
  replace hl := lv_sub (l' := [(0, .ref (ad 0)), (2, .int z2), (3, .int (z3 + 1))]) hl [1, 2, 0] rfl
  refine lv_goto (tgt := 27) C.1 C.2.1 dX12_layLeft_79 (by decide) ?_
  exact hk27 _ _ _ _ _ _ h hP hS hl
set_option maxHeartbeats 4000000 in
set_option maxRecDepth 100000 in
theorem wLX12_layLeft_0_27 {p : Program} {l : Launch} {e : Env} {s : State} {m : MethodId} {args : Array Value} {below : List Frame} {meth : Method} {c : Code} {D : va_G} {cy : Nat → ClassId} {ad st : Nat → Nat} (C : Cx RX12 cX12_layLeft 4 none wsX12_layLeft p s m args meth c) (hK : Ky D [(cy 0, .int), (cy 1, .long), (cy 2, .boolean), (cy 3, .byte), (cy 4, .object "HissHorn$Text")] st s) (hJ : JM ad st) {r : Int32} {u' : SX}   : ∀ (n : Nat) (z2 : Int32) (z3 : Int32) (u : SX) (H : Heap) (locs : List Loc) (ls : Array Slot), LX12_layLeft_0_27  n z2 z3 u = some (r, u') → va_P D vwCl (VM cy ad st u) H → va_S (Ax (AM ad) s.heap.size) s.heap H locs → lv_has ls 4 [(0, .ref (ad 0)), (2, .int z2), (3, .int z3)] → W p l e rmX12_layLeft_0 s m args below meth c H locs 0 0 (MQ below (Qv D (VM cy ad st) (AM ad) s.heap.size r u') args s 0 0 (Ax (AM ad) s.heap.size)) (F0 m 27 ls []) := by
  intro n
  induction n with
  | zero =>
    intro z2 z3 u H locs ls h
    exact absurd h (by intro q; cases q)
  | succ n ih =>
    intro z2 z3 u H locs ls h hP hS hl
    rw [LX12_layLeft_0_27] at h
    refine lv_iload_n C.1 C.2.1 dX12_layLeft_27 rfl (lv_at hl 2 rfl) ?_
    refine lv_aload_n C.1 C.2.1 dX12_layLeft_28 rfl (lv_at hl 0 rfl) ?_
    refine gM_0_parts C hX12_layLeft_0_X12 hK hP mX12_layLeft_0_4 dX12_layLeft_29 ?_
    refine lv_icmp_ge (tgt := 82) C.1 C.2.1 dX12_layLeft_32 (by decide) (fun c32 => ?_) (fun c32 => ?_)
    · rw [if_pos c32] at h
      cases h
      exact rt_v C hP hS dX12_layLeft_82
    · rw [if_neg c32] at h
      refine lv_aload_n C.1 C.2.1 dX12_layLeft_35 rfl (lv_at hl 0 rfl) ?_
      refine gM_0_partTold C hX12_layLeft_0_X12 hK hP mX12_layLeft_0_5 dX12_layLeft_36 ?_
      refine lv_iload_n C.1 C.2.1 dX12_layLeft_39 rfl (lv_at hl 2 rfl) ?_
      obtain ⟨hg10, h⟩ := gd_some h
      refine lM_10 C hK hP hg10 dX12_layLeft_40 ?_
      refine lv_iload_n C.1 C.2.1 dX12_layLeft_41 rfl (lv_at hl 1 rfl) ?_
      refine lv_icmp_le (tgt := 48) C.1 C.2.1 dX12_layLeft_42 (by decide) (fun c42 => ?_) (fun c42 => ?_)
      · rw [if_pos c42] at h
        refine lv_aload_n C.1 C.2.1 dX12_layLeft_48 rfl (lv_at hl 0 rfl) ?_
        refine lv_dup C.1 C.2.1 dX12_layLeft_49 rfl ?_
        refine gM_0_leftFrom C hX12_layLeft_0_X12 hK hP mX12_layLeft_0_2 dX12_layLeft_50 ?_
        refine lv_aload_n C.1 C.2.1 dX12_layLeft_53 rfl (lv_at hl 0 rfl) ?_
        refine lv_iload_n C.1 C.2.1 dX12_layLeft_54 rfl (lv_at hl 2 rfl) ?_
        obtain ⟨⟨r11, u12⟩, hc13, h⟩ := bd_some h
        try dsimp only at h
        refine cg_i (As := [.int z3]) (rest := [.int (u.1 16), .ref (ad 0)]) (AM_ge hJ) C hK hP hS (metX12_most_0 l D cy ad st hJ _ z3 hc13) (cwV 1 C.2.2.2.2.2.1 gX12_layLeft_X12_most rfl rfl rfl (by decide +kernel) ⟨(Nat.le_of_ble_eq_true rfl), (Nat.le_of_ble_eq_true rfl)⟩) 0 12 rfl rfl rfl hl.1 rfl (Nat.le_of_ble_eq_true rfl) dX12_layLeft_55 ⟨Nat.zero_le _, Nat.zero_le _⟩ (fun H locs hP hS => ?_)
        refine lv_isub C.1 C.2.1 dX12_layLeft_58 ?_
        refine pM_0_leftFrom C hX12_layLeft_0_X12 hK hP hJ hS mX12_layLeft_0_2 dX12_layLeft_59 (fun H locs hP hS => ?_)
        obtain ⟨u14, hu15, h⟩ := lt_some h
        rw [← hu15] at hP
        refine lv_aload_n C.1 C.2.1 dX12_layLeft_62 rfl (lv_at hl 0 rfl) ?_
        refine lv_dup C.1 C.2.1 dX12_layLeft_63 rfl ?_
        refine gM_0_leftTo C hX12_layLeft_0_X12 hK hP mX12_layLeft_0_3 dX12_layLeft_64 ?_
        refine lv_aload_n C.1 C.2.1 dX12_layLeft_67 rfl (lv_at hl 0 rfl) ?_
        refine lv_iload_n C.1 C.2.1 dX12_layLeft_68 rfl (lv_at hl 2 rfl) ?_
        obtain ⟨⟨r16, u17⟩, hc18, h⟩ := bd_some h
        try dsimp only at h
        refine cg_i (As := [.int z3]) (rest := [.int (u14.1 17), .ref (ad 0)]) (AM_ge hJ) C hK hP hS (metX12_least_0 l D cy ad st hJ _ z3 hc18) (cwV 1 C.2.2.2.2.2.1 gX12_layLeft_X12_least rfl rfl rfl (by decide +kernel) ⟨(Nat.le_of_ble_eq_true rfl), (Nat.le_of_ble_eq_true rfl)⟩) 0 12 rfl rfl rfl hl.1 rfl (Nat.le_of_ble_eq_true rfl) dX12_layLeft_69 ⟨Nat.zero_le _, Nat.zero_le _⟩ (fun H locs hP hS => ?_)
        refine lv_isub C.1 C.2.1 dX12_layLeft_72 ?_
        refine pM_0_leftTo C hX12_layLeft_0_X12 hK hP hJ hS mX12_layLeft_0_3 dX12_layLeft_73 (fun H locs hP hS => ?_)
        obtain ⟨u19, hu20, h⟩ := lt_some h
        rw [← hu20] at hP
        exact wGX12_layLeft_0_76 C hK hJ ih _ _ _ _ _ _ h hP hS hl
      · rw [if_neg c42] at h
        refine lv_goto (tgt := 76) C.1 C.2.1 dX12_layLeft_45 (by decide) ?_
        exact wGX12_layLeft_0_76 C hK hJ ih _ _ _ _ _ _ h hP hS hl
set_option maxHeartbeats 4000000 in
set_option maxRecDepth 100000 in
theorem wX12_layLeft_0 {p : Program} {l : Launch} {e : Env} {s : State} {m : MethodId} {args : Array Value} {below : List Frame} {meth : Method} {c : Code} {D : va_G} {cy : Nat → ClassId} {ad st : Nat → Nat} (C : Cx RX12 cX12_layLeft 4 none wsX12_layLeft p s m args meth c) (hK : Ky D [(cy 0, .int), (cy 1, .long), (cy 2, .boolean), (cy 3, .byte), (cy 4, .object "HissHorn$Text")] st s) (hJ : JM ad st) (x1 : Int32) (x2 : Int32) {u : SX} {r : Int32} {u' : SX} {H : Heap} {locs : List Loc} {ls : Array Slot} (h : fX12_layLeft_0 x1 x2 u = some (r, u')) (hP : va_P D vwCl (VM cy ad st u) H) (hS : va_S (Ax (AM ad) s.heap.size) s.heap H locs) (hl : lv_has ls 4 [(0, .ref (ad 0)), (1, .int x1), (2, .int x2)]) : W p l e rmX12_layLeft_0 s m args below meth c H locs 0 0 (MQ below (Qv D (VM cy ad st) (AM ad) s.heap.size r u') args s 0 0 (Ax (AM ad) s.heap.size)) (F0 m 0 ls []) := by
  unfold fX12_layLeft_0 at h
  refine lv_aload_n C.1 C.2.1 dX12_layLeft_0 rfl (lv_at hl 0 rfl) ?_
  refine lv_iload_n C.1 C.2.1 dX12_layLeft_1 rfl (lv_at hl 1 rfl) ?_
  obtain ⟨⟨r1, u2⟩, hc3, h⟩ := bd_some h
  try dsimp only at h
  refine cg_v (As := [.int x1]) (rest := []) (AM_ge hJ) C hK hP hS (metX12_layWorthsOf_0 l D cy ad st hJ _ x1 hc3) (cwV 1 C.2.2.2.2.2.1 gX12_layLeft_X12_layWorthsOf rfl rfl rfl (by decide +kernel) ⟨(Nat.le_of_ble_eq_true rfl), (Nat.le_of_ble_eq_true rfl)⟩) 0 12 rfl rfl rfl hl.1 rfl (Nat.le_of_ble_eq_true rfl) dX12_layLeft_2 ⟨Nat.zero_le _, Nat.zero_le _⟩ (fun H locs hP hS => ?_)
  refine lv_aload_n C.1 C.2.1 dX12_layLeft_5 rfl (lv_at hl 0 rfl) ?_
  refine lv_aload_n C.1 C.2.1 dX12_layLeft_6 rfl (lv_at hl 0 rfl) ?_
  refine gM_0_number C hX12_layLeft_0_X12 hK hP mX12_layLeft_0_1 dX12_layLeft_7 ?_
  refine lv_iload_n C.1 C.2.1 dX12_layLeft_10 rfl (lv_at hl 1 rfl) ?_
  obtain ⟨hg4, h⟩ := gd_some h
  refine lM_20 C hK hP hg4 dX12_layLeft_11 ?_
  refine pM_0_leftFrom C hX12_layLeft_0_X12 hK hP hJ hS mX12_layLeft_0_2 dX12_layLeft_12 (fun H locs hP hS => ?_)
  obtain ⟨u5, hu6, h⟩ := lt_some h
  rw [← hu6] at hP
  refine lv_aload_n C.1 C.2.1 dX12_layLeft_15 rfl (lv_at hl 0 rfl) ?_
  refine lv_aload_n C.1 C.2.1 dX12_layLeft_16 rfl (lv_at hl 0 rfl) ?_
  refine gM_0_number C hX12_layLeft_0_X12 hK hP mX12_layLeft_0_1 dX12_layLeft_17 ?_
  refine lv_iload_n C.1 C.2.1 dX12_layLeft_20 rfl (lv_at hl 1 rfl) ?_
  obtain ⟨hg7, h⟩ := gd_some h
  refine lM_20 C hK hP hg7 dX12_layLeft_21 ?_
  refine pM_0_leftTo C hX12_layLeft_0_X12 hK hP hJ hS mX12_layLeft_0_3 dX12_layLeft_22 (fun H locs hP hS => ?_)
  obtain ⟨u8, hu9, h⟩ := lt_some h
  rw [← hu9] at hP
  refine lv_iconst (v := 0) C.1 C.2.1 dX12_layLeft_25 (by decide) ?_
  refine lv_istore_n (lv' := [(3, .int 0), (0, .ref (ad 0)), (1, .int x1), (2, .int x2)]) C.1 C.2.1 dX12_layLeft_26 rfl hl (by decide) rfl (fun ls hl => ?_)
  replace hl := lv_sub (l' := [(0, .ref (ad 0)), (1, .int x1), (2, .int x2), (3, .int 0)]) hl [1, 2, 3, 0] rfl
  exact wLX12_layLeft_0_27 C hK hJ  5000 _ _ _ _ _ _ h hP hS (lv_sub hl [0, 2, 3] rfl)
theorem metX12_layLeft_0 (l : Launch) (D : va_G) (cy : Nat → ClassId) (ad st : Nat → Nat) (hJ : JM ad st) (sz : Nat) (x1 : Int32) (x2 : Int32) {u : SX} {r : Int32} {u' : SX} (h : fX12_layLeft_0 x1 x2 u = some (r, u')) : Met l yX12_layLeft wsX12_layLeft rmX12_layLeft_0 (va_Pc [.ref (ad 0), .int x1, .int x2] (Px D [(cy 0, .int), (cy 1, .long), (cy 2, .boolean), (cy 3, .byte), (cy 4, .object "HissHorn$Text")] st (VM cy ad st) sz u)) (Qv D (VM cy ad st) (AM ad) sz r u') 0 0 (Ax (AM ad) sz) := by
  refine Met.ofW (cc := cX12_layLeft) (maxL := 4) (ret := none) (by decide) rfl ?_
  intro p e s m args below meth c s₁ B hml hv
  obtain ⟨rfl, hsz, hP, hK⟩ := hv
  subst hsz
  have C : Cx RX12 cX12_layLeft 4 none wsX12_layLeft p s m _ meth c := ⟨B.exec, B.bytes, hml, B.returns, findClass_of_methodNamed B.named, atoms_spec (ws := wsX12_layLeft) B.pre, B.notSynchronized⟩
  have hl := lv_entry ([.ref (ad 0), .int x1, .int x2]) (n := 4) (Nat.le_of_ble_eq_true rfl)
  rw [lg_entry_eq]
  exact wX12_layLeft_0 C hK hJ x1 x2 h hP va_S.rf hl

theorem zdX12_left_0 : (and (and (and (and (and (zk cX12_left 0 (.aload_n 0) 1) (zk cX12_left 1 (.iconst 0) 1)) (and (zk cX12_left 2 (.putfield 151) 3) (zk cX12_left 5 (.aload_n 0) 1))) (and (and (zk cX12_left 6 (.iload_n 1) 1) (zk cX12_left 7 (.invokevirtual 358) 3)) (and (zk cX12_left 10 (.ifCond .eq 26) 3) (zk cX12_left 36 (.ldc_w 330) 3)))) (and (and (and (zk cX12_left 39 (.ireturn) 1) (zk cX12_left 13 (.aload_n 0) 1)) (and (zk cX12_left 14 (.aload_n 0) 1) (zk cX12_left 15 (.getfield 80) 3))) (and (and (zk cX12_left 18 (.iload_n 1) 1) (zk cX12_left 19 (.iaload) 1)) (and (zk cX12_left 20 (.iload_n 2) 1) (zk cX12_left 21 (.invokevirtual 310) 3))))) (and (and (and (and (zk cX12_left 24 (.ifCond .eq 12) 3) (zk cX12_left 27 (.iload_n 3) 1)) (and (zk cX12_left 28 (.iconst 0) 1) (zk cX12_left 29 (.iconst 1) 1))) (and (and (zk cX12_left 30 (.invokestatic 155) 3) (zk cX12_left 33 (.ifCond .ne 7) 3)) (and (zk cX12_left 40 (.aload_n 0) 1) (zk cX12_left 41 (.iload_n 2) 1)))) (and (and (and (zk cX12_left 42 (.invokevirtual 313) 3) (zk cX12_left 45 (.aload_n 0) 1)) (and (zk cX12_left 46 (.iload_n 1) 1) (zk cX12_left 47 (.iload_n 2) 1))) (and (and (zk cX12_left 48 (.invokevirtual 361) 3) (zk cX12_left 51 (.iload_n 3) 1)) (and (zk cX12_left 52 (.ifCond .ne 10) 3) (zk cX12_left 62 (.aload_n 0) 1)))))) = true := by decide +kernel
theorem dX12_left_0 : decode cX12_left 0 = .ok (.aload_n 0, 1) := zk_of (zk_l (zk_l (zk_l (zk_l (zk_l zdX12_left_0)))))
theorem dX12_left_1 : decode cX12_left 1 = .ok (.iconst 0, 1) := zk_of (zk_r (zk_l (zk_l (zk_l (zk_l zdX12_left_0)))))
theorem dX12_left_2 : decode cX12_left 2 = .ok (.putfield 151, 3) := zk_of (zk_l (zk_r (zk_l (zk_l (zk_l zdX12_left_0)))))
theorem dX12_left_5 : decode cX12_left 5 = .ok (.aload_n 0, 1) := zk_of (zk_r (zk_r (zk_l (zk_l (zk_l zdX12_left_0)))))
theorem dX12_left_6 : decode cX12_left 6 = .ok (.iload_n 1, 1) := zk_of (zk_l (zk_l (zk_r (zk_l (zk_l zdX12_left_0)))))
theorem dX12_left_7 : decode cX12_left 7 = .ok (.invokevirtual 358, 3) := zk_of (zk_r (zk_l (zk_r (zk_l (zk_l zdX12_left_0)))))
theorem dX12_left_10 : decode cX12_left 10 = .ok (.ifCond .eq 26, 3) := zk_of (zk_l (zk_r (zk_r (zk_l (zk_l zdX12_left_0)))))
theorem dX12_left_36 : decode cX12_left 36 = .ok (.ldc_w 330, 3) := zk_of (zk_r (zk_r (zk_r (zk_l (zk_l zdX12_left_0)))))
theorem dX12_left_39 : decode cX12_left 39 = .ok (.ireturn, 1) := zk_of (zk_l (zk_l (zk_l (zk_r (zk_l zdX12_left_0)))))
theorem dX12_left_13 : decode cX12_left 13 = .ok (.aload_n 0, 1) := zk_of (zk_r (zk_l (zk_l (zk_r (zk_l zdX12_left_0)))))
theorem dX12_left_14 : decode cX12_left 14 = .ok (.aload_n 0, 1) := zk_of (zk_l (zk_r (zk_l (zk_r (zk_l zdX12_left_0)))))
theorem dX12_left_15 : decode cX12_left 15 = .ok (.getfield 80, 3) := zk_of (zk_r (zk_r (zk_l (zk_r (zk_l zdX12_left_0)))))
theorem dX12_left_18 : decode cX12_left 18 = .ok (.iload_n 1, 1) := zk_of (zk_l (zk_l (zk_r (zk_r (zk_l zdX12_left_0)))))
theorem dX12_left_19 : decode cX12_left 19 = .ok (.iaload, 1) := zk_of (zk_r (zk_l (zk_r (zk_r (zk_l zdX12_left_0)))))
theorem dX12_left_20 : decode cX12_left 20 = .ok (.iload_n 2, 1) := zk_of (zk_l (zk_r (zk_r (zk_r (zk_l zdX12_left_0)))))
theorem dX12_left_21 : decode cX12_left 21 = .ok (.invokevirtual 310, 3) := zk_of (zk_r (zk_r (zk_r (zk_r (zk_l zdX12_left_0)))))
theorem dX12_left_24 : decode cX12_left 24 = .ok (.ifCond .eq 12, 3) := zk_of (zk_l (zk_l (zk_l (zk_l (zk_r zdX12_left_0)))))
theorem dX12_left_27 : decode cX12_left 27 = .ok (.iload_n 3, 1) := zk_of (zk_r (zk_l (zk_l (zk_l (zk_r zdX12_left_0)))))
theorem dX12_left_28 : decode cX12_left 28 = .ok (.iconst 0, 1) := zk_of (zk_l (zk_r (zk_l (zk_l (zk_r zdX12_left_0)))))
theorem dX12_left_29 : decode cX12_left 29 = .ok (.iconst 1, 1) := zk_of (zk_r (zk_r (zk_l (zk_l (zk_r zdX12_left_0)))))
theorem dX12_left_30 : decode cX12_left 30 = .ok (.invokestatic 155, 3) := zk_of (zk_l (zk_l (zk_r (zk_l (zk_r zdX12_left_0)))))
theorem dX12_left_33 : decode cX12_left 33 = .ok (.ifCond .ne 7, 3) := zk_of (zk_r (zk_l (zk_r (zk_l (zk_r zdX12_left_0)))))
theorem dX12_left_40 : decode cX12_left 40 = .ok (.aload_n 0, 1) := zk_of (zk_l (zk_r (zk_r (zk_l (zk_r zdX12_left_0)))))
theorem dX12_left_41 : decode cX12_left 41 = .ok (.iload_n 2, 1) := zk_of (zk_r (zk_r (zk_r (zk_l (zk_r zdX12_left_0)))))
theorem dX12_left_42 : decode cX12_left 42 = .ok (.invokevirtual 313, 3) := zk_of (zk_l (zk_l (zk_l (zk_r (zk_r zdX12_left_0)))))
theorem dX12_left_45 : decode cX12_left 45 = .ok (.aload_n 0, 1) := zk_of (zk_r (zk_l (zk_l (zk_r (zk_r zdX12_left_0)))))
theorem dX12_left_46 : decode cX12_left 46 = .ok (.iload_n 1, 1) := zk_of (zk_l (zk_r (zk_l (zk_r (zk_r zdX12_left_0)))))
theorem dX12_left_47 : decode cX12_left 47 = .ok (.iload_n 2, 1) := zk_of (zk_r (zk_r (zk_l (zk_r (zk_r zdX12_left_0)))))
theorem dX12_left_48 : decode cX12_left 48 = .ok (.invokevirtual 361, 3) := zk_of (zk_l (zk_l (zk_r (zk_r (zk_r zdX12_left_0)))))
theorem dX12_left_51 : decode cX12_left 51 = .ok (.iload_n 3, 1) := zk_of (zk_r (zk_l (zk_r (zk_r (zk_r zdX12_left_0)))))
theorem dX12_left_52 : decode cX12_left 52 = .ok (.ifCond .ne 10, 3) := zk_of (zk_l (zk_r (zk_r (zk_r (zk_r zdX12_left_0)))))
theorem dX12_left_62 : decode cX12_left 62 = .ok (.aload_n 0, 1) := zk_of (zk_r (zk_r (zk_r (zk_r (zk_r zdX12_left_0)))))
set_option maxRecDepth 20000 in
theorem ggX12_left_X12_isReading : GoodIn wsX12_left wsX12_isReading := ggi (fun w h => List.mem_cons_of_mem _ (List.mem_append_left _ (List.mem_append_right _ (List.mem_append_left _ h)))) gs_X12_isReading
set_option maxRecDepth 20000 in
theorem gX12_left_X12_isReading : GoodIn wsX12_left (wsV RX12 358 RX12 yX12_isReading wsX12_isReading) := goodIn_app (goodIn_of _ (by decide +kernel)) ggX12_left_X12_isReading
set_option maxRecDepth 20000 in
theorem ggX12_left_X12_isKnown : GoodIn wsX12_left wsX12_isKnown := ggi (fun w h => List.mem_cons_of_mem _ (List.mem_append_left _ (List.mem_append_right _ (List.mem_append_right _ (List.mem_append_left _ h))))) gs_X12_isKnown
set_option maxRecDepth 20000 in
theorem gX12_left_X12_isKnown : GoodIn wsX12_left (wsV RX12 310 RX12 yX12_isKnown wsX12_isKnown) := goodIn_app (goodIn_of _ (by decide +kernel)) ggX12_left_X12_isKnown
set_option maxRecDepth 20000 in
theorem ggX12_left_X12_isIn : GoodIn wsX12_left wsX12_isIn := ggi (fun w h => List.mem_cons_of_mem _ (List.mem_append_left _ (List.mem_append_right _ (List.mem_append_right _ (List.mem_append_right _ (List.mem_append_left _ h)))))) gs_X12_isIn
set_option maxRecDepth 20000 in
theorem gX12_left_X12_isIn : GoodIn wsX12_left (va_wsS RX12 155 yX12_isIn wsX12_isIn) := goodIn_app (goodIn_of _ (by decide +kernel)) ggX12_left_X12_isIn
set_option maxRecDepth 20000 in
theorem ggX12_left_X12_laySpansOf : GoodIn wsX12_left wsX12_laySpansOf := ggi (fun w h => List.mem_cons_of_mem _ (List.mem_append_left _ (List.mem_append_right _ (List.mem_append_right _ (List.mem_append_right _ (List.mem_append_right _ (List.mem_append_left _ h))))))) gs_X12_laySpansOf
set_option maxRecDepth 20000 in
theorem gX12_left_X12_laySpansOf : GoodIn wsX12_left (wsV RX12 313 RX12 yX12_laySpansOf wsX12_laySpansOf) := goodIn_app (goodIn_of _ (by decide +kernel)) ggX12_left_X12_laySpansOf
set_option maxRecDepth 20000 in
theorem ggX12_left_X12_layLeft : GoodIn wsX12_left wsX12_layLeft := ggi (fun w h => List.mem_cons_of_mem _ (List.mem_append_left _ (List.mem_append_right _ (List.mem_append_right _ (List.mem_append_right _ (List.mem_append_right _ (List.mem_append_right _ h))))))) gs_X12_layLeft
set_option maxRecDepth 20000 in
theorem gX12_left_X12_layLeft : GoodIn wsX12_left (wsV RX12 361 RX12 yX12_layLeft wsX12_layLeft) := goodIn_app (goodIn_of _ (by decide +kernel)) ggX12_left_X12_layLeft
theorem zdX12_left_63 : (and (and (and (zk cX12_left 63 (.getfield 349) 3) (zk cX12_left 66 (.ireturn) 1)) (zk cX12_left 55 (.aload_n 0) 1)) (and (zk cX12_left 56 (.getfield 346) 3) (zk cX12_left 59 (.goto 7) 3))) = true := by decide +kernel
theorem dX12_left_63 : decode cX12_left 63 = .ok (.getfield 349, 3) := zk_of (zk_l (zk_l (zk_l zdX12_left_63)))
theorem dX12_left_66 : decode cX12_left 66 = .ok (.ireturn, 1) := zk_of (zk_r (zk_l (zk_l zdX12_left_63)))
theorem dX12_left_55 : decode cX12_left 55 = .ok (.aload_n 0, 1) := zk_of (zk_r (zk_l zdX12_left_63))
theorem dX12_left_56 : decode cX12_left 56 = .ok (.getfield 346, 3) := zk_of (zk_l (zk_r zdX12_left_63))
theorem dX12_left_59 : decode cX12_left 59 = .ok (.goto 7, 3) := zk_of (zk_r (zk_r zdX12_left_63))
/-- HissHornModel.left(III)I of cell 0 -/
def rmX12_left_0 : Room := { frames := 142, cells := 0, slots := 0, locals := 8525 }
theorem hX12_left_0_X12 : ∀ w ∈ u_ws RX12 TX12 69, w ∈ wsX12_left := fun w h => (List.mem_cons_of_mem _ (List.mem_append_right _ h))
theorem mX12_left_0_1 : Cond.fieldLink RX12 151 "HissHornModel" "thrown" "I" ∈ wsX12_left := (List.mem_cons_of_mem _ (List.mem_append_left _ (List.mem_append_left _ (List.mem_of_getElem? (i := 15) rfl))))
theorem mX12_left_0_2 : Cond.constant RX12 330 (-100000000) ∈ wsX12_left := (List.mem_cons_of_mem _ (List.mem_append_left _ (List.mem_append_left _ (List.mem_of_getElem? (i := 16) rfl))))
theorem mX12_left_0_3 : Cond.fieldLink RX12 80 "HissHornModel" "readDay" "[I" ∈ wsX12_left := (List.mem_cons_of_mem _ (List.mem_append_left _ (List.mem_append_left _ (List.mem_of_getElem? (i := 17) rfl))))
theorem mX12_left_0_4 : Cond.fieldLink RX12 349 "HissHornModel" "leftTo" "I" ∈ wsX12_left := (List.mem_cons_of_mem _ (List.mem_append_left _ (List.mem_append_left _ (List.mem_of_getElem? (i := 18) rfl))))
theorem mX12_left_0_5 : Cond.fieldLink RX12 346 "HissHornModel" "leftFrom" "I" ∈ wsX12_left := (List.mem_cons_of_mem _ (List.mem_append_left _ (List.mem_append_left _ (List.mem_of_getElem? (i := 19) rfl))))
def fX12_left_0 (x1 : Int32) (x2 : Int32) (x3 : Int32) (u : SX) : Option (Int32 × SX) := (lt (sI u 0 0) fun u1 => ((fX12_isReading_0 x1 u1).bind fun q => match q with | (r3, u4) => (if r3 = 0 then (some ((-100000000), u4)) else (gd (inb x1 80) ((fX12_isKnown_0 (u4.2.1 21 x1.toNatClampNeg) x2 u4).bind fun q => match q with | (r7, u8) => (if r7 = 0 then (some ((-100000000), u8)) else ((fX12_isIn x3 0 1).bind fun r10 => (if r10 = 0 then (some ((-100000000), u8)) else ((fX12_laySpansOf_0 x2 u8).bind fun q => match q with | (r13, u14) => ((fX12_layLeft_0 x1 x2 u14).bind fun q => match q with | (r16, u17) => (if x3 = 0 then (some (u17.1 16, u17)) else (some (u17.1 17, u17)))))))))))))
set_option maxHeartbeats 4000000 in
set_option maxRecDepth 100000 in
theorem wX12_left_0 {p : Program} {l : Launch} {e : Env} {s : State} {m : MethodId} {args : Array Value} {below : List Frame} {meth : Method} {c : Code} {D : va_G} {cy : Nat → ClassId} {ad st : Nat → Nat} (C : Cx RX12 cX12_left 4 (some .int) wsX12_left p s m args meth c) (hK : Ky D [(cy 0, .int), (cy 1, .long), (cy 2, .boolean), (cy 3, .byte), (cy 4, .object "HissHorn$Text")] st s) (hJ : JM ad st) (x1 : Int32) (x2 : Int32) (x3 : Int32) {u : SX} {r : Int32} {u' : SX} {H : Heap} {locs : List Loc} {ls : Array Slot} (h : fX12_left_0 x1 x2 x3 u = some (r, u')) (hP : va_P D vwCl (VM cy ad st u) H) (hS : va_S (Ax (AM ad) s.heap.size) s.heap H locs) (hl : lv_has ls 4 [(0, .ref (ad 0)), (1, .int x1), (2, .int x2), (3, .int x3)]) : W p l e rmX12_left_0 s m args below meth c H locs 0 0 (MQ below (Qi D (VM cy ad st) (AM ad) s.heap.size r u') args s 0 0 (Ax (AM ad) s.heap.size)) (F0 m 0 ls []) := by
  unfold fX12_left_0 at h
  refine lv_aload_n C.1 C.2.1 dX12_left_0 rfl (lv_at hl 0 rfl) ?_
  refine lv_iconst (v := 0) C.1 C.2.1 dX12_left_1 (by decide) ?_
  refine pM_0_thrown C hX12_left_0_X12 hK hP hJ hS mX12_left_0_1 dX12_left_2 (fun H locs hP hS => ?_)
  obtain ⟨u1, hu2, h⟩ := lt_some h
  rw [← hu2] at hP
  refine lv_aload_n C.1 C.2.1 dX12_left_5 rfl (lv_at hl 0 rfl) ?_
  refine lv_iload_n C.1 C.2.1 dX12_left_6 rfl (lv_at hl 1 rfl) ?_
  obtain ⟨⟨r3, u4⟩, hc5, h⟩ := bd_some h
  try dsimp only at h
  refine cg_i (As := [.int x1]) (rest := []) (AM_ge hJ) C hK hP hS (metX12_isReading_0 l D cy ad st hJ _ x1 hc5) (cwV 1 C.2.2.2.2.2.1 gX12_left_X12_isReading rfl rfl rfl (by decide +kernel) ⟨(Nat.le_of_ble_eq_true rfl), (Nat.le_of_ble_eq_true rfl)⟩) 0 12 rfl rfl rfl hl.1 rfl (Nat.le_of_ble_eq_true rfl) dX12_left_7 ⟨Nat.zero_le _, Nat.zero_le _⟩ (fun H locs hP hS => ?_)
  refine lv_if_eq (tgt := 36) C.1 C.2.1 dX12_left_10 (by decide) (fun c10 => ?_) (fun c10 => ?_)
  · rw [if_pos c10] at h
    refine lv_ldcw C.1 C.2.1 C.2.2.2.2.1 (C.2.2.2.2.2.1 _ mX12_left_0_2) dX12_left_36 ?_
    cases h
    exact rt_i C hP hS dX12_left_39
  · rw [if_neg c10] at h
    refine lv_aload_n C.1 C.2.1 dX12_left_13 rfl (lv_at hl 0 rfl) ?_
    refine lv_aload_n C.1 C.2.1 dX12_left_14 rfl (lv_at hl 0 rfl) ?_
    refine gM_0_readDay C hX12_left_0_X12 hK hP mX12_left_0_3 dX12_left_15 ?_
    refine lv_iload_n C.1 C.2.1 dX12_left_18 rfl (lv_at hl 1 rfl) ?_
    obtain ⟨hg6, h⟩ := gd_some h
    refine lM_21 C hK hP hg6 dX12_left_19 ?_
    refine lv_iload_n C.1 C.2.1 dX12_left_20 rfl (lv_at hl 2 rfl) ?_
    obtain ⟨⟨r7, u8⟩, hc9, h⟩ := bd_some h
    try dsimp only at h
    refine cg_i (As := [.int (u4.2.1 21 x1.toNatClampNeg), .int x2]) (rest := []) (AM_ge hJ) C hK hP hS (metX12_isKnown_0 l D cy ad st hJ _ (u4.2.1 21 x1.toNatClampNeg) x2 hc9) (cwV 2 C.2.2.2.2.2.1 gX12_left_X12_isKnown rfl rfl rfl (by decide +kernel) ⟨(Nat.le_of_ble_eq_true rfl), (Nat.le_of_ble_eq_true rfl)⟩) 0 12 rfl rfl rfl hl.1 rfl (Nat.le_of_ble_eq_true rfl) dX12_left_21 ⟨Nat.zero_le _, Nat.zero_le _⟩ (fun H locs hP hS => ?_)
    refine lv_if_eq (tgt := 36) C.1 C.2.1 dX12_left_24 (by decide) (fun c24 => ?_) (fun c24 => ?_)
    · rw [if_pos c24] at h
      refine lv_ldcw C.1 C.2.1 C.2.2.2.2.1 (C.2.2.2.2.2.1 _ mX12_left_0_2) dX12_left_36 ?_
      cases h
      exact rt_i C hP hS dX12_left_39
    · rw [if_neg c24] at h
      refine lv_iload_n C.1 C.2.1 dX12_left_27 rfl (lv_at hl 3 rfl) ?_
      refine lv_iconst (v := 0) C.1 C.2.1 dX12_left_28 (by decide) ?_
      refine lv_iconst (v := 1) C.1 C.2.1 dX12_left_29 (by decide) ?_
      obtain ⟨r10, hc12, h⟩ := bd_some h
      refine cs_i (As := [.int x3, .int 0, .int 1]) (rest := []) (AM_ge hJ) C hK hP hS (metX12_isIn l D cy st _ x3 0 1 hc12) (va_cwS 3 C.2.2.2.2.2.1 gX12_left_X12_isIn rfl rfl rfl (by decide +kernel) ⟨(Nat.le_of_ble_eq_true rfl), (Nat.le_of_ble_eq_true rfl)⟩) rfl hl.1 rfl (Nat.le_of_ble_eq_true rfl) dX12_left_30 ⟨Nat.zero_le _, Nat.zero_le _⟩ (fun H locs hP hS => ?_)
      refine lv_if_ne (tgt := 40) C.1 C.2.1 dX12_left_33 (by decide) (fun c33 => ?_) (fun c33 => ?_)
      · rw [if_neg c33] at h
        refine lv_aload_n C.1 C.2.1 dX12_left_40 rfl (lv_at hl 0 rfl) ?_
        refine lv_iload_n C.1 C.2.1 dX12_left_41 rfl (lv_at hl 2 rfl) ?_
        obtain ⟨⟨r13, u14⟩, hc15, h⟩ := bd_some h
        try dsimp only at h
        refine cg_v (As := [.int x2]) (rest := []) (AM_ge hJ) C hK hP hS (metX12_laySpansOf_0 l D cy ad st hJ _ x2 hc15) (cwV 1 C.2.2.2.2.2.1 gX12_left_X12_laySpansOf rfl rfl rfl (by decide +kernel) ⟨(Nat.le_of_ble_eq_true rfl), (Nat.le_of_ble_eq_true rfl)⟩) 0 12 rfl rfl rfl hl.1 rfl (Nat.le_of_ble_eq_true rfl) dX12_left_42 ⟨Nat.zero_le _, Nat.zero_le _⟩ (fun H locs hP hS => ?_)
        refine lv_aload_n C.1 C.2.1 dX12_left_45 rfl (lv_at hl 0 rfl) ?_
        refine lv_iload_n C.1 C.2.1 dX12_left_46 rfl (lv_at hl 1 rfl) ?_
        refine lv_iload_n C.1 C.2.1 dX12_left_47 rfl (lv_at hl 2 rfl) ?_
        obtain ⟨⟨r16, u17⟩, hc18, h⟩ := bd_some h
        try dsimp only at h
        refine cg_v (As := [.int x1, .int x2]) (rest := []) (AM_ge hJ) C hK hP hS (metX12_layLeft_0 l D cy ad st hJ _ x1 x2 hc18) (cwV 2 C.2.2.2.2.2.1 gX12_left_X12_layLeft rfl rfl rfl (by decide +kernel) ⟨(Nat.le_of_ble_eq_true rfl), (Nat.le_of_ble_eq_true rfl)⟩) 0 12 rfl rfl rfl hl.1 rfl (Nat.le_of_ble_eq_true rfl) dX12_left_48 ⟨Nat.zero_le _, Nat.zero_le _⟩ (fun H locs hP hS => ?_)
        refine lv_iload_n C.1 C.2.1 dX12_left_51 rfl (lv_at hl 3 rfl) ?_
        refine lv_if_ne (tgt := 62) C.1 C.2.1 dX12_left_52 (by decide) (fun c52 => ?_) (fun c52 => ?_)
        · rw [if_neg c52] at h
          refine lv_aload_n C.1 C.2.1 dX12_left_62 rfl (lv_at hl 0 rfl) ?_
          refine gM_0_leftTo C hX12_left_0_X12 hK hP mX12_left_0_4 dX12_left_63 ?_
          cases h
          exact rt_i C hP hS dX12_left_66
        · rw [if_pos c52] at h
          refine lv_aload_n C.1 C.2.1 dX12_left_55 rfl (lv_at hl 0 rfl) ?_
          refine gM_0_leftFrom C hX12_left_0_X12 hK hP mX12_left_0_5 dX12_left_56 ?_
          refine lv_goto (tgt := 66) C.1 C.2.1 dX12_left_59 (by decide) ?_
          cases h
          exact rt_i C hP hS dX12_left_66
      · rw [if_pos c33] at h
        refine lv_ldcw C.1 C.2.1 C.2.2.2.2.1 (C.2.2.2.2.2.1 _ mX12_left_0_2) dX12_left_36 ?_
        cases h
        exact rt_i C hP hS dX12_left_39
theorem metX12_left_0 (l : Launch) (D : va_G) (cy : Nat → ClassId) (ad st : Nat → Nat) (hJ : JM ad st) (sz : Nat) (x1 : Int32) (x2 : Int32) (x3 : Int32) {u : SX} {r : Int32} {u' : SX} (h : fX12_left_0 x1 x2 x3 u = some (r, u')) : Met l yX12_left wsX12_left rmX12_left_0 (va_Pc [.ref (ad 0), .int x1, .int x2, .int x3] (Px D [(cy 0, .int), (cy 1, .long), (cy 2, .boolean), (cy 3, .byte), (cy 4, .object "HissHorn$Text")] st (VM cy ad st) sz u)) (Qi D (VM cy ad st) (AM ad) sz r u') 0 0 (Ax (AM ad) sz) := by
  refine Met.ofW (cc := cX12_left) (maxL := 4) (ret := (some .int)) (by decide) rfl ?_
  intro p e s m args below meth c s₁ B hml hv
  obtain ⟨rfl, hsz, hP, hK⟩ := hv
  subst hsz
  have C : Cx RX12 cX12_left 4 (some .int) wsX12_left p s m _ meth c := ⟨B.exec, B.bytes, hml, B.returns, findClass_of_methodNamed B.named, atoms_spec (ws := wsX12_left) B.pre, B.notSynchronized⟩
  have hl := lv_entry ([.ref (ad 0), .int x1, .int x2, .int x3]) (n := 4) (Nat.le_of_ble_eq_true rfl)
  rw [lg_entry_eq]
  exact wX12_left_0 C hK hJ x1 x2 x3 h hP va_S.rf hl

theorem zdX12_most__106 : (and (and (and (and (and (zk cX12_most_ 106 (.iinc 5 1) 3) (zk cX12_most_ 109 (.goto (-62)) 3)) (and (zk cX12_most_ 47 (.iload 5) 2) (zk cX12_most_ 49 (.aload_n 0) 1))) (and (and (zk cX12_most_ 50 (.getfield 286) 3) (zk cX12_most_ 53 (.if_icmp .ge 59) 3)) (and (zk cX12_most_ 112 (.iload_n 3) 1) (zk cX12_most_ 113 (.ireturn) 1)))) (and (and (and (zk cX12_most_ 56 (.aload_n 0) 1) (zk cX12_most_ 57 (.getfield 47) 3)) (and (zk cX12_most_ 60 (.iload 5) 2) (zk cX12_most_ 62 (.iaload) 1))) (and (and (zk cX12_most_ 63 (.iload_n 2) 1) (zk cX12_most_ 64 (.if_icmp .gt 42) 3)) (and (zk cX12_most_ 67 (.aload_n 0) 1) (zk cX12_most_ 68 (.iload 5) 2))))) (and (and (and (and (zk cX12_most_ 70 (.invokevirtual 352) 3) (zk cX12_most_ 73 (.aload_n 0) 1)) (and (zk cX12_most_ 74 (.iload 5) 2) (zk cX12_most_ 76 (.invokevirtual 355) 3))) (and (and (zk cX12_most_ 79 (.isub) 1) (zk cX12_most_ 80 (.iload 4) 2)) (and (zk cX12_most_ 82 (.if_icmp .gt 6) 3) (zk cX12_most_ 88 (.aload_n 0) 1)))) (and (and (and (zk cX12_most_ 89 (.iload 5) 2) (zk cX12_most_ 91 (.invokevirtual 352) 3)) (and (zk cX12_most_ 94 (.aload_n 0) 1) (zk cX12_most_ 95 (.iload 5) 2))) (and (and (zk cX12_most_ 97 (.invokevirtual 355) 3) (zk cX12_most_ 100 (.isub) 1)) (and (zk cX12_most_ 101 (.istore 4) 2) (zk cX12_most_ 103 (.iload 5) 2)))))) = true := by decide +kernel
theorem dX12_most__106 : decode cX12_most_ 106 = .ok (.iinc 5 1, 3) := zk_of (zk_l (zk_l (zk_l (zk_l (zk_l zdX12_most__106)))))
theorem dX12_most__109 : decode cX12_most_ 109 = .ok (.goto (-62), 3) := zk_of (zk_r (zk_l (zk_l (zk_l (zk_l zdX12_most__106)))))
theorem dX12_most__47 : decode cX12_most_ 47 = .ok (.iload 5, 2) := zk_of (zk_l (zk_r (zk_l (zk_l (zk_l zdX12_most__106)))))
theorem dX12_most__49 : decode cX12_most_ 49 = .ok (.aload_n 0, 1) := zk_of (zk_r (zk_r (zk_l (zk_l (zk_l zdX12_most__106)))))
theorem dX12_most__50 : decode cX12_most_ 50 = .ok (.getfield 286, 3) := zk_of (zk_l (zk_l (zk_r (zk_l (zk_l zdX12_most__106)))))
theorem dX12_most__53 : decode cX12_most_ 53 = .ok (.if_icmp .ge 59, 3) := zk_of (zk_r (zk_l (zk_r (zk_l (zk_l zdX12_most__106)))))
theorem dX12_most__112 : decode cX12_most_ 112 = .ok (.iload_n 3, 1) := zk_of (zk_l (zk_r (zk_r (zk_l (zk_l zdX12_most__106)))))
theorem dX12_most__113 : decode cX12_most_ 113 = .ok (.ireturn, 1) := zk_of (zk_r (zk_r (zk_r (zk_l (zk_l zdX12_most__106)))))
theorem dX12_most__56 : decode cX12_most_ 56 = .ok (.aload_n 0, 1) := zk_of (zk_l (zk_l (zk_l (zk_r (zk_l zdX12_most__106)))))
theorem dX12_most__57 : decode cX12_most_ 57 = .ok (.getfield 47, 3) := zk_of (zk_r (zk_l (zk_l (zk_r (zk_l zdX12_most__106)))))
theorem dX12_most__60 : decode cX12_most_ 60 = .ok (.iload 5, 2) := zk_of (zk_l (zk_r (zk_l (zk_r (zk_l zdX12_most__106)))))
theorem dX12_most__62 : decode cX12_most_ 62 = .ok (.iaload, 1) := zk_of (zk_r (zk_r (zk_l (zk_r (zk_l zdX12_most__106)))))
theorem dX12_most__63 : decode cX12_most_ 63 = .ok (.iload_n 2, 1) := zk_of (zk_l (zk_l (zk_r (zk_r (zk_l zdX12_most__106)))))
theorem dX12_most__64 : decode cX12_most_ 64 = .ok (.if_icmp .gt 42, 3) := zk_of (zk_r (zk_l (zk_r (zk_r (zk_l zdX12_most__106)))))
theorem dX12_most__67 : decode cX12_most_ 67 = .ok (.aload_n 0, 1) := zk_of (zk_l (zk_r (zk_r (zk_r (zk_l zdX12_most__106)))))
theorem dX12_most__68 : decode cX12_most_ 68 = .ok (.iload 5, 2) := zk_of (zk_r (zk_r (zk_r (zk_r (zk_l zdX12_most__106)))))
theorem dX12_most__70 : decode cX12_most_ 70 = .ok (.invokevirtual 352, 3) := zk_of (zk_l (zk_l (zk_l (zk_l (zk_r zdX12_most__106)))))
theorem dX12_most__73 : decode cX12_most_ 73 = .ok (.aload_n 0, 1) := zk_of (zk_r (zk_l (zk_l (zk_l (zk_r zdX12_most__106)))))
theorem dX12_most__74 : decode cX12_most_ 74 = .ok (.iload 5, 2) := zk_of (zk_l (zk_r (zk_l (zk_l (zk_r zdX12_most__106)))))
theorem dX12_most__76 : decode cX12_most_ 76 = .ok (.invokevirtual 355, 3) := zk_of (zk_r (zk_r (zk_l (zk_l (zk_r zdX12_most__106)))))
theorem dX12_most__79 : decode cX12_most_ 79 = .ok (.isub, 1) := zk_of (zk_l (zk_l (zk_r (zk_l (zk_r zdX12_most__106)))))
theorem dX12_most__80 : decode cX12_most_ 80 = .ok (.iload 4, 2) := zk_of (zk_r (zk_l (zk_r (zk_l (zk_r zdX12_most__106)))))
theorem dX12_most__82 : decode cX12_most_ 82 = .ok (.if_icmp .gt 6, 3) := zk_of (zk_l (zk_r (zk_r (zk_l (zk_r zdX12_most__106)))))
theorem dX12_most__88 : decode cX12_most_ 88 = .ok (.aload_n 0, 1) := zk_of (zk_r (zk_r (zk_r (zk_l (zk_r zdX12_most__106)))))
theorem dX12_most__89 : decode cX12_most_ 89 = .ok (.iload 5, 2) := zk_of (zk_l (zk_l (zk_l (zk_r (zk_r zdX12_most__106)))))
theorem dX12_most__91 : decode cX12_most_ 91 = .ok (.invokevirtual 352, 3) := zk_of (zk_r (zk_l (zk_l (zk_r (zk_r zdX12_most__106)))))
theorem dX12_most__94 : decode cX12_most_ 94 = .ok (.aload_n 0, 1) := zk_of (zk_l (zk_r (zk_l (zk_r (zk_r zdX12_most__106)))))
theorem dX12_most__95 : decode cX12_most_ 95 = .ok (.iload 5, 2) := zk_of (zk_r (zk_r (zk_l (zk_r (zk_r zdX12_most__106)))))
theorem dX12_most__97 : decode cX12_most_ 97 = .ok (.invokevirtual 355, 3) := zk_of (zk_l (zk_l (zk_r (zk_r (zk_r zdX12_most__106)))))
theorem dX12_most__100 : decode cX12_most_ 100 = .ok (.isub, 1) := zk_of (zk_r (zk_l (zk_r (zk_r (zk_r zdX12_most__106)))))
theorem dX12_most__101 : decode cX12_most_ 101 = .ok (.istore 4, 2) := zk_of (zk_l (zk_r (zk_r (zk_r (zk_r zdX12_most__106)))))
theorem dX12_most__103 : decode cX12_most_ 103 = .ok (.iload 5, 2) := zk_of (zk_r (zk_r (zk_r (zk_r (zk_r zdX12_most__106)))))
set_option maxRecDepth 20000 in
theorem ggX12_most__X12_most : GoodIn wsX12_most_ wsX12_most := ggi (fun w h => List.mem_cons_of_mem _ (List.mem_append_left _ (List.mem_append_right _ (List.mem_append_left _ h)))) gs_X12_most
set_option maxRecDepth 20000 in
theorem gX12_most__X12_most : GoodIn wsX12_most_ (wsV RX12 352 RX12 yX12_most wsX12_most) := goodIn_app (goodIn_of _ (by decide +kernel)) ggX12_most__X12_most
set_option maxRecDepth 20000 in
theorem ggX12_most__X12_least : GoodIn wsX12_most_ wsX12_least := ggi (fun w h => List.mem_cons_of_mem _ (List.mem_append_left _ (List.mem_append_right _ (List.mem_append_right _ (List.mem_append_left _ h))))) gs_X12_least
set_option maxRecDepth 20000 in
theorem gX12_most__X12_least : GoodIn wsX12_most_ (wsV RX12 355 RX12 yX12_least wsX12_least) := goodIn_app (goodIn_of _ (by decide +kernel)) ggX12_most__X12_least
theorem zdX12_most__105 : (and (and (and (and (and (zk cX12_most_ 105 (.istore_n 3) 1) (zk cX12_most_ 85 (.goto 21) 3)) (and (zk cX12_most_ 0 (.aload_n 0) 1) (zk cX12_most_ 1 (.iconst 0) 1))) (and (and (zk cX12_most_ 2 (.putfield 151) 3) (zk cX12_most_ 5 (.aload_n 0) 1)) (and (zk cX12_most_ 6 (.iload_n 1) 1) (zk cX12_most_ 7 (.invokevirtual 358) 3)))) (and (and (and (zk cX12_most_ 10 (.ifCond .eq 17) 3) (zk cX12_most_ 27 (.iconst (-1)) 1)) (and (zk cX12_most_ 28 (.ireturn) 1) (zk cX12_most_ 13 (.aload_n 0) 1))) (and (and (zk cX12_most_ 14 (.aload_n 0) 1) (zk cX12_most_ 15 (.getfield 80) 3)) (and (zk cX12_most_ 18 (.iload_n 1) 1) (zk cX12_most_ 19 (.iaload) 1))))) (and (and (and (and (zk cX12_most_ 20 (.iload_n 2) 1) (zk cX12_most_ 21 (.invokevirtual 310) 3)) (and (zk cX12_most_ 24 (.ifCond .ne 5) 3) (zk cX12_most_ 29 (.aload_n 0) 1))) (and (and (zk cX12_most_ 30 (.iload_n 2) 1) (zk cX12_most_ 31 (.invokevirtual 313) 3)) (and (zk cX12_most_ 34 (.aload_n 0) 1) (zk cX12_most_ 35 (.iload_n 1) 1)))) (and (and (and (zk cX12_most_ 36 (.invokevirtual 343) 3) (zk cX12_most_ 39 (.iconst (-1)) 1)) (and (zk cX12_most_ 40 (.istore_n 3) 1) (zk cX12_most_ 41 (.iconst (-1)) 1))) (and (and (zk cX12_most_ 42 (.istore 4) 2) (zk cX12_most_ 44 (.iconst 0) 1)) (zk cX12_most_ 45 (.istore 5) 2))))) = true := by decide +kernel
theorem dX12_most__105 : decode cX12_most_ 105 = .ok (.istore_n 3, 1) := zk_of (zk_l (zk_l (zk_l (zk_l (zk_l zdX12_most__105)))))
theorem dX12_most__85 : decode cX12_most_ 85 = .ok (.goto 21, 3) := zk_of (zk_r (zk_l (zk_l (zk_l (zk_l zdX12_most__105)))))
theorem dX12_most__0 : decode cX12_most_ 0 = .ok (.aload_n 0, 1) := zk_of (zk_l (zk_r (zk_l (zk_l (zk_l zdX12_most__105)))))
theorem dX12_most__1 : decode cX12_most_ 1 = .ok (.iconst 0, 1) := zk_of (zk_r (zk_r (zk_l (zk_l (zk_l zdX12_most__105)))))
theorem dX12_most__2 : decode cX12_most_ 2 = .ok (.putfield 151, 3) := zk_of (zk_l (zk_l (zk_r (zk_l (zk_l zdX12_most__105)))))
theorem dX12_most__5 : decode cX12_most_ 5 = .ok (.aload_n 0, 1) := zk_of (zk_r (zk_l (zk_r (zk_l (zk_l zdX12_most__105)))))
theorem dX12_most__6 : decode cX12_most_ 6 = .ok (.iload_n 1, 1) := zk_of (zk_l (zk_r (zk_r (zk_l (zk_l zdX12_most__105)))))
theorem dX12_most__7 : decode cX12_most_ 7 = .ok (.invokevirtual 358, 3) := zk_of (zk_r (zk_r (zk_r (zk_l (zk_l zdX12_most__105)))))
theorem dX12_most__10 : decode cX12_most_ 10 = .ok (.ifCond .eq 17, 3) := zk_of (zk_l (zk_l (zk_l (zk_r (zk_l zdX12_most__105)))))
theorem dX12_most__27 : decode cX12_most_ 27 = .ok (.iconst (-1), 1) := zk_of (zk_r (zk_l (zk_l (zk_r (zk_l zdX12_most__105)))))
theorem dX12_most__28 : decode cX12_most_ 28 = .ok (.ireturn, 1) := zk_of (zk_l (zk_r (zk_l (zk_r (zk_l zdX12_most__105)))))
theorem dX12_most__13 : decode cX12_most_ 13 = .ok (.aload_n 0, 1) := zk_of (zk_r (zk_r (zk_l (zk_r (zk_l zdX12_most__105)))))
theorem dX12_most__14 : decode cX12_most_ 14 = .ok (.aload_n 0, 1) := zk_of (zk_l (zk_l (zk_r (zk_r (zk_l zdX12_most__105)))))
theorem dX12_most__15 : decode cX12_most_ 15 = .ok (.getfield 80, 3) := zk_of (zk_r (zk_l (zk_r (zk_r (zk_l zdX12_most__105)))))
theorem dX12_most__18 : decode cX12_most_ 18 = .ok (.iload_n 1, 1) := zk_of (zk_l (zk_r (zk_r (zk_r (zk_l zdX12_most__105)))))
theorem dX12_most__19 : decode cX12_most_ 19 = .ok (.iaload, 1) := zk_of (zk_r (zk_r (zk_r (zk_r (zk_l zdX12_most__105)))))
theorem dX12_most__20 : decode cX12_most_ 20 = .ok (.iload_n 2, 1) := zk_of (zk_l (zk_l (zk_l (zk_l (zk_r zdX12_most__105)))))
theorem dX12_most__21 : decode cX12_most_ 21 = .ok (.invokevirtual 310, 3) := zk_of (zk_r (zk_l (zk_l (zk_l (zk_r zdX12_most__105)))))
theorem dX12_most__24 : decode cX12_most_ 24 = .ok (.ifCond .ne 5, 3) := zk_of (zk_l (zk_r (zk_l (zk_l (zk_r zdX12_most__105)))))
theorem dX12_most__29 : decode cX12_most_ 29 = .ok (.aload_n 0, 1) := zk_of (zk_r (zk_r (zk_l (zk_l (zk_r zdX12_most__105)))))
theorem dX12_most__30 : decode cX12_most_ 30 = .ok (.iload_n 2, 1) := zk_of (zk_l (zk_l (zk_r (zk_l (zk_r zdX12_most__105)))))
theorem dX12_most__31 : decode cX12_most_ 31 = .ok (.invokevirtual 313, 3) := zk_of (zk_r (zk_l (zk_r (zk_l (zk_r zdX12_most__105)))))
theorem dX12_most__34 : decode cX12_most_ 34 = .ok (.aload_n 0, 1) := zk_of (zk_l (zk_r (zk_r (zk_l (zk_r zdX12_most__105)))))
theorem dX12_most__35 : decode cX12_most_ 35 = .ok (.iload_n 1, 1) := zk_of (zk_r (zk_r (zk_r (zk_l (zk_r zdX12_most__105)))))
theorem dX12_most__36 : decode cX12_most_ 36 = .ok (.invokevirtual 343, 3) := zk_of (zk_l (zk_l (zk_l (zk_r (zk_r zdX12_most__105)))))
theorem dX12_most__39 : decode cX12_most_ 39 = .ok (.iconst (-1), 1) := zk_of (zk_r (zk_l (zk_l (zk_r (zk_r zdX12_most__105)))))
theorem dX12_most__40 : decode cX12_most_ 40 = .ok (.istore_n 3, 1) := zk_of (zk_l (zk_r (zk_l (zk_r (zk_r zdX12_most__105)))))
theorem dX12_most__41 : decode cX12_most_ 41 = .ok (.iconst (-1), 1) := zk_of (zk_r (zk_r (zk_l (zk_r (zk_r zdX12_most__105)))))
theorem dX12_most__42 : decode cX12_most_ 42 = .ok (.istore 4, 2) := zk_of (zk_l (zk_l (zk_r (zk_r (zk_r zdX12_most__105)))))
theorem dX12_most__44 : decode cX12_most_ 44 = .ok (.iconst 0, 1) := zk_of (zk_r (zk_l (zk_r (zk_r (zk_r zdX12_most__105)))))
theorem dX12_most__45 : decode cX12_most_ 45 = .ok (.istore 5, 2) := zk_of (zk_r (zk_r (zk_r (zk_r zdX12_most__105))))
set_option maxRecDepth 20000 in
theorem ggX12_most__X12_isReading : GoodIn wsX12_most_ wsX12_isReading := ggi (fun w h => List.mem_cons_of_mem _ (List.mem_append_left _ (List.mem_append_right _ (List.mem_append_right _ (List.mem_append_right _ (List.mem_append_left _ h)))))) gs_X12_isReading
set_option maxRecDepth 20000 in
theorem gX12_most__X12_isReading : GoodIn wsX12_most_ (wsV RX12 358 RX12 yX12_isReading wsX12_isReading) := goodIn_app (goodIn_of _ (by decide +kernel)) ggX12_most__X12_isReading
set_option maxRecDepth 20000 in
theorem ggX12_most__X12_isKnown : GoodIn wsX12_most_ wsX12_isKnown := ggi (fun w h => List.mem_cons_of_mem _ (List.mem_append_left _ (List.mem_append_right _ (List.mem_append_right _ (List.mem_append_right _ (List.mem_append_right _ (List.mem_append_left _ h))))))) gs_X12_isKnown
set_option maxRecDepth 20000 in
theorem gX12_most__X12_isKnown : GoodIn wsX12_most_ (wsV RX12 310 RX12 yX12_isKnown wsX12_isKnown) := goodIn_app (goodIn_of _ (by decide +kernel)) ggX12_most__X12_isKnown
set_option maxRecDepth 20000 in
theorem ggX12_most__X12_laySpansOf : GoodIn wsX12_most_ wsX12_laySpansOf := ggi (fun w h => List.mem_cons_of_mem _ (List.mem_append_left _ (List.mem_append_right _ (List.mem_append_right _ (List.mem_append_right _ (List.mem_append_right _ (List.mem_append_right _ (List.mem_append_left _ h)))))))) gs_X12_laySpansOf
set_option maxRecDepth 20000 in
theorem gX12_most__X12_laySpansOf : GoodIn wsX12_most_ (wsV RX12 313 RX12 yX12_laySpansOf wsX12_laySpansOf) := goodIn_app (goodIn_of _ (by decide +kernel)) ggX12_most__X12_laySpansOf
set_option maxRecDepth 20000 in
theorem ggX12_most__X12_layWorthsOf : GoodIn wsX12_most_ wsX12_layWorthsOf := ggi (fun w h => List.mem_cons_of_mem _ (List.mem_append_left _ (List.mem_append_right _ (List.mem_append_right _ (List.mem_append_right _ (List.mem_append_right _ (List.mem_append_right _ (List.mem_append_right _ h)))))))) gs_X12_layWorthsOf
set_option maxRecDepth 20000 in
theorem gX12_most__X12_layWorthsOf : GoodIn wsX12_most_ (wsV RX12 343 RX12 yX12_layWorthsOf wsX12_layWorthsOf) := goodIn_app (goodIn_of _ (by decide +kernel)) ggX12_most__X12_layWorthsOf
/-- HissHornModel.most(II)I of cell 0 -/
def rmX12_most__0 : Room := { frames := 141, cells := 0, slots := 0, locals := 8502 }
theorem hX12_most__0_X12 : ∀ w ∈ u_ws RX12 TX12 69, w ∈ wsX12_most_ := fun w h => (List.mem_cons_of_mem _ (List.mem_append_right _ h))
theorem mX12_most__0_1 : Cond.fieldLink RX12 151 "HissHornModel" "thrown" "I" ∈ wsX12_most_ := (List.mem_cons_of_mem _ (List.mem_append_left _ (List.mem_append_left _ (List.mem_of_getElem? (i := 19) rfl))))
theorem mX12_most__0_2 : Cond.fieldLink RX12 80 "HissHornModel" "readDay" "[I" ∈ wsX12_most_ := (List.mem_cons_of_mem _ (List.mem_append_left _ (List.mem_append_left _ (List.mem_of_getElem? (i := 20) rfl))))
theorem mX12_most__0_3 : Cond.fieldLink RX12 286 "HissHornModel" "parts" "I" ∈ wsX12_most_ := (List.mem_cons_of_mem _ (List.mem_append_left _ (List.mem_append_left _ (List.mem_of_getElem? (i := 21) rfl))))
theorem mX12_most__0_4 : Cond.fieldLink RX12 47 "HissHornModel" "partTold" "[I" ∈ wsX12_most_ := (List.mem_cons_of_mem _ (List.mem_append_left _ (List.mem_append_left _ (List.mem_of_getElem? (i := 22) rfl))))
def GX12_most__0_106 (k47 : Int32 → Int32 → Int32 → Int32 → SX → Option (Int32 × SX)) (z2 : Int32) (z3 : Int32) (z4 : Int32) (z5 : Int32) (u : SX) : Option (Int32 × SX) := (k47 z2 z3 z4 (z5 + 1) u)
def LX12_most__0_47  : Nat → Int32 → Int32 → Int32 → Int32 → SX → Option (Int32 × SX)
  | 0, _, _, _, _, _ => none
  | n + 1, z2, z3, z4, z5, u => (if (u.1 12) ≤ z5 then (some (z3, u)) else (gd (inb z5 12) (if z2 < (u.2.1 10 z5.toNatClampNeg) then (GX12_most__0_106 (LX12_most__0_47 n) z2 z3 z4 z5 u) else ((fX12_most_0 z5 u).bind fun q => match q with | (r17, u18) => ((fX12_least_0 z5 u18).bind fun q => match q with | (r20, u21) => (if z4 < (r17 - r20) then ((fX12_most_0 z5 u21).bind fun q => match q with | (r23, u24) => ((fX12_least_0 z5 u24).bind fun q => match q with | (r26, u27) => (lt (r23 - r26) fun v29 => (GX12_most__0_106 (LX12_most__0_47 n) z2 z5 v29 z5 u27)))) else (GX12_most__0_106 (LX12_most__0_47 n) z2 z3 z4 z5 u21)))))))
def fX12_most__0 (x1 : Int32) (x2 : Int32) (u : SX) : Option (Int32 × SX) := (lt (sI u 0 0) fun u1 => ((fX12_isReading_0 x1 u1).bind fun q => match q with | (r3, u4) => (if r3 = 0 then (some ((-1), u4)) else (gd (inb x1 80) ((fX12_isKnown_0 (u4.2.1 21 x1.toNatClampNeg) x2 u4).bind fun q => match q with | (r7, u8) => (if r7 = 0 then (some ((-1), u8)) else ((fX12_laySpansOf_0 x2 u8).bind fun q => match q with | (r10, u11) => ((fX12_layWorthsOf_0 x1 u11).bind fun q => match q with | (r13, u14) => (LX12_most__0_47  5000 x2 (-1) (-1) 0 u14)))))))))
set_option maxHeartbeats 4000000 in
set_option maxRecDepth 100000 in
theorem wGX12_most__0_106 {p : Program} {l : Launch} {e : Env} {s : State} {m : MethodId} {args : Array Value} {below : List Frame} {meth : Method} {c : Code} {D : va_G} {cy : Nat → ClassId} {ad st : Nat → Nat} (C : Cx RX12 cX12_most_ 6 (some .int) wsX12_most_ p s m args meth c) (hK : Ky D [(cy 0, .int), (cy 1, .long), (cy 2, .boolean), (cy 3, .byte), (cy 4, .object "HissHorn$Text")] st s) (hJ : JM ad st) {r : Int32} {u' : SX} {k47 : Int32 → Int32 → Int32 → Int32 → SX → Option (Int32 × SX)} (hk47 : ∀ (z2 : Int32) (z3 : Int32) (z4 : Int32) (z5 : Int32) (u : SX) (H : Heap) (locs : List Loc) (ls : Array Slot), k47 z2 z3 z4 z5 u = some (r, u') → va_P D vwCl (VM cy ad st u) H → va_S (Ax (AM ad) s.heap.size) s.heap H locs → lv_has ls 6 [(0, .ref (ad 0)), (2, .int z2), (3, .int z3), (4, .int z4), (5, .int z5)] → W p l e rmX12_most__0 s m args below meth c H locs 0 0 (MQ below (Qi D (VM cy ad st) (AM ad) s.heap.size r u') args s 0 0 (Ax (AM ad) s.heap.size)) (F0 m 47 ls [])) (z2 : Int32) (z3 : Int32) (z4 : Int32) (z5 : Int32) (u : SX) (H : Heap) (locs : List Loc) (ls : Array Slot) (h : GX12_most__0_106 k47 z2 z3 z4 z5 u = some (r, u')) (hP : va_P D vwCl (VM cy ad st u) H) (hS : va_S (Ax (AM ad) s.heap.size) s.heap H locs) (hl : lv_has ls 6 [(0, .ref (ad 0)), (2, .int z2), (3, .int z3), (4, .int z4), (5, .int z5)]) : W p l e rmX12_most__0 s m args below meth c H locs 0 0 (MQ below (Qi D (VM cy ad st) (AM ad) s.heap.size r u') args s 0 0 (Ax (AM ad) s.heap.size)) (F0 m 106 ls []) := by
  unfold GX12_most__0_106 at h
  refine lv_iinc (v := z5 + 1) (lv' := [(5, .int (z5 + 1)), (0, .ref (ad 0)), (2, .int z2), (3, .int z3), (4, .int z4)]) C.1 C.2.1 dX12_most__106 hl (k := 4) rfl rfl (by decide) rfl (fun ls hl => ?_)
  replace hl := lv_sub (l' := [(0, .ref (ad 0)), (2, .int z2), (3, .int z3), (4, .int z4), (5, .int (z5 + 1))]) hl [1, 2, 3, 4, 0] rfl
  refine lv_goto (tgt := 47) C.1 C.2.1 dX12_most__109 (by decide) ?_
  exact hk47 _ _ _ _ _ _ _ _ h hP hS hl
set_option maxHeartbeats 4000000 in
set_option maxRecDepth 100000 in
theorem wLX12_most__0_47 {p : Program} {l : Launch} {e : Env} {s : State} {m : MethodId} {args : Array Value} {below : List Frame} {meth : Method} {c : Code} {D : va_G} {cy : Nat → ClassId} {ad st : Nat → Nat} (C : Cx RX12 cX12_most_ 6 (some .int) wsX12_most_ p s m args meth c) (hK : Ky D [(cy 0, .int), (cy 1, .long), (cy 2, .boolean), (cy 3, .byte), (cy 4, .object "HissHorn$Text")] st s) (hJ : JM ad st) {r : Int32} {u' : SX}   : ∀ (n : Nat) (z2 : Int32) (z3 : Int32) (z4 : Int32) (z5 : Int32) (u : SX) (H : Heap) (locs : List Loc) (ls : Array Slot), LX12_most__0_47  n z2 z3 z4 z5 u = some (r, u') → va_P D vwCl (VM cy ad st u) H → va_S (Ax (AM ad) s.heap.size) s.heap H locs → lv_has ls 6 [(0, .ref (ad 0)), (2, .int z2), (3, .int z3), (4, .int z4), (5, .int z5)] → W p l e rmX12_most__0 s m args below meth c H locs 0 0 (MQ below (Qi D (VM cy ad st) (AM ad) s.heap.size r u') args s 0 0 (Ax (AM ad) s.heap.size)) (F0 m 47 ls []) := by
  intro n
  induction n with
  | zero =>
    intro z2 z3 z4 z5 u H locs ls h
    exact absurd h (by intro q; cases q)
  | succ n ih =>
    intro z2 z3 z4 z5 u H locs ls h hP hS hl
    rw [LX12_most__0_47] at h
    refine lv_iload C.1 C.2.1 dX12_most__47 (lv_at hl 4 rfl) ?_
    refine lv_aload_n C.1 C.2.1 dX12_most__49 rfl (lv_at hl 0 rfl) ?_
    refine gM_0_parts C hX12_most__0_X12 hK hP mX12_most__0_3 dX12_most__50 ?_
    refine lv_icmp_ge (tgt := 112) C.1 C.2.1 dX12_most__53 (by decide) (fun c53 => ?_) (fun c53 => ?_)
    · rw [if_pos c53] at h
      refine lv_iload_n C.1 C.2.1 dX12_most__112 rfl (lv_at hl 2 rfl) ?_
      cases h
      exact rt_i C hP hS dX12_most__113
    · rw [if_neg c53] at h
      refine lv_aload_n C.1 C.2.1 dX12_most__56 rfl (lv_at hl 0 rfl) ?_
      refine gM_0_partTold C hX12_most__0_X12 hK hP mX12_most__0_4 dX12_most__57 ?_
      refine lv_iload C.1 C.2.1 dX12_most__60 (lv_at hl 4 rfl) ?_
      obtain ⟨hg16, h⟩ := gd_some h
      refine lM_10 C hK hP hg16 dX12_most__62 ?_
      refine lv_iload_n C.1 C.2.1 dX12_most__63 rfl (lv_at hl 1 rfl) ?_
      refine lv_icmp_gt (tgt := 106) C.1 C.2.1 dX12_most__64 (by decide) (fun c64 => ?_) (fun c64 => ?_)
      · rw [if_pos c64] at h
        exact wGX12_most__0_106 C hK hJ ih _ _ _ _ _ _ _ _ h hP hS hl
      · rw [if_neg c64] at h
        refine lv_aload_n C.1 C.2.1 dX12_most__67 rfl (lv_at hl 0 rfl) ?_
        refine lv_iload C.1 C.2.1 dX12_most__68 (lv_at hl 4 rfl) ?_
        obtain ⟨⟨r17, u18⟩, hc19, h⟩ := bd_some h
        try dsimp only at h
        refine cg_i (As := [.int z5]) (rest := []) (AM_ge hJ) C hK hP hS (metX12_most_0 l D cy ad st hJ _ z5 hc19) (cwV 1 C.2.2.2.2.2.1 gX12_most__X12_most rfl rfl rfl (by decide +kernel) ⟨(Nat.le_of_ble_eq_true rfl), (Nat.le_of_ble_eq_true rfl)⟩) 0 12 rfl rfl rfl hl.1 rfl (Nat.le_of_ble_eq_true rfl) dX12_most__70 ⟨Nat.zero_le _, Nat.zero_le _⟩ (fun H locs hP hS => ?_)
        refine lv_aload_n C.1 C.2.1 dX12_most__73 rfl (lv_at hl 0 rfl) ?_
        refine lv_iload C.1 C.2.1 dX12_most__74 (lv_at hl 4 rfl) ?_
        obtain ⟨⟨r20, u21⟩, hc22, h⟩ := bd_some h
        try dsimp only at h
        refine cg_i (As := [.int z5]) (rest := [.int r17]) (AM_ge hJ) C hK hP hS (metX12_least_0 l D cy ad st hJ _ z5 hc22) (cwV 1 C.2.2.2.2.2.1 gX12_most__X12_least rfl rfl rfl (by decide +kernel) ⟨(Nat.le_of_ble_eq_true rfl), (Nat.le_of_ble_eq_true rfl)⟩) 0 12 rfl rfl rfl hl.1 rfl (Nat.le_of_ble_eq_true rfl) dX12_most__76 ⟨Nat.zero_le _, Nat.zero_le _⟩ (fun H locs hP hS => ?_)
        refine lv_isub C.1 C.2.1 dX12_most__79 ?_
        refine lv_iload C.1 C.2.1 dX12_most__80 (lv_at hl 3 rfl) ?_
        refine lv_icmp_gt (tgt := 88) C.1 C.2.1 dX12_most__82 (by decide) (fun c82 => ?_) (fun c82 => ?_)
        · rw [if_pos c82] at h
          refine lv_aload_n C.1 C.2.1 dX12_most__88 rfl (lv_at hl 0 rfl) ?_
          refine lv_iload C.1 C.2.1 dX12_most__89 (lv_at hl 4 rfl) ?_
          obtain ⟨⟨r23, u24⟩, hc25, h⟩ := bd_some h
          try dsimp only at h
          refine cg_i (As := [.int z5]) (rest := []) (AM_ge hJ) C hK hP hS (metX12_most_0 l D cy ad st hJ _ z5 hc25) (cwV 1 C.2.2.2.2.2.1 gX12_most__X12_most rfl rfl rfl (by decide +kernel) ⟨(Nat.le_of_ble_eq_true rfl), (Nat.le_of_ble_eq_true rfl)⟩) 0 12 rfl rfl rfl hl.1 rfl (Nat.le_of_ble_eq_true rfl) dX12_most__91 ⟨Nat.zero_le _, Nat.zero_le _⟩ (fun H locs hP hS => ?_)
          refine lv_aload_n C.1 C.2.1 dX12_most__94 rfl (lv_at hl 0 rfl) ?_
          refine lv_iload C.1 C.2.1 dX12_most__95 (lv_at hl 4 rfl) ?_
          obtain ⟨⟨r26, u27⟩, hc28, h⟩ := bd_some h
          try dsimp only at h
          refine cg_i (As := [.int z5]) (rest := [.int r23]) (AM_ge hJ) C hK hP hS (metX12_least_0 l D cy ad st hJ _ z5 hc28) (cwV 1 C.2.2.2.2.2.1 gX12_most__X12_least rfl rfl rfl (by decide +kernel) ⟨(Nat.le_of_ble_eq_true rfl), (Nat.le_of_ble_eq_true rfl)⟩) 0 12 rfl rfl rfl hl.1 rfl (Nat.le_of_ble_eq_true rfl) dX12_most__97 ⟨Nat.zero_le _, Nat.zero_le _⟩ (fun H locs hP hS => ?_)
          refine lv_isub C.1 C.2.1 dX12_most__100 ?_
          refine lv_topi (fun v29 hv30 => ?_)
          replace h := lt_e hv30 h
          try dsimp only at h
          refine lv_istore (lv' := [(4, .int v29), (0, .ref (ad 0)), (2, .int z2), (3, .int z3), (5, .int z5)]) C.1 C.2.1 dX12_most__101 hl (by decide) rfl (fun ls hl => ?_)
          replace hl := lv_sub (l' := [(0, .ref (ad 0)), (2, .int z2), (3, .int z3), (4, .int v29), (5, .int z5)]) hl [1, 2, 3, 0, 4] rfl
          refine lv_iload C.1 C.2.1 dX12_most__103 (lv_at hl 4 rfl) ?_
          refine lv_istore_n (lv' := [(3, .int z5), (0, .ref (ad 0)), (2, .int z2), (4, .int v29), (5, .int z5)]) C.1 C.2.1 dX12_most__105 rfl hl (by decide) rfl (fun ls hl => ?_)
          replace hl := lv_sub (l' := [(0, .ref (ad 0)), (2, .int z2), (3, .int z5), (4, .int v29), (5, .int z5)]) hl [1, 2, 0, 3, 4] rfl
          exact wGX12_most__0_106 C hK hJ ih _ _ _ _ _ _ _ _ h hP hS hl
        · rw [if_neg c82] at h
          refine lv_goto (tgt := 106) C.1 C.2.1 dX12_most__85 (by decide) ?_
          exact wGX12_most__0_106 C hK hJ ih _ _ _ _ _ _ _ _ h hP hS hl
set_option maxHeartbeats 4000000 in
set_option maxRecDepth 100000 in
theorem wX12_most__0 {p : Program} {l : Launch} {e : Env} {s : State} {m : MethodId} {args : Array Value} {below : List Frame} {meth : Method} {c : Code} {D : va_G} {cy : Nat → ClassId} {ad st : Nat → Nat} (C : Cx RX12 cX12_most_ 6 (some .int) wsX12_most_ p s m args meth c) (hK : Ky D [(cy 0, .int), (cy 1, .long), (cy 2, .boolean), (cy 3, .byte), (cy 4, .object "HissHorn$Text")] st s) (hJ : JM ad st) (x1 : Int32) (x2 : Int32) {u : SX} {r : Int32} {u' : SX} {H : Heap} {locs : List Loc} {ls : Array Slot} (h : fX12_most__0 x1 x2 u = some (r, u')) (hP : va_P D vwCl (VM cy ad st u) H) (hS : va_S (Ax (AM ad) s.heap.size) s.heap H locs) (hl : lv_has ls 6 [(0, .ref (ad 0)), (1, .int x1), (2, .int x2)]) : W p l e rmX12_most__0 s m args below meth c H locs 0 0 (MQ below (Qi D (VM cy ad st) (AM ad) s.heap.size r u') args s 0 0 (Ax (AM ad) s.heap.size)) (F0 m 0 ls []) := by
  unfold fX12_most__0 at h
  refine lv_aload_n C.1 C.2.1 dX12_most__0 rfl (lv_at hl 0 rfl) ?_
  refine lv_iconst (v := 0) C.1 C.2.1 dX12_most__1 (by decide) ?_
  refine pM_0_thrown C hX12_most__0_X12 hK hP hJ hS mX12_most__0_1 dX12_most__2 (fun H locs hP hS => ?_)
  obtain ⟨u1, hu2, h⟩ := lt_some h
  rw [← hu2] at hP
  refine lv_aload_n C.1 C.2.1 dX12_most__5 rfl (lv_at hl 0 rfl) ?_
  refine lv_iload_n C.1 C.2.1 dX12_most__6 rfl (lv_at hl 1 rfl) ?_
  obtain ⟨⟨r3, u4⟩, hc5, h⟩ := bd_some h
  try dsimp only at h
  refine cg_i (As := [.int x1]) (rest := []) (AM_ge hJ) C hK hP hS (metX12_isReading_0 l D cy ad st hJ _ x1 hc5) (cwV 1 C.2.2.2.2.2.1 gX12_most__X12_isReading rfl rfl rfl (by decide +kernel) ⟨(Nat.le_of_ble_eq_true rfl), (Nat.le_of_ble_eq_true rfl)⟩) 0 12 rfl rfl rfl hl.1 rfl (Nat.le_of_ble_eq_true rfl) dX12_most__7 ⟨Nat.zero_le _, Nat.zero_le _⟩ (fun H locs hP hS => ?_)
  refine lv_if_eq (tgt := 27) C.1 C.2.1 dX12_most__10 (by decide) (fun c10 => ?_) (fun c10 => ?_)
  · rw [if_pos c10] at h
    refine lv_iconst (v := (-1)) C.1 C.2.1 dX12_most__27 (by decide) ?_
    cases h
    exact rt_i C hP hS dX12_most__28
  · rw [if_neg c10] at h
    refine lv_aload_n C.1 C.2.1 dX12_most__13 rfl (lv_at hl 0 rfl) ?_
    refine lv_aload_n C.1 C.2.1 dX12_most__14 rfl (lv_at hl 0 rfl) ?_
    refine gM_0_readDay C hX12_most__0_X12 hK hP mX12_most__0_2 dX12_most__15 ?_
    refine lv_iload_n C.1 C.2.1 dX12_most__18 rfl (lv_at hl 1 rfl) ?_
    obtain ⟨hg6, h⟩ := gd_some h
    refine lM_21 C hK hP hg6 dX12_most__19 ?_
    refine lv_iload_n C.1 C.2.1 dX12_most__20 rfl (lv_at hl 2 rfl) ?_
    obtain ⟨⟨r7, u8⟩, hc9, h⟩ := bd_some h
    try dsimp only at h
    refine cg_i (As := [.int (u4.2.1 21 x1.toNatClampNeg), .int x2]) (rest := []) (AM_ge hJ) C hK hP hS (metX12_isKnown_0 l D cy ad st hJ _ (u4.2.1 21 x1.toNatClampNeg) x2 hc9) (cwV 2 C.2.2.2.2.2.1 gX12_most__X12_isKnown rfl rfl rfl (by decide +kernel) ⟨(Nat.le_of_ble_eq_true rfl), (Nat.le_of_ble_eq_true rfl)⟩) 0 12 rfl rfl rfl hl.1 rfl (Nat.le_of_ble_eq_true rfl) dX12_most__21 ⟨Nat.zero_le _, Nat.zero_le _⟩ (fun H locs hP hS => ?_)
    refine lv_if_ne (tgt := 29) C.1 C.2.1 dX12_most__24 (by decide) (fun c24 => ?_) (fun c24 => ?_)
    · rw [if_neg c24] at h
      refine lv_aload_n C.1 C.2.1 dX12_most__29 rfl (lv_at hl 0 rfl) ?_
      refine lv_iload_n C.1 C.2.1 dX12_most__30 rfl (lv_at hl 2 rfl) ?_
      obtain ⟨⟨r10, u11⟩, hc12, h⟩ := bd_some h
      try dsimp only at h
      refine cg_v (As := [.int x2]) (rest := []) (AM_ge hJ) C hK hP hS (metX12_laySpansOf_0 l D cy ad st hJ _ x2 hc12) (cwV 1 C.2.2.2.2.2.1 gX12_most__X12_laySpansOf rfl rfl rfl (by decide +kernel) ⟨(Nat.le_of_ble_eq_true rfl), (Nat.le_of_ble_eq_true rfl)⟩) 0 12 rfl rfl rfl hl.1 rfl (Nat.le_of_ble_eq_true rfl) dX12_most__31 ⟨Nat.zero_le _, Nat.zero_le _⟩ (fun H locs hP hS => ?_)
      refine lv_aload_n C.1 C.2.1 dX12_most__34 rfl (lv_at hl 0 rfl) ?_
      refine lv_iload_n C.1 C.2.1 dX12_most__35 rfl (lv_at hl 1 rfl) ?_
      obtain ⟨⟨r13, u14⟩, hc15, h⟩ := bd_some h
      try dsimp only at h
      refine cg_v (As := [.int x1]) (rest := []) (AM_ge hJ) C hK hP hS (metX12_layWorthsOf_0 l D cy ad st hJ _ x1 hc15) (cwV 1 C.2.2.2.2.2.1 gX12_most__X12_layWorthsOf rfl rfl rfl (by decide +kernel) ⟨(Nat.le_of_ble_eq_true rfl), (Nat.le_of_ble_eq_true rfl)⟩) 0 12 rfl rfl rfl hl.1 rfl (Nat.le_of_ble_eq_true rfl) dX12_most__36 ⟨Nat.zero_le _, Nat.zero_le _⟩ (fun H locs hP hS => ?_)
      refine lv_iconst (v := (-1)) C.1 C.2.1 dX12_most__39 (by decide) ?_
      refine lv_istore_n (lv' := [(3, .int (-1)), (0, .ref (ad 0)), (1, .int x1), (2, .int x2)]) C.1 C.2.1 dX12_most__40 rfl hl (by decide) rfl (fun ls hl => ?_)
      replace hl := lv_sub (l' := [(0, .ref (ad 0)), (1, .int x1), (2, .int x2), (3, .int (-1))]) hl [1, 2, 3, 0] rfl
      refine lv_iconst (v := (-1)) C.1 C.2.1 dX12_most__41 (by decide) ?_
      refine lv_istore (lv' := [(4, .int (-1)), (0, .ref (ad 0)), (1, .int x1), (2, .int x2), (3, .int (-1))]) C.1 C.2.1 dX12_most__42 hl (by decide) rfl (fun ls hl => ?_)
      replace hl := lv_sub (l' := [(0, .ref (ad 0)), (1, .int x1), (2, .int x2), (3, .int (-1)), (4, .int (-1))]) hl [1, 2, 3, 4, 0] rfl
      refine lv_iconst (v := 0) C.1 C.2.1 dX12_most__44 (by decide) ?_
      refine lv_istore (lv' := [(5, .int 0), (0, .ref (ad 0)), (1, .int x1), (2, .int x2), (3, .int (-1)), (4, .int (-1))]) C.1 C.2.1 dX12_most__45 hl (by decide) rfl (fun ls hl => ?_)
      replace hl := lv_sub (l' := [(0, .ref (ad 0)), (1, .int x1), (2, .int x2), (3, .int (-1)), (4, .int (-1)), (5, .int 0)]) hl [1, 2, 3, 4, 5, 0] rfl
      exact wLX12_most__0_47 C hK hJ  5000 _ _ _ _ _ _ _ _ h hP hS (lv_sub hl [0, 2, 3, 4, 5] rfl)
    · rw [if_pos c24] at h
      refine lv_iconst (v := (-1)) C.1 C.2.1 dX12_most__27 (by decide) ?_
      cases h
      exact rt_i C hP hS dX12_most__28
theorem metX12_most__0 (l : Launch) (D : va_G) (cy : Nat → ClassId) (ad st : Nat → Nat) (hJ : JM ad st) (sz : Nat) (x1 : Int32) (x2 : Int32) {u : SX} {r : Int32} {u' : SX} (h : fX12_most__0 x1 x2 u = some (r, u')) : Met l yX12_most_ wsX12_most_ rmX12_most__0 (va_Pc [.ref (ad 0), .int x1, .int x2] (Px D [(cy 0, .int), (cy 1, .long), (cy 2, .boolean), (cy 3, .byte), (cy 4, .object "HissHorn$Text")] st (VM cy ad st) sz u)) (Qi D (VM cy ad st) (AM ad) sz r u') 0 0 (Ax (AM ad) sz) := by
  refine Met.ofW (cc := cX12_most_) (maxL := 6) (ret := (some .int)) (by decide) rfl ?_
  intro p e s m args below meth c s₁ B hml hv
  obtain ⟨rfl, hsz, hP, hK⟩ := hv
  subst hsz
  have C : Cx RX12 cX12_most_ 6 (some .int) wsX12_most_ p s m _ meth c := ⟨B.exec, B.bytes, hml, B.returns, findClass_of_methodNamed B.named, atoms_spec (ws := wsX12_most_) B.pre, B.notSynchronized⟩
  have hl := lv_entry ([.ref (ad 0), .int x1, .int x2]) (n := 6) (Nat.le_of_ble_eq_true rfl)
  rw [lg_entry_eq]
  exact wX12_most__0 C hK hJ x1 x2 h hP va_S.rf hl

theorem zdX12_layAlike_107 : (and (and (and (and (and (zk cX12_layAlike 107 (.iinc 2 1) 3) (zk cX12_layAlike 110 (.goto (-98)) 3)) (and (zk cX12_layAlike 94 (.putfield 371) 3) (zk cX12_layAlike 97 (.aload_n 0) 1))) (and (and (zk cX12_layAlike 98 (.dup) 1) (zk cX12_layAlike 99 (.getfield 365) 3)) (and (zk cX12_layAlike 102 (.iconst 1) 1) (zk cX12_layAlike 103 (.iadd) 1)))) (and (and (and (zk cX12_layAlike 104 (.putfield 365) 3) (zk cX12_layAlike 65 (.putfield 368) 3)) (and (zk cX12_layAlike 68 (.aload_n 0) 1) (zk cX12_layAlike 69 (.aload_n 0) 1))) (and (and (zk cX12_layAlike 70 (.getfield 365) 3) (zk cX12_layAlike 73 (.ifCond .ne 10) 3)) (and (zk cX12_layAlike 83 (.aload_n 0) 1) (zk cX12_layAlike 84 (.getfield 371) 3))))) (and (and (and (and (zk cX12_layAlike 87 (.aload_n 0) 1) (zk cX12_layAlike 88 (.getfield 349) 3)) (and (zk cX12_layAlike 91 (.invokestatic 295) 3) (zk cX12_layAlike 76 (.aload_n 0) 1))) (and (and (zk cX12_layAlike 77 (.getfield 349) 3) (zk cX12_layAlike 80 (.goto 14) 3)) (and (zk cX12_layAlike 12 (.iload_n 2) 1) (zk cX12_layAlike 13 (.aload_n 0) 1)))) (and (and (and (zk cX12_layAlike 14 (.getfield 335) 3) (zk cX12_layAlike 17 (.if_icmp .ge 96) 3)) (and (zk cX12_layAlike 113 (.return_) 1) (zk cX12_layAlike 20 (.aload_n 0) 1))) (and (and (zk cX12_layAlike 21 (.getfield 80) 3) (zk cX12_layAlike 24 (.iload_n 2) 1)) (and (zk cX12_layAlike 25 (.iaload) 1) (zk cX12_layAlike 26 (.iload_n 1) 1)))))) = true := by decide +kernel
theorem dX12_layAlike_107 : decode cX12_layAlike 107 = .ok (.iinc 2 1, 3) := zk_of (zk_l (zk_l (zk_l (zk_l (zk_l zdX12_layAlike_107)))))
theorem dX12_layAlike_110 : decode cX12_layAlike 110 = .ok (.goto (-98), 3) := zk_of (zk_r (zk_l (zk_l (zk_l (zk_l zdX12_layAlike_107)))))
theorem dX12_layAlike_94 : decode cX12_layAlike 94 = .ok (.putfield 371, 3) := zk_of (zk_l (zk_r (zk_l (zk_l (zk_l zdX12_layAlike_107)))))
theorem dX12_layAlike_97 : decode cX12_layAlike 97 = .ok (.aload_n 0, 1) := zk_of (zk_r (zk_r (zk_l (zk_l (zk_l zdX12_layAlike_107)))))
theorem dX12_layAlike_98 : decode cX12_layAlike 98 = .ok (.dup, 1) := zk_of (zk_l (zk_l (zk_r (zk_l (zk_l zdX12_layAlike_107)))))
theorem dX12_layAlike_99 : decode cX12_layAlike 99 = .ok (.getfield 365, 3) := zk_of (zk_r (zk_l (zk_r (zk_l (zk_l zdX12_layAlike_107)))))
theorem dX12_layAlike_102 : decode cX12_layAlike 102 = .ok (.iconst 1, 1) := zk_of (zk_l (zk_r (zk_r (zk_l (zk_l zdX12_layAlike_107)))))
theorem dX12_layAlike_103 : decode cX12_layAlike 103 = .ok (.iadd, 1) := zk_of (zk_r (zk_r (zk_r (zk_l (zk_l zdX12_layAlike_107)))))
theorem dX12_layAlike_104 : decode cX12_layAlike 104 = .ok (.putfield 365, 3) := zk_of (zk_l (zk_l (zk_l (zk_r (zk_l zdX12_layAlike_107)))))
theorem dX12_layAlike_65 : decode cX12_layAlike 65 = .ok (.putfield 368, 3) := zk_of (zk_r (zk_l (zk_l (zk_r (zk_l zdX12_layAlike_107)))))
theorem dX12_layAlike_68 : decode cX12_layAlike 68 = .ok (.aload_n 0, 1) := zk_of (zk_l (zk_r (zk_l (zk_r (zk_l zdX12_layAlike_107)))))
theorem dX12_layAlike_69 : decode cX12_layAlike 69 = .ok (.aload_n 0, 1) := zk_of (zk_r (zk_r (zk_l (zk_r (zk_l zdX12_layAlike_107)))))
theorem dX12_layAlike_70 : decode cX12_layAlike 70 = .ok (.getfield 365, 3) := zk_of (zk_l (zk_l (zk_r (zk_r (zk_l zdX12_layAlike_107)))))
theorem dX12_layAlike_73 : decode cX12_layAlike 73 = .ok (.ifCond .ne 10, 3) := zk_of (zk_r (zk_l (zk_r (zk_r (zk_l zdX12_layAlike_107)))))
theorem dX12_layAlike_83 : decode cX12_layAlike 83 = .ok (.aload_n 0, 1) := zk_of (zk_l (zk_r (zk_r (zk_r (zk_l zdX12_layAlike_107)))))
theorem dX12_layAlike_84 : decode cX12_layAlike 84 = .ok (.getfield 371, 3) := zk_of (zk_r (zk_r (zk_r (zk_r (zk_l zdX12_layAlike_107)))))
theorem dX12_layAlike_87 : decode cX12_layAlike 87 = .ok (.aload_n 0, 1) := zk_of (zk_l (zk_l (zk_l (zk_l (zk_r zdX12_layAlike_107)))))
theorem dX12_layAlike_88 : decode cX12_layAlike 88 = .ok (.getfield 349, 3) := zk_of (zk_r (zk_l (zk_l (zk_l (zk_r zdX12_layAlike_107)))))
theorem dX12_layAlike_91 : decode cX12_layAlike 91 = .ok (.invokestatic 295, 3) := zk_of (zk_l (zk_r (zk_l (zk_l (zk_r zdX12_layAlike_107)))))
theorem dX12_layAlike_76 : decode cX12_layAlike 76 = .ok (.aload_n 0, 1) := zk_of (zk_r (zk_r (zk_l (zk_l (zk_r zdX12_layAlike_107)))))
theorem dX12_layAlike_77 : decode cX12_layAlike 77 = .ok (.getfield 349, 3) := zk_of (zk_l (zk_l (zk_r (zk_l (zk_r zdX12_layAlike_107)))))
theorem dX12_layAlike_80 : decode cX12_layAlike 80 = .ok (.goto 14, 3) := zk_of (zk_r (zk_l (zk_r (zk_l (zk_r zdX12_layAlike_107)))))
theorem dX12_layAlike_12 : decode cX12_layAlike 12 = .ok (.iload_n 2, 1) := zk_of (zk_l (zk_r (zk_r (zk_l (zk_r zdX12_layAlike_107)))))
theorem dX12_layAlike_13 : decode cX12_layAlike 13 = .ok (.aload_n 0, 1) := zk_of (zk_r (zk_r (zk_r (zk_l (zk_r zdX12_layAlike_107)))))
theorem dX12_layAlike_14 : decode cX12_layAlike 14 = .ok (.getfield 335, 3) := zk_of (zk_l (zk_l (zk_l (zk_r (zk_r zdX12_layAlike_107)))))
theorem dX12_layAlike_17 : decode cX12_layAlike 17 = .ok (.if_icmp .ge 96, 3) := zk_of (zk_r (zk_l (zk_l (zk_r (zk_r zdX12_layAlike_107)))))
theorem dX12_layAlike_113 : decode cX12_layAlike 113 = .ok (.return_, 1) := zk_of (zk_l (zk_r (zk_l (zk_r (zk_r zdX12_layAlike_107)))))
theorem dX12_layAlike_20 : decode cX12_layAlike 20 = .ok (.aload_n 0, 1) := zk_of (zk_r (zk_r (zk_l (zk_r (zk_r zdX12_layAlike_107)))))
theorem dX12_layAlike_21 : decode cX12_layAlike 21 = .ok (.getfield 80, 3) := zk_of (zk_l (zk_l (zk_r (zk_r (zk_r zdX12_layAlike_107)))))
theorem dX12_layAlike_24 : decode cX12_layAlike 24 = .ok (.iload_n 2, 1) := zk_of (zk_r (zk_l (zk_r (zk_r (zk_r zdX12_layAlike_107)))))
theorem dX12_layAlike_25 : decode cX12_layAlike 25 = .ok (.iaload, 1) := zk_of (zk_l (zk_r (zk_r (zk_r (zk_r zdX12_layAlike_107)))))
theorem dX12_layAlike_26 : decode cX12_layAlike 26 = .ok (.iload_n 1, 1) := zk_of (zk_r (zk_r (zk_r (zk_r (zk_r zdX12_layAlike_107)))))
theorem zdX12_layAlike_27 : (and (and (and (and (and (zk cX12_layAlike 27 (.if_icmp .le 6) 3) (zk cX12_layAlike 33 (.aload_n 0) 1)) (and (zk cX12_layAlike 34 (.iload_n 2) 1) (zk cX12_layAlike 35 (.iload_n 1) 1))) (and (and (zk cX12_layAlike 36 (.invokevirtual 361) 3) (zk cX12_layAlike 39 (.aload_n 0) 1)) (zk cX12_layAlike 40 (.aload_n 0) 1))) (and (and (and (zk cX12_layAlike 41 (.getfield 365) 3) (zk cX12_layAlike 44 (.ifCond .ne 10) 3)) (zk cX12_layAlike 54 (.aload_n 0) 1)) (and (and (zk cX12_layAlike 55 (.getfield 368) 3) (zk cX12_layAlike 58 (.aload_n 0) 1)) (zk cX12_layAlike 59 (.getfield 346) 3)))) (and (and (and (and (zk cX12_layAlike 62 (.invokestatic 293) 3) (zk cX12_layAlike 47 (.aload_n 0) 1)) (and (zk cX12_layAlike 48 (.getfield 346) 3) (zk cX12_layAlike 51 (.goto 14) 3))) (and (and (zk cX12_layAlike 30 (.goto 77) 3) (zk cX12_layAlike 0 (.aload_n 0) 1)) (zk cX12_layAlike 1 (.iload_n 1) 1))) (and (and (and (zk cX12_layAlike 2 (.invokevirtual 313) 3) (zk cX12_layAlike 5 (.aload_n 0) 1)) (zk cX12_layAlike 6 (.iconst 0) 1)) (and (and (zk cX12_layAlike 7 (.putfield 365) 3) (zk cX12_layAlike 10 (.iconst 0) 1)) (zk cX12_layAlike 11 (.istore_n 2) 1))))) = true := by decide +kernel
theorem dX12_layAlike_27 : decode cX12_layAlike 27 = .ok (.if_icmp .le 6, 3) := zk_of (zk_l (zk_l (zk_l (zk_l (zk_l zdX12_layAlike_27)))))
theorem dX12_layAlike_33 : decode cX12_layAlike 33 = .ok (.aload_n 0, 1) := zk_of (zk_r (zk_l (zk_l (zk_l (zk_l zdX12_layAlike_27)))))
theorem dX12_layAlike_34 : decode cX12_layAlike 34 = .ok (.iload_n 2, 1) := zk_of (zk_l (zk_r (zk_l (zk_l (zk_l zdX12_layAlike_27)))))
theorem dX12_layAlike_35 : decode cX12_layAlike 35 = .ok (.iload_n 1, 1) := zk_of (zk_r (zk_r (zk_l (zk_l (zk_l zdX12_layAlike_27)))))
theorem dX12_layAlike_36 : decode cX12_layAlike 36 = .ok (.invokevirtual 361, 3) := zk_of (zk_l (zk_l (zk_r (zk_l (zk_l zdX12_layAlike_27)))))
theorem dX12_layAlike_39 : decode cX12_layAlike 39 = .ok (.aload_n 0, 1) := zk_of (zk_r (zk_l (zk_r (zk_l (zk_l zdX12_layAlike_27)))))
theorem dX12_layAlike_40 : decode cX12_layAlike 40 = .ok (.aload_n 0, 1) := zk_of (zk_r (zk_r (zk_l (zk_l zdX12_layAlike_27))))
theorem dX12_layAlike_41 : decode cX12_layAlike 41 = .ok (.getfield 365, 3) := zk_of (zk_l (zk_l (zk_l (zk_r (zk_l zdX12_layAlike_27)))))
theorem dX12_layAlike_44 : decode cX12_layAlike 44 = .ok (.ifCond .ne 10, 3) := zk_of (zk_r (zk_l (zk_l (zk_r (zk_l zdX12_layAlike_27)))))
theorem dX12_layAlike_54 : decode cX12_layAlike 54 = .ok (.aload_n 0, 1) := zk_of (zk_r (zk_l (zk_r (zk_l zdX12_layAlike_27))))
theorem dX12_layAlike_55 : decode cX12_layAlike 55 = .ok (.getfield 368, 3) := zk_of (zk_l (zk_l (zk_r (zk_r (zk_l zdX12_layAlike_27)))))
theorem dX12_layAlike_58 : decode cX12_layAlike 58 = .ok (.aload_n 0, 1) := zk_of (zk_r (zk_l (zk_r (zk_r (zk_l zdX12_layAlike_27)))))
theorem dX12_layAlike_59 : decode cX12_layAlike 59 = .ok (.getfield 346, 3) := zk_of (zk_r (zk_r (zk_r (zk_l zdX12_layAlike_27))))
theorem dX12_layAlike_62 : decode cX12_layAlike 62 = .ok (.invokestatic 293, 3) := zk_of (zk_l (zk_l (zk_l (zk_l (zk_r zdX12_layAlike_27)))))
theorem dX12_layAlike_47 : decode cX12_layAlike 47 = .ok (.aload_n 0, 1) := zk_of (zk_r (zk_l (zk_l (zk_l (zk_r zdX12_layAlike_27)))))
theorem dX12_layAlike_48 : decode cX12_layAlike 48 = .ok (.getfield 346, 3) := zk_of (zk_l (zk_r (zk_l (zk_l (zk_r zdX12_layAlike_27)))))
theorem dX12_layAlike_51 : decode cX12_layAlike 51 = .ok (.goto 14, 3) := zk_of (zk_r (zk_r (zk_l (zk_l (zk_r zdX12_layAlike_27)))))
theorem dX12_layAlike_30 : decode cX12_layAlike 30 = .ok (.goto 77, 3) := zk_of (zk_l (zk_l (zk_r (zk_l (zk_r zdX12_layAlike_27)))))
theorem dX12_layAlike_0 : decode cX12_layAlike 0 = .ok (.aload_n 0, 1) := zk_of (zk_r (zk_l (zk_r (zk_l (zk_r zdX12_layAlike_27)))))
theorem dX12_layAlike_1 : decode cX12_layAlike 1 = .ok (.iload_n 1, 1) := zk_of (zk_r (zk_r (zk_l (zk_r zdX12_layAlike_27))))
theorem dX12_layAlike_2 : decode cX12_layAlike 2 = .ok (.invokevirtual 313, 3) := zk_of (zk_l (zk_l (zk_l (zk_r (zk_r zdX12_layAlike_27)))))
theorem dX12_layAlike_5 : decode cX12_layAlike 5 = .ok (.aload_n 0, 1) := zk_of (zk_r (zk_l (zk_l (zk_r (zk_r zdX12_layAlike_27)))))
theorem dX12_layAlike_6 : decode cX12_layAlike 6 = .ok (.iconst 0, 1) := zk_of (zk_r (zk_l (zk_r (zk_r zdX12_layAlike_27))))
theorem dX12_layAlike_7 : decode cX12_layAlike 7 = .ok (.putfield 365, 3) := zk_of (zk_l (zk_l (zk_r (zk_r (zk_r zdX12_layAlike_27)))))
theorem dX12_layAlike_10 : decode cX12_layAlike 10 = .ok (.iconst 0, 1) := zk_of (zk_r (zk_l (zk_r (zk_r (zk_r zdX12_layAlike_27)))))
theorem dX12_layAlike_11 : decode cX12_layAlike 11 = .ok (.istore_n 2, 1) := zk_of (zk_r (zk_r (zk_r (zk_r zdX12_layAlike_27))))
set_option maxRecDepth 20000 in
theorem ggX12_layAlike_X12_layLeft : GoodIn wsX12_layAlike wsX12_layLeft := ggi (fun w h => List.mem_cons_of_mem _ (List.mem_append_left _ (List.mem_append_right _ (List.mem_append_left _ h)))) gs_X12_layLeft
set_option maxRecDepth 20000 in
theorem gX12_layAlike_X12_layLeft : GoodIn wsX12_layAlike (wsV RX12 361 RX12 yX12_layLeft wsX12_layLeft) := goodIn_app (goodIn_of _ (by decide +kernel)) ggX12_layAlike_X12_layLeft
set_option maxRecDepth 20000 in
theorem ggX12_layAlike_X12_laySpansOf : GoodIn wsX12_layAlike wsX12_laySpansOf := ggi (fun w h => List.mem_cons_of_mem _ (List.mem_append_left _ (List.mem_append_right _ (List.mem_append_right _ h)))) gs_X12_laySpansOf
set_option maxRecDepth 20000 in
theorem gX12_layAlike_X12_laySpansOf : GoodIn wsX12_layAlike (wsV RX12 313 RX12 yX12_laySpansOf wsX12_laySpansOf) := goodIn_app (goodIn_of _ (by decide +kernel)) ggX12_layAlike_X12_laySpansOf
/-- HissHornModel.layAlike(I)V of cell 0 -/
def rmX12_layAlike_0 : Room := { frames := 142, cells := 0, slots := 0, locals := 8525 }
theorem hX12_layAlike_0_X12 : ∀ w ∈ u_ws RX12 TX12 69, w ∈ wsX12_layAlike := fun w h => (List.mem_cons_of_mem _ (List.mem_append_right _ h))
theorem mX12_layAlike_0_1 : Cond.fieldLink RX12 365 "HissHornModel" "knownMany" "I" ∈ wsX12_layAlike := (List.mem_cons_of_mem _ (List.mem_append_left _ (List.mem_append_left _ (List.mem_of_getElem? (i := 7) rfl))))
theorem mX12_layAlike_0_2 : Cond.fieldLink RX12 335 "HissHornModel" "readings" "I" ∈ wsX12_layAlike := (List.mem_cons_of_mem _ (List.mem_append_left _ (List.mem_append_left _ (List.mem_of_getElem? (i := 8) rfl))))
theorem mX12_layAlike_0_3 : Cond.fieldLink RX12 80 "HissHornModel" "readDay" "[I" ∈ wsX12_layAlike := (List.mem_cons_of_mem _ (List.mem_append_left _ (List.mem_append_left _ (List.mem_of_getElem? (i := 9) rfl))))
theorem mX12_layAlike_0_4 : Cond.fieldLink RX12 368 "HissHornModel" "alikeFrom" "I" ∈ wsX12_layAlike := (List.mem_cons_of_mem _ (List.mem_append_left _ (List.mem_append_left _ (List.mem_of_getElem? (i := 10) rfl))))
theorem mX12_layAlike_0_5 : Cond.fieldLink RX12 346 "HissHornModel" "leftFrom" "I" ∈ wsX12_layAlike := (List.mem_cons_of_mem _ (List.mem_append_left _ (List.mem_append_left _ (List.mem_of_getElem? (i := 11) rfl))))
theorem mX12_layAlike_0_6 : Cond.methodLink RX12 293 Lib.Math.max.name ∈ wsX12_layAlike := (List.mem_cons_of_mem _ (List.mem_append_left _ (List.mem_append_left _ (List.mem_of_getElem? (i := 12) rfl))))
theorem mX12_layAlike_0_7 : Cond.static Lib.Math.max.name ∈ wsX12_layAlike := (List.mem_cons_of_mem _ (List.mem_append_left _ (List.mem_append_left _ (List.mem_of_getElem? (i := 13) rfl))))
theorem mX12_layAlike_0_8 : Cond.initialized "java/lang/Math" ∈ wsX12_layAlike := (List.mem_cons_of_mem _ (List.mem_append_left _ (List.mem_append_left _ (List.mem_of_getElem? (i := 14) rfl))))
theorem mX12_layAlike_0_9 : Cond.code Lib.Math.max.name Lib.Math.max.code 2 (some .int) ∈ wsX12_layAlike := (List.mem_cons_of_mem _ (List.mem_append_left _ (List.mem_append_left _ (List.mem_of_getElem? (i := 15) rfl))))
theorem mX12_layAlike_0_10 : Cond.fieldLink RX12 371 "HissHornModel" "alikeTo" "I" ∈ wsX12_layAlike := (List.mem_cons_of_mem _ (List.mem_append_left _ (List.mem_append_left _ (List.mem_of_getElem? (i := 16) rfl))))
theorem mX12_layAlike_0_11 : Cond.fieldLink RX12 349 "HissHornModel" "leftTo" "I" ∈ wsX12_layAlike := (List.mem_cons_of_mem _ (List.mem_append_left _ (List.mem_append_left _ (List.mem_of_getElem? (i := 17) rfl))))
theorem mX12_layAlike_0_12 : Cond.methodLink RX12 295 Lib.Math.min.name ∈ wsX12_layAlike := (List.mem_cons_of_mem _ (List.mem_append_left _ (List.mem_append_left _ (List.mem_of_getElem? (i := 18) rfl))))
theorem mX12_layAlike_0_13 : Cond.static Lib.Math.min.name ∈ wsX12_layAlike := (List.mem_cons_of_mem _ (List.mem_append_left _ (List.mem_append_left _ (List.mem_of_getElem? (i := 19) rfl))))
theorem mX12_layAlike_0_14 : Cond.code Lib.Math.min.name Lib.Math.min.code 2 (some .int) ∈ wsX12_layAlike := (List.mem_cons_of_mem _ (List.mem_append_left _ (List.mem_append_left _ (List.mem_of_getElem? (i := 20) rfl))))
def GX12_layAlike_0_107 (k12 : Int32 → Int32 → SX → Option (Int32 × SX)) (z1 : Int32) (z2 : Int32) (u : SX) : Option (Int32 × SX) := (k12 z1 (z2 + 1) u)
def GX12_layAlike_0_94 (k12 : Int32 → Int32 → SX → Option (Int32 × SX)) (z1 : Int32) (z2 : Int32) (y0 : Int32) (u : SX) : Option (Int32 × SX) := (lt (sI u 20 y0) fun u12 => (lt (sI u12 18 ((u12.1 18) + 1)) fun u14 => (GX12_layAlike_0_107 k12 z1 z2 u14)))
def GX12_layAlike_0_65 (k12 : Int32 → Int32 → SX → Option (Int32 × SX)) (z1 : Int32) (z2 : Int32) (y0 : Int32) (u : SX) : Option (Int32 × SX) := (lt (sI u 19 y0) fun u10 => (if (u10.1 18) = 0 then (GX12_layAlike_0_94 k12 z1 z2 (u10.1 17) u10) else (GX12_layAlike_0_94 k12 z1 z2 (if (u10.1 17) < (u10.1 20) then (u10.1 17) else (u10.1 20)) u10)))
def LX12_layAlike_0_12  : Nat → Int32 → Int32 → SX → Option (Int32 × SX)
  | 0, _, _, _ => none
  | n + 1, z1, z2, u => (if (u.1 15) ≤ z2 then (some (0, u)) else (gd (inb z2 80) (if (u.2.1 21 z2.toNatClampNeg) ≤ z1 then ((fX12_layLeft_0 z2 z1 u).bind fun q => match q with | (r7, u8) => (if (u8.1 18) = 0 then (GX12_layAlike_0_65 (LX12_layAlike_0_12 n) z1 z2 (u8.1 16) u8) else (GX12_layAlike_0_65 (LX12_layAlike_0_12 n) z1 z2 (if (u8.1 19) < (u8.1 16) then (u8.1 16) else (u8.1 19)) u8))) else (GX12_layAlike_0_107 (LX12_layAlike_0_12 n) z1 z2 u))))
def fX12_layAlike_0 (x1 : Int32) (u : SX) : Option (Int32 × SX) := ((fX12_laySpansOf_0 x1 u).bind fun q => match q with | (r1, u2) => (lt (sI u2 18 0) fun u4 => (LX12_layAlike_0_12  5000 x1 0 u4)))
set_option maxHeartbeats 4000000 in
set_option maxRecDepth 100000 in
theorem wGX12_layAlike_0_107 {p : Program} {l : Launch} {e : Env} {s : State} {m : MethodId} {args : Array Value} {below : List Frame} {meth : Method} {c : Code} {D : va_G} {cy : Nat → ClassId} {ad st : Nat → Nat} (C : Cx RX12 cX12_layAlike 3 none wsX12_layAlike p s m args meth c) (hK : Ky D [(cy 0, .int), (cy 1, .long), (cy 2, .boolean), (cy 3, .byte), (cy 4, .object "HissHorn$Text")] st s) (hJ : JM ad st) {r : Int32} {u' : SX} {k12 : Int32 → Int32 → SX → Option (Int32 × SX)} (hk12 : ∀ (z1 : Int32) (z2 : Int32) (u : SX) (H : Heap) (locs : List Loc) (ls : Array Slot), k12 z1 z2 u = some (r, u') → va_P D vwCl (VM cy ad st u) H → va_S (Ax (AM ad) s.heap.size) s.heap H locs → lv_has ls 3 [(0, .ref (ad 0)), (1, .int z1), (2, .int z2)] → W p l e rmX12_layAlike_0 s m args below meth c H locs 0 0 (MQ below (Qv D (VM cy ad st) (AM ad) s.heap.size r u') args s 0 0 (Ax (AM ad) s.heap.size)) (F0 m 12 ls [])) (z1 : Int32) (z2 : Int32) (u : SX) (H : Heap) (locs : List Loc) (ls : Array Slot) (h : GX12_layAlike_0_107 k12 z1 z2 u = some (r, u')) (hP : va_P D vwCl (VM cy ad st u) H) (hS : va_S (Ax (AM ad) s.heap.size) s.heap H locs) (hl : lv_has ls 3 [(0, .ref (ad 0)), (1, .int z1), (2, .int z2)]) : W p l e rmX12_layAlike_0 s m args below meth c H locs 0 0 (MQ below (Qv D (VM cy ad st) (AM ad) s.heap.size r u') args s 0 0 (Ax (AM ad) s.heap.size)) (F0 m 107 ls []) := by
  unfold GX12_layAlike_0_107 at h
  refine lv_iinc (v := z2 + 1) (lv' := [(2, .int (z2 + 1)), (0, .ref (ad 0)), (1, .int z1)]) C.1 C.2.1 dX12_layAlike_107 hl (k := 2) rfl rfl (by decide) rfl (fun ls hl => ?_)
  replace hl := lv_sub (l' := [(0, .ref (ad 0)), (1, .int z1), (2, .int (z2 + 1))]) hl [1, 2, 0] rfl
  refine lv_goto (tgt := 12) C.1 C.2.1 dX12_layAlike_110 (by decide) ?_
  exact hk12 _ _ _ _ _ _ h hP hS hl
set_option maxHeartbeats 4000000 in
set_option maxRecDepth 100000 in
theorem wGX12_layAlike_0_94 {p : Program} {l : Launch} {e : Env} {s : State} {m : MethodId} {args : Array Value} {below : List Frame} {meth : Method} {c : Code} {D : va_G} {cy : Nat → ClassId} {ad st : Nat → Nat} (C : Cx RX12 cX12_layAlike 3 none wsX12_layAlike p s m args meth c) (hK : Ky D [(cy 0, .int), (cy 1, .long), (cy 2, .boolean), (cy 3, .byte), (cy 4, .object "HissHorn$Text")] st s) (hJ : JM ad st) {r : Int32} {u' : SX} {k12 : Int32 → Int32 → SX → Option (Int32 × SX)} (hk12 : ∀ (z1 : Int32) (z2 : Int32) (u : SX) (H : Heap) (locs : List Loc) (ls : Array Slot), k12 z1 z2 u = some (r, u') → va_P D vwCl (VM cy ad st u) H → va_S (Ax (AM ad) s.heap.size) s.heap H locs → lv_has ls 3 [(0, .ref (ad 0)), (1, .int z1), (2, .int z2)] → W p l e rmX12_layAlike_0 s m args below meth c H locs 0 0 (MQ below (Qv D (VM cy ad st) (AM ad) s.heap.size r u') args s 0 0 (Ax (AM ad) s.heap.size)) (F0 m 12 ls [])) (z1 : Int32) (z2 : Int32) (y0 : Int32) (u : SX) (H : Heap) (locs : List Loc) (ls : Array Slot) (h : GX12_layAlike_0_94 k12 z1 z2 y0 u = some (r, u')) (hP : va_P D vwCl (VM cy ad st u) H) (hS : va_S (Ax (AM ad) s.heap.size) s.heap H locs) (hl : lv_has ls 3 [(0, .ref (ad 0)), (1, .int z1), (2, .int z2)]) : W p l e rmX12_layAlike_0 s m args below meth c H locs 0 0 (MQ below (Qv D (VM cy ad st) (AM ad) s.heap.size r u') args s 0 0 (Ax (AM ad) s.heap.size)) (F0 m 94 ls [.int y0, .ref (ad 0)]) := by
  unfold GX12_layAlike_0_94 at h
  refine pM_0_alikeTo C hX12_layAlike_0_X12 hK hP hJ hS mX12_layAlike_0_10 dX12_layAlike_94 (fun H locs hP hS => ?_)
  obtain ⟨u12, hu13, h⟩ := lt_some h
  rw [← hu13] at hP
  refine lv_aload_n C.1 C.2.1 dX12_layAlike_97 rfl (lv_at hl 0 rfl) ?_
  refine lv_dup C.1 C.2.1 dX12_layAlike_98 rfl ?_
  refine gM_0_knownMany C hX12_layAlike_0_X12 hK hP mX12_layAlike_0_1 dX12_layAlike_99 ?_
  refine lv_iconst (v := 1) C.1 C.2.1 dX12_layAlike_102 (by decide) ?_
  refine lv_iadd C.1 C.2.1 dX12_layAlike_103 ?_
  refine pM_0_knownMany C hX12_layAlike_0_X12 hK hP hJ hS mX12_layAlike_0_1 dX12_layAlike_104 (fun H locs hP hS => ?_)
  obtain ⟨u14, hu15, h⟩ := lt_some h
  rw [← hu15] at hP
  exact wGX12_layAlike_0_107 C hK hJ hk12 _ _ _ _ _ _ h hP hS hl
set_option maxHeartbeats 4000000 in
set_option maxRecDepth 100000 in
theorem wGX12_layAlike_0_65 {p : Program} {l : Launch} {e : Env} {s : State} {m : MethodId} {args : Array Value} {below : List Frame} {meth : Method} {c : Code} {D : va_G} {cy : Nat → ClassId} {ad st : Nat → Nat} (C : Cx RX12 cX12_layAlike 3 none wsX12_layAlike p s m args meth c) (hK : Ky D [(cy 0, .int), (cy 1, .long), (cy 2, .boolean), (cy 3, .byte), (cy 4, .object "HissHorn$Text")] st s) (hJ : JM ad st) {r : Int32} {u' : SX} {k12 : Int32 → Int32 → SX → Option (Int32 × SX)} (hk12 : ∀ (z1 : Int32) (z2 : Int32) (u : SX) (H : Heap) (locs : List Loc) (ls : Array Slot), k12 z1 z2 u = some (r, u') → va_P D vwCl (VM cy ad st u) H → va_S (Ax (AM ad) s.heap.size) s.heap H locs → lv_has ls 3 [(0, .ref (ad 0)), (1, .int z1), (2, .int z2)] → W p l e rmX12_layAlike_0 s m args below meth c H locs 0 0 (MQ below (Qv D (VM cy ad st) (AM ad) s.heap.size r u') args s 0 0 (Ax (AM ad) s.heap.size)) (F0 m 12 ls [])) (z1 : Int32) (z2 : Int32) (y0 : Int32) (u : SX) (H : Heap) (locs : List Loc) (ls : Array Slot) (h : GX12_layAlike_0_65 k12 z1 z2 y0 u = some (r, u')) (hP : va_P D vwCl (VM cy ad st u) H) (hS : va_S (Ax (AM ad) s.heap.size) s.heap H locs) (hl : lv_has ls 3 [(0, .ref (ad 0)), (1, .int z1), (2, .int z2)]) : W p l e rmX12_layAlike_0 s m args below meth c H locs 0 0 (MQ below (Qv D (VM cy ad st) (AM ad) s.heap.size r u') args s 0 0 (Ax (AM ad) s.heap.size)) (F0 m 65 ls [.int y0, .ref (ad 0)]) := by
  unfold GX12_layAlike_0_65 at h
  refine pM_0_alikeFrom C hX12_layAlike_0_X12 hK hP hJ hS mX12_layAlike_0_4 dX12_layAlike_65 (fun H locs hP hS => ?_)
  obtain ⟨u10, hu11, h⟩ := lt_some h
  rw [← hu11] at hP
  refine lv_aload_n C.1 C.2.1 dX12_layAlike_68 rfl (lv_at hl 0 rfl) ?_
  refine lv_aload_n C.1 C.2.1 dX12_layAlike_69 rfl (lv_at hl 0 rfl) ?_
  refine gM_0_knownMany C hX12_layAlike_0_X12 hK hP mX12_layAlike_0_1 dX12_layAlike_70 ?_
  refine lv_if_ne (tgt := 83) C.1 C.2.1 dX12_layAlike_73 (by decide) (fun c73 => ?_) (fun c73 => ?_)
  · rw [if_neg c73] at h
    refine lv_aload_n C.1 C.2.1 dX12_layAlike_83 rfl (lv_at hl 0 rfl) ?_
    refine gM_0_alikeTo C hX12_layAlike_0_X12 hK hP mX12_layAlike_0_10 dX12_layAlike_84 ?_
    refine lv_aload_n C.1 C.2.1 dX12_layAlike_87 rfl (lv_at hl 0 rfl) ?_
    refine gM_0_leftTo C hX12_layAlike_0_X12 hK hP mX12_layAlike_0_11 dX12_layAlike_88 ?_
    refine va_mmin C.1 C.2.1 (C.2.2.1.trans hl.1.symm) C.2.2.2.2.1 (C.2.2.2.2.2.1 _ mX12_layAlike_0_12) (C.2.2.2.2.2.1 _ mX12_layAlike_0_13) (C.2.2.2.2.2.1 _ mX12_layAlike_0_8) (C.2.2.2.2.2.1 _ mX12_layAlike_0_14) (Nat.le_of_ble_eq_true rfl) (Nat.le_of_ble_eq_true rfl) (Nat.zero_le _) (Nat.zero_le _) dX12_layAlike_91 ?_
    exact wGX12_layAlike_0_94 C hK hJ hk12 _ _ _ _ _ _ _ h hP hS hl
  · rw [if_pos c73] at h
    refine lv_aload_n C.1 C.2.1 dX12_layAlike_76 rfl (lv_at hl 0 rfl) ?_
    refine gM_0_leftTo C hX12_layAlike_0_X12 hK hP mX12_layAlike_0_11 dX12_layAlike_77 ?_
    refine lv_goto (tgt := 94) C.1 C.2.1 dX12_layAlike_80 (by decide) ?_
    exact wGX12_layAlike_0_94 C hK hJ hk12 _ _ _ _ _ _ _ h hP hS hl
set_option maxHeartbeats 4000000 in
set_option maxRecDepth 100000 in
theorem wLX12_layAlike_0_12 {p : Program} {l : Launch} {e : Env} {s : State} {m : MethodId} {args : Array Value} {below : List Frame} {meth : Method} {c : Code} {D : va_G} {cy : Nat → ClassId} {ad st : Nat → Nat} (C : Cx RX12 cX12_layAlike 3 none wsX12_layAlike p s m args meth c) (hK : Ky D [(cy 0, .int), (cy 1, .long), (cy 2, .boolean), (cy 3, .byte), (cy 4, .object "HissHorn$Text")] st s) (hJ : JM ad st) {r : Int32} {u' : SX}   : ∀ (n : Nat) (z1 : Int32) (z2 : Int32) (u : SX) (H : Heap) (locs : List Loc) (ls : Array Slot), LX12_layAlike_0_12  n z1 z2 u = some (r, u') → va_P D vwCl (VM cy ad st u) H → va_S (Ax (AM ad) s.heap.size) s.heap H locs → lv_has ls 3 [(0, .ref (ad 0)), (1, .int z1), (2, .int z2)] → W p l e rmX12_layAlike_0 s m args below meth c H locs 0 0 (MQ below (Qv D (VM cy ad st) (AM ad) s.heap.size r u') args s 0 0 (Ax (AM ad) s.heap.size)) (F0 m 12 ls []) := by
  intro n
  induction n with
  | zero =>
    intro z1 z2 u H locs ls h
    exact absurd h (by intro q; cases q)
  | succ n ih =>
    intro z1 z2 u H locs ls h hP hS hl
    rw [LX12_layAlike_0_12] at h
    refine lv_iload_n C.1 C.2.1 dX12_layAlike_12 rfl (lv_at hl 2 rfl) ?_
    refine lv_aload_n C.1 C.2.1 dX12_layAlike_13 rfl (lv_at hl 0 rfl) ?_
    refine gM_0_readings C hX12_layAlike_0_X12 hK hP mX12_layAlike_0_2 dX12_layAlike_14 ?_
    refine lv_icmp_ge (tgt := 113) C.1 C.2.1 dX12_layAlike_17 (by decide) (fun c17 => ?_) (fun c17 => ?_)
    · rw [if_pos c17] at h
      cases h
      exact rt_v C hP hS dX12_layAlike_113
    · rw [if_neg c17] at h
      refine lv_aload_n C.1 C.2.1 dX12_layAlike_20 rfl (lv_at hl 0 rfl) ?_
      refine gM_0_readDay C hX12_layAlike_0_X12 hK hP mX12_layAlike_0_3 dX12_layAlike_21 ?_
      refine lv_iload_n C.1 C.2.1 dX12_layAlike_24 rfl (lv_at hl 2 rfl) ?_
      obtain ⟨hg6, h⟩ := gd_some h
      refine lM_21 C hK hP hg6 dX12_layAlike_25 ?_
      refine lv_iload_n C.1 C.2.1 dX12_layAlike_26 rfl (lv_at hl 1 rfl) ?_
      refine lv_icmp_le (tgt := 33) C.1 C.2.1 dX12_layAlike_27 (by decide) (fun c27 => ?_) (fun c27 => ?_)
      · rw [if_pos c27] at h
        refine lv_aload_n C.1 C.2.1 dX12_layAlike_33 rfl (lv_at hl 0 rfl) ?_
        refine lv_iload_n C.1 C.2.1 dX12_layAlike_34 rfl (lv_at hl 2 rfl) ?_
        refine lv_iload_n C.1 C.2.1 dX12_layAlike_35 rfl (lv_at hl 1 rfl) ?_
        obtain ⟨⟨r7, u8⟩, hc9, h⟩ := bd_some h
        try dsimp only at h
        refine cg_v (As := [.int z2, .int z1]) (rest := []) (AM_ge hJ) C hK hP hS (metX12_layLeft_0 l D cy ad st hJ _ z2 z1 hc9) (cwV 2 C.2.2.2.2.2.1 gX12_layAlike_X12_layLeft rfl rfl rfl (by decide +kernel) ⟨(Nat.le_of_ble_eq_true rfl), (Nat.le_of_ble_eq_true rfl)⟩) 0 12 rfl rfl rfl hl.1 rfl (Nat.le_of_ble_eq_true rfl) dX12_layAlike_36 ⟨Nat.zero_le _, Nat.zero_le _⟩ (fun H locs hP hS => ?_)
        refine lv_aload_n C.1 C.2.1 dX12_layAlike_39 rfl (lv_at hl 0 rfl) ?_
        refine lv_aload_n C.1 C.2.1 dX12_layAlike_40 rfl (lv_at hl 0 rfl) ?_
        refine gM_0_knownMany C hX12_layAlike_0_X12 hK hP mX12_layAlike_0_1 dX12_layAlike_41 ?_
        refine lv_if_ne (tgt := 54) C.1 C.2.1 dX12_layAlike_44 (by decide) (fun c44 => ?_) (fun c44 => ?_)
        · rw [if_neg c44] at h
          refine lv_aload_n C.1 C.2.1 dX12_layAlike_54 rfl (lv_at hl 0 rfl) ?_
          refine gM_0_alikeFrom C hX12_layAlike_0_X12 hK hP mX12_layAlike_0_4 dX12_layAlike_55 ?_
          refine lv_aload_n C.1 C.2.1 dX12_layAlike_58 rfl (lv_at hl 0 rfl) ?_
          refine gM_0_leftFrom C hX12_layAlike_0_X12 hK hP mX12_layAlike_0_5 dX12_layAlike_59 ?_
          refine va_mmax C.1 C.2.1 (C.2.2.1.trans hl.1.symm) C.2.2.2.2.1 (C.2.2.2.2.2.1 _ mX12_layAlike_0_6) (C.2.2.2.2.2.1 _ mX12_layAlike_0_7) (C.2.2.2.2.2.1 _ mX12_layAlike_0_8) (C.2.2.2.2.2.1 _ mX12_layAlike_0_9) (Nat.le_of_ble_eq_true rfl) (Nat.le_of_ble_eq_true rfl) (Nat.zero_le _) (Nat.zero_le _) dX12_layAlike_62 ?_
          exact wGX12_layAlike_0_65 C hK hJ ih _ _ _ _ _ _ _ h hP hS hl
        · rw [if_pos c44] at h
          refine lv_aload_n C.1 C.2.1 dX12_layAlike_47 rfl (lv_at hl 0 rfl) ?_
          refine gM_0_leftFrom C hX12_layAlike_0_X12 hK hP mX12_layAlike_0_5 dX12_layAlike_48 ?_
          refine lv_goto (tgt := 65) C.1 C.2.1 dX12_layAlike_51 (by decide) ?_
          exact wGX12_layAlike_0_65 C hK hJ ih _ _ _ _ _ _ _ h hP hS hl
      · rw [if_neg c27] at h
        refine lv_goto (tgt := 107) C.1 C.2.1 dX12_layAlike_30 (by decide) ?_
        exact wGX12_layAlike_0_107 C hK hJ ih _ _ _ _ _ _ h hP hS hl
set_option maxHeartbeats 4000000 in
set_option maxRecDepth 100000 in
theorem wX12_layAlike_0 {p : Program} {l : Launch} {e : Env} {s : State} {m : MethodId} {args : Array Value} {below : List Frame} {meth : Method} {c : Code} {D : va_G} {cy : Nat → ClassId} {ad st : Nat → Nat} (C : Cx RX12 cX12_layAlike 3 none wsX12_layAlike p s m args meth c) (hK : Ky D [(cy 0, .int), (cy 1, .long), (cy 2, .boolean), (cy 3, .byte), (cy 4, .object "HissHorn$Text")] st s) (hJ : JM ad st) (x1 : Int32) {u : SX} {r : Int32} {u' : SX} {H : Heap} {locs : List Loc} {ls : Array Slot} (h : fX12_layAlike_0 x1 u = some (r, u')) (hP : va_P D vwCl (VM cy ad st u) H) (hS : va_S (Ax (AM ad) s.heap.size) s.heap H locs) (hl : lv_has ls 3 [(0, .ref (ad 0)), (1, .int x1)]) : W p l e rmX12_layAlike_0 s m args below meth c H locs 0 0 (MQ below (Qv D (VM cy ad st) (AM ad) s.heap.size r u') args s 0 0 (Ax (AM ad) s.heap.size)) (F0 m 0 ls []) := by
  unfold fX12_layAlike_0 at h
  refine lv_aload_n C.1 C.2.1 dX12_layAlike_0 rfl (lv_at hl 0 rfl) ?_
  refine lv_iload_n C.1 C.2.1 dX12_layAlike_1 rfl (lv_at hl 1 rfl) ?_
  obtain ⟨⟨r1, u2⟩, hc3, h⟩ := bd_some h
  try dsimp only at h
  refine cg_v (As := [.int x1]) (rest := []) (AM_ge hJ) C hK hP hS (metX12_laySpansOf_0 l D cy ad st hJ _ x1 hc3) (cwV 1 C.2.2.2.2.2.1 gX12_layAlike_X12_laySpansOf rfl rfl rfl (by decide +kernel) ⟨(Nat.le_of_ble_eq_true rfl), (Nat.le_of_ble_eq_true rfl)⟩) 0 12 rfl rfl rfl hl.1 rfl (Nat.le_of_ble_eq_true rfl) dX12_layAlike_2 ⟨Nat.zero_le _, Nat.zero_le _⟩ (fun H locs hP hS => ?_)
  refine lv_aload_n C.1 C.2.1 dX12_layAlike_5 rfl (lv_at hl 0 rfl) ?_
  refine lv_iconst (v := 0) C.1 C.2.1 dX12_layAlike_6 (by decide) ?_
  refine pM_0_knownMany C hX12_layAlike_0_X12 hK hP hJ hS mX12_layAlike_0_1 dX12_layAlike_7 (fun H locs hP hS => ?_)
  obtain ⟨u4, hu5, h⟩ := lt_some h
  rw [← hu5] at hP
  refine lv_iconst (v := 0) C.1 C.2.1 dX12_layAlike_10 (by decide) ?_
  refine lv_istore_n (lv' := [(2, .int 0), (0, .ref (ad 0)), (1, .int x1)]) C.1 C.2.1 dX12_layAlike_11 rfl hl (by decide) rfl (fun ls hl => ?_)
  replace hl := lv_sub (l' := [(0, .ref (ad 0)), (1, .int x1), (2, .int 0)]) hl [1, 2, 0] rfl
  exact wLX12_layAlike_0_12 C hK hJ  5000 _ _ _ _ _ _ h hP hS hl
theorem metX12_layAlike_0 (l : Launch) (D : va_G) (cy : Nat → ClassId) (ad st : Nat → Nat) (hJ : JM ad st) (sz : Nat) (x1 : Int32) {u : SX} {r : Int32} {u' : SX} (h : fX12_layAlike_0 x1 u = some (r, u')) : Met l yX12_layAlike wsX12_layAlike rmX12_layAlike_0 (va_Pc [.ref (ad 0), .int x1] (Px D [(cy 0, .int), (cy 1, .long), (cy 2, .boolean), (cy 3, .byte), (cy 4, .object "HissHorn$Text")] st (VM cy ad st) sz u)) (Qv D (VM cy ad st) (AM ad) sz r u') 0 0 (Ax (AM ad) sz) := by
  refine Met.ofW (cc := cX12_layAlike) (maxL := 3) (ret := none) (by decide) rfl ?_
  intro p e s m args below meth c s₁ B hml hv
  obtain ⟨rfl, hsz, hP, hK⟩ := hv
  subst hsz
  have C : Cx RX12 cX12_layAlike 3 none wsX12_layAlike p s m _ meth c := ⟨B.exec, B.bytes, hml, B.returns, findClass_of_methodNamed B.named, atoms_spec (ws := wsX12_layAlike) B.pre, B.notSynchronized⟩
  have hl := lv_entry ([.ref (ad 0), .int x1]) (n := 3) (Nat.le_of_ble_eq_true rfl)
  rw [lg_entry_eq]
  exact wX12_layAlike_0 C hK hJ x1 h hP va_S.rf hl

theorem zdX12_alike_0 : (and (and (and (and (and (zk cX12_alike 0 (.aload_n 0) 1) (zk cX12_alike 1 (.iconst 0) 1)) (and (zk cX12_alike 2 (.putfield 151) 3) (zk cX12_alike 5 (.iload_n 1) 1))) (and (and (zk cX12_alike 6 (.iconst 0) 1) (zk cX12_alike 7 (.aload_n 0) 1)) (and (zk cX12_alike 8 (.getfield 159) 3) (zk cX12_alike 11 (.invokestatic 155) 3)))) (and (and (and (zk cX12_alike 14 (.ifCond .eq 12) 3) (zk cX12_alike 26 (.ldc_w 330) 3)) (and (zk cX12_alike 29 (.ireturn) 1) (zk cX12_alike 17 (.iload_n 2) 1))) (and (and (zk cX12_alike 18 (.iconst 0) 1) (zk cX12_alike 19 (.iconst 1) 1)) (and (zk cX12_alike 20 (.invokestatic 155) 3) (zk cX12_alike 23 (.ifCond .ne 7) 3))))) (and (and (and (and (zk cX12_alike 30 (.aload_n 0) 1) (zk cX12_alike 31 (.iload_n 1) 1)) (and (zk cX12_alike 32 (.invokevirtual 374) 3) (zk cX12_alike 35 (.aload_n 0) 1))) (and (and (zk cX12_alike 36 (.getfield 365) 3) (zk cX12_alike 39 (.ifCond .eq 14) 3)) (and (zk cX12_alike 53 (.ldc_w 330) 3) (zk cX12_alike 56 (.goto 18) 3)))) (and (and (and (zk cX12_alike 74 (.ireturn) 1) (zk cX12_alike 42 (.aload_n 0) 1)) (and (zk cX12_alike 43 (.getfield 368) 3) (zk cX12_alike 46 (.aload_n 0) 1))) (and (and (zk cX12_alike 47 (.getfield 371) 3) (zk cX12_alike 50 (.if_icmp .le 9) 3)) (and (zk cX12_alike 59 (.iload_n 2) 1) (zk cX12_alike 60 (.ifCond .ne 10) 3)))))) = true := by decide +kernel
theorem dX12_alike_0 : decode cX12_alike 0 = .ok (.aload_n 0, 1) := zk_of (zk_l (zk_l (zk_l (zk_l (zk_l zdX12_alike_0)))))
theorem dX12_alike_1 : decode cX12_alike 1 = .ok (.iconst 0, 1) := zk_of (zk_r (zk_l (zk_l (zk_l (zk_l zdX12_alike_0)))))
theorem dX12_alike_2 : decode cX12_alike 2 = .ok (.putfield 151, 3) := zk_of (zk_l (zk_r (zk_l (zk_l (zk_l zdX12_alike_0)))))
theorem dX12_alike_5 : decode cX12_alike 5 = .ok (.iload_n 1, 1) := zk_of (zk_r (zk_r (zk_l (zk_l (zk_l zdX12_alike_0)))))
theorem dX12_alike_6 : decode cX12_alike 6 = .ok (.iconst 0, 1) := zk_of (zk_l (zk_l (zk_r (zk_l (zk_l zdX12_alike_0)))))
theorem dX12_alike_7 : decode cX12_alike 7 = .ok (.aload_n 0, 1) := zk_of (zk_r (zk_l (zk_r (zk_l (zk_l zdX12_alike_0)))))
theorem dX12_alike_8 : decode cX12_alike 8 = .ok (.getfield 159, 3) := zk_of (zk_l (zk_r (zk_r (zk_l (zk_l zdX12_alike_0)))))
theorem dX12_alike_11 : decode cX12_alike 11 = .ok (.invokestatic 155, 3) := zk_of (zk_r (zk_r (zk_r (zk_l (zk_l zdX12_alike_0)))))
theorem dX12_alike_14 : decode cX12_alike 14 = .ok (.ifCond .eq 12, 3) := zk_of (zk_l (zk_l (zk_l (zk_r (zk_l zdX12_alike_0)))))
theorem dX12_alike_26 : decode cX12_alike 26 = .ok (.ldc_w 330, 3) := zk_of (zk_r (zk_l (zk_l (zk_r (zk_l zdX12_alike_0)))))
theorem dX12_alike_29 : decode cX12_alike 29 = .ok (.ireturn, 1) := zk_of (zk_l (zk_r (zk_l (zk_r (zk_l zdX12_alike_0)))))
theorem dX12_alike_17 : decode cX12_alike 17 = .ok (.iload_n 2, 1) := zk_of (zk_r (zk_r (zk_l (zk_r (zk_l zdX12_alike_0)))))
theorem dX12_alike_18 : decode cX12_alike 18 = .ok (.iconst 0, 1) := zk_of (zk_l (zk_l (zk_r (zk_r (zk_l zdX12_alike_0)))))
theorem dX12_alike_19 : decode cX12_alike 19 = .ok (.iconst 1, 1) := zk_of (zk_r (zk_l (zk_r (zk_r (zk_l zdX12_alike_0)))))
theorem dX12_alike_20 : decode cX12_alike 20 = .ok (.invokestatic 155, 3) := zk_of (zk_l (zk_r (zk_r (zk_r (zk_l zdX12_alike_0)))))
theorem dX12_alike_23 : decode cX12_alike 23 = .ok (.ifCond .ne 7, 3) := zk_of (zk_r (zk_r (zk_r (zk_r (zk_l zdX12_alike_0)))))
theorem dX12_alike_30 : decode cX12_alike 30 = .ok (.aload_n 0, 1) := zk_of (zk_l (zk_l (zk_l (zk_l (zk_r zdX12_alike_0)))))
theorem dX12_alike_31 : decode cX12_alike 31 = .ok (.iload_n 1, 1) := zk_of (zk_r (zk_l (zk_l (zk_l (zk_r zdX12_alike_0)))))
theorem dX12_alike_32 : decode cX12_alike 32 = .ok (.invokevirtual 374, 3) := zk_of (zk_l (zk_r (zk_l (zk_l (zk_r zdX12_alike_0)))))
theorem dX12_alike_35 : decode cX12_alike 35 = .ok (.aload_n 0, 1) := zk_of (zk_r (zk_r (zk_l (zk_l (zk_r zdX12_alike_0)))))
theorem dX12_alike_36 : decode cX12_alike 36 = .ok (.getfield 365, 3) := zk_of (zk_l (zk_l (zk_r (zk_l (zk_r zdX12_alike_0)))))
theorem dX12_alike_39 : decode cX12_alike 39 = .ok (.ifCond .eq 14, 3) := zk_of (zk_r (zk_l (zk_r (zk_l (zk_r zdX12_alike_0)))))
theorem dX12_alike_53 : decode cX12_alike 53 = .ok (.ldc_w 330, 3) := zk_of (zk_l (zk_r (zk_r (zk_l (zk_r zdX12_alike_0)))))
theorem dX12_alike_56 : decode cX12_alike 56 = .ok (.goto 18, 3) := zk_of (zk_r (zk_r (zk_r (zk_l (zk_r zdX12_alike_0)))))
theorem dX12_alike_74 : decode cX12_alike 74 = .ok (.ireturn, 1) := zk_of (zk_l (zk_l (zk_l (zk_r (zk_r zdX12_alike_0)))))
theorem dX12_alike_42 : decode cX12_alike 42 = .ok (.aload_n 0, 1) := zk_of (zk_r (zk_l (zk_l (zk_r (zk_r zdX12_alike_0)))))
theorem dX12_alike_43 : decode cX12_alike 43 = .ok (.getfield 368, 3) := zk_of (zk_l (zk_r (zk_l (zk_r (zk_r zdX12_alike_0)))))
theorem dX12_alike_46 : decode cX12_alike 46 = .ok (.aload_n 0, 1) := zk_of (zk_r (zk_r (zk_l (zk_r (zk_r zdX12_alike_0)))))
theorem dX12_alike_47 : decode cX12_alike 47 = .ok (.getfield 371, 3) := zk_of (zk_l (zk_l (zk_r (zk_r (zk_r zdX12_alike_0)))))
theorem dX12_alike_50 : decode cX12_alike 50 = .ok (.if_icmp .le 9, 3) := zk_of (zk_r (zk_l (zk_r (zk_r (zk_r zdX12_alike_0)))))
theorem dX12_alike_59 : decode cX12_alike 59 = .ok (.iload_n 2, 1) := zk_of (zk_l (zk_r (zk_r (zk_r (zk_r zdX12_alike_0)))))
theorem dX12_alike_60 : decode cX12_alike 60 = .ok (.ifCond .ne 10, 3) := zk_of (zk_r (zk_r (zk_r (zk_r (zk_r zdX12_alike_0)))))
set_option maxRecDepth 20000 in
theorem ggX12_alike_X12_isIn : GoodIn wsX12_alike wsX12_isIn := ggi (fun w h => List.mem_cons_of_mem _ (List.mem_append_left _ (List.mem_append_right _ (List.mem_append_left _ h)))) gs_X12_isIn
set_option maxRecDepth 20000 in
theorem gX12_alike_X12_isIn : GoodIn wsX12_alike (va_wsS RX12 155 yX12_isIn wsX12_isIn) := goodIn_app (goodIn_of _ (by decide +kernel)) ggX12_alike_X12_isIn
set_option maxRecDepth 20000 in
theorem ggX12_alike_X12_layAlike : GoodIn wsX12_alike wsX12_layAlike := ggi (fun w h => List.mem_cons_of_mem _ (List.mem_append_left _ (List.mem_append_right _ (List.mem_append_right _ h)))) gs_X12_layAlike
set_option maxRecDepth 20000 in
theorem gX12_alike_X12_layAlike : GoodIn wsX12_alike (wsV RX12 374 RX12 yX12_layAlike wsX12_layAlike) := goodIn_app (goodIn_of _ (by decide +kernel)) ggX12_alike_X12_layAlike
theorem zdX12_alike_70 : (and (and (and (zk cX12_alike 70 (.aload_n 0) 1) (zk cX12_alike 71 (.getfield 371) 3)) (zk cX12_alike 63 (.aload_n 0) 1)) (and (zk cX12_alike 64 (.getfield 368) 3) (zk cX12_alike 67 (.goto 7) 3))) = true := by decide +kernel
theorem dX12_alike_70 : decode cX12_alike 70 = .ok (.aload_n 0, 1) := zk_of (zk_l (zk_l (zk_l zdX12_alike_70)))
theorem dX12_alike_71 : decode cX12_alike 71 = .ok (.getfield 371, 3) := zk_of (zk_r (zk_l (zk_l zdX12_alike_70)))
theorem dX12_alike_63 : decode cX12_alike 63 = .ok (.aload_n 0, 1) := zk_of (zk_r (zk_l zdX12_alike_70))
theorem dX12_alike_64 : decode cX12_alike 64 = .ok (.getfield 368, 3) := zk_of (zk_l (zk_r zdX12_alike_70))
theorem dX12_alike_67 : decode cX12_alike 67 = .ok (.goto 7, 3) := zk_of (zk_r (zk_r zdX12_alike_70))
/-- HissHornModel.alike(II)I of cell 0 -/
def rmX12_alike_0 : Room := { frames := 143, cells := 0, slots := 0, locals := 8547 }
theorem hX12_alike_0_X12 : ∀ w ∈ u_ws RX12 TX12 69, w ∈ wsX12_alike := fun w h => (List.mem_cons_of_mem _ (List.mem_append_right _ h))
theorem mX12_alike_0_1 : Cond.fieldLink RX12 151 "HissHornModel" "thrown" "I" ∈ wsX12_alike := (List.mem_cons_of_mem _ (List.mem_append_left _ (List.mem_append_left _ (List.mem_of_getElem? (i := 6) rfl))))
theorem mX12_alike_0_2 : Cond.fieldLink RX12 159 "HissHornModel" "now" "I" ∈ wsX12_alike := (List.mem_cons_of_mem _ (List.mem_append_left _ (List.mem_append_left _ (List.mem_of_getElem? (i := 7) rfl))))
theorem mX12_alike_0_3 : Cond.constant RX12 330 (-100000000) ∈ wsX12_alike := (List.mem_cons_of_mem _ (List.mem_append_left _ (List.mem_append_left _ (List.mem_of_getElem? (i := 8) rfl))))
theorem mX12_alike_0_4 : Cond.fieldLink RX12 365 "HissHornModel" "knownMany" "I" ∈ wsX12_alike := (List.mem_cons_of_mem _ (List.mem_append_left _ (List.mem_append_left _ (List.mem_of_getElem? (i := 9) rfl))))
theorem mX12_alike_0_5 : Cond.fieldLink RX12 368 "HissHornModel" "alikeFrom" "I" ∈ wsX12_alike := (List.mem_cons_of_mem _ (List.mem_append_left _ (List.mem_append_left _ (List.mem_of_getElem? (i := 10) rfl))))
theorem mX12_alike_0_6 : Cond.fieldLink RX12 371 "HissHornModel" "alikeTo" "I" ∈ wsX12_alike := (List.mem_cons_of_mem _ (List.mem_append_left _ (List.mem_append_left _ (List.mem_of_getElem? (i := 11) rfl))))
def fX12_alike_0 (x1 : Int32) (x2 : Int32) (u : SX) : Option (Int32 × SX) := (lt (sI u 0 0) fun u1 => ((fX12_isIn x1 0 (u1.1 1)).bind fun r3 => (if r3 = 0 then (some ((-100000000), u1)) else ((fX12_isIn x2 0 1).bind fun r6 => (if r6 = 0 then (some ((-100000000), u1)) else ((fX12_layAlike_0 x1 u1).bind fun q => match q with | (r9, u10) => (if (u10.1 18) = 0 then (some ((-100000000), u10)) else (if (u10.1 19) ≤ (u10.1 20) then (if x2 = 0 then (some (u10.1 19, u10)) else (some (u10.1 20, u10))) else (some ((-100000000), u10))))))))))
set_option maxHeartbeats 4000000 in
set_option maxRecDepth 100000 in
theorem wX12_alike_0 {p : Program} {l : Launch} {e : Env} {s : State} {m : MethodId} {args : Array Value} {below : List Frame} {meth : Method} {c : Code} {D : va_G} {cy : Nat → ClassId} {ad st : Nat → Nat} (C : Cx RX12 cX12_alike 3 (some .int) wsX12_alike p s m args meth c) (hK : Ky D [(cy 0, .int), (cy 1, .long), (cy 2, .boolean), (cy 3, .byte), (cy 4, .object "HissHorn$Text")] st s) (hJ : JM ad st) (x1 : Int32) (x2 : Int32) {u : SX} {r : Int32} {u' : SX} {H : Heap} {locs : List Loc} {ls : Array Slot} (h : fX12_alike_0 x1 x2 u = some (r, u')) (hP : va_P D vwCl (VM cy ad st u) H) (hS : va_S (Ax (AM ad) s.heap.size) s.heap H locs) (hl : lv_has ls 3 [(0, .ref (ad 0)), (1, .int x1), (2, .int x2)]) : W p l e rmX12_alike_0 s m args below meth c H locs 0 0 (MQ below (Qi D (VM cy ad st) (AM ad) s.heap.size r u') args s 0 0 (Ax (AM ad) s.heap.size)) (F0 m 0 ls []) := by
  unfold fX12_alike_0 at h
  refine lv_aload_n C.1 C.2.1 dX12_alike_0 rfl (lv_at hl 0 rfl) ?_
  refine lv_iconst (v := 0) C.1 C.2.1 dX12_alike_1 (by decide) ?_
  refine pM_0_thrown C hX12_alike_0_X12 hK hP hJ hS mX12_alike_0_1 dX12_alike_2 (fun H locs hP hS => ?_)
  obtain ⟨u1, hu2, h⟩ := lt_some h
  rw [← hu2] at hP
  refine lv_iload_n C.1 C.2.1 dX12_alike_5 rfl (lv_at hl 1 rfl) ?_
  refine lv_iconst (v := 0) C.1 C.2.1 dX12_alike_6 (by decide) ?_
  refine lv_aload_n C.1 C.2.1 dX12_alike_7 rfl (lv_at hl 0 rfl) ?_
  refine gM_0_now C hX12_alike_0_X12 hK hP mX12_alike_0_2 dX12_alike_8 ?_
  obtain ⟨r3, hc5, h⟩ := bd_some h
  refine cs_i (As := [.int x1, .int 0, .int (u1.1 1)]) (rest := []) (AM_ge hJ) C hK hP hS (metX12_isIn l D cy st _ x1 0 (u1.1 1) hc5) (va_cwS 3 C.2.2.2.2.2.1 gX12_alike_X12_isIn rfl rfl rfl (by decide +kernel) ⟨(Nat.le_of_ble_eq_true rfl), (Nat.le_of_ble_eq_true rfl)⟩) rfl hl.1 rfl (Nat.le_of_ble_eq_true rfl) dX12_alike_11 ⟨Nat.zero_le _, Nat.zero_le _⟩ (fun H locs hP hS => ?_)
  refine lv_if_eq (tgt := 26) C.1 C.2.1 dX12_alike_14 (by decide) (fun c14 => ?_) (fun c14 => ?_)
  · rw [if_pos c14] at h
    refine lv_ldcw C.1 C.2.1 C.2.2.2.2.1 (C.2.2.2.2.2.1 _ mX12_alike_0_3) dX12_alike_26 ?_
    cases h
    exact rt_i C hP hS dX12_alike_29
  · rw [if_neg c14] at h
    refine lv_iload_n C.1 C.2.1 dX12_alike_17 rfl (lv_at hl 2 rfl) ?_
    refine lv_iconst (v := 0) C.1 C.2.1 dX12_alike_18 (by decide) ?_
    refine lv_iconst (v := 1) C.1 C.2.1 dX12_alike_19 (by decide) ?_
    obtain ⟨r6, hc8, h⟩ := bd_some h
    refine cs_i (As := [.int x2, .int 0, .int 1]) (rest := []) (AM_ge hJ) C hK hP hS (metX12_isIn l D cy st _ x2 0 1 hc8) (va_cwS 3 C.2.2.2.2.2.1 gX12_alike_X12_isIn rfl rfl rfl (by decide +kernel) ⟨(Nat.le_of_ble_eq_true rfl), (Nat.le_of_ble_eq_true rfl)⟩) rfl hl.1 rfl (Nat.le_of_ble_eq_true rfl) dX12_alike_20 ⟨Nat.zero_le _, Nat.zero_le _⟩ (fun H locs hP hS => ?_)
    refine lv_if_ne (tgt := 30) C.1 C.2.1 dX12_alike_23 (by decide) (fun c23 => ?_) (fun c23 => ?_)
    · rw [if_neg c23] at h
      refine lv_aload_n C.1 C.2.1 dX12_alike_30 rfl (lv_at hl 0 rfl) ?_
      refine lv_iload_n C.1 C.2.1 dX12_alike_31 rfl (lv_at hl 1 rfl) ?_
      obtain ⟨⟨r9, u10⟩, hc11, h⟩ := bd_some h
      try dsimp only at h
      refine cg_v (As := [.int x1]) (rest := []) (AM_ge hJ) C hK hP hS (metX12_layAlike_0 l D cy ad st hJ _ x1 hc11) (cwV 1 C.2.2.2.2.2.1 gX12_alike_X12_layAlike rfl rfl rfl (by decide +kernel) ⟨(Nat.le_of_ble_eq_true rfl), (Nat.le_of_ble_eq_true rfl)⟩) 0 12 rfl rfl rfl hl.1 rfl (Nat.le_of_ble_eq_true rfl) dX12_alike_32 ⟨Nat.zero_le _, Nat.zero_le _⟩ (fun H locs hP hS => ?_)
      refine lv_aload_n C.1 C.2.1 dX12_alike_35 rfl (lv_at hl 0 rfl) ?_
      refine gM_0_knownMany C hX12_alike_0_X12 hK hP mX12_alike_0_4 dX12_alike_36 ?_
      refine lv_if_eq (tgt := 53) C.1 C.2.1 dX12_alike_39 (by decide) (fun c39 => ?_) (fun c39 => ?_)
      · rw [if_pos c39] at h
        refine lv_ldcw C.1 C.2.1 C.2.2.2.2.1 (C.2.2.2.2.2.1 _ mX12_alike_0_3) dX12_alike_53 ?_
        refine lv_goto (tgt := 74) C.1 C.2.1 dX12_alike_56 (by decide) ?_
        cases h
        exact rt_i C hP hS dX12_alike_74
      · rw [if_neg c39] at h
        refine lv_aload_n C.1 C.2.1 dX12_alike_42 rfl (lv_at hl 0 rfl) ?_
        refine gM_0_alikeFrom C hX12_alike_0_X12 hK hP mX12_alike_0_5 dX12_alike_43 ?_
        refine lv_aload_n C.1 C.2.1 dX12_alike_46 rfl (lv_at hl 0 rfl) ?_
        refine gM_0_alikeTo C hX12_alike_0_X12 hK hP mX12_alike_0_6 dX12_alike_47 ?_
        refine lv_icmp_le (tgt := 59) C.1 C.2.1 dX12_alike_50 (by decide) (fun c50 => ?_) (fun c50 => ?_)
        · rw [if_pos c50] at h
          refine lv_iload_n C.1 C.2.1 dX12_alike_59 rfl (lv_at hl 2 rfl) ?_
          refine lv_if_ne (tgt := 70) C.1 C.2.1 dX12_alike_60 (by decide) (fun c60 => ?_) (fun c60 => ?_)
          · rw [if_neg c60] at h
            refine lv_aload_n C.1 C.2.1 dX12_alike_70 rfl (lv_at hl 0 rfl) ?_
            refine gM_0_alikeTo C hX12_alike_0_X12 hK hP mX12_alike_0_6 dX12_alike_71 ?_
            cases h
            exact rt_i C hP hS dX12_alike_74
          · rw [if_pos c60] at h
            refine lv_aload_n C.1 C.2.1 dX12_alike_63 rfl (lv_at hl 0 rfl) ?_
            refine gM_0_alikeFrom C hX12_alike_0_X12 hK hP mX12_alike_0_5 dX12_alike_64 ?_
            refine lv_goto (tgt := 74) C.1 C.2.1 dX12_alike_67 (by decide) ?_
            cases h
            exact rt_i C hP hS dX12_alike_74
        · rw [if_neg c50] at h
          refine lv_ldcw C.1 C.2.1 C.2.2.2.2.1 (C.2.2.2.2.2.1 _ mX12_alike_0_3) dX12_alike_53 ?_
          refine lv_goto (tgt := 74) C.1 C.2.1 dX12_alike_56 (by decide) ?_
          cases h
          exact rt_i C hP hS dX12_alike_74
    · rw [if_pos c23] at h
      refine lv_ldcw C.1 C.2.1 C.2.2.2.2.1 (C.2.2.2.2.2.1 _ mX12_alike_0_3) dX12_alike_26 ?_
      cases h
      exact rt_i C hP hS dX12_alike_29
theorem metX12_alike_0 (l : Launch) (D : va_G) (cy : Nat → ClassId) (ad st : Nat → Nat) (hJ : JM ad st) (sz : Nat) (x1 : Int32) (x2 : Int32) {u : SX} {r : Int32} {u' : SX} (h : fX12_alike_0 x1 x2 u = some (r, u')) : Met l yX12_alike wsX12_alike rmX12_alike_0 (va_Pc [.ref (ad 0), .int x1, .int x2] (Px D [(cy 0, .int), (cy 1, .long), (cy 2, .boolean), (cy 3, .byte), (cy 4, .object "HissHorn$Text")] st (VM cy ad st) sz u)) (Qi D (VM cy ad st) (AM ad) sz r u') 0 0 (Ax (AM ad) sz) := by
  refine Met.ofW (cc := cX12_alike) (maxL := 3) (ret := (some .int)) (by decide) rfl ?_
  intro p e s m args below meth c s₁ B hml hv
  obtain ⟨rfl, hsz, hP, hK⟩ := hv
  subst hsz
  have C : Cx RX12 cX12_alike 3 (some .int) wsX12_alike p s m _ meth c := ⟨B.exec, B.bytes, hml, B.returns, findClass_of_methodNamed B.named, atoms_spec (ws := wsX12_alike) B.pre, B.notSynchronized⟩
  have hl := lv_entry ([.ref (ad 0), .int x1, .int x2]) (n := 3) (Nat.le_of_ble_eq_true rfl)
  rw [lg_entry_eq]
  exact wX12_alike_0 C hK hJ x1 x2 h hP va_S.rf hl

theorem zdX12_layMeans_2 : (and (and (and (and (and (zk cX12_layMeans 2 (.iload_n 3) 1) (zk cX12_layMeans 3 (.bipush 41) 2)) (and (zk cX12_layMeans 5 (.if_icmp .ge 23) 3) (zk cX12_layMeans 8 (.aload_n 0) 1))) (and (and (zk cX12_layMeans 9 (.getfield 83) 3) (zk cX12_layMeans 12 (.iload_n 3) 1)) (and (zk cX12_layMeans 13 (.lconst 0) 1) (zk cX12_layMeans 14 (.lastore) 1)))) (and (and (and (zk cX12_layMeans 15 (.aload_n 0) 1) (zk cX12_layMeans 16 (.getfield 87) 3)) (and (zk cX12_layMeans 19 (.iload_n 3) 1) (zk cX12_layMeans 20 (.iconst 0) 1))) (and (and (zk cX12_layMeans 21 (.iastore) 1) (zk cX12_layMeans 22 (.iinc 3 1) 3)) (and (zk cX12_layMeans 25 (.goto (-23)) 3) (zk cX12_layMeans 103 (.iinc 3 1) 3))))) (and (and (and (and (zk cX12_layMeans 106 (.goto (-71)) 3) (zk cX12_layMeans 35 (.iload_n 3) 1)) (and (zk cX12_layMeans 36 (.aload_n 0) 1) (zk cX12_layMeans 37 (.getfield 335) 3))) (and (and (zk cX12_layMeans 40 (.if_icmp .ge 69) 3) (zk cX12_layMeans 109 (.return_) 1)) (and (zk cX12_layMeans 43 (.aload_n 0) 1) (zk cX12_layMeans 44 (.getfield 80) 3)))) (and (and (and (zk cX12_layMeans 47 (.iload_n 3) 1) (zk cX12_layMeans 48 (.iaload) 1)) (and (zk cX12_layMeans 49 (.iload_n 1) 1) (zk cX12_layMeans 50 (.if_icmp .le 6) 3))) (and (and (zk cX12_layMeans 56 (.aload_n 0) 1) (zk cX12_layMeans 57 (.iload_n 3) 1)) (and (zk cX12_layMeans 58 (.iload_n 1) 1) (zk cX12_layMeans 59 (.invokevirtual 361) 3)))))) = true := by decide +kernel
theorem dX12_layMeans_2 : decode cX12_layMeans 2 = .ok (.iload_n 3, 1) := zk_of (zk_l (zk_l (zk_l (zk_l (zk_l zdX12_layMeans_2)))))
theorem dX12_layMeans_3 : decode cX12_layMeans 3 = .ok (.bipush 41, 2) := zk_of (zk_r (zk_l (zk_l (zk_l (zk_l zdX12_layMeans_2)))))
theorem dX12_layMeans_5 : decode cX12_layMeans 5 = .ok (.if_icmp .ge 23, 3) := zk_of (zk_l (zk_r (zk_l (zk_l (zk_l zdX12_layMeans_2)))))
theorem dX12_layMeans_8 : decode cX12_layMeans 8 = .ok (.aload_n 0, 1) := zk_of (zk_r (zk_r (zk_l (zk_l (zk_l zdX12_layMeans_2)))))
theorem dX12_layMeans_9 : decode cX12_layMeans 9 = .ok (.getfield 83, 3) := zk_of (zk_l (zk_l (zk_r (zk_l (zk_l zdX12_layMeans_2)))))
theorem dX12_layMeans_12 : decode cX12_layMeans 12 = .ok (.iload_n 3, 1) := zk_of (zk_r (zk_l (zk_r (zk_l (zk_l zdX12_layMeans_2)))))
theorem dX12_layMeans_13 : decode cX12_layMeans 13 = .ok (.lconst 0, 1) := zk_of (zk_l (zk_r (zk_r (zk_l (zk_l zdX12_layMeans_2)))))
theorem dX12_layMeans_14 : decode cX12_layMeans 14 = .ok (.lastore, 1) := zk_of (zk_r (zk_r (zk_r (zk_l (zk_l zdX12_layMeans_2)))))
theorem dX12_layMeans_15 : decode cX12_layMeans 15 = .ok (.aload_n 0, 1) := zk_of (zk_l (zk_l (zk_l (zk_r (zk_l zdX12_layMeans_2)))))
theorem dX12_layMeans_16 : decode cX12_layMeans 16 = .ok (.getfield 87, 3) := zk_of (zk_r (zk_l (zk_l (zk_r (zk_l zdX12_layMeans_2)))))
theorem dX12_layMeans_19 : decode cX12_layMeans 19 = .ok (.iload_n 3, 1) := zk_of (zk_l (zk_r (zk_l (zk_r (zk_l zdX12_layMeans_2)))))
theorem dX12_layMeans_20 : decode cX12_layMeans 20 = .ok (.iconst 0, 1) := zk_of (zk_r (zk_r (zk_l (zk_r (zk_l zdX12_layMeans_2)))))
theorem dX12_layMeans_21 : decode cX12_layMeans 21 = .ok (.iastore, 1) := zk_of (zk_l (zk_l (zk_r (zk_r (zk_l zdX12_layMeans_2)))))
theorem dX12_layMeans_22 : decode cX12_layMeans 22 = .ok (.iinc 3 1, 3) := zk_of (zk_r (zk_l (zk_r (zk_r (zk_l zdX12_layMeans_2)))))
theorem dX12_layMeans_25 : decode cX12_layMeans 25 = .ok (.goto (-23), 3) := zk_of (zk_l (zk_r (zk_r (zk_r (zk_l zdX12_layMeans_2)))))
theorem dX12_layMeans_103 : decode cX12_layMeans 103 = .ok (.iinc 3 1, 3) := zk_of (zk_r (zk_r (zk_r (zk_r (zk_l zdX12_layMeans_2)))))
theorem dX12_layMeans_106 : decode cX12_layMeans 106 = .ok (.goto (-71), 3) := zk_of (zk_l (zk_l (zk_l (zk_l (zk_r zdX12_layMeans_2)))))
theorem dX12_layMeans_35 : decode cX12_layMeans 35 = .ok (.iload_n 3, 1) := zk_of (zk_r (zk_l (zk_l (zk_l (zk_r zdX12_layMeans_2)))))
theorem dX12_layMeans_36 : decode cX12_layMeans 36 = .ok (.aload_n 0, 1) := zk_of (zk_l (zk_r (zk_l (zk_l (zk_r zdX12_layMeans_2)))))
theorem dX12_layMeans_37 : decode cX12_layMeans 37 = .ok (.getfield 335, 3) := zk_of (zk_r (zk_r (zk_l (zk_l (zk_r zdX12_layMeans_2)))))
theorem dX12_layMeans_40 : decode cX12_layMeans 40 = .ok (.if_icmp .ge 69, 3) := zk_of (zk_l (zk_l (zk_r (zk_l (zk_r zdX12_layMeans_2)))))
theorem dX12_layMeans_109 : decode cX12_layMeans 109 = .ok (.return_, 1) := zk_of (zk_r (zk_l (zk_r (zk_l (zk_r zdX12_layMeans_2)))))
theorem dX12_layMeans_43 : decode cX12_layMeans 43 = .ok (.aload_n 0, 1) := zk_of (zk_l (zk_r (zk_r (zk_l (zk_r zdX12_layMeans_2)))))
theorem dX12_layMeans_44 : decode cX12_layMeans 44 = .ok (.getfield 80, 3) := zk_of (zk_r (zk_r (zk_r (zk_l (zk_r zdX12_layMeans_2)))))
theorem dX12_layMeans_47 : decode cX12_layMeans 47 = .ok (.iload_n 3, 1) := zk_of (zk_l (zk_l (zk_l (zk_r (zk_r zdX12_layMeans_2)))))
theorem dX12_layMeans_48 : decode cX12_layMeans 48 = .ok (.iaload, 1) := zk_of (zk_r (zk_l (zk_l (zk_r (zk_r zdX12_layMeans_2)))))
theorem dX12_layMeans_49 : decode cX12_layMeans 49 = .ok (.iload_n 1, 1) := zk_of (zk_l (zk_r (zk_l (zk_r (zk_r zdX12_layMeans_2)))))
theorem dX12_layMeans_50 : decode cX12_layMeans 50 = .ok (.if_icmp .le 6, 3) := zk_of (zk_r (zk_r (zk_l (zk_r (zk_r zdX12_layMeans_2)))))
theorem dX12_layMeans_56 : decode cX12_layMeans 56 = .ok (.aload_n 0, 1) := zk_of (zk_l (zk_l (zk_r (zk_r (zk_r zdX12_layMeans_2)))))
theorem dX12_layMeans_57 : decode cX12_layMeans 57 = .ok (.iload_n 3, 1) := zk_of (zk_r (zk_l (zk_r (zk_r (zk_r zdX12_layMeans_2)))))
theorem dX12_layMeans_58 : decode cX12_layMeans 58 = .ok (.iload_n 1, 1) := zk_of (zk_l (zk_r (zk_r (zk_r (zk_r zdX12_layMeans_2)))))
theorem dX12_layMeans_59 : decode cX12_layMeans 59 = .ok (.invokevirtual 361, 3) := zk_of (zk_r (zk_r (zk_r (zk_r (zk_r zdX12_layMeans_2)))))
set_option maxRecDepth 20000 in
theorem ggX12_layMeans_X12_layLeft : GoodIn wsX12_layMeans wsX12_layLeft := ggi (fun w h => List.mem_cons_of_mem _ (List.mem_append_left _ (List.mem_append_right _ (List.mem_append_left _ h)))) gs_X12_layLeft
set_option maxRecDepth 20000 in
theorem gX12_layMeans_X12_layLeft : GoodIn wsX12_layMeans (wsV RX12 361 RX12 yX12_layLeft wsX12_layLeft) := goodIn_app (goodIn_of _ (by decide +kernel)) ggX12_layMeans_X12_layLeft
theorem zdX12_layMeans_62 : (and (and (and (and (and (zk cX12_layMeans 62 (.aload_n 0) 1) (zk cX12_layMeans 63 (.iload_n 3) 1)) (and (zk cX12_layMeans 64 (.iload_n 2) 1) (zk cX12_layMeans 65 (.invokevirtual 340) 3))) (and (and (zk cX12_layMeans 68 (.istore 4) 2) (zk cX12_layMeans 70 (.aload_n 0) 1)) (and (zk cX12_layMeans 71 (.getfield 83) 3) (zk cX12_layMeans 74 (.iload 4) 2)))) (and (and (and (zk cX12_layMeans 76 (.dup2) 1) (zk cX12_layMeans 77 (.laload) 1)) (and (zk cX12_layMeans 78 (.aload_n 0) 1) (zk cX12_layMeans 79 (.getfield 346) 3))) (and (and (zk cX12_layMeans 82 (.aload_n 0) 1) (zk cX12_layMeans 83 (.getfield 349) 3)) (and (zk cX12_layMeans 86 (.iadd) 1) (zk cX12_layMeans 87 (.iconst 2) 1))))) (and (and (and (and (zk cX12_layMeans 88 (.idiv) 1) (zk cX12_layMeans 89 (.i2l) 1)) (and (zk cX12_layMeans 90 (.ladd) 1) (zk cX12_layMeans 91 (.lastore) 1))) (and (and (zk cX12_layMeans 92 (.aload_n 0) 1) (zk cX12_layMeans 93 (.getfield 87) 3)) (and (zk cX12_layMeans 96 (.iload 4) 2) (zk cX12_layMeans 98 (.dup2) 1)))) (and (and (and (zk cX12_layMeans 99 (.iaload) 1) (zk cX12_layMeans 100 (.iconst 1) 1)) (and (zk cX12_layMeans 101 (.iadd) 1) (zk cX12_layMeans 102 (.iastore) 1))) (and (and (zk cX12_layMeans 53 (.goto 50) 3) (zk cX12_layMeans 28 (.aload_n 0) 1)) (and (zk cX12_layMeans 29 (.iload_n 1) 1) (zk cX12_layMeans 30 (.invokevirtual 313) 3)))))) = true := by decide +kernel
theorem dX12_layMeans_62 : decode cX12_layMeans 62 = .ok (.aload_n 0, 1) := zk_of (zk_l (zk_l (zk_l (zk_l (zk_l zdX12_layMeans_62)))))
theorem dX12_layMeans_63 : decode cX12_layMeans 63 = .ok (.iload_n 3, 1) := zk_of (zk_r (zk_l (zk_l (zk_l (zk_l zdX12_layMeans_62)))))
theorem dX12_layMeans_64 : decode cX12_layMeans 64 = .ok (.iload_n 2, 1) := zk_of (zk_l (zk_r (zk_l (zk_l (zk_l zdX12_layMeans_62)))))
theorem dX12_layMeans_65 : decode cX12_layMeans 65 = .ok (.invokevirtual 340, 3) := zk_of (zk_r (zk_r (zk_l (zk_l (zk_l zdX12_layMeans_62)))))
theorem dX12_layMeans_68 : decode cX12_layMeans 68 = .ok (.istore 4, 2) := zk_of (zk_l (zk_l (zk_r (zk_l (zk_l zdX12_layMeans_62)))))
theorem dX12_layMeans_70 : decode cX12_layMeans 70 = .ok (.aload_n 0, 1) := zk_of (zk_r (zk_l (zk_r (zk_l (zk_l zdX12_layMeans_62)))))
theorem dX12_layMeans_71 : decode cX12_layMeans 71 = .ok (.getfield 83, 3) := zk_of (zk_l (zk_r (zk_r (zk_l (zk_l zdX12_layMeans_62)))))
theorem dX12_layMeans_74 : decode cX12_layMeans 74 = .ok (.iload 4, 2) := zk_of (zk_r (zk_r (zk_r (zk_l (zk_l zdX12_layMeans_62)))))
theorem dX12_layMeans_76 : decode cX12_layMeans 76 = .ok (.dup2, 1) := zk_of (zk_l (zk_l (zk_l (zk_r (zk_l zdX12_layMeans_62)))))
theorem dX12_layMeans_77 : decode cX12_layMeans 77 = .ok (.laload, 1) := zk_of (zk_r (zk_l (zk_l (zk_r (zk_l zdX12_layMeans_62)))))
theorem dX12_layMeans_78 : decode cX12_layMeans 78 = .ok (.aload_n 0, 1) := zk_of (zk_l (zk_r (zk_l (zk_r (zk_l zdX12_layMeans_62)))))
theorem dX12_layMeans_79 : decode cX12_layMeans 79 = .ok (.getfield 346, 3) := zk_of (zk_r (zk_r (zk_l (zk_r (zk_l zdX12_layMeans_62)))))
theorem dX12_layMeans_82 : decode cX12_layMeans 82 = .ok (.aload_n 0, 1) := zk_of (zk_l (zk_l (zk_r (zk_r (zk_l zdX12_layMeans_62)))))
theorem dX12_layMeans_83 : decode cX12_layMeans 83 = .ok (.getfield 349, 3) := zk_of (zk_r (zk_l (zk_r (zk_r (zk_l zdX12_layMeans_62)))))
theorem dX12_layMeans_86 : decode cX12_layMeans 86 = .ok (.iadd, 1) := zk_of (zk_l (zk_r (zk_r (zk_r (zk_l zdX12_layMeans_62)))))
theorem dX12_layMeans_87 : decode cX12_layMeans 87 = .ok (.iconst 2, 1) := zk_of (zk_r (zk_r (zk_r (zk_r (zk_l zdX12_layMeans_62)))))
theorem dX12_layMeans_88 : decode cX12_layMeans 88 = .ok (.idiv, 1) := zk_of (zk_l (zk_l (zk_l (zk_l (zk_r zdX12_layMeans_62)))))
theorem dX12_layMeans_89 : decode cX12_layMeans 89 = .ok (.i2l, 1) := zk_of (zk_r (zk_l (zk_l (zk_l (zk_r zdX12_layMeans_62)))))
theorem dX12_layMeans_90 : decode cX12_layMeans 90 = .ok (.ladd, 1) := zk_of (zk_l (zk_r (zk_l (zk_l (zk_r zdX12_layMeans_62)))))
theorem dX12_layMeans_91 : decode cX12_layMeans 91 = .ok (.lastore, 1) := zk_of (zk_r (zk_r (zk_l (zk_l (zk_r zdX12_layMeans_62)))))
theorem dX12_layMeans_92 : decode cX12_layMeans 92 = .ok (.aload_n 0, 1) := zk_of (zk_l (zk_l (zk_r (zk_l (zk_r zdX12_layMeans_62)))))
theorem dX12_layMeans_93 : decode cX12_layMeans 93 = .ok (.getfield 87, 3) := zk_of (zk_r (zk_l (zk_r (zk_l (zk_r zdX12_layMeans_62)))))
theorem dX12_layMeans_96 : decode cX12_layMeans 96 = .ok (.iload 4, 2) := zk_of (zk_l (zk_r (zk_r (zk_l (zk_r zdX12_layMeans_62)))))
theorem dX12_layMeans_98 : decode cX12_layMeans 98 = .ok (.dup2, 1) := zk_of (zk_r (zk_r (zk_r (zk_l (zk_r zdX12_layMeans_62)))))
theorem dX12_layMeans_99 : decode cX12_layMeans 99 = .ok (.iaload, 1) := zk_of (zk_l (zk_l (zk_l (zk_r (zk_r zdX12_layMeans_62)))))
theorem dX12_layMeans_100 : decode cX12_layMeans 100 = .ok (.iconst 1, 1) := zk_of (zk_r (zk_l (zk_l (zk_r (zk_r zdX12_layMeans_62)))))
theorem dX12_layMeans_101 : decode cX12_layMeans 101 = .ok (.iadd, 1) := zk_of (zk_l (zk_r (zk_l (zk_r (zk_r zdX12_layMeans_62)))))
theorem dX12_layMeans_102 : decode cX12_layMeans 102 = .ok (.iastore, 1) := zk_of (zk_r (zk_r (zk_l (zk_r (zk_r zdX12_layMeans_62)))))
theorem dX12_layMeans_53 : decode cX12_layMeans 53 = .ok (.goto 50, 3) := zk_of (zk_l (zk_l (zk_r (zk_r (zk_r zdX12_layMeans_62)))))
theorem dX12_layMeans_28 : decode cX12_layMeans 28 = .ok (.aload_n 0, 1) := zk_of (zk_r (zk_l (zk_r (zk_r (zk_r zdX12_layMeans_62)))))
theorem dX12_layMeans_29 : decode cX12_layMeans 29 = .ok (.iload_n 1, 1) := zk_of (zk_l (zk_r (zk_r (zk_r (zk_r zdX12_layMeans_62)))))
theorem dX12_layMeans_30 : decode cX12_layMeans 30 = .ok (.invokevirtual 313, 3) := zk_of (zk_r (zk_r (zk_r (zk_r (zk_r zdX12_layMeans_62)))))
set_option maxRecDepth 20000 in
theorem ggX12_layMeans_X12_aimOf : GoodIn wsX12_layMeans wsX12_aimOf := ggi (fun w h => List.mem_cons_of_mem _ (List.mem_append_left _ (List.mem_append_right _ (List.mem_append_right _ (List.mem_append_left _ h))))) gs_X12_aimOf
set_option maxRecDepth 20000 in
theorem gX12_layMeans_X12_aimOf : GoodIn wsX12_layMeans (wsV RX12 340 RX12 yX12_aimOf wsX12_aimOf) := goodIn_app (goodIn_of _ (by decide +kernel)) ggX12_layMeans_X12_aimOf
set_option maxRecDepth 20000 in
theorem ggX12_layMeans_X12_laySpansOf : GoodIn wsX12_layMeans wsX12_laySpansOf := ggi (fun w h => List.mem_cons_of_mem _ (List.mem_append_left _ (List.mem_append_right _ (List.mem_append_right _ (List.mem_append_right _ h))))) gs_X12_laySpansOf
set_option maxRecDepth 20000 in
theorem gX12_layMeans_X12_laySpansOf : GoodIn wsX12_layMeans (wsV RX12 313 RX12 yX12_laySpansOf wsX12_laySpansOf) := goodIn_app (goodIn_of _ (by decide +kernel)) ggX12_layMeans_X12_laySpansOf
theorem zdX12_layMeans_33 : (and (and (zk cX12_layMeans 33 (.iconst 0) 1) (zk cX12_layMeans 34 (.istore_n 3) 1)) (and (zk cX12_layMeans 0 (.iconst 0) 1) (zk cX12_layMeans 1 (.istore_n 3) 1))) = true := by decide +kernel
theorem dX12_layMeans_33 : decode cX12_layMeans 33 = .ok (.iconst 0, 1) := zk_of (zk_l (zk_l zdX12_layMeans_33))
theorem dX12_layMeans_34 : decode cX12_layMeans 34 = .ok (.istore_n 3, 1) := zk_of (zk_r (zk_l zdX12_layMeans_33))
theorem dX12_layMeans_0 : decode cX12_layMeans 0 = .ok (.iconst 0, 1) := zk_of (zk_l (zk_r zdX12_layMeans_33))
theorem dX12_layMeans_1 : decode cX12_layMeans 1 = .ok (.istore_n 3, 1) := zk_of (zk_r (zk_r zdX12_layMeans_33))
/-- HissHornModel.layMeans(II)V of cell 0 -/
def rmX12_layMeans_0 : Room := { frames := 142, cells := 0, slots := 0, locals := 8525 }
theorem hX12_layMeans_0_X12 : ∀ w ∈ u_ws RX12 TX12 69, w ∈ wsX12_layMeans := fun w h => (List.mem_cons_of_mem _ (List.mem_append_right _ h))
theorem mX12_layMeans_0_1 : Cond.fieldLink RX12 83 "HissHornModel" "sums" "[J" ∈ wsX12_layMeans := (List.mem_cons_of_mem _ (List.mem_append_left _ (List.mem_append_left _ (List.mem_of_getElem? (i := 10) rfl))))
theorem mX12_layMeans_0_2 : Cond.fieldLink RX12 87 "HissHornModel" "many" "[I" ∈ wsX12_layMeans := (List.mem_cons_of_mem _ (List.mem_append_left _ (List.mem_append_left _ (List.mem_of_getElem? (i := 11) rfl))))
def LX12_layMeans_0_2 (k28 : Int32 → Int32 → SX → Option (Int32 × SX)) : Nat → Int32 → Int32 → Int32 → SX → Option (Int32 × SX)
  | 0, _, _, _, _ => none
  | n + 1, z1, z2, z3, u => (if 41 ≤ z3 then (k28 z1 z2 u) else (gd (inb z3 41) (lt (sB u 22 (vp_updL (u.2.2.2.1 22) z3.toNatClampNeg 0)) fun u2 => (gd (inb z3 41) (lt (sA u2 23 (upd (u2.2.1 23) z3.toNatClampNeg 0)) fun u5 => ((LX12_layMeans_0_2 k28 n) z1 z2 (z3 + 1) u5))))))
theorem mX12_layMeans_0_3 : Cond.fieldLink RX12 335 "HissHornModel" "readings" "I" ∈ wsX12_layMeans := (List.mem_cons_of_mem _ (List.mem_append_left _ (List.mem_append_left _ (List.mem_of_getElem? (i := 12) rfl))))
theorem mX12_layMeans_0_4 : Cond.fieldLink RX12 80 "HissHornModel" "readDay" "[I" ∈ wsX12_layMeans := (List.mem_cons_of_mem _ (List.mem_append_left _ (List.mem_append_left _ (List.mem_of_getElem? (i := 13) rfl))))
theorem mX12_layMeans_0_5 : Cond.fieldLink RX12 346 "HissHornModel" "leftFrom" "I" ∈ wsX12_layMeans := (List.mem_cons_of_mem _ (List.mem_append_left _ (List.mem_append_left _ (List.mem_of_getElem? (i := 14) rfl))))
theorem mX12_layMeans_0_6 : Cond.fieldLink RX12 349 "HissHornModel" "leftTo" "I" ∈ wsX12_layMeans := (List.mem_cons_of_mem _ (List.mem_append_left _ (List.mem_append_left _ (List.mem_of_getElem? (i := 15) rfl))))
def GX12_layMeans_0_103 (k35 : Int32 → Int32 → Int32 → SX → Option (Int32 × SX)) (z1 : Int32) (z2 : Int32) (z3 : Int32) (u : SX) : Option (Int32 × SX) := (k35 z1 z2 (z3 + 1) u)
def LX12_layMeans_0_35  : Nat → Int32 → Int32 → Int32 → SX → Option (Int32 × SX)
  | 0, _, _, _, _ => none
  | n + 1, z1, z2, z3, u => (if (u.1 15) ≤ z3 then (some (0, u)) else (gd (inb z3 80) (if (u.2.1 21 z3.toNatClampNeg) ≤ z1 then ((fX12_layLeft_0 z3 z1 u).bind fun q => match q with | (r11, u12) => ((fX12_aimOf_0 z3 z2 u12).bind fun q => match q with | (r14, u15) => (gd (inb r14 41) (gd (nz 2) (gd (inb r14 41) (lt (sB u15 22 (vp_updL (u15.2.2.2.1 22) r14.toNatClampNeg ((u15.2.2.2.1 22 r14.toNatClampNeg) + ((((u15.1 16) + (u15.1 17)) / 2).toInt64)))) fun u20 => (gd (inb r14 41) (gd (inb r14 41) (lt (sA u20 23 (upd (u20.2.1 23) r14.toNatClampNeg ((u20.2.1 23 r14.toNatClampNeg) + 1))) fun u24 => (GX12_layMeans_0_103 (LX12_layMeans_0_35 n) z1 z2 z3 u24)))))))))) else (GX12_layMeans_0_103 (LX12_layMeans_0_35 n) z1 z2 z3 u))))
def GX12_layMeans_0_28 (z1 : Int32) (z2 : Int32) (u : SX) : Option (Int32 × SX) := ((fX12_laySpansOf_0 z1 u).bind fun q => match q with | (r7, u8) => (LX12_layMeans_0_35  5000 z1 z2 0 u8))
def fX12_layMeans_0 (x1 : Int32) (x2 : Int32) (u : SX) : Option (Int32 × SX) := (LX12_layMeans_0_2 GX12_layMeans_0_28 5000 x1 x2 0 u)
set_option maxHeartbeats 4000000 in
set_option maxRecDepth 100000 in
theorem wLX12_layMeans_0_2 {p : Program} {l : Launch} {e : Env} {s : State} {m : MethodId} {args : Array Value} {below : List Frame} {meth : Method} {c : Code} {D : va_G} {cy : Nat → ClassId} {ad st : Nat → Nat} (C : Cx RX12 cX12_layMeans 5 none wsX12_layMeans p s m args meth c) (hK : Ky D [(cy 0, .int), (cy 1, .long), (cy 2, .boolean), (cy 3, .byte), (cy 4, .object "HissHorn$Text")] st s) (hJ : JM ad st) {r : Int32} {u' : SX} {k28 : Int32 → Int32 → SX → Option (Int32 × SX)} (hk28 : ∀ (z1 : Int32) (z2 : Int32) (u : SX) (H : Heap) (locs : List Loc) (ls : Array Slot), k28 z1 z2 u = some (r, u') → va_P D vwCl (VM cy ad st u) H → va_S (Ax (AM ad) s.heap.size) s.heap H locs → lv_has ls 5 [(0, .ref (ad 0)), (1, .int z1), (2, .int z2)] → W p l e rmX12_layMeans_0 s m args below meth c H locs 0 0 (MQ below (Qv D (VM cy ad st) (AM ad) s.heap.size r u') args s 0 0 (Ax (AM ad) s.heap.size)) (F0 m 28 ls [])) : ∀ (n : Nat) (z1 : Int32) (z2 : Int32) (z3 : Int32) (u : SX) (H : Heap) (locs : List Loc) (ls : Array Slot), LX12_layMeans_0_2 k28 n z1 z2 z3 u = some (r, u') → va_P D vwCl (VM cy ad st u) H → va_S (Ax (AM ad) s.heap.size) s.heap H locs → lv_has ls 5 [(0, .ref (ad 0)), (1, .int z1), (2, .int z2), (3, .int z3)] → W p l e rmX12_layMeans_0 s m args below meth c H locs 0 0 (MQ below (Qv D (VM cy ad st) (AM ad) s.heap.size r u') args s 0 0 (Ax (AM ad) s.heap.size)) (F0 m 2 ls []) := by
  intro n
  induction n with
  | zero =>
    intro z1 z2 z3 u H locs ls h
    exact absurd h (by intro q; cases q)
  | succ n ih =>
    intro z1 z2 z3 u H locs ls h hP hS hl
    rw [LX12_layMeans_0_2] at h
    refine lv_iload_n C.1 C.2.1 dX12_layMeans_2 rfl (lv_at hl 3 rfl) ?_
    refine lv_bipush (v := 41) C.1 C.2.1 dX12_layMeans_3 (by decide) ?_
    refine lv_icmp_ge (tgt := 28) C.1 C.2.1 dX12_layMeans_5 (by decide) (fun c5 => ?_) (fun c5 => ?_)
    · rw [if_pos c5] at h
      exact hk28 _ _ _ _ _ _ h hP hS (lv_sub hl [0, 1, 2] rfl)
    · rw [if_neg c5] at h
      refine lv_aload_n C.1 C.2.1 dX12_layMeans_8 rfl (lv_at hl 0 rfl) ?_
      refine gM_0_sums C hX12_layMeans_0_X12 hK hP mX12_layMeans_0_1 dX12_layMeans_9 ?_
      refine lv_iload_n C.1 C.2.1 dX12_layMeans_12 rfl (lv_at hl 3 rfl) ?_
      refine lv_lconst (v := 0) C.1 C.2.1 dX12_layMeans_13 (by decide) ?_
      obtain ⟨hg1, h⟩ := gd_some h
      refine tM_22 C hK hP hJ hS hg1 dX12_layMeans_14 (fun H locs hP hS => ?_)
      obtain ⟨u2, hu3, h⟩ := lt_some h
      rw [← hu3] at hP
      refine lv_aload_n C.1 C.2.1 dX12_layMeans_15 rfl (lv_at hl 0 rfl) ?_
      refine gM_0_many C hX12_layMeans_0_X12 hK hP mX12_layMeans_0_2 dX12_layMeans_16 ?_
      refine lv_iload_n C.1 C.2.1 dX12_layMeans_19 rfl (lv_at hl 3 rfl) ?_
      refine lv_iconst (v := 0) C.1 C.2.1 dX12_layMeans_20 (by decide) ?_
      obtain ⟨hg4, h⟩ := gd_some h
      refine tM_23 C hK hP hJ hS hg4 dX12_layMeans_21 (fun H locs hP hS => ?_)
      obtain ⟨u5, hu6, h⟩ := lt_some h
      rw [← hu6] at hP
      refine lv_iinc (v := z3 + 1) (lv' := [(3, .int (z3 + 1)), (0, .ref (ad 0)), (1, .int z1), (2, .int z2)]) C.1 C.2.1 dX12_layMeans_22 hl (k := 3) rfl rfl (by decide) rfl (fun ls hl => ?_)
      replace hl := lv_sub (l' := [(0, .ref (ad 0)), (1, .int z1), (2, .int z2), (3, .int (z3 + 1))]) hl [1, 2, 3, 0] rfl
      refine lv_goto (tgt := 2) C.1 C.2.1 dX12_layMeans_25 (by decide) ?_
      exact ih _ _ _ _ _ _ _ h hP hS hl
set_option maxHeartbeats 4000000 in
set_option maxRecDepth 100000 in
theorem wGX12_layMeans_0_103 {p : Program} {l : Launch} {e : Env} {s : State} {m : MethodId} {args : Array Value} {below : List Frame} {meth : Method} {c : Code} {D : va_G} {cy : Nat → ClassId} {ad st : Nat → Nat} (C : Cx RX12 cX12_layMeans 5 none wsX12_layMeans p s m args meth c) (hK : Ky D [(cy 0, .int), (cy 1, .long), (cy 2, .boolean), (cy 3, .byte), (cy 4, .object "HissHorn$Text")] st s) (hJ : JM ad st) {r : Int32} {u' : SX} {k35 : Int32 → Int32 → Int32 → SX → Option (Int32 × SX)} (hk35 : ∀ (z1 : Int32) (z2 : Int32) (z3 : Int32) (u : SX) (H : Heap) (locs : List Loc) (ls : Array Slot), k35 z1 z2 z3 u = some (r, u') → va_P D vwCl (VM cy ad st u) H → va_S (Ax (AM ad) s.heap.size) s.heap H locs → lv_has ls 5 [(0, .ref (ad 0)), (1, .int z1), (2, .int z2), (3, .int z3)] → W p l e rmX12_layMeans_0 s m args below meth c H locs 0 0 (MQ below (Qv D (VM cy ad st) (AM ad) s.heap.size r u') args s 0 0 (Ax (AM ad) s.heap.size)) (F0 m 35 ls [])) (z1 : Int32) (z2 : Int32) (z3 : Int32) (u : SX) (H : Heap) (locs : List Loc) (ls : Array Slot) (h : GX12_layMeans_0_103 k35 z1 z2 z3 u = some (r, u')) (hP : va_P D vwCl (VM cy ad st u) H) (hS : va_S (Ax (AM ad) s.heap.size) s.heap H locs) (hl : lv_has ls 5 [(0, .ref (ad 0)), (1, .int z1), (2, .int z2), (3, .int z3)]) : W p l e rmX12_layMeans_0 s m args below meth c H locs 0 0 (MQ below (Qv D (VM cy ad st) (AM ad) s.heap.size r u') args s 0 0 (Ax (AM ad) s.heap.size)) (F0 m 103 ls []) := by
  unfold GX12_layMeans_0_103 at h
  refine lv_iinc (v := z3 + 1) (lv' := [(3, .int (z3 + 1)), (0, .ref (ad 0)), (1, .int z1), (2, .int z2)]) C.1 C.2.1 dX12_layMeans_103 hl (k := 3) rfl rfl (by decide) rfl (fun ls hl => ?_)
  replace hl := lv_sub (l' := [(0, .ref (ad 0)), (1, .int z1), (2, .int z2), (3, .int (z3 + 1))]) hl [1, 2, 3, 0] rfl
  refine lv_goto (tgt := 35) C.1 C.2.1 dX12_layMeans_106 (by decide) ?_
  exact hk35 _ _ _ _ _ _ _ h hP hS hl
set_option maxHeartbeats 4000000 in
set_option maxRecDepth 100000 in
theorem wLX12_layMeans_0_35 {p : Program} {l : Launch} {e : Env} {s : State} {m : MethodId} {args : Array Value} {below : List Frame} {meth : Method} {c : Code} {D : va_G} {cy : Nat → ClassId} {ad st : Nat → Nat} (C : Cx RX12 cX12_layMeans 5 none wsX12_layMeans p s m args meth c) (hK : Ky D [(cy 0, .int), (cy 1, .long), (cy 2, .boolean), (cy 3, .byte), (cy 4, .object "HissHorn$Text")] st s) (hJ : JM ad st) {r : Int32} {u' : SX}   : ∀ (n : Nat) (z1 : Int32) (z2 : Int32) (z3 : Int32) (u : SX) (H : Heap) (locs : List Loc) (ls : Array Slot), LX12_layMeans_0_35  n z1 z2 z3 u = some (r, u') → va_P D vwCl (VM cy ad st u) H → va_S (Ax (AM ad) s.heap.size) s.heap H locs → lv_has ls 5 [(0, .ref (ad 0)), (1, .int z1), (2, .int z2), (3, .int z3)] → W p l e rmX12_layMeans_0 s m args below meth c H locs 0 0 (MQ below (Qv D (VM cy ad st) (AM ad) s.heap.size r u') args s 0 0 (Ax (AM ad) s.heap.size)) (F0 m 35 ls []) := by
  intro n
  induction n with
  | zero =>
    intro z1 z2 z3 u H locs ls h
    exact absurd h (by intro q; cases q)
  | succ n ih =>
    intro z1 z2 z3 u H locs ls h hP hS hl
    rw [LX12_layMeans_0_35] at h
    refine lv_iload_n C.1 C.2.1 dX12_layMeans_35 rfl (lv_at hl 3 rfl) ?_
    refine lv_aload_n C.1 C.2.1 dX12_layMeans_36 rfl (lv_at hl 0 rfl) ?_
    refine gM_0_readings C hX12_layMeans_0_X12 hK hP mX12_layMeans_0_3 dX12_layMeans_37 ?_
    refine lv_icmp_ge (tgt := 109) C.1 C.2.1 dX12_layMeans_40 (by decide) (fun c40 => ?_) (fun c40 => ?_)
    · rw [if_pos c40] at h
      cases h
      exact rt_v C hP hS dX12_layMeans_109
    · rw [if_neg c40] at h
      refine lv_aload_n C.1 C.2.1 dX12_layMeans_43 rfl (lv_at hl 0 rfl) ?_
      refine gM_0_readDay C hX12_layMeans_0_X12 hK hP mX12_layMeans_0_4 dX12_layMeans_44 ?_
      refine lv_iload_n C.1 C.2.1 dX12_layMeans_47 rfl (lv_at hl 3 rfl) ?_
      obtain ⟨hg10, h⟩ := gd_some h
      refine lM_21 C hK hP hg10 dX12_layMeans_48 ?_
      refine lv_iload_n C.1 C.2.1 dX12_layMeans_49 rfl (lv_at hl 1 rfl) ?_
      refine lv_icmp_le (tgt := 56) C.1 C.2.1 dX12_layMeans_50 (by decide) (fun c50 => ?_) (fun c50 => ?_)
      · rw [if_pos c50] at h
        refine lv_aload_n C.1 C.2.1 dX12_layMeans_56 rfl (lv_at hl 0 rfl) ?_
        refine lv_iload_n C.1 C.2.1 dX12_layMeans_57 rfl (lv_at hl 3 rfl) ?_
        refine lv_iload_n C.1 C.2.1 dX12_layMeans_58 rfl (lv_at hl 1 rfl) ?_
        obtain ⟨⟨r11, u12⟩, hc13, h⟩ := bd_some h
        try dsimp only at h
        refine cg_v (As := [.int z3, .int z1]) (rest := []) (AM_ge hJ) C hK hP hS (metX12_layLeft_0 l D cy ad st hJ _ z3 z1 hc13) (cwV 2 C.2.2.2.2.2.1 gX12_layMeans_X12_layLeft rfl rfl rfl (by decide +kernel) ⟨(Nat.le_of_ble_eq_true rfl), (Nat.le_of_ble_eq_true rfl)⟩) 0 12 rfl rfl rfl hl.1 rfl (Nat.le_of_ble_eq_true rfl) dX12_layMeans_59 ⟨Nat.zero_le _, Nat.zero_le _⟩ (fun H locs hP hS => ?_)
        refine lv_aload_n C.1 C.2.1 dX12_layMeans_62 rfl (lv_at hl 0 rfl) ?_
        refine lv_iload_n C.1 C.2.1 dX12_layMeans_63 rfl (lv_at hl 3 rfl) ?_
        refine lv_iload_n C.1 C.2.1 dX12_layMeans_64 rfl (lv_at hl 2 rfl) ?_
        obtain ⟨⟨r14, u15⟩, hc16, h⟩ := bd_some h
        try dsimp only at h
        refine cg_i (As := [.int z3, .int z2]) (rest := []) (AM_ge hJ) C hK hP hS (metX12_aimOf_0 l D cy ad st hJ _ z3 z2 hc16) (cwV 2 C.2.2.2.2.2.1 gX12_layMeans_X12_aimOf rfl rfl rfl (by decide +kernel) ⟨(Nat.le_of_ble_eq_true rfl), (Nat.le_of_ble_eq_true rfl)⟩) 0 12 rfl rfl rfl hl.1 rfl (Nat.le_of_ble_eq_true rfl) dX12_layMeans_65 ⟨Nat.zero_le _, Nat.zero_le _⟩ (fun H locs hP hS => ?_)
        refine lv_istore (lv' := [(4, .int r14), (0, .ref (ad 0)), (1, .int z1), (2, .int z2), (3, .int z3)]) C.1 C.2.1 dX12_layMeans_68 hl (by decide) rfl (fun ls hl => ?_)
        replace hl := lv_sub (l' := [(0, .ref (ad 0)), (1, .int z1), (2, .int z2), (3, .int z3), (4, .int r14)]) hl [1, 2, 3, 4, 0] rfl
        refine lv_aload_n C.1 C.2.1 dX12_layMeans_70 rfl (lv_at hl 0 rfl) ?_
        refine gM_0_sums C hX12_layMeans_0_X12 hK hP mX12_layMeans_0_1 dX12_layMeans_71 ?_
        refine lv_iload C.1 C.2.1 dX12_layMeans_74 (lv_at hl 4 rfl) ?_
        refine lv_dup2_11 C.1 C.2.1 dX12_layMeans_76 rfl rfl ?_
        obtain ⟨hg17, h⟩ := gd_some h
        refine lM_22 C hK hP hg17 dX12_layMeans_77 ?_
        refine lv_aload_n C.1 C.2.1 dX12_layMeans_78 rfl (lv_at hl 0 rfl) ?_
        refine gM_0_leftFrom C hX12_layMeans_0_X12 hK hP mX12_layMeans_0_5 dX12_layMeans_79 ?_
        refine lv_aload_n C.1 C.2.1 dX12_layMeans_82 rfl (lv_at hl 0 rfl) ?_
        refine gM_0_leftTo C hX12_layMeans_0_X12 hK hP mX12_layMeans_0_6 dX12_layMeans_83 ?_
        refine lv_iadd C.1 C.2.1 dX12_layMeans_86 ?_
        refine lv_iconst (v := 2) C.1 C.2.1 dX12_layMeans_87 (by decide) ?_
        obtain ⟨hg18, h⟩ := gd_some h
        refine lv_idiv C.1 C.2.1 dX12_layMeans_88 (nz_n hg18) ?_
        refine lv_i2l (v := (((u15.1 16) + (u15.1 17)) / 2).toInt64) C.1 C.2.1 dX12_layMeans_89 rfl ?_
        refine lv_ladd C.1 C.2.1 dX12_layMeans_90 ?_
        obtain ⟨hg19, h⟩ := gd_some h
        refine tM_22 C hK hP hJ hS hg19 dX12_layMeans_91 (fun H locs hP hS => ?_)
        obtain ⟨u20, hu21, h⟩ := lt_some h
        rw [← hu21] at hP
        refine lv_aload_n C.1 C.2.1 dX12_layMeans_92 rfl (lv_at hl 0 rfl) ?_
        refine gM_0_many C hX12_layMeans_0_X12 hK hP mX12_layMeans_0_2 dX12_layMeans_93 ?_
        refine lv_iload C.1 C.2.1 dX12_layMeans_96 (lv_at hl 4 rfl) ?_
        refine lv_dup2_11 C.1 C.2.1 dX12_layMeans_98 rfl rfl ?_
        obtain ⟨hg22, h⟩ := gd_some h
        refine lM_23 C hK hP hg22 dX12_layMeans_99 ?_
        refine lv_iconst (v := 1) C.1 C.2.1 dX12_layMeans_100 (by decide) ?_
        refine lv_iadd C.1 C.2.1 dX12_layMeans_101 ?_
        obtain ⟨hg23, h⟩ := gd_some h
        refine tM_23 C hK hP hJ hS hg23 dX12_layMeans_102 (fun H locs hP hS => ?_)
        obtain ⟨u24, hu25, h⟩ := lt_some h
        rw [← hu25] at hP
        exact wGX12_layMeans_0_103 C hK hJ ih _ _ _ _ _ _ _ h hP hS (lv_sub hl [0, 1, 2, 3] rfl)
      · rw [if_neg c50] at h
        refine lv_goto (tgt := 103) C.1 C.2.1 dX12_layMeans_53 (by decide) ?_
        exact wGX12_layMeans_0_103 C hK hJ ih _ _ _ _ _ _ _ h hP hS hl
set_option maxHeartbeats 4000000 in
set_option maxRecDepth 100000 in
theorem wGX12_layMeans_0_28 {p : Program} {l : Launch} {e : Env} {s : State} {m : MethodId} {args : Array Value} {below : List Frame} {meth : Method} {c : Code} {D : va_G} {cy : Nat → ClassId} {ad st : Nat → Nat} (C : Cx RX12 cX12_layMeans 5 none wsX12_layMeans p s m args meth c) (hK : Ky D [(cy 0, .int), (cy 1, .long), (cy 2, .boolean), (cy 3, .byte), (cy 4, .object "HissHorn$Text")] st s) (hJ : JM ad st) {r : Int32} {u' : SX}   (z1 : Int32) (z2 : Int32) (u : SX) (H : Heap) (locs : List Loc) (ls : Array Slot) (h : GX12_layMeans_0_28 z1 z2 u = some (r, u')) (hP : va_P D vwCl (VM cy ad st u) H) (hS : va_S (Ax (AM ad) s.heap.size) s.heap H locs) (hl : lv_has ls 5 [(0, .ref (ad 0)), (1, .int z1), (2, .int z2)]) : W p l e rmX12_layMeans_0 s m args below meth c H locs 0 0 (MQ below (Qv D (VM cy ad st) (AM ad) s.heap.size r u') args s 0 0 (Ax (AM ad) s.heap.size)) (F0 m 28 ls []) := by
  unfold GX12_layMeans_0_28 at h
  refine lv_aload_n C.1 C.2.1 dX12_layMeans_28 rfl (lv_at hl 0 rfl) ?_
  refine lv_iload_n C.1 C.2.1 dX12_layMeans_29 rfl (lv_at hl 1 rfl) ?_
  obtain ⟨⟨r7, u8⟩, hc9, h⟩ := bd_some h
  try dsimp only at h
  refine cg_v (As := [.int z1]) (rest := []) (AM_ge hJ) C hK hP hS (metX12_laySpansOf_0 l D cy ad st hJ _ z1 hc9) (cwV 1 C.2.2.2.2.2.1 gX12_layMeans_X12_laySpansOf rfl rfl rfl (by decide +kernel) ⟨(Nat.le_of_ble_eq_true rfl), (Nat.le_of_ble_eq_true rfl)⟩) 0 12 rfl rfl rfl hl.1 rfl (Nat.le_of_ble_eq_true rfl) dX12_layMeans_30 ⟨Nat.zero_le _, Nat.zero_le _⟩ (fun H locs hP hS => ?_)
  refine lv_iconst (v := 0) C.1 C.2.1 dX12_layMeans_33 (by decide) ?_
  refine lv_istore_n (lv' := [(3, .int 0), (0, .ref (ad 0)), (1, .int z1), (2, .int z2)]) C.1 C.2.1 dX12_layMeans_34 rfl hl (by decide) rfl (fun ls hl => ?_)
  replace hl := lv_sub (l' := [(0, .ref (ad 0)), (1, .int z1), (2, .int z2), (3, .int 0)]) hl [1, 2, 3, 0] rfl
  exact wLX12_layMeans_0_35 C hK hJ  5000 _ _ _ _ _ _ _ h hP hS hl
set_option maxHeartbeats 4000000 in
set_option maxRecDepth 100000 in
theorem wX12_layMeans_0 {p : Program} {l : Launch} {e : Env} {s : State} {m : MethodId} {args : Array Value} {below : List Frame} {meth : Method} {c : Code} {D : va_G} {cy : Nat → ClassId} {ad st : Nat → Nat} (C : Cx RX12 cX12_layMeans 5 none wsX12_layMeans p s m args meth c) (hK : Ky D [(cy 0, .int), (cy 1, .long), (cy 2, .boolean), (cy 3, .byte), (cy 4, .object "HissHorn$Text")] st s) (hJ : JM ad st) (x1 : Int32) (x2 : Int32) {u : SX} {r : Int32} {u' : SX} {H : Heap} {locs : List Loc} {ls : Array Slot} (h : fX12_layMeans_0 x1 x2 u = some (r, u')) (hP : va_P D vwCl (VM cy ad st u) H) (hS : va_S (Ax (AM ad) s.heap.size) s.heap H locs) (hl : lv_has ls 5 [(0, .ref (ad 0)), (1, .int x1), (2, .int x2)]) : W p l e rmX12_layMeans_0 s m args below meth c H locs 0 0 (MQ below (Qv D (VM cy ad st) (AM ad) s.heap.size r u') args s 0 0 (Ax (AM ad) s.heap.size)) (F0 m 0 ls []) := by
  unfold fX12_layMeans_0 at h
  refine lv_iconst (v := 0) C.1 C.2.1 dX12_layMeans_0 (by decide) ?_
  refine lv_istore_n (lv' := [(3, .int 0), (0, .ref (ad 0)), (1, .int x1), (2, .int x2)]) C.1 C.2.1 dX12_layMeans_1 rfl hl (by decide) rfl (fun ls hl => ?_)
  replace hl := lv_sub (l' := [(0, .ref (ad 0)), (1, .int x1), (2, .int x2), (3, .int 0)]) hl [1, 2, 3, 0] rfl
  exact wLX12_layMeans_0_2 C hK hJ (wGX12_layMeans_0_28 C hK hJ ) 5000 _ _ _ _ _ _ _ h hP hS hl
theorem metX12_layMeans_0 (l : Launch) (D : va_G) (cy : Nat → ClassId) (ad st : Nat → Nat) (hJ : JM ad st) (sz : Nat) (x1 : Int32) (x2 : Int32) {u : SX} {r : Int32} {u' : SX} (h : fX12_layMeans_0 x1 x2 u = some (r, u')) : Met l yX12_layMeans wsX12_layMeans rmX12_layMeans_0 (va_Pc [.ref (ad 0), .int x1, .int x2] (Px D [(cy 0, .int), (cy 1, .long), (cy 2, .boolean), (cy 3, .byte), (cy 4, .object "HissHorn$Text")] st (VM cy ad st) sz u)) (Qv D (VM cy ad st) (AM ad) sz r u') 0 0 (Ax (AM ad) sz) := by
  refine Met.ofW (cc := cX12_layMeans) (maxL := 5) (ret := none) (by decide) rfl ?_
  intro p e s m args below meth c s₁ B hml hv
  obtain ⟨rfl, hsz, hP, hK⟩ := hv
  subst hsz
  have C : Cx RX12 cX12_layMeans 5 none wsX12_layMeans p s m _ meth c := ⟨B.exec, B.bytes, hml, B.returns, findClass_of_methodNamed B.named, atoms_spec (ws := wsX12_layMeans) B.pre, B.notSynchronized⟩
  have hl := lv_entry ([.ref (ad 0), .int x1, .int x2]) (n := 5) (Nat.le_of_ble_eq_true rfl)
  rw [lg_entry_eq]
  exact wX12_layMeans_0 C hK hJ x1 x2 h hP va_S.rf hl

theorem zdX12_mean_0 : (and (and (and (and (zk cX12_mean 0 (.aload_n 0) 1) (zk cX12_mean 1 (.getfield 83) 3)) (zk cX12_mean 4 (.iload_n 1) 1)) (and (and (zk cX12_mean 5 (.laload) 1) (zk cX12_mean 6 (.aload_n 0) 1)) (zk cX12_mean 7 (.getfield 87) 3))) (and (and (and (zk cX12_mean 10 (.iload_n 1) 1) (zk cX12_mean 11 (.iaload) 1)) (zk cX12_mean 12 (.i2l) 1)) (and (and (zk cX12_mean 13 (.ldiv) 1) (zk cX12_mean 14 (.l2i) 1)) (zk cX12_mean 15 (.ireturn) 1)))) = true := by decide +kernel
theorem dX12_mean_0 : decode cX12_mean 0 = .ok (.aload_n 0, 1) := zk_of (zk_l (zk_l (zk_l (zk_l zdX12_mean_0))))
theorem dX12_mean_1 : decode cX12_mean 1 = .ok (.getfield 83, 3) := zk_of (zk_r (zk_l (zk_l (zk_l zdX12_mean_0))))
theorem dX12_mean_4 : decode cX12_mean 4 = .ok (.iload_n 1, 1) := zk_of (zk_r (zk_l (zk_l zdX12_mean_0)))
theorem dX12_mean_5 : decode cX12_mean 5 = .ok (.laload, 1) := zk_of (zk_l (zk_l (zk_r (zk_l zdX12_mean_0))))
theorem dX12_mean_6 : decode cX12_mean 6 = .ok (.aload_n 0, 1) := zk_of (zk_r (zk_l (zk_r (zk_l zdX12_mean_0))))
theorem dX12_mean_7 : decode cX12_mean 7 = .ok (.getfield 87, 3) := zk_of (zk_r (zk_r (zk_l zdX12_mean_0)))
theorem dX12_mean_10 : decode cX12_mean 10 = .ok (.iload_n 1, 1) := zk_of (zk_l (zk_l (zk_l (zk_r zdX12_mean_0))))
theorem dX12_mean_11 : decode cX12_mean 11 = .ok (.iaload, 1) := zk_of (zk_r (zk_l (zk_l (zk_r zdX12_mean_0))))
theorem dX12_mean_12 : decode cX12_mean 12 = .ok (.i2l, 1) := zk_of (zk_r (zk_l (zk_r zdX12_mean_0)))
theorem dX12_mean_13 : decode cX12_mean 13 = .ok (.ldiv, 1) := zk_of (zk_l (zk_l (zk_r (zk_r zdX12_mean_0))))
theorem dX12_mean_14 : decode cX12_mean 14 = .ok (.l2i, 1) := zk_of (zk_r (zk_l (zk_r (zk_r zdX12_mean_0))))
theorem dX12_mean_15 : decode cX12_mean 15 = .ok (.ireturn, 1) := zk_of (zk_r (zk_r (zk_r zdX12_mean_0)))
/-- HissHornModel.mean(I)I of cell 0 -/
def rmX12_mean_0 : Room := { frames := 0, cells := 0, slots := 0, locals := 0 }
theorem hX12_mean_0_X12 : ∀ w ∈ u_ws RX12 TX12 69, w ∈ wsX12_mean := fun w h => (List.mem_cons_of_mem _ (List.mem_append_right _ h))
theorem mX12_mean_0_1 : Cond.fieldLink RX12 83 "HissHornModel" "sums" "[J" ∈ wsX12_mean := (List.mem_cons_of_mem _ (List.mem_append_left _ (List.mem_of_getElem? (i := 0) rfl)))
theorem mX12_mean_0_2 : Cond.fieldLink RX12 87 "HissHornModel" "many" "[I" ∈ wsX12_mean := (List.mem_cons_of_mem _ (List.mem_append_left _ (List.mem_of_getElem? (i := 1) rfl)))
def fX12_mean_0 (x1 : Int32) (u : SX) : Option (Int32 × SX) := (gd (inb x1 41) (gd (inb x1 41) (gd (nzL ((u.2.1 23 x1.toNatClampNeg).toInt64)) (some (((u.2.2.2.1 22 x1.toNatClampNeg) / ((u.2.1 23 x1.toNatClampNeg).toInt64)).toInt32, u)))))
set_option maxHeartbeats 4000000 in
set_option maxRecDepth 100000 in
theorem wX12_mean_0 {p : Program} {l : Launch} {e : Env} {s : State} {m : MethodId} {args : Array Value} {below : List Frame} {meth : Method} {c : Code} {D : va_G} {cy : Nat → ClassId} {ad st : Nat → Nat} (C : Cx RX12 cX12_mean 2 (some .int) wsX12_mean p s m args meth c) (hK : Ky D [(cy 0, .int), (cy 1, .long), (cy 2, .boolean), (cy 3, .byte), (cy 4, .object "HissHorn$Text")] st s) (hJ : JM ad st) (x1 : Int32) {u : SX} {r : Int32} {u' : SX} {H : Heap} {locs : List Loc} {ls : Array Slot} (h : fX12_mean_0 x1 u = some (r, u')) (hP : va_P D vwCl (VM cy ad st u) H) (hS : va_S (Ax (AM ad) s.heap.size) s.heap H locs) (hl : lv_has ls 2 [(0, .ref (ad 0)), (1, .int x1)]) : W p l e rmX12_mean_0 s m args below meth c H locs 0 0 (MQ below (Qi D (VM cy ad st) (AM ad) s.heap.size r u') args s 0 0 (Ax (AM ad) s.heap.size)) (F0 m 0 ls []) := by
  unfold fX12_mean_0 at h
  refine lv_aload_n C.1 C.2.1 dX12_mean_0 rfl (lv_at hl 0 rfl) ?_
  refine gM_0_sums C hX12_mean_0_X12 hK hP mX12_mean_0_1 dX12_mean_1 ?_
  refine lv_iload_n C.1 C.2.1 dX12_mean_4 rfl (lv_at hl 1 rfl) ?_
  obtain ⟨hg1, h⟩ := gd_some h
  refine lM_22 C hK hP hg1 dX12_mean_5 ?_
  refine lv_aload_n C.1 C.2.1 dX12_mean_6 rfl (lv_at hl 0 rfl) ?_
  refine gM_0_many C hX12_mean_0_X12 hK hP mX12_mean_0_2 dX12_mean_7 ?_
  refine lv_iload_n C.1 C.2.1 dX12_mean_10 rfl (lv_at hl 1 rfl) ?_
  obtain ⟨hg2, h⟩ := gd_some h
  refine lM_23 C hK hP hg2 dX12_mean_11 ?_
  refine lv_i2l (v := (u.2.1 23 x1.toNatClampNeg).toInt64) C.1 C.2.1 dX12_mean_12 rfl ?_
  obtain ⟨hg3, h⟩ := gd_some h
  refine lv_ldiv C.1 C.2.1 dX12_mean_13 (nzL_n hg3) ?_
  refine lv_l2i (v := ((u.2.2.2.1 22 x1.toNatClampNeg) / ((u.2.1 23 x1.toNatClampNeg).toInt64)).toInt32) C.1 C.2.1 dX12_mean_14 rfl ?_
  cases h
  exact rt_i C hP hS dX12_mean_15
theorem metX12_mean_0 (l : Launch) (D : va_G) (cy : Nat → ClassId) (ad st : Nat → Nat) (hJ : JM ad st) (sz : Nat) (x1 : Int32) {u : SX} {r : Int32} {u' : SX} (h : fX12_mean_0 x1 u = some (r, u')) : Met l yX12_mean wsX12_mean rmX12_mean_0 (va_Pc [.ref (ad 0), .int x1] (Px D [(cy 0, .int), (cy 1, .long), (cy 2, .boolean), (cy 3, .byte), (cy 4, .object "HissHorn$Text")] st (VM cy ad st) sz u)) (Qi D (VM cy ad st) (AM ad) sz r u') 0 0 (Ax (AM ad) sz) := by
  refine Met.ofW (cc := cX12_mean) (maxL := 2) (ret := (some .int)) (by decide) rfl ?_
  intro p e s m args below meth c s₁ B hml hv
  obtain ⟨rfl, hsz, hP, hK⟩ := hv
  subst hsz
  have C : Cx RX12 cX12_mean 2 (some .int) wsX12_mean p s m _ meth c := ⟨B.exec, B.bytes, hml, B.returns, findClass_of_methodNamed B.named, atoms_spec (ws := wsX12_mean) B.pre, B.notSynchronized⟩
  have hl := lv_entry ([.ref (ad 0), .int x1]) (n := 2) (Nat.le_of_ble_eq_true rfl)
  rw [lg_entry_eq]
  exact wX12_mean_0 C hK hJ x1 h hP va_S.rf hl
