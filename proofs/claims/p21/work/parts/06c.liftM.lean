theorem zdX12_fault_0 : (and (and (and (and (and (zk cX12_fault 0 (.aload_n 0) 1) (zk cX12_fault 1 (.iconst 0) 1)) (zk cX12_fault 2 (.putfield 151) 3)) (and (and (zk cX12_fault 5 (.iload_n 1) 1) (zk cX12_fault 6 (.iconst 0) 1)) (zk cX12_fault 7 (.iconst 2) 1))) (and (and (and (zk cX12_fault 8 (.invokestatic 155) 3) (zk cX12_fault 11 (.ifCond .ne 6) 3)) (zk cX12_fault 17 (.aload_n 0) 1)) (and (zk cX12_fault 18 (.aload_n 0) 1) (zk cX12_fault 19 (.getfield 9) 3)))) (and (and (and (and (zk cX12_fault 22 (.iconst 0) 1) (zk cX12_fault 23 (.aload_n 0) 1)) (zk cX12_fault 24 (.getfield 162) 3)) (and (zk cX12_fault 27 (.iload_n 1) 1) (zk cX12_fault 28 (.invokevirtual 267) 3))) (and (and (and (zk cX12_fault 31 (.aload_n 0) 1) (zk cX12_fault 32 (.getfield 182) 3)) (zk cX12_fault 35 (.ireturn) 1)) (and (zk cX12_fault 14 (.bipush (-2)) 2) (zk cX12_fault 16 (.ireturn) 1))))) = true := by decide +kernel
theorem dX12_fault_0 : decode cX12_fault 0 = .ok (.aload_n 0, 1) := zk_of (zk_l (zk_l (zk_l (zk_l (zk_l zdX12_fault_0)))))
theorem dX12_fault_1 : decode cX12_fault 1 = .ok (.iconst 0, 1) := zk_of (zk_r (zk_l (zk_l (zk_l (zk_l zdX12_fault_0)))))
theorem dX12_fault_2 : decode cX12_fault 2 = .ok (.putfield 151, 3) := zk_of (zk_r (zk_l (zk_l (zk_l zdX12_fault_0))))
theorem dX12_fault_5 : decode cX12_fault 5 = .ok (.iload_n 1, 1) := zk_of (zk_l (zk_l (zk_r (zk_l (zk_l zdX12_fault_0)))))
theorem dX12_fault_6 : decode cX12_fault 6 = .ok (.iconst 0, 1) := zk_of (zk_r (zk_l (zk_r (zk_l (zk_l zdX12_fault_0)))))
theorem dX12_fault_7 : decode cX12_fault 7 = .ok (.iconst 2, 1) := zk_of (zk_r (zk_r (zk_l (zk_l zdX12_fault_0))))
theorem dX12_fault_8 : decode cX12_fault 8 = .ok (.invokestatic 155, 3) := zk_of (zk_l (zk_l (zk_l (zk_r (zk_l zdX12_fault_0)))))
theorem dX12_fault_11 : decode cX12_fault 11 = .ok (.ifCond .ne 6, 3) := zk_of (zk_r (zk_l (zk_l (zk_r (zk_l zdX12_fault_0)))))
theorem dX12_fault_17 : decode cX12_fault 17 = .ok (.aload_n 0, 1) := zk_of (zk_r (zk_l (zk_r (zk_l zdX12_fault_0))))
theorem dX12_fault_18 : decode cX12_fault 18 = .ok (.aload_n 0, 1) := zk_of (zk_l (zk_r (zk_r (zk_l zdX12_fault_0))))
theorem dX12_fault_19 : decode cX12_fault 19 = .ok (.getfield 9, 3) := zk_of (zk_r (zk_r (zk_r (zk_l zdX12_fault_0))))
theorem dX12_fault_22 : decode cX12_fault 22 = .ok (.iconst 0, 1) := zk_of (zk_l (zk_l (zk_l (zk_l (zk_r zdX12_fault_0)))))
theorem dX12_fault_23 : decode cX12_fault 23 = .ok (.aload_n 0, 1) := zk_of (zk_r (zk_l (zk_l (zk_l (zk_r zdX12_fault_0)))))
theorem dX12_fault_24 : decode cX12_fault 24 = .ok (.getfield 162, 3) := zk_of (zk_r (zk_l (zk_l (zk_r zdX12_fault_0))))
theorem dX12_fault_27 : decode cX12_fault 27 = .ok (.iload_n 1, 1) := zk_of (zk_l (zk_r (zk_l (zk_r zdX12_fault_0))))
theorem dX12_fault_28 : decode cX12_fault 28 = .ok (.invokevirtual 267, 3) := zk_of (zk_r (zk_r (zk_l (zk_r zdX12_fault_0))))
theorem dX12_fault_31 : decode cX12_fault 31 = .ok (.aload_n 0, 1) := zk_of (zk_l (zk_l (zk_l (zk_r (zk_r zdX12_fault_0)))))
theorem dX12_fault_32 : decode cX12_fault 32 = .ok (.getfield 182, 3) := zk_of (zk_r (zk_l (zk_l (zk_r (zk_r zdX12_fault_0)))))
theorem dX12_fault_35 : decode cX12_fault 35 = .ok (.ireturn, 1) := zk_of (zk_r (zk_l (zk_r (zk_r zdX12_fault_0))))
theorem dX12_fault_14 : decode cX12_fault 14 = .ok (.bipush (-2), 2) := zk_of (zk_l (zk_r (zk_r (zk_r zdX12_fault_0))))
theorem dX12_fault_16 : decode cX12_fault 16 = .ok (.ireturn, 1) := zk_of (zk_r (zk_r (zk_r (zk_r zdX12_fault_0))))
set_option maxRecDepth 20000 in
theorem ggX12_fault_X12_isIn : GoodIn wsX12_fault wsX12_isIn := ggi (fun w h => List.mem_cons_of_mem _ (List.mem_append_left _ (List.mem_append_right _ (List.mem_append_left _ h)))) gs_X12_isIn
set_option maxRecDepth 20000 in
theorem gX12_fault_X12_isIn : GoodIn wsX12_fault (va_wsS RX12 155 yX12_isIn wsX12_isIn) := goodIn_app (goodIn_of _ (by decide +kernel)) ggX12_fault_X12_isIn
set_option maxRecDepth 20000 in
theorem ggX12_fault_X12_goThrough : GoodIn wsX12_fault wsX12_goThrough := ggi (fun w h => List.mem_cons_of_mem _ (List.mem_append_left _ (List.mem_append_right _ (List.mem_append_right _ h)))) gs_X12_goThrough
set_option maxRecDepth 20000 in
theorem gX12_fault_X12_goThrough : GoodIn wsX12_fault (wsV RX12 267 RX12 yX12_goThrough wsX12_goThrough) := goodIn_app (goodIn_of _ (by decide +kernel)) ggX12_fault_X12_goThrough
/-- HissHornModel.fault(I)I of cell 0 -/
def rmX12_fault_0 : Room := { frames := 137, cells := 0, slots := 0, locals := 8404 }
theorem hX12_fault_0_X12 : ∀ w ∈ u_ws RX12 TX12 69, w ∈ wsX12_fault := fun w h => (List.mem_cons_of_mem _ (List.mem_append_right _ h))
theorem mX12_fault_0_1 : Cond.fieldLink RX12 151 "HissHornModel" "thrown" "I" ∈ wsX12_fault := (List.mem_cons_of_mem _ (List.mem_append_left _ (List.mem_append_left _ (List.mem_of_getElem? (i := 6) rfl))))
theorem mX12_fault_0_2 : Cond.fieldLink RX12 9 "HissHornModel" "tape" "[B" ∈ wsX12_fault := (List.mem_cons_of_mem _ (List.mem_append_left _ (List.mem_append_left _ (List.mem_of_getElem? (i := 7) rfl))))
theorem mX12_fault_0_3 : Cond.fieldLink RX12 162 "HissHornModel" "length" "I" ∈ wsX12_fault := (List.mem_cons_of_mem _ (List.mem_append_left _ (List.mem_append_left _ (List.mem_of_getElem? (i := 8) rfl))))
theorem mX12_fault_0_4 : Cond.fieldLink RX12 182 "HissHornModel" "fault" "I" ∈ wsX12_fault := (List.mem_cons_of_mem _ (List.mem_append_left _ (List.mem_append_left _ (List.mem_of_getElem? (i := 9) rfl))))
def fX12_fault_0 (x1 : Int32) (u : SX) : Option (Int32 × SX) := (lt (sI u 0 0) fun u1 => ((fX12_isIn x1 0 2).bind fun r3 => (if r3 = 0 then (some ((-2), u1)) else ((fX12_goThrough_0_a1 0 (u1.1 3) x1 u1).bind fun q => match q with | (r6, u7) => (some (u7.1 7, u7))))))
set_option maxHeartbeats 4000000 in
set_option maxRecDepth 100000 in
theorem wX12_fault_0 {p : Program} {l : Launch} {e : Env} {s : State} {m : MethodId} {args : Array Value} {below : List Frame} {meth : Method} {c : Code} {D : va_G} {cy : Nat → ClassId} {ad st : Nat → Nat} (C : Cx RX12 cX12_fault 2 (some .int) wsX12_fault p s m args meth c) (hK : Ky D [(cy 0, .int), (cy 1, .long), (cy 2, .boolean), (cy 3, .byte), (cy 4, .object "HissHorn$Text")] st s) (hJ : JM ad st) (x1 : Int32) {u : SX} {r : Int32} {u' : SX} {H : Heap} {locs : List Loc} {ls : Array Slot} (h : fX12_fault_0 x1 u = some (r, u')) (hP : va_P D vwCl (VM cy ad st u) H) (hS : va_S (Ax (AM ad) s.heap.size) s.heap H locs) (hl : lv_has ls 2 [(0, .ref (ad 0)), (1, .int x1)]) : W p l e rmX12_fault_0 s m args below meth c H locs 0 0 (MQ below (Qi D (VM cy ad st) (AM ad) s.heap.size r u') args s 0 0 (Ax (AM ad) s.heap.size)) (F0 m 0 ls []) := by
  unfold fX12_fault_0 at h
  refine lv_aload_n C.1 C.2.1 dX12_fault_0 rfl (lv_at hl 0 rfl) ?_
  refine lv_iconst (v := 0) C.1 C.2.1 dX12_fault_1 (by decide) ?_
  refine pM_0_thrown C hX12_fault_0_X12 hK hP hJ hS mX12_fault_0_1 dX12_fault_2 (fun H locs hP hS => ?_)
  obtain ⟨u1, hu2, h⟩ := lt_some h
  rw [← hu2] at hP
  refine lv_iload_n C.1 C.2.1 dX12_fault_5 rfl (lv_at hl 1 rfl) ?_
  refine lv_iconst (v := 0) C.1 C.2.1 dX12_fault_6 (by decide) ?_
  refine lv_iconst (v := 2) C.1 C.2.1 dX12_fault_7 (by decide) ?_
  obtain ⟨r3, hc5, h⟩ := bd_some h
  refine cs_i (As := [.int x1, .int 0, .int 2]) (rest := []) (AM_ge hJ) C hK hP hS (metX12_isIn l D cy st _ x1 0 2 hc5) (va_cwS 3 C.2.2.2.2.2.1 gX12_fault_X12_isIn rfl rfl rfl (by decide +kernel) ⟨(Nat.le_of_ble_eq_true rfl), (Nat.le_of_ble_eq_true rfl)⟩) rfl hl.1 rfl (Nat.le_of_ble_eq_true rfl) dX12_fault_8 ⟨Nat.zero_le _, Nat.zero_le _⟩ (fun H locs hP hS => ?_)
  refine lv_if_ne (tgt := 17) C.1 C.2.1 dX12_fault_11 (by decide) (fun c11 => ?_) (fun c11 => ?_)
  · rw [if_neg c11] at h
    refine lv_aload_n C.1 C.2.1 dX12_fault_17 rfl (lv_at hl 0 rfl) ?_
    refine lv_aload_n C.1 C.2.1 dX12_fault_18 rfl (lv_at hl 0 rfl) ?_
    refine gM_0_tape C hX12_fault_0_X12 hK hP mX12_fault_0_2 dX12_fault_19 ?_
    refine lv_iconst (v := 0) C.1 C.2.1 dX12_fault_22 (by decide) ?_
    refine lv_aload_n C.1 C.2.1 dX12_fault_23 rfl (lv_at hl 0 rfl) ?_
    refine gM_0_length C hX12_fault_0_X12 hK hP mX12_fault_0_3 dX12_fault_24 ?_
    refine lv_iload_n C.1 C.2.1 dX12_fault_27 rfl (lv_at hl 1 rfl) ?_
    obtain ⟨⟨r6, u7⟩, hc8, h⟩ := bd_some h
    try dsimp only at h
    refine cg_v (As := [.ref (ad 1), .int 0, .int (u1.1 3), .int x1]) (rest := []) (AM_ge hJ) C hK hP hS (metX12_goThrough_0_a1 l D cy ad st hJ _ 0 (u1.1 3) x1 hc8) (cwV 4 C.2.2.2.2.2.1 gX12_fault_X12_goThrough rfl rfl rfl (by decide +kernel) ⟨(Nat.le_of_ble_eq_true rfl), (Nat.le_of_ble_eq_true rfl)⟩) 0 12 rfl rfl rfl hl.1 rfl (Nat.le_of_ble_eq_true rfl) dX12_fault_28 ⟨Nat.zero_le _, Nat.zero_le _⟩ (fun H locs hP hS => ?_)
    refine lv_aload_n C.1 C.2.1 dX12_fault_31 rfl (lv_at hl 0 rfl) ?_
    refine gM_0_fault C hX12_fault_0_X12 hK hP mX12_fault_0_4 dX12_fault_32 ?_
    cases h
    exact rt_i C hP hS dX12_fault_35
  · rw [if_pos c11] at h
    refine lv_bipush (v := (-2)) C.1 C.2.1 dX12_fault_14 (by decide) ?_
    cases h
    exact rt_i C hP hS dX12_fault_16
theorem metX12_fault_0 (l : Launch) (D : va_G) (cy : Nat → ClassId) (ad st : Nat → Nat) (hJ : JM ad st) (sz : Nat) (x1 : Int32) {u : SX} {r : Int32} {u' : SX} (h : fX12_fault_0 x1 u = some (r, u')) : Met l yX12_fault wsX12_fault rmX12_fault_0 (va_Pc [.ref (ad 0), .int x1] (Px D [(cy 0, .int), (cy 1, .long), (cy 2, .boolean), (cy 3, .byte), (cy 4, .object "HissHorn$Text")] st (VM cy ad st) sz u)) (Qi D (VM cy ad st) (AM ad) sz r u') 0 0 (Ax (AM ad) sz) := by
  refine Met.ofW (cc := cX12_fault) (maxL := 2) (ret := (some .int)) (by decide) rfl ?_
  intro p e s m args below meth c s₁ B hml hv
  obtain ⟨rfl, hsz, hP, hK⟩ := hv
  subst hsz
  have C : Cx RX12 cX12_fault 2 (some .int) wsX12_fault p s m _ meth c := ⟨B.exec, B.bytes, hml, B.returns, findClass_of_methodNamed B.named, atoms_spec (ws := wsX12_fault) B.pre, B.notSynchronized⟩
  have hl := lv_entry ([.ref (ad 0), .int x1]) (n := 2) (Nat.le_of_ble_eq_true rfl)
  rw [lg_entry_eq]
  exact wX12_fault_0 C hK hJ x1 h hP va_S.rf hl

theorem zdX12_text_74 : (and (and (and (and (and (zk cX12_text 74 (.iload_n 3) 1) (zk cX12_text 75 (.aload_n 0) 1)) (and (zk cX12_text 76 (.getfield 162) 3) (zk cX12_text 79 (.if_icmp .ge 26) 3))) (and (and (zk cX12_text 82 (.aload_n 0) 1) (zk cX12_text 83 (.getfield 13) 3)) (and (zk cX12_text 86 (.bipush 120) 2) (zk cX12_text 88 (.iload_n 2) 1)))) (and (and (and (zk cX12_text 89 (.imul) 1) (zk cX12_text 90 (.iload_n 3) 1)) (and (zk cX12_text 91 (.iadd) 1) (zk cX12_text 92 (.aload_n 0) 1))) (and (and (zk cX12_text 93 (.getfield 9) 3) (zk cX12_text 96 (.iload_n 3) 1)) (and (zk cX12_text 97 (.baload) 1) (zk cX12_text 98 (.bastore) 1))))) (and (and (and (and (zk cX12_text 99 (.iinc 3 1) 3) (zk cX12_text 102 (.goto (-28)) 3)) (and (zk cX12_text 105 (.aload_n 0) 1) (zk cX12_text 106 (.getfield 16) 3))) (and (and (zk cX12_text 109 (.iload_n 2) 1) (zk cX12_text 110 (.aload_n 0) 1)) (and (zk cX12_text 111 (.getfield 162) 3) (zk cX12_text 114 (.iastore) 1)))) (and (and (and (zk cX12_text 115 (.aload_n 0) 1) (zk cX12_text 116 (.iconst 0) 1)) (and (zk cX12_text 117 (.putfield 162) 3) (zk cX12_text 120 (.aload_n 0) 1))) (and (and (zk cX12_text 121 (.getfield 20) 3) (zk cX12_text 124 (.iload_n 1) 1)) (and (zk cX12_text 125 (.dup2) 1) (zk cX12_text 126 (.iaload) 1)))))) = true := by decide +kernel
theorem dX12_text_74 : decode cX12_text 74 = .ok (.iload_n 3, 1) := zk_of (zk_l (zk_l (zk_l (zk_l (zk_l zdX12_text_74)))))
theorem dX12_text_75 : decode cX12_text 75 = .ok (.aload_n 0, 1) := zk_of (zk_r (zk_l (zk_l (zk_l (zk_l zdX12_text_74)))))
theorem dX12_text_76 : decode cX12_text 76 = .ok (.getfield 162, 3) := zk_of (zk_l (zk_r (zk_l (zk_l (zk_l zdX12_text_74)))))
theorem dX12_text_79 : decode cX12_text 79 = .ok (.if_icmp .ge 26, 3) := zk_of (zk_r (zk_r (zk_l (zk_l (zk_l zdX12_text_74)))))
theorem dX12_text_82 : decode cX12_text 82 = .ok (.aload_n 0, 1) := zk_of (zk_l (zk_l (zk_r (zk_l (zk_l zdX12_text_74)))))
theorem dX12_text_83 : decode cX12_text 83 = .ok (.getfield 13, 3) := zk_of (zk_r (zk_l (zk_r (zk_l (zk_l zdX12_text_74)))))
theorem dX12_text_86 : decode cX12_text 86 = .ok (.bipush 120, 2) := zk_of (zk_l (zk_r (zk_r (zk_l (zk_l zdX12_text_74)))))
theorem dX12_text_88 : decode cX12_text 88 = .ok (.iload_n 2, 1) := zk_of (zk_r (zk_r (zk_r (zk_l (zk_l zdX12_text_74)))))
theorem dX12_text_89 : decode cX12_text 89 = .ok (.imul, 1) := zk_of (zk_l (zk_l (zk_l (zk_r (zk_l zdX12_text_74)))))
theorem dX12_text_90 : decode cX12_text 90 = .ok (.iload_n 3, 1) := zk_of (zk_r (zk_l (zk_l (zk_r (zk_l zdX12_text_74)))))
theorem dX12_text_91 : decode cX12_text 91 = .ok (.iadd, 1) := zk_of (zk_l (zk_r (zk_l (zk_r (zk_l zdX12_text_74)))))
theorem dX12_text_92 : decode cX12_text 92 = .ok (.aload_n 0, 1) := zk_of (zk_r (zk_r (zk_l (zk_r (zk_l zdX12_text_74)))))
theorem dX12_text_93 : decode cX12_text 93 = .ok (.getfield 9, 3) := zk_of (zk_l (zk_l (zk_r (zk_r (zk_l zdX12_text_74)))))
theorem dX12_text_96 : decode cX12_text 96 = .ok (.iload_n 3, 1) := zk_of (zk_r (zk_l (zk_r (zk_r (zk_l zdX12_text_74)))))
theorem dX12_text_97 : decode cX12_text 97 = .ok (.baload, 1) := zk_of (zk_l (zk_r (zk_r (zk_r (zk_l zdX12_text_74)))))
theorem dX12_text_98 : decode cX12_text 98 = .ok (.bastore, 1) := zk_of (zk_r (zk_r (zk_r (zk_r (zk_l zdX12_text_74)))))
theorem dX12_text_99 : decode cX12_text 99 = .ok (.iinc 3 1, 3) := zk_of (zk_l (zk_l (zk_l (zk_l (zk_r zdX12_text_74)))))
theorem dX12_text_102 : decode cX12_text 102 = .ok (.goto (-28), 3) := zk_of (zk_r (zk_l (zk_l (zk_l (zk_r zdX12_text_74)))))
theorem dX12_text_105 : decode cX12_text 105 = .ok (.aload_n 0, 1) := zk_of (zk_l (zk_r (zk_l (zk_l (zk_r zdX12_text_74)))))
theorem dX12_text_106 : decode cX12_text 106 = .ok (.getfield 16, 3) := zk_of (zk_r (zk_r (zk_l (zk_l (zk_r zdX12_text_74)))))
theorem dX12_text_109 : decode cX12_text 109 = .ok (.iload_n 2, 1) := zk_of (zk_l (zk_l (zk_r (zk_l (zk_r zdX12_text_74)))))
theorem dX12_text_110 : decode cX12_text 110 = .ok (.aload_n 0, 1) := zk_of (zk_r (zk_l (zk_r (zk_l (zk_r zdX12_text_74)))))
theorem dX12_text_111 : decode cX12_text 111 = .ok (.getfield 162, 3) := zk_of (zk_l (zk_r (zk_r (zk_l (zk_r zdX12_text_74)))))
theorem dX12_text_114 : decode cX12_text 114 = .ok (.iastore, 1) := zk_of (zk_r (zk_r (zk_r (zk_l (zk_r zdX12_text_74)))))
theorem dX12_text_115 : decode cX12_text 115 = .ok (.aload_n 0, 1) := zk_of (zk_l (zk_l (zk_l (zk_r (zk_r zdX12_text_74)))))
theorem dX12_text_116 : decode cX12_text 116 = .ok (.iconst 0, 1) := zk_of (zk_r (zk_l (zk_l (zk_r (zk_r zdX12_text_74)))))
theorem dX12_text_117 : decode cX12_text 117 = .ok (.putfield 162, 3) := zk_of (zk_l (zk_r (zk_l (zk_r (zk_r zdX12_text_74)))))
theorem dX12_text_120 : decode cX12_text 120 = .ok (.aload_n 0, 1) := zk_of (zk_r (zk_r (zk_l (zk_r (zk_r zdX12_text_74)))))
theorem dX12_text_121 : decode cX12_text 121 = .ok (.getfield 20, 3) := zk_of (zk_l (zk_l (zk_r (zk_r (zk_r zdX12_text_74)))))
theorem dX12_text_124 : decode cX12_text 124 = .ok (.iload_n 1, 1) := zk_of (zk_r (zk_l (zk_r (zk_r (zk_r zdX12_text_74)))))
theorem dX12_text_125 : decode cX12_text 125 = .ok (.dup2, 1) := zk_of (zk_l (zk_r (zk_r (zk_r (zk_r zdX12_text_74)))))
theorem dX12_text_126 : decode cX12_text 126 = .ok (.iaload, 1) := zk_of (zk_r (zk_r (zk_r (zk_r (zk_r zdX12_text_74)))))
theorem zdX12_text_127 : (and (and (and (and (and (zk cX12_text 127 (.iconst 1) 1) (zk cX12_text 128 (.iadd) 1)) (and (zk cX12_text 129 (.iastore) 1) (zk cX12_text 130 (.aload_n 0) 1))) (and (and (zk cX12_text 131 (.getfield 20) 3) (zk cX12_text 134 (.iload_n 1) 1)) (and (zk cX12_text 135 (.iaload) 1) (zk cX12_text 136 (.iconst 1) 1)))) (and (and (and (zk cX12_text 137 (.isub) 1) (zk cX12_text 138 (.ireturn) 1)) (and (zk cX12_text 31 (.if_icmp .ne 5) 3) (zk cX12_text 36 (.aload_n 0) 1))) (and (and (zk cX12_text 37 (.aload_n 0) 1) (zk cX12_text 38 (.getfield 9) 3)) (and (zk cX12_text 41 (.iconst 0) 1) (zk cX12_text 42 (.aload_n 0) 1))))) (and (and (and (and (zk cX12_text 43 (.getfield 162) 3) (zk cX12_text 46 (.iload_n 1) 1)) (and (zk cX12_text 47 (.invokevirtual 267) 3) (zk cX12_text 50 (.aload_n 0) 1))) (and (and (zk cX12_text 51 (.getfield 182) 3) (zk cX12_text 54 (.iconst (-1)) 1)) (and (zk cX12_text 55 (.if_icmp .eq 5) 3) (zk cX12_text 60 (.bipush 12) 2)))) (and (and (and (zk cX12_text 62 (.iload_n 1) 1) (zk cX12_text 63 (.imul) 1)) (and (zk cX12_text 64 (.aload_n 0) 1) (zk cX12_text 65 (.getfield 20) 3))) (and (and (zk cX12_text 68 (.iload_n 1) 1) (zk cX12_text 69 (.iaload) 1)) (and (zk cX12_text 70 (.iadd) 1) (zk cX12_text 71 (.istore_n 2) 1)))))) = true := by decide +kernel
theorem dX12_text_127 : decode cX12_text 127 = .ok (.iconst 1, 1) := zk_of (zk_l (zk_l (zk_l (zk_l (zk_l zdX12_text_127)))))
theorem dX12_text_128 : decode cX12_text 128 = .ok (.iadd, 1) := zk_of (zk_r (zk_l (zk_l (zk_l (zk_l zdX12_text_127)))))
theorem dX12_text_129 : decode cX12_text 129 = .ok (.iastore, 1) := zk_of (zk_l (zk_r (zk_l (zk_l (zk_l zdX12_text_127)))))
theorem dX12_text_130 : decode cX12_text 130 = .ok (.aload_n 0, 1) := zk_of (zk_r (zk_r (zk_l (zk_l (zk_l zdX12_text_127)))))
theorem dX12_text_131 : decode cX12_text 131 = .ok (.getfield 20, 3) := zk_of (zk_l (zk_l (zk_r (zk_l (zk_l zdX12_text_127)))))
theorem dX12_text_134 : decode cX12_text 134 = .ok (.iload_n 1, 1) := zk_of (zk_r (zk_l (zk_r (zk_l (zk_l zdX12_text_127)))))
theorem dX12_text_135 : decode cX12_text 135 = .ok (.iaload, 1) := zk_of (zk_l (zk_r (zk_r (zk_l (zk_l zdX12_text_127)))))
theorem dX12_text_136 : decode cX12_text 136 = .ok (.iconst 1, 1) := zk_of (zk_r (zk_r (zk_r (zk_l (zk_l zdX12_text_127)))))
theorem dX12_text_137 : decode cX12_text 137 = .ok (.isub, 1) := zk_of (zk_l (zk_l (zk_l (zk_r (zk_l zdX12_text_127)))))
theorem dX12_text_138 : decode cX12_text 138 = .ok (.ireturn, 1) := zk_of (zk_r (zk_l (zk_l (zk_r (zk_l zdX12_text_127)))))
theorem dX12_text_31 : decode cX12_text 31 = .ok (.if_icmp .ne 5, 3) := zk_of (zk_l (zk_r (zk_l (zk_r (zk_l zdX12_text_127)))))
theorem dX12_text_36 : decode cX12_text 36 = .ok (.aload_n 0, 1) := zk_of (zk_r (zk_r (zk_l (zk_r (zk_l zdX12_text_127)))))
theorem dX12_text_37 : decode cX12_text 37 = .ok (.aload_n 0, 1) := zk_of (zk_l (zk_l (zk_r (zk_r (zk_l zdX12_text_127)))))
theorem dX12_text_38 : decode cX12_text 38 = .ok (.getfield 9, 3) := zk_of (zk_r (zk_l (zk_r (zk_r (zk_l zdX12_text_127)))))
theorem dX12_text_41 : decode cX12_text 41 = .ok (.iconst 0, 1) := zk_of (zk_l (zk_r (zk_r (zk_r (zk_l zdX12_text_127)))))
theorem dX12_text_42 : decode cX12_text 42 = .ok (.aload_n 0, 1) := zk_of (zk_r (zk_r (zk_r (zk_r (zk_l zdX12_text_127)))))
theorem dX12_text_43 : decode cX12_text 43 = .ok (.getfield 162, 3) := zk_of (zk_l (zk_l (zk_l (zk_l (zk_r zdX12_text_127)))))
theorem dX12_text_46 : decode cX12_text 46 = .ok (.iload_n 1, 1) := zk_of (zk_r (zk_l (zk_l (zk_l (zk_r zdX12_text_127)))))
theorem dX12_text_47 : decode cX12_text 47 = .ok (.invokevirtual 267, 3) := zk_of (zk_l (zk_r (zk_l (zk_l (zk_r zdX12_text_127)))))
theorem dX12_text_50 : decode cX12_text 50 = .ok (.aload_n 0, 1) := zk_of (zk_r (zk_r (zk_l (zk_l (zk_r zdX12_text_127)))))
theorem dX12_text_51 : decode cX12_text 51 = .ok (.getfield 182, 3) := zk_of (zk_l (zk_l (zk_r (zk_l (zk_r zdX12_text_127)))))
theorem dX12_text_54 : decode cX12_text 54 = .ok (.iconst (-1), 1) := zk_of (zk_r (zk_l (zk_r (zk_l (zk_r zdX12_text_127)))))
theorem dX12_text_55 : decode cX12_text 55 = .ok (.if_icmp .eq 5, 3) := zk_of (zk_l (zk_r (zk_r (zk_l (zk_r zdX12_text_127)))))
theorem dX12_text_60 : decode cX12_text 60 = .ok (.bipush 12, 2) := zk_of (zk_r (zk_r (zk_r (zk_l (zk_r zdX12_text_127)))))
theorem dX12_text_62 : decode cX12_text 62 = .ok (.iload_n 1, 1) := zk_of (zk_l (zk_l (zk_l (zk_r (zk_r zdX12_text_127)))))
theorem dX12_text_63 : decode cX12_text 63 = .ok (.imul, 1) := zk_of (zk_r (zk_l (zk_l (zk_r (zk_r zdX12_text_127)))))
theorem dX12_text_64 : decode cX12_text 64 = .ok (.aload_n 0, 1) := zk_of (zk_l (zk_r (zk_l (zk_r (zk_r zdX12_text_127)))))
theorem dX12_text_65 : decode cX12_text 65 = .ok (.getfield 20, 3) := zk_of (zk_r (zk_r (zk_l (zk_r (zk_r zdX12_text_127)))))
theorem dX12_text_68 : decode cX12_text 68 = .ok (.iload_n 1, 1) := zk_of (zk_l (zk_l (zk_r (zk_r (zk_r zdX12_text_127)))))
theorem dX12_text_69 : decode cX12_text 69 = .ok (.iaload, 1) := zk_of (zk_r (zk_l (zk_r (zk_r (zk_r zdX12_text_127)))))
theorem dX12_text_70 : decode cX12_text 70 = .ok (.iadd, 1) := zk_of (zk_l (zk_r (zk_r (zk_r (zk_r zdX12_text_127)))))
theorem dX12_text_71 : decode cX12_text 71 = .ok (.istore_n 2, 1) := zk_of (zk_r (zk_r (zk_r (zk_r (zk_r zdX12_text_127)))))
set_option maxRecDepth 20000 in
theorem ggX12_text_X12_goThrough : GoodIn wsX12_text wsX12_goThrough := ggi (fun w h => List.mem_cons_of_mem _ (List.mem_append_left _ (List.mem_append_right _ (List.mem_append_left _ h)))) gs_X12_goThrough
set_option maxRecDepth 20000 in
theorem gX12_text_X12_goThrough : GoodIn wsX12_text (wsV RX12 267 RX12 yX12_goThrough wsX12_goThrough) := goodIn_app (goodIn_of _ (by decide +kernel)) ggX12_text_X12_goThrough
theorem zdX12_text_72 : (and (and (and (and (and (zk cX12_text 72 (.iconst 0) 1) (zk cX12_text 73 (.istore_n 3) 1)) (zk cX12_text 58 (.iconst (-1)) 1)) (and (and (zk cX12_text 59 (.ireturn) 1) (zk cX12_text 34 (.iconst (-1)) 1)) (zk cX12_text 35 (.ireturn) 1))) (and (and (and (zk cX12_text 0 (.aload_n 0) 1) (zk cX12_text 1 (.iconst 0) 1)) (zk cX12_text 2 (.putfield 151) 3)) (and (and (zk cX12_text 5 (.iload_n 1) 1) (zk cX12_text 6 (.iconst 0) 1)) (zk cX12_text 7 (.iconst 2) 1)))) (and (and (and (and (zk cX12_text 8 (.invokestatic 155) 3) (zk cX12_text 11 (.ifCond .eq 23) 3)) (zk cX12_text 14 (.aload_n 0) 1)) (and (and (zk cX12_text 15 (.getfield 20) 3) (zk cX12_text 18 (.iload_n 1) 1)) (zk cX12_text 19 (.iaload) 1))) (and (and (and (zk cX12_text 20 (.iload_n 1) 1) (zk cX12_text 21 (.ifCond .ne 8) 3)) (zk cX12_text 29 (.bipush 6) 2)) (and (zk cX12_text 24 (.bipush 12) 2) (zk cX12_text 26 (.goto 5) 3))))) = true := by decide +kernel
theorem dX12_text_72 : decode cX12_text 72 = .ok (.iconst 0, 1) := zk_of (zk_l (zk_l (zk_l (zk_l (zk_l zdX12_text_72)))))
theorem dX12_text_73 : decode cX12_text 73 = .ok (.istore_n 3, 1) := zk_of (zk_r (zk_l (zk_l (zk_l (zk_l zdX12_text_72)))))
theorem dX12_text_58 : decode cX12_text 58 = .ok (.iconst (-1), 1) := zk_of (zk_r (zk_l (zk_l (zk_l zdX12_text_72))))
theorem dX12_text_59 : decode cX12_text 59 = .ok (.ireturn, 1) := zk_of (zk_l (zk_l (zk_r (zk_l (zk_l zdX12_text_72)))))
theorem dX12_text_34 : decode cX12_text 34 = .ok (.iconst (-1), 1) := zk_of (zk_r (zk_l (zk_r (zk_l (zk_l zdX12_text_72)))))
theorem dX12_text_35 : decode cX12_text 35 = .ok (.ireturn, 1) := zk_of (zk_r (zk_r (zk_l (zk_l zdX12_text_72))))
theorem dX12_text_0 : decode cX12_text 0 = .ok (.aload_n 0, 1) := zk_of (zk_l (zk_l (zk_l (zk_r (zk_l zdX12_text_72)))))
theorem dX12_text_1 : decode cX12_text 1 = .ok (.iconst 0, 1) := zk_of (zk_r (zk_l (zk_l (zk_r (zk_l zdX12_text_72)))))
theorem dX12_text_2 : decode cX12_text 2 = .ok (.putfield 151, 3) := zk_of (zk_r (zk_l (zk_r (zk_l zdX12_text_72))))
theorem dX12_text_5 : decode cX12_text 5 = .ok (.iload_n 1, 1) := zk_of (zk_l (zk_l (zk_r (zk_r (zk_l zdX12_text_72)))))
theorem dX12_text_6 : decode cX12_text 6 = .ok (.iconst 0, 1) := zk_of (zk_r (zk_l (zk_r (zk_r (zk_l zdX12_text_72)))))
theorem dX12_text_7 : decode cX12_text 7 = .ok (.iconst 2, 1) := zk_of (zk_r (zk_r (zk_r (zk_l zdX12_text_72))))
theorem dX12_text_8 : decode cX12_text 8 = .ok (.invokestatic 155, 3) := zk_of (zk_l (zk_l (zk_l (zk_l (zk_r zdX12_text_72)))))
theorem dX12_text_11 : decode cX12_text 11 = .ok (.ifCond .eq 23, 3) := zk_of (zk_r (zk_l (zk_l (zk_l (zk_r zdX12_text_72)))))
theorem dX12_text_14 : decode cX12_text 14 = .ok (.aload_n 0, 1) := zk_of (zk_r (zk_l (zk_l (zk_r zdX12_text_72))))
theorem dX12_text_15 : decode cX12_text 15 = .ok (.getfield 20, 3) := zk_of (zk_l (zk_l (zk_r (zk_l (zk_r zdX12_text_72)))))
theorem dX12_text_18 : decode cX12_text 18 = .ok (.iload_n 1, 1) := zk_of (zk_r (zk_l (zk_r (zk_l (zk_r zdX12_text_72)))))
theorem dX12_text_19 : decode cX12_text 19 = .ok (.iaload, 1) := zk_of (zk_r (zk_r (zk_l (zk_r zdX12_text_72))))
theorem dX12_text_20 : decode cX12_text 20 = .ok (.iload_n 1, 1) := zk_of (zk_l (zk_l (zk_l (zk_r (zk_r zdX12_text_72)))))
theorem dX12_text_21 : decode cX12_text 21 = .ok (.ifCond .ne 8, 3) := zk_of (zk_r (zk_l (zk_l (zk_r (zk_r zdX12_text_72)))))
theorem dX12_text_29 : decode cX12_text 29 = .ok (.bipush 6, 2) := zk_of (zk_r (zk_l (zk_r (zk_r zdX12_text_72))))
theorem dX12_text_24 : decode cX12_text 24 = .ok (.bipush 12, 2) := zk_of (zk_l (zk_r (zk_r (zk_r zdX12_text_72))))
theorem dX12_text_26 : decode cX12_text 26 = .ok (.goto 5, 3) := zk_of (zk_r (zk_r (zk_r (zk_r zdX12_text_72))))
set_option maxRecDepth 20000 in
theorem ggX12_text_X12_isIn : GoodIn wsX12_text wsX12_isIn := ggi (fun w h => List.mem_cons_of_mem _ (List.mem_append_left _ (List.mem_append_right _ (List.mem_append_right _ h)))) gs_X12_isIn
set_option maxRecDepth 20000 in
theorem gX12_text_X12_isIn : GoodIn wsX12_text (va_wsS RX12 155 yX12_isIn wsX12_isIn) := goodIn_app (goodIn_of _ (by decide +kernel)) ggX12_text_X12_isIn
/-- HissHornModel.text(I)I of cell 0 -/
def rmX12_text_0 : Room := { frames := 137, cells := 0, slots := 0, locals := 8404 }
theorem hX12_text_0_X12 : ∀ w ∈ u_ws RX12 TX12 69, w ∈ wsX12_text := fun w h => (List.mem_cons_of_mem _ (List.mem_append_right _ h))
theorem mX12_text_0_1 : Cond.fieldLink RX12 151 "HissHornModel" "thrown" "I" ∈ wsX12_text := (List.mem_cons_of_mem _ (List.mem_append_left _ (List.mem_append_left _ (List.mem_of_getElem? (i := 6) rfl))))
theorem mX12_text_0_2 : Cond.fieldLink RX12 20 "HissHornModel" "textMany" "[I" ∈ wsX12_text := (List.mem_cons_of_mem _ (List.mem_append_left _ (List.mem_append_left _ (List.mem_of_getElem? (i := 7) rfl))))
theorem mX12_text_0_3 : Cond.fieldLink RX12 9 "HissHornModel" "tape" "[B" ∈ wsX12_text := (List.mem_cons_of_mem _ (List.mem_append_left _ (List.mem_append_left _ (List.mem_of_getElem? (i := 8) rfl))))
theorem mX12_text_0_4 : Cond.fieldLink RX12 162 "HissHornModel" "length" "I" ∈ wsX12_text := (List.mem_cons_of_mem _ (List.mem_append_left _ (List.mem_append_left _ (List.mem_of_getElem? (i := 9) rfl))))
theorem mX12_text_0_5 : Cond.fieldLink RX12 182 "HissHornModel" "fault" "I" ∈ wsX12_text := (List.mem_cons_of_mem _ (List.mem_append_left _ (List.mem_append_left _ (List.mem_of_getElem? (i := 10) rfl))))
theorem mX12_text_0_6 : Cond.fieldLink RX12 13 "HissHornModel" "texts" "[B" ∈ wsX12_text := (List.mem_cons_of_mem _ (List.mem_append_left _ (List.mem_append_left _ (List.mem_of_getElem? (i := 11) rfl))))
def LX12_text_0_74 (k105 : Int32 → Int32 → SX → Option (Int32 × SX)) : Nat → Int32 → Int32 → Int32 → SX → Option (Int32 × SX)
  | 0, _, _, _, _ => none
  | n + 1, z1, z2, z3, u => (if (u.1 3) ≤ z3 then (k105 z1 z2 u) else (gd (inb z3 120) (gd (inb ((120 * z2) + z3) 4320) (lt (sA u 2 (upd (u.2.1 2) ((120 * z2) + z3).toNatClampNeg (vp_nar .byte (u.2.1 1 z3.toNatClampNeg)))) fun u15 => ((LX12_text_0_74 k105 n) z1 z2 (z3 + 1) u15)))))
theorem mX12_text_0_7 : Cond.fieldLink RX12 16 "HissHornModel" "textLong" "[I" ∈ wsX12_text := (List.mem_cons_of_mem _ (List.mem_append_left _ (List.mem_append_left _ (List.mem_of_getElem? (i := 12) rfl))))
def GX12_text_0_105 (z1 : Int32) (z2 : Int32) (u : SX) : Option (Int32 × SX) := (gd (inb z2 36) (lt (sA u 3 (upd (u.2.1 3) z2.toNatClampNeg (u.1 3))) fun u18 => (lt (sI u18 3 0) fun u20 => (gd (inb z1 3) (gd (inb z1 3) (lt (sA u20 4 (upd (u20.2.1 4) z1.toNatClampNeg ((u20.2.1 4 z1.toNatClampNeg) + 1))) fun u24 => (gd (inb z1 3) (some ((u24.2.1 4 z1.toNatClampNeg) - 1, u24)))))))))
def GX12_text_0_31 (z1 : Int32) (y0 : Int32) (y1 : Int32) (u : SX) : Option (Int32 × SX) := (if y1 = y0 then (some ((-1), u)) else ((fX12_goThrough_0_a1 0 (u.1 3) z1 u).bind fun q => match q with | (r7, u8) => (if (u8.1 7) = (-1) then (gd (inb z1 3) (lt ((12 * z1) + (u8.2.1 4 z1.toNatClampNeg)) fun v11 => (LX12_text_0_74 GX12_text_0_105 5000 z1 v11 0 u8))) else (some ((-1), u8)))))
def fX12_text_0 (x1 : Int32) (u : SX) : Option (Int32 × SX) := (lt (sI u 0 0) fun u1 => ((fX12_isIn x1 0 2).bind fun r3 => (if r3 = 0 then (some ((-1), u1)) else (gd (inb x1 3) (if x1 = 0 then (GX12_text_0_31 x1 12 (u1.2.1 4 x1.toNatClampNeg) u1) else (GX12_text_0_31 x1 6 (u1.2.1 4 x1.toNatClampNeg) u1))))))
set_option maxHeartbeats 4000000 in
set_option maxRecDepth 100000 in
theorem wLX12_text_0_74 {p : Program} {l : Launch} {e : Env} {s : State} {m : MethodId} {args : Array Value} {below : List Frame} {meth : Method} {c : Code} {D : va_G} {cy : Nat → ClassId} {ad st : Nat → Nat} (C : Cx RX12 cX12_text 4 (some .int) wsX12_text p s m args meth c) (hK : Ky D [(cy 0, .int), (cy 1, .long), (cy 2, .boolean), (cy 3, .byte), (cy 4, .object "HissHorn$Text")] st s) (hJ : JM ad st) {r : Int32} {u' : SX} {k105 : Int32 → Int32 → SX → Option (Int32 × SX)} (hk105 : ∀ (z1 : Int32) (z2 : Int32) (u : SX) (H : Heap) (locs : List Loc) (ls : Array Slot), k105 z1 z2 u = some (r, u') → va_P D vwCl (VM cy ad st u) H → va_S (Ax (AM ad) s.heap.size) s.heap H locs → lv_has ls 4 [(0, .ref (ad 0)), (1, .int z1), (2, .int z2)] → W p l e rmX12_text_0 s m args below meth c H locs 0 0 (MQ below (Qi D (VM cy ad st) (AM ad) s.heap.size r u') args s 0 0 (Ax (AM ad) s.heap.size)) (F0 m 105 ls [])) : ∀ (n : Nat) (z1 : Int32) (z2 : Int32) (z3 : Int32) (u : SX) (H : Heap) (locs : List Loc) (ls : Array Slot), LX12_text_0_74 k105 n z1 z2 z3 u = some (r, u') → va_P D vwCl (VM cy ad st u) H → va_S (Ax (AM ad) s.heap.size) s.heap H locs → lv_has ls 4 [(0, .ref (ad 0)), (1, .int z1), (2, .int z2), (3, .int z3)] → W p l e rmX12_text_0 s m args below meth c H locs 0 0 (MQ below (Qi D (VM cy ad st) (AM ad) s.heap.size r u') args s 0 0 (Ax (AM ad) s.heap.size)) (F0 m 74 ls []) := by
  intro n
  induction n with
  | zero =>
    intro z1 z2 z3 u H locs ls h
    exact absurd h (by intro q; cases q)
  | succ n ih =>
    intro z1 z2 z3 u H locs ls h hP hS hl
    rw [LX12_text_0_74] at h
    refine lv_iload_n C.1 C.2.1 dX12_text_74 rfl (lv_at hl 3 rfl) ?_
    refine lv_aload_n C.1 C.2.1 dX12_text_75 rfl (lv_at hl 0 rfl) ?_
    refine gM_0_length C hX12_text_0_X12 hK hP mX12_text_0_4 dX12_text_76 ?_
    refine lv_icmp_ge (tgt := 105) C.1 C.2.1 dX12_text_79 (by decide) (fun c79 => ?_) (fun c79 => ?_)
    · rw [if_pos c79] at h
      exact hk105 _ _ _ _ _ _ h hP hS (lv_sub hl [0, 1, 2] rfl)
    · rw [if_neg c79] at h
      refine lv_aload_n C.1 C.2.1 dX12_text_82 rfl (lv_at hl 0 rfl) ?_
      refine gM_0_texts C hX12_text_0_X12 hK hP mX12_text_0_6 dX12_text_83 ?_
      refine lv_bipush (v := 120) C.1 C.2.1 dX12_text_86 (by decide) ?_
      refine lv_iload_n C.1 C.2.1 dX12_text_88 rfl (lv_at hl 2 rfl) ?_
      refine lv_imul C.1 C.2.1 dX12_text_89 ?_
      refine lv_iload_n C.1 C.2.1 dX12_text_90 rfl (lv_at hl 3 rfl) ?_
      refine lv_iadd C.1 C.2.1 dX12_text_91 ?_
      refine lv_aload_n C.1 C.2.1 dX12_text_92 rfl (lv_at hl 0 rfl) ?_
      refine gM_0_tape C hX12_text_0_X12 hK hP mX12_text_0_3 dX12_text_93 ?_
      refine lv_iload_n C.1 C.2.1 dX12_text_96 rfl (lv_at hl 3 rfl) ?_
      obtain ⟨hg13, h⟩ := gd_some h
      refine lM_1 C hK hP hg13 dX12_text_97 ?_
      obtain ⟨hg14, h⟩ := gd_some h
      refine tM_2 C hK hP hJ hS hg14 dX12_text_98 (fun H locs hP hS => ?_)
      obtain ⟨u15, hu16, h⟩ := lt_some h
      rw [← hu16] at hP
      refine lv_iinc (v := z3 + 1) (lv' := [(3, .int (z3 + 1)), (0, .ref (ad 0)), (1, .int z1), (2, .int z2)]) C.1 C.2.1 dX12_text_99 hl (k := 3) rfl rfl (by decide) rfl (fun ls hl => ?_)
      replace hl := lv_sub (l' := [(0, .ref (ad 0)), (1, .int z1), (2, .int z2), (3, .int (z3 + 1))]) hl [1, 2, 3, 0] rfl
      refine lv_goto (tgt := 74) C.1 C.2.1 dX12_text_102 (by decide) ?_
      exact ih _ _ _ _ _ _ _ h hP hS hl
set_option maxHeartbeats 4000000 in
set_option maxRecDepth 100000 in
theorem wGX12_text_0_105 {p : Program} {l : Launch} {e : Env} {s : State} {m : MethodId} {args : Array Value} {below : List Frame} {meth : Method} {c : Code} {D : va_G} {cy : Nat → ClassId} {ad st : Nat → Nat} (C : Cx RX12 cX12_text 4 (some .int) wsX12_text p s m args meth c) (hK : Ky D [(cy 0, .int), (cy 1, .long), (cy 2, .boolean), (cy 3, .byte), (cy 4, .object "HissHorn$Text")] st s) (hJ : JM ad st) {r : Int32} {u' : SX}   (z1 : Int32) (z2 : Int32) (u : SX) (H : Heap) (locs : List Loc) (ls : Array Slot) (h : GX12_text_0_105 z1 z2 u = some (r, u')) (hP : va_P D vwCl (VM cy ad st u) H) (hS : va_S (Ax (AM ad) s.heap.size) s.heap H locs) (hl : lv_has ls 4 [(0, .ref (ad 0)), (1, .int z1), (2, .int z2)]) : W p l e rmX12_text_0 s m args below meth c H locs 0 0 (MQ below (Qi D (VM cy ad st) (AM ad) s.heap.size r u') args s 0 0 (Ax (AM ad) s.heap.size)) (F0 m 105 ls []) := by
  unfold GX12_text_0_105 at h
  refine lv_aload_n C.1 C.2.1 dX12_text_105 rfl (lv_at hl 0 rfl) ?_
  refine gM_0_textLong C hX12_text_0_X12 hK hP mX12_text_0_7 dX12_text_106 ?_
  refine lv_iload_n C.1 C.2.1 dX12_text_109 rfl (lv_at hl 2 rfl) ?_
  refine lv_aload_n C.1 C.2.1 dX12_text_110 rfl (lv_at hl 0 rfl) ?_
  refine gM_0_length C hX12_text_0_X12 hK hP mX12_text_0_4 dX12_text_111 ?_
  obtain ⟨hg17, h⟩ := gd_some h
  refine tM_3 C hK hP hJ hS hg17 dX12_text_114 (fun H locs hP hS => ?_)
  obtain ⟨u18, hu19, h⟩ := lt_some h
  rw [← hu19] at hP
  refine lv_aload_n C.1 C.2.1 dX12_text_115 rfl (lv_at hl 0 rfl) ?_
  refine lv_iconst (v := 0) C.1 C.2.1 dX12_text_116 (by decide) ?_
  refine pM_0_length C hX12_text_0_X12 hK hP hJ hS mX12_text_0_4 dX12_text_117 (fun H locs hP hS => ?_)
  obtain ⟨u20, hu21, h⟩ := lt_some h
  rw [← hu21] at hP
  refine lv_aload_n C.1 C.2.1 dX12_text_120 rfl (lv_at hl 0 rfl) ?_
  refine gM_0_textMany C hX12_text_0_X12 hK hP mX12_text_0_2 dX12_text_121 ?_
  refine lv_iload_n C.1 C.2.1 dX12_text_124 rfl (lv_at hl 1 rfl) ?_
  refine lv_dup2_11 C.1 C.2.1 dX12_text_125 rfl rfl ?_
  obtain ⟨hg22, h⟩ := gd_some h
  refine lM_4 C hK hP hg22 dX12_text_126 ?_
  refine lv_iconst (v := 1) C.1 C.2.1 dX12_text_127 (by decide) ?_
  refine lv_iadd C.1 C.2.1 dX12_text_128 ?_
  obtain ⟨hg23, h⟩ := gd_some h
  refine tM_4 C hK hP hJ hS hg23 dX12_text_129 (fun H locs hP hS => ?_)
  obtain ⟨u24, hu25, h⟩ := lt_some h
  rw [← hu25] at hP
  refine lv_aload_n C.1 C.2.1 dX12_text_130 rfl (lv_at hl 0 rfl) ?_
  refine gM_0_textMany C hX12_text_0_X12 hK hP mX12_text_0_2 dX12_text_131 ?_
  refine lv_iload_n C.1 C.2.1 dX12_text_134 rfl (lv_at hl 1 rfl) ?_
  obtain ⟨hg26, h⟩ := gd_some h
  refine lM_4 C hK hP hg26 dX12_text_135 ?_
  refine lv_iconst (v := 1) C.1 C.2.1 dX12_text_136 (by decide) ?_
  refine lv_isub C.1 C.2.1 dX12_text_137 ?_
  cases h
  exact rt_i C hP hS dX12_text_138
set_option maxHeartbeats 4000000 in
set_option maxRecDepth 100000 in
theorem wGX12_text_0_31 {p : Program} {l : Launch} {e : Env} {s : State} {m : MethodId} {args : Array Value} {below : List Frame} {meth : Method} {c : Code} {D : va_G} {cy : Nat → ClassId} {ad st : Nat → Nat} (C : Cx RX12 cX12_text 4 (some .int) wsX12_text p s m args meth c) (hK : Ky D [(cy 0, .int), (cy 1, .long), (cy 2, .boolean), (cy 3, .byte), (cy 4, .object "HissHorn$Text")] st s) (hJ : JM ad st) {r : Int32} {u' : SX}   (z1 : Int32) (y0 : Int32) (y1 : Int32) (u : SX) (H : Heap) (locs : List Loc) (ls : Array Slot) (h : GX12_text_0_31 z1 y0 y1 u = some (r, u')) (hP : va_P D vwCl (VM cy ad st u) H) (hS : va_S (Ax (AM ad) s.heap.size) s.heap H locs) (hl : lv_has ls 4 [(0, .ref (ad 0)), (1, .int z1)]) : W p l e rmX12_text_0 s m args below meth c H locs 0 0 (MQ below (Qi D (VM cy ad st) (AM ad) s.heap.size r u') args s 0 0 (Ax (AM ad) s.heap.size)) (F0 m 31 ls [.int y0, .int y1]) := by
  unfold GX12_text_0_31 at h
  refine lv_icmp_ne (tgt := 36) C.1 C.2.1 dX12_text_31 (by decide) (fun c31 => ?_) (fun c31 => ?_)
  · rw [if_neg c31] at h
    refine lv_aload_n C.1 C.2.1 dX12_text_36 rfl (lv_at hl 0 rfl) ?_
    refine lv_aload_n C.1 C.2.1 dX12_text_37 rfl (lv_at hl 0 rfl) ?_
    refine gM_0_tape C hX12_text_0_X12 hK hP mX12_text_0_3 dX12_text_38 ?_
    refine lv_iconst (v := 0) C.1 C.2.1 dX12_text_41 (by decide) ?_
    refine lv_aload_n C.1 C.2.1 dX12_text_42 rfl (lv_at hl 0 rfl) ?_
    refine gM_0_length C hX12_text_0_X12 hK hP mX12_text_0_4 dX12_text_43 ?_
    refine lv_iload_n C.1 C.2.1 dX12_text_46 rfl (lv_at hl 1 rfl) ?_
    obtain ⟨⟨r7, u8⟩, hc9, h⟩ := bd_some h
    try dsimp only at h
    refine cg_v (As := [.ref (ad 1), .int 0, .int (u.1 3), .int z1]) (rest := []) (AM_ge hJ) C hK hP hS (metX12_goThrough_0_a1 l D cy ad st hJ _ 0 (u.1 3) z1 hc9) (cwV 4 C.2.2.2.2.2.1 gX12_text_X12_goThrough rfl rfl rfl (by decide +kernel) ⟨(Nat.le_of_ble_eq_true rfl), (Nat.le_of_ble_eq_true rfl)⟩) 0 12 rfl rfl rfl hl.1 rfl (Nat.le_of_ble_eq_true rfl) dX12_text_47 ⟨Nat.zero_le _, Nat.zero_le _⟩ (fun H locs hP hS => ?_)
    refine lv_aload_n C.1 C.2.1 dX12_text_50 rfl (lv_at hl 0 rfl) ?_
    refine gM_0_fault C hX12_text_0_X12 hK hP mX12_text_0_5 dX12_text_51 ?_
    refine lv_iconst (v := (-1)) C.1 C.2.1 dX12_text_54 (by decide) ?_
    refine lv_icmp_eq (tgt := 60) C.1 C.2.1 dX12_text_55 (by decide) (fun c55 => ?_) (fun c55 => ?_)
    · rw [if_pos c55] at h
      refine lv_bipush (v := 12) C.1 C.2.1 dX12_text_60 (by decide) ?_
      refine lv_iload_n C.1 C.2.1 dX12_text_62 rfl (lv_at hl 1 rfl) ?_
      refine lv_imul C.1 C.2.1 dX12_text_63 ?_
      refine lv_aload_n C.1 C.2.1 dX12_text_64 rfl (lv_at hl 0 rfl) ?_
      refine gM_0_textMany C hX12_text_0_X12 hK hP mX12_text_0_2 dX12_text_65 ?_
      refine lv_iload_n C.1 C.2.1 dX12_text_68 rfl (lv_at hl 1 rfl) ?_
      obtain ⟨hg10, h⟩ := gd_some h
      refine lM_4 C hK hP hg10 dX12_text_69 ?_
      refine lv_iadd C.1 C.2.1 dX12_text_70 ?_
      refine lv_topi (fun v11 hv12 => ?_)
      replace h := lt_e hv12 h
      try dsimp only at h
      refine lv_istore_n (lv' := [(2, .int v11), (0, .ref (ad 0)), (1, .int z1)]) C.1 C.2.1 dX12_text_71 rfl hl (by decide) rfl (fun ls hl => ?_)
      replace hl := lv_sub (l' := [(0, .ref (ad 0)), (1, .int z1), (2, .int v11)]) hl [1, 2, 0] rfl
      refine lv_iconst (v := 0) C.1 C.2.1 dX12_text_72 (by decide) ?_
      refine lv_istore_n (lv' := [(3, .int 0), (0, .ref (ad 0)), (1, .int z1), (2, .int v11)]) C.1 C.2.1 dX12_text_73 rfl hl (by decide) rfl (fun ls hl => ?_)
      replace hl := lv_sub (l' := [(0, .ref (ad 0)), (1, .int z1), (2, .int v11), (3, .int 0)]) hl [1, 2, 3, 0] rfl
      exact wLX12_text_0_74 C hK hJ (wGX12_text_0_105 C hK hJ ) 5000 _ _ _ _ _ _ _ h hP hS hl
    · rw [if_neg c55] at h
      refine lv_iconst (v := (-1)) C.1 C.2.1 dX12_text_58 (by decide) ?_
      cases h
      exact rt_i C hP hS dX12_text_59
  · rw [if_pos c31] at h
    refine lv_iconst (v := (-1)) C.1 C.2.1 dX12_text_34 (by decide) ?_
    cases h
    exact rt_i C hP hS dX12_text_35
set_option maxHeartbeats 4000000 in
set_option maxRecDepth 100000 in
theorem wX12_text_0 {p : Program} {l : Launch} {e : Env} {s : State} {m : MethodId} {args : Array Value} {below : List Frame} {meth : Method} {c : Code} {D : va_G} {cy : Nat → ClassId} {ad st : Nat → Nat} (C : Cx RX12 cX12_text 4 (some .int) wsX12_text p s m args meth c) (hK : Ky D [(cy 0, .int), (cy 1, .long), (cy 2, .boolean), (cy 3, .byte), (cy 4, .object "HissHorn$Text")] st s) (hJ : JM ad st) (x1 : Int32) {u : SX} {r : Int32} {u' : SX} {H : Heap} {locs : List Loc} {ls : Array Slot} (h : fX12_text_0 x1 u = some (r, u')) (hP : va_P D vwCl (VM cy ad st u) H) (hS : va_S (Ax (AM ad) s.heap.size) s.heap H locs) (hl : lv_has ls 4 [(0, .ref (ad 0)), (1, .int x1)]) : W p l e rmX12_text_0 s m args below meth c H locs 0 0 (MQ below (Qi D (VM cy ad st) (AM ad) s.heap.size r u') args s 0 0 (Ax (AM ad) s.heap.size)) (F0 m 0 ls []) := by
  unfold fX12_text_0 at h
  refine lv_aload_n C.1 C.2.1 dX12_text_0 rfl (lv_at hl 0 rfl) ?_
  refine lv_iconst (v := 0) C.1 C.2.1 dX12_text_1 (by decide) ?_
  refine pM_0_thrown C hX12_text_0_X12 hK hP hJ hS mX12_text_0_1 dX12_text_2 (fun H locs hP hS => ?_)
  obtain ⟨u1, hu2, h⟩ := lt_some h
  rw [← hu2] at hP
  refine lv_iload_n C.1 C.2.1 dX12_text_5 rfl (lv_at hl 1 rfl) ?_
  refine lv_iconst (v := 0) C.1 C.2.1 dX12_text_6 (by decide) ?_
  refine lv_iconst (v := 2) C.1 C.2.1 dX12_text_7 (by decide) ?_
  obtain ⟨r3, hc5, h⟩ := bd_some h
  refine cs_i (As := [.int x1, .int 0, .int 2]) (rest := []) (AM_ge hJ) C hK hP hS (metX12_isIn l D cy st _ x1 0 2 hc5) (va_cwS 3 C.2.2.2.2.2.1 gX12_text_X12_isIn rfl rfl rfl (by decide +kernel) ⟨(Nat.le_of_ble_eq_true rfl), (Nat.le_of_ble_eq_true rfl)⟩) rfl hl.1 rfl (Nat.le_of_ble_eq_true rfl) dX12_text_8 ⟨Nat.zero_le _, Nat.zero_le _⟩ (fun H locs hP hS => ?_)
  refine lv_if_eq (tgt := 34) C.1 C.2.1 dX12_text_11 (by decide) (fun c11 => ?_) (fun c11 => ?_)
  · rw [if_pos c11] at h
    refine lv_iconst (v := (-1)) C.1 C.2.1 dX12_text_34 (by decide) ?_
    cases h
    exact rt_i C hP hS dX12_text_35
  · rw [if_neg c11] at h
    refine lv_aload_n C.1 C.2.1 dX12_text_14 rfl (lv_at hl 0 rfl) ?_
    refine gM_0_textMany C hX12_text_0_X12 hK hP mX12_text_0_2 dX12_text_15 ?_
    refine lv_iload_n C.1 C.2.1 dX12_text_18 rfl (lv_at hl 1 rfl) ?_
    obtain ⟨hg6, h⟩ := gd_some h
    refine lM_4 C hK hP hg6 dX12_text_19 ?_
    refine lv_iload_n C.1 C.2.1 dX12_text_20 rfl (lv_at hl 1 rfl) ?_
    refine lv_if_ne (tgt := 29) C.1 C.2.1 dX12_text_21 (by decide) (fun c21 => ?_) (fun c21 => ?_)
    · rw [if_neg c21] at h
      refine lv_bipush (v := 6) C.1 C.2.1 dX12_text_29 (by decide) ?_
      exact wGX12_text_0_31 C hK hJ _ _ _ _ _ _ _ h hP hS hl
    · rw [if_pos c21] at h
      refine lv_bipush (v := 12) C.1 C.2.1 dX12_text_24 (by decide) ?_
      refine lv_goto (tgt := 31) C.1 C.2.1 dX12_text_26 (by decide) ?_
      exact wGX12_text_0_31 C hK hJ _ _ _ _ _ _ _ h hP hS hl
theorem metX12_text_0 (l : Launch) (D : va_G) (cy : Nat → ClassId) (ad st : Nat → Nat) (hJ : JM ad st) (sz : Nat) (x1 : Int32) {u : SX} {r : Int32} {u' : SX} (h : fX12_text_0 x1 u = some (r, u')) : Met l yX12_text wsX12_text rmX12_text_0 (va_Pc [.ref (ad 0), .int x1] (Px D [(cy 0, .int), (cy 1, .long), (cy 2, .boolean), (cy 3, .byte), (cy 4, .object "HissHorn$Text")] st (VM cy ad st) sz u)) (Qi D (VM cy ad st) (AM ad) sz r u') 0 0 (Ax (AM ad) sz) := by
  refine Met.ofW (cc := cX12_text) (maxL := 4) (ret := (some .int)) (by decide) rfl ?_
  intro p e s m args below meth c s₁ B hml hv
  obtain ⟨rfl, hsz, hP, hK⟩ := hv
  subst hsz
  have C : Cx RX12 cX12_text 4 (some .int) wsX12_text p s m _ meth c := ⟨B.exec, B.bytes, hml, B.returns, findClass_of_methodNamed B.named, atoms_spec (ws := wsX12_text) B.pre, B.notSynchronized⟩
  have hl := lv_entry ([.ref (ad 0), .int x1]) (n := 4) (Nat.le_of_ble_eq_true rfl)
  rw [lg_entry_eq]
  exact wX12_text_0 C hK hJ x1 h hP va_S.rf hl

theorem zdX12_noLetters_2 : (and (and (and (and (zk cX12_noLetters 2 (.iload_n 1) 1) (zk cX12_noLetters 3 (.sipush 128) 3)) (and (zk cX12_noLetters 6 (.if_icmp .ge 16) 3) (zk cX12_noLetters 22 (.return_) 1))) (and (and (zk cX12_noLetters 9 (.aload_n 0) 1) (zk cX12_noLetters 10 (.getfield 23) 3)) (zk cX12_noLetters 13 (.iload_n 1) 1))) (and (and (and (zk cX12_noLetters 14 (.iconst 0) 1) (zk cX12_noLetters 15 (.iastore) 1)) (zk cX12_noLetters 16 (.iinc 1 1) 3)) (and (and (zk cX12_noLetters 19 (.goto (-17)) 3) (zk cX12_noLetters 0 (.iconst 0) 1)) (zk cX12_noLetters 1 (.istore_n 1) 1)))) = true := by decide +kernel
theorem dX12_noLetters_2 : decode cX12_noLetters 2 = .ok (.iload_n 1, 1) := zk_of (zk_l (zk_l (zk_l (zk_l zdX12_noLetters_2))))
theorem dX12_noLetters_3 : decode cX12_noLetters 3 = .ok (.sipush 128, 3) := zk_of (zk_r (zk_l (zk_l (zk_l zdX12_noLetters_2))))
theorem dX12_noLetters_6 : decode cX12_noLetters 6 = .ok (.if_icmp .ge 16, 3) := zk_of (zk_l (zk_r (zk_l (zk_l zdX12_noLetters_2))))
theorem dX12_noLetters_22 : decode cX12_noLetters 22 = .ok (.return_, 1) := zk_of (zk_r (zk_r (zk_l (zk_l zdX12_noLetters_2))))
theorem dX12_noLetters_9 : decode cX12_noLetters 9 = .ok (.aload_n 0, 1) := zk_of (zk_l (zk_l (zk_r (zk_l zdX12_noLetters_2))))
theorem dX12_noLetters_10 : decode cX12_noLetters 10 = .ok (.getfield 23, 3) := zk_of (zk_r (zk_l (zk_r (zk_l zdX12_noLetters_2))))
theorem dX12_noLetters_13 : decode cX12_noLetters 13 = .ok (.iload_n 1, 1) := zk_of (zk_r (zk_r (zk_l zdX12_noLetters_2)))
theorem dX12_noLetters_14 : decode cX12_noLetters 14 = .ok (.iconst 0, 1) := zk_of (zk_l (zk_l (zk_l (zk_r zdX12_noLetters_2))))
theorem dX12_noLetters_15 : decode cX12_noLetters 15 = .ok (.iastore, 1) := zk_of (zk_r (zk_l (zk_l (zk_r zdX12_noLetters_2))))
theorem dX12_noLetters_16 : decode cX12_noLetters 16 = .ok (.iinc 1 1, 3) := zk_of (zk_r (zk_l (zk_r zdX12_noLetters_2)))
theorem dX12_noLetters_19 : decode cX12_noLetters 19 = .ok (.goto (-17), 3) := zk_of (zk_l (zk_l (zk_r (zk_r zdX12_noLetters_2))))
theorem dX12_noLetters_0 : decode cX12_noLetters 0 = .ok (.iconst 0, 1) := zk_of (zk_r (zk_l (zk_r (zk_r zdX12_noLetters_2))))
theorem dX12_noLetters_1 : decode cX12_noLetters 1 = .ok (.istore_n 1, 1) := zk_of (zk_r (zk_r (zk_r zdX12_noLetters_2)))
/-- HissHornModel.noLetters()V of cell 0 -/
def rmX12_noLetters_0 : Room := { frames := 0, cells := 0, slots := 0, locals := 0 }
theorem hX12_noLetters_0_X12 : ∀ w ∈ u_ws RX12 TX12 69, w ∈ wsX12_noLetters := fun w h => (List.mem_cons_of_mem _ (List.mem_append_right _ h))
theorem mX12_noLetters_0_1 : Cond.fieldLink RX12 23 "HissHornModel" "letters" "[I" ∈ wsX12_noLetters := (List.mem_cons_of_mem _ (List.mem_append_left _ (List.mem_of_getElem? (i := 0) rfl)))
def LX12_noLetters_0_2  : Nat → Int32 → SX → Option (Int32 × SX)
  | 0, _, _ => none
  | n + 1, z1, u => (if 128 ≤ z1 then (some (0, u)) else (gd (inb z1 128) (lt (sA u 5 (upd (u.2.1 5) z1.toNatClampNeg 0)) fun u2 => ((LX12_noLetters_0_2 n) (z1 + 1) u2))))
def fX12_noLetters_0  (u : SX) : Option (Int32 × SX) := (LX12_noLetters_0_2  5000 0 u)
set_option maxHeartbeats 4000000 in
set_option maxRecDepth 100000 in
theorem wLX12_noLetters_0_2 {p : Program} {l : Launch} {e : Env} {s : State} {m : MethodId} {args : Array Value} {below : List Frame} {meth : Method} {c : Code} {D : va_G} {cy : Nat → ClassId} {ad st : Nat → Nat} (C : Cx RX12 cX12_noLetters 2 none wsX12_noLetters p s m args meth c) (hK : Ky D [(cy 0, .int), (cy 1, .long), (cy 2, .boolean), (cy 3, .byte), (cy 4, .object "HissHorn$Text")] st s) (hJ : JM ad st) {r : Int32} {u' : SX}   : ∀ (n : Nat) (z1 : Int32) (u : SX) (H : Heap) (locs : List Loc) (ls : Array Slot), LX12_noLetters_0_2  n z1 u = some (r, u') → va_P D vwCl (VM cy ad st u) H → va_S (Ax (AM ad) s.heap.size) s.heap H locs → lv_has ls 2 [(0, .ref (ad 0)), (1, .int z1)] → W p l e rmX12_noLetters_0 s m args below meth c H locs 0 0 (MQ below (Qv D (VM cy ad st) (AM ad) s.heap.size r u') args s 0 0 (Ax (AM ad) s.heap.size)) (F0 m 2 ls []) := by
  intro n
  induction n with
  | zero =>
    intro z1 u H locs ls h
    exact absurd h (by intro q; cases q)
  | succ n ih =>
    intro z1 u H locs ls h hP hS hl
    rw [LX12_noLetters_0_2] at h
    refine lv_iload_n C.1 C.2.1 dX12_noLetters_2 rfl (lv_at hl 1 rfl) ?_
    refine lv_sipush (v := 128) C.1 C.2.1 dX12_noLetters_3 (by decide) ?_
    refine lv_icmp_ge (tgt := 22) C.1 C.2.1 dX12_noLetters_6 (by decide) (fun c6 => ?_) (fun c6 => ?_)
    · rw [if_pos c6] at h
      cases h
      exact rt_v C hP hS dX12_noLetters_22
    · rw [if_neg c6] at h
      refine lv_aload_n C.1 C.2.1 dX12_noLetters_9 rfl (lv_at hl 0 rfl) ?_
      refine gM_0_letters C hX12_noLetters_0_X12 hK hP mX12_noLetters_0_1 dX12_noLetters_10 ?_
      refine lv_iload_n C.1 C.2.1 dX12_noLetters_13 rfl (lv_at hl 1 rfl) ?_
      refine lv_iconst (v := 0) C.1 C.2.1 dX12_noLetters_14 (by decide) ?_
      obtain ⟨hg1, h⟩ := gd_some h
      refine tM_5 C hK hP hJ hS hg1 dX12_noLetters_15 (fun H locs hP hS => ?_)
      obtain ⟨u2, hu3, h⟩ := lt_some h
      rw [← hu3] at hP
      refine lv_iinc (v := z1 + 1) (lv' := [(1, .int (z1 + 1)), (0, .ref (ad 0))]) C.1 C.2.1 dX12_noLetters_16 hl (k := 1) rfl rfl (by decide) rfl (fun ls hl => ?_)
      replace hl := lv_sub (l' := [(0, .ref (ad 0)), (1, .int (z1 + 1))]) hl [1, 0] rfl
      refine lv_goto (tgt := 2) C.1 C.2.1 dX12_noLetters_19 (by decide) ?_
      exact ih _ _ _ _ _ h hP hS hl
set_option maxHeartbeats 4000000 in
set_option maxRecDepth 100000 in
theorem wX12_noLetters_0 {p : Program} {l : Launch} {e : Env} {s : State} {m : MethodId} {args : Array Value} {below : List Frame} {meth : Method} {c : Code} {D : va_G} {cy : Nat → ClassId} {ad st : Nat → Nat} (C : Cx RX12 cX12_noLetters 2 none wsX12_noLetters p s m args meth c) (hK : Ky D [(cy 0, .int), (cy 1, .long), (cy 2, .boolean), (cy 3, .byte), (cy 4, .object "HissHorn$Text")] st s) (hJ : JM ad st)  {u : SX} {r : Int32} {u' : SX} {H : Heap} {locs : List Loc} {ls : Array Slot} (h : fX12_noLetters_0  u = some (r, u')) (hP : va_P D vwCl (VM cy ad st u) H) (hS : va_S (Ax (AM ad) s.heap.size) s.heap H locs) (hl : lv_has ls 2 [(0, .ref (ad 0))]) : W p l e rmX12_noLetters_0 s m args below meth c H locs 0 0 (MQ below (Qv D (VM cy ad st) (AM ad) s.heap.size r u') args s 0 0 (Ax (AM ad) s.heap.size)) (F0 m 0 ls []) := by
  unfold fX12_noLetters_0 at h
  refine lv_iconst (v := 0) C.1 C.2.1 dX12_noLetters_0 (by decide) ?_
  refine lv_istore_n (lv' := [(1, .int 0), (0, .ref (ad 0))]) C.1 C.2.1 dX12_noLetters_1 rfl hl (by decide) rfl (fun ls hl => ?_)
  replace hl := lv_sub (l' := [(0, .ref (ad 0)), (1, .int 0)]) hl [1, 0] rfl
  exact wLX12_noLetters_0_2 C hK hJ  5000 _ _ _ _ _ h hP hS hl
theorem metX12_noLetters_0 (l : Launch) (D : va_G) (cy : Nat → ClassId) (ad st : Nat → Nat) (hJ : JM ad st) (sz : Nat)  {u : SX} {r : Int32} {u' : SX} (h : fX12_noLetters_0  u = some (r, u')) : Met l yX12_noLetters wsX12_noLetters rmX12_noLetters_0 (va_Pc [.ref (ad 0)] (Px D [(cy 0, .int), (cy 1, .long), (cy 2, .boolean), (cy 3, .byte), (cy 4, .object "HissHorn$Text")] st (VM cy ad st) sz u)) (Qv D (VM cy ad st) (AM ad) sz r u') 0 0 (Ax (AM ad) sz) := by
  refine Met.ofW (cc := cX12_noLetters) (maxL := 2) (ret := none) (by decide) rfl ?_
  intro p e s m args below meth c s₁ B hml hv
  obtain ⟨rfl, hsz, hP, hK⟩ := hv
  subst hsz
  have C : Cx RX12 cX12_noLetters 2 none wsX12_noLetters p s m _ meth c := ⟨B.exec, B.bytes, hml, B.returns, findClass_of_methodNamed B.named, atoms_spec (ws := wsX12_noLetters) B.pre, B.notSynchronized⟩
  have hl := lv_entry ([.ref (ad 0)]) (n := 2) (Nat.le_of_ble_eq_true rfl)
  rw [lg_entry_eq]
  exact wX12_noLetters_0 C hK hJ h hP va_S.rf hl

/-- HissHornModel.goThrough([BIII)V of cell 0 -/
def rmX12_goThrough_0_a2 : Room := { frames := 136, cells := 0, slots := 0, locals := 8380 }
theorem hX12_goThrough_0_a2_X12 : ∀ w ∈ u_ws RX12 TX12 69, w ∈ wsX12_goThrough := fun w h => (List.mem_cons_of_mem _ (List.mem_append_right _ h))
theorem mX12_goThrough_0_a2_1 : Cond.fieldLink RX12 26 "HissHornModel" "text" "[B" ∈ wsX12_goThrough := (List.mem_cons_of_mem _ (List.mem_append_left _ (List.mem_append_left _ (List.mem_of_getElem? (i := 10) rfl))))
theorem mX12_goThrough_0_a2_2 : Cond.fieldLink RX12 179 "HissHornModel" "begins" "I" ∈ wsX12_goThrough := (List.mem_cons_of_mem _ (List.mem_append_left _ (List.mem_append_left _ (List.mem_of_getElem? (i := 11) rfl))))
theorem mX12_goThrough_0_a2_3 : Cond.fieldLink RX12 176 "HissHornModel" "ends" "I" ∈ wsX12_goThrough := (List.mem_cons_of_mem _ (List.mem_append_left _ (List.mem_append_left _ (List.mem_of_getElem? (i := 12) rfl))))
theorem mX12_goThrough_0_a2_4 : Cond.fieldLink RX12 31 "HissHornModel" "allowed" "Ljava/lang/String;" ∈ wsX12_goThrough := (List.mem_cons_of_mem _ (List.mem_append_left _ (List.mem_append_left _ (List.mem_of_getElem? (i := 13) rfl))))
theorem mX12_goThrough_0_a2_5 : Cond.fieldLink RX12 173 "HissHornModel" "at" "I" ∈ wsX12_goThrough := (List.mem_cons_of_mem _ (List.mem_append_left _ (List.mem_append_left _ (List.mem_of_getElem? (i := 14) rfl))))
theorem mX12_goThrough_0_a2_6 : Cond.fieldLink RX12 182 "HissHornModel" "fault" "I" ∈ wsX12_goThrough := (List.mem_cons_of_mem _ (List.mem_append_left _ (List.mem_append_left _ (List.mem_of_getElem? (i := 15) rfl))))
theorem mX12_goThrough_0_a2_7 : Cond.fieldLink RX12 185 "HissHornModel" "deep" "I" ∈ wsX12_goThrough := (List.mem_cons_of_mem _ (List.mem_append_left _ (List.mem_append_left _ (List.mem_of_getElem? (i := 16) rfl))))
theorem mX12_goThrough_0_a2_8 : Cond.fieldLink RX12 253 "HissHornModel" "hasFound" "Z" ∈ wsX12_goThrough := (List.mem_cons_of_mem _ (List.mem_append_left _ (List.mem_append_left _ (List.mem_of_getElem? (i := 17) rfl))))
theorem mX12_goThrough_0_a2_9 : Cond.fieldLink RX12 257 "HissHornModel" "found" "I" ∈ wsX12_goThrough := (List.mem_cons_of_mem _ (List.mem_append_left _ (List.mem_append_left _ (List.mem_of_getElem? (i := 18) rfl))))
def LX12_goThrough_0_a2_73 (k107 : SX → Option (Int32 × SX)) : Nat → SX → Option (Int32 × SX)
  | 0, _ => none
  | n + 1, u => (if (u.1 7) = (-1) then ((fX12_look_0  u).bind fun q => match q with | (r23, u24) => (if r23 = 59 then (lt (sI u24 6 ((u24.1 6) + 1)) fun u26 => ((fX12_clause_0  u26).bind fun q => match q with | (r28, u29) => ((LX12_goThrough_0_a2_73 k107 n) u29))) else (k107 u24))) else (k107 u))
def GX12_goThrough_0_a2_107  (u : SX) : Option (Int32 × SX) := (if (u.1 7) = (-1) then ((fX12_look_0  u).bind fun q => match q with | (r31, u32) => (if r31 = (-1) then (some (0, u32)) else ((fX12_fails_0  u32).bind fun q => match q with | (r34, u35) => (some (0, u35))))) else (some (0, u)))
def GX12_goThrough_0_a2_41  (u : SX) : Option (Int32 × SX) := (lt (sI u 10 7) fun u7 => (lt (sI u7 6 0) fun u9 => (lt (sI u9 7 (-1)) fun u11 => (lt (sI u11 8 0) fun u13 => (gd (isB 0) (lt (sI u13 11 0) fun u16 => (lt (sI u16 9 0) fun u18 => ((fX12_clause_0  u18).bind fun q => match q with | (r20, u21) => (LX12_goThrough_0_a2_73 GX12_goThrough_0_a2_107 5000 u21)))))))))
def GX12_goThrough_0_a2_41a  (u : SX) : Option (Int32 × SX) := (lt (sI u 10 6) fun u37 => (lt (sI u37 6 0) fun u39 => (lt (sI u39 7 (-1)) fun u41 => (lt (sI u41 8 0) fun u43 => (gd (isB 0) (lt (sI u43 11 0) fun u46 => (lt (sI u46 9 0) fun u48 => ((fX12_clause_0  u48).bind fun q => match q with | (r50, u51) => (LX12_goThrough_0_a2_73 GX12_goThrough_0_a2_107 5000 u51)))))))))
def GX12_goThrough_0_a2_41b  (u : SX) : Option (Int32 × SX) := (lt (sI u 10 5) fun u53 => (lt (sI u53 6 0) fun u55 => (lt (sI u55 7 (-1)) fun u57 => (lt (sI u57 8 0) fun u59 => (gd (isB 0) (lt (sI u59 11 0) fun u62 => (lt (sI u62 9 0) fun u64 => ((fX12_clause_0  u64).bind fun q => match q with | (r66, u67) => (LX12_goThrough_0_a2_73 GX12_goThrough_0_a2_107 5000 u67)))))))))
def fX12_goThrough_0_a2 (x2 : Int32) (x3 : Int32) (x4 : Int32) (u : SX) : Option (Int32 × SX) := (lt (sI u 2 3) fun u1 => (lt (sI u1 4 x2) fun u3 => (lt (sI u3 5 x3) fun u5 => (if x4 = 0 then (GX12_goThrough_0_a2_41b u5) else (if x4 = 1 then (GX12_goThrough_0_a2_41a u5) else (GX12_goThrough_0_a2_41 u5))))))
set_option maxHeartbeats 4000000 in
set_option maxRecDepth 100000 in
theorem wLX12_goThrough_0_a2_73 {p : Program} {l : Launch} {e : Env} {s : State} {m : MethodId} {args : Array Value} {below : List Frame} {meth : Method} {c : Code} {D : va_G} {cy : Nat → ClassId} {ad st : Nat → Nat} (C : Cx RX12 cX12_goThrough 5 none wsX12_goThrough p s m args meth c) (hK : Ky D [(cy 0, .int), (cy 1, .long), (cy 2, .boolean), (cy 3, .byte), (cy 4, .object "HissHorn$Text")] st s) (hJ : JM ad st) {r : Int32} {u' : SX} {k107 : SX → Option (Int32 × SX)} (hk107 : ∀  (u : SX) (H : Heap) (locs : List Loc) (ls : Array Slot), k107 u = some (r, u') → va_P D vwCl (VM cy ad st u) H → va_S (Ax (AM ad) s.heap.size) s.heap H locs → lv_has ls 5 [(0, .ref (ad 0))] → W p l e rmX12_goThrough_0_a2 s m args below meth c H locs 0 0 (MQ below (Qv D (VM cy ad st) (AM ad) s.heap.size r u') args s 0 0 (Ax (AM ad) s.heap.size)) (F0 m 107 ls [])) : ∀ (n : Nat) (u : SX) (H : Heap) (locs : List Loc) (ls : Array Slot), LX12_goThrough_0_a2_73 k107 n u = some (r, u') → va_P D vwCl (VM cy ad st u) H → va_S (Ax (AM ad) s.heap.size) s.heap H locs → lv_has ls 5 [(0, .ref (ad 0))] → W p l e rmX12_goThrough_0_a2 s m args below meth c H locs 0 0 (MQ below (Qv D (VM cy ad st) (AM ad) s.heap.size r u') args s 0 0 (Ax (AM ad) s.heap.size)) (F0 m 73 ls []) := by
  intro n
  induction n with
  | zero =>
    intro u H locs ls h
    exact absurd h (by intro q; cases q)
  | succ n ih =>
    intro u H locs ls h hP hS hl
    rw [LX12_goThrough_0_a2_73] at h
    refine lv_aload_n C.1 C.2.1 dX12_goThrough_73 rfl (lv_at hl 0 rfl) ?_
    refine gM_0_fault C hX12_goThrough_0_a2_X12 hK hP mX12_goThrough_0_a2_6 dX12_goThrough_74 ?_
    refine lv_iconst (v := (-1)) C.1 C.2.1 dX12_goThrough_77 (by decide) ?_
    refine lv_icmp_ne (tgt := 107) C.1 C.2.1 dX12_goThrough_78 (by decide) (fun c78 => ?_) (fun c78 => ?_)
    · rw [if_neg c78] at h
      exact hk107 _ _ _ _ h hP hS hl
    · rw [if_pos c78] at h
      refine lv_aload_n C.1 C.2.1 dX12_goThrough_81 rfl (lv_at hl 0 rfl) ?_
      obtain ⟨⟨r23, u24⟩, hc25, h⟩ := bd_some h
      try dsimp only at h
      refine cg_i (As := []) (rest := []) (AM_ge hJ) C hK hP hS (metX12_look_0 l D cy ad st hJ _  hc25) (cwV 0 C.2.2.2.2.2.1 gX12_goThrough_X12_look rfl rfl rfl (by decide +kernel) ⟨(Nat.le_of_ble_eq_true rfl), (Nat.le_of_ble_eq_true rfl)⟩) 0 12 rfl rfl rfl hl.1 rfl (Nat.le_of_ble_eq_true rfl) dX12_goThrough_82 ⟨Nat.zero_le _, Nat.zero_le _⟩ (fun H locs hP hS => ?_)
      refine lv_bipush (v := 59) C.1 C.2.1 dX12_goThrough_85 (by decide) ?_
      refine lv_icmp_ne (tgt := 107) C.1 C.2.1 dX12_goThrough_87 (by decide) (fun c87 => ?_) (fun c87 => ?_)
      · rw [if_neg c87] at h
        exact hk107 _ _ _ _ h hP hS hl
      · rw [if_pos c87] at h
        refine lv_aload_n C.1 C.2.1 dX12_goThrough_90 rfl (lv_at hl 0 rfl) ?_
        refine lv_dup C.1 C.2.1 dX12_goThrough_91 rfl ?_
        refine gM_0_at C hX12_goThrough_0_a2_X12 hK hP mX12_goThrough_0_a2_5 dX12_goThrough_92 ?_
        refine lv_iconst (v := 1) C.1 C.2.1 dX12_goThrough_95 (by decide) ?_
        refine lv_iadd C.1 C.2.1 dX12_goThrough_96 ?_
        refine pM_0_at C hX12_goThrough_0_a2_X12 hK hP hJ hS mX12_goThrough_0_a2_5 dX12_goThrough_97 (fun H locs hP hS => ?_)
        obtain ⟨u26, hu27, h⟩ := lt_some h
        rw [← hu27] at hP
        refine lv_aload_n C.1 C.2.1 dX12_goThrough_100 rfl (lv_at hl 0 rfl) ?_
        obtain ⟨⟨r28, u29⟩, hc30, h⟩ := bd_some h
        try dsimp only at h
        refine cg_v (As := []) (rest := []) (AM_ge hJ) C hK hP hS (metX12_clause_0 l D cy ad st hJ _  hc30) (cwV 0 C.2.2.2.2.2.1 gX12_goThrough_X12_clause rfl rfl rfl (by decide +kernel) ⟨(Nat.le_of_ble_eq_true rfl), (Nat.le_of_ble_eq_true rfl)⟩) 0 12 rfl rfl rfl hl.1 rfl (Nat.le_of_ble_eq_true rfl) dX12_goThrough_101 ⟨Nat.zero_le _, Nat.zero_le _⟩ (fun H locs hP hS => ?_)
        refine lv_goto (tgt := 73) C.1 C.2.1 dX12_goThrough_104 (by decide) ?_
        exact ih _ _ _ _ h hP hS hl
set_option maxHeartbeats 4000000 in
set_option maxRecDepth 100000 in
theorem wGX12_goThrough_0_a2_107 {p : Program} {l : Launch} {e : Env} {s : State} {m : MethodId} {args : Array Value} {below : List Frame} {meth : Method} {c : Code} {D : va_G} {cy : Nat → ClassId} {ad st : Nat → Nat} (C : Cx RX12 cX12_goThrough 5 none wsX12_goThrough p s m args meth c) (hK : Ky D [(cy 0, .int), (cy 1, .long), (cy 2, .boolean), (cy 3, .byte), (cy 4, .object "HissHorn$Text")] st s) (hJ : JM ad st) {r : Int32} {u' : SX}   (u : SX) (H : Heap) (locs : List Loc) (ls : Array Slot) (h : GX12_goThrough_0_a2_107  u = some (r, u')) (hP : va_P D vwCl (VM cy ad st u) H) (hS : va_S (Ax (AM ad) s.heap.size) s.heap H locs) (hl : lv_has ls 5 [(0, .ref (ad 0))]) : W p l e rmX12_goThrough_0_a2 s m args below meth c H locs 0 0 (MQ below (Qv D (VM cy ad st) (AM ad) s.heap.size r u') args s 0 0 (Ax (AM ad) s.heap.size)) (F0 m 107 ls []) := by
  unfold GX12_goThrough_0_a2_107 at h
  refine lv_aload_n C.1 C.2.1 dX12_goThrough_107 rfl (lv_at hl 0 rfl) ?_
  refine gM_0_fault C hX12_goThrough_0_a2_X12 hK hP mX12_goThrough_0_a2_6 dX12_goThrough_108 ?_
  refine lv_iconst (v := (-1)) C.1 C.2.1 dX12_goThrough_111 (by decide) ?_
  refine lv_icmp_ne (tgt := 128) C.1 C.2.1 dX12_goThrough_112 (by decide) (fun c112 => ?_) (fun c112 => ?_)
  · rw [if_neg c112] at h
    cases h
    exact rt_v C hP hS dX12_goThrough_128
  · rw [if_pos c112] at h
    refine lv_aload_n C.1 C.2.1 dX12_goThrough_115 rfl (lv_at hl 0 rfl) ?_
    obtain ⟨⟨r31, u32⟩, hc33, h⟩ := bd_some h
    try dsimp only at h
    refine cg_i (As := []) (rest := []) (AM_ge hJ) C hK hP hS (metX12_look_0 l D cy ad st hJ _  hc33) (cwV 0 C.2.2.2.2.2.1 gX12_goThrough_X12_look rfl rfl rfl (by decide +kernel) ⟨(Nat.le_of_ble_eq_true rfl), (Nat.le_of_ble_eq_true rfl)⟩) 0 12 rfl rfl rfl hl.1 rfl (Nat.le_of_ble_eq_true rfl) dX12_goThrough_116 ⟨Nat.zero_le _, Nat.zero_le _⟩ (fun H locs hP hS => ?_)
    refine lv_iconst (v := (-1)) C.1 C.2.1 dX12_goThrough_119 (by decide) ?_
    refine lv_icmp_eq (tgt := 128) C.1 C.2.1 dX12_goThrough_120 (by decide) (fun c120 => ?_) (fun c120 => ?_)
    · rw [if_pos c120] at h
      cases h
      exact rt_v C hP hS dX12_goThrough_128
    · rw [if_neg c120] at h
      refine lv_aload_n C.1 C.2.1 dX12_goThrough_123 rfl (lv_at hl 0 rfl) ?_
      obtain ⟨⟨r34, u35⟩, hc36, h⟩ := bd_some h
      try dsimp only at h
      refine cg_i (As := []) (rest := []) (AM_ge hJ) C hK hP hS (metX12_fails_0 l D cy ad st hJ _  hc36) (cwV 0 C.2.2.2.2.2.1 gX12_goThrough_X12_fails rfl rfl rfl (by decide +kernel) ⟨(Nat.le_of_ble_eq_true rfl), (Nat.le_of_ble_eq_true rfl)⟩) 0 12 rfl rfl rfl hl.1 rfl (Nat.le_of_ble_eq_true rfl) dX12_goThrough_124 ⟨Nat.zero_le _, Nat.zero_le _⟩ (fun H locs hP hS => ?_)
      refine lv_pop C.1 C.2.1 dX12_goThrough_127 rfl ?_
      cases h
      exact rt_v C hP hS dX12_goThrough_128
set_option maxHeartbeats 4000000 in
set_option maxRecDepth 100000 in
theorem wGX12_goThrough_0_a2_41 {p : Program} {l : Launch} {e : Env} {s : State} {m : MethodId} {args : Array Value} {below : List Frame} {meth : Method} {c : Code} {D : va_G} {cy : Nat → ClassId} {ad st : Nat → Nat} (C : Cx RX12 cX12_goThrough 5 none wsX12_goThrough p s m args meth c) (hK : Ky D [(cy 0, .int), (cy 1, .long), (cy 2, .boolean), (cy 3, .byte), (cy 4, .object "HissHorn$Text")] st s) (hJ : JM ad st) {r : Int32} {u' : SX}   (u : SX) (H : Heap) (locs : List Loc) (ls : Array Slot) (h : GX12_goThrough_0_a2_41  u = some (r, u')) (hP : va_P D vwCl (VM cy ad st u) H) (hS : va_S (Ax (AM ad) s.heap.size) s.heap H locs) (hl : lv_has ls 5 [(0, .ref (ad 0))]) : W p l e rmX12_goThrough_0_a2 s m args below meth c H locs 0 0 (MQ below (Qv D (VM cy ad st) (AM ad) s.heap.size r u') args s 0 0 (Ax (AM ad) s.heap.size)) (F0 m 41 ls [.ref (st 6), .ref (ad 0)]) := by
  unfold GX12_goThrough_0_a2_41 at h
  refine pM_0_allowed_6 C hX12_goThrough_0_a2_X12 hK hP hJ hS mX12_goThrough_0_a2_4 dX12_goThrough_41 (fun H locs hP hS => ?_)
  obtain ⟨u7, hu8, h⟩ := lt_some h
  rw [← hu8] at hP
  refine lv_aload_n C.1 C.2.1 dX12_goThrough_44 rfl (lv_at hl 0 rfl) ?_
  refine lv_iconst (v := 0) C.1 C.2.1 dX12_goThrough_45 (by decide) ?_
  refine pM_0_at C hX12_goThrough_0_a2_X12 hK hP hJ hS mX12_goThrough_0_a2_5 dX12_goThrough_46 (fun H locs hP hS => ?_)
  obtain ⟨u9, hu10, h⟩ := lt_some h
  rw [← hu10] at hP
  refine lv_aload_n C.1 C.2.1 dX12_goThrough_49 rfl (lv_at hl 0 rfl) ?_
  refine lv_iconst (v := (-1)) C.1 C.2.1 dX12_goThrough_50 (by decide) ?_
  refine pM_0_fault C hX12_goThrough_0_a2_X12 hK hP hJ hS mX12_goThrough_0_a2_6 dX12_goThrough_51 (fun H locs hP hS => ?_)
  obtain ⟨u11, hu12, h⟩ := lt_some h
  rw [← hu12] at hP
  refine lv_aload_n C.1 C.2.1 dX12_goThrough_54 rfl (lv_at hl 0 rfl) ?_
  refine lv_iconst (v := 0) C.1 C.2.1 dX12_goThrough_55 (by decide) ?_
  refine pM_0_deep C hX12_goThrough_0_a2_X12 hK hP hJ hS mX12_goThrough_0_a2_7 dX12_goThrough_56 (fun H locs hP hS => ?_)
  obtain ⟨u13, hu14, h⟩ := lt_some h
  rw [← hu14] at hP
  refine lv_aload_n C.1 C.2.1 dX12_goThrough_59 rfl (lv_at hl 0 rfl) ?_
  refine lv_iconst (v := 0) C.1 C.2.1 dX12_goThrough_60 (by decide) ?_
  obtain ⟨hg15, h⟩ := gd_some h
  refine pM_0_hasFound hg15 C hX12_goThrough_0_a2_X12 hK hP hJ hS mX12_goThrough_0_a2_8 dX12_goThrough_61 (fun H locs hP hS => ?_)
  obtain ⟨u16, hu17, h⟩ := lt_some h
  rw [← hu17] at hP
  refine lv_aload_n C.1 C.2.1 dX12_goThrough_64 rfl (lv_at hl 0 rfl) ?_
  refine lv_iconst (v := 0) C.1 C.2.1 dX12_goThrough_65 (by decide) ?_
  refine pM_0_found C hX12_goThrough_0_a2_X12 hK hP hJ hS mX12_goThrough_0_a2_9 dX12_goThrough_66 (fun H locs hP hS => ?_)
  obtain ⟨u18, hu19, h⟩ := lt_some h
  rw [← hu19] at hP
  refine lv_aload_n C.1 C.2.1 dX12_goThrough_69 rfl (lv_at hl 0 rfl) ?_
  obtain ⟨⟨r20, u21⟩, hc22, h⟩ := bd_some h
  try dsimp only at h
  refine cg_v (As := []) (rest := []) (AM_ge hJ) C hK hP hS (metX12_clause_0 l D cy ad st hJ _  hc22) (cwV 0 C.2.2.2.2.2.1 gX12_goThrough_X12_clause rfl rfl rfl (by decide +kernel) ⟨(Nat.le_of_ble_eq_true rfl), (Nat.le_of_ble_eq_true rfl)⟩) 0 12 rfl rfl rfl hl.1 rfl (Nat.le_of_ble_eq_true rfl) dX12_goThrough_70 ⟨Nat.zero_le _, Nat.zero_le _⟩ (fun H locs hP hS => ?_)
  exact wLX12_goThrough_0_a2_73 C hK hJ (wGX12_goThrough_0_a2_107 C hK hJ ) 5000 _ _ _ _ h hP hS hl
set_option maxHeartbeats 4000000 in
set_option maxRecDepth 100000 in
theorem wGX12_goThrough_0_a2_41a {p : Program} {l : Launch} {e : Env} {s : State} {m : MethodId} {args : Array Value} {below : List Frame} {meth : Method} {c : Code} {D : va_G} {cy : Nat → ClassId} {ad st : Nat → Nat} (C : Cx RX12 cX12_goThrough 5 none wsX12_goThrough p s m args meth c) (hK : Ky D [(cy 0, .int), (cy 1, .long), (cy 2, .boolean), (cy 3, .byte), (cy 4, .object "HissHorn$Text")] st s) (hJ : JM ad st) {r : Int32} {u' : SX}   (u : SX) (H : Heap) (locs : List Loc) (ls : Array Slot) (h : GX12_goThrough_0_a2_41a  u = some (r, u')) (hP : va_P D vwCl (VM cy ad st u) H) (hS : va_S (Ax (AM ad) s.heap.size) s.heap H locs) (hl : lv_has ls 5 [(0, .ref (ad 0))]) : W p l e rmX12_goThrough_0_a2 s m args below meth c H locs 0 0 (MQ below (Qv D (VM cy ad st) (AM ad) s.heap.size r u') args s 0 0 (Ax (AM ad) s.heap.size)) (F0 m 41 ls [.ref (st 5), .ref (ad 0)]) := by
  unfold GX12_goThrough_0_a2_41a at h
  refine pM_0_allowed_5 C hX12_goThrough_0_a2_X12 hK hP hJ hS mX12_goThrough_0_a2_4 dX12_goThrough_41 (fun H locs hP hS => ?_)
  obtain ⟨u37, hu38, h⟩ := lt_some h
  rw [← hu38] at hP
  refine lv_aload_n C.1 C.2.1 dX12_goThrough_44 rfl (lv_at hl 0 rfl) ?_
  refine lv_iconst (v := 0) C.1 C.2.1 dX12_goThrough_45 (by decide) ?_
  refine pM_0_at C hX12_goThrough_0_a2_X12 hK hP hJ hS mX12_goThrough_0_a2_5 dX12_goThrough_46 (fun H locs hP hS => ?_)
  obtain ⟨u39, hu40, h⟩ := lt_some h
  rw [← hu40] at hP
  refine lv_aload_n C.1 C.2.1 dX12_goThrough_49 rfl (lv_at hl 0 rfl) ?_
  refine lv_iconst (v := (-1)) C.1 C.2.1 dX12_goThrough_50 (by decide) ?_
  refine pM_0_fault C hX12_goThrough_0_a2_X12 hK hP hJ hS mX12_goThrough_0_a2_6 dX12_goThrough_51 (fun H locs hP hS => ?_)
  obtain ⟨u41, hu42, h⟩ := lt_some h
  rw [← hu42] at hP
  refine lv_aload_n C.1 C.2.1 dX12_goThrough_54 rfl (lv_at hl 0 rfl) ?_
  refine lv_iconst (v := 0) C.1 C.2.1 dX12_goThrough_55 (by decide) ?_
  refine pM_0_deep C hX12_goThrough_0_a2_X12 hK hP hJ hS mX12_goThrough_0_a2_7 dX12_goThrough_56 (fun H locs hP hS => ?_)
  obtain ⟨u43, hu44, h⟩ := lt_some h
  rw [← hu44] at hP
  refine lv_aload_n C.1 C.2.1 dX12_goThrough_59 rfl (lv_at hl 0 rfl) ?_
  refine lv_iconst (v := 0) C.1 C.2.1 dX12_goThrough_60 (by decide) ?_
  obtain ⟨hg45, h⟩ := gd_some h
  refine pM_0_hasFound hg45 C hX12_goThrough_0_a2_X12 hK hP hJ hS mX12_goThrough_0_a2_8 dX12_goThrough_61 (fun H locs hP hS => ?_)
  obtain ⟨u46, hu47, h⟩ := lt_some h
  rw [← hu47] at hP
  refine lv_aload_n C.1 C.2.1 dX12_goThrough_64 rfl (lv_at hl 0 rfl) ?_
  refine lv_iconst (v := 0) C.1 C.2.1 dX12_goThrough_65 (by decide) ?_
  refine pM_0_found C hX12_goThrough_0_a2_X12 hK hP hJ hS mX12_goThrough_0_a2_9 dX12_goThrough_66 (fun H locs hP hS => ?_)
  obtain ⟨u48, hu49, h⟩ := lt_some h
  rw [← hu49] at hP
  refine lv_aload_n C.1 C.2.1 dX12_goThrough_69 rfl (lv_at hl 0 rfl) ?_
  obtain ⟨⟨r50, u51⟩, hc52, h⟩ := bd_some h
  try dsimp only at h
  refine cg_v (As := []) (rest := []) (AM_ge hJ) C hK hP hS (metX12_clause_0 l D cy ad st hJ _  hc52) (cwV 0 C.2.2.2.2.2.1 gX12_goThrough_X12_clause rfl rfl rfl (by decide +kernel) ⟨(Nat.le_of_ble_eq_true rfl), (Nat.le_of_ble_eq_true rfl)⟩) 0 12 rfl rfl rfl hl.1 rfl (Nat.le_of_ble_eq_true rfl) dX12_goThrough_70 ⟨Nat.zero_le _, Nat.zero_le _⟩ (fun H locs hP hS => ?_)
  exact wLX12_goThrough_0_a2_73 C hK hJ (wGX12_goThrough_0_a2_107 C hK hJ ) 5000 _ _ _ _ h hP hS hl
set_option maxHeartbeats 4000000 in
set_option maxRecDepth 100000 in
theorem wGX12_goThrough_0_a2_41b {p : Program} {l : Launch} {e : Env} {s : State} {m : MethodId} {args : Array Value} {below : List Frame} {meth : Method} {c : Code} {D : va_G} {cy : Nat → ClassId} {ad st : Nat → Nat} (C : Cx RX12 cX12_goThrough 5 none wsX12_goThrough p s m args meth c) (hK : Ky D [(cy 0, .int), (cy 1, .long), (cy 2, .boolean), (cy 3, .byte), (cy 4, .object "HissHorn$Text")] st s) (hJ : JM ad st) {r : Int32} {u' : SX}   (u : SX) (H : Heap) (locs : List Loc) (ls : Array Slot) (h : GX12_goThrough_0_a2_41b  u = some (r, u')) (hP : va_P D vwCl (VM cy ad st u) H) (hS : va_S (Ax (AM ad) s.heap.size) s.heap H locs) (hl : lv_has ls 5 [(0, .ref (ad 0))]) : W p l e rmX12_goThrough_0_a2 s m args below meth c H locs 0 0 (MQ below (Qv D (VM cy ad st) (AM ad) s.heap.size r u') args s 0 0 (Ax (AM ad) s.heap.size)) (F0 m 41 ls [.ref (st 4), .ref (ad 0)]) := by
  unfold GX12_goThrough_0_a2_41b at h
  refine pM_0_allowed_4 C hX12_goThrough_0_a2_X12 hK hP hJ hS mX12_goThrough_0_a2_4 dX12_goThrough_41 (fun H locs hP hS => ?_)
  obtain ⟨u53, hu54, h⟩ := lt_some h
  rw [← hu54] at hP
  refine lv_aload_n C.1 C.2.1 dX12_goThrough_44 rfl (lv_at hl 0 rfl) ?_
  refine lv_iconst (v := 0) C.1 C.2.1 dX12_goThrough_45 (by decide) ?_
  refine pM_0_at C hX12_goThrough_0_a2_X12 hK hP hJ hS mX12_goThrough_0_a2_5 dX12_goThrough_46 (fun H locs hP hS => ?_)
  obtain ⟨u55, hu56, h⟩ := lt_some h
  rw [← hu56] at hP
  refine lv_aload_n C.1 C.2.1 dX12_goThrough_49 rfl (lv_at hl 0 rfl) ?_
  refine lv_iconst (v := (-1)) C.1 C.2.1 dX12_goThrough_50 (by decide) ?_
  refine pM_0_fault C hX12_goThrough_0_a2_X12 hK hP hJ hS mX12_goThrough_0_a2_6 dX12_goThrough_51 (fun H locs hP hS => ?_)
  obtain ⟨u57, hu58, h⟩ := lt_some h
  rw [← hu58] at hP
  refine lv_aload_n C.1 C.2.1 dX12_goThrough_54 rfl (lv_at hl 0 rfl) ?_
  refine lv_iconst (v := 0) C.1 C.2.1 dX12_goThrough_55 (by decide) ?_
  refine pM_0_deep C hX12_goThrough_0_a2_X12 hK hP hJ hS mX12_goThrough_0_a2_7 dX12_goThrough_56 (fun H locs hP hS => ?_)
  obtain ⟨u59, hu60, h⟩ := lt_some h
  rw [← hu60] at hP
  refine lv_aload_n C.1 C.2.1 dX12_goThrough_59 rfl (lv_at hl 0 rfl) ?_
  refine lv_iconst (v := 0) C.1 C.2.1 dX12_goThrough_60 (by decide) ?_
  obtain ⟨hg61, h⟩ := gd_some h
  refine pM_0_hasFound hg61 C hX12_goThrough_0_a2_X12 hK hP hJ hS mX12_goThrough_0_a2_8 dX12_goThrough_61 (fun H locs hP hS => ?_)
  obtain ⟨u62, hu63, h⟩ := lt_some h
  rw [← hu63] at hP
  refine lv_aload_n C.1 C.2.1 dX12_goThrough_64 rfl (lv_at hl 0 rfl) ?_
  refine lv_iconst (v := 0) C.1 C.2.1 dX12_goThrough_65 (by decide) ?_
  refine pM_0_found C hX12_goThrough_0_a2_X12 hK hP hJ hS mX12_goThrough_0_a2_9 dX12_goThrough_66 (fun H locs hP hS => ?_)
  obtain ⟨u64, hu65, h⟩ := lt_some h
  rw [← hu65] at hP
  refine lv_aload_n C.1 C.2.1 dX12_goThrough_69 rfl (lv_at hl 0 rfl) ?_
  obtain ⟨⟨r66, u67⟩, hc68, h⟩ := bd_some h
  try dsimp only at h
  refine cg_v (As := []) (rest := []) (AM_ge hJ) C hK hP hS (metX12_clause_0 l D cy ad st hJ _  hc68) (cwV 0 C.2.2.2.2.2.1 gX12_goThrough_X12_clause rfl rfl rfl (by decide +kernel) ⟨(Nat.le_of_ble_eq_true rfl), (Nat.le_of_ble_eq_true rfl)⟩) 0 12 rfl rfl rfl hl.1 rfl (Nat.le_of_ble_eq_true rfl) dX12_goThrough_70 ⟨Nat.zero_le _, Nat.zero_le _⟩ (fun H locs hP hS => ?_)
  exact wLX12_goThrough_0_a2_73 C hK hJ (wGX12_goThrough_0_a2_107 C hK hJ ) 5000 _ _ _ _ h hP hS hl
set_option maxHeartbeats 4000000 in
set_option maxRecDepth 100000 in
theorem wX12_goThrough_0_a2 {p : Program} {l : Launch} {e : Env} {s : State} {m : MethodId} {args : Array Value} {below : List Frame} {meth : Method} {c : Code} {D : va_G} {cy : Nat → ClassId} {ad st : Nat → Nat} (C : Cx RX12 cX12_goThrough 5 none wsX12_goThrough p s m args meth c) (hK : Ky D [(cy 0, .int), (cy 1, .long), (cy 2, .boolean), (cy 3, .byte), (cy 4, .object "HissHorn$Text")] st s) (hJ : JM ad st) (x2 : Int32) (x3 : Int32) (x4 : Int32) {u : SX} {r : Int32} {u' : SX} {H : Heap} {locs : List Loc} {ls : Array Slot} (h : fX12_goThrough_0_a2 x2 x3 x4 u = some (r, u')) (hP : va_P D vwCl (VM cy ad st u) H) (hS : va_S (Ax (AM ad) s.heap.size) s.heap H locs) (hl : lv_has ls 5 [(0, .ref (ad 0)), (1, .ref (ad 2)), (2, .int x2), (3, .int x3), (4, .int x4)]) : W p l e rmX12_goThrough_0_a2 s m args below meth c H locs 0 0 (MQ below (Qv D (VM cy ad st) (AM ad) s.heap.size r u') args s 0 0 (Ax (AM ad) s.heap.size)) (F0 m 0 ls []) := by
  unfold fX12_goThrough_0_a2 at h
  refine lv_aload_n C.1 C.2.1 dX12_goThrough_0 rfl (lv_at hl 0 rfl) ?_
  refine lv_aload_n C.1 C.2.1 dX12_goThrough_1 rfl (lv_at hl 1 rfl) ?_
  refine pM_0_text_2 C hX12_goThrough_0_a2_X12 hK hP hJ hS mX12_goThrough_0_a2_1 dX12_goThrough_2 (fun H locs hP hS => ?_)
  obtain ⟨u1, hu2, h⟩ := lt_some h
  rw [← hu2] at hP
  refine lv_aload_n C.1 C.2.1 dX12_goThrough_5 rfl (lv_at hl 0 rfl) ?_
  refine lv_iload_n C.1 C.2.1 dX12_goThrough_6 rfl (lv_at hl 2 rfl) ?_
  refine pM_0_begins C hX12_goThrough_0_a2_X12 hK hP hJ hS mX12_goThrough_0_a2_2 dX12_goThrough_7 (fun H locs hP hS => ?_)
  obtain ⟨u3, hu4, h⟩ := lt_some h
  rw [← hu4] at hP
  refine lv_aload_n C.1 C.2.1 dX12_goThrough_10 rfl (lv_at hl 0 rfl) ?_
  refine lv_iload_n C.1 C.2.1 dX12_goThrough_11 rfl (lv_at hl 3 rfl) ?_
  refine pM_0_ends C hX12_goThrough_0_a2_X12 hK hP hJ hS mX12_goThrough_0_a2_3 dX12_goThrough_12 (fun H locs hP hS => ?_)
  obtain ⟨u5, hu6, h⟩ := lt_some h
  rw [← hu6] at hP
  refine lv_aload_n C.1 C.2.1 dX12_goThrough_15 rfl (lv_at hl 0 rfl) ?_
  refine lv_iload C.1 C.2.1 dX12_goThrough_16 (lv_at hl 4 rfl) ?_
  refine lv_if_ne (tgt := 26) C.1 C.2.1 dX12_goThrough_18 (by decide) (fun c18 => ?_) (fun c18 => ?_)
  · rw [if_neg c18] at h
    refine lv_iload C.1 C.2.1 dX12_goThrough_26 (lv_at hl 4 rfl) ?_
    refine lv_iconst (v := 1) C.1 C.2.1 dX12_goThrough_28 (by decide) ?_
    refine lv_icmp_ne (tgt := 38) C.1 C.2.1 dX12_goThrough_29 (by decide) (fun c29 => ?_) (fun c29 => ?_)
    · rw [if_neg c29] at h
      refine xx_ldcwS C.1 C.2.1 C.2.2.2.2.1 (hK.2.2.1 (RX12, 262, "ngbkt", 6) (by decide +kernel)) dX12_goThrough_38 ?_
      exact wGX12_goThrough_0_a2_41 C hK hJ _ _ _ _ h hP hS (lv_sub hl [0] rfl)
    · rw [if_pos c29] at h
      refine xx_ldcwS C.1 C.2.1 C.2.2.2.2.1 (hK.2.2.1 (RX12, 260, "la", 5) (by decide +kernel)) dX12_goThrough_32 ?_
      refine lv_goto (tgt := 41) C.1 C.2.1 dX12_goThrough_35 (by decide) ?_
      exact wGX12_goThrough_0_a2_41a C hK hJ _ _ _ _ h hP hS (lv_sub hl [0] rfl)
  · rw [if_pos c18] at h
    refine va_ldcS C.1 C.2.1 C.2.2.2.2.1 (hK.2.2.1 (RX12, 29, "dahewl", 4) (by decide +kernel)) dX12_goThrough_21 ?_
    refine lv_goto (tgt := 41) C.1 C.2.1 dX12_goThrough_23 (by decide) ?_
    exact wGX12_goThrough_0_a2_41b C hK hJ _ _ _ _ h hP hS (lv_sub hl [0] rfl)
theorem metX12_goThrough_0_a2 (l : Launch) (D : va_G) (cy : Nat → ClassId) (ad st : Nat → Nat) (hJ : JM ad st) (sz : Nat) (x2 : Int32) (x3 : Int32) (x4 : Int32) {u : SX} {r : Int32} {u' : SX} (h : fX12_goThrough_0_a2 x2 x3 x4 u = some (r, u')) : Met l yX12_goThrough wsX12_goThrough rmX12_goThrough_0_a2 (va_Pc [.ref (ad 0), .ref (ad 2), .int x2, .int x3, .int x4] (Px D [(cy 0, .int), (cy 1, .long), (cy 2, .boolean), (cy 3, .byte), (cy 4, .object "HissHorn$Text")] st (VM cy ad st) sz u)) (Qv D (VM cy ad st) (AM ad) sz r u') 0 0 (Ax (AM ad) sz) := by
  refine Met.ofW (cc := cX12_goThrough) (maxL := 5) (ret := none) (by decide) rfl ?_
  intro p e s m args below meth c s₁ B hml hv
  obtain ⟨rfl, hsz, hP, hK⟩ := hv
  subst hsz
  have C : Cx RX12 cX12_goThrough 5 none wsX12_goThrough p s m _ meth c := ⟨B.exec, B.bytes, hml, B.returns, findClass_of_methodNamed B.named, atoms_spec (ws := wsX12_goThrough) B.pre, B.notSynchronized⟩
  have hl := lv_entry ([.ref (ad 0), .ref (ad 2), .int x2, .int x3, .int x4]) (n := 5) (Nat.le_of_ble_eq_true rfl)
  rw [lg_entry_eq]
  exact wX12_goThrough_0_a2 C hK hJ x2 x3 x4 h hP va_S.rf hl

theorem zdX12_worthOf_0 : (and (and (and (and (and (zk cX12_worthOf 0 (.bipush 12) 2) (zk cX12_worthOf 2 (.iload_n 1) 1)) (zk cX12_worthOf 3 (.imul) 1)) (and (and (zk cX12_worthOf 4 (.iload_n 2) 1) (zk cX12_worthOf 5 (.iadd) 1)) (zk cX12_worthOf 6 (.istore_n 3) 1))) (and (and (and (zk cX12_worthOf 7 (.aload_n 0) 1) (zk cX12_worthOf 8 (.aload_n 0) 1)) (zk cX12_worthOf 9 (.getfield 13) 3)) (and (zk cX12_worthOf 12 (.bipush 120) 2) (zk cX12_worthOf 14 (.iload_n 3) 1)))) (and (and (and (and (zk cX12_worthOf 15 (.imul) 1) (zk cX12_worthOf 16 (.aload_n 0) 1)) (zk cX12_worthOf 17 (.getfield 16) 3)) (and (zk cX12_worthOf 20 (.iload_n 3) 1) (zk cX12_worthOf 21 (.iaload) 1))) (and (and (and (zk cX12_worthOf 22 (.iload_n 1) 1) (zk cX12_worthOf 23 (.invokevirtual 267) 3)) (zk cX12_worthOf 26 (.aload_n 0) 1)) (and (zk cX12_worthOf 27 (.getfield 257) 3) (zk cX12_worthOf 30 (.ireturn) 1))))) = true := by decide +kernel
theorem dX12_worthOf_0 : decode cX12_worthOf 0 = .ok (.bipush 12, 2) := zk_of (zk_l (zk_l (zk_l (zk_l (zk_l zdX12_worthOf_0)))))
theorem dX12_worthOf_2 : decode cX12_worthOf 2 = .ok (.iload_n 1, 1) := zk_of (zk_r (zk_l (zk_l (zk_l (zk_l zdX12_worthOf_0)))))
theorem dX12_worthOf_3 : decode cX12_worthOf 3 = .ok (.imul, 1) := zk_of (zk_r (zk_l (zk_l (zk_l zdX12_worthOf_0))))
theorem dX12_worthOf_4 : decode cX12_worthOf 4 = .ok (.iload_n 2, 1) := zk_of (zk_l (zk_l (zk_r (zk_l (zk_l zdX12_worthOf_0)))))
theorem dX12_worthOf_5 : decode cX12_worthOf 5 = .ok (.iadd, 1) := zk_of (zk_r (zk_l (zk_r (zk_l (zk_l zdX12_worthOf_0)))))
theorem dX12_worthOf_6 : decode cX12_worthOf 6 = .ok (.istore_n 3, 1) := zk_of (zk_r (zk_r (zk_l (zk_l zdX12_worthOf_0))))
theorem dX12_worthOf_7 : decode cX12_worthOf 7 = .ok (.aload_n 0, 1) := zk_of (zk_l (zk_l (zk_l (zk_r (zk_l zdX12_worthOf_0)))))
theorem dX12_worthOf_8 : decode cX12_worthOf 8 = .ok (.aload_n 0, 1) := zk_of (zk_r (zk_l (zk_l (zk_r (zk_l zdX12_worthOf_0)))))
theorem dX12_worthOf_9 : decode cX12_worthOf 9 = .ok (.getfield 13, 3) := zk_of (zk_r (zk_l (zk_r (zk_l zdX12_worthOf_0))))
theorem dX12_worthOf_12 : decode cX12_worthOf 12 = .ok (.bipush 120, 2) := zk_of (zk_l (zk_r (zk_r (zk_l zdX12_worthOf_0))))
theorem dX12_worthOf_14 : decode cX12_worthOf 14 = .ok (.iload_n 3, 1) := zk_of (zk_r (zk_r (zk_r (zk_l zdX12_worthOf_0))))
theorem dX12_worthOf_15 : decode cX12_worthOf 15 = .ok (.imul, 1) := zk_of (zk_l (zk_l (zk_l (zk_l (zk_r zdX12_worthOf_0)))))
theorem dX12_worthOf_16 : decode cX12_worthOf 16 = .ok (.aload_n 0, 1) := zk_of (zk_r (zk_l (zk_l (zk_l (zk_r zdX12_worthOf_0)))))
theorem dX12_worthOf_17 : decode cX12_worthOf 17 = .ok (.getfield 16, 3) := zk_of (zk_r (zk_l (zk_l (zk_r zdX12_worthOf_0))))
theorem dX12_worthOf_20 : decode cX12_worthOf 20 = .ok (.iload_n 3, 1) := zk_of (zk_l (zk_r (zk_l (zk_r zdX12_worthOf_0))))
theorem dX12_worthOf_21 : decode cX12_worthOf 21 = .ok (.iaload, 1) := zk_of (zk_r (zk_r (zk_l (zk_r zdX12_worthOf_0))))
theorem dX12_worthOf_22 : decode cX12_worthOf 22 = .ok (.iload_n 1, 1) := zk_of (zk_l (zk_l (zk_l (zk_r (zk_r zdX12_worthOf_0)))))
theorem dX12_worthOf_23 : decode cX12_worthOf 23 = .ok (.invokevirtual 267, 3) := zk_of (zk_r (zk_l (zk_l (zk_r (zk_r zdX12_worthOf_0)))))
theorem dX12_worthOf_26 : decode cX12_worthOf 26 = .ok (.aload_n 0, 1) := zk_of (zk_r (zk_l (zk_r (zk_r zdX12_worthOf_0))))
theorem dX12_worthOf_27 : decode cX12_worthOf 27 = .ok (.getfield 257, 3) := zk_of (zk_l (zk_r (zk_r (zk_r zdX12_worthOf_0))))
theorem dX12_worthOf_30 : decode cX12_worthOf 30 = .ok (.ireturn, 1) := zk_of (zk_r (zk_r (zk_r (zk_r zdX12_worthOf_0))))
set_option maxRecDepth 20000 in
theorem ggX12_worthOf_X12_goThrough : GoodIn wsX12_worthOf wsX12_goThrough := ggi (fun w h => List.mem_cons_of_mem _ (List.mem_append_left _ (List.mem_append_right _ h))) gs_X12_goThrough
set_option maxRecDepth 20000 in
theorem gX12_worthOf_X12_goThrough : GoodIn wsX12_worthOf (wsV RX12 267 RX12 yX12_goThrough wsX12_goThrough) := goodIn_app (goodIn_of _ (by decide +kernel)) ggX12_worthOf_X12_goThrough
/-- HissHornModel.worthOf(II)I of cell 0 -/
def rmX12_worthOf_0 : Room := { frames := 137, cells := 0, slots := 0, locals := 8404 }
theorem hX12_worthOf_0_X12 : ∀ w ∈ u_ws RX12 TX12 69, w ∈ wsX12_worthOf := fun w h => (List.mem_cons_of_mem _ (List.mem_append_right _ h))
theorem mX12_worthOf_0_1 : Cond.fieldLink RX12 13 "HissHornModel" "texts" "[B" ∈ wsX12_worthOf := (List.mem_cons_of_mem _ (List.mem_append_left _ (List.mem_append_left _ (List.mem_of_getElem? (i := 4) rfl))))
theorem mX12_worthOf_0_2 : Cond.fieldLink RX12 16 "HissHornModel" "textLong" "[I" ∈ wsX12_worthOf := (List.mem_cons_of_mem _ (List.mem_append_left _ (List.mem_append_left _ (List.mem_of_getElem? (i := 5) rfl))))
theorem mX12_worthOf_0_3 : Cond.fieldLink RX12 257 "HissHornModel" "found" "I" ∈ wsX12_worthOf := (List.mem_cons_of_mem _ (List.mem_append_left _ (List.mem_append_left _ (List.mem_of_getElem? (i := 6) rfl))))
def fX12_worthOf_0 (x1 : Int32) (x2 : Int32) (u : SX) : Option (Int32 × SX) := (lt ((12 * x1) + x2) fun v1 => (gd (inb v1 36) ((fX12_goThrough_0_a2 (120 * v1) (u.2.1 3 v1.toNatClampNeg) x1 u).bind fun q => match q with | (r4, u5) => (some (u5.1 9, u5)))))
set_option maxHeartbeats 4000000 in
set_option maxRecDepth 100000 in
theorem wX12_worthOf_0 {p : Program} {l : Launch} {e : Env} {s : State} {m : MethodId} {args : Array Value} {below : List Frame} {meth : Method} {c : Code} {D : va_G} {cy : Nat → ClassId} {ad st : Nat → Nat} (C : Cx RX12 cX12_worthOf 4 (some .int) wsX12_worthOf p s m args meth c) (hK : Ky D [(cy 0, .int), (cy 1, .long), (cy 2, .boolean), (cy 3, .byte), (cy 4, .object "HissHorn$Text")] st s) (hJ : JM ad st) (x1 : Int32) (x2 : Int32) {u : SX} {r : Int32} {u' : SX} {H : Heap} {locs : List Loc} {ls : Array Slot} (h : fX12_worthOf_0 x1 x2 u = some (r, u')) (hP : va_P D vwCl (VM cy ad st u) H) (hS : va_S (Ax (AM ad) s.heap.size) s.heap H locs) (hl : lv_has ls 4 [(0, .ref (ad 0)), (1, .int x1), (2, .int x2)]) : W p l e rmX12_worthOf_0 s m args below meth c H locs 0 0 (MQ below (Qi D (VM cy ad st) (AM ad) s.heap.size r u') args s 0 0 (Ax (AM ad) s.heap.size)) (F0 m 0 ls []) := by
  unfold fX12_worthOf_0 at h
  refine lv_bipush (v := 12) C.1 C.2.1 dX12_worthOf_0 (by decide) ?_
  refine lv_iload_n C.1 C.2.1 dX12_worthOf_2 rfl (lv_at hl 1 rfl) ?_
  refine lv_imul C.1 C.2.1 dX12_worthOf_3 ?_
  refine lv_iload_n C.1 C.2.1 dX12_worthOf_4 rfl (lv_at hl 2 rfl) ?_
  refine lv_iadd C.1 C.2.1 dX12_worthOf_5 ?_
  refine lv_topi (fun v1 hv2 => ?_)
  replace h := lt_e hv2 h
  try dsimp only at h
  refine lv_istore_n (lv' := [(3, .int v1), (0, .ref (ad 0)), (1, .int x1), (2, .int x2)]) C.1 C.2.1 dX12_worthOf_6 rfl hl (by decide) rfl (fun ls hl => ?_)
  replace hl := lv_sub (l' := [(0, .ref (ad 0)), (1, .int x1), (2, .int x2), (3, .int v1)]) hl [1, 2, 3, 0] rfl
  refine lv_aload_n C.1 C.2.1 dX12_worthOf_7 rfl (lv_at hl 0 rfl) ?_
  refine lv_aload_n C.1 C.2.1 dX12_worthOf_8 rfl (lv_at hl 0 rfl) ?_
  refine gM_0_texts C hX12_worthOf_0_X12 hK hP mX12_worthOf_0_1 dX12_worthOf_9 ?_
  refine lv_bipush (v := 120) C.1 C.2.1 dX12_worthOf_12 (by decide) ?_
  refine lv_iload_n C.1 C.2.1 dX12_worthOf_14 rfl (lv_at hl 3 rfl) ?_
  refine lv_imul C.1 C.2.1 dX12_worthOf_15 ?_
  refine lv_aload_n C.1 C.2.1 dX12_worthOf_16 rfl (lv_at hl 0 rfl) ?_
  refine gM_0_textLong C hX12_worthOf_0_X12 hK hP mX12_worthOf_0_2 dX12_worthOf_17 ?_
  refine lv_iload_n C.1 C.2.1 dX12_worthOf_20 rfl (lv_at hl 3 rfl) ?_
  obtain ⟨hg3, h⟩ := gd_some h
  refine lM_3 C hK hP hg3 dX12_worthOf_21 ?_
  refine lv_iload_n C.1 C.2.1 dX12_worthOf_22 rfl (lv_at hl 1 rfl) ?_
  obtain ⟨⟨r4, u5⟩, hc6, h⟩ := bd_some h
  try dsimp only at h
  refine cg_v (As := [.ref (ad 2), .int (120 * v1), .int (u.2.1 3 v1.toNatClampNeg), .int x1]) (rest := []) (AM_ge hJ) C hK hP hS (metX12_goThrough_0_a2 l D cy ad st hJ _ (120 * v1) (u.2.1 3 v1.toNatClampNeg) x1 hc6) (cwV 4 C.2.2.2.2.2.1 gX12_worthOf_X12_goThrough rfl rfl rfl (by decide +kernel) ⟨(Nat.le_of_ble_eq_true rfl), (Nat.le_of_ble_eq_true rfl)⟩) 0 12 rfl rfl rfl hl.1 rfl (Nat.le_of_ble_eq_true rfl) dX12_worthOf_23 ⟨Nat.zero_le _, Nat.zero_le _⟩ (fun H locs hP hS => ?_)
  refine lv_aload_n C.1 C.2.1 dX12_worthOf_26 rfl (lv_at hl 0 rfl) ?_
  refine gM_0_found C hX12_worthOf_0_X12 hK hP mX12_worthOf_0_3 dX12_worthOf_27 ?_
  cases h
  exact rt_i C hP hS dX12_worthOf_30
theorem metX12_worthOf_0 (l : Launch) (D : va_G) (cy : Nat → ClassId) (ad st : Nat → Nat) (hJ : JM ad st) (sz : Nat) (x1 : Int32) (x2 : Int32) {u : SX} {r : Int32} {u' : SX} (h : fX12_worthOf_0 x1 x2 u = some (r, u')) : Met l yX12_worthOf wsX12_worthOf rmX12_worthOf_0 (va_Pc [.ref (ad 0), .int x1, .int x2] (Px D [(cy 0, .int), (cy 1, .long), (cy 2, .boolean), (cy 3, .byte), (cy 4, .object "HissHorn$Text")] st (VM cy ad st) sz u)) (Qi D (VM cy ad st) (AM ad) sz r u') 0 0 (Ax (AM ad) sz) := by
  refine Met.ofW (cc := cX12_worthOf) (maxL := 4) (ret := (some .int)) (by decide) rfl ?_
  intro p e s m args below meth c s₁ B hml hv
  obtain ⟨rfl, hsz, hP, hK⟩ := hv
  subst hsz
  have C : Cx RX12 cX12_worthOf 4 (some .int) wsX12_worthOf p s m _ meth c := ⟨B.exec, B.bytes, hml, B.returns, findClass_of_methodNamed B.named, atoms_spec (ws := wsX12_worthOf) B.pre, B.notSynchronized⟩
  have hl := lv_entry ([.ref (ad 0), .int x1, .int x2]) (n := 4) (Nat.le_of_ble_eq_true rfl)
  rw [lg_entry_eq]
  exact wX12_worthOf_0 C hK hJ x1 x2 h hP va_S.rf hl

theorem zdX12_isAim_0 : (and (and (and (and (and (zk cX12_isAim 0 (.iload_n 0) 1) (zk cX12_isAim 1 (.iconst 0) 1)) (and (zk cX12_isAim 2 (.bipush 15) 2) (zk cX12_isAim 4 (.invokestatic 155) 3))) (and (and (zk cX12_isAim 7 (.ifCond .eq 48) 3) (zk cX12_isAim 55 (.iconst 0) 1)) (and (zk cX12_isAim 56 (.ireturn) 1) (zk cX12_isAim 10 (.iload_n 1) 1)))) (and (and (and (zk cX12_isAim 11 (.iconst 0) 1) (zk cX12_isAim 12 (.bipush 9) 2)) (and (zk cX12_isAim 14 (.invokestatic 155) 3) (zk cX12_isAim 17 (.ifCond .eq 38) 3))) (and (and (zk cX12_isAim 20 (.iload_n 2) 1) (zk cX12_isAim 21 (.iconst 0) 1)) (zk cX12_isAim 22 (.bipush 23) 2)))) (and (and (and (and (zk cX12_isAim 24 (.invokestatic 155) 3) (zk cX12_isAim 27 (.ifCond .eq 28) 3)) (and (zk cX12_isAim 30 (.iload_n 3) 1) (zk cX12_isAim 31 (.iconst 0) 1))) (and (and (zk cX12_isAim 32 (.bipush 9) 2) (zk cX12_isAim 34 (.invokestatic 155) 3)) (zk cX12_isAim 37 (.ifCond .eq 18) 3))) (and (and (and (zk cX12_isAim 40 (.iload 4) 2) (zk cX12_isAim 42 (.iconst 1) 1)) (and (zk cX12_isAim 43 (.bipush 40) 2) (zk cX12_isAim 45 (.invokestatic 155) 3))) (and (and (zk cX12_isAim 48 (.ifCond .eq 7) 3) (zk cX12_isAim 51 (.iconst 1) 1)) (zk cX12_isAim 52 (.goto 4) 3))))) = true := by decide +kernel
theorem dX12_isAim_0 : decode cX12_isAim 0 = .ok (.iload_n 0, 1) := zk_of (zk_l (zk_l (zk_l (zk_l (zk_l zdX12_isAim_0)))))
theorem dX12_isAim_1 : decode cX12_isAim 1 = .ok (.iconst 0, 1) := zk_of (zk_r (zk_l (zk_l (zk_l (zk_l zdX12_isAim_0)))))
theorem dX12_isAim_2 : decode cX12_isAim 2 = .ok (.bipush 15, 2) := zk_of (zk_l (zk_r (zk_l (zk_l (zk_l zdX12_isAim_0)))))
theorem dX12_isAim_4 : decode cX12_isAim 4 = .ok (.invokestatic 155, 3) := zk_of (zk_r (zk_r (zk_l (zk_l (zk_l zdX12_isAim_0)))))
theorem dX12_isAim_7 : decode cX12_isAim 7 = .ok (.ifCond .eq 48, 3) := zk_of (zk_l (zk_l (zk_r (zk_l (zk_l zdX12_isAim_0)))))
theorem dX12_isAim_55 : decode cX12_isAim 55 = .ok (.iconst 0, 1) := zk_of (zk_r (zk_l (zk_r (zk_l (zk_l zdX12_isAim_0)))))
theorem dX12_isAim_56 : decode cX12_isAim 56 = .ok (.ireturn, 1) := zk_of (zk_l (zk_r (zk_r (zk_l (zk_l zdX12_isAim_0)))))
theorem dX12_isAim_10 : decode cX12_isAim 10 = .ok (.iload_n 1, 1) := zk_of (zk_r (zk_r (zk_r (zk_l (zk_l zdX12_isAim_0)))))
theorem dX12_isAim_11 : decode cX12_isAim 11 = .ok (.iconst 0, 1) := zk_of (zk_l (zk_l (zk_l (zk_r (zk_l zdX12_isAim_0)))))
theorem dX12_isAim_12 : decode cX12_isAim 12 = .ok (.bipush 9, 2) := zk_of (zk_r (zk_l (zk_l (zk_r (zk_l zdX12_isAim_0)))))
theorem dX12_isAim_14 : decode cX12_isAim 14 = .ok (.invokestatic 155, 3) := zk_of (zk_l (zk_r (zk_l (zk_r (zk_l zdX12_isAim_0)))))
theorem dX12_isAim_17 : decode cX12_isAim 17 = .ok (.ifCond .eq 38, 3) := zk_of (zk_r (zk_r (zk_l (zk_r (zk_l zdX12_isAim_0)))))
theorem dX12_isAim_20 : decode cX12_isAim 20 = .ok (.iload_n 2, 1) := zk_of (zk_l (zk_l (zk_r (zk_r (zk_l zdX12_isAim_0)))))
theorem dX12_isAim_21 : decode cX12_isAim 21 = .ok (.iconst 0, 1) := zk_of (zk_r (zk_l (zk_r (zk_r (zk_l zdX12_isAim_0)))))
theorem dX12_isAim_22 : decode cX12_isAim 22 = .ok (.bipush 23, 2) := zk_of (zk_r (zk_r (zk_r (zk_l zdX12_isAim_0))))
theorem dX12_isAim_24 : decode cX12_isAim 24 = .ok (.invokestatic 155, 3) := zk_of (zk_l (zk_l (zk_l (zk_l (zk_r zdX12_isAim_0)))))
theorem dX12_isAim_27 : decode cX12_isAim 27 = .ok (.ifCond .eq 28, 3) := zk_of (zk_r (zk_l (zk_l (zk_l (zk_r zdX12_isAim_0)))))
theorem dX12_isAim_30 : decode cX12_isAim 30 = .ok (.iload_n 3, 1) := zk_of (zk_l (zk_r (zk_l (zk_l (zk_r zdX12_isAim_0)))))
theorem dX12_isAim_31 : decode cX12_isAim 31 = .ok (.iconst 0, 1) := zk_of (zk_r (zk_r (zk_l (zk_l (zk_r zdX12_isAim_0)))))
theorem dX12_isAim_32 : decode cX12_isAim 32 = .ok (.bipush 9, 2) := zk_of (zk_l (zk_l (zk_r (zk_l (zk_r zdX12_isAim_0)))))
theorem dX12_isAim_34 : decode cX12_isAim 34 = .ok (.invokestatic 155, 3) := zk_of (zk_r (zk_l (zk_r (zk_l (zk_r zdX12_isAim_0)))))
theorem dX12_isAim_37 : decode cX12_isAim 37 = .ok (.ifCond .eq 18, 3) := zk_of (zk_r (zk_r (zk_l (zk_r zdX12_isAim_0))))
theorem dX12_isAim_40 : decode cX12_isAim 40 = .ok (.iload 4, 2) := zk_of (zk_l (zk_l (zk_l (zk_r (zk_r zdX12_isAim_0)))))
theorem dX12_isAim_42 : decode cX12_isAim 42 = .ok (.iconst 1, 1) := zk_of (zk_r (zk_l (zk_l (zk_r (zk_r zdX12_isAim_0)))))
theorem dX12_isAim_43 : decode cX12_isAim 43 = .ok (.bipush 40, 2) := zk_of (zk_l (zk_r (zk_l (zk_r (zk_r zdX12_isAim_0)))))
theorem dX12_isAim_45 : decode cX12_isAim 45 = .ok (.invokestatic 155, 3) := zk_of (zk_r (zk_r (zk_l (zk_r (zk_r zdX12_isAim_0)))))
theorem dX12_isAim_48 : decode cX12_isAim 48 = .ok (.ifCond .eq 7, 3) := zk_of (zk_l (zk_l (zk_r (zk_r (zk_r zdX12_isAim_0)))))
theorem dX12_isAim_51 : decode cX12_isAim 51 = .ok (.iconst 1, 1) := zk_of (zk_r (zk_l (zk_r (zk_r (zk_r zdX12_isAim_0)))))
theorem dX12_isAim_52 : decode cX12_isAim 52 = .ok (.goto 4, 3) := zk_of (zk_r (zk_r (zk_r (zk_r zdX12_isAim_0))))
set_option maxRecDepth 20000 in
theorem ggX12_isAim_X12_isIn : GoodIn wsX12_isAim wsX12_isIn := ggi (fun w h => List.mem_cons_of_mem _ (List.mem_append_right _ h)) gs_X12_isIn
set_option maxRecDepth 20000 in
theorem gX12_isAim_X12_isIn : GoodIn wsX12_isAim (va_wsS RX12 155 yX12_isIn wsX12_isIn) := goodIn_app (goodIn_of _ (by decide +kernel)) ggX12_isAim_X12_isIn
/-- HissHornModel.isAim(IIIII)Z -/
def rmX12_isAim : Room := { frames := 1, cells := 0, slots := 0, locals := 22 }
def fX12_isAim (x0 : Int32) (x1 : Int32) (x2 : Int32) (x3 : Int32) (x4 : Int32) : Option Int32 := ((fX12_isIn x0 0 15).bind fun r1 => (if r1 = 0 then (gd (isB 0) (some 0)) else ((fX12_isIn x1 0 9).bind fun r5 => (if r5 = 0 then (gd (isB 0) (some 0)) else ((fX12_isIn x2 0 23).bind fun r9 => (if r9 = 0 then (gd (isB 0) (some 0)) else ((fX12_isIn x3 0 9).bind fun r13 => (if r13 = 0 then (gd (isB 0) (some 0)) else ((fX12_isIn x4 1 40).bind fun r17 => (if r17 = 0 then (gd (isB 0) (some 0)) else (gd (isB 1) (some 1))))))))))))
set_option maxHeartbeats 4000000 in
set_option maxRecDepth 100000 in
theorem wX12_isAim {p : Program} {l : Launch} {e : Env} {s : State} {m : MethodId} {args : Array Value} {below : List Frame} {meth : Method} {c : Code} {D : va_G} {cy : Nat → ClassId} {st : Nat → Nat} (C : Cx RX12 cX12_isAim 5 (some .boolean) wsX12_isAim p s m args meth c) (hK : Ky D [(cy 0, .int), (cy 1, .long), (cy 2, .boolean), (cy 3, .byte), (cy 4, .object "HissHorn$Text")] st s) (x0 : Int32) (x1 : Int32) (x2 : Int32) (x3 : Int32) (x4 : Int32) {r : Int32} {H : Heap} {locs : List Loc} {ls : Array Slot} (h : fX12_isAim x0 x1 x2 x3 x4 = some r) (hP : va_P D vwCl (V0 u00) H) (hS : va_S (Ax (A0) s.heap.size) s.heap H locs) (hl : lv_has ls 5 [(0, .int x0), (1, .int x1), (2, .int x2), (3, .int x3), (4, .int x4)]) : W p l e rmX12_isAim s m args below meth c H locs 0 0 (MQ below (Qi D (V0) (A0) s.heap.size r u00) args s 0 0 (Ax (A0) s.heap.size)) (F0 m 0 ls []) := by
  unfold fX12_isAim at h
  refine lv_iload_n C.1 C.2.1 dX12_isAim_0 rfl (lv_at hl 0 rfl) ?_
  refine lv_iconst (v := 0) C.1 C.2.1 dX12_isAim_1 (by decide) ?_
  refine lv_bipush (v := 15) C.1 C.2.1 dX12_isAim_2 (by decide) ?_
  obtain ⟨r1, hc3, h⟩ := bd_some h
  refine cs_i (As := [.int x0, .int 0, .int 15]) (rest := []) A0_ge C hK hP hS (metX12_isIn l D cy st _ x0 0 15 hc3) (va_cwS 3 C.2.2.2.2.2.1 gX12_isAim_X12_isIn rfl rfl rfl (by decide +kernel) ⟨(Nat.le_of_ble_eq_true rfl), (Nat.le_of_ble_eq_true rfl)⟩) rfl hl.1 rfl (Nat.le_of_ble_eq_true rfl) dX12_isAim_4 ⟨Nat.zero_le _, Nat.zero_le _⟩ (fun H locs hP hS => ?_)
  refine lv_if_eq (tgt := 55) C.1 C.2.1 dX12_isAim_7 (by decide) (fun c7 => ?_) (fun c7 => ?_)
  · rw [if_pos c7] at h
    refine lv_iconst (v := 0) C.1 C.2.1 dX12_isAim_55 (by decide) ?_
    obtain ⟨hg4, h⟩ := gd_some h
    cases h
    exact rt_z hg4 C hP hS dX12_isAim_56
  · rw [if_neg c7] at h
    refine lv_iload_n C.1 C.2.1 dX12_isAim_10 rfl (lv_at hl 1 rfl) ?_
    refine lv_iconst (v := 0) C.1 C.2.1 dX12_isAim_11 (by decide) ?_
    refine lv_bipush (v := 9) C.1 C.2.1 dX12_isAim_12 (by decide) ?_
    obtain ⟨r5, hc7, h⟩ := bd_some h
    refine cs_i (As := [.int x1, .int 0, .int 9]) (rest := []) A0_ge C hK hP hS (metX12_isIn l D cy st _ x1 0 9 hc7) (va_cwS 3 C.2.2.2.2.2.1 gX12_isAim_X12_isIn rfl rfl rfl (by decide +kernel) ⟨(Nat.le_of_ble_eq_true rfl), (Nat.le_of_ble_eq_true rfl)⟩) rfl hl.1 rfl (Nat.le_of_ble_eq_true rfl) dX12_isAim_14 ⟨Nat.zero_le _, Nat.zero_le _⟩ (fun H locs hP hS => ?_)
    refine lv_if_eq (tgt := 55) C.1 C.2.1 dX12_isAim_17 (by decide) (fun c17 => ?_) (fun c17 => ?_)
    · rw [if_pos c17] at h
      refine lv_iconst (v := 0) C.1 C.2.1 dX12_isAim_55 (by decide) ?_
      obtain ⟨hg8, h⟩ := gd_some h
      cases h
      exact rt_z hg8 C hP hS dX12_isAim_56
    · rw [if_neg c17] at h
      refine lv_iload_n C.1 C.2.1 dX12_isAim_20 rfl (lv_at hl 2 rfl) ?_
      refine lv_iconst (v := 0) C.1 C.2.1 dX12_isAim_21 (by decide) ?_
      refine lv_bipush (v := 23) C.1 C.2.1 dX12_isAim_22 (by decide) ?_
      obtain ⟨r9, hc11, h⟩ := bd_some h
      refine cs_i (As := [.int x2, .int 0, .int 23]) (rest := []) A0_ge C hK hP hS (metX12_isIn l D cy st _ x2 0 23 hc11) (va_cwS 3 C.2.2.2.2.2.1 gX12_isAim_X12_isIn rfl rfl rfl (by decide +kernel) ⟨(Nat.le_of_ble_eq_true rfl), (Nat.le_of_ble_eq_true rfl)⟩) rfl hl.1 rfl (Nat.le_of_ble_eq_true rfl) dX12_isAim_24 ⟨Nat.zero_le _, Nat.zero_le _⟩ (fun H locs hP hS => ?_)
      refine lv_if_eq (tgt := 55) C.1 C.2.1 dX12_isAim_27 (by decide) (fun c27 => ?_) (fun c27 => ?_)
      · rw [if_pos c27] at h
        refine lv_iconst (v := 0) C.1 C.2.1 dX12_isAim_55 (by decide) ?_
        obtain ⟨hg12, h⟩ := gd_some h
        cases h
        exact rt_z hg12 C hP hS dX12_isAim_56
      · rw [if_neg c27] at h
        refine lv_iload_n C.1 C.2.1 dX12_isAim_30 rfl (lv_at hl 3 rfl) ?_
        refine lv_iconst (v := 0) C.1 C.2.1 dX12_isAim_31 (by decide) ?_
        refine lv_bipush (v := 9) C.1 C.2.1 dX12_isAim_32 (by decide) ?_
        obtain ⟨r13, hc15, h⟩ := bd_some h
        refine cs_i (As := [.int x3, .int 0, .int 9]) (rest := []) A0_ge C hK hP hS (metX12_isIn l D cy st _ x3 0 9 hc15) (va_cwS 3 C.2.2.2.2.2.1 gX12_isAim_X12_isIn rfl rfl rfl (by decide +kernel) ⟨(Nat.le_of_ble_eq_true rfl), (Nat.le_of_ble_eq_true rfl)⟩) rfl hl.1 rfl (Nat.le_of_ble_eq_true rfl) dX12_isAim_34 ⟨Nat.zero_le _, Nat.zero_le _⟩ (fun H locs hP hS => ?_)
        refine lv_if_eq (tgt := 55) C.1 C.2.1 dX12_isAim_37 (by decide) (fun c37 => ?_) (fun c37 => ?_)
        · rw [if_pos c37] at h
          refine lv_iconst (v := 0) C.1 C.2.1 dX12_isAim_55 (by decide) ?_
          obtain ⟨hg16, h⟩ := gd_some h
          cases h
          exact rt_z hg16 C hP hS dX12_isAim_56
        · rw [if_neg c37] at h
          refine lv_iload C.1 C.2.1 dX12_isAim_40 (lv_at hl 4 rfl) ?_
          refine lv_iconst (v := 1) C.1 C.2.1 dX12_isAim_42 (by decide) ?_
          refine lv_bipush (v := 40) C.1 C.2.1 dX12_isAim_43 (by decide) ?_
          obtain ⟨r17, hc19, h⟩ := bd_some h
          refine cs_i (As := [.int x4, .int 1, .int 40]) (rest := []) A0_ge C hK hP hS (metX12_isIn l D cy st _ x4 1 40 hc19) (va_cwS 3 C.2.2.2.2.2.1 gX12_isAim_X12_isIn rfl rfl rfl (by decide +kernel) ⟨(Nat.le_of_ble_eq_true rfl), (Nat.le_of_ble_eq_true rfl)⟩) rfl hl.1 rfl (Nat.le_of_ble_eq_true rfl) dX12_isAim_45 ⟨Nat.zero_le _, Nat.zero_le _⟩ (fun H locs hP hS => ?_)
          refine lv_if_eq (tgt := 55) C.1 C.2.1 dX12_isAim_48 (by decide) (fun c48 => ?_) (fun c48 => ?_)
          · rw [if_pos c48] at h
            refine lv_iconst (v := 0) C.1 C.2.1 dX12_isAim_55 (by decide) ?_
            obtain ⟨hg20, h⟩ := gd_some h
            cases h
            exact rt_z hg20 C hP hS dX12_isAim_56
          · rw [if_neg c48] at h
            refine lv_iconst (v := 1) C.1 C.2.1 dX12_isAim_51 (by decide) ?_
            refine lv_goto (tgt := 56) C.1 C.2.1 dX12_isAim_52 (by decide) ?_
            obtain ⟨hg21, h⟩ := gd_some h
            cases h
            exact rt_z hg21 C hP hS dX12_isAim_56
theorem metX12_isAim (l : Launch) (D : va_G) (cy : Nat → ClassId) (st : Nat → Nat) (sz : Nat) (x0 : Int32) (x1 : Int32) (x2 : Int32) (x3 : Int32) (x4 : Int32) {r : Int32} (h : fX12_isAim x0 x1 x2 x3 x4 = some r) : Met l yX12_isAim wsX12_isAim rmX12_isAim (va_Pc [.int x0, .int x1, .int x2, .int x3, .int x4] (Px D [(cy 0, .int), (cy 1, .long), (cy 2, .boolean), (cy 3, .byte), (cy 4, .object "HissHorn$Text")] st V0 sz u00)) (Qi D V0 A0 sz r u00) 0 0 (Ax A0 sz) := by
  refine Met.ofW (cc := cX12_isAim) (maxL := 5) (ret := (some .boolean)) (by decide) rfl ?_
  intro p e s m args below meth c s₁ B hml hv
  obtain ⟨rfl, hsz, hP, hK⟩ := hv
  subst hsz
  have C : Cx RX12 cX12_isAim 5 (some .boolean) wsX12_isAim p s m _ meth c := ⟨B.exec, B.bytes, hml, B.returns, findClass_of_methodNamed B.named, atoms_spec (ws := wsX12_isAim) B.pre, B.notSynchronized⟩
  have hl := lv_entry ([.int x0, .int x1, .int x2, .int x3, .int x4]) (n := 5) (Nat.le_of_ble_eq_true rfl)
  rw [lg_entry_eq]
  exact wX12_isAim C hK x0 x1 x2 x3 x4 h hP va_S.rf hl

theorem zdX12_lawWorth_0 : (and (and (and (and (and (zk cX12_lawWorth 0 (.aload_n 0) 1) (zk cX12_lawWorth 1 (.invokevirtual 271) 3)) (and (zk cX12_lawWorth 4 (.aload_n 0) 1) (zk cX12_lawWorth 5 (.getfield 23) 3))) (and (and (zk cX12_lawWorth 8 (.bipush 100) 2) (zk cX12_lawWorth 10 (.iload_n 2) 1)) (and (zk cX12_lawWorth 11 (.iastore) 1) (zk cX12_lawWorth 12 (.aload_n 0) 1)))) (and (and (and (zk cX12_lawWorth 13 (.getfield 23) 3) (zk cX12_lawWorth 16 (.bipush 97) 2)) (and (zk cX12_lawWorth 18 (.iload_n 3) 1) (zk cX12_lawWorth 19 (.iastore) 1))) (and (and (zk cX12_lawWorth 20 (.aload_n 0) 1) (zk cX12_lawWorth 21 (.getfield 23) 3)) (and (zk cX12_lawWorth 24 (.bipush 104) 2) (zk cX12_lawWorth 26 (.iload 4) 2))))) (and (and (and (and (zk cX12_lawWorth 28 (.iastore) 1) (zk cX12_lawWorth 29 (.aload_n 0) 1)) (and (zk cX12_lawWorth 30 (.getfield 23) 3) (zk cX12_lawWorth 33 (.bipush 101) 2))) (and (and (zk cX12_lawWorth 35 (.iload 5) 2) (zk cX12_lawWorth 37 (.iastore) 1)) (and (zk cX12_lawWorth 38 (.aload_n 0) 1) (zk cX12_lawWorth 39 (.getfield 23) 3)))) (and (and (and (zk cX12_lawWorth 42 (.bipush 119) 2) (zk cX12_lawWorth 44 (.iload 6) 2)) (and (zk cX12_lawWorth 46 (.iastore) 1) (zk cX12_lawWorth 47 (.aload_n 0) 1))) (and (and (zk cX12_lawWorth 48 (.getfield 23) 3) (zk cX12_lawWorth 51 (.bipush 108) 2)) (and (zk cX12_lawWorth 53 (.iload 7) 2) (zk cX12_lawWorth 55 (.iastore) 1)))))) = true := by decide +kernel
theorem dX12_lawWorth_0 : decode cX12_lawWorth 0 = .ok (.aload_n 0, 1) := zk_of (zk_l (zk_l (zk_l (zk_l (zk_l zdX12_lawWorth_0)))))
theorem dX12_lawWorth_1 : decode cX12_lawWorth 1 = .ok (.invokevirtual 271, 3) := zk_of (zk_r (zk_l (zk_l (zk_l (zk_l zdX12_lawWorth_0)))))
theorem dX12_lawWorth_4 : decode cX12_lawWorth 4 = .ok (.aload_n 0, 1) := zk_of (zk_l (zk_r (zk_l (zk_l (zk_l zdX12_lawWorth_0)))))
theorem dX12_lawWorth_5 : decode cX12_lawWorth 5 = .ok (.getfield 23, 3) := zk_of (zk_r (zk_r (zk_l (zk_l (zk_l zdX12_lawWorth_0)))))
theorem dX12_lawWorth_8 : decode cX12_lawWorth 8 = .ok (.bipush 100, 2) := zk_of (zk_l (zk_l (zk_r (zk_l (zk_l zdX12_lawWorth_0)))))
theorem dX12_lawWorth_10 : decode cX12_lawWorth 10 = .ok (.iload_n 2, 1) := zk_of (zk_r (zk_l (zk_r (zk_l (zk_l zdX12_lawWorth_0)))))
theorem dX12_lawWorth_11 : decode cX12_lawWorth 11 = .ok (.iastore, 1) := zk_of (zk_l (zk_r (zk_r (zk_l (zk_l zdX12_lawWorth_0)))))
theorem dX12_lawWorth_12 : decode cX12_lawWorth 12 = .ok (.aload_n 0, 1) := zk_of (zk_r (zk_r (zk_r (zk_l (zk_l zdX12_lawWorth_0)))))
theorem dX12_lawWorth_13 : decode cX12_lawWorth 13 = .ok (.getfield 23, 3) := zk_of (zk_l (zk_l (zk_l (zk_r (zk_l zdX12_lawWorth_0)))))
theorem dX12_lawWorth_16 : decode cX12_lawWorth 16 = .ok (.bipush 97, 2) := zk_of (zk_r (zk_l (zk_l (zk_r (zk_l zdX12_lawWorth_0)))))
theorem dX12_lawWorth_18 : decode cX12_lawWorth 18 = .ok (.iload_n 3, 1) := zk_of (zk_l (zk_r (zk_l (zk_r (zk_l zdX12_lawWorth_0)))))
theorem dX12_lawWorth_19 : decode cX12_lawWorth 19 = .ok (.iastore, 1) := zk_of (zk_r (zk_r (zk_l (zk_r (zk_l zdX12_lawWorth_0)))))
theorem dX12_lawWorth_20 : decode cX12_lawWorth 20 = .ok (.aload_n 0, 1) := zk_of (zk_l (zk_l (zk_r (zk_r (zk_l zdX12_lawWorth_0)))))
theorem dX12_lawWorth_21 : decode cX12_lawWorth 21 = .ok (.getfield 23, 3) := zk_of (zk_r (zk_l (zk_r (zk_r (zk_l zdX12_lawWorth_0)))))
theorem dX12_lawWorth_24 : decode cX12_lawWorth 24 = .ok (.bipush 104, 2) := zk_of (zk_l (zk_r (zk_r (zk_r (zk_l zdX12_lawWorth_0)))))
theorem dX12_lawWorth_26 : decode cX12_lawWorth 26 = .ok (.iload 4, 2) := zk_of (zk_r (zk_r (zk_r (zk_r (zk_l zdX12_lawWorth_0)))))
theorem dX12_lawWorth_28 : decode cX12_lawWorth 28 = .ok (.iastore, 1) := zk_of (zk_l (zk_l (zk_l (zk_l (zk_r zdX12_lawWorth_0)))))
theorem dX12_lawWorth_29 : decode cX12_lawWorth 29 = .ok (.aload_n 0, 1) := zk_of (zk_r (zk_l (zk_l (zk_l (zk_r zdX12_lawWorth_0)))))
theorem dX12_lawWorth_30 : decode cX12_lawWorth 30 = .ok (.getfield 23, 3) := zk_of (zk_l (zk_r (zk_l (zk_l (zk_r zdX12_lawWorth_0)))))
theorem dX12_lawWorth_33 : decode cX12_lawWorth 33 = .ok (.bipush 101, 2) := zk_of (zk_r (zk_r (zk_l (zk_l (zk_r zdX12_lawWorth_0)))))
theorem dX12_lawWorth_35 : decode cX12_lawWorth 35 = .ok (.iload 5, 2) := zk_of (zk_l (zk_l (zk_r (zk_l (zk_r zdX12_lawWorth_0)))))
theorem dX12_lawWorth_37 : decode cX12_lawWorth 37 = .ok (.iastore, 1) := zk_of (zk_r (zk_l (zk_r (zk_l (zk_r zdX12_lawWorth_0)))))
theorem dX12_lawWorth_38 : decode cX12_lawWorth 38 = .ok (.aload_n 0, 1) := zk_of (zk_l (zk_r (zk_r (zk_l (zk_r zdX12_lawWorth_0)))))
theorem dX12_lawWorth_39 : decode cX12_lawWorth 39 = .ok (.getfield 23, 3) := zk_of (zk_r (zk_r (zk_r (zk_l (zk_r zdX12_lawWorth_0)))))
theorem dX12_lawWorth_42 : decode cX12_lawWorth 42 = .ok (.bipush 119, 2) := zk_of (zk_l (zk_l (zk_l (zk_r (zk_r zdX12_lawWorth_0)))))
theorem dX12_lawWorth_44 : decode cX12_lawWorth 44 = .ok (.iload 6, 2) := zk_of (zk_r (zk_l (zk_l (zk_r (zk_r zdX12_lawWorth_0)))))
theorem dX12_lawWorth_46 : decode cX12_lawWorth 46 = .ok (.iastore, 1) := zk_of (zk_l (zk_r (zk_l (zk_r (zk_r zdX12_lawWorth_0)))))
theorem dX12_lawWorth_47 : decode cX12_lawWorth 47 = .ok (.aload_n 0, 1) := zk_of (zk_r (zk_r (zk_l (zk_r (zk_r zdX12_lawWorth_0)))))
theorem dX12_lawWorth_48 : decode cX12_lawWorth 48 = .ok (.getfield 23, 3) := zk_of (zk_l (zk_l (zk_r (zk_r (zk_r zdX12_lawWorth_0)))))
theorem dX12_lawWorth_51 : decode cX12_lawWorth 51 = .ok (.bipush 108, 2) := zk_of (zk_r (zk_l (zk_r (zk_r (zk_r zdX12_lawWorth_0)))))
theorem dX12_lawWorth_53 : decode cX12_lawWorth 53 = .ok (.iload 7, 2) := zk_of (zk_l (zk_r (zk_r (zk_r (zk_r zdX12_lawWorth_0)))))
theorem dX12_lawWorth_55 : decode cX12_lawWorth 55 = .ok (.iastore, 1) := zk_of (zk_r (zk_r (zk_r (zk_r (zk_r zdX12_lawWorth_0)))))
set_option maxRecDepth 20000 in
theorem ggX12_lawWorth_X12_noLetters : GoodIn wsX12_lawWorth wsX12_noLetters := ggi (fun w h => List.mem_cons_of_mem _ (List.mem_append_left _ (List.mem_append_right _ (List.mem_append_left _ h)))) gs_X12_noLetters
set_option maxRecDepth 20000 in
theorem gX12_lawWorth_X12_noLetters : GoodIn wsX12_lawWorth (wsV RX12 271 RX12 yX12_noLetters wsX12_noLetters) := goodIn_app (goodIn_of _ (by decide +kernel)) ggX12_lawWorth_X12_noLetters
theorem zdX12_lawWorth_56 : (and (and (and (zk cX12_lawWorth 56 (.aload_n 0) 1) (zk cX12_lawWorth 57 (.iconst 0) 1)) (zk cX12_lawWorth 58 (.iload_n 1) 1)) (and (zk cX12_lawWorth 59 (.invokevirtual 274) 3) (zk cX12_lawWorth 62 (.ireturn) 1))) = true := by decide +kernel
theorem dX12_lawWorth_56 : decode cX12_lawWorth 56 = .ok (.aload_n 0, 1) := zk_of (zk_l (zk_l (zk_l zdX12_lawWorth_56)))
theorem dX12_lawWorth_57 : decode cX12_lawWorth 57 = .ok (.iconst 0, 1) := zk_of (zk_r (zk_l (zk_l zdX12_lawWorth_56)))
theorem dX12_lawWorth_58 : decode cX12_lawWorth 58 = .ok (.iload_n 1, 1) := zk_of (zk_r (zk_l zdX12_lawWorth_56))
theorem dX12_lawWorth_59 : decode cX12_lawWorth 59 = .ok (.invokevirtual 274, 3) := zk_of (zk_l (zk_r zdX12_lawWorth_56))
theorem dX12_lawWorth_62 : decode cX12_lawWorth 62 = .ok (.ireturn, 1) := zk_of (zk_r (zk_r zdX12_lawWorth_56))
set_option maxRecDepth 20000 in
theorem ggX12_lawWorth_X12_worthOf : GoodIn wsX12_lawWorth wsX12_worthOf := ggi (fun w h => List.mem_cons_of_mem _ (List.mem_append_left _ (List.mem_append_right _ (List.mem_append_right _ h)))) gs_X12_worthOf
set_option maxRecDepth 20000 in
theorem gX12_lawWorth_X12_worthOf : GoodIn wsX12_lawWorth (wsV RX12 274 RX12 yX12_worthOf wsX12_worthOf) := goodIn_app (goodIn_of _ (by decide +kernel)) ggX12_lawWorth_X12_worthOf
/-- HissHornModel.lawWorth(IIIIIII)I of cell 0 -/
def rmX12_lawWorth_0 : Room := { frames := 138, cells := 0, slots := 0, locals := 8427 }
theorem hX12_lawWorth_0_X12 : ∀ w ∈ u_ws RX12 TX12 69, w ∈ wsX12_lawWorth := fun w h => (List.mem_cons_of_mem _ (List.mem_append_right _ h))
theorem mX12_lawWorth_0_1 : Cond.fieldLink RX12 23 "HissHornModel" "letters" "[I" ∈ wsX12_lawWorth := (List.mem_cons_of_mem _ (List.mem_append_left _ (List.mem_append_left _ (List.mem_of_getElem? (i := 7) rfl))))
def fX12_lawWorth_0 (x1 : Int32) (x2 : Int32) (x3 : Int32) (x4 : Int32) (x5 : Int32) (x6 : Int32) (x7 : Int32) (u : SX) : Option (Int32 × SX) := ((fX12_noLetters_0  u).bind fun q => match q with | (r1, u2) => (gd (inb 100 128) (lt (sA u2 5 (upd (u2.2.1 5) (100 : Int32).toNatClampNeg x2)) fun u5 => (gd (inb 97 128) (lt (sA u5 5 (upd (u5.2.1 5) (97 : Int32).toNatClampNeg x3)) fun u8 => (gd (inb 104 128) (lt (sA u8 5 (upd (u8.2.1 5) (104 : Int32).toNatClampNeg x4)) fun u11 => (gd (inb 101 128) (lt (sA u11 5 (upd (u11.2.1 5) (101 : Int32).toNatClampNeg x5)) fun u14 => (gd (inb 119 128) (lt (sA u14 5 (upd (u14.2.1 5) (119 : Int32).toNatClampNeg x6)) fun u17 => (gd (inb 108 128) (lt (sA u17 5 (upd (u17.2.1 5) (108 : Int32).toNatClampNeg x7)) fun u20 => ((fX12_worthOf_0 0 x1 u20).bind fun q => match q with | (r22, u23) => (some (r22, u23))))))))))))))))
set_option maxHeartbeats 4000000 in
set_option maxRecDepth 100000 in
theorem wX12_lawWorth_0 {p : Program} {l : Launch} {e : Env} {s : State} {m : MethodId} {args : Array Value} {below : List Frame} {meth : Method} {c : Code} {D : va_G} {cy : Nat → ClassId} {ad st : Nat → Nat} (C : Cx RX12 cX12_lawWorth 8 (some .int) wsX12_lawWorth p s m args meth c) (hK : Ky D [(cy 0, .int), (cy 1, .long), (cy 2, .boolean), (cy 3, .byte), (cy 4, .object "HissHorn$Text")] st s) (hJ : JM ad st) (x1 : Int32) (x2 : Int32) (x3 : Int32) (x4 : Int32) (x5 : Int32) (x6 : Int32) (x7 : Int32) {u : SX} {r : Int32} {u' : SX} {H : Heap} {locs : List Loc} {ls : Array Slot} (h : fX12_lawWorth_0 x1 x2 x3 x4 x5 x6 x7 u = some (r, u')) (hP : va_P D vwCl (VM cy ad st u) H) (hS : va_S (Ax (AM ad) s.heap.size) s.heap H locs) (hl : lv_has ls 8 [(0, .ref (ad 0)), (1, .int x1), (2, .int x2), (3, .int x3), (4, .int x4), (5, .int x5), (6, .int x6), (7, .int x7)]) : W p l e rmX12_lawWorth_0 s m args below meth c H locs 0 0 (MQ below (Qi D (VM cy ad st) (AM ad) s.heap.size r u') args s 0 0 (Ax (AM ad) s.heap.size)) (F0 m 0 ls []) := by
  unfold fX12_lawWorth_0 at h
  refine lv_aload_n C.1 C.2.1 dX12_lawWorth_0 rfl (lv_at hl 0 rfl) ?_
  obtain ⟨⟨r1, u2⟩, hc3, h⟩ := bd_some h
  try dsimp only at h
  refine cg_v (As := []) (rest := []) (AM_ge hJ) C hK hP hS (metX12_noLetters_0 l D cy ad st hJ _  hc3) (cwV 0 C.2.2.2.2.2.1 gX12_lawWorth_X12_noLetters rfl rfl rfl (by decide +kernel) ⟨(Nat.le_of_ble_eq_true rfl), (Nat.le_of_ble_eq_true rfl)⟩) 0 12 rfl rfl rfl hl.1 rfl (Nat.le_of_ble_eq_true rfl) dX12_lawWorth_1 ⟨Nat.zero_le _, Nat.zero_le _⟩ (fun H locs hP hS => ?_)
  refine lv_aload_n C.1 C.2.1 dX12_lawWorth_4 rfl (lv_at hl 0 rfl) ?_
  refine gM_0_letters C hX12_lawWorth_0_X12 hK hP mX12_lawWorth_0_1 dX12_lawWorth_5 ?_
  refine lv_bipush (v := 100) C.1 C.2.1 dX12_lawWorth_8 (by decide) ?_
  refine lv_iload_n C.1 C.2.1 dX12_lawWorth_10 rfl (lv_at hl 2 rfl) ?_
  obtain ⟨hg4, h⟩ := gd_some h
  refine tM_5 C hK hP hJ hS hg4 dX12_lawWorth_11 (fun H locs hP hS => ?_)
  obtain ⟨u5, hu6, h⟩ := lt_some h
  rw [← hu6] at hP
  refine lv_aload_n C.1 C.2.1 dX12_lawWorth_12 rfl (lv_at hl 0 rfl) ?_
  refine gM_0_letters C hX12_lawWorth_0_X12 hK hP mX12_lawWorth_0_1 dX12_lawWorth_13 ?_
  refine lv_bipush (v := 97) C.1 C.2.1 dX12_lawWorth_16 (by decide) ?_
  refine lv_iload_n C.1 C.2.1 dX12_lawWorth_18 rfl (lv_at hl 3 rfl) ?_
  obtain ⟨hg7, h⟩ := gd_some h
  refine tM_5 C hK hP hJ hS hg7 dX12_lawWorth_19 (fun H locs hP hS => ?_)
  obtain ⟨u8, hu9, h⟩ := lt_some h
  rw [← hu9] at hP
  refine lv_aload_n C.1 C.2.1 dX12_lawWorth_20 rfl (lv_at hl 0 rfl) ?_
  refine gM_0_letters C hX12_lawWorth_0_X12 hK hP mX12_lawWorth_0_1 dX12_lawWorth_21 ?_
  refine lv_bipush (v := 104) C.1 C.2.1 dX12_lawWorth_24 (by decide) ?_
  refine lv_iload C.1 C.2.1 dX12_lawWorth_26 (lv_at hl 4 rfl) ?_
  obtain ⟨hg10, h⟩ := gd_some h
  refine tM_5 C hK hP hJ hS hg10 dX12_lawWorth_28 (fun H locs hP hS => ?_)
  obtain ⟨u11, hu12, h⟩ := lt_some h
  rw [← hu12] at hP
  refine lv_aload_n C.1 C.2.1 dX12_lawWorth_29 rfl (lv_at hl 0 rfl) ?_
  refine gM_0_letters C hX12_lawWorth_0_X12 hK hP mX12_lawWorth_0_1 dX12_lawWorth_30 ?_
  refine lv_bipush (v := 101) C.1 C.2.1 dX12_lawWorth_33 (by decide) ?_
  refine lv_iload C.1 C.2.1 dX12_lawWorth_35 (lv_at hl 5 rfl) ?_
  obtain ⟨hg13, h⟩ := gd_some h
  refine tM_5 C hK hP hJ hS hg13 dX12_lawWorth_37 (fun H locs hP hS => ?_)
  obtain ⟨u14, hu15, h⟩ := lt_some h
  rw [← hu15] at hP
  refine lv_aload_n C.1 C.2.1 dX12_lawWorth_38 rfl (lv_at hl 0 rfl) ?_
  refine gM_0_letters C hX12_lawWorth_0_X12 hK hP mX12_lawWorth_0_1 dX12_lawWorth_39 ?_
  refine lv_bipush (v := 119) C.1 C.2.1 dX12_lawWorth_42 (by decide) ?_
  refine lv_iload C.1 C.2.1 dX12_lawWorth_44 (lv_at hl 6 rfl) ?_
  obtain ⟨hg16, h⟩ := gd_some h
  refine tM_5 C hK hP hJ hS hg16 dX12_lawWorth_46 (fun H locs hP hS => ?_)
  obtain ⟨u17, hu18, h⟩ := lt_some h
  rw [← hu18] at hP
  refine lv_aload_n C.1 C.2.1 dX12_lawWorth_47 rfl (lv_at hl 0 rfl) ?_
  refine gM_0_letters C hX12_lawWorth_0_X12 hK hP mX12_lawWorth_0_1 dX12_lawWorth_48 ?_
  refine lv_bipush (v := 108) C.1 C.2.1 dX12_lawWorth_51 (by decide) ?_
  refine lv_iload C.1 C.2.1 dX12_lawWorth_53 (lv_at hl 7 rfl) ?_
  obtain ⟨hg19, h⟩ := gd_some h
  refine tM_5 C hK hP hJ hS hg19 dX12_lawWorth_55 (fun H locs hP hS => ?_)
  obtain ⟨u20, hu21, h⟩ := lt_some h
  rw [← hu21] at hP
  refine lv_aload_n C.1 C.2.1 dX12_lawWorth_56 rfl (lv_at hl 0 rfl) ?_
  refine lv_iconst (v := 0) C.1 C.2.1 dX12_lawWorth_57 (by decide) ?_
  refine lv_iload_n C.1 C.2.1 dX12_lawWorth_58 rfl (lv_at hl 1 rfl) ?_
  obtain ⟨⟨r22, u23⟩, hc24, h⟩ := bd_some h
  try dsimp only at h
  refine cg_i (As := [.int 0, .int x1]) (rest := []) (AM_ge hJ) C hK hP hS (metX12_worthOf_0 l D cy ad st hJ _ 0 x1 hc24) (cwV 2 C.2.2.2.2.2.1 gX12_lawWorth_X12_worthOf rfl rfl rfl (by decide +kernel) ⟨(Nat.le_of_ble_eq_true rfl), (Nat.le_of_ble_eq_true rfl)⟩) 0 12 rfl rfl rfl hl.1 rfl (Nat.le_of_ble_eq_true rfl) dX12_lawWorth_59 ⟨Nat.zero_le _, Nat.zero_le _⟩ (fun H locs hP hS => ?_)
  cases h
  exact rt_i C hP hS dX12_lawWorth_62
theorem metX12_lawWorth_0 (l : Launch) (D : va_G) (cy : Nat → ClassId) (ad st : Nat → Nat) (hJ : JM ad st) (sz : Nat) (x1 : Int32) (x2 : Int32) (x3 : Int32) (x4 : Int32) (x5 : Int32) (x6 : Int32) (x7 : Int32) {u : SX} {r : Int32} {u' : SX} (h : fX12_lawWorth_0 x1 x2 x3 x4 x5 x6 x7 u = some (r, u')) : Met l yX12_lawWorth wsX12_lawWorth rmX12_lawWorth_0 (va_Pc [.ref (ad 0), .int x1, .int x2, .int x3, .int x4, .int x5, .int x6, .int x7] (Px D [(cy 0, .int), (cy 1, .long), (cy 2, .boolean), (cy 3, .byte), (cy 4, .object "HissHorn$Text")] st (VM cy ad st) sz u)) (Qi D (VM cy ad st) (AM ad) sz r u') 0 0 (Ax (AM ad) sz) := by
  refine Met.ofW (cc := cX12_lawWorth) (maxL := 8) (ret := (some .int)) (by decide) rfl ?_
  intro p e s m args below meth c s₁ B hml hv
  obtain ⟨rfl, hsz, hP, hK⟩ := hv
  subst hsz
  have C : Cx RX12 cX12_lawWorth 8 (some .int) wsX12_lawWorth p s m _ meth c := ⟨B.exec, B.bytes, hml, B.returns, findClass_of_methodNamed B.named, atoms_spec (ws := wsX12_lawWorth) B.pre, B.notSynchronized⟩
  have hl := lv_entry ([.ref (ad 0), .int x1, .int x2, .int x3, .int x4, .int x5, .int x6, .int x7]) (n := 8) (Nat.le_of_ble_eq_true rfl)
  rw [lg_entry_eq]
  exact wX12_lawWorth_0 C hK hJ x1 x2 x3 x4 x5 x6 x7 h hP va_S.rf hl

theorem zdX12_worth_46 : (and (and (and (and (and (zk cX12_worth 46 (.putfield 151) 3) (zk cX12_worth 49 (.aload_n 0) 1)) (and (zk cX12_worth 50 (.getfield 151) 3) (zk cX12_worth 53 (.ifCond .le 7) 3))) (and (and (zk cX12_worth 60 (.aload_n 0) 1) (zk cX12_worth 61 (.iload_n 1) 1)) (and (zk cX12_worth 62 (.iload_n 2) 1) (zk cX12_worth 63 (.iload_n 3) 1)))) (and (and (and (zk cX12_worth 64 (.iload 4) 2) (zk cX12_worth 66 (.iload 5) 2)) (and (zk cX12_worth 68 (.iload 6) 2) (zk cX12_worth 70 (.iload 7) 2))) (and (and (zk cX12_worth 72 (.invokevirtual 282) 3) (zk cX12_worth 75 (.ireturn) 1)) (and (zk cX12_worth 56 (.iconst 0) 1) (zk cX12_worth 57 (.goto 18) 3))))) (and (and (and (and (zk cX12_worth 45 (.iconst 1) 1) (zk cX12_worth 0 (.aload_n 0) 1)) (and (zk cX12_worth 1 (.iload_n 1) 1) (zk cX12_worth 2 (.iconst 0) 1))) (and (and (zk cX12_worth 3 (.aload_n 0) 1) (zk cX12_worth 4 (.getfield 20) 3)) (and (zk cX12_worth 7 (.iconst 0) 1) (zk cX12_worth 8 (.iaload) 1)))) (and (and (and (zk cX12_worth 9 (.iconst 1) 1) (zk cX12_worth 10 (.isub) 1)) (and (zk cX12_worth 11 (.invokestatic 155) 3) (zk cX12_worth 14 (.ifCond .eq 31) 3))) (and (and (zk cX12_worth 17 (.iload_n 2) 1) (zk cX12_worth 18 (.iload_n 3) 1)) (and (zk cX12_worth 19 (.iload 4) 2) (zk cX12_worth 21 (.iload 6) 2)))))) = true := by decide +kernel
theorem dX12_worth_46 : decode cX12_worth 46 = .ok (.putfield 151, 3) := zk_of (zk_l (zk_l (zk_l (zk_l (zk_l zdX12_worth_46)))))
theorem dX12_worth_49 : decode cX12_worth 49 = .ok (.aload_n 0, 1) := zk_of (zk_r (zk_l (zk_l (zk_l (zk_l zdX12_worth_46)))))
theorem dX12_worth_50 : decode cX12_worth 50 = .ok (.getfield 151, 3) := zk_of (zk_l (zk_r (zk_l (zk_l (zk_l zdX12_worth_46)))))
theorem dX12_worth_53 : decode cX12_worth 53 = .ok (.ifCond .le 7, 3) := zk_of (zk_r (zk_r (zk_l (zk_l (zk_l zdX12_worth_46)))))
theorem dX12_worth_60 : decode cX12_worth 60 = .ok (.aload_n 0, 1) := zk_of (zk_l (zk_l (zk_r (zk_l (zk_l zdX12_worth_46)))))
theorem dX12_worth_61 : decode cX12_worth 61 = .ok (.iload_n 1, 1) := zk_of (zk_r (zk_l (zk_r (zk_l (zk_l zdX12_worth_46)))))
theorem dX12_worth_62 : decode cX12_worth 62 = .ok (.iload_n 2, 1) := zk_of (zk_l (zk_r (zk_r (zk_l (zk_l zdX12_worth_46)))))
theorem dX12_worth_63 : decode cX12_worth 63 = .ok (.iload_n 3, 1) := zk_of (zk_r (zk_r (zk_r (zk_l (zk_l zdX12_worth_46)))))
theorem dX12_worth_64 : decode cX12_worth 64 = .ok (.iload 4, 2) := zk_of (zk_l (zk_l (zk_l (zk_r (zk_l zdX12_worth_46)))))
theorem dX12_worth_66 : decode cX12_worth 66 = .ok (.iload 5, 2) := zk_of (zk_r (zk_l (zk_l (zk_r (zk_l zdX12_worth_46)))))
theorem dX12_worth_68 : decode cX12_worth 68 = .ok (.iload 6, 2) := zk_of (zk_l (zk_r (zk_l (zk_r (zk_l zdX12_worth_46)))))
theorem dX12_worth_70 : decode cX12_worth 70 = .ok (.iload 7, 2) := zk_of (zk_r (zk_r (zk_l (zk_r (zk_l zdX12_worth_46)))))
theorem dX12_worth_72 : decode cX12_worth 72 = .ok (.invokevirtual 282, 3) := zk_of (zk_l (zk_l (zk_r (zk_r (zk_l zdX12_worth_46)))))
theorem dX12_worth_75 : decode cX12_worth 75 = .ok (.ireturn, 1) := zk_of (zk_r (zk_l (zk_r (zk_r (zk_l zdX12_worth_46)))))
theorem dX12_worth_56 : decode cX12_worth 56 = .ok (.iconst 0, 1) := zk_of (zk_l (zk_r (zk_r (zk_r (zk_l zdX12_worth_46)))))
theorem dX12_worth_57 : decode cX12_worth 57 = .ok (.goto 18, 3) := zk_of (zk_r (zk_r (zk_r (zk_r (zk_l zdX12_worth_46)))))
theorem dX12_worth_45 : decode cX12_worth 45 = .ok (.iconst 1, 1) := zk_of (zk_l (zk_l (zk_l (zk_l (zk_r zdX12_worth_46)))))
theorem dX12_worth_0 : decode cX12_worth 0 = .ok (.aload_n 0, 1) := zk_of (zk_r (zk_l (zk_l (zk_l (zk_r zdX12_worth_46)))))
theorem dX12_worth_1 : decode cX12_worth 1 = .ok (.iload_n 1, 1) := zk_of (zk_l (zk_r (zk_l (zk_l (zk_r zdX12_worth_46)))))
theorem dX12_worth_2 : decode cX12_worth 2 = .ok (.iconst 0, 1) := zk_of (zk_r (zk_r (zk_l (zk_l (zk_r zdX12_worth_46)))))
theorem dX12_worth_3 : decode cX12_worth 3 = .ok (.aload_n 0, 1) := zk_of (zk_l (zk_l (zk_r (zk_l (zk_r zdX12_worth_46)))))
theorem dX12_worth_4 : decode cX12_worth 4 = .ok (.getfield 20, 3) := zk_of (zk_r (zk_l (zk_r (zk_l (zk_r zdX12_worth_46)))))
theorem dX12_worth_7 : decode cX12_worth 7 = .ok (.iconst 0, 1) := zk_of (zk_l (zk_r (zk_r (zk_l (zk_r zdX12_worth_46)))))
theorem dX12_worth_8 : decode cX12_worth 8 = .ok (.iaload, 1) := zk_of (zk_r (zk_r (zk_r (zk_l (zk_r zdX12_worth_46)))))
theorem dX12_worth_9 : decode cX12_worth 9 = .ok (.iconst 1, 1) := zk_of (zk_l (zk_l (zk_l (zk_r (zk_r zdX12_worth_46)))))
theorem dX12_worth_10 : decode cX12_worth 10 = .ok (.isub, 1) := zk_of (zk_r (zk_l (zk_l (zk_r (zk_r zdX12_worth_46)))))
theorem dX12_worth_11 : decode cX12_worth 11 = .ok (.invokestatic 155, 3) := zk_of (zk_l (zk_r (zk_l (zk_r (zk_r zdX12_worth_46)))))
theorem dX12_worth_14 : decode cX12_worth 14 = .ok (.ifCond .eq 31, 3) := zk_of (zk_r (zk_r (zk_l (zk_r (zk_r zdX12_worth_46)))))
theorem dX12_worth_17 : decode cX12_worth 17 = .ok (.iload_n 2, 1) := zk_of (zk_l (zk_l (zk_r (zk_r (zk_r zdX12_worth_46)))))
theorem dX12_worth_18 : decode cX12_worth 18 = .ok (.iload_n 3, 1) := zk_of (zk_r (zk_l (zk_r (zk_r (zk_r zdX12_worth_46)))))
theorem dX12_worth_19 : decode cX12_worth 19 = .ok (.iload 4, 2) := zk_of (zk_l (zk_r (zk_r (zk_r (zk_r zdX12_worth_46)))))
theorem dX12_worth_21 : decode cX12_worth 21 = .ok (.iload 6, 2) := zk_of (zk_r (zk_r (zk_r (zk_r (zk_r zdX12_worth_46)))))
set_option maxRecDepth 20000 in
theorem ggX12_worth_X12_lawWorth : GoodIn wsX12_worth wsX12_lawWorth := ggi (fun w h => List.mem_cons_of_mem _ (List.mem_append_left _ (List.mem_append_right _ (List.mem_append_left _ h)))) gs_X12_lawWorth
set_option maxRecDepth 20000 in
theorem gX12_worth_X12_lawWorth : GoodIn wsX12_worth (wsV RX12 282 RX12 yX12_lawWorth wsX12_lawWorth) := goodIn_app (goodIn_of _ (by decide +kernel)) ggX12_worth_X12_lawWorth
set_option maxRecDepth 20000 in
theorem ggX12_worth_X12_isIn : GoodIn wsX12_worth wsX12_isIn := ggi (fun w h => List.mem_cons_of_mem _ (List.mem_append_left _ (List.mem_append_right _ (List.mem_append_right _ (List.mem_append_left _ h))))) gs_X12_isIn
set_option maxRecDepth 20000 in
theorem gX12_worth_X12_isIn : GoodIn wsX12_worth (va_wsS RX12 155 yX12_isIn wsX12_isIn) := goodIn_app (goodIn_of _ (by decide +kernel)) ggX12_worth_X12_isIn
theorem zdX12_worth_23 : (and (and (and (and (zk cX12_worth 23 (.iload 7) 2) (zk cX12_worth 25 (.invokestatic 278) 3)) (zk cX12_worth 28 (.ifCond .eq 17) 3)) (and (zk cX12_worth 31 (.iload 5) 2) (zk cX12_worth 33 (.iconst 0) 1))) (and (and (and (zk cX12_worth 34 (.iconst 3) 1) (zk cX12_worth 35 (.invokestatic 155) 3)) (zk cX12_worth 38 (.ifCond .eq 7) 3)) (and (zk cX12_worth 41 (.iconst 0) 1) (zk cX12_worth 42 (.goto 4) 3)))) = true := by decide +kernel
theorem dX12_worth_23 : decode cX12_worth 23 = .ok (.iload 7, 2) := zk_of (zk_l (zk_l (zk_l (zk_l zdX12_worth_23))))
theorem dX12_worth_25 : decode cX12_worth 25 = .ok (.invokestatic 278, 3) := zk_of (zk_r (zk_l (zk_l (zk_l zdX12_worth_23))))
theorem dX12_worth_28 : decode cX12_worth 28 = .ok (.ifCond .eq 17, 3) := zk_of (zk_r (zk_l (zk_l zdX12_worth_23)))
theorem dX12_worth_31 : decode cX12_worth 31 = .ok (.iload 5, 2) := zk_of (zk_l (zk_r (zk_l zdX12_worth_23)))
theorem dX12_worth_33 : decode cX12_worth 33 = .ok (.iconst 0, 1) := zk_of (zk_r (zk_r (zk_l zdX12_worth_23)))
theorem dX12_worth_34 : decode cX12_worth 34 = .ok (.iconst 3, 1) := zk_of (zk_l (zk_l (zk_l (zk_r zdX12_worth_23))))
theorem dX12_worth_35 : decode cX12_worth 35 = .ok (.invokestatic 155, 3) := zk_of (zk_r (zk_l (zk_l (zk_r zdX12_worth_23))))
theorem dX12_worth_38 : decode cX12_worth 38 = .ok (.ifCond .eq 7, 3) := zk_of (zk_r (zk_l (zk_r zdX12_worth_23)))
theorem dX12_worth_41 : decode cX12_worth 41 = .ok (.iconst 0, 1) := zk_of (zk_l (zk_r (zk_r zdX12_worth_23)))
theorem dX12_worth_42 : decode cX12_worth 42 = .ok (.goto 4, 3) := zk_of (zk_r (zk_r (zk_r zdX12_worth_23)))
set_option maxRecDepth 20000 in
theorem ggX12_worth_X12_isAim : GoodIn wsX12_worth wsX12_isAim := ggi (fun w h => List.mem_cons_of_mem _ (List.mem_append_left _ (List.mem_append_right _ (List.mem_append_right _ (List.mem_append_right _ h))))) gs_X12_isAim
set_option maxRecDepth 20000 in
theorem gX12_worth_X12_isAim : GoodIn wsX12_worth (va_wsS RX12 278 yX12_isAim wsX12_isAim) := goodIn_app (goodIn_of _ (by decide +kernel)) ggX12_worth_X12_isAim
/-- HissHornModel.worth(IIIIIII)I of cell 0 -/
def rmX12_worth_0 : Room := { frames := 139, cells := 0, slots := 0, locals := 8454 }
theorem hX12_worth_0_X12 : ∀ w ∈ u_ws RX12 TX12 69, w ∈ wsX12_worth := fun w h => (List.mem_cons_of_mem _ (List.mem_append_right _ h))
theorem mX12_worth_0_1 : Cond.fieldLink RX12 20 "HissHornModel" "textMany" "[I" ∈ wsX12_worth := (List.mem_cons_of_mem _ (List.mem_append_left _ (List.mem_append_left _ (List.mem_of_getElem? (i := 8) rfl))))
theorem mX12_worth_0_2 : Cond.fieldLink RX12 151 "HissHornModel" "thrown" "I" ∈ wsX12_worth := (List.mem_cons_of_mem _ (List.mem_append_left _ (List.mem_append_left _ (List.mem_of_getElem? (i := 9) rfl))))
def GX12_worth_0_46 (z1 : Int32) (z2 : Int32) (z3 : Int32) (z4 : Int32) (z5 : Int32) (z6 : Int32) (z7 : Int32) (y0 : Int32) (u : SX) : Option (Int32 × SX) := (lt (sI u 0 y0) fun u5 => (if (u5.1 0) ≤ 0 then ((fX12_lawWorth_0 z1 z2 z3 z4 z5 z6 z7 u5).bind fun q => match q with | (r7, u8) => (some (r7, u8))) else (some (0, u5))))
def GX12_worth_0_45 (z1 : Int32) (z2 : Int32) (z3 : Int32) (z4 : Int32) (z5 : Int32) (z6 : Int32) (z7 : Int32) (u : SX) : Option (Int32 × SX) := (GX12_worth_0_46 z1 z2 z3 z4 z5 z6 z7 1 u)
def fX12_worth_0 (x1 : Int32) (x2 : Int32) (x3 : Int32) (x4 : Int32) (x5 : Int32) (x6 : Int32) (x7 : Int32) (u : SX) : Option (Int32 × SX) := (gd (inb 0 3) ((fX12_isIn x1 0 ((u.2.1 4 (0 : Int32).toNatClampNeg) - 1)).bind fun r2 => (if r2 = 0 then (GX12_worth_0_45 x1 x2 x3 x4 x5 x6 x7 u) else ((fX12_isAim x2 x3 x4 x6 x7).bind fun r10 => (if r10 = 0 then (GX12_worth_0_45 x1 x2 x3 x4 x5 x6 x7 u) else ((fX12_isIn x5 0 3).bind fun r13 => (if r13 = 0 then (GX12_worth_0_45 x1 x2 x3 x4 x5 x6 x7 u) else (GX12_worth_0_46 x1 x2 x3 x4 x5 x6 x7 0 u))))))))
set_option maxHeartbeats 4000000 in
set_option maxRecDepth 100000 in
theorem wGX12_worth_0_46 {p : Program} {l : Launch} {e : Env} {s : State} {m : MethodId} {args : Array Value} {below : List Frame} {meth : Method} {c : Code} {D : va_G} {cy : Nat → ClassId} {ad st : Nat → Nat} (C : Cx RX12 cX12_worth 8 (some .int) wsX12_worth p s m args meth c) (hK : Ky D [(cy 0, .int), (cy 1, .long), (cy 2, .boolean), (cy 3, .byte), (cy 4, .object "HissHorn$Text")] st s) (hJ : JM ad st) {r : Int32} {u' : SX}   (z1 : Int32) (z2 : Int32) (z3 : Int32) (z4 : Int32) (z5 : Int32) (z6 : Int32) (z7 : Int32) (y0 : Int32) (u : SX) (H : Heap) (locs : List Loc) (ls : Array Slot) (h : GX12_worth_0_46 z1 z2 z3 z4 z5 z6 z7 y0 u = some (r, u')) (hP : va_P D vwCl (VM cy ad st u) H) (hS : va_S (Ax (AM ad) s.heap.size) s.heap H locs) (hl : lv_has ls 8 [(0, .ref (ad 0)), (1, .int z1), (2, .int z2), (3, .int z3), (4, .int z4), (5, .int z5), (6, .int z6), (7, .int z7)]) : W p l e rmX12_worth_0 s m args below meth c H locs 0 0 (MQ below (Qi D (VM cy ad st) (AM ad) s.heap.size r u') args s 0 0 (Ax (AM ad) s.heap.size)) (F0 m 46 ls [.int y0, .ref (ad 0)]) := by
  unfold GX12_worth_0_46 at h
  refine pM_0_thrown C hX12_worth_0_X12 hK hP hJ hS mX12_worth_0_2 dX12_worth_46 (fun H locs hP hS => ?_)
  obtain ⟨u5, hu6, h⟩ := lt_some h
  rw [← hu6] at hP
  refine lv_aload_n C.1 C.2.1 dX12_worth_49 rfl (lv_at hl 0 rfl) ?_
  refine gM_0_thrown C hX12_worth_0_X12 hK hP mX12_worth_0_2 dX12_worth_50 ?_
  refine lv_if_le (tgt := 60) C.1 C.2.1 dX12_worth_53 (by decide) (fun c53 => ?_) (fun c53 => ?_)
  · rw [if_pos c53] at h
    refine lv_aload_n C.1 C.2.1 dX12_worth_60 rfl (lv_at hl 0 rfl) ?_
    refine lv_iload_n C.1 C.2.1 dX12_worth_61 rfl (lv_at hl 1 rfl) ?_
    refine lv_iload_n C.1 C.2.1 dX12_worth_62 rfl (lv_at hl 2 rfl) ?_
    refine lv_iload_n C.1 C.2.1 dX12_worth_63 rfl (lv_at hl 3 rfl) ?_
    refine lv_iload C.1 C.2.1 dX12_worth_64 (lv_at hl 4 rfl) ?_
    refine lv_iload C.1 C.2.1 dX12_worth_66 (lv_at hl 5 rfl) ?_
    refine lv_iload C.1 C.2.1 dX12_worth_68 (lv_at hl 6 rfl) ?_
    refine lv_iload C.1 C.2.1 dX12_worth_70 (lv_at hl 7 rfl) ?_
    obtain ⟨⟨r7, u8⟩, hc9, h⟩ := bd_some h
    try dsimp only at h
    refine cg_i (As := [.int z1, .int z2, .int z3, .int z4, .int z5, .int z6, .int z7]) (rest := []) (AM_ge hJ) C hK hP hS (metX12_lawWorth_0 l D cy ad st hJ _ z1 z2 z3 z4 z5 z6 z7 hc9) (cwV 7 C.2.2.2.2.2.1 gX12_worth_X12_lawWorth rfl rfl rfl (by decide +kernel) ⟨(Nat.le_of_ble_eq_true rfl), (Nat.le_of_ble_eq_true rfl)⟩) 0 12 rfl rfl rfl hl.1 rfl (Nat.le_of_ble_eq_true rfl) dX12_worth_72 ⟨Nat.zero_le _, Nat.zero_le _⟩ (fun H locs hP hS => ?_)
    cases h
    exact rt_i C hP hS dX12_worth_75
  · rw [if_neg c53] at h
    refine lv_iconst (v := 0) C.1 C.2.1 dX12_worth_56 (by decide) ?_
    refine lv_goto (tgt := 75) C.1 C.2.1 dX12_worth_57 (by decide) ?_
    cases h
    exact rt_i C hP hS dX12_worth_75
set_option maxHeartbeats 4000000 in
set_option maxRecDepth 100000 in
theorem wGX12_worth_0_45 {p : Program} {l : Launch} {e : Env} {s : State} {m : MethodId} {args : Array Value} {below : List Frame} {meth : Method} {c : Code} {D : va_G} {cy : Nat → ClassId} {ad st : Nat → Nat} (C : Cx RX12 cX12_worth 8 (some .int) wsX12_worth p s m args meth c) (hK : Ky D [(cy 0, .int), (cy 1, .long), (cy 2, .boolean), (cy 3, .byte), (cy 4, .object "HissHorn$Text")] st s) (hJ : JM ad st) {r : Int32} {u' : SX}   (z1 : Int32) (z2 : Int32) (z3 : Int32) (z4 : Int32) (z5 : Int32) (z6 : Int32) (z7 : Int32) (u : SX) (H : Heap) (locs : List Loc) (ls : Array Slot) (h : GX12_worth_0_45 z1 z2 z3 z4 z5 z6 z7 u = some (r, u')) (hP : va_P D vwCl (VM cy ad st u) H) (hS : va_S (Ax (AM ad) s.heap.size) s.heap H locs) (hl : lv_has ls 8 [(0, .ref (ad 0)), (1, .int z1), (2, .int z2), (3, .int z3), (4, .int z4), (5, .int z5), (6, .int z6), (7, .int z7)]) : W p l e rmX12_worth_0 s m args below meth c H locs 0 0 (MQ below (Qi D (VM cy ad st) (AM ad) s.heap.size r u') args s 0 0 (Ax (AM ad) s.heap.size)) (F0 m 45 ls [.ref (ad 0)]) := by
  unfold GX12_worth_0_45 at h
  refine lv_iconst (v := 1) C.1 C.2.1 dX12_worth_45 (by decide) ?_
  exact wGX12_worth_0_46 C hK hJ _ _ _ _ _ _ _ _ _ _ _ _ h hP hS hl
set_option maxHeartbeats 4000000 in
set_option maxRecDepth 100000 in
theorem wX12_worth_0 {p : Program} {l : Launch} {e : Env} {s : State} {m : MethodId} {args : Array Value} {below : List Frame} {meth : Method} {c : Code} {D : va_G} {cy : Nat → ClassId} {ad st : Nat → Nat} (C : Cx RX12 cX12_worth 8 (some .int) wsX12_worth p s m args meth c) (hK : Ky D [(cy 0, .int), (cy 1, .long), (cy 2, .boolean), (cy 3, .byte), (cy 4, .object "HissHorn$Text")] st s) (hJ : JM ad st) (x1 : Int32) (x2 : Int32) (x3 : Int32) (x4 : Int32) (x5 : Int32) (x6 : Int32) (x7 : Int32) {u : SX} {r : Int32} {u' : SX} {H : Heap} {locs : List Loc} {ls : Array Slot} (h : fX12_worth_0 x1 x2 x3 x4 x5 x6 x7 u = some (r, u')) (hP : va_P D vwCl (VM cy ad st u) H) (hS : va_S (Ax (AM ad) s.heap.size) s.heap H locs) (hl : lv_has ls 8 [(0, .ref (ad 0)), (1, .int x1), (2, .int x2), (3, .int x3), (4, .int x4), (5, .int x5), (6, .int x6), (7, .int x7)]) : W p l e rmX12_worth_0 s m args below meth c H locs 0 0 (MQ below (Qi D (VM cy ad st) (AM ad) s.heap.size r u') args s 0 0 (Ax (AM ad) s.heap.size)) (F0 m 0 ls []) := by
  unfold fX12_worth_0 at h
  refine lv_aload_n C.1 C.2.1 dX12_worth_0 rfl (lv_at hl 0 rfl) ?_
  refine lv_iload_n C.1 C.2.1 dX12_worth_1 rfl (lv_at hl 1 rfl) ?_
  refine lv_iconst (v := 0) C.1 C.2.1 dX12_worth_2 (by decide) ?_
  refine lv_aload_n C.1 C.2.1 dX12_worth_3 rfl (lv_at hl 0 rfl) ?_
  refine gM_0_textMany C hX12_worth_0_X12 hK hP mX12_worth_0_1 dX12_worth_4 ?_
  refine lv_iconst (v := 0) C.1 C.2.1 dX12_worth_7 (by decide) ?_
  obtain ⟨hg1, h⟩ := gd_some h
  refine lM_4 C hK hP hg1 dX12_worth_8 ?_
  refine lv_iconst (v := 1) C.1 C.2.1 dX12_worth_9 (by decide) ?_
  refine lv_isub C.1 C.2.1 dX12_worth_10 ?_
  obtain ⟨r2, hc4, h⟩ := bd_some h
  refine cs_i (As := [.int x1, .int 0, .int ((u.2.1 4 (0 : Int32).toNatClampNeg) - 1)]) (rest := [.ref (ad 0)]) (AM_ge hJ) C hK hP hS (metX12_isIn l D cy st _ x1 0 ((u.2.1 4 (0 : Int32).toNatClampNeg) - 1) hc4) (va_cwS 3 C.2.2.2.2.2.1 gX12_worth_X12_isIn rfl rfl rfl (by decide +kernel) ⟨(Nat.le_of_ble_eq_true rfl), (Nat.le_of_ble_eq_true rfl)⟩) rfl hl.1 rfl (Nat.le_of_ble_eq_true rfl) dX12_worth_11 ⟨Nat.zero_le _, Nat.zero_le _⟩ (fun H locs hP hS => ?_)
  refine lv_if_eq (tgt := 45) C.1 C.2.1 dX12_worth_14 (by decide) (fun c14 => ?_) (fun c14 => ?_)
  · rw [if_pos c14] at h
    exact wGX12_worth_0_45 C hK hJ _ _ _ _ _ _ _ _ _ _ _ h hP hS hl
  · rw [if_neg c14] at h
    refine lv_iload_n C.1 C.2.1 dX12_worth_17 rfl (lv_at hl 2 rfl) ?_
    refine lv_iload_n C.1 C.2.1 dX12_worth_18 rfl (lv_at hl 3 rfl) ?_
    refine lv_iload C.1 C.2.1 dX12_worth_19 (lv_at hl 4 rfl) ?_
    refine lv_iload C.1 C.2.1 dX12_worth_21 (lv_at hl 6 rfl) ?_
    refine lv_iload C.1 C.2.1 dX12_worth_23 (lv_at hl 7 rfl) ?_
    obtain ⟨r10, hc12, h⟩ := bd_some h
    refine cs_i (As := [.int x2, .int x3, .int x4, .int x6, .int x7]) (rest := [.ref (ad 0)]) (AM_ge hJ) C hK hP hS (metX12_isAim l D cy st _ x2 x3 x4 x6 x7 hc12) (va_cwS 5 C.2.2.2.2.2.1 gX12_worth_X12_isAim rfl rfl rfl (by decide +kernel) ⟨(Nat.le_of_ble_eq_true rfl), (Nat.le_of_ble_eq_true rfl)⟩) rfl hl.1 rfl (Nat.le_of_ble_eq_true rfl) dX12_worth_25 ⟨Nat.zero_le _, Nat.zero_le _⟩ (fun H locs hP hS => ?_)
    refine lv_if_eq (tgt := 45) C.1 C.2.1 dX12_worth_28 (by decide) (fun c28 => ?_) (fun c28 => ?_)
    · rw [if_pos c28] at h
      exact wGX12_worth_0_45 C hK hJ _ _ _ _ _ _ _ _ _ _ _ h hP hS hl
    · rw [if_neg c28] at h
      refine lv_iload C.1 C.2.1 dX12_worth_31 (lv_at hl 5 rfl) ?_
      refine lv_iconst (v := 0) C.1 C.2.1 dX12_worth_33 (by decide) ?_
      refine lv_iconst (v := 3) C.1 C.2.1 dX12_worth_34 (by decide) ?_
      obtain ⟨r13, hc15, h⟩ := bd_some h
      refine cs_i (As := [.int x5, .int 0, .int 3]) (rest := [.ref (ad 0)]) (AM_ge hJ) C hK hP hS (metX12_isIn l D cy st _ x5 0 3 hc15) (va_cwS 3 C.2.2.2.2.2.1 gX12_worth_X12_isIn rfl rfl rfl (by decide +kernel) ⟨(Nat.le_of_ble_eq_true rfl), (Nat.le_of_ble_eq_true rfl)⟩) rfl hl.1 rfl (Nat.le_of_ble_eq_true rfl) dX12_worth_35 ⟨Nat.zero_le _, Nat.zero_le _⟩ (fun H locs hP hS => ?_)
      refine lv_if_eq (tgt := 45) C.1 C.2.1 dX12_worth_38 (by decide) (fun c38 => ?_) (fun c38 => ?_)
      · rw [if_pos c38] at h
        exact wGX12_worth_0_45 C hK hJ _ _ _ _ _ _ _ _ _ _ _ h hP hS hl
      · rw [if_neg c38] at h
        refine lv_iconst (v := 0) C.1 C.2.1 dX12_worth_41 (by decide) ?_
        refine lv_goto (tgt := 46) C.1 C.2.1 dX12_worth_42 (by decide) ?_
        exact wGX12_worth_0_46 C hK hJ _ _ _ _ _ _ _ _ _ _ _ _ h hP hS hl
theorem metX12_worth_0 (l : Launch) (D : va_G) (cy : Nat → ClassId) (ad st : Nat → Nat) (hJ : JM ad st) (sz : Nat) (x1 : Int32) (x2 : Int32) (x3 : Int32) (x4 : Int32) (x5 : Int32) (x6 : Int32) (x7 : Int32) {u : SX} {r : Int32} {u' : SX} (h : fX12_worth_0 x1 x2 x3 x4 x5 x6 x7 u = some (r, u')) : Met l yX12_worth wsX12_worth rmX12_worth_0 (va_Pc [.ref (ad 0), .int x1, .int x2, .int x3, .int x4, .int x5, .int x6, .int x7] (Px D [(cy 0, .int), (cy 1, .long), (cy 2, .boolean), (cy 3, .byte), (cy 4, .object "HissHorn$Text")] st (VM cy ad st) sz u)) (Qi D (VM cy ad st) (AM ad) sz r u') 0 0 (Ax (AM ad) sz) := by
  refine Met.ofW (cc := cX12_worth) (maxL := 8) (ret := (some .int)) (by decide) rfl ?_
  intro p e s m args below meth c s₁ B hml hv
  obtain ⟨rfl, hsz, hP, hK⟩ := hv
  subst hsz
  have C : Cx RX12 cX12_worth 8 (some .int) wsX12_worth p s m _ meth c := ⟨B.exec, B.bytes, hml, B.returns, findClass_of_methodNamed B.named, atoms_spec (ws := wsX12_worth) B.pre, B.notSynchronized⟩
  have hl := lv_entry ([.ref (ad 0), .int x1, .int x2, .int x3, .int x4, .int x5, .int x6, .int x7]) (n := 8) (Nat.le_of_ble_eq_true rfl)
  rw [lg_entry_eq]
  exact wX12_worth_0 C hK hJ x1 x2 x3 x4 x5 x6 x7 h hP va_S.rf hl

theorem zdX12_isPart_0 : (and (and (and (and (zk cX12_isPart 0 (.iload_n 1) 1) (zk cX12_isPart 1 (.ifCond .lt 15) 3)) (zk cX12_isPart 16 (.iconst 0) 1)) (and (zk cX12_isPart 17 (.ireturn) 1) (zk cX12_isPart 4 (.iload_n 1) 1))) (and (and (and (zk cX12_isPart 5 (.aload_n 0) 1) (zk cX12_isPart 6 (.getfield 286) 3)) (zk cX12_isPart 9 (.if_icmp .ge 7) 3)) (and (zk cX12_isPart 12 (.iconst 1) 1) (zk cX12_isPart 13 (.goto 4) 3)))) = true := by decide +kernel
theorem dX12_isPart_0 : decode cX12_isPart 0 = .ok (.iload_n 1, 1) := zk_of (zk_l (zk_l (zk_l (zk_l zdX12_isPart_0))))
theorem dX12_isPart_1 : decode cX12_isPart 1 = .ok (.ifCond .lt 15, 3) := zk_of (zk_r (zk_l (zk_l (zk_l zdX12_isPart_0))))
theorem dX12_isPart_16 : decode cX12_isPart 16 = .ok (.iconst 0, 1) := zk_of (zk_r (zk_l (zk_l zdX12_isPart_0)))
theorem dX12_isPart_17 : decode cX12_isPart 17 = .ok (.ireturn, 1) := zk_of (zk_l (zk_r (zk_l zdX12_isPart_0)))
theorem dX12_isPart_4 : decode cX12_isPart 4 = .ok (.iload_n 1, 1) := zk_of (zk_r (zk_r (zk_l zdX12_isPart_0)))
theorem dX12_isPart_5 : decode cX12_isPart 5 = .ok (.aload_n 0, 1) := zk_of (zk_l (zk_l (zk_l (zk_r zdX12_isPart_0))))
theorem dX12_isPart_6 : decode cX12_isPart 6 = .ok (.getfield 286, 3) := zk_of (zk_r (zk_l (zk_l (zk_r zdX12_isPart_0))))
theorem dX12_isPart_9 : decode cX12_isPart 9 = .ok (.if_icmp .ge 7, 3) := zk_of (zk_r (zk_l (zk_r zdX12_isPart_0)))
theorem dX12_isPart_12 : decode cX12_isPart 12 = .ok (.iconst 1, 1) := zk_of (zk_l (zk_r (zk_r zdX12_isPart_0)))
theorem dX12_isPart_13 : decode cX12_isPart 13 = .ok (.goto 4, 3) := zk_of (zk_r (zk_r (zk_r zdX12_isPart_0)))
/-- HissHornModel.isPart(I)Z of cell 0 -/
def rmX12_isPart_0 : Room := { frames := 0, cells := 0, slots := 0, locals := 0 }
theorem hX12_isPart_0_X12 : ∀ w ∈ u_ws RX12 TX12 69, w ∈ wsX12_isPart := fun w h => (List.mem_cons_of_mem _ (List.mem_append_right _ h))
theorem mX12_isPart_0_1 : Cond.fieldLink RX12 286 "HissHornModel" "parts" "I" ∈ wsX12_isPart := (List.mem_cons_of_mem _ (List.mem_append_left _ (List.mem_of_getElem? (i := 0) rfl)))
def fX12_isPart_0 (x1 : Int32) (u : SX) : Option (Int32 × SX) := (if x1 < 0 then (gd (isB 0) (some (0, u))) else (if (u.1 12) ≤ x1 then (gd (isB 0) (some (0, u))) else (gd (isB 1) (some (1, u)))))
set_option maxHeartbeats 4000000 in
set_option maxRecDepth 100000 in
theorem wX12_isPart_0 {p : Program} {l : Launch} {e : Env} {s : State} {m : MethodId} {args : Array Value} {below : List Frame} {meth : Method} {c : Code} {D : va_G} {cy : Nat → ClassId} {ad st : Nat → Nat} (C : Cx RX12 cX12_isPart 2 (some .boolean) wsX12_isPart p s m args meth c) (hK : Ky D [(cy 0, .int), (cy 1, .long), (cy 2, .boolean), (cy 3, .byte), (cy 4, .object "HissHorn$Text")] st s) (hJ : JM ad st) (x1 : Int32) {u : SX} {r : Int32} {u' : SX} {H : Heap} {locs : List Loc} {ls : Array Slot} (h : fX12_isPart_0 x1 u = some (r, u')) (hP : va_P D vwCl (VM cy ad st u) H) (hS : va_S (Ax (AM ad) s.heap.size) s.heap H locs) (hl : lv_has ls 2 [(0, .ref (ad 0)), (1, .int x1)]) : W p l e rmX12_isPart_0 s m args below meth c H locs 0 0 (MQ below (Qi D (VM cy ad st) (AM ad) s.heap.size r u') args s 0 0 (Ax (AM ad) s.heap.size)) (F0 m 0 ls []) := by
  unfold fX12_isPart_0 at h
  refine lv_iload_n C.1 C.2.1 dX12_isPart_0 rfl (lv_at hl 1 rfl) ?_
  refine lv_if_lt (tgt := 16) C.1 C.2.1 dX12_isPart_1 (by decide) (fun c1 => ?_) (fun c1 => ?_)
  · rw [if_pos c1] at h
    refine lv_iconst (v := 0) C.1 C.2.1 dX12_isPart_16 (by decide) ?_
    obtain ⟨hg1, h⟩ := gd_some h
    cases h
    exact rt_z hg1 C hP hS dX12_isPart_17
  · rw [if_neg c1] at h
    refine lv_iload_n C.1 C.2.1 dX12_isPart_4 rfl (lv_at hl 1 rfl) ?_
    refine lv_aload_n C.1 C.2.1 dX12_isPart_5 rfl (lv_at hl 0 rfl) ?_
    refine gM_0_parts C hX12_isPart_0_X12 hK hP mX12_isPart_0_1 dX12_isPart_6 ?_
    refine lv_icmp_ge (tgt := 16) C.1 C.2.1 dX12_isPart_9 (by decide) (fun c9 => ?_) (fun c9 => ?_)
    · rw [if_pos c9] at h
      refine lv_iconst (v := 0) C.1 C.2.1 dX12_isPart_16 (by decide) ?_
      obtain ⟨hg2, h⟩ := gd_some h
      cases h
      exact rt_z hg2 C hP hS dX12_isPart_17
    · rw [if_neg c9] at h
      refine lv_iconst (v := 1) C.1 C.2.1 dX12_isPart_12 (by decide) ?_
      refine lv_goto (tgt := 17) C.1 C.2.1 dX12_isPart_13 (by decide) ?_
      obtain ⟨hg3, h⟩ := gd_some h
      cases h
      exact rt_z hg3 C hP hS dX12_isPart_17
theorem metX12_isPart_0 (l : Launch) (D : va_G) (cy : Nat → ClassId) (ad st : Nat → Nat) (hJ : JM ad st) (sz : Nat) (x1 : Int32) {u : SX} {r : Int32} {u' : SX} (h : fX12_isPart_0 x1 u = some (r, u')) : Met l yX12_isPart wsX12_isPart rmX12_isPart_0 (va_Pc [.ref (ad 0), .int x1] (Px D [(cy 0, .int), (cy 1, .long), (cy 2, .boolean), (cy 3, .byte), (cy 4, .object "HissHorn$Text")] st (VM cy ad st) sz u)) (Qi D (VM cy ad st) (AM ad) sz r u') 0 0 (Ax (AM ad) sz) := by
  refine Met.ofW (cc := cX12_isPart) (maxL := 2) (ret := (some .boolean)) (by decide) rfl ?_
  intro p e s m args below meth c s₁ B hml hv
  obtain ⟨rfl, hsz, hP, hK⟩ := hv
  subst hsz
  have C : Cx RX12 cX12_isPart 2 (some .boolean) wsX12_isPart p s m _ meth c := ⟨B.exec, B.bytes, hml, B.returns, findClass_of_methodNamed B.named, atoms_spec (ws := wsX12_isPart) B.pre, B.notSynchronized⟩
  have hl := lv_entry ([.ref (ad 0), .int x1]) (n := 2) (Nat.le_of_ble_eq_true rfl)
  rw [lg_entry_eq]
  exact wX12_isPart_0 C hK hJ x1 h hP va_S.rf hl

theorem zdX12_isSpan_0 : (and (and (and (and (zk cX12_isSpan 0 (.iload_n 0) 1) (zk cX12_isSpan 1 (.iconst 0) 1)) (and (zk cX12_isSpan 2 (.sipush 400) 3) (zk cX12_isSpan 5 (.invokestatic 155) 3))) (and (and (zk cX12_isSpan 8 (.ifCond .eq 18) 3) (zk cX12_isSpan 26 (.iconst 0) 1)) (zk cX12_isSpan 27 (.ireturn) 1))) (and (and (and (zk cX12_isSpan 11 (.iload_n 1) 1) (zk cX12_isSpan 12 (.iload_n 0) 1)) (and (zk cX12_isSpan 13 (.sipush 400) 3) (zk cX12_isSpan 16 (.invokestatic 155) 3))) (and (and (zk cX12_isSpan 19 (.ifCond .eq 7) 3) (zk cX12_isSpan 22 (.iconst 1) 1)) (zk cX12_isSpan 23 (.goto 4) 3)))) = true := by decide +kernel
theorem dX12_isSpan_0 : decode cX12_isSpan 0 = .ok (.iload_n 0, 1) := zk_of (zk_l (zk_l (zk_l (zk_l zdX12_isSpan_0))))
theorem dX12_isSpan_1 : decode cX12_isSpan 1 = .ok (.iconst 0, 1) := zk_of (zk_r (zk_l (zk_l (zk_l zdX12_isSpan_0))))
theorem dX12_isSpan_2 : decode cX12_isSpan 2 = .ok (.sipush 400, 3) := zk_of (zk_l (zk_r (zk_l (zk_l zdX12_isSpan_0))))
theorem dX12_isSpan_5 : decode cX12_isSpan 5 = .ok (.invokestatic 155, 3) := zk_of (zk_r (zk_r (zk_l (zk_l zdX12_isSpan_0))))
theorem dX12_isSpan_8 : decode cX12_isSpan 8 = .ok (.ifCond .eq 18, 3) := zk_of (zk_l (zk_l (zk_r (zk_l zdX12_isSpan_0))))
theorem dX12_isSpan_26 : decode cX12_isSpan 26 = .ok (.iconst 0, 1) := zk_of (zk_r (zk_l (zk_r (zk_l zdX12_isSpan_0))))
theorem dX12_isSpan_27 : decode cX12_isSpan 27 = .ok (.ireturn, 1) := zk_of (zk_r (zk_r (zk_l zdX12_isSpan_0)))
theorem dX12_isSpan_11 : decode cX12_isSpan 11 = .ok (.iload_n 1, 1) := zk_of (zk_l (zk_l (zk_l (zk_r zdX12_isSpan_0))))
theorem dX12_isSpan_12 : decode cX12_isSpan 12 = .ok (.iload_n 0, 1) := zk_of (zk_r (zk_l (zk_l (zk_r zdX12_isSpan_0))))
theorem dX12_isSpan_13 : decode cX12_isSpan 13 = .ok (.sipush 400, 3) := zk_of (zk_l (zk_r (zk_l (zk_r zdX12_isSpan_0))))
theorem dX12_isSpan_16 : decode cX12_isSpan 16 = .ok (.invokestatic 155, 3) := zk_of (zk_r (zk_r (zk_l (zk_r zdX12_isSpan_0))))
theorem dX12_isSpan_19 : decode cX12_isSpan 19 = .ok (.ifCond .eq 7, 3) := zk_of (zk_l (zk_l (zk_r (zk_r zdX12_isSpan_0))))
theorem dX12_isSpan_22 : decode cX12_isSpan 22 = .ok (.iconst 1, 1) := zk_of (zk_r (zk_l (zk_r (zk_r zdX12_isSpan_0))))
theorem dX12_isSpan_23 : decode cX12_isSpan 23 = .ok (.goto 4, 3) := zk_of (zk_r (zk_r (zk_r zdX12_isSpan_0)))
set_option maxRecDepth 20000 in
theorem ggX12_isSpan_X12_isIn : GoodIn wsX12_isSpan wsX12_isIn := ggi (fun w h => List.mem_cons_of_mem _ (List.mem_append_right _ h)) gs_X12_isIn
set_option maxRecDepth 20000 in
theorem gX12_isSpan_X12_isIn : GoodIn wsX12_isSpan (va_wsS RX12 155 yX12_isIn wsX12_isIn) := goodIn_app (goodIn_of _ (by decide +kernel)) ggX12_isSpan_X12_isIn
/-- HissHornModel.isSpan(II)Z -/
def rmX12_isSpan : Room := { frames := 1, cells := 0, slots := 0, locals := 22 }
def fX12_isSpan (x0 : Int32) (x1 : Int32) : Option Int32 := ((fX12_isIn x0 0 400).bind fun r1 => (if r1 = 0 then (gd (isB 0) (some 0)) else ((fX12_isIn x1 x0 400).bind fun r5 => (if r5 = 0 then (gd (isB 0) (some 0)) else (gd (isB 1) (some 1))))))
set_option maxHeartbeats 4000000 in
set_option maxRecDepth 100000 in
theorem wX12_isSpan {p : Program} {l : Launch} {e : Env} {s : State} {m : MethodId} {args : Array Value} {below : List Frame} {meth : Method} {c : Code} {D : va_G} {cy : Nat → ClassId} {st : Nat → Nat} (C : Cx RX12 cX12_isSpan 2 (some .boolean) wsX12_isSpan p s m args meth c) (hK : Ky D [(cy 0, .int), (cy 1, .long), (cy 2, .boolean), (cy 3, .byte), (cy 4, .object "HissHorn$Text")] st s) (x0 : Int32) (x1 : Int32) {r : Int32} {H : Heap} {locs : List Loc} {ls : Array Slot} (h : fX12_isSpan x0 x1 = some r) (hP : va_P D vwCl (V0 u00) H) (hS : va_S (Ax (A0) s.heap.size) s.heap H locs) (hl : lv_has ls 2 [(0, .int x0), (1, .int x1)]) : W p l e rmX12_isSpan s m args below meth c H locs 0 0 (MQ below (Qi D (V0) (A0) s.heap.size r u00) args s 0 0 (Ax (A0) s.heap.size)) (F0 m 0 ls []) := by
  unfold fX12_isSpan at h
  refine lv_iload_n C.1 C.2.1 dX12_isSpan_0 rfl (lv_at hl 0 rfl) ?_
  refine lv_iconst (v := 0) C.1 C.2.1 dX12_isSpan_1 (by decide) ?_
  refine lv_sipush (v := 400) C.1 C.2.1 dX12_isSpan_2 (by decide) ?_
  obtain ⟨r1, hc3, h⟩ := bd_some h
  refine cs_i (As := [.int x0, .int 0, .int 400]) (rest := []) A0_ge C hK hP hS (metX12_isIn l D cy st _ x0 0 400 hc3) (va_cwS 3 C.2.2.2.2.2.1 gX12_isSpan_X12_isIn rfl rfl rfl (by decide +kernel) ⟨(Nat.le_of_ble_eq_true rfl), (Nat.le_of_ble_eq_true rfl)⟩) rfl hl.1 rfl (Nat.le_of_ble_eq_true rfl) dX12_isSpan_5 ⟨Nat.zero_le _, Nat.zero_le _⟩ (fun H locs hP hS => ?_)
  refine lv_if_eq (tgt := 26) C.1 C.2.1 dX12_isSpan_8 (by decide) (fun c8 => ?_) (fun c8 => ?_)
  · rw [if_pos c8] at h
    refine lv_iconst (v := 0) C.1 C.2.1 dX12_isSpan_26 (by decide) ?_
    obtain ⟨hg4, h⟩ := gd_some h
    cases h
    exact rt_z hg4 C hP hS dX12_isSpan_27
  · rw [if_neg c8] at h
    refine lv_iload_n C.1 C.2.1 dX12_isSpan_11 rfl (lv_at hl 1 rfl) ?_
    refine lv_iload_n C.1 C.2.1 dX12_isSpan_12 rfl (lv_at hl 0 rfl) ?_
    refine lv_sipush (v := 400) C.1 C.2.1 dX12_isSpan_13 (by decide) ?_
    obtain ⟨r5, hc7, h⟩ := bd_some h
    refine cs_i (As := [.int x1, .int x0, .int 400]) (rest := []) A0_ge C hK hP hS (metX12_isIn l D cy st _ x1 x0 400 hc7) (va_cwS 3 C.2.2.2.2.2.1 gX12_isSpan_X12_isIn rfl rfl rfl (by decide +kernel) ⟨(Nat.le_of_ble_eq_true rfl), (Nat.le_of_ble_eq_true rfl)⟩) rfl hl.1 rfl (Nat.le_of_ble_eq_true rfl) dX12_isSpan_16 ⟨Nat.zero_le _, Nat.zero_le _⟩ (fun H locs hP hS => ?_)
    refine lv_if_eq (tgt := 26) C.1 C.2.1 dX12_isSpan_19 (by decide) (fun c19 => ?_) (fun c19 => ?_)
    · rw [if_pos c19] at h
      refine lv_iconst (v := 0) C.1 C.2.1 dX12_isSpan_26 (by decide) ?_
      obtain ⟨hg8, h⟩ := gd_some h
      cases h
      exact rt_z hg8 C hP hS dX12_isSpan_27
    · rw [if_neg c19] at h
      refine lv_iconst (v := 1) C.1 C.2.1 dX12_isSpan_22 (by decide) ?_
      refine lv_goto (tgt := 27) C.1 C.2.1 dX12_isSpan_23 (by decide) ?_
      obtain ⟨hg9, h⟩ := gd_some h
      cases h
      exact rt_z hg9 C hP hS dX12_isSpan_27
theorem metX12_isSpan (l : Launch) (D : va_G) (cy : Nat → ClassId) (st : Nat → Nat) (sz : Nat) (x0 : Int32) (x1 : Int32) {r : Int32} (h : fX12_isSpan x0 x1 = some r) : Met l yX12_isSpan wsX12_isSpan rmX12_isSpan (va_Pc [.int x0, .int x1] (Px D [(cy 0, .int), (cy 1, .long), (cy 2, .boolean), (cy 3, .byte), (cy 4, .object "HissHorn$Text")] st V0 sz u00)) (Qi D V0 A0 sz r u00) 0 0 (Ax A0 sz) := by
  refine Met.ofW (cc := cX12_isSpan) (maxL := 2) (ret := (some .boolean)) (by decide) rfl ?_
  intro p e s m args below meth c s₁ B hml hv
  obtain ⟨rfl, hsz, hP, hK⟩ := hv
  subst hsz
  have C : Cx RX12 cX12_isSpan 2 (some .boolean) wsX12_isSpan p s m _ meth c := ⟨B.exec, B.bytes, hml, B.returns, findClass_of_methodNamed B.named, atoms_spec (ws := wsX12_isSpan) B.pre, B.notSynchronized⟩
  have hl := lv_entry ([.int x0, .int x1]) (n := 2) (Nat.le_of_ble_eq_true rfl)
  rw [lg_entry_eq]
  exact wX12_isSpan C hK x0 x1 h hP va_S.rf hl

theorem zdX12_part__0 : (and (and (and (and (and (zk cX12_part_ 0 (.aload_n 0) 1) (zk cX12_part_ 1 (.iconst 0) 1)) (and (zk cX12_part_ 2 (.putfield 151) 3) (zk cX12_part_ 5 (.aload_n 0) 1))) (and (and (zk cX12_part_ 6 (.getfield 286) 3) (zk cX12_part_ 9 (.bipush 12) 2)) (and (zk cX12_part_ 11 (.if_icmp .eq 39) 3) (zk cX12_part_ 50 (.iconst (-1)) 1)))) (and (and (and (zk cX12_part_ 51 (.ireturn) 1) (zk cX12_part_ 14 (.iload_n 1) 1)) (and (zk cX12_part_ 15 (.iconst 0) 1) (zk cX12_part_ 16 (.aload_n 0) 1))) (and (and (zk cX12_part_ 17 (.getfield 20) 3) (zk cX12_part_ 20 (.iconst 0) 1)) (and (zk cX12_part_ 21 (.iaload) 1) (zk cX12_part_ 22 (.iconst 1) 1))))) (and (and (and (and (zk cX12_part_ 23 (.isub) 1) (zk cX12_part_ 24 (.invokestatic 155) 3)) (and (zk cX12_part_ 27 (.ifCond .eq 23) 3) (zk cX12_part_ 30 (.iload_n 2) 1))) (and (and (zk cX12_part_ 31 (.iload_n 3) 1) (zk cX12_part_ 32 (.invokestatic 289) 3)) (and (zk cX12_part_ 35 (.ifCond .eq 15) 3) (zk cX12_part_ 38 (.iload 4) 2)))) (and (and (and (zk cX12_part_ 40 (.iconst 0) 1) (zk cX12_part_ 41 (.sipush 400) 3)) (and (zk cX12_part_ 44 (.invokestatic 155) 3) (zk cX12_part_ 47 (.ifCond .ne 5) 3))) (and (and (zk cX12_part_ 52 (.aload_n 0) 1) (zk cX12_part_ 53 (.getfield 35) 3)) (and (zk cX12_part_ 56 (.aload_n 0) 1) (zk cX12_part_ 57 (.getfield 286) 3)))))) = true := by decide +kernel
theorem dX12_part__0 : decode cX12_part_ 0 = .ok (.aload_n 0, 1) := zk_of (zk_l (zk_l (zk_l (zk_l (zk_l zdX12_part__0)))))
theorem dX12_part__1 : decode cX12_part_ 1 = .ok (.iconst 0, 1) := zk_of (zk_r (zk_l (zk_l (zk_l (zk_l zdX12_part__0)))))
theorem dX12_part__2 : decode cX12_part_ 2 = .ok (.putfield 151, 3) := zk_of (zk_l (zk_r (zk_l (zk_l (zk_l zdX12_part__0)))))
theorem dX12_part__5 : decode cX12_part_ 5 = .ok (.aload_n 0, 1) := zk_of (zk_r (zk_r (zk_l (zk_l (zk_l zdX12_part__0)))))
theorem dX12_part__6 : decode cX12_part_ 6 = .ok (.getfield 286, 3) := zk_of (zk_l (zk_l (zk_r (zk_l (zk_l zdX12_part__0)))))
theorem dX12_part__9 : decode cX12_part_ 9 = .ok (.bipush 12, 2) := zk_of (zk_r (zk_l (zk_r (zk_l (zk_l zdX12_part__0)))))
theorem dX12_part__11 : decode cX12_part_ 11 = .ok (.if_icmp .eq 39, 3) := zk_of (zk_l (zk_r (zk_r (zk_l (zk_l zdX12_part__0)))))
theorem dX12_part__50 : decode cX12_part_ 50 = .ok (.iconst (-1), 1) := zk_of (zk_r (zk_r (zk_r (zk_l (zk_l zdX12_part__0)))))
theorem dX12_part__51 : decode cX12_part_ 51 = .ok (.ireturn, 1) := zk_of (zk_l (zk_l (zk_l (zk_r (zk_l zdX12_part__0)))))
theorem dX12_part__14 : decode cX12_part_ 14 = .ok (.iload_n 1, 1) := zk_of (zk_r (zk_l (zk_l (zk_r (zk_l zdX12_part__0)))))
theorem dX12_part__15 : decode cX12_part_ 15 = .ok (.iconst 0, 1) := zk_of (zk_l (zk_r (zk_l (zk_r (zk_l zdX12_part__0)))))
theorem dX12_part__16 : decode cX12_part_ 16 = .ok (.aload_n 0, 1) := zk_of (zk_r (zk_r (zk_l (zk_r (zk_l zdX12_part__0)))))
theorem dX12_part__17 : decode cX12_part_ 17 = .ok (.getfield 20, 3) := zk_of (zk_l (zk_l (zk_r (zk_r (zk_l zdX12_part__0)))))
theorem dX12_part__20 : decode cX12_part_ 20 = .ok (.iconst 0, 1) := zk_of (zk_r (zk_l (zk_r (zk_r (zk_l zdX12_part__0)))))
theorem dX12_part__21 : decode cX12_part_ 21 = .ok (.iaload, 1) := zk_of (zk_l (zk_r (zk_r (zk_r (zk_l zdX12_part__0)))))
theorem dX12_part__22 : decode cX12_part_ 22 = .ok (.iconst 1, 1) := zk_of (zk_r (zk_r (zk_r (zk_r (zk_l zdX12_part__0)))))
theorem dX12_part__23 : decode cX12_part_ 23 = .ok (.isub, 1) := zk_of (zk_l (zk_l (zk_l (zk_l (zk_r zdX12_part__0)))))
theorem dX12_part__24 : decode cX12_part_ 24 = .ok (.invokestatic 155, 3) := zk_of (zk_r (zk_l (zk_l (zk_l (zk_r zdX12_part__0)))))
theorem dX12_part__27 : decode cX12_part_ 27 = .ok (.ifCond .eq 23, 3) := zk_of (zk_l (zk_r (zk_l (zk_l (zk_r zdX12_part__0)))))
theorem dX12_part__30 : decode cX12_part_ 30 = .ok (.iload_n 2, 1) := zk_of (zk_r (zk_r (zk_l (zk_l (zk_r zdX12_part__0)))))
theorem dX12_part__31 : decode cX12_part_ 31 = .ok (.iload_n 3, 1) := zk_of (zk_l (zk_l (zk_r (zk_l (zk_r zdX12_part__0)))))
theorem dX12_part__32 : decode cX12_part_ 32 = .ok (.invokestatic 289, 3) := zk_of (zk_r (zk_l (zk_r (zk_l (zk_r zdX12_part__0)))))
theorem dX12_part__35 : decode cX12_part_ 35 = .ok (.ifCond .eq 15, 3) := zk_of (zk_l (zk_r (zk_r (zk_l (zk_r zdX12_part__0)))))
theorem dX12_part__38 : decode cX12_part_ 38 = .ok (.iload 4, 2) := zk_of (zk_r (zk_r (zk_r (zk_l (zk_r zdX12_part__0)))))
theorem dX12_part__40 : decode cX12_part_ 40 = .ok (.iconst 0, 1) := zk_of (zk_l (zk_l (zk_l (zk_r (zk_r zdX12_part__0)))))
theorem dX12_part__41 : decode cX12_part_ 41 = .ok (.sipush 400, 3) := zk_of (zk_r (zk_l (zk_l (zk_r (zk_r zdX12_part__0)))))
theorem dX12_part__44 : decode cX12_part_ 44 = .ok (.invokestatic 155, 3) := zk_of (zk_l (zk_r (zk_l (zk_r (zk_r zdX12_part__0)))))
theorem dX12_part__47 : decode cX12_part_ 47 = .ok (.ifCond .ne 5, 3) := zk_of (zk_r (zk_r (zk_l (zk_r (zk_r zdX12_part__0)))))
theorem dX12_part__52 : decode cX12_part_ 52 = .ok (.aload_n 0, 1) := zk_of (zk_l (zk_l (zk_r (zk_r (zk_r zdX12_part__0)))))
theorem dX12_part__53 : decode cX12_part_ 53 = .ok (.getfield 35, 3) := zk_of (zk_r (zk_l (zk_r (zk_r (zk_r zdX12_part__0)))))
theorem dX12_part__56 : decode cX12_part_ 56 = .ok (.aload_n 0, 1) := zk_of (zk_l (zk_r (zk_r (zk_r (zk_r zdX12_part__0)))))
theorem dX12_part__57 : decode cX12_part_ 57 = .ok (.getfield 286, 3) := zk_of (zk_r (zk_r (zk_r (zk_r (zk_r zdX12_part__0)))))
set_option maxRecDepth 20000 in
theorem ggX12_part__X12_isIn : GoodIn wsX12_part_ wsX12_isIn := ggi (fun w h => List.mem_cons_of_mem _ (List.mem_append_left _ (List.mem_append_right _ (List.mem_append_left _ h)))) gs_X12_isIn
set_option maxRecDepth 20000 in
theorem gX12_part__X12_isIn : GoodIn wsX12_part_ (va_wsS RX12 155 yX12_isIn wsX12_isIn) := goodIn_app (goodIn_of _ (by decide +kernel)) ggX12_part__X12_isIn
set_option maxRecDepth 20000 in
theorem ggX12_part__X12_isSpan : GoodIn wsX12_part_ wsX12_isSpan := ggi (fun w h => List.mem_cons_of_mem _ (List.mem_append_left _ (List.mem_append_right _ (List.mem_append_right _ h)))) gs_X12_isSpan
set_option maxRecDepth 20000 in
theorem gX12_part__X12_isSpan : GoodIn wsX12_part_ (va_wsS RX12 289 yX12_isSpan wsX12_isSpan) := goodIn_app (goodIn_of _ (by decide +kernel)) ggX12_part__X12_isSpan
theorem zdX12_part__60 : (and (and (and (and (and (zk cX12_part_ 60 (.iload_n 1) 1) (zk cX12_part_ 61 (.iastore) 1)) (and (zk cX12_part_ 62 (.aload_n 0) 1) (zk cX12_part_ 63 (.getfield 38) 3))) (and (and (zk cX12_part_ 66 (.aload_n 0) 1) (zk cX12_part_ 67 (.getfield 286) 3)) (and (zk cX12_part_ 70 (.iload_n 2) 1) (zk cX12_part_ 71 (.iastore) 1)))) (and (and (and (zk cX12_part_ 72 (.aload_n 0) 1) (zk cX12_part_ 73 (.getfield 41) 3)) (and (zk cX12_part_ 76 (.aload_n 0) 1) (zk cX12_part_ 77 (.getfield 286) 3))) (and (and (zk cX12_part_ 80 (.iload_n 3) 1) (zk cX12_part_ 81 (.iastore) 1)) (and (zk cX12_part_ 82 (.aload_n 0) 1) (zk cX12_part_ 83 (.getfield 44) 3))))) (and (and (and (and (zk cX12_part_ 86 (.aload_n 0) 1) (zk cX12_part_ 87 (.getfield 286) 3)) (and (zk cX12_part_ 90 (.iload 4) 2) (zk cX12_part_ 92 (.iastore) 1))) (and (and (zk cX12_part_ 93 (.aload_n 0) 1) (zk cX12_part_ 94 (.getfield 47) 3)) (and (zk cX12_part_ 97 (.aload_n 0) 1) (zk cX12_part_ 98 (.getfield 286) 3)))) (and (and (and (zk cX12_part_ 101 (.aload_n 0) 1) (zk cX12_part_ 102 (.getfield 159) 3)) (and (zk cX12_part_ 105 (.iastore) 1) (zk cX12_part_ 106 (.aload_n 0) 1))) (and (and (zk cX12_part_ 107 (.dup) 1) (zk cX12_part_ 108 (.getfield 286) 3)) (and (zk cX12_part_ 111 (.iconst 1) 1) (zk cX12_part_ 112 (.iadd) 1)))))) = true := by decide +kernel
theorem dX12_part__60 : decode cX12_part_ 60 = .ok (.iload_n 1, 1) := zk_of (zk_l (zk_l (zk_l (zk_l (zk_l zdX12_part__60)))))
theorem dX12_part__61 : decode cX12_part_ 61 = .ok (.iastore, 1) := zk_of (zk_r (zk_l (zk_l (zk_l (zk_l zdX12_part__60)))))
theorem dX12_part__62 : decode cX12_part_ 62 = .ok (.aload_n 0, 1) := zk_of (zk_l (zk_r (zk_l (zk_l (zk_l zdX12_part__60)))))
theorem dX12_part__63 : decode cX12_part_ 63 = .ok (.getfield 38, 3) := zk_of (zk_r (zk_r (zk_l (zk_l (zk_l zdX12_part__60)))))
theorem dX12_part__66 : decode cX12_part_ 66 = .ok (.aload_n 0, 1) := zk_of (zk_l (zk_l (zk_r (zk_l (zk_l zdX12_part__60)))))
theorem dX12_part__67 : decode cX12_part_ 67 = .ok (.getfield 286, 3) := zk_of (zk_r (zk_l (zk_r (zk_l (zk_l zdX12_part__60)))))
theorem dX12_part__70 : decode cX12_part_ 70 = .ok (.iload_n 2, 1) := zk_of (zk_l (zk_r (zk_r (zk_l (zk_l zdX12_part__60)))))
theorem dX12_part__71 : decode cX12_part_ 71 = .ok (.iastore, 1) := zk_of (zk_r (zk_r (zk_r (zk_l (zk_l zdX12_part__60)))))
theorem dX12_part__72 : decode cX12_part_ 72 = .ok (.aload_n 0, 1) := zk_of (zk_l (zk_l (zk_l (zk_r (zk_l zdX12_part__60)))))
theorem dX12_part__73 : decode cX12_part_ 73 = .ok (.getfield 41, 3) := zk_of (zk_r (zk_l (zk_l (zk_r (zk_l zdX12_part__60)))))
theorem dX12_part__76 : decode cX12_part_ 76 = .ok (.aload_n 0, 1) := zk_of (zk_l (zk_r (zk_l (zk_r (zk_l zdX12_part__60)))))
theorem dX12_part__77 : decode cX12_part_ 77 = .ok (.getfield 286, 3) := zk_of (zk_r (zk_r (zk_l (zk_r (zk_l zdX12_part__60)))))
theorem dX12_part__80 : decode cX12_part_ 80 = .ok (.iload_n 3, 1) := zk_of (zk_l (zk_l (zk_r (zk_r (zk_l zdX12_part__60)))))
theorem dX12_part__81 : decode cX12_part_ 81 = .ok (.iastore, 1) := zk_of (zk_r (zk_l (zk_r (zk_r (zk_l zdX12_part__60)))))
theorem dX12_part__82 : decode cX12_part_ 82 = .ok (.aload_n 0, 1) := zk_of (zk_l (zk_r (zk_r (zk_r (zk_l zdX12_part__60)))))
theorem dX12_part__83 : decode cX12_part_ 83 = .ok (.getfield 44, 3) := zk_of (zk_r (zk_r (zk_r (zk_r (zk_l zdX12_part__60)))))
theorem dX12_part__86 : decode cX12_part_ 86 = .ok (.aload_n 0, 1) := zk_of (zk_l (zk_l (zk_l (zk_l (zk_r zdX12_part__60)))))
theorem dX12_part__87 : decode cX12_part_ 87 = .ok (.getfield 286, 3) := zk_of (zk_r (zk_l (zk_l (zk_l (zk_r zdX12_part__60)))))
theorem dX12_part__90 : decode cX12_part_ 90 = .ok (.iload 4, 2) := zk_of (zk_l (zk_r (zk_l (zk_l (zk_r zdX12_part__60)))))
theorem dX12_part__92 : decode cX12_part_ 92 = .ok (.iastore, 1) := zk_of (zk_r (zk_r (zk_l (zk_l (zk_r zdX12_part__60)))))
theorem dX12_part__93 : decode cX12_part_ 93 = .ok (.aload_n 0, 1) := zk_of (zk_l (zk_l (zk_r (zk_l (zk_r zdX12_part__60)))))
theorem dX12_part__94 : decode cX12_part_ 94 = .ok (.getfield 47, 3) := zk_of (zk_r (zk_l (zk_r (zk_l (zk_r zdX12_part__60)))))
theorem dX12_part__97 : decode cX12_part_ 97 = .ok (.aload_n 0, 1) := zk_of (zk_l (zk_r (zk_r (zk_l (zk_r zdX12_part__60)))))
theorem dX12_part__98 : decode cX12_part_ 98 = .ok (.getfield 286, 3) := zk_of (zk_r (zk_r (zk_r (zk_l (zk_r zdX12_part__60)))))
theorem dX12_part__101 : decode cX12_part_ 101 = .ok (.aload_n 0, 1) := zk_of (zk_l (zk_l (zk_l (zk_r (zk_r zdX12_part__60)))))
theorem dX12_part__102 : decode cX12_part_ 102 = .ok (.getfield 159, 3) := zk_of (zk_r (zk_l (zk_l (zk_r (zk_r zdX12_part__60)))))
theorem dX12_part__105 : decode cX12_part_ 105 = .ok (.iastore, 1) := zk_of (zk_l (zk_r (zk_l (zk_r (zk_r zdX12_part__60)))))
theorem dX12_part__106 : decode cX12_part_ 106 = .ok (.aload_n 0, 1) := zk_of (zk_r (zk_r (zk_l (zk_r (zk_r zdX12_part__60)))))
theorem dX12_part__107 : decode cX12_part_ 107 = .ok (.dup, 1) := zk_of (zk_l (zk_l (zk_r (zk_r (zk_r zdX12_part__60)))))
theorem dX12_part__108 : decode cX12_part_ 108 = .ok (.getfield 286, 3) := zk_of (zk_r (zk_l (zk_r (zk_r (zk_r zdX12_part__60)))))
theorem dX12_part__111 : decode cX12_part_ 111 = .ok (.iconst 1, 1) := zk_of (zk_l (zk_r (zk_r (zk_r (zk_r zdX12_part__60)))))
theorem dX12_part__112 : decode cX12_part_ 112 = .ok (.iadd, 1) := zk_of (zk_r (zk_r (zk_r (zk_r (zk_r zdX12_part__60)))))
theorem zdX12_part__113 : (and (and (and (zk cX12_part_ 113 (.putfield 286) 3) (zk cX12_part_ 116 (.aload_n 0) 1)) (zk cX12_part_ 117 (.getfield 286) 3)) (and (and (zk cX12_part_ 120 (.iconst 1) 1) (zk cX12_part_ 121 (.isub) 1)) (zk cX12_part_ 122 (.ireturn) 1))) = true := by decide +kernel
theorem dX12_part__113 : decode cX12_part_ 113 = .ok (.putfield 286, 3) := zk_of (zk_l (zk_l (zk_l zdX12_part__113)))
theorem dX12_part__116 : decode cX12_part_ 116 = .ok (.aload_n 0, 1) := zk_of (zk_r (zk_l (zk_l zdX12_part__113)))
theorem dX12_part__117 : decode cX12_part_ 117 = .ok (.getfield 286, 3) := zk_of (zk_r (zk_l zdX12_part__113))
theorem dX12_part__120 : decode cX12_part_ 120 = .ok (.iconst 1, 1) := zk_of (zk_l (zk_l (zk_r zdX12_part__113)))
theorem dX12_part__121 : decode cX12_part_ 121 = .ok (.isub, 1) := zk_of (zk_r (zk_l (zk_r zdX12_part__113)))
theorem dX12_part__122 : decode cX12_part_ 122 = .ok (.ireturn, 1) := zk_of (zk_r (zk_r zdX12_part__113))
/-- HissHornModel.part(IIII)I of cell 0 -/
def rmX12_part__0 : Room := { frames := 2, cells := 0, slots := 0, locals := 43 }
theorem hX12_part__0_X12 : ∀ w ∈ u_ws RX12 TX12 69, w ∈ wsX12_part_ := fun w h => (List.mem_cons_of_mem _ (List.mem_append_right _ h))
theorem mX12_part__0_1 : Cond.fieldLink RX12 151 "HissHornModel" "thrown" "I" ∈ wsX12_part_ := (List.mem_cons_of_mem _ (List.mem_append_left _ (List.mem_append_left _ (List.mem_of_getElem? (i := 5) rfl))))
theorem mX12_part__0_2 : Cond.fieldLink RX12 286 "HissHornModel" "parts" "I" ∈ wsX12_part_ := (List.mem_cons_of_mem _ (List.mem_append_left _ (List.mem_append_left _ (List.mem_of_getElem? (i := 6) rfl))))
theorem mX12_part__0_3 : Cond.fieldLink RX12 20 "HissHornModel" "textMany" "[I" ∈ wsX12_part_ := (List.mem_cons_of_mem _ (List.mem_append_left _ (List.mem_append_left _ (List.mem_of_getElem? (i := 7) rfl))))
theorem mX12_part__0_4 : Cond.fieldLink RX12 35 "HissHornModel" "partLaw" "[I" ∈ wsX12_part_ := (List.mem_cons_of_mem _ (List.mem_append_left _ (List.mem_append_left _ (List.mem_of_getElem? (i := 8) rfl))))
theorem mX12_part__0_5 : Cond.fieldLink RX12 38 "HissHornModel" "partFrom" "[I" ∈ wsX12_part_ := (List.mem_cons_of_mem _ (List.mem_append_left _ (List.mem_append_left _ (List.mem_of_getElem? (i := 9) rfl))))
theorem mX12_part__0_6 : Cond.fieldLink RX12 41 "HissHornModel" "partTo" "[I" ∈ wsX12_part_ := (List.mem_cons_of_mem _ (List.mem_append_left _ (List.mem_append_left _ (List.mem_of_getElem? (i := 10) rfl))))
theorem mX12_part__0_7 : Cond.fieldLink RX12 44 "HissHornModel" "truly" "[I" ∈ wsX12_part_ := (List.mem_cons_of_mem _ (List.mem_append_left _ (List.mem_append_left _ (List.mem_of_getElem? (i := 11) rfl))))
theorem mX12_part__0_8 : Cond.fieldLink RX12 47 "HissHornModel" "partTold" "[I" ∈ wsX12_part_ := (List.mem_cons_of_mem _ (List.mem_append_left _ (List.mem_append_left _ (List.mem_of_getElem? (i := 12) rfl))))
theorem mX12_part__0_9 : Cond.fieldLink RX12 159 "HissHornModel" "now" "I" ∈ wsX12_part_ := (List.mem_cons_of_mem _ (List.mem_append_left _ (List.mem_append_left _ (List.mem_of_getElem? (i := 13) rfl))))
def fX12_part__0 (x1 : Int32) (x2 : Int32) (x3 : Int32) (x4 : Int32) (u : SX) : Option (Int32 × SX) := (lt (sI u 0 0) fun u1 => (if (u1.1 12) = 12 then (some ((-1), u1)) else (gd (inb 0 3) ((fX12_isIn x1 0 ((u1.2.1 4 (0 : Int32).toNatClampNeg) - 1)).bind fun r4 => (if r4 = 0 then (some ((-1), u1)) else ((fX12_isSpan x2 x3).bind fun r7 => (if r7 = 0 then (some ((-1), u1)) else ((fX12_isIn x4 0 400).bind fun r10 => (if r10 = 0 then (some ((-1), u1)) else (gd (inb (u1.1 12) 12) (lt (sA u1 6 (upd (u1.2.1 6) (u1.1 12).toNatClampNeg x1)) fun u14 => (gd (inb (u14.1 12) 12) (lt (sA u14 7 (upd (u14.2.1 7) (u14.1 12).toNatClampNeg x2)) fun u17 => (gd (inb (u17.1 12) 12) (lt (sA u17 8 (upd (u17.2.1 8) (u17.1 12).toNatClampNeg x3)) fun u20 => (gd (inb (u20.1 12) 12) (lt (sA u20 9 (upd (u20.2.1 9) (u20.1 12).toNatClampNeg x4)) fun u23 => (gd (inb (u23.1 12) 12) (lt (sA u23 10 (upd (u23.2.1 10) (u23.1 12).toNatClampNeg (u23.1 1))) fun u26 => (lt (sI u26 12 ((u26.1 12) + 1)) fun u28 => (some ((u28.1 12) - 1, u28))))))))))))))))))))))
set_option maxHeartbeats 4000000 in
set_option maxRecDepth 100000 in
theorem wX12_part__0 {p : Program} {l : Launch} {e : Env} {s : State} {m : MethodId} {args : Array Value} {below : List Frame} {meth : Method} {c : Code} {D : va_G} {cy : Nat → ClassId} {ad st : Nat → Nat} (C : Cx RX12 cX12_part_ 5 (some .int) wsX12_part_ p s m args meth c) (hK : Ky D [(cy 0, .int), (cy 1, .long), (cy 2, .boolean), (cy 3, .byte), (cy 4, .object "HissHorn$Text")] st s) (hJ : JM ad st) (x1 : Int32) (x2 : Int32) (x3 : Int32) (x4 : Int32) {u : SX} {r : Int32} {u' : SX} {H : Heap} {locs : List Loc} {ls : Array Slot} (h : fX12_part__0 x1 x2 x3 x4 u = some (r, u')) (hP : va_P D vwCl (VM cy ad st u) H) (hS : va_S (Ax (AM ad) s.heap.size) s.heap H locs) (hl : lv_has ls 5 [(0, .ref (ad 0)), (1, .int x1), (2, .int x2), (3, .int x3), (4, .int x4)]) : W p l e rmX12_part__0 s m args below meth c H locs 0 0 (MQ below (Qi D (VM cy ad st) (AM ad) s.heap.size r u') args s 0 0 (Ax (AM ad) s.heap.size)) (F0 m 0 ls []) := by
  unfold fX12_part__0 at h
  refine lv_aload_n C.1 C.2.1 dX12_part__0 rfl (lv_at hl 0 rfl) ?_
  refine lv_iconst (v := 0) C.1 C.2.1 dX12_part__1 (by decide) ?_
  refine pM_0_thrown C hX12_part__0_X12 hK hP hJ hS mX12_part__0_1 dX12_part__2 (fun H locs hP hS => ?_)
  obtain ⟨u1, hu2, h⟩ := lt_some h
  rw [← hu2] at hP
  refine lv_aload_n C.1 C.2.1 dX12_part__5 rfl (lv_at hl 0 rfl) ?_
  refine gM_0_parts C hX12_part__0_X12 hK hP mX12_part__0_2 dX12_part__6 ?_
  refine lv_bipush (v := 12) C.1 C.2.1 dX12_part__9 (by decide) ?_
  refine lv_icmp_eq (tgt := 50) C.1 C.2.1 dX12_part__11 (by decide) (fun c11 => ?_) (fun c11 => ?_)
  · rw [if_pos c11] at h
    refine lv_iconst (v := (-1)) C.1 C.2.1 dX12_part__50 (by decide) ?_
    cases h
    exact rt_i C hP hS dX12_part__51
  · rw [if_neg c11] at h
    refine lv_iload_n C.1 C.2.1 dX12_part__14 rfl (lv_at hl 1 rfl) ?_
    refine lv_iconst (v := 0) C.1 C.2.1 dX12_part__15 (by decide) ?_
    refine lv_aload_n C.1 C.2.1 dX12_part__16 rfl (lv_at hl 0 rfl) ?_
    refine gM_0_textMany C hX12_part__0_X12 hK hP mX12_part__0_3 dX12_part__17 ?_
    refine lv_iconst (v := 0) C.1 C.2.1 dX12_part__20 (by decide) ?_
    obtain ⟨hg3, h⟩ := gd_some h
    refine lM_4 C hK hP hg3 dX12_part__21 ?_
    refine lv_iconst (v := 1) C.1 C.2.1 dX12_part__22 (by decide) ?_
    refine lv_isub C.1 C.2.1 dX12_part__23 ?_
    obtain ⟨r4, hc6, h⟩ := bd_some h
    refine cs_i (As := [.int x1, .int 0, .int ((u1.2.1 4 (0 : Int32).toNatClampNeg) - 1)]) (rest := []) (AM_ge hJ) C hK hP hS (metX12_isIn l D cy st _ x1 0 ((u1.2.1 4 (0 : Int32).toNatClampNeg) - 1) hc6) (va_cwS 3 C.2.2.2.2.2.1 gX12_part__X12_isIn rfl rfl rfl (by decide +kernel) ⟨(Nat.le_of_ble_eq_true rfl), (Nat.le_of_ble_eq_true rfl)⟩) rfl hl.1 rfl (Nat.le_of_ble_eq_true rfl) dX12_part__24 ⟨Nat.zero_le _, Nat.zero_le _⟩ (fun H locs hP hS => ?_)
    refine lv_if_eq (tgt := 50) C.1 C.2.1 dX12_part__27 (by decide) (fun c27 => ?_) (fun c27 => ?_)
    · rw [if_pos c27] at h
      refine lv_iconst (v := (-1)) C.1 C.2.1 dX12_part__50 (by decide) ?_
      cases h
      exact rt_i C hP hS dX12_part__51
    · rw [if_neg c27] at h
      refine lv_iload_n C.1 C.2.1 dX12_part__30 rfl (lv_at hl 2 rfl) ?_
      refine lv_iload_n C.1 C.2.1 dX12_part__31 rfl (lv_at hl 3 rfl) ?_
      obtain ⟨r7, hc9, h⟩ := bd_some h
      refine cs_i (As := [.int x2, .int x3]) (rest := []) (AM_ge hJ) C hK hP hS (metX12_isSpan l D cy st _ x2 x3 hc9) (va_cwS 2 C.2.2.2.2.2.1 gX12_part__X12_isSpan rfl rfl rfl (by decide +kernel) ⟨(Nat.le_of_ble_eq_true rfl), (Nat.le_of_ble_eq_true rfl)⟩) rfl hl.1 rfl (Nat.le_of_ble_eq_true rfl) dX12_part__32 ⟨Nat.zero_le _, Nat.zero_le _⟩ (fun H locs hP hS => ?_)
      refine lv_if_eq (tgt := 50) C.1 C.2.1 dX12_part__35 (by decide) (fun c35 => ?_) (fun c35 => ?_)
      · rw [if_pos c35] at h
        refine lv_iconst (v := (-1)) C.1 C.2.1 dX12_part__50 (by decide) ?_
        cases h
        exact rt_i C hP hS dX12_part__51
      · rw [if_neg c35] at h
        refine lv_iload C.1 C.2.1 dX12_part__38 (lv_at hl 4 rfl) ?_
        refine lv_iconst (v := 0) C.1 C.2.1 dX12_part__40 (by decide) ?_
        refine lv_sipush (v := 400) C.1 C.2.1 dX12_part__41 (by decide) ?_
        obtain ⟨r10, hc12, h⟩ := bd_some h
        refine cs_i (As := [.int x4, .int 0, .int 400]) (rest := []) (AM_ge hJ) C hK hP hS (metX12_isIn l D cy st _ x4 0 400 hc12) (va_cwS 3 C.2.2.2.2.2.1 gX12_part__X12_isIn rfl rfl rfl (by decide +kernel) ⟨(Nat.le_of_ble_eq_true rfl), (Nat.le_of_ble_eq_true rfl)⟩) rfl hl.1 rfl (Nat.le_of_ble_eq_true rfl) dX12_part__44 ⟨Nat.zero_le _, Nat.zero_le _⟩ (fun H locs hP hS => ?_)
        refine lv_if_ne (tgt := 52) C.1 C.2.1 dX12_part__47 (by decide) (fun c47 => ?_) (fun c47 => ?_)
        · rw [if_neg c47] at h
          refine lv_aload_n C.1 C.2.1 dX12_part__52 rfl (lv_at hl 0 rfl) ?_
          refine gM_0_partLaw C hX12_part__0_X12 hK hP mX12_part__0_4 dX12_part__53 ?_
          refine lv_aload_n C.1 C.2.1 dX12_part__56 rfl (lv_at hl 0 rfl) ?_
          refine gM_0_parts C hX12_part__0_X12 hK hP mX12_part__0_2 dX12_part__57 ?_
          refine lv_iload_n C.1 C.2.1 dX12_part__60 rfl (lv_at hl 1 rfl) ?_
          obtain ⟨hg13, h⟩ := gd_some h
          refine tM_6 C hK hP hJ hS hg13 dX12_part__61 (fun H locs hP hS => ?_)
          obtain ⟨u14, hu15, h⟩ := lt_some h
          rw [← hu15] at hP
          refine lv_aload_n C.1 C.2.1 dX12_part__62 rfl (lv_at hl 0 rfl) ?_
          refine gM_0_partFrom C hX12_part__0_X12 hK hP mX12_part__0_5 dX12_part__63 ?_
          refine lv_aload_n C.1 C.2.1 dX12_part__66 rfl (lv_at hl 0 rfl) ?_
          refine gM_0_parts C hX12_part__0_X12 hK hP mX12_part__0_2 dX12_part__67 ?_
          refine lv_iload_n C.1 C.2.1 dX12_part__70 rfl (lv_at hl 2 rfl) ?_
          obtain ⟨hg16, h⟩ := gd_some h
          refine tM_7 C hK hP hJ hS hg16 dX12_part__71 (fun H locs hP hS => ?_)
          obtain ⟨u17, hu18, h⟩ := lt_some h
          rw [← hu18] at hP
          refine lv_aload_n C.1 C.2.1 dX12_part__72 rfl (lv_at hl 0 rfl) ?_
          refine gM_0_partTo C hX12_part__0_X12 hK hP mX12_part__0_6 dX12_part__73 ?_
          refine lv_aload_n C.1 C.2.1 dX12_part__76 rfl (lv_at hl 0 rfl) ?_
          refine gM_0_parts C hX12_part__0_X12 hK hP mX12_part__0_2 dX12_part__77 ?_
          refine lv_iload_n C.1 C.2.1 dX12_part__80 rfl (lv_at hl 3 rfl) ?_
          obtain ⟨hg19, h⟩ := gd_some h
          refine tM_8 C hK hP hJ hS hg19 dX12_part__81 (fun H locs hP hS => ?_)
          obtain ⟨u20, hu21, h⟩ := lt_some h
          rw [← hu21] at hP
          refine lv_aload_n C.1 C.2.1 dX12_part__82 rfl (lv_at hl 0 rfl) ?_
          refine gM_0_truly C hX12_part__0_X12 hK hP mX12_part__0_7 dX12_part__83 ?_
          refine lv_aload_n C.1 C.2.1 dX12_part__86 rfl (lv_at hl 0 rfl) ?_
          refine gM_0_parts C hX12_part__0_X12 hK hP mX12_part__0_2 dX12_part__87 ?_
          refine lv_iload C.1 C.2.1 dX12_part__90 (lv_at hl 4 rfl) ?_
          obtain ⟨hg22, h⟩ := gd_some h
          refine tM_9 C hK hP hJ hS hg22 dX12_part__92 (fun H locs hP hS => ?_)
          obtain ⟨u23, hu24, h⟩ := lt_some h
          rw [← hu24] at hP
          refine lv_aload_n C.1 C.2.1 dX12_part__93 rfl (lv_at hl 0 rfl) ?_
          refine gM_0_partTold C hX12_part__0_X12 hK hP mX12_part__0_8 dX12_part__94 ?_
          refine lv_aload_n C.1 C.2.1 dX12_part__97 rfl (lv_at hl 0 rfl) ?_
          refine gM_0_parts C hX12_part__0_X12 hK hP mX12_part__0_2 dX12_part__98 ?_
          refine lv_aload_n C.1 C.2.1 dX12_part__101 rfl (lv_at hl 0 rfl) ?_
          refine gM_0_now C hX12_part__0_X12 hK hP mX12_part__0_9 dX12_part__102 ?_
          obtain ⟨hg25, h⟩ := gd_some h
          refine tM_10 C hK hP hJ hS hg25 dX12_part__105 (fun H locs hP hS => ?_)
          obtain ⟨u26, hu27, h⟩ := lt_some h
          rw [← hu27] at hP
          refine lv_aload_n C.1 C.2.1 dX12_part__106 rfl (lv_at hl 0 rfl) ?_
          refine lv_dup C.1 C.2.1 dX12_part__107 rfl ?_
          refine gM_0_parts C hX12_part__0_X12 hK hP mX12_part__0_2 dX12_part__108 ?_
          refine lv_iconst (v := 1) C.1 C.2.1 dX12_part__111 (by decide) ?_
          refine lv_iadd C.1 C.2.1 dX12_part__112 ?_
          refine pM_0_parts C hX12_part__0_X12 hK hP hJ hS mX12_part__0_2 dX12_part__113 (fun H locs hP hS => ?_)
          obtain ⟨u28, hu29, h⟩ := lt_some h
          rw [← hu29] at hP
          refine lv_aload_n C.1 C.2.1 dX12_part__116 rfl (lv_at hl 0 rfl) ?_
          refine gM_0_parts C hX12_part__0_X12 hK hP mX12_part__0_2 dX12_part__117 ?_
          refine lv_iconst (v := 1) C.1 C.2.1 dX12_part__120 (by decide) ?_
          refine lv_isub C.1 C.2.1 dX12_part__121 ?_
          cases h
          exact rt_i C hP hS dX12_part__122
        · rw [if_pos c47] at h
          refine lv_iconst (v := (-1)) C.1 C.2.1 dX12_part__50 (by decide) ?_
          cases h
          exact rt_i C hP hS dX12_part__51
theorem metX12_part__0 (l : Launch) (D : va_G) (cy : Nat → ClassId) (ad st : Nat → Nat) (hJ : JM ad st) (sz : Nat) (x1 : Int32) (x2 : Int32) (x3 : Int32) (x4 : Int32) {u : SX} {r : Int32} {u' : SX} (h : fX12_part__0 x1 x2 x3 x4 u = some (r, u')) : Met l yX12_part_ wsX12_part_ rmX12_part__0 (va_Pc [.ref (ad 0), .int x1, .int x2, .int x3, .int x4] (Px D [(cy 0, .int), (cy 1, .long), (cy 2, .boolean), (cy 3, .byte), (cy 4, .object "HissHorn$Text")] st (VM cy ad st) sz u)) (Qi D (VM cy ad st) (AM ad) sz r u') 0 0 (Ax (AM ad) sz) := by
  refine Met.ofW (cc := cX12_part_) (maxL := 5) (ret := (some .int)) (by decide) rfl ?_
  intro p e s m args below meth c s₁ B hml hv
  obtain ⟨rfl, hsz, hP, hK⟩ := hv
  subst hsz
  have C : Cx RX12 cX12_part_ 5 (some .int) wsX12_part_ p s m _ meth c := ⟨B.exec, B.bytes, hml, B.returns, findClass_of_methodNamed B.named, atoms_spec (ws := wsX12_part_) B.pre, B.notSynchronized⟩
  have hl := lv_entry ([.ref (ad 0), .int x1, .int x2, .int x3, .int x4]) (n := 5) (Nat.le_of_ble_eq_true rfl)
  rw [lg_entry_eq]
  exact wX12_part__0 C hK hJ x1 x2 x3 x4 h hP va_S.rf hl

theorem zdX12_cutDown_54 : (and (and (and (and (and (zk cX12_cutDown 54 (.iastore) 1) (zk cX12_cutDown 55 (.aload_n 0) 1)) (and (zk cX12_cutDown 56 (.getfield 68) 3) (zk cX12_cutDown 59 (.iload_n 1) 1))) (and (and (zk cX12_cutDown 60 (.iload 4) 2) (zk cX12_cutDown 62 (.ifCond .eq 16) 3)) (and (zk cX12_cutDown 78 (.iload_n 3) 1) (zk cX12_cutDown 79 (.iastore) 1)))) (and (and (and (zk cX12_cutDown 80 (.return_) 1) (zk cX12_cutDown 65 (.aload_n 0) 1)) (and (zk cX12_cutDown 66 (.getfield 68) 3) (zk cX12_cutDown 69 (.iload_n 1) 1))) (and (and (zk cX12_cutDown 70 (.iaload) 1) (zk cX12_cutDown 71 (.iload_n 3) 1)) (and (zk cX12_cutDown 72 (.invokestatic 295) 3) (zk cX12_cutDown 75 (.goto 4) 3))))) (and (and (and (and (zk cX12_cutDown 28 (.istore 4) 2) (zk cX12_cutDown 30 (.aload_n 0) 1)) (and (zk cX12_cutDown 31 (.getfield 65) 3) (zk cX12_cutDown 34 (.iload_n 1) 1))) (and (and (zk cX12_cutDown 35 (.iload 4) 2) (zk cX12_cutDown 37 (.ifCond .eq 16) 3)) (and (zk cX12_cutDown 53 (.iload_n 2) 1) (zk cX12_cutDown 40 (.aload_n 0) 1)))) (and (and (and (zk cX12_cutDown 41 (.getfield 65) 3) (zk cX12_cutDown 44 (.iload_n 1) 1)) (and (zk cX12_cutDown 45 (.iaload) 1) (zk cX12_cutDown 46 (.iload_n 2) 1))) (and (and (zk cX12_cutDown 47 (.invokestatic 293) 3) (zk cX12_cutDown 50 (.goto 4) 3)) (and (zk cX12_cutDown 0 (.aload_n 0) 1) (zk cX12_cutDown 1 (.getfield 65) 3)))))) = true := by decide +kernel
theorem dX12_cutDown_54 : decode cX12_cutDown 54 = .ok (.iastore, 1) := zk_of (zk_l (zk_l (zk_l (zk_l (zk_l zdX12_cutDown_54)))))
theorem dX12_cutDown_55 : decode cX12_cutDown 55 = .ok (.aload_n 0, 1) := zk_of (zk_r (zk_l (zk_l (zk_l (zk_l zdX12_cutDown_54)))))
theorem dX12_cutDown_56 : decode cX12_cutDown 56 = .ok (.getfield 68, 3) := zk_of (zk_l (zk_r (zk_l (zk_l (zk_l zdX12_cutDown_54)))))
theorem dX12_cutDown_59 : decode cX12_cutDown 59 = .ok (.iload_n 1, 1) := zk_of (zk_r (zk_r (zk_l (zk_l (zk_l zdX12_cutDown_54)))))
theorem dX12_cutDown_60 : decode cX12_cutDown 60 = .ok (.iload 4, 2) := zk_of (zk_l (zk_l (zk_r (zk_l (zk_l zdX12_cutDown_54)))))
theorem dX12_cutDown_62 : decode cX12_cutDown 62 = .ok (.ifCond .eq 16, 3) := zk_of (zk_r (zk_l (zk_r (zk_l (zk_l zdX12_cutDown_54)))))
theorem dX12_cutDown_78 : decode cX12_cutDown 78 = .ok (.iload_n 3, 1) := zk_of (zk_l (zk_r (zk_r (zk_l (zk_l zdX12_cutDown_54)))))
theorem dX12_cutDown_79 : decode cX12_cutDown 79 = .ok (.iastore, 1) := zk_of (zk_r (zk_r (zk_r (zk_l (zk_l zdX12_cutDown_54)))))
theorem dX12_cutDown_80 : decode cX12_cutDown 80 = .ok (.return_, 1) := zk_of (zk_l (zk_l (zk_l (zk_r (zk_l zdX12_cutDown_54)))))
theorem dX12_cutDown_65 : decode cX12_cutDown 65 = .ok (.aload_n 0, 1) := zk_of (zk_r (zk_l (zk_l (zk_r (zk_l zdX12_cutDown_54)))))
theorem dX12_cutDown_66 : decode cX12_cutDown 66 = .ok (.getfield 68, 3) := zk_of (zk_l (zk_r (zk_l (zk_r (zk_l zdX12_cutDown_54)))))
theorem dX12_cutDown_69 : decode cX12_cutDown 69 = .ok (.iload_n 1, 1) := zk_of (zk_r (zk_r (zk_l (zk_r (zk_l zdX12_cutDown_54)))))
theorem dX12_cutDown_70 : decode cX12_cutDown 70 = .ok (.iaload, 1) := zk_of (zk_l (zk_l (zk_r (zk_r (zk_l zdX12_cutDown_54)))))
theorem dX12_cutDown_71 : decode cX12_cutDown 71 = .ok (.iload_n 3, 1) := zk_of (zk_r (zk_l (zk_r (zk_r (zk_l zdX12_cutDown_54)))))
theorem dX12_cutDown_72 : decode cX12_cutDown 72 = .ok (.invokestatic 295, 3) := zk_of (zk_l (zk_r (zk_r (zk_r (zk_l zdX12_cutDown_54)))))
theorem dX12_cutDown_75 : decode cX12_cutDown 75 = .ok (.goto 4, 3) := zk_of (zk_r (zk_r (zk_r (zk_r (zk_l zdX12_cutDown_54)))))
theorem dX12_cutDown_28 : decode cX12_cutDown 28 = .ok (.istore 4, 2) := zk_of (zk_l (zk_l (zk_l (zk_l (zk_r zdX12_cutDown_54)))))
theorem dX12_cutDown_30 : decode cX12_cutDown 30 = .ok (.aload_n 0, 1) := zk_of (zk_r (zk_l (zk_l (zk_l (zk_r zdX12_cutDown_54)))))
theorem dX12_cutDown_31 : decode cX12_cutDown 31 = .ok (.getfield 65, 3) := zk_of (zk_l (zk_r (zk_l (zk_l (zk_r zdX12_cutDown_54)))))
theorem dX12_cutDown_34 : decode cX12_cutDown 34 = .ok (.iload_n 1, 1) := zk_of (zk_r (zk_r (zk_l (zk_l (zk_r zdX12_cutDown_54)))))
theorem dX12_cutDown_35 : decode cX12_cutDown 35 = .ok (.iload 4, 2) := zk_of (zk_l (zk_l (zk_r (zk_l (zk_r zdX12_cutDown_54)))))
theorem dX12_cutDown_37 : decode cX12_cutDown 37 = .ok (.ifCond .eq 16, 3) := zk_of (zk_r (zk_l (zk_r (zk_l (zk_r zdX12_cutDown_54)))))
theorem dX12_cutDown_53 : decode cX12_cutDown 53 = .ok (.iload_n 2, 1) := zk_of (zk_l (zk_r (zk_r (zk_l (zk_r zdX12_cutDown_54)))))
theorem dX12_cutDown_40 : decode cX12_cutDown 40 = .ok (.aload_n 0, 1) := zk_of (zk_r (zk_r (zk_r (zk_l (zk_r zdX12_cutDown_54)))))
theorem dX12_cutDown_41 : decode cX12_cutDown 41 = .ok (.getfield 65, 3) := zk_of (zk_l (zk_l (zk_l (zk_r (zk_r zdX12_cutDown_54)))))
theorem dX12_cutDown_44 : decode cX12_cutDown 44 = .ok (.iload_n 1, 1) := zk_of (zk_r (zk_l (zk_l (zk_r (zk_r zdX12_cutDown_54)))))
theorem dX12_cutDown_45 : decode cX12_cutDown 45 = .ok (.iaload, 1) := zk_of (zk_l (zk_r (zk_l (zk_r (zk_r zdX12_cutDown_54)))))
theorem dX12_cutDown_46 : decode cX12_cutDown 46 = .ok (.iload_n 2, 1) := zk_of (zk_r (zk_r (zk_l (zk_r (zk_r zdX12_cutDown_54)))))
theorem dX12_cutDown_47 : decode cX12_cutDown 47 = .ok (.invokestatic 293, 3) := zk_of (zk_l (zk_l (zk_r (zk_r (zk_r zdX12_cutDown_54)))))
theorem dX12_cutDown_50 : decode cX12_cutDown 50 = .ok (.goto 4, 3) := zk_of (zk_r (zk_l (zk_r (zk_r (zk_r zdX12_cutDown_54)))))
theorem dX12_cutDown_0 : decode cX12_cutDown 0 = .ok (.aload_n 0, 1) := zk_of (zk_l (zk_r (zk_r (zk_r (zk_r zdX12_cutDown_54)))))
theorem dX12_cutDown_1 : decode cX12_cutDown 1 = .ok (.getfield 65, 3) := zk_of (zk_r (zk_r (zk_r (zk_r (zk_r zdX12_cutDown_54)))))
theorem zdX12_cutDown_4 : (and (and (and (and (zk cX12_cutDown 4 (.iload_n 1) 1) (zk cX12_cutDown 5 (.iaload) 1)) (and (zk cX12_cutDown 6 (.iload_n 2) 1) (zk cX12_cutDown 7 (.invokestatic 293) 3))) (and (and (zk cX12_cutDown 10 (.aload_n 0) 1) (zk cX12_cutDown 11 (.getfield 68) 3)) (zk cX12_cutDown 14 (.iload_n 1) 1))) (and (and (and (zk cX12_cutDown 15 (.iaload) 1) (zk cX12_cutDown 16 (.iload_n 3) 1)) (and (zk cX12_cutDown 17 (.invokestatic 295) 3) (zk cX12_cutDown 20 (.if_icmp .gt 7) 3))) (and (and (zk cX12_cutDown 27 (.iconst 0) 1) (zk cX12_cutDown 23 (.iconst 1) 1)) (zk cX12_cutDown 24 (.goto 4) 3)))) = true := by decide +kernel
theorem dX12_cutDown_4 : decode cX12_cutDown 4 = .ok (.iload_n 1, 1) := zk_of (zk_l (zk_l (zk_l (zk_l zdX12_cutDown_4))))
theorem dX12_cutDown_5 : decode cX12_cutDown 5 = .ok (.iaload, 1) := zk_of (zk_r (zk_l (zk_l (zk_l zdX12_cutDown_4))))
theorem dX12_cutDown_6 : decode cX12_cutDown 6 = .ok (.iload_n 2, 1) := zk_of (zk_l (zk_r (zk_l (zk_l zdX12_cutDown_4))))
theorem dX12_cutDown_7 : decode cX12_cutDown 7 = .ok (.invokestatic 293, 3) := zk_of (zk_r (zk_r (zk_l (zk_l zdX12_cutDown_4))))
theorem dX12_cutDown_10 : decode cX12_cutDown 10 = .ok (.aload_n 0, 1) := zk_of (zk_l (zk_l (zk_r (zk_l zdX12_cutDown_4))))
theorem dX12_cutDown_11 : decode cX12_cutDown 11 = .ok (.getfield 68, 3) := zk_of (zk_r (zk_l (zk_r (zk_l zdX12_cutDown_4))))
theorem dX12_cutDown_14 : decode cX12_cutDown 14 = .ok (.iload_n 1, 1) := zk_of (zk_r (zk_r (zk_l zdX12_cutDown_4)))
theorem dX12_cutDown_15 : decode cX12_cutDown 15 = .ok (.iaload, 1) := zk_of (zk_l (zk_l (zk_l (zk_r zdX12_cutDown_4))))
theorem dX12_cutDown_16 : decode cX12_cutDown 16 = .ok (.iload_n 3, 1) := zk_of (zk_r (zk_l (zk_l (zk_r zdX12_cutDown_4))))
theorem dX12_cutDown_17 : decode cX12_cutDown 17 = .ok (.invokestatic 295, 3) := zk_of (zk_l (zk_r (zk_l (zk_r zdX12_cutDown_4))))
theorem dX12_cutDown_20 : decode cX12_cutDown 20 = .ok (.if_icmp .gt 7, 3) := zk_of (zk_r (zk_r (zk_l (zk_r zdX12_cutDown_4))))
theorem dX12_cutDown_27 : decode cX12_cutDown 27 = .ok (.iconst 0, 1) := zk_of (zk_l (zk_l (zk_r (zk_r zdX12_cutDown_4))))
theorem dX12_cutDown_23 : decode cX12_cutDown 23 = .ok (.iconst 1, 1) := zk_of (zk_r (zk_l (zk_r (zk_r zdX12_cutDown_4))))
theorem dX12_cutDown_24 : decode cX12_cutDown 24 = .ok (.goto 4, 3) := zk_of (zk_r (zk_r (zk_r zdX12_cutDown_4)))
/-- HissHornModel.cutDown(III)V of cell 0 -/
def rmX12_cutDown_0 : Room := { frames := 1, cells := 0, slots := 0, locals := 15 }
theorem hX12_cutDown_0_X12 : ∀ w ∈ u_ws RX12 TX12 69, w ∈ wsX12_cutDown := fun w h => (List.mem_cons_of_mem _ (List.mem_append_right _ h))
theorem mX12_cutDown_0_1 : Cond.fieldLink RX12 65 "HissHornModel" "from" "[I" ∈ wsX12_cutDown := (List.mem_cons_of_mem _ (List.mem_append_left _ (List.mem_of_getElem? (i := 0) rfl)))
theorem mX12_cutDown_0_2 : Cond.methodLink RX12 293 Lib.Math.max.name ∈ wsX12_cutDown := (List.mem_cons_of_mem _ (List.mem_append_left _ (List.mem_of_getElem? (i := 1) rfl)))
theorem mX12_cutDown_0_3 : Cond.static Lib.Math.max.name ∈ wsX12_cutDown := (List.mem_cons_of_mem _ (List.mem_append_left _ (List.mem_of_getElem? (i := 2) rfl)))
theorem mX12_cutDown_0_4 : Cond.initialized "java/lang/Math" ∈ wsX12_cutDown := (List.mem_cons_of_mem _ (List.mem_append_left _ (List.mem_of_getElem? (i := 3) rfl)))
theorem mX12_cutDown_0_5 : Cond.code Lib.Math.max.name Lib.Math.max.code 2 (some .int) ∈ wsX12_cutDown := (List.mem_cons_of_mem _ (List.mem_append_left _ (List.mem_of_getElem? (i := 4) rfl)))
theorem mX12_cutDown_0_6 : Cond.fieldLink RX12 68 "HissHornModel" "to" "[I" ∈ wsX12_cutDown := (List.mem_cons_of_mem _ (List.mem_append_left _ (List.mem_of_getElem? (i := 5) rfl)))
theorem mX12_cutDown_0_7 : Cond.methodLink RX12 295 Lib.Math.min.name ∈ wsX12_cutDown := (List.mem_cons_of_mem _ (List.mem_append_left _ (List.mem_of_getElem? (i := 6) rfl)))
theorem mX12_cutDown_0_8 : Cond.static Lib.Math.min.name ∈ wsX12_cutDown := (List.mem_cons_of_mem _ (List.mem_append_left _ (List.mem_of_getElem? (i := 7) rfl)))
theorem mX12_cutDown_0_9 : Cond.code Lib.Math.min.name Lib.Math.min.code 2 (some .int) ∈ wsX12_cutDown := (List.mem_cons_of_mem _ (List.mem_append_left _ (List.mem_of_getElem? (i := 8) rfl)))
def GX12_cutDown_0_54 (z1 : Int32) (z3 : Int32) (z4 : Int32) (y0 : Int32) (y1 : Int32) (u : SX) : Option (Int32 × SX) := (gd (inb y1 12) (lt (sA u 16 (upd (u.2.1 16) y1.toNatClampNeg y0)) fun u4 => (if z4 = 0 then (gd (inb z1 12) (lt (sA u4 17 (upd (u4.2.1 17) z1.toNatClampNeg z3)) fun u7 => (some (0, u7)))) else (gd (inb z1 12) (gd (inb z1 12) (lt (sA u4 17 (upd (u4.2.1 17) z1.toNatClampNeg (if z3 < (u4.2.1 17 z1.toNatClampNeg) then z3 else (u4.2.1 17 z1.toNatClampNeg)))) fun u11 => (some (0, u11))))))))
def GX12_cutDown_0_28 (z1 : Int32) (z2 : Int32) (z3 : Int32) (y0 : Int32) (u : SX) : Option (Int32 × SX) := (if y0 = 0 then (GX12_cutDown_0_54 z1 z3 y0 z2 z1 u) else (gd (inb z1 12) (GX12_cutDown_0_54 z1 z3 y0 (if (u.2.1 16 z1.toNatClampNeg) < z2 then z2 else (u.2.1 16 z1.toNatClampNeg)) z1 u)))
def fX12_cutDown_0 (x1 : Int32) (x2 : Int32) (x3 : Int32) (u : SX) : Option (Int32 × SX) := (gd (inb x1 12) (gd (inb x1 12) (if (if x3 < (u.2.1 17 x1.toNatClampNeg) then x3 else (u.2.1 17 x1.toNatClampNeg)) < (if (u.2.1 16 x1.toNatClampNeg) < x2 then x2 else (u.2.1 16 x1.toNatClampNeg)) then (GX12_cutDown_0_28 x1 x2 x3 0 u) else (GX12_cutDown_0_28 x1 x2 x3 1 u))))
set_option maxHeartbeats 4000000 in
set_option maxRecDepth 100000 in
theorem wGX12_cutDown_0_54 {p : Program} {l : Launch} {e : Env} {s : State} {m : MethodId} {args : Array Value} {below : List Frame} {meth : Method} {c : Code} {D : va_G} {cy : Nat → ClassId} {ad st : Nat → Nat} (C : Cx RX12 cX12_cutDown 5 none wsX12_cutDown p s m args meth c) (hK : Ky D [(cy 0, .int), (cy 1, .long), (cy 2, .boolean), (cy 3, .byte), (cy 4, .object "HissHorn$Text")] st s) (hJ : JM ad st) {r : Int32} {u' : SX}   (z1 : Int32) (z3 : Int32) (z4 : Int32) (y0 : Int32) (y1 : Int32) (u : SX) (H : Heap) (locs : List Loc) (ls : Array Slot) (h : GX12_cutDown_0_54 z1 z3 z4 y0 y1 u = some (r, u')) (hP : va_P D vwCl (VM cy ad st u) H) (hS : va_S (Ax (AM ad) s.heap.size) s.heap H locs) (hl : lv_has ls 5 [(0, .ref (ad 0)), (1, .int z1), (3, .int z3), (4, .int z4)]) : W p l e rmX12_cutDown_0 s m args below meth c H locs 0 0 (MQ below (Qv D (VM cy ad st) (AM ad) s.heap.size r u') args s 0 0 (Ax (AM ad) s.heap.size)) (F0 m 54 ls [.int y0, .int y1, .ref (ad 16)]) := by
  unfold GX12_cutDown_0_54 at h
  obtain ⟨hg3, h⟩ := gd_some h
  refine tM_16 C hK hP hJ hS hg3 dX12_cutDown_54 (fun H locs hP hS => ?_)
  obtain ⟨u4, hu5, h⟩ := lt_some h
  rw [← hu5] at hP
  refine lv_aload_n C.1 C.2.1 dX12_cutDown_55 rfl (lv_at hl 0 rfl) ?_
  refine gM_0_to C hX12_cutDown_0_X12 hK hP mX12_cutDown_0_6 dX12_cutDown_56 ?_
  refine lv_iload_n C.1 C.2.1 dX12_cutDown_59 rfl (lv_at hl 1 rfl) ?_
  refine lv_iload C.1 C.2.1 dX12_cutDown_60 (lv_at hl 3 rfl) ?_
  refine lv_if_eq (tgt := 78) C.1 C.2.1 dX12_cutDown_62 (by decide) (fun c62 => ?_) (fun c62 => ?_)
  · rw [if_pos c62] at h
    refine lv_iload_n C.1 C.2.1 dX12_cutDown_78 rfl (lv_at hl 2 rfl) ?_
    obtain ⟨hg6, h⟩ := gd_some h
    refine tM_17 C hK hP hJ hS hg6 dX12_cutDown_79 (fun H locs hP hS => ?_)
    obtain ⟨u7, hu8, h⟩ := lt_some h
    rw [← hu8] at hP
    cases h
    exact rt_v C hP hS dX12_cutDown_80
  · rw [if_neg c62] at h
    refine lv_aload_n C.1 C.2.1 dX12_cutDown_65 rfl (lv_at hl 0 rfl) ?_
    refine gM_0_to C hX12_cutDown_0_X12 hK hP mX12_cutDown_0_6 dX12_cutDown_66 ?_
    refine lv_iload_n C.1 C.2.1 dX12_cutDown_69 rfl (lv_at hl 1 rfl) ?_
    obtain ⟨hg9, h⟩ := gd_some h
    refine lM_17 C hK hP hg9 dX12_cutDown_70 ?_
    refine lv_iload_n C.1 C.2.1 dX12_cutDown_71 rfl (lv_at hl 2 rfl) ?_
    refine va_mmin C.1 C.2.1 (C.2.2.1.trans hl.1.symm) C.2.2.2.2.1 (C.2.2.2.2.2.1 _ mX12_cutDown_0_7) (C.2.2.2.2.2.1 _ mX12_cutDown_0_8) (C.2.2.2.2.2.1 _ mX12_cutDown_0_4) (C.2.2.2.2.2.1 _ mX12_cutDown_0_9) (Nat.le_of_ble_eq_true rfl) (Nat.le_of_ble_eq_true rfl) (Nat.zero_le _) (Nat.zero_le _) dX12_cutDown_72 ?_
    refine lv_goto (tgt := 79) C.1 C.2.1 dX12_cutDown_75 (by decide) ?_
    obtain ⟨hg10, h⟩ := gd_some h
    refine tM_17 C hK hP hJ hS hg10 dX12_cutDown_79 (fun H locs hP hS => ?_)
    obtain ⟨u11, hu12, h⟩ := lt_some h
    rw [← hu12] at hP
    cases h
    exact rt_v C hP hS dX12_cutDown_80
set_option maxHeartbeats 4000000 in
set_option maxRecDepth 100000 in
theorem wGX12_cutDown_0_28 {p : Program} {l : Launch} {e : Env} {s : State} {m : MethodId} {args : Array Value} {below : List Frame} {meth : Method} {c : Code} {D : va_G} {cy : Nat → ClassId} {ad st : Nat → Nat} (C : Cx RX12 cX12_cutDown 5 none wsX12_cutDown p s m args meth c) (hK : Ky D [(cy 0, .int), (cy 1, .long), (cy 2, .boolean), (cy 3, .byte), (cy 4, .object "HissHorn$Text")] st s) (hJ : JM ad st) {r : Int32} {u' : SX}   (z1 : Int32) (z2 : Int32) (z3 : Int32) (y0 : Int32) (u : SX) (H : Heap) (locs : List Loc) (ls : Array Slot) (h : GX12_cutDown_0_28 z1 z2 z3 y0 u = some (r, u')) (hP : va_P D vwCl (VM cy ad st u) H) (hS : va_S (Ax (AM ad) s.heap.size) s.heap H locs) (hl : lv_has ls 5 [(0, .ref (ad 0)), (1, .int z1), (2, .int z2), (3, .int z3)]) : W p l e rmX12_cutDown_0 s m args below meth c H locs 0 0 (MQ below (Qv D (VM cy ad st) (AM ad) s.heap.size r u') args s 0 0 (Ax (AM ad) s.heap.size)) (F0 m 28 ls [.int y0]) := by
  unfold GX12_cutDown_0_28 at h
  refine lv_istore (lv' := [(4, .int y0), (0, .ref (ad 0)), (1, .int z1), (2, .int z2), (3, .int z3)]) C.1 C.2.1 dX12_cutDown_28 hl (by decide) rfl (fun ls hl => ?_)
  replace hl := lv_sub (l' := [(0, .ref (ad 0)), (1, .int z1), (2, .int z2), (3, .int z3), (4, .int y0)]) hl [1, 2, 3, 4, 0] rfl
  refine lv_aload_n C.1 C.2.1 dX12_cutDown_30 rfl (lv_at hl 0 rfl) ?_
  refine gM_0_from C hX12_cutDown_0_X12 hK hP mX12_cutDown_0_1 dX12_cutDown_31 ?_
  refine lv_iload_n C.1 C.2.1 dX12_cutDown_34 rfl (lv_at hl 1 rfl) ?_
  refine lv_iload C.1 C.2.1 dX12_cutDown_35 (lv_at hl 4 rfl) ?_
  refine lv_if_eq (tgt := 53) C.1 C.2.1 dX12_cutDown_37 (by decide) (fun c37 => ?_) (fun c37 => ?_)
  · rw [if_pos c37] at h
    refine lv_iload_n C.1 C.2.1 dX12_cutDown_53 rfl (lv_at hl 2 rfl) ?_
    exact wGX12_cutDown_0_54 C hK hJ _ _ _ _ _ _ _ _ _ h hP hS (lv_sub hl [0, 1, 3, 4] rfl)
  · rw [if_neg c37] at h
    refine lv_aload_n C.1 C.2.1 dX12_cutDown_40 rfl (lv_at hl 0 rfl) ?_
    refine gM_0_from C hX12_cutDown_0_X12 hK hP mX12_cutDown_0_1 dX12_cutDown_41 ?_
    refine lv_iload_n C.1 C.2.1 dX12_cutDown_44 rfl (lv_at hl 1 rfl) ?_
    obtain ⟨hg13, h⟩ := gd_some h
    refine lM_16 C hK hP hg13 dX12_cutDown_45 ?_
    refine lv_iload_n C.1 C.2.1 dX12_cutDown_46 rfl (lv_at hl 2 rfl) ?_
    refine va_mmax C.1 C.2.1 (C.2.2.1.trans hl.1.symm) C.2.2.2.2.1 (C.2.2.2.2.2.1 _ mX12_cutDown_0_2) (C.2.2.2.2.2.1 _ mX12_cutDown_0_3) (C.2.2.2.2.2.1 _ mX12_cutDown_0_4) (C.2.2.2.2.2.1 _ mX12_cutDown_0_5) (Nat.le_of_ble_eq_true rfl) (Nat.le_of_ble_eq_true rfl) (Nat.zero_le _) (Nat.zero_le _) dX12_cutDown_47 ?_
    refine lv_goto (tgt := 54) C.1 C.2.1 dX12_cutDown_50 (by decide) ?_
    exact wGX12_cutDown_0_54 C hK hJ _ _ _ _ _ _ _ _ _ h hP hS (lv_sub hl [0, 1, 3, 4] rfl)
set_option maxHeartbeats 4000000 in
set_option maxRecDepth 100000 in
theorem wX12_cutDown_0 {p : Program} {l : Launch} {e : Env} {s : State} {m : MethodId} {args : Array Value} {below : List Frame} {meth : Method} {c : Code} {D : va_G} {cy : Nat → ClassId} {ad st : Nat → Nat} (C : Cx RX12 cX12_cutDown 5 none wsX12_cutDown p s m args meth c) (hK : Ky D [(cy 0, .int), (cy 1, .long), (cy 2, .boolean), (cy 3, .byte), (cy 4, .object "HissHorn$Text")] st s) (hJ : JM ad st) (x1 : Int32) (x2 : Int32) (x3 : Int32) {u : SX} {r : Int32} {u' : SX} {H : Heap} {locs : List Loc} {ls : Array Slot} (h : fX12_cutDown_0 x1 x2 x3 u = some (r, u')) (hP : va_P D vwCl (VM cy ad st u) H) (hS : va_S (Ax (AM ad) s.heap.size) s.heap H locs) (hl : lv_has ls 5 [(0, .ref (ad 0)), (1, .int x1), (2, .int x2), (3, .int x3)]) : W p l e rmX12_cutDown_0 s m args below meth c H locs 0 0 (MQ below (Qv D (VM cy ad st) (AM ad) s.heap.size r u') args s 0 0 (Ax (AM ad) s.heap.size)) (F0 m 0 ls []) := by
  unfold fX12_cutDown_0 at h
  refine lv_aload_n C.1 C.2.1 dX12_cutDown_0 rfl (lv_at hl 0 rfl) ?_
  refine gM_0_from C hX12_cutDown_0_X12 hK hP mX12_cutDown_0_1 dX12_cutDown_1 ?_
  refine lv_iload_n C.1 C.2.1 dX12_cutDown_4 rfl (lv_at hl 1 rfl) ?_
  obtain ⟨hg1, h⟩ := gd_some h
  refine lM_16 C hK hP hg1 dX12_cutDown_5 ?_
  refine lv_iload_n C.1 C.2.1 dX12_cutDown_6 rfl (lv_at hl 2 rfl) ?_
  refine va_mmax C.1 C.2.1 (C.2.2.1.trans hl.1.symm) C.2.2.2.2.1 (C.2.2.2.2.2.1 _ mX12_cutDown_0_2) (C.2.2.2.2.2.1 _ mX12_cutDown_0_3) (C.2.2.2.2.2.1 _ mX12_cutDown_0_4) (C.2.2.2.2.2.1 _ mX12_cutDown_0_5) (Nat.le_of_ble_eq_true rfl) (Nat.le_of_ble_eq_true rfl) (Nat.zero_le _) (Nat.zero_le _) dX12_cutDown_7 ?_
  refine lv_aload_n C.1 C.2.1 dX12_cutDown_10 rfl (lv_at hl 0 rfl) ?_
  refine gM_0_to C hX12_cutDown_0_X12 hK hP mX12_cutDown_0_6 dX12_cutDown_11 ?_
  refine lv_iload_n C.1 C.2.1 dX12_cutDown_14 rfl (lv_at hl 1 rfl) ?_
  obtain ⟨hg2, h⟩ := gd_some h
  refine lM_17 C hK hP hg2 dX12_cutDown_15 ?_
  refine lv_iload_n C.1 C.2.1 dX12_cutDown_16 rfl (lv_at hl 3 rfl) ?_
  refine va_mmin C.1 C.2.1 (C.2.2.1.trans hl.1.symm) C.2.2.2.2.1 (C.2.2.2.2.2.1 _ mX12_cutDown_0_7) (C.2.2.2.2.2.1 _ mX12_cutDown_0_8) (C.2.2.2.2.2.1 _ mX12_cutDown_0_4) (C.2.2.2.2.2.1 _ mX12_cutDown_0_9) (Nat.le_of_ble_eq_true rfl) (Nat.le_of_ble_eq_true rfl) (Nat.zero_le _) (Nat.zero_le _) dX12_cutDown_17 ?_
  refine lv_icmp_gt (tgt := 27) C.1 C.2.1 dX12_cutDown_20 (by decide) (fun c20 => ?_) (fun c20 => ?_)
  · rw [if_pos c20] at h
    refine lv_iconst (v := 0) C.1 C.2.1 dX12_cutDown_27 (by decide) ?_
    exact wGX12_cutDown_0_28 C hK hJ _ _ _ _ _ _ _ _ h hP hS hl
  · rw [if_neg c20] at h
    refine lv_iconst (v := 1) C.1 C.2.1 dX12_cutDown_23 (by decide) ?_
    refine lv_goto (tgt := 28) C.1 C.2.1 dX12_cutDown_24 (by decide) ?_
    exact wGX12_cutDown_0_28 C hK hJ _ _ _ _ _ _ _ _ h hP hS hl
theorem metX12_cutDown_0 (l : Launch) (D : va_G) (cy : Nat → ClassId) (ad st : Nat → Nat) (hJ : JM ad st) (sz : Nat) (x1 : Int32) (x2 : Int32) (x3 : Int32) {u : SX} {r : Int32} {u' : SX} (h : fX12_cutDown_0 x1 x2 x3 u = some (r, u')) : Met l yX12_cutDown wsX12_cutDown rmX12_cutDown_0 (va_Pc [.ref (ad 0), .int x1, .int x2, .int x3] (Px D [(cy 0, .int), (cy 1, .long), (cy 2, .boolean), (cy 3, .byte), (cy 4, .object "HissHorn$Text")] st (VM cy ad st) sz u)) (Qv D (VM cy ad st) (AM ad) sz r u') 0 0 (Ax (AM ad) sz) := by
  refine Met.ofW (cc := cX12_cutDown) (maxL := 5) (ret := none) (by decide) rfl ?_
  intro p e s m args below meth c s₁ B hml hv
  obtain ⟨rfl, hsz, hP, hK⟩ := hv
  subst hsz
  have C : Cx RX12 cX12_cutDown 5 none wsX12_cutDown p s m _ meth c := ⟨B.exec, B.bytes, hml, B.returns, findClass_of_methodNamed B.named, atoms_spec (ws := wsX12_cutDown) B.pre, B.notSynchronized⟩
  have hl := lv_entry ([.ref (ad 0), .int x1, .int x2, .int x3]) (n := 5) (Nat.le_of_ble_eq_true rfl)
  rw [lg_entry_eq]
  exact wX12_cutDown_0 C hK hJ x1 x2 x3 h hP va_S.rf hl

theorem zdX12_laySpans_2 : (and (and (and (and (and (zk cX12_laySpans 2 (.iload_n 2) 1) (zk cX12_laySpans 3 (.aload_n 0) 1)) (and (zk cX12_laySpans 4 (.getfield 286) 3) (zk cX12_laySpans 7 (.if_icmp .ge 33) 3))) (and (and (zk cX12_laySpans 10 (.aload_n 0) 1) (zk cX12_laySpans 11 (.getfield 65) 3)) (and (zk cX12_laySpans 14 (.iload_n 2) 1) (zk cX12_laySpans 15 (.aload_n 0) 1)))) (and (and (and (zk cX12_laySpans 16 (.getfield 38) 3) (zk cX12_laySpans 19 (.iload_n 2) 1)) (and (zk cX12_laySpans 20 (.iaload) 1) (zk cX12_laySpans 21 (.iastore) 1))) (and (and (zk cX12_laySpans 22 (.aload_n 0) 1) (zk cX12_laySpans 23 (.getfield 68) 3)) (and (zk cX12_laySpans 26 (.iload_n 2) 1) (zk cX12_laySpans 27 (.aload_n 0) 1))))) (and (and (and (and (zk cX12_laySpans 28 (.getfield 41) 3) (zk cX12_laySpans 31 (.iload_n 2) 1)) (and (zk cX12_laySpans 32 (.iaload) 1) (zk cX12_laySpans 33 (.iastore) 1))) (and (and (zk cX12_laySpans 34 (.iinc 2 1) 3) (zk cX12_laySpans 37 (.goto (-35)) 3)) (and (zk cX12_laySpans 108 (.iinc 2 1) 3) (zk cX12_laySpans 111 (.goto (-69)) 3)))) (and (and (and (zk cX12_laySpans 42 (.iload_n 2) 1) (zk cX12_laySpans 43 (.iload_n 1) 1)) (and (zk cX12_laySpans 44 (.if_icmp .ge 70) 3) (zk cX12_laySpans 114 (.return_) 1))) (and (and (zk cX12_laySpans 47 (.aload_n 0) 1) (zk cX12_laySpans 48 (.getfield 53) 3)) (and (zk cX12_laySpans 51 (.iload_n 2) 1) (zk cX12_laySpans 52 (.iaload) 1)))))) = true := by decide +kernel
theorem dX12_laySpans_2 : decode cX12_laySpans 2 = .ok (.iload_n 2, 1) := zk_of (zk_l (zk_l (zk_l (zk_l (zk_l zdX12_laySpans_2)))))
theorem dX12_laySpans_3 : decode cX12_laySpans 3 = .ok (.aload_n 0, 1) := zk_of (zk_r (zk_l (zk_l (zk_l (zk_l zdX12_laySpans_2)))))
theorem dX12_laySpans_4 : decode cX12_laySpans 4 = .ok (.getfield 286, 3) := zk_of (zk_l (zk_r (zk_l (zk_l (zk_l zdX12_laySpans_2)))))
theorem dX12_laySpans_7 : decode cX12_laySpans 7 = .ok (.if_icmp .ge 33, 3) := zk_of (zk_r (zk_r (zk_l (zk_l (zk_l zdX12_laySpans_2)))))
theorem dX12_laySpans_10 : decode cX12_laySpans 10 = .ok (.aload_n 0, 1) := zk_of (zk_l (zk_l (zk_r (zk_l (zk_l zdX12_laySpans_2)))))
theorem dX12_laySpans_11 : decode cX12_laySpans 11 = .ok (.getfield 65, 3) := zk_of (zk_r (zk_l (zk_r (zk_l (zk_l zdX12_laySpans_2)))))
theorem dX12_laySpans_14 : decode cX12_laySpans 14 = .ok (.iload_n 2, 1) := zk_of (zk_l (zk_r (zk_r (zk_l (zk_l zdX12_laySpans_2)))))
theorem dX12_laySpans_15 : decode cX12_laySpans 15 = .ok (.aload_n 0, 1) := zk_of (zk_r (zk_r (zk_r (zk_l (zk_l zdX12_laySpans_2)))))
theorem dX12_laySpans_16 : decode cX12_laySpans 16 = .ok (.getfield 38, 3) := zk_of (zk_l (zk_l (zk_l (zk_r (zk_l zdX12_laySpans_2)))))
theorem dX12_laySpans_19 : decode cX12_laySpans 19 = .ok (.iload_n 2, 1) := zk_of (zk_r (zk_l (zk_l (zk_r (zk_l zdX12_laySpans_2)))))
theorem dX12_laySpans_20 : decode cX12_laySpans 20 = .ok (.iaload, 1) := zk_of (zk_l (zk_r (zk_l (zk_r (zk_l zdX12_laySpans_2)))))
theorem dX12_laySpans_21 : decode cX12_laySpans 21 = .ok (.iastore, 1) := zk_of (zk_r (zk_r (zk_l (zk_r (zk_l zdX12_laySpans_2)))))
theorem dX12_laySpans_22 : decode cX12_laySpans 22 = .ok (.aload_n 0, 1) := zk_of (zk_l (zk_l (zk_r (zk_r (zk_l zdX12_laySpans_2)))))
theorem dX12_laySpans_23 : decode cX12_laySpans 23 = .ok (.getfield 68, 3) := zk_of (zk_r (zk_l (zk_r (zk_r (zk_l zdX12_laySpans_2)))))
theorem dX12_laySpans_26 : decode cX12_laySpans 26 = .ok (.iload_n 2, 1) := zk_of (zk_l (zk_r (zk_r (zk_r (zk_l zdX12_laySpans_2)))))
theorem dX12_laySpans_27 : decode cX12_laySpans 27 = .ok (.aload_n 0, 1) := zk_of (zk_r (zk_r (zk_r (zk_r (zk_l zdX12_laySpans_2)))))
theorem dX12_laySpans_28 : decode cX12_laySpans 28 = .ok (.getfield 41, 3) := zk_of (zk_l (zk_l (zk_l (zk_l (zk_r zdX12_laySpans_2)))))
theorem dX12_laySpans_31 : decode cX12_laySpans 31 = .ok (.iload_n 2, 1) := zk_of (zk_r (zk_l (zk_l (zk_l (zk_r zdX12_laySpans_2)))))
theorem dX12_laySpans_32 : decode cX12_laySpans 32 = .ok (.iaload, 1) := zk_of (zk_l (zk_r (zk_l (zk_l (zk_r zdX12_laySpans_2)))))
theorem dX12_laySpans_33 : decode cX12_laySpans 33 = .ok (.iastore, 1) := zk_of (zk_r (zk_r (zk_l (zk_l (zk_r zdX12_laySpans_2)))))
theorem dX12_laySpans_34 : decode cX12_laySpans 34 = .ok (.iinc 2 1, 3) := zk_of (zk_l (zk_l (zk_r (zk_l (zk_r zdX12_laySpans_2)))))
theorem dX12_laySpans_37 : decode cX12_laySpans 37 = .ok (.goto (-35), 3) := zk_of (zk_r (zk_l (zk_r (zk_l (zk_r zdX12_laySpans_2)))))
theorem dX12_laySpans_108 : decode cX12_laySpans 108 = .ok (.iinc 2 1, 3) := zk_of (zk_l (zk_r (zk_r (zk_l (zk_r zdX12_laySpans_2)))))
theorem dX12_laySpans_111 : decode cX12_laySpans 111 = .ok (.goto (-69), 3) := zk_of (zk_r (zk_r (zk_r (zk_l (zk_r zdX12_laySpans_2)))))
theorem dX12_laySpans_42 : decode cX12_laySpans 42 = .ok (.iload_n 2, 1) := zk_of (zk_l (zk_l (zk_l (zk_r (zk_r zdX12_laySpans_2)))))
theorem dX12_laySpans_43 : decode cX12_laySpans 43 = .ok (.iload_n 1, 1) := zk_of (zk_r (zk_l (zk_l (zk_r (zk_r zdX12_laySpans_2)))))
theorem dX12_laySpans_44 : decode cX12_laySpans 44 = .ok (.if_icmp .ge 70, 3) := zk_of (zk_l (zk_r (zk_l (zk_r (zk_r zdX12_laySpans_2)))))
theorem dX12_laySpans_114 : decode cX12_laySpans 114 = .ok (.return_, 1) := zk_of (zk_r (zk_r (zk_l (zk_r (zk_r zdX12_laySpans_2)))))
theorem dX12_laySpans_47 : decode cX12_laySpans 47 = .ok (.aload_n 0, 1) := zk_of (zk_l (zk_l (zk_r (zk_r (zk_r zdX12_laySpans_2)))))
theorem dX12_laySpans_48 : decode cX12_laySpans 48 = .ok (.getfield 53, 3) := zk_of (zk_r (zk_l (zk_r (zk_r (zk_r zdX12_laySpans_2)))))
theorem dX12_laySpans_51 : decode cX12_laySpans 51 = .ok (.iload_n 2, 1) := zk_of (zk_l (zk_r (zk_r (zk_r (zk_r zdX12_laySpans_2)))))
theorem dX12_laySpans_52 : decode cX12_laySpans 52 = .ok (.iaload, 1) := zk_of (zk_r (zk_r (zk_r (zk_r (zk_r zdX12_laySpans_2)))))
theorem zdX12_laySpans_53 : (and (and (and (and (and (zk cX12_laySpans 53 (.istore_n 3) 1) (zk cX12_laySpans 54 (.aload_n 0) 1)) (and (zk cX12_laySpans 55 (.getfield 50) 3) (zk cX12_laySpans 58 (.iload_n 2) 1))) (and (and (zk cX12_laySpans 59 (.iaload) 1) (zk cX12_laySpans 60 (.iconst (-1)) 1)) (and (zk cX12_laySpans 61 (.if_icmp .ne 30) 3) (zk cX12_laySpans 91 (.aload_n 0) 1)))) (and (and (and (zk cX12_laySpans 92 (.iload_n 3) 1) (zk cX12_laySpans 93 (.aload_n 0) 1)) (and (zk cX12_laySpans 94 (.getfield 56) 3) (zk cX12_laySpans 97 (.iload_n 2) 1))) (and (and (zk cX12_laySpans 98 (.iaload) 1) (zk cX12_laySpans 99 (.aload_n 0) 1)) (and (zk cX12_laySpans 100 (.getfield 59) 3) (zk cX12_laySpans 103 (.iload_n 2) 1))))) (and (and (and (and (zk cX12_laySpans 104 (.iaload) 1) (zk cX12_laySpans 105 (.invokevirtual 297) 3)) (and (zk cX12_laySpans 64 (.aload_n 0) 1) (zk cX12_laySpans 65 (.getfield 65) 3))) (and (and (zk cX12_laySpans 68 (.iload_n 3) 1) (zk cX12_laySpans 69 (.aload_n 0) 1)) (and (zk cX12_laySpans 70 (.getfield 56) 3) (zk cX12_laySpans 73 (.iload_n 2) 1)))) (and (and (and (zk cX12_laySpans 74 (.iaload) 1) (zk cX12_laySpans 75 (.iastore) 1)) (and (zk cX12_laySpans 76 (.aload_n 0) 1) (zk cX12_laySpans 77 (.getfield 68) 3))) (and (and (zk cX12_laySpans 80 (.iload_n 3) 1) (zk cX12_laySpans 81 (.aload_n 0) 1)) (and (zk cX12_laySpans 82 (.getfield 59) 3) (zk cX12_laySpans 85 (.iload_n 2) 1)))))) = true := by decide +kernel
theorem dX12_laySpans_53 : decode cX12_laySpans 53 = .ok (.istore_n 3, 1) := zk_of (zk_l (zk_l (zk_l (zk_l (zk_l zdX12_laySpans_53)))))
theorem dX12_laySpans_54 : decode cX12_laySpans 54 = .ok (.aload_n 0, 1) := zk_of (zk_r (zk_l (zk_l (zk_l (zk_l zdX12_laySpans_53)))))
theorem dX12_laySpans_55 : decode cX12_laySpans 55 = .ok (.getfield 50, 3) := zk_of (zk_l (zk_r (zk_l (zk_l (zk_l zdX12_laySpans_53)))))
theorem dX12_laySpans_58 : decode cX12_laySpans 58 = .ok (.iload_n 2, 1) := zk_of (zk_r (zk_r (zk_l (zk_l (zk_l zdX12_laySpans_53)))))
theorem dX12_laySpans_59 : decode cX12_laySpans 59 = .ok (.iaload, 1) := zk_of (zk_l (zk_l (zk_r (zk_l (zk_l zdX12_laySpans_53)))))
theorem dX12_laySpans_60 : decode cX12_laySpans 60 = .ok (.iconst (-1), 1) := zk_of (zk_r (zk_l (zk_r (zk_l (zk_l zdX12_laySpans_53)))))
theorem dX12_laySpans_61 : decode cX12_laySpans 61 = .ok (.if_icmp .ne 30, 3) := zk_of (zk_l (zk_r (zk_r (zk_l (zk_l zdX12_laySpans_53)))))
theorem dX12_laySpans_91 : decode cX12_laySpans 91 = .ok (.aload_n 0, 1) := zk_of (zk_r (zk_r (zk_r (zk_l (zk_l zdX12_laySpans_53)))))
theorem dX12_laySpans_92 : decode cX12_laySpans 92 = .ok (.iload_n 3, 1) := zk_of (zk_l (zk_l (zk_l (zk_r (zk_l zdX12_laySpans_53)))))
theorem dX12_laySpans_93 : decode cX12_laySpans 93 = .ok (.aload_n 0, 1) := zk_of (zk_r (zk_l (zk_l (zk_r (zk_l zdX12_laySpans_53)))))
theorem dX12_laySpans_94 : decode cX12_laySpans 94 = .ok (.getfield 56, 3) := zk_of (zk_l (zk_r (zk_l (zk_r (zk_l zdX12_laySpans_53)))))
theorem dX12_laySpans_97 : decode cX12_laySpans 97 = .ok (.iload_n 2, 1) := zk_of (zk_r (zk_r (zk_l (zk_r (zk_l zdX12_laySpans_53)))))
theorem dX12_laySpans_98 : decode cX12_laySpans 98 = .ok (.iaload, 1) := zk_of (zk_l (zk_l (zk_r (zk_r (zk_l zdX12_laySpans_53)))))
theorem dX12_laySpans_99 : decode cX12_laySpans 99 = .ok (.aload_n 0, 1) := zk_of (zk_r (zk_l (zk_r (zk_r (zk_l zdX12_laySpans_53)))))
theorem dX12_laySpans_100 : decode cX12_laySpans 100 = .ok (.getfield 59, 3) := zk_of (zk_l (zk_r (zk_r (zk_r (zk_l zdX12_laySpans_53)))))
theorem dX12_laySpans_103 : decode cX12_laySpans 103 = .ok (.iload_n 2, 1) := zk_of (zk_r (zk_r (zk_r (zk_r (zk_l zdX12_laySpans_53)))))
theorem dX12_laySpans_104 : decode cX12_laySpans 104 = .ok (.iaload, 1) := zk_of (zk_l (zk_l (zk_l (zk_l (zk_r zdX12_laySpans_53)))))
theorem dX12_laySpans_105 : decode cX12_laySpans 105 = .ok (.invokevirtual 297, 3) := zk_of (zk_r (zk_l (zk_l (zk_l (zk_r zdX12_laySpans_53)))))
theorem dX12_laySpans_64 : decode cX12_laySpans 64 = .ok (.aload_n 0, 1) := zk_of (zk_l (zk_r (zk_l (zk_l (zk_r zdX12_laySpans_53)))))
theorem dX12_laySpans_65 : decode cX12_laySpans 65 = .ok (.getfield 65, 3) := zk_of (zk_r (zk_r (zk_l (zk_l (zk_r zdX12_laySpans_53)))))
theorem dX12_laySpans_68 : decode cX12_laySpans 68 = .ok (.iload_n 3, 1) := zk_of (zk_l (zk_l (zk_r (zk_l (zk_r zdX12_laySpans_53)))))
theorem dX12_laySpans_69 : decode cX12_laySpans 69 = .ok (.aload_n 0, 1) := zk_of (zk_r (zk_l (zk_r (zk_l (zk_r zdX12_laySpans_53)))))
theorem dX12_laySpans_70 : decode cX12_laySpans 70 = .ok (.getfield 56, 3) := zk_of (zk_l (zk_r (zk_r (zk_l (zk_r zdX12_laySpans_53)))))
theorem dX12_laySpans_73 : decode cX12_laySpans 73 = .ok (.iload_n 2, 1) := zk_of (zk_r (zk_r (zk_r (zk_l (zk_r zdX12_laySpans_53)))))
theorem dX12_laySpans_74 : decode cX12_laySpans 74 = .ok (.iaload, 1) := zk_of (zk_l (zk_l (zk_l (zk_r (zk_r zdX12_laySpans_53)))))
theorem dX12_laySpans_75 : decode cX12_laySpans 75 = .ok (.iastore, 1) := zk_of (zk_r (zk_l (zk_l (zk_r (zk_r zdX12_laySpans_53)))))
theorem dX12_laySpans_76 : decode cX12_laySpans 76 = .ok (.aload_n 0, 1) := zk_of (zk_l (zk_r (zk_l (zk_r (zk_r zdX12_laySpans_53)))))
theorem dX12_laySpans_77 : decode cX12_laySpans 77 = .ok (.getfield 68, 3) := zk_of (zk_r (zk_r (zk_l (zk_r (zk_r zdX12_laySpans_53)))))
theorem dX12_laySpans_80 : decode cX12_laySpans 80 = .ok (.iload_n 3, 1) := zk_of (zk_l (zk_l (zk_r (zk_r (zk_r zdX12_laySpans_53)))))
theorem dX12_laySpans_81 : decode cX12_laySpans 81 = .ok (.aload_n 0, 1) := zk_of (zk_r (zk_l (zk_r (zk_r (zk_r zdX12_laySpans_53)))))
theorem dX12_laySpans_82 : decode cX12_laySpans 82 = .ok (.getfield 59, 3) := zk_of (zk_l (zk_r (zk_r (zk_r (zk_r zdX12_laySpans_53)))))
theorem dX12_laySpans_85 : decode cX12_laySpans 85 = .ok (.iload_n 2, 1) := zk_of (zk_r (zk_r (zk_r (zk_r (zk_r zdX12_laySpans_53)))))
set_option maxRecDepth 20000 in
theorem ggX12_laySpans_X12_cutDown : GoodIn wsX12_laySpans wsX12_cutDown := ggi (fun w h => List.mem_cons_of_mem _ (List.mem_append_left _ (List.mem_append_right _ h))) gs_X12_cutDown
set_option maxRecDepth 20000 in
theorem gX12_laySpans_X12_cutDown : GoodIn wsX12_laySpans (wsV RX12 297 RX12 yX12_cutDown wsX12_cutDown) := goodIn_app (goodIn_of _ (by decide +kernel)) ggX12_laySpans_X12_cutDown
theorem zdX12_laySpans_86 : (and (and (and (zk cX12_laySpans 86 (.iaload) 1) (zk cX12_laySpans 87 (.iastore) 1)) (and (zk cX12_laySpans 88 (.goto 20) 3) (zk cX12_laySpans 40 (.iconst 0) 1))) (and (and (zk cX12_laySpans 41 (.istore_n 2) 1) (zk cX12_laySpans 0 (.iconst 0) 1)) (zk cX12_laySpans 1 (.istore_n 2) 1))) = true := by decide +kernel
theorem dX12_laySpans_86 : decode cX12_laySpans 86 = .ok (.iaload, 1) := zk_of (zk_l (zk_l (zk_l zdX12_laySpans_86)))
theorem dX12_laySpans_87 : decode cX12_laySpans 87 = .ok (.iastore, 1) := zk_of (zk_r (zk_l (zk_l zdX12_laySpans_86)))
theorem dX12_laySpans_88 : decode cX12_laySpans 88 = .ok (.goto 20, 3) := zk_of (zk_l (zk_r (zk_l zdX12_laySpans_86)))
theorem dX12_laySpans_40 : decode cX12_laySpans 40 = .ok (.iconst 0, 1) := zk_of (zk_r (zk_r (zk_l zdX12_laySpans_86)))
theorem dX12_laySpans_41 : decode cX12_laySpans 41 = .ok (.istore_n 2, 1) := zk_of (zk_l (zk_l (zk_r zdX12_laySpans_86)))
theorem dX12_laySpans_0 : decode cX12_laySpans 0 = .ok (.iconst 0, 1) := zk_of (zk_r (zk_l (zk_r zdX12_laySpans_86)))
theorem dX12_laySpans_1 : decode cX12_laySpans 1 = .ok (.istore_n 2, 1) := zk_of (zk_r (zk_r zdX12_laySpans_86))
/-- HissHornModel.laySpans(I)V of cell 0 -/
def rmX12_laySpans_0 : Room := { frames := 2, cells := 0, slots := 0, locals := 39 }
theorem hX12_laySpans_0_X12 : ∀ w ∈ u_ws RX12 TX12 69, w ∈ wsX12_laySpans := fun w h => (List.mem_cons_of_mem _ (List.mem_append_right _ h))
theorem mX12_laySpans_0_1 : Cond.fieldLink RX12 286 "HissHornModel" "parts" "I" ∈ wsX12_laySpans := (List.mem_cons_of_mem _ (List.mem_append_left _ (List.mem_append_left _ (List.mem_of_getElem? (i := 4) rfl))))
theorem mX12_laySpans_0_2 : Cond.fieldLink RX12 65 "HissHornModel" "from" "[I" ∈ wsX12_laySpans := (List.mem_cons_of_mem _ (List.mem_append_left _ (List.mem_append_left _ (List.mem_of_getElem? (i := 5) rfl))))
theorem mX12_laySpans_0_3 : Cond.fieldLink RX12 38 "HissHornModel" "partFrom" "[I" ∈ wsX12_laySpans := (List.mem_cons_of_mem _ (List.mem_append_left _ (List.mem_append_left _ (List.mem_of_getElem? (i := 6) rfl))))
theorem mX12_laySpans_0_4 : Cond.fieldLink RX12 68 "HissHornModel" "to" "[I" ∈ wsX12_laySpans := (List.mem_cons_of_mem _ (List.mem_append_left _ (List.mem_append_left _ (List.mem_of_getElem? (i := 7) rfl))))
theorem mX12_laySpans_0_5 : Cond.fieldLink RX12 41 "HissHornModel" "partTo" "[I" ∈ wsX12_laySpans := (List.mem_cons_of_mem _ (List.mem_append_left _ (List.mem_append_left _ (List.mem_of_getElem? (i := 8) rfl))))
def LX12_laySpans_0_2 (k40 : Int32 → SX → Option (Int32 × SX)) : Nat → Int32 → Int32 → SX → Option (Int32 × SX)
  | 0, _, _, _ => none
  | n + 1, z1, z2, u => (if (u.1 12) ≤ z2 then (k40 z1 u) else (gd (inb z2 12) (gd (inb z2 12) (lt (sA u 16 (upd (u.2.1 16) z2.toNatClampNeg (u.2.1 7 z2.toNatClampNeg))) fun u3 => (gd (inb z2 12) (gd (inb z2 12) (lt (sA u3 17 (upd (u3.2.1 17) z2.toNatClampNeg (u3.2.1 8 z2.toNatClampNeg))) fun u7 => ((LX12_laySpans_0_2 k40 n) z1 (z2 + 1) u7))))))))
theorem mX12_laySpans_0_6 : Cond.fieldLink RX12 53 "HissHornModel" "eventPart" "[I" ∈ wsX12_laySpans := (List.mem_cons_of_mem _ (List.mem_append_left _ (List.mem_append_left _ (List.mem_of_getElem? (i := 9) rfl))))
theorem mX12_laySpans_0_7 : Cond.fieldLink RX12 50 "HissHornModel" "eventLook" "[I" ∈ wsX12_laySpans := (List.mem_cons_of_mem _ (List.mem_append_left _ (List.mem_append_left _ (List.mem_of_getElem? (i := 10) rfl))))
theorem mX12_laySpans_0_8 : Cond.fieldLink RX12 56 "HissHornModel" "eventFrom" "[I" ∈ wsX12_laySpans := (List.mem_cons_of_mem _ (List.mem_append_left _ (List.mem_append_left _ (List.mem_of_getElem? (i := 11) rfl))))
theorem mX12_laySpans_0_9 : Cond.fieldLink RX12 59 "HissHornModel" "eventTo" "[I" ∈ wsX12_laySpans := (List.mem_cons_of_mem _ (List.mem_append_left _ (List.mem_append_left _ (List.mem_of_getElem? (i := 12) rfl))))
def GX12_laySpans_0_108 (k42 : Int32 → Int32 → SX → Option (Int32 × SX)) (z1 : Int32) (z2 : Int32) (u : SX) : Option (Int32 × SX) := (k42 z1 (z2 + 1) u)
def LX12_laySpans_0_42  : Nat → Int32 → Int32 → SX → Option (Int32 × SX)
  | 0, _, _, _ => none
  | n + 1, z1, z2, u => (if z1 ≤ z2 then (some (0, u)) else (gd (inb z2 30) (lt (u.2.1 12 z2.toNatClampNeg) fun v10 => (gd (inb z2 30) (if (u.2.1 11 z2.toNatClampNeg) = (-1) then (gd (inb z2 30) (gd (inb v10 12) (lt (sA u 16 (upd (u.2.1 16) v10.toNatClampNeg (u.2.1 13 z2.toNatClampNeg))) fun u20 => (gd (inb z2 30) (gd (inb v10 12) (lt (sA u20 17 (upd (u20.2.1 17) v10.toNatClampNeg (u20.2.1 14 z2.toNatClampNeg))) fun u24 => (GX12_laySpans_0_108 (LX12_laySpans_0_42 n) z1 z2 u24))))))) else (gd (inb z2 30) (gd (inb z2 30) ((fX12_cutDown_0 v10 (u.2.1 13 z2.toNatClampNeg) (u.2.1 14 z2.toNatClampNeg) u).bind fun q => match q with | (r15, u16) => (GX12_laySpans_0_108 (LX12_laySpans_0_42 n) z1 z2 u16)))))))))
def GX12_laySpans_0_40 (z1 : Int32) (u : SX) : Option (Int32 × SX) := (LX12_laySpans_0_42  5000 z1 0 u)
def fX12_laySpans_0 (x1 : Int32) (u : SX) : Option (Int32 × SX) := (LX12_laySpans_0_2 GX12_laySpans_0_40 5000 x1 0 u)
set_option maxHeartbeats 4000000 in
set_option maxRecDepth 100000 in
theorem wLX12_laySpans_0_2 {p : Program} {l : Launch} {e : Env} {s : State} {m : MethodId} {args : Array Value} {below : List Frame} {meth : Method} {c : Code} {D : va_G} {cy : Nat → ClassId} {ad st : Nat → Nat} (C : Cx RX12 cX12_laySpans 4 none wsX12_laySpans p s m args meth c) (hK : Ky D [(cy 0, .int), (cy 1, .long), (cy 2, .boolean), (cy 3, .byte), (cy 4, .object "HissHorn$Text")] st s) (hJ : JM ad st) {r : Int32} {u' : SX} {k40 : Int32 → SX → Option (Int32 × SX)} (hk40 : ∀ (z1 : Int32) (u : SX) (H : Heap) (locs : List Loc) (ls : Array Slot), k40 z1 u = some (r, u') → va_P D vwCl (VM cy ad st u) H → va_S (Ax (AM ad) s.heap.size) s.heap H locs → lv_has ls 4 [(0, .ref (ad 0)), (1, .int z1)] → W p l e rmX12_laySpans_0 s m args below meth c H locs 0 0 (MQ below (Qv D (VM cy ad st) (AM ad) s.heap.size r u') args s 0 0 (Ax (AM ad) s.heap.size)) (F0 m 40 ls [])) : ∀ (n : Nat) (z1 : Int32) (z2 : Int32) (u : SX) (H : Heap) (locs : List Loc) (ls : Array Slot), LX12_laySpans_0_2 k40 n z1 z2 u = some (r, u') → va_P D vwCl (VM cy ad st u) H → va_S (Ax (AM ad) s.heap.size) s.heap H locs → lv_has ls 4 [(0, .ref (ad 0)), (1, .int z1), (2, .int z2)] → W p l e rmX12_laySpans_0 s m args below meth c H locs 0 0 (MQ below (Qv D (VM cy ad st) (AM ad) s.heap.size r u') args s 0 0 (Ax (AM ad) s.heap.size)) (F0 m 2 ls []) := by
  intro n
  induction n with
  | zero =>
    intro z1 z2 u H locs ls h
    exact absurd h (by intro q; cases q)
  | succ n ih =>
    intro z1 z2 u H locs ls h hP hS hl
    rw [LX12_laySpans_0_2] at h
    refine lv_iload_n C.1 C.2.1 dX12_laySpans_2 rfl (lv_at hl 2 rfl) ?_
    refine lv_aload_n C.1 C.2.1 dX12_laySpans_3 rfl (lv_at hl 0 rfl) ?_
    refine gM_0_parts C hX12_laySpans_0_X12 hK hP mX12_laySpans_0_1 dX12_laySpans_4 ?_
    refine lv_icmp_ge (tgt := 40) C.1 C.2.1 dX12_laySpans_7 (by decide) (fun c7 => ?_) (fun c7 => ?_)
    · rw [if_pos c7] at h
      exact hk40 _ _ _ _ _ h hP hS (lv_sub hl [0, 1] rfl)
    · rw [if_neg c7] at h
      refine lv_aload_n C.1 C.2.1 dX12_laySpans_10 rfl (lv_at hl 0 rfl) ?_
      refine gM_0_from C hX12_laySpans_0_X12 hK hP mX12_laySpans_0_2 dX12_laySpans_11 ?_
      refine lv_iload_n C.1 C.2.1 dX12_laySpans_14 rfl (lv_at hl 2 rfl) ?_
      refine lv_aload_n C.1 C.2.1 dX12_laySpans_15 rfl (lv_at hl 0 rfl) ?_
      refine gM_0_partFrom C hX12_laySpans_0_X12 hK hP mX12_laySpans_0_3 dX12_laySpans_16 ?_
      refine lv_iload_n C.1 C.2.1 dX12_laySpans_19 rfl (lv_at hl 2 rfl) ?_
      obtain ⟨hg1, h⟩ := gd_some h
      refine lM_7 C hK hP hg1 dX12_laySpans_20 ?_
      obtain ⟨hg2, h⟩ := gd_some h
      refine tM_16 C hK hP hJ hS hg2 dX12_laySpans_21 (fun H locs hP hS => ?_)
      obtain ⟨u3, hu4, h⟩ := lt_some h
      rw [← hu4] at hP
      refine lv_aload_n C.1 C.2.1 dX12_laySpans_22 rfl (lv_at hl 0 rfl) ?_
      refine gM_0_to C hX12_laySpans_0_X12 hK hP mX12_laySpans_0_4 dX12_laySpans_23 ?_
      refine lv_iload_n C.1 C.2.1 dX12_laySpans_26 rfl (lv_at hl 2 rfl) ?_
      refine lv_aload_n C.1 C.2.1 dX12_laySpans_27 rfl (lv_at hl 0 rfl) ?_
      refine gM_0_partTo C hX12_laySpans_0_X12 hK hP mX12_laySpans_0_5 dX12_laySpans_28 ?_
      refine lv_iload_n C.1 C.2.1 dX12_laySpans_31 rfl (lv_at hl 2 rfl) ?_
      obtain ⟨hg5, h⟩ := gd_some h
      refine lM_8 C hK hP hg5 dX12_laySpans_32 ?_
      obtain ⟨hg6, h⟩ := gd_some h
      refine tM_17 C hK hP hJ hS hg6 dX12_laySpans_33 (fun H locs hP hS => ?_)
      obtain ⟨u7, hu8, h⟩ := lt_some h
      rw [← hu8] at hP
      refine lv_iinc (v := z2 + 1) (lv' := [(2, .int (z2 + 1)), (0, .ref (ad 0)), (1, .int z1)]) C.1 C.2.1 dX12_laySpans_34 hl (k := 2) rfl rfl (by decide) rfl (fun ls hl => ?_)
      replace hl := lv_sub (l' := [(0, .ref (ad 0)), (1, .int z1), (2, .int (z2 + 1))]) hl [1, 2, 0] rfl
      refine lv_goto (tgt := 2) C.1 C.2.1 dX12_laySpans_37 (by decide) ?_
      exact ih _ _ _ _ _ _ h hP hS hl
set_option maxHeartbeats 4000000 in
set_option maxRecDepth 100000 in
theorem wGX12_laySpans_0_108 {p : Program} {l : Launch} {e : Env} {s : State} {m : MethodId} {args : Array Value} {below : List Frame} {meth : Method} {c : Code} {D : va_G} {cy : Nat → ClassId} {ad st : Nat → Nat} (C : Cx RX12 cX12_laySpans 4 none wsX12_laySpans p s m args meth c) (hK : Ky D [(cy 0, .int), (cy 1, .long), (cy 2, .boolean), (cy 3, .byte), (cy 4, .object "HissHorn$Text")] st s) (hJ : JM ad st) {r : Int32} {u' : SX} {k42 : Int32 → Int32 → SX → Option (Int32 × SX)} (hk42 : ∀ (z1 : Int32) (z2 : Int32) (u : SX) (H : Heap) (locs : List Loc) (ls : Array Slot), k42 z1 z2 u = some (r, u') → va_P D vwCl (VM cy ad st u) H → va_S (Ax (AM ad) s.heap.size) s.heap H locs → lv_has ls 4 [(0, .ref (ad 0)), (1, .int z1), (2, .int z2)] → W p l e rmX12_laySpans_0 s m args below meth c H locs 0 0 (MQ below (Qv D (VM cy ad st) (AM ad) s.heap.size r u') args s 0 0 (Ax (AM ad) s.heap.size)) (F0 m 42 ls [])) (z1 : Int32) (z2 : Int32) (u : SX) (H : Heap) (locs : List Loc) (ls : Array Slot) (h : GX12_laySpans_0_108 k42 z1 z2 u = some (r, u')) (hP : va_P D vwCl (VM cy ad st u) H) (hS : va_S (Ax (AM ad) s.heap.size) s.heap H locs) (hl : lv_has ls 4 [(0, .ref (ad 0)), (1, .int z1), (2, .int z2)]) : W p l e rmX12_laySpans_0 s m args below meth c H locs 0 0 (MQ below (Qv D (VM cy ad st) (AM ad) s.heap.size r u') args s 0 0 (Ax (AM ad) s.heap.size)) (F0 m 108 ls []) := by
  unfold GX12_laySpans_0_108 at h
  refine lv_iinc (v := z2 + 1) (lv' := [(2, .int (z2 + 1)), (0, .ref (ad 0)), (1, .int z1)]) C.1 C.2.1 dX12_laySpans_108 hl (k := 2) rfl rfl (by decide) rfl (fun ls hl => ?_)
  replace hl := lv_sub (l' := [(0, .ref (ad 0)), (1, .int z1), (2, .int (z2 + 1))]) hl [1, 2, 0] rfl
  refine lv_goto (tgt := 42) C.1 C.2.1 dX12_laySpans_111 (by decide) ?_
  exact hk42 _ _ _ _ _ _ h hP hS hl
set_option maxHeartbeats 4000000 in
set_option maxRecDepth 100000 in
theorem wLX12_laySpans_0_42 {p : Program} {l : Launch} {e : Env} {s : State} {m : MethodId} {args : Array Value} {below : List Frame} {meth : Method} {c : Code} {D : va_G} {cy : Nat → ClassId} {ad st : Nat → Nat} (C : Cx RX12 cX12_laySpans 4 none wsX12_laySpans p s m args meth c) (hK : Ky D [(cy 0, .int), (cy 1, .long), (cy 2, .boolean), (cy 3, .byte), (cy 4, .object "HissHorn$Text")] st s) (hJ : JM ad st) {r : Int32} {u' : SX}   : ∀ (n : Nat) (z1 : Int32) (z2 : Int32) (u : SX) (H : Heap) (locs : List Loc) (ls : Array Slot), LX12_laySpans_0_42  n z1 z2 u = some (r, u') → va_P D vwCl (VM cy ad st u) H → va_S (Ax (AM ad) s.heap.size) s.heap H locs → lv_has ls 4 [(0, .ref (ad 0)), (1, .int z1), (2, .int z2)] → W p l e rmX12_laySpans_0 s m args below meth c H locs 0 0 (MQ below (Qv D (VM cy ad st) (AM ad) s.heap.size r u') args s 0 0 (Ax (AM ad) s.heap.size)) (F0 m 42 ls []) := by
  intro n
  induction n with
  | zero =>
    intro z1 z2 u H locs ls h
    exact absurd h (by intro q; cases q)
  | succ n ih =>
    intro z1 z2 u H locs ls h hP hS hl
    rw [LX12_laySpans_0_42] at h
    refine lv_iload_n C.1 C.2.1 dX12_laySpans_42 rfl (lv_at hl 2 rfl) ?_
    refine lv_iload_n C.1 C.2.1 dX12_laySpans_43 rfl (lv_at hl 1 rfl) ?_
    refine lv_icmp_ge (tgt := 114) C.1 C.2.1 dX12_laySpans_44 (by decide) (fun c44 => ?_) (fun c44 => ?_)
    · rw [if_pos c44] at h
      cases h
      exact rt_v C hP hS dX12_laySpans_114
    · rw [if_neg c44] at h
      refine lv_aload_n C.1 C.2.1 dX12_laySpans_47 rfl (lv_at hl 0 rfl) ?_
      refine gM_0_eventPart C hX12_laySpans_0_X12 hK hP mX12_laySpans_0_6 dX12_laySpans_48 ?_
      refine lv_iload_n C.1 C.2.1 dX12_laySpans_51 rfl (lv_at hl 2 rfl) ?_
      obtain ⟨hg9, h⟩ := gd_some h
      refine lM_12 C hK hP hg9 dX12_laySpans_52 ?_
      refine lv_topi (fun v10 hv11 => ?_)
      replace h := lt_e hv11 h
      try dsimp only at h
      refine lv_istore_n (lv' := [(3, .int v10), (0, .ref (ad 0)), (1, .int z1), (2, .int z2)]) C.1 C.2.1 dX12_laySpans_53 rfl hl (by decide) rfl (fun ls hl => ?_)
      replace hl := lv_sub (l' := [(0, .ref (ad 0)), (1, .int z1), (2, .int z2), (3, .int v10)]) hl [1, 2, 3, 0] rfl
      refine lv_aload_n C.1 C.2.1 dX12_laySpans_54 rfl (lv_at hl 0 rfl) ?_
      refine gM_0_eventLook C hX12_laySpans_0_X12 hK hP mX12_laySpans_0_7 dX12_laySpans_55 ?_
      refine lv_iload_n C.1 C.2.1 dX12_laySpans_58 rfl (lv_at hl 2 rfl) ?_
      obtain ⟨hg12, h⟩ := gd_some h
      refine lM_11 C hK hP hg12 dX12_laySpans_59 ?_
      refine lv_iconst (v := (-1)) C.1 C.2.1 dX12_laySpans_60 (by decide) ?_
      refine lv_icmp_ne (tgt := 91) C.1 C.2.1 dX12_laySpans_61 (by decide) (fun c61 => ?_) (fun c61 => ?_)
      · rw [if_neg c61] at h
        refine lv_aload_n C.1 C.2.1 dX12_laySpans_91 rfl (lv_at hl 0 rfl) ?_
        refine lv_iload_n C.1 C.2.1 dX12_laySpans_92 rfl (lv_at hl 3 rfl) ?_
        refine lv_aload_n C.1 C.2.1 dX12_laySpans_93 rfl (lv_at hl 0 rfl) ?_
        refine gM_0_eventFrom C hX12_laySpans_0_X12 hK hP mX12_laySpans_0_8 dX12_laySpans_94 ?_
        refine lv_iload_n C.1 C.2.1 dX12_laySpans_97 rfl (lv_at hl 2 rfl) ?_
        obtain ⟨hg13, h⟩ := gd_some h
        refine lM_13 C hK hP hg13 dX12_laySpans_98 ?_
        refine lv_aload_n C.1 C.2.1 dX12_laySpans_99 rfl (lv_at hl 0 rfl) ?_
        refine gM_0_eventTo C hX12_laySpans_0_X12 hK hP mX12_laySpans_0_9 dX12_laySpans_100 ?_
        refine lv_iload_n C.1 C.2.1 dX12_laySpans_103 rfl (lv_at hl 2 rfl) ?_
        obtain ⟨hg14, h⟩ := gd_some h
        refine lM_14 C hK hP hg14 dX12_laySpans_104 ?_
        obtain ⟨⟨r15, u16⟩, hc17, h⟩ := bd_some h
        try dsimp only at h
        refine cg_v (As := [.int v10, .int (u.2.1 13 z2.toNatClampNeg), .int (u.2.1 14 z2.toNatClampNeg)]) (rest := []) (AM_ge hJ) C hK hP hS (metX12_cutDown_0 l D cy ad st hJ _ v10 (u.2.1 13 z2.toNatClampNeg) (u.2.1 14 z2.toNatClampNeg) hc17) (cwV 3 C.2.2.2.2.2.1 gX12_laySpans_X12_cutDown rfl rfl rfl (by decide +kernel) ⟨(Nat.le_of_ble_eq_true rfl), (Nat.le_of_ble_eq_true rfl)⟩) 0 12 rfl rfl rfl hl.1 rfl (Nat.le_of_ble_eq_true rfl) dX12_laySpans_105 ⟨Nat.zero_le _, Nat.zero_le _⟩ (fun H locs hP hS => ?_)
        exact wGX12_laySpans_0_108 C hK hJ ih _ _ _ _ _ _ h hP hS (lv_sub hl [0, 1, 2] rfl)
      · rw [if_pos c61] at h
        refine lv_aload_n C.1 C.2.1 dX12_laySpans_64 rfl (lv_at hl 0 rfl) ?_
        refine gM_0_from C hX12_laySpans_0_X12 hK hP mX12_laySpans_0_2 dX12_laySpans_65 ?_
        refine lv_iload_n C.1 C.2.1 dX12_laySpans_68 rfl (lv_at hl 3 rfl) ?_
        refine lv_aload_n C.1 C.2.1 dX12_laySpans_69 rfl (lv_at hl 0 rfl) ?_
        refine gM_0_eventFrom C hX12_laySpans_0_X12 hK hP mX12_laySpans_0_8 dX12_laySpans_70 ?_
        refine lv_iload_n C.1 C.2.1 dX12_laySpans_73 rfl (lv_at hl 2 rfl) ?_
        obtain ⟨hg18, h⟩ := gd_some h
        refine lM_13 C hK hP hg18 dX12_laySpans_74 ?_
        obtain ⟨hg19, h⟩ := gd_some h
        refine tM_16 C hK hP hJ hS hg19 dX12_laySpans_75 (fun H locs hP hS => ?_)
        obtain ⟨u20, hu21, h⟩ := lt_some h
        rw [← hu21] at hP
        refine lv_aload_n C.1 C.2.1 dX12_laySpans_76 rfl (lv_at hl 0 rfl) ?_
        refine gM_0_to C hX12_laySpans_0_X12 hK hP mX12_laySpans_0_4 dX12_laySpans_77 ?_
        refine lv_iload_n C.1 C.2.1 dX12_laySpans_80 rfl (lv_at hl 3 rfl) ?_
        refine lv_aload_n C.1 C.2.1 dX12_laySpans_81 rfl (lv_at hl 0 rfl) ?_
        refine gM_0_eventTo C hX12_laySpans_0_X12 hK hP mX12_laySpans_0_9 dX12_laySpans_82 ?_
        refine lv_iload_n C.1 C.2.1 dX12_laySpans_85 rfl (lv_at hl 2 rfl) ?_
        obtain ⟨hg22, h⟩ := gd_some h
        refine lM_14 C hK hP hg22 dX12_laySpans_86 ?_
        obtain ⟨hg23, h⟩ := gd_some h
        refine tM_17 C hK hP hJ hS hg23 dX12_laySpans_87 (fun H locs hP hS => ?_)
        obtain ⟨u24, hu25, h⟩ := lt_some h
        rw [← hu25] at hP
        refine lv_goto (tgt := 108) C.1 C.2.1 dX12_laySpans_88 (by decide) ?_
        exact wGX12_laySpans_0_108 C hK hJ ih _ _ _ _ _ _ h hP hS (lv_sub hl [0, 1, 2] rfl)
set_option maxHeartbeats 4000000 in
set_option maxRecDepth 100000 in
theorem wGX12_laySpans_0_40 {p : Program} {l : Launch} {e : Env} {s : State} {m : MethodId} {args : Array Value} {below : List Frame} {meth : Method} {c : Code} {D : va_G} {cy : Nat → ClassId} {ad st : Nat → Nat} (C : Cx RX12 cX12_laySpans 4 none wsX12_laySpans p s m args meth c) (hK : Ky D [(cy 0, .int), (cy 1, .long), (cy 2, .boolean), (cy 3, .byte), (cy 4, .object "HissHorn$Text")] st s) (hJ : JM ad st) {r : Int32} {u' : SX}   (z1 : Int32) (u : SX) (H : Heap) (locs : List Loc) (ls : Array Slot) (h : GX12_laySpans_0_40 z1 u = some (r, u')) (hP : va_P D vwCl (VM cy ad st u) H) (hS : va_S (Ax (AM ad) s.heap.size) s.heap H locs) (hl : lv_has ls 4 [(0, .ref (ad 0)), (1, .int z1)]) : W p l e rmX12_laySpans_0 s m args below meth c H locs 0 0 (MQ below (Qv D (VM cy ad st) (AM ad) s.heap.size r u') args s 0 0 (Ax (AM ad) s.heap.size)) (F0 m 40 ls []) := by
  unfold GX12_laySpans_0_40 at h
  refine lv_iconst (v := 0) C.1 C.2.1 dX12_laySpans_40 (by decide) ?_
  refine lv_istore_n (lv' := [(2, .int 0), (0, .ref (ad 0)), (1, .int z1)]) C.1 C.2.1 dX12_laySpans_41 rfl hl (by decide) rfl (fun ls hl => ?_)
  replace hl := lv_sub (l' := [(0, .ref (ad 0)), (1, .int z1), (2, .int 0)]) hl [1, 2, 0] rfl
  exact wLX12_laySpans_0_42 C hK hJ  5000 _ _ _ _ _ _ h hP hS hl
set_option maxHeartbeats 4000000 in
set_option maxRecDepth 100000 in
theorem wX12_laySpans_0 {p : Program} {l : Launch} {e : Env} {s : State} {m : MethodId} {args : Array Value} {below : List Frame} {meth : Method} {c : Code} {D : va_G} {cy : Nat → ClassId} {ad st : Nat → Nat} (C : Cx RX12 cX12_laySpans 4 none wsX12_laySpans p s m args meth c) (hK : Ky D [(cy 0, .int), (cy 1, .long), (cy 2, .boolean), (cy 3, .byte), (cy 4, .object "HissHorn$Text")] st s) (hJ : JM ad st) (x1 : Int32) {u : SX} {r : Int32} {u' : SX} {H : Heap} {locs : List Loc} {ls : Array Slot} (h : fX12_laySpans_0 x1 u = some (r, u')) (hP : va_P D vwCl (VM cy ad st u) H) (hS : va_S (Ax (AM ad) s.heap.size) s.heap H locs) (hl : lv_has ls 4 [(0, .ref (ad 0)), (1, .int x1)]) : W p l e rmX12_laySpans_0 s m args below meth c H locs 0 0 (MQ below (Qv D (VM cy ad st) (AM ad) s.heap.size r u') args s 0 0 (Ax (AM ad) s.heap.size)) (F0 m 0 ls []) := by
  unfold fX12_laySpans_0 at h
  refine lv_iconst (v := 0) C.1 C.2.1 dX12_laySpans_0 (by decide) ?_
  refine lv_istore_n (lv' := [(2, .int 0), (0, .ref (ad 0)), (1, .int x1)]) C.1 C.2.1 dX12_laySpans_1 rfl hl (by decide) rfl (fun ls hl => ?_)
  replace hl := lv_sub (l' := [(0, .ref (ad 0)), (1, .int x1), (2, .int 0)]) hl [1, 2, 0] rfl
  exact wLX12_laySpans_0_2 C hK hJ (wGX12_laySpans_0_40 C hK hJ ) 5000 _ _ _ _ _ _ h hP hS hl
theorem metX12_laySpans_0 (l : Launch) (D : va_G) (cy : Nat → ClassId) (ad st : Nat → Nat) (hJ : JM ad st) (sz : Nat) (x1 : Int32) {u : SX} {r : Int32} {u' : SX} (h : fX12_laySpans_0 x1 u = some (r, u')) : Met l yX12_laySpans wsX12_laySpans rmX12_laySpans_0 (va_Pc [.ref (ad 0), .int x1] (Px D [(cy 0, .int), (cy 1, .long), (cy 2, .boolean), (cy 3, .byte), (cy 4, .object "HissHorn$Text")] st (VM cy ad st) sz u)) (Qv D (VM cy ad st) (AM ad) sz r u') 0 0 (Ax (AM ad) sz) := by
  refine Met.ofW (cc := cX12_laySpans) (maxL := 4) (ret := none) (by decide) rfl ?_
  intro p e s m args below meth c s₁ B hml hv
  obtain ⟨rfl, hsz, hP, hK⟩ := hv
  subst hsz
  have C : Cx RX12 cX12_laySpans 4 none wsX12_laySpans p s m _ meth c := ⟨B.exec, B.bytes, hml, B.returns, findClass_of_methodNamed B.named, atoms_spec (ws := wsX12_laySpans) B.pre, B.notSynchronized⟩
  have hl := lv_entry ([.ref (ad 0), .int x1]) (n := 4) (Nat.le_of_ble_eq_true rfl)
  rw [lg_entry_eq]
  exact wX12_laySpans_0 C hK hJ x1 h hP va_S.rf hl

theorem zdX12_laySpansOf_2 : (and (and (and (and (and (zk cX12_laySpansOf 2 (.iload_n 2) 1) (zk cX12_laySpansOf 3 (.aload_n 0) 1)) (zk cX12_laySpansOf 4 (.getfield 301) 3)) (and (zk cX12_laySpansOf 7 (.if_icmp .ge 19) 3) (zk cX12_laySpansOf 10 (.aload_n 0) 1))) (and (and (zk cX12_laySpansOf 11 (.getfield 62) 3) (zk cX12_laySpansOf 14 (.iload_n 2) 1)) (and (zk cX12_laySpansOf 15 (.iaload) 1) (zk cX12_laySpansOf 16 (.iload_n 1) 1)))) (and (and (and (and (zk cX12_laySpansOf 17 (.if_icmp .gt 9) 3) (zk cX12_laySpansOf 20 (.iinc 2 1) 3)) (zk cX12_laySpansOf 23 (.goto (-21)) 3)) (and (zk cX12_laySpansOf 26 (.aload_n 0) 1) (zk cX12_laySpansOf 27 (.iload_n 2) 1))) (and (and (zk cX12_laySpansOf 28 (.invokevirtual 304) 3) (zk cX12_laySpansOf 31 (.return_) 1)) (and (zk cX12_laySpansOf 0 (.iconst 0) 1) (zk cX12_laySpansOf 1 (.istore_n 2) 1))))) = true := by decide +kernel
theorem dX12_laySpansOf_2 : decode cX12_laySpansOf 2 = .ok (.iload_n 2, 1) := zk_of (zk_l (zk_l (zk_l (zk_l (zk_l zdX12_laySpansOf_2)))))
theorem dX12_laySpansOf_3 : decode cX12_laySpansOf 3 = .ok (.aload_n 0, 1) := zk_of (zk_r (zk_l (zk_l (zk_l (zk_l zdX12_laySpansOf_2)))))
theorem dX12_laySpansOf_4 : decode cX12_laySpansOf 4 = .ok (.getfield 301, 3) := zk_of (zk_r (zk_l (zk_l (zk_l zdX12_laySpansOf_2))))
theorem dX12_laySpansOf_7 : decode cX12_laySpansOf 7 = .ok (.if_icmp .ge 19, 3) := zk_of (zk_l (zk_r (zk_l (zk_l zdX12_laySpansOf_2))))
theorem dX12_laySpansOf_10 : decode cX12_laySpansOf 10 = .ok (.aload_n 0, 1) := zk_of (zk_r (zk_r (zk_l (zk_l zdX12_laySpansOf_2))))
theorem dX12_laySpansOf_11 : decode cX12_laySpansOf 11 = .ok (.getfield 62, 3) := zk_of (zk_l (zk_l (zk_r (zk_l zdX12_laySpansOf_2))))
theorem dX12_laySpansOf_14 : decode cX12_laySpansOf 14 = .ok (.iload_n 2, 1) := zk_of (zk_r (zk_l (zk_r (zk_l zdX12_laySpansOf_2))))
theorem dX12_laySpansOf_15 : decode cX12_laySpansOf 15 = .ok (.iaload, 1) := zk_of (zk_l (zk_r (zk_r (zk_l zdX12_laySpansOf_2))))
theorem dX12_laySpansOf_16 : decode cX12_laySpansOf 16 = .ok (.iload_n 1, 1) := zk_of (zk_r (zk_r (zk_r (zk_l zdX12_laySpansOf_2))))
theorem dX12_laySpansOf_17 : decode cX12_laySpansOf 17 = .ok (.if_icmp .gt 9, 3) := zk_of (zk_l (zk_l (zk_l (zk_l (zk_r zdX12_laySpansOf_2)))))
theorem dX12_laySpansOf_20 : decode cX12_laySpansOf 20 = .ok (.iinc 2 1, 3) := zk_of (zk_r (zk_l (zk_l (zk_l (zk_r zdX12_laySpansOf_2)))))
theorem dX12_laySpansOf_23 : decode cX12_laySpansOf 23 = .ok (.goto (-21), 3) := zk_of (zk_r (zk_l (zk_l (zk_r zdX12_laySpansOf_2))))
theorem dX12_laySpansOf_26 : decode cX12_laySpansOf 26 = .ok (.aload_n 0, 1) := zk_of (zk_l (zk_r (zk_l (zk_r zdX12_laySpansOf_2))))
theorem dX12_laySpansOf_27 : decode cX12_laySpansOf 27 = .ok (.iload_n 2, 1) := zk_of (zk_r (zk_r (zk_l (zk_r zdX12_laySpansOf_2))))
theorem dX12_laySpansOf_28 : decode cX12_laySpansOf 28 = .ok (.invokevirtual 304, 3) := zk_of (zk_l (zk_l (zk_r (zk_r zdX12_laySpansOf_2))))
theorem dX12_laySpansOf_31 : decode cX12_laySpansOf 31 = .ok (.return_, 1) := zk_of (zk_r (zk_l (zk_r (zk_r zdX12_laySpansOf_2))))
theorem dX12_laySpansOf_0 : decode cX12_laySpansOf 0 = .ok (.iconst 0, 1) := zk_of (zk_l (zk_r (zk_r (zk_r zdX12_laySpansOf_2))))
theorem dX12_laySpansOf_1 : decode cX12_laySpansOf 1 = .ok (.istore_n 2, 1) := zk_of (zk_r (zk_r (zk_r (zk_r zdX12_laySpansOf_2))))
set_option maxRecDepth 20000 in
theorem ggX12_laySpansOf_X12_laySpans : GoodIn wsX12_laySpansOf wsX12_laySpans := ggi (fun w h => List.mem_cons_of_mem _ (List.mem_append_left _ (List.mem_append_right _ h))) gs_X12_laySpans
set_option maxRecDepth 20000 in
theorem gX12_laySpansOf_X12_laySpans : GoodIn wsX12_laySpansOf (wsV RX12 304 RX12 yX12_laySpans wsX12_laySpans) := goodIn_app (goodIn_of _ (by decide +kernel)) ggX12_laySpansOf_X12_laySpans
/-- HissHornModel.laySpansOf(I)V of cell 0 -/
def rmX12_laySpansOf_0 : Room := { frames := 3, cells := 0, slots := 0, locals := 62 }
theorem hX12_laySpansOf_0_X12 : ∀ w ∈ u_ws RX12 TX12 69, w ∈ wsX12_laySpansOf := fun w h => (List.mem_cons_of_mem _ (List.mem_append_right _ h))
theorem mX12_laySpansOf_0_1 : Cond.fieldLink RX12 301 "HissHornModel" "events" "I" ∈ wsX12_laySpansOf := (List.mem_cons_of_mem _ (List.mem_append_left _ (List.mem_append_left _ (List.mem_of_getElem? (i := 4) rfl))))
theorem mX12_laySpansOf_0_2 : Cond.fieldLink RX12 62 "HissHornModel" "eventDay" "[I" ∈ wsX12_laySpansOf := (List.mem_cons_of_mem _ (List.mem_append_left _ (List.mem_append_left _ (List.mem_of_getElem? (i := 5) rfl))))
def LX12_laySpansOf_0_2 (k26 : Int32 → SX → Option (Int32 × SX)) : Nat → Int32 → Int32 → SX → Option (Int32 × SX)
  | 0, _, _, _ => none
  | n + 1, z1, z2, u => (if (u.1 13) ≤ z2 then (k26 z2 u) else (gd (inb z2 30) (if z1 < (u.2.1 15 z2.toNatClampNeg) then (k26 z2 u) else ((LX12_laySpansOf_0_2 k26 n) z1 (z2 + 1) u))))
def GX12_laySpansOf_0_26 (z2 : Int32) (u : SX) : Option (Int32 × SX) := ((fX12_laySpans_0 z2 u).bind fun q => match q with | (r2, u3) => (some (0, u3)))
def fX12_laySpansOf_0 (x1 : Int32) (u : SX) : Option (Int32 × SX) := (LX12_laySpansOf_0_2 GX12_laySpansOf_0_26 5000 x1 0 u)
set_option maxHeartbeats 4000000 in
set_option maxRecDepth 100000 in
theorem wLX12_laySpansOf_0_2 {p : Program} {l : Launch} {e : Env} {s : State} {m : MethodId} {args : Array Value} {below : List Frame} {meth : Method} {c : Code} {D : va_G} {cy : Nat → ClassId} {ad st : Nat → Nat} (C : Cx RX12 cX12_laySpansOf 3 none wsX12_laySpansOf p s m args meth c) (hK : Ky D [(cy 0, .int), (cy 1, .long), (cy 2, .boolean), (cy 3, .byte), (cy 4, .object "HissHorn$Text")] st s) (hJ : JM ad st) {r : Int32} {u' : SX} {k26 : Int32 → SX → Option (Int32 × SX)} (hk26 : ∀ (z2 : Int32) (u : SX) (H : Heap) (locs : List Loc) (ls : Array Slot), k26 z2 u = some (r, u') → va_P D vwCl (VM cy ad st u) H → va_S (Ax (AM ad) s.heap.size) s.heap H locs → lv_has ls 3 [(0, .ref (ad 0)), (2, .int z2)] → W p l e rmX12_laySpansOf_0 s m args below meth c H locs 0 0 (MQ below (Qv D (VM cy ad st) (AM ad) s.heap.size r u') args s 0 0 (Ax (AM ad) s.heap.size)) (F0 m 26 ls [])) : ∀ (n : Nat) (z1 : Int32) (z2 : Int32) (u : SX) (H : Heap) (locs : List Loc) (ls : Array Slot), LX12_laySpansOf_0_2 k26 n z1 z2 u = some (r, u') → va_P D vwCl (VM cy ad st u) H → va_S (Ax (AM ad) s.heap.size) s.heap H locs → lv_has ls 3 [(0, .ref (ad 0)), (1, .int z1), (2, .int z2)] → W p l e rmX12_laySpansOf_0 s m args below meth c H locs 0 0 (MQ below (Qv D (VM cy ad st) (AM ad) s.heap.size r u') args s 0 0 (Ax (AM ad) s.heap.size)) (F0 m 2 ls []) := by
  intro n
  induction n with
  | zero =>
    intro z1 z2 u H locs ls h
    exact absurd h (by intro q; cases q)
  | succ n ih =>
    intro z1 z2 u H locs ls h hP hS hl
    rw [LX12_laySpansOf_0_2] at h
    refine lv_iload_n C.1 C.2.1 dX12_laySpansOf_2 rfl (lv_at hl 2 rfl) ?_
    refine lv_aload_n C.1 C.2.1 dX12_laySpansOf_3 rfl (lv_at hl 0 rfl) ?_
    refine gM_0_events C hX12_laySpansOf_0_X12 hK hP mX12_laySpansOf_0_1 dX12_laySpansOf_4 ?_
    refine lv_icmp_ge (tgt := 26) C.1 C.2.1 dX12_laySpansOf_7 (by decide) (fun c7 => ?_) (fun c7 => ?_)
    · rw [if_pos c7] at h
      exact hk26 _ _ _ _ _ h hP hS (lv_sub hl [0, 2] rfl)
    · rw [if_neg c7] at h
      refine lv_aload_n C.1 C.2.1 dX12_laySpansOf_10 rfl (lv_at hl 0 rfl) ?_
      refine gM_0_eventDay C hX12_laySpansOf_0_X12 hK hP mX12_laySpansOf_0_2 dX12_laySpansOf_11 ?_
      refine lv_iload_n C.1 C.2.1 dX12_laySpansOf_14 rfl (lv_at hl 2 rfl) ?_
      obtain ⟨hg1, h⟩ := gd_some h
      refine lM_15 C hK hP hg1 dX12_laySpansOf_15 ?_
      refine lv_iload_n C.1 C.2.1 dX12_laySpansOf_16 rfl (lv_at hl 1 rfl) ?_
      refine lv_icmp_gt (tgt := 26) C.1 C.2.1 dX12_laySpansOf_17 (by decide) (fun c17 => ?_) (fun c17 => ?_)
      · rw [if_pos c17] at h
        exact hk26 _ _ _ _ _ h hP hS (lv_sub hl [0, 2] rfl)
      · rw [if_neg c17] at h
        refine lv_iinc (v := z2 + 1) (lv' := [(2, .int (z2 + 1)), (0, .ref (ad 0)), (1, .int z1)]) C.1 C.2.1 dX12_laySpansOf_20 hl (k := 2) rfl rfl (by decide) rfl (fun ls hl => ?_)
        replace hl := lv_sub (l' := [(0, .ref (ad 0)), (1, .int z1), (2, .int (z2 + 1))]) hl [1, 2, 0] rfl
        refine lv_goto (tgt := 2) C.1 C.2.1 dX12_laySpansOf_23 (by decide) ?_
        exact ih _ _ _ _ _ _ h hP hS hl
set_option maxHeartbeats 4000000 in
set_option maxRecDepth 100000 in
theorem wGX12_laySpansOf_0_26 {p : Program} {l : Launch} {e : Env} {s : State} {m : MethodId} {args : Array Value} {below : List Frame} {meth : Method} {c : Code} {D : va_G} {cy : Nat → ClassId} {ad st : Nat → Nat} (C : Cx RX12 cX12_laySpansOf 3 none wsX12_laySpansOf p s m args meth c) (hK : Ky D [(cy 0, .int), (cy 1, .long), (cy 2, .boolean), (cy 3, .byte), (cy 4, .object "HissHorn$Text")] st s) (hJ : JM ad st) {r : Int32} {u' : SX}   (z2 : Int32) (u : SX) (H : Heap) (locs : List Loc) (ls : Array Slot) (h : GX12_laySpansOf_0_26 z2 u = some (r, u')) (hP : va_P D vwCl (VM cy ad st u) H) (hS : va_S (Ax (AM ad) s.heap.size) s.heap H locs) (hl : lv_has ls 3 [(0, .ref (ad 0)), (2, .int z2)]) : W p l e rmX12_laySpansOf_0 s m args below meth c H locs 0 0 (MQ below (Qv D (VM cy ad st) (AM ad) s.heap.size r u') args s 0 0 (Ax (AM ad) s.heap.size)) (F0 m 26 ls []) := by
  unfold GX12_laySpansOf_0_26 at h
  refine lv_aload_n C.1 C.2.1 dX12_laySpansOf_26 rfl (lv_at hl 0 rfl) ?_
  refine lv_iload_n C.1 C.2.1 dX12_laySpansOf_27 rfl (lv_at hl 1 rfl) ?_
  obtain ⟨⟨r2, u3⟩, hc4, h⟩ := bd_some h
  try dsimp only at h
  refine cg_v (As := [.int z2]) (rest := []) (AM_ge hJ) C hK hP hS (metX12_laySpans_0 l D cy ad st hJ _ z2 hc4) (cwV 1 C.2.2.2.2.2.1 gX12_laySpansOf_X12_laySpans rfl rfl rfl (by decide +kernel) ⟨(Nat.le_of_ble_eq_true rfl), (Nat.le_of_ble_eq_true rfl)⟩) 0 12 rfl rfl rfl hl.1 rfl (Nat.le_of_ble_eq_true rfl) dX12_laySpansOf_28 ⟨Nat.zero_le _, Nat.zero_le _⟩ (fun H locs hP hS => ?_)
  cases h
  exact rt_v C hP hS dX12_laySpansOf_31
set_option maxHeartbeats 4000000 in
set_option maxRecDepth 100000 in
theorem wX12_laySpansOf_0 {p : Program} {l : Launch} {e : Env} {s : State} {m : MethodId} {args : Array Value} {below : List Frame} {meth : Method} {c : Code} {D : va_G} {cy : Nat → ClassId} {ad st : Nat → Nat} (C : Cx RX12 cX12_laySpansOf 3 none wsX12_laySpansOf p s m args meth c) (hK : Ky D [(cy 0, .int), (cy 1, .long), (cy 2, .boolean), (cy 3, .byte), (cy 4, .object "HissHorn$Text")] st s) (hJ : JM ad st) (x1 : Int32) {u : SX} {r : Int32} {u' : SX} {H : Heap} {locs : List Loc} {ls : Array Slot} (h : fX12_laySpansOf_0 x1 u = some (r, u')) (hP : va_P D vwCl (VM cy ad st u) H) (hS : va_S (Ax (AM ad) s.heap.size) s.heap H locs) (hl : lv_has ls 3 [(0, .ref (ad 0)), (1, .int x1)]) : W p l e rmX12_laySpansOf_0 s m args below meth c H locs 0 0 (MQ below (Qv D (VM cy ad st) (AM ad) s.heap.size r u') args s 0 0 (Ax (AM ad) s.heap.size)) (F0 m 0 ls []) := by
  unfold fX12_laySpansOf_0 at h
  refine lv_iconst (v := 0) C.1 C.2.1 dX12_laySpansOf_0 (by decide) ?_
  refine lv_istore_n (lv' := [(2, .int 0), (0, .ref (ad 0)), (1, .int x1)]) C.1 C.2.1 dX12_laySpansOf_1 rfl hl (by decide) rfl (fun ls hl => ?_)
  replace hl := lv_sub (l' := [(0, .ref (ad 0)), (1, .int x1), (2, .int 0)]) hl [1, 2, 0] rfl
  exact wLX12_laySpansOf_0_2 C hK hJ (wGX12_laySpansOf_0_26 C hK hJ ) 5000 _ _ _ _ _ _ h hP hS hl
theorem metX12_laySpansOf_0 (l : Launch) (D : va_G) (cy : Nat → ClassId) (ad st : Nat → Nat) (hJ : JM ad st) (sz : Nat) (x1 : Int32) {u : SX} {r : Int32} {u' : SX} (h : fX12_laySpansOf_0 x1 u = some (r, u')) : Met l yX12_laySpansOf wsX12_laySpansOf rmX12_laySpansOf_0 (va_Pc [.ref (ad 0), .int x1] (Px D [(cy 0, .int), (cy 1, .long), (cy 2, .boolean), (cy 3, .byte), (cy 4, .object "HissHorn$Text")] st (VM cy ad st) sz u)) (Qv D (VM cy ad st) (AM ad) sz r u') 0 0 (Ax (AM ad) sz) := by
  refine Met.ofW (cc := cX12_laySpansOf) (maxL := 3) (ret := none) (by decide) rfl ?_
  intro p e s m args below meth c s₁ B hml hv
  obtain ⟨rfl, hsz, hP, hK⟩ := hv
  subst hsz
  have C : Cx RX12 cX12_laySpansOf 3 none wsX12_laySpansOf p s m _ meth c := ⟨B.exec, B.bytes, hml, B.returns, findClass_of_methodNamed B.named, atoms_spec (ws := wsX12_laySpansOf) B.pre, B.notSynchronized⟩
  have hl := lv_entry ([.ref (ad 0), .int x1]) (n := 3) (Nat.le_of_ble_eq_true rfl)
  rw [lg_entry_eq]
  exact wX12_laySpansOf_0 C hK hJ x1 h hP va_S.rf hl

theorem zdX12_isKnown_0 : (and (and (and (and (zk cX12_isKnown 0 (.iload_n 2) 1) (zk cX12_isKnown 1 (.iconst 0) 1)) (and (zk cX12_isKnown 2 (.aload_n 0) 1) (zk cX12_isKnown 3 (.getfield 159) 3))) (and (and (zk cX12_isKnown 6 (.invokestatic 155) 3) (zk cX12_isKnown 9 (.ifCond .eq 12) 3)) (zk cX12_isKnown 21 (.iconst 0) 1))) (and (and (and (zk cX12_isKnown 22 (.ireturn) 1) (zk cX12_isKnown 12 (.iload_n 1) 1)) (zk cX12_isKnown 13 (.iload_n 2) 1)) (and (and (zk cX12_isKnown 14 (.if_icmp .gt 7) 3) (zk cX12_isKnown 17 (.iconst 1) 1)) (zk cX12_isKnown 18 (.goto 4) 3)))) = true := by decide +kernel
theorem dX12_isKnown_0 : decode cX12_isKnown 0 = .ok (.iload_n 2, 1) := zk_of (zk_l (zk_l (zk_l (zk_l zdX12_isKnown_0))))
theorem dX12_isKnown_1 : decode cX12_isKnown 1 = .ok (.iconst 0, 1) := zk_of (zk_r (zk_l (zk_l (zk_l zdX12_isKnown_0))))
theorem dX12_isKnown_2 : decode cX12_isKnown 2 = .ok (.aload_n 0, 1) := zk_of (zk_l (zk_r (zk_l (zk_l zdX12_isKnown_0))))
theorem dX12_isKnown_3 : decode cX12_isKnown 3 = .ok (.getfield 159, 3) := zk_of (zk_r (zk_r (zk_l (zk_l zdX12_isKnown_0))))
theorem dX12_isKnown_6 : decode cX12_isKnown 6 = .ok (.invokestatic 155, 3) := zk_of (zk_l (zk_l (zk_r (zk_l zdX12_isKnown_0))))
theorem dX12_isKnown_9 : decode cX12_isKnown 9 = .ok (.ifCond .eq 12, 3) := zk_of (zk_r (zk_l (zk_r (zk_l zdX12_isKnown_0))))
theorem dX12_isKnown_21 : decode cX12_isKnown 21 = .ok (.iconst 0, 1) := zk_of (zk_r (zk_r (zk_l zdX12_isKnown_0)))
theorem dX12_isKnown_22 : decode cX12_isKnown 22 = .ok (.ireturn, 1) := zk_of (zk_l (zk_l (zk_l (zk_r zdX12_isKnown_0))))
theorem dX12_isKnown_12 : decode cX12_isKnown 12 = .ok (.iload_n 1, 1) := zk_of (zk_r (zk_l (zk_l (zk_r zdX12_isKnown_0))))
theorem dX12_isKnown_13 : decode cX12_isKnown 13 = .ok (.iload_n 2, 1) := zk_of (zk_r (zk_l (zk_r zdX12_isKnown_0)))
theorem dX12_isKnown_14 : decode cX12_isKnown 14 = .ok (.if_icmp .gt 7, 3) := zk_of (zk_l (zk_l (zk_r (zk_r zdX12_isKnown_0))))
theorem dX12_isKnown_17 : decode cX12_isKnown 17 = .ok (.iconst 1, 1) := zk_of (zk_r (zk_l (zk_r (zk_r zdX12_isKnown_0))))
theorem dX12_isKnown_18 : decode cX12_isKnown 18 = .ok (.goto 4, 3) := zk_of (zk_r (zk_r (zk_r zdX12_isKnown_0)))
set_option maxRecDepth 20000 in
theorem ggX12_isKnown_X12_isIn : GoodIn wsX12_isKnown wsX12_isIn := ggi (fun w h => List.mem_cons_of_mem _ (List.mem_append_left _ (List.mem_append_right _ h))) gs_X12_isIn
set_option maxRecDepth 20000 in
theorem gX12_isKnown_X12_isIn : GoodIn wsX12_isKnown (va_wsS RX12 155 yX12_isIn wsX12_isIn) := goodIn_app (goodIn_of _ (by decide +kernel)) ggX12_isKnown_X12_isIn
/-- HissHornModel.isKnown(II)Z of cell 0 -/
def rmX12_isKnown_0 : Room := { frames := 1, cells := 0, slots := 0, locals := 22 }
theorem hX12_isKnown_0_X12 : ∀ w ∈ u_ws RX12 TX12 69, w ∈ wsX12_isKnown := fun w h => (List.mem_cons_of_mem _ (List.mem_append_right _ h))
theorem mX12_isKnown_0_1 : Cond.fieldLink RX12 159 "HissHornModel" "now" "I" ∈ wsX12_isKnown := (List.mem_cons_of_mem _ (List.mem_append_left _ (List.mem_append_left _ (List.mem_of_getElem? (i := 3) rfl))))
def fX12_isKnown_0 (x1 : Int32) (x2 : Int32) (u : SX) : Option (Int32 × SX) := ((fX12_isIn x2 0 (u.1 1)).bind fun r1 => (if r1 = 0 then (gd (isB 0) (some (0, u))) else (if x2 < x1 then (gd (isB 0) (some (0, u))) else (gd (isB 1) (some (1, u))))))
set_option maxHeartbeats 4000000 in
set_option maxRecDepth 100000 in
theorem wX12_isKnown_0 {p : Program} {l : Launch} {e : Env} {s : State} {m : MethodId} {args : Array Value} {below : List Frame} {meth : Method} {c : Code} {D : va_G} {cy : Nat → ClassId} {ad st : Nat → Nat} (C : Cx RX12 cX12_isKnown 3 (some .boolean) wsX12_isKnown p s m args meth c) (hK : Ky D [(cy 0, .int), (cy 1, .long), (cy 2, .boolean), (cy 3, .byte), (cy 4, .object "HissHorn$Text")] st s) (hJ : JM ad st) (x1 : Int32) (x2 : Int32) {u : SX} {r : Int32} {u' : SX} {H : Heap} {locs : List Loc} {ls : Array Slot} (h : fX12_isKnown_0 x1 x2 u = some (r, u')) (hP : va_P D vwCl (VM cy ad st u) H) (hS : va_S (Ax (AM ad) s.heap.size) s.heap H locs) (hl : lv_has ls 3 [(0, .ref (ad 0)), (1, .int x1), (2, .int x2)]) : W p l e rmX12_isKnown_0 s m args below meth c H locs 0 0 (MQ below (Qi D (VM cy ad st) (AM ad) s.heap.size r u') args s 0 0 (Ax (AM ad) s.heap.size)) (F0 m 0 ls []) := by
  unfold fX12_isKnown_0 at h
  refine lv_iload_n C.1 C.2.1 dX12_isKnown_0 rfl (lv_at hl 2 rfl) ?_
  refine lv_iconst (v := 0) C.1 C.2.1 dX12_isKnown_1 (by decide) ?_
  refine lv_aload_n C.1 C.2.1 dX12_isKnown_2 rfl (lv_at hl 0 rfl) ?_
  refine gM_0_now C hX12_isKnown_0_X12 hK hP mX12_isKnown_0_1 dX12_isKnown_3 ?_
  obtain ⟨r1, hc3, h⟩ := bd_some h
  refine cs_i (As := [.int x2, .int 0, .int (u.1 1)]) (rest := []) (AM_ge hJ) C hK hP hS (metX12_isIn l D cy st _ x2 0 (u.1 1) hc3) (va_cwS 3 C.2.2.2.2.2.1 gX12_isKnown_X12_isIn rfl rfl rfl (by decide +kernel) ⟨(Nat.le_of_ble_eq_true rfl), (Nat.le_of_ble_eq_true rfl)⟩) rfl hl.1 rfl (Nat.le_of_ble_eq_true rfl) dX12_isKnown_6 ⟨Nat.zero_le _, Nat.zero_le _⟩ (fun H locs hP hS => ?_)
  refine lv_if_eq (tgt := 21) C.1 C.2.1 dX12_isKnown_9 (by decide) (fun c9 => ?_) (fun c9 => ?_)
  · rw [if_pos c9] at h
    refine lv_iconst (v := 0) C.1 C.2.1 dX12_isKnown_21 (by decide) ?_
    obtain ⟨hg4, h⟩ := gd_some h
    cases h
    exact rt_z hg4 C hP hS dX12_isKnown_22
  · rw [if_neg c9] at h
    refine lv_iload_n C.1 C.2.1 dX12_isKnown_12 rfl (lv_at hl 1 rfl) ?_
    refine lv_iload_n C.1 C.2.1 dX12_isKnown_13 rfl (lv_at hl 2 rfl) ?_
    refine lv_icmp_gt (tgt := 21) C.1 C.2.1 dX12_isKnown_14 (by decide) (fun c14 => ?_) (fun c14 => ?_)
    · rw [if_pos c14] at h
      refine lv_iconst (v := 0) C.1 C.2.1 dX12_isKnown_21 (by decide) ?_
      obtain ⟨hg5, h⟩ := gd_some h
      cases h
      exact rt_z hg5 C hP hS dX12_isKnown_22
    · rw [if_neg c14] at h
      refine lv_iconst (v := 1) C.1 C.2.1 dX12_isKnown_17 (by decide) ?_
      refine lv_goto (tgt := 22) C.1 C.2.1 dX12_isKnown_18 (by decide) ?_
      obtain ⟨hg6, h⟩ := gd_some h
      cases h
      exact rt_z hg6 C hP hS dX12_isKnown_22
theorem metX12_isKnown_0 (l : Launch) (D : va_G) (cy : Nat → ClassId) (ad st : Nat → Nat) (hJ : JM ad st) (sz : Nat) (x1 : Int32) (x2 : Int32) {u : SX} {r : Int32} {u' : SX} (h : fX12_isKnown_0 x1 x2 u = some (r, u')) : Met l yX12_isKnown wsX12_isKnown rmX12_isKnown_0 (va_Pc [.ref (ad 0), .int x1, .int x2] (Px D [(cy 0, .int), (cy 1, .long), (cy 2, .boolean), (cy 3, .byte), (cy 4, .object "HissHorn$Text")] st (VM cy ad st) sz u)) (Qi D (VM cy ad st) (AM ad) sz r u') 0 0 (Ax (AM ad) sz) := by
  refine Met.ofW (cc := cX12_isKnown) (maxL := 3) (ret := (some .boolean)) (by decide) rfl ?_
  intro p e s m args below meth c s₁ B hml hv
  obtain ⟨rfl, hsz, hP, hK⟩ := hv
  subst hsz
  have C : Cx RX12 cX12_isKnown 3 (some .boolean) wsX12_isKnown p s m _ meth c := ⟨B.exec, B.bytes, hml, B.returns, findClass_of_methodNamed B.named, atoms_spec (ws := wsX12_isKnown) B.pre, B.notSynchronized⟩
  have hl := lv_entry ([.ref (ad 0), .int x1, .int x2]) (n := 3) (Nat.le_of_ble_eq_true rfl)
  rw [lg_entry_eq]
  exact wX12_isKnown_0 C hK hJ x1 x2 h hP va_S.rf hl

theorem zdX12_span_0 : (and (and (and (and (and (zk cX12_span 0 (.aload_n 0) 1) (zk cX12_span 1 (.iconst 0) 1)) (and (zk cX12_span 2 (.putfield 151) 3) (zk cX12_span 5 (.aload_n 0) 1))) (and (and (zk cX12_span 6 (.iload_n 1) 1) (zk cX12_span 7 (.invokevirtual 307) 3)) (and (zk cX12_span 10 (.ifCond .eq 26) 3) (zk cX12_span 36 (.iconst (-1)) 1)))) (and (and (and (zk cX12_span 37 (.ireturn) 1) (zk cX12_span 13 (.aload_n 0) 1)) (and (zk cX12_span 14 (.aload_n 0) 1) (zk cX12_span 15 (.getfield 47) 3))) (and (and (zk cX12_span 18 (.iload_n 1) 1) (zk cX12_span 19 (.iaload) 1)) (and (zk cX12_span 20 (.iload_n 2) 1) (zk cX12_span 21 (.invokevirtual 310) 3))))) (and (and (and (and (zk cX12_span 24 (.ifCond .eq 12) 3) (zk cX12_span 27 (.iload_n 3) 1)) (and (zk cX12_span 28 (.iconst 0) 1) (zk cX12_span 29 (.iconst 1) 1))) (and (and (zk cX12_span 30 (.invokestatic 155) 3) (zk cX12_span 33 (.ifCond .ne 5) 3)) (and (zk cX12_span 38 (.aload_n 0) 1) (zk cX12_span 39 (.iload_n 2) 1)))) (and (and (and (zk cX12_span 40 (.invokevirtual 313) 3) (zk cX12_span 43 (.iload_n 3) 1)) (and (zk cX12_span 44 (.ifCond .ne 12) 3) (zk cX12_span 56 (.aload_n 0) 1))) (and (and (zk cX12_span 57 (.getfield 68) 3) (zk cX12_span 60 (.iload_n 1) 1)) (and (zk cX12_span 61 (.iaload) 1) (zk cX12_span 62 (.ireturn) 1)))))) = true := by decide +kernel
theorem dX12_span_0 : decode cX12_span 0 = .ok (.aload_n 0, 1) := zk_of (zk_l (zk_l (zk_l (zk_l (zk_l zdX12_span_0)))))
theorem dX12_span_1 : decode cX12_span 1 = .ok (.iconst 0, 1) := zk_of (zk_r (zk_l (zk_l (zk_l (zk_l zdX12_span_0)))))
theorem dX12_span_2 : decode cX12_span 2 = .ok (.putfield 151, 3) := zk_of (zk_l (zk_r (zk_l (zk_l (zk_l zdX12_span_0)))))
theorem dX12_span_5 : decode cX12_span 5 = .ok (.aload_n 0, 1) := zk_of (zk_r (zk_r (zk_l (zk_l (zk_l zdX12_span_0)))))
theorem dX12_span_6 : decode cX12_span 6 = .ok (.iload_n 1, 1) := zk_of (zk_l (zk_l (zk_r (zk_l (zk_l zdX12_span_0)))))
theorem dX12_span_7 : decode cX12_span 7 = .ok (.invokevirtual 307, 3) := zk_of (zk_r (zk_l (zk_r (zk_l (zk_l zdX12_span_0)))))
theorem dX12_span_10 : decode cX12_span 10 = .ok (.ifCond .eq 26, 3) := zk_of (zk_l (zk_r (zk_r (zk_l (zk_l zdX12_span_0)))))
theorem dX12_span_36 : decode cX12_span 36 = .ok (.iconst (-1), 1) := zk_of (zk_r (zk_r (zk_r (zk_l (zk_l zdX12_span_0)))))
theorem dX12_span_37 : decode cX12_span 37 = .ok (.ireturn, 1) := zk_of (zk_l (zk_l (zk_l (zk_r (zk_l zdX12_span_0)))))
theorem dX12_span_13 : decode cX12_span 13 = .ok (.aload_n 0, 1) := zk_of (zk_r (zk_l (zk_l (zk_r (zk_l zdX12_span_0)))))
theorem dX12_span_14 : decode cX12_span 14 = .ok (.aload_n 0, 1) := zk_of (zk_l (zk_r (zk_l (zk_r (zk_l zdX12_span_0)))))
theorem dX12_span_15 : decode cX12_span 15 = .ok (.getfield 47, 3) := zk_of (zk_r (zk_r (zk_l (zk_r (zk_l zdX12_span_0)))))
theorem dX12_span_18 : decode cX12_span 18 = .ok (.iload_n 1, 1) := zk_of (zk_l (zk_l (zk_r (zk_r (zk_l zdX12_span_0)))))
theorem dX12_span_19 : decode cX12_span 19 = .ok (.iaload, 1) := zk_of (zk_r (zk_l (zk_r (zk_r (zk_l zdX12_span_0)))))
theorem dX12_span_20 : decode cX12_span 20 = .ok (.iload_n 2, 1) := zk_of (zk_l (zk_r (zk_r (zk_r (zk_l zdX12_span_0)))))
theorem dX12_span_21 : decode cX12_span 21 = .ok (.invokevirtual 310, 3) := zk_of (zk_r (zk_r (zk_r (zk_r (zk_l zdX12_span_0)))))
theorem dX12_span_24 : decode cX12_span 24 = .ok (.ifCond .eq 12, 3) := zk_of (zk_l (zk_l (zk_l (zk_l (zk_r zdX12_span_0)))))
theorem dX12_span_27 : decode cX12_span 27 = .ok (.iload_n 3, 1) := zk_of (zk_r (zk_l (zk_l (zk_l (zk_r zdX12_span_0)))))
theorem dX12_span_28 : decode cX12_span 28 = .ok (.iconst 0, 1) := zk_of (zk_l (zk_r (zk_l (zk_l (zk_r zdX12_span_0)))))
theorem dX12_span_29 : decode cX12_span 29 = .ok (.iconst 1, 1) := zk_of (zk_r (zk_r (zk_l (zk_l (zk_r zdX12_span_0)))))
theorem dX12_span_30 : decode cX12_span 30 = .ok (.invokestatic 155, 3) := zk_of (zk_l (zk_l (zk_r (zk_l (zk_r zdX12_span_0)))))
theorem dX12_span_33 : decode cX12_span 33 = .ok (.ifCond .ne 5, 3) := zk_of (zk_r (zk_l (zk_r (zk_l (zk_r zdX12_span_0)))))
theorem dX12_span_38 : decode cX12_span 38 = .ok (.aload_n 0, 1) := zk_of (zk_l (zk_r (zk_r (zk_l (zk_r zdX12_span_0)))))
theorem dX12_span_39 : decode cX12_span 39 = .ok (.iload_n 2, 1) := zk_of (zk_r (zk_r (zk_r (zk_l (zk_r zdX12_span_0)))))
theorem dX12_span_40 : decode cX12_span 40 = .ok (.invokevirtual 313, 3) := zk_of (zk_l (zk_l (zk_l (zk_r (zk_r zdX12_span_0)))))
theorem dX12_span_43 : decode cX12_span 43 = .ok (.iload_n 3, 1) := zk_of (zk_r (zk_l (zk_l (zk_r (zk_r zdX12_span_0)))))
theorem dX12_span_44 : decode cX12_span 44 = .ok (.ifCond .ne 12, 3) := zk_of (zk_l (zk_r (zk_l (zk_r (zk_r zdX12_span_0)))))
theorem dX12_span_56 : decode cX12_span 56 = .ok (.aload_n 0, 1) := zk_of (zk_r (zk_r (zk_l (zk_r (zk_r zdX12_span_0)))))
theorem dX12_span_57 : decode cX12_span 57 = .ok (.getfield 68, 3) := zk_of (zk_l (zk_l (zk_r (zk_r (zk_r zdX12_span_0)))))
theorem dX12_span_60 : decode cX12_span 60 = .ok (.iload_n 1, 1) := zk_of (zk_r (zk_l (zk_r (zk_r (zk_r zdX12_span_0)))))
theorem dX12_span_61 : decode cX12_span 61 = .ok (.iaload, 1) := zk_of (zk_l (zk_r (zk_r (zk_r (zk_r zdX12_span_0)))))
theorem dX12_span_62 : decode cX12_span 62 = .ok (.ireturn, 1) := zk_of (zk_r (zk_r (zk_r (zk_r (zk_r zdX12_span_0)))))
set_option maxRecDepth 20000 in
theorem ggX12_span_X12_isPart : GoodIn wsX12_span wsX12_isPart := ggi (fun w h => List.mem_cons_of_mem _ (List.mem_append_left _ (List.mem_append_right _ (List.mem_append_left _ h)))) gs_X12_isPart
set_option maxRecDepth 20000 in
theorem gX12_span_X12_isPart : GoodIn wsX12_span (wsV RX12 307 RX12 yX12_isPart wsX12_isPart) := goodIn_app (goodIn_of _ (by decide +kernel)) ggX12_span_X12_isPart
set_option maxRecDepth 20000 in
theorem ggX12_span_X12_isKnown : GoodIn wsX12_span wsX12_isKnown := ggi (fun w h => List.mem_cons_of_mem _ (List.mem_append_left _ (List.mem_append_right _ (List.mem_append_right _ (List.mem_append_left _ h))))) gs_X12_isKnown
set_option maxRecDepth 20000 in
theorem gX12_span_X12_isKnown : GoodIn wsX12_span (wsV RX12 310 RX12 yX12_isKnown wsX12_isKnown) := goodIn_app (goodIn_of _ (by decide +kernel)) ggX12_span_X12_isKnown
set_option maxRecDepth 20000 in
theorem ggX12_span_X12_isIn : GoodIn wsX12_span wsX12_isIn := ggi (fun w h => List.mem_cons_of_mem _ (List.mem_append_left _ (List.mem_append_right _ (List.mem_append_right _ (List.mem_append_right _ (List.mem_append_left _ h)))))) gs_X12_isIn
set_option maxRecDepth 20000 in
theorem gX12_span_X12_isIn : GoodIn wsX12_span (va_wsS RX12 155 yX12_isIn wsX12_isIn) := goodIn_app (goodIn_of _ (by decide +kernel)) ggX12_span_X12_isIn
set_option maxRecDepth 20000 in
theorem ggX12_span_X12_laySpansOf : GoodIn wsX12_span wsX12_laySpansOf := ggi (fun w h => List.mem_cons_of_mem _ (List.mem_append_left _ (List.mem_append_right _ (List.mem_append_right _ (List.mem_append_right _ (List.mem_append_right _ h)))))) gs_X12_laySpansOf
set_option maxRecDepth 20000 in
theorem gX12_span_X12_laySpansOf : GoodIn wsX12_span (wsV RX12 313 RX12 yX12_laySpansOf wsX12_laySpansOf) := goodIn_app (goodIn_of _ (by decide +kernel)) ggX12_span_X12_laySpansOf
theorem zdX12_span_47 : (and (and (and (zk cX12_span 47 (.aload_n 0) 1) (zk cX12_span 48 (.getfield 65) 3)) (zk cX12_span 51 (.iload_n 1) 1)) (and (zk cX12_span 52 (.iaload) 1) (zk cX12_span 53 (.goto 9) 3))) = true := by decide +kernel
theorem dX12_span_47 : decode cX12_span 47 = .ok (.aload_n 0, 1) := zk_of (zk_l (zk_l (zk_l zdX12_span_47)))
theorem dX12_span_48 : decode cX12_span 48 = .ok (.getfield 65, 3) := zk_of (zk_r (zk_l (zk_l zdX12_span_47)))
theorem dX12_span_51 : decode cX12_span 51 = .ok (.iload_n 1, 1) := zk_of (zk_r (zk_l zdX12_span_47))
theorem dX12_span_52 : decode cX12_span 52 = .ok (.iaload, 1) := zk_of (zk_l (zk_r zdX12_span_47))
theorem dX12_span_53 : decode cX12_span 53 = .ok (.goto 9, 3) := zk_of (zk_r (zk_r zdX12_span_47))
/-- HissHornModel.span(III)I of cell 0 -/
def rmX12_span_0 : Room := { frames := 4, cells := 0, slots := 0, locals := 84 }
theorem hX12_span_0_X12 : ∀ w ∈ u_ws RX12 TX12 69, w ∈ wsX12_span := fun w h => (List.mem_cons_of_mem _ (List.mem_append_right _ h))
theorem mX12_span_0_1 : Cond.fieldLink RX12 151 "HissHornModel" "thrown" "I" ∈ wsX12_span := (List.mem_cons_of_mem _ (List.mem_append_left _ (List.mem_append_left _ (List.mem_of_getElem? (i := 12) rfl))))
theorem mX12_span_0_2 : Cond.fieldLink RX12 47 "HissHornModel" "partTold" "[I" ∈ wsX12_span := (List.mem_cons_of_mem _ (List.mem_append_left _ (List.mem_append_left _ (List.mem_of_getElem? (i := 13) rfl))))
theorem mX12_span_0_3 : Cond.fieldLink RX12 68 "HissHornModel" "to" "[I" ∈ wsX12_span := (List.mem_cons_of_mem _ (List.mem_append_left _ (List.mem_append_left _ (List.mem_of_getElem? (i := 14) rfl))))
theorem mX12_span_0_4 : Cond.fieldLink RX12 65 "HissHornModel" "from" "[I" ∈ wsX12_span := (List.mem_cons_of_mem _ (List.mem_append_left _ (List.mem_append_left _ (List.mem_of_getElem? (i := 15) rfl))))
def fX12_span_0 (x1 : Int32) (x2 : Int32) (x3 : Int32) (u : SX) : Option (Int32 × SX) := (lt (sI u 0 0) fun u1 => ((fX12_isPart_0 x1 u1).bind fun q => match q with | (r3, u4) => (if r3 = 0 then (some ((-1), u4)) else (gd (inb x1 12) ((fX12_isKnown_0 (u4.2.1 10 x1.toNatClampNeg) x2 u4).bind fun q => match q with | (r7, u8) => (if r7 = 0 then (some ((-1), u8)) else ((fX12_isIn x3 0 1).bind fun r10 => (if r10 = 0 then (some ((-1), u8)) else ((fX12_laySpansOf_0 x2 u8).bind fun q => match q with | (r13, u14) => (if x3 = 0 then (gd (inb x1 12) (some (u14.2.1 16 x1.toNatClampNeg, u14))) else (gd (inb x1 12) (some (u14.2.1 17 x1.toNatClampNeg, u14)))))))))))))
set_option maxHeartbeats 4000000 in
set_option maxRecDepth 100000 in
theorem wX12_span_0 {p : Program} {l : Launch} {e : Env} {s : State} {m : MethodId} {args : Array Value} {below : List Frame} {meth : Method} {c : Code} {D : va_G} {cy : Nat → ClassId} {ad st : Nat → Nat} (C : Cx RX12 cX12_span 4 (some .int) wsX12_span p s m args meth c) (hK : Ky D [(cy 0, .int), (cy 1, .long), (cy 2, .boolean), (cy 3, .byte), (cy 4, .object "HissHorn$Text")] st s) (hJ : JM ad st) (x1 : Int32) (x2 : Int32) (x3 : Int32) {u : SX} {r : Int32} {u' : SX} {H : Heap} {locs : List Loc} {ls : Array Slot} (h : fX12_span_0 x1 x2 x3 u = some (r, u')) (hP : va_P D vwCl (VM cy ad st u) H) (hS : va_S (Ax (AM ad) s.heap.size) s.heap H locs) (hl : lv_has ls 4 [(0, .ref (ad 0)), (1, .int x1), (2, .int x2), (3, .int x3)]) : W p l e rmX12_span_0 s m args below meth c H locs 0 0 (MQ below (Qi D (VM cy ad st) (AM ad) s.heap.size r u') args s 0 0 (Ax (AM ad) s.heap.size)) (F0 m 0 ls []) := by
  unfold fX12_span_0 at h
  refine lv_aload_n C.1 C.2.1 dX12_span_0 rfl (lv_at hl 0 rfl) ?_
  refine lv_iconst (v := 0) C.1 C.2.1 dX12_span_1 (by decide) ?_
  refine pM_0_thrown C hX12_span_0_X12 hK hP hJ hS mX12_span_0_1 dX12_span_2 (fun H locs hP hS => ?_)
  obtain ⟨u1, hu2, h⟩ := lt_some h
  rw [← hu2] at hP
  refine lv_aload_n C.1 C.2.1 dX12_span_5 rfl (lv_at hl 0 rfl) ?_
  refine lv_iload_n C.1 C.2.1 dX12_span_6 rfl (lv_at hl 1 rfl) ?_
  obtain ⟨⟨r3, u4⟩, hc5, h⟩ := bd_some h
  try dsimp only at h
  refine cg_i (As := [.int x1]) (rest := []) (AM_ge hJ) C hK hP hS (metX12_isPart_0 l D cy ad st hJ _ x1 hc5) (cwV 1 C.2.2.2.2.2.1 gX12_span_X12_isPart rfl rfl rfl (by decide +kernel) ⟨(Nat.le_of_ble_eq_true rfl), (Nat.le_of_ble_eq_true rfl)⟩) 0 12 rfl rfl rfl hl.1 rfl (Nat.le_of_ble_eq_true rfl) dX12_span_7 ⟨Nat.zero_le _, Nat.zero_le _⟩ (fun H locs hP hS => ?_)
  refine lv_if_eq (tgt := 36) C.1 C.2.1 dX12_span_10 (by decide) (fun c10 => ?_) (fun c10 => ?_)
  · rw [if_pos c10] at h
    refine lv_iconst (v := (-1)) C.1 C.2.1 dX12_span_36 (by decide) ?_
    cases h
    exact rt_i C hP hS dX12_span_37
  · rw [if_neg c10] at h
    refine lv_aload_n C.1 C.2.1 dX12_span_13 rfl (lv_at hl 0 rfl) ?_
    refine lv_aload_n C.1 C.2.1 dX12_span_14 rfl (lv_at hl 0 rfl) ?_
    refine gM_0_partTold C hX12_span_0_X12 hK hP mX12_span_0_2 dX12_span_15 ?_
    refine lv_iload_n C.1 C.2.1 dX12_span_18 rfl (lv_at hl 1 rfl) ?_
    obtain ⟨hg6, h⟩ := gd_some h
    refine lM_10 C hK hP hg6 dX12_span_19 ?_
    refine lv_iload_n C.1 C.2.1 dX12_span_20 rfl (lv_at hl 2 rfl) ?_
    obtain ⟨⟨r7, u8⟩, hc9, h⟩ := bd_some h
    try dsimp only at h
    refine cg_i (As := [.int (u4.2.1 10 x1.toNatClampNeg), .int x2]) (rest := []) (AM_ge hJ) C hK hP hS (metX12_isKnown_0 l D cy ad st hJ _ (u4.2.1 10 x1.toNatClampNeg) x2 hc9) (cwV 2 C.2.2.2.2.2.1 gX12_span_X12_isKnown rfl rfl rfl (by decide +kernel) ⟨(Nat.le_of_ble_eq_true rfl), (Nat.le_of_ble_eq_true rfl)⟩) 0 12 rfl rfl rfl hl.1 rfl (Nat.le_of_ble_eq_true rfl) dX12_span_21 ⟨Nat.zero_le _, Nat.zero_le _⟩ (fun H locs hP hS => ?_)
    refine lv_if_eq (tgt := 36) C.1 C.2.1 dX12_span_24 (by decide) (fun c24 => ?_) (fun c24 => ?_)
    · rw [if_pos c24] at h
      refine lv_iconst (v := (-1)) C.1 C.2.1 dX12_span_36 (by decide) ?_
      cases h
      exact rt_i C hP hS dX12_span_37
    · rw [if_neg c24] at h
      refine lv_iload_n C.1 C.2.1 dX12_span_27 rfl (lv_at hl 3 rfl) ?_
      refine lv_iconst (v := 0) C.1 C.2.1 dX12_span_28 (by decide) ?_
      refine lv_iconst (v := 1) C.1 C.2.1 dX12_span_29 (by decide) ?_
      obtain ⟨r10, hc12, h⟩ := bd_some h
      refine cs_i (As := [.int x3, .int 0, .int 1]) (rest := []) (AM_ge hJ) C hK hP hS (metX12_isIn l D cy st _ x3 0 1 hc12) (va_cwS 3 C.2.2.2.2.2.1 gX12_span_X12_isIn rfl rfl rfl (by decide +kernel) ⟨(Nat.le_of_ble_eq_true rfl), (Nat.le_of_ble_eq_true rfl)⟩) rfl hl.1 rfl (Nat.le_of_ble_eq_true rfl) dX12_span_30 ⟨Nat.zero_le _, Nat.zero_le _⟩ (fun H locs hP hS => ?_)
      refine lv_if_ne (tgt := 38) C.1 C.2.1 dX12_span_33 (by decide) (fun c33 => ?_) (fun c33 => ?_)
      · rw [if_neg c33] at h
        refine lv_aload_n C.1 C.2.1 dX12_span_38 rfl (lv_at hl 0 rfl) ?_
        refine lv_iload_n C.1 C.2.1 dX12_span_39 rfl (lv_at hl 2 rfl) ?_
        obtain ⟨⟨r13, u14⟩, hc15, h⟩ := bd_some h
        try dsimp only at h
        refine cg_v (As := [.int x2]) (rest := []) (AM_ge hJ) C hK hP hS (metX12_laySpansOf_0 l D cy ad st hJ _ x2 hc15) (cwV 1 C.2.2.2.2.2.1 gX12_span_X12_laySpansOf rfl rfl rfl (by decide +kernel) ⟨(Nat.le_of_ble_eq_true rfl), (Nat.le_of_ble_eq_true rfl)⟩) 0 12 rfl rfl rfl hl.1 rfl (Nat.le_of_ble_eq_true rfl) dX12_span_40 ⟨Nat.zero_le _, Nat.zero_le _⟩ (fun H locs hP hS => ?_)
        refine lv_iload_n C.1 C.2.1 dX12_span_43 rfl (lv_at hl 3 rfl) ?_
        refine lv_if_ne (tgt := 56) C.1 C.2.1 dX12_span_44 (by decide) (fun c44 => ?_) (fun c44 => ?_)
        · rw [if_neg c44] at h
          refine lv_aload_n C.1 C.2.1 dX12_span_56 rfl (lv_at hl 0 rfl) ?_
          refine gM_0_to C hX12_span_0_X12 hK hP mX12_span_0_3 dX12_span_57 ?_
          refine lv_iload_n C.1 C.2.1 dX12_span_60 rfl (lv_at hl 1 rfl) ?_
          obtain ⟨hg16, h⟩ := gd_some h
          refine lM_17 C hK hP hg16 dX12_span_61 ?_
          cases h
          exact rt_i C hP hS dX12_span_62
        · rw [if_pos c44] at h
          refine lv_aload_n C.1 C.2.1 dX12_span_47 rfl (lv_at hl 0 rfl) ?_
          refine gM_0_from C hX12_span_0_X12 hK hP mX12_span_0_4 dX12_span_48 ?_
          refine lv_iload_n C.1 C.2.1 dX12_span_51 rfl (lv_at hl 1 rfl) ?_
          obtain ⟨hg17, h⟩ := gd_some h
          refine lM_16 C hK hP hg17 dX12_span_52 ?_
          refine lv_goto (tgt := 62) C.1 C.2.1 dX12_span_53 (by decide) ?_
          cases h
          exact rt_i C hP hS dX12_span_62
      · rw [if_pos c33] at h
        refine lv_iconst (v := (-1)) C.1 C.2.1 dX12_span_36 (by decide) ?_
        cases h
        exact rt_i C hP hS dX12_span_37
theorem metX12_span_0 (l : Launch) (D : va_G) (cy : Nat → ClassId) (ad st : Nat → Nat) (hJ : JM ad st) (sz : Nat) (x1 : Int32) (x2 : Int32) (x3 : Int32) {u : SX} {r : Int32} {u' : SX} (h : fX12_span_0 x1 x2 x3 u = some (r, u')) : Met l yX12_span wsX12_span rmX12_span_0 (va_Pc [.ref (ad 0), .int x1, .int x2, .int x3] (Px D [(cy 0, .int), (cy 1, .long), (cy 2, .boolean), (cy 3, .byte), (cy 4, .object "HissHorn$Text")] st (VM cy ad st) sz u)) (Qi D (VM cy ad st) (AM ad) sz r u') 0 0 (Ax (AM ad) sz) := by
  refine Met.ofW (cc := cX12_span) (maxL := 4) (ret := (some .int)) (by decide) rfl ?_
  intro p e s m args below meth c s₁ B hml hv
  obtain ⟨rfl, hsz, hP, hK⟩ := hv
  subst hsz
  have C : Cx RX12 cX12_span 4 (some .int) wsX12_span p s m _ meth c := ⟨B.exec, B.bytes, hml, B.returns, findClass_of_methodNamed B.named, atoms_spec (ws := wsX12_span) B.pre, B.notSynchronized⟩
  have hl := lv_entry ([.ref (ad 0), .int x1, .int x2, .int x3]) (n := 4) (Nat.le_of_ble_eq_true rfl)
  rw [lg_entry_eq]
  exact wX12_span_0 C hK hJ x1 x2 x3 h hP va_S.rf hl

theorem zdX12_layWorths_3 : (and (and (and (and (and (zk cX12_layWorths 3 (.iload 7) 2) (zk cX12_layWorths 5 (.aload_n 0) 1)) (and (zk cX12_layWorths 6 (.getfield 286) 3) (zk cX12_layWorths 9 (.if_icmp .ge 36) 3))) (and (and (zk cX12_layWorths 45 (.return_) 1) (zk cX12_layWorths 12 (.aload_n 0) 1)) (zk cX12_layWorths 13 (.getfield 71) 3))) (and (and (and (zk cX12_layWorths 16 (.iload 7) 2) (zk cX12_layWorths 18 (.aload_n 0) 1)) (zk cX12_layWorths 19 (.aload_n 0) 1)) (and (and (zk cX12_layWorths 20 (.getfield 35) 3) (zk cX12_layWorths 23 (.iload 7) 2)) (zk cX12_layWorths 25 (.iaload) 1)))) (and (and (and (and (zk cX12_layWorths 26 (.iload_n 1) 1) (zk cX12_layWorths 27 (.iload_n 2) 1)) (zk cX12_layWorths 28 (.iload_n 3) 1)) (and (and (zk cX12_layWorths 29 (.iload 4) 2) (zk cX12_layWorths 31 (.iload 5) 2)) (zk cX12_layWorths 33 (.iload 6) 2))) (and (and (and (zk cX12_layWorths 35 (.invokevirtual 282) 3) (zk cX12_layWorths 38 (.iastore) 1)) (zk cX12_layWorths 39 (.iinc 7 1) 3)) (and (and (zk cX12_layWorths 42 (.goto (-39)) 3) (zk cX12_layWorths 0 (.iconst 0) 1)) (zk cX12_layWorths 1 (.istore 7) 2))))) = true := by decide +kernel
theorem dX12_layWorths_3 : decode cX12_layWorths 3 = .ok (.iload 7, 2) := zk_of (zk_l (zk_l (zk_l (zk_l (zk_l zdX12_layWorths_3)))))
theorem dX12_layWorths_5 : decode cX12_layWorths 5 = .ok (.aload_n 0, 1) := zk_of (zk_r (zk_l (zk_l (zk_l (zk_l zdX12_layWorths_3)))))
theorem dX12_layWorths_6 : decode cX12_layWorths 6 = .ok (.getfield 286, 3) := zk_of (zk_l (zk_r (zk_l (zk_l (zk_l zdX12_layWorths_3)))))
theorem dX12_layWorths_9 : decode cX12_layWorths 9 = .ok (.if_icmp .ge 36, 3) := zk_of (zk_r (zk_r (zk_l (zk_l (zk_l zdX12_layWorths_3)))))
theorem dX12_layWorths_45 : decode cX12_layWorths 45 = .ok (.return_, 1) := zk_of (zk_l (zk_l (zk_r (zk_l (zk_l zdX12_layWorths_3)))))
theorem dX12_layWorths_12 : decode cX12_layWorths 12 = .ok (.aload_n 0, 1) := zk_of (zk_r (zk_l (zk_r (zk_l (zk_l zdX12_layWorths_3)))))
theorem dX12_layWorths_13 : decode cX12_layWorths 13 = .ok (.getfield 71, 3) := zk_of (zk_r (zk_r (zk_l (zk_l zdX12_layWorths_3))))
theorem dX12_layWorths_16 : decode cX12_layWorths 16 = .ok (.iload 7, 2) := zk_of (zk_l (zk_l (zk_l (zk_r (zk_l zdX12_layWorths_3)))))
theorem dX12_layWorths_18 : decode cX12_layWorths 18 = .ok (.aload_n 0, 1) := zk_of (zk_r (zk_l (zk_l (zk_r (zk_l zdX12_layWorths_3)))))
theorem dX12_layWorths_19 : decode cX12_layWorths 19 = .ok (.aload_n 0, 1) := zk_of (zk_r (zk_l (zk_r (zk_l zdX12_layWorths_3))))
theorem dX12_layWorths_20 : decode cX12_layWorths 20 = .ok (.getfield 35, 3) := zk_of (zk_l (zk_l (zk_r (zk_r (zk_l zdX12_layWorths_3)))))
theorem dX12_layWorths_23 : decode cX12_layWorths 23 = .ok (.iload 7, 2) := zk_of (zk_r (zk_l (zk_r (zk_r (zk_l zdX12_layWorths_3)))))
theorem dX12_layWorths_25 : decode cX12_layWorths 25 = .ok (.iaload, 1) := zk_of (zk_r (zk_r (zk_r (zk_l zdX12_layWorths_3))))
theorem dX12_layWorths_26 : decode cX12_layWorths 26 = .ok (.iload_n 1, 1) := zk_of (zk_l (zk_l (zk_l (zk_l (zk_r zdX12_layWorths_3)))))
theorem dX12_layWorths_27 : decode cX12_layWorths 27 = .ok (.iload_n 2, 1) := zk_of (zk_r (zk_l (zk_l (zk_l (zk_r zdX12_layWorths_3)))))
theorem dX12_layWorths_28 : decode cX12_layWorths 28 = .ok (.iload_n 3, 1) := zk_of (zk_r (zk_l (zk_l (zk_r zdX12_layWorths_3))))
theorem dX12_layWorths_29 : decode cX12_layWorths 29 = .ok (.iload 4, 2) := zk_of (zk_l (zk_l (zk_r (zk_l (zk_r zdX12_layWorths_3)))))
theorem dX12_layWorths_31 : decode cX12_layWorths 31 = .ok (.iload 5, 2) := zk_of (zk_r (zk_l (zk_r (zk_l (zk_r zdX12_layWorths_3)))))
theorem dX12_layWorths_33 : decode cX12_layWorths 33 = .ok (.iload 6, 2) := zk_of (zk_r (zk_r (zk_l (zk_r zdX12_layWorths_3))))
theorem dX12_layWorths_35 : decode cX12_layWorths 35 = .ok (.invokevirtual 282, 3) := zk_of (zk_l (zk_l (zk_l (zk_r (zk_r zdX12_layWorths_3)))))
theorem dX12_layWorths_38 : decode cX12_layWorths 38 = .ok (.iastore, 1) := zk_of (zk_r (zk_l (zk_l (zk_r (zk_r zdX12_layWorths_3)))))
theorem dX12_layWorths_39 : decode cX12_layWorths 39 = .ok (.iinc 7 1, 3) := zk_of (zk_r (zk_l (zk_r (zk_r zdX12_layWorths_3))))
theorem dX12_layWorths_42 : decode cX12_layWorths 42 = .ok (.goto (-39), 3) := zk_of (zk_l (zk_l (zk_r (zk_r (zk_r zdX12_layWorths_3)))))
theorem dX12_layWorths_0 : decode cX12_layWorths 0 = .ok (.iconst 0, 1) := zk_of (zk_r (zk_l (zk_r (zk_r (zk_r zdX12_layWorths_3)))))
theorem dX12_layWorths_1 : decode cX12_layWorths 1 = .ok (.istore 7, 2) := zk_of (zk_r (zk_r (zk_r (zk_r zdX12_layWorths_3))))
set_option maxRecDepth 20000 in
theorem ggX12_layWorths_X12_lawWorth : GoodIn wsX12_layWorths wsX12_lawWorth := ggi (fun w h => List.mem_cons_of_mem _ (List.mem_append_left _ (List.mem_append_right _ h))) gs_X12_lawWorth
set_option maxRecDepth 20000 in
theorem gX12_layWorths_X12_lawWorth : GoodIn wsX12_layWorths (wsV RX12 282 RX12 yX12_lawWorth wsX12_lawWorth) := goodIn_app (goodIn_of _ (by decide +kernel)) ggX12_layWorths_X12_lawWorth
/-- HissHornModel.layWorths(IIIIII)V of cell 0 -/
def rmX12_layWorths_0 : Room := { frames := 139, cells := 0, slots := 0, locals := 8454 }
theorem hX12_layWorths_0_X12 : ∀ w ∈ u_ws RX12 TX12 69, w ∈ wsX12_layWorths := fun w h => (List.mem_cons_of_mem _ (List.mem_append_right _ h))
theorem mX12_layWorths_0_1 : Cond.fieldLink RX12 286 "HissHornModel" "parts" "I" ∈ wsX12_layWorths := (List.mem_cons_of_mem _ (List.mem_append_left _ (List.mem_append_left _ (List.mem_of_getElem? (i := 4) rfl))))
theorem mX12_layWorths_0_2 : Cond.fieldLink RX12 71 "HissHornModel" "worths" "[I" ∈ wsX12_layWorths := (List.mem_cons_of_mem _ (List.mem_append_left _ (List.mem_append_left _ (List.mem_of_getElem? (i := 5) rfl))))
theorem mX12_layWorths_0_3 : Cond.fieldLink RX12 35 "HissHornModel" "partLaw" "[I" ∈ wsX12_layWorths := (List.mem_cons_of_mem _ (List.mem_append_left _ (List.mem_append_left _ (List.mem_of_getElem? (i := 6) rfl))))
def LX12_layWorths_0_3  : Nat → Int32 → Int32 → Int32 → Int32 → Int32 → Int32 → Int32 → SX → Option (Int32 × SX)
  | 0, _, _, _, _, _, _, _, _ => none
  | n + 1, z1, z2, z3, z4, z5, z6, z7, u => (if (u.1 12) ≤ z7 then (some (0, u)) else (gd (inb z7 12) ((fX12_lawWorth_0 (u.2.1 6 z7.toNatClampNeg) z1 z2 z3 z4 z5 z6 u).bind fun q => match q with | (r2, u3) => (gd (inb z7 12) (lt (sA u3 18 (upd (u3.2.1 18) z7.toNatClampNeg r2)) fun u6 => ((LX12_layWorths_0_3 n) z1 z2 z3 z4 z5 z6 (z7 + 1) u6))))))
def fX12_layWorths_0 (x1 : Int32) (x2 : Int32) (x3 : Int32) (x4 : Int32) (x5 : Int32) (x6 : Int32) (u : SX) : Option (Int32 × SX) := (LX12_layWorths_0_3  5000 x1 x2 x3 x4 x5 x6 0 u)
set_option maxHeartbeats 4000000 in
set_option maxRecDepth 100000 in
theorem wLX12_layWorths_0_3 {p : Program} {l : Launch} {e : Env} {s : State} {m : MethodId} {args : Array Value} {below : List Frame} {meth : Method} {c : Code} {D : va_G} {cy : Nat → ClassId} {ad st : Nat → Nat} (C : Cx RX12 cX12_layWorths 8 none wsX12_layWorths p s m args meth c) (hK : Ky D [(cy 0, .int), (cy 1, .long), (cy 2, .boolean), (cy 3, .byte), (cy 4, .object "HissHorn$Text")] st s) (hJ : JM ad st) {r : Int32} {u' : SX}   : ∀ (n : Nat) (z1 : Int32) (z2 : Int32) (z3 : Int32) (z4 : Int32) (z5 : Int32) (z6 : Int32) (z7 : Int32) (u : SX) (H : Heap) (locs : List Loc) (ls : Array Slot), LX12_layWorths_0_3  n z1 z2 z3 z4 z5 z6 z7 u = some (r, u') → va_P D vwCl (VM cy ad st u) H → va_S (Ax (AM ad) s.heap.size) s.heap H locs → lv_has ls 8 [(0, .ref (ad 0)), (1, .int z1), (2, .int z2), (3, .int z3), (4, .int z4), (5, .int z5), (6, .int z6), (7, .int z7)] → W p l e rmX12_layWorths_0 s m args below meth c H locs 0 0 (MQ below (Qv D (VM cy ad st) (AM ad) s.heap.size r u') args s 0 0 (Ax (AM ad) s.heap.size)) (F0 m 3 ls []) := by
  intro n
  induction n with
  | zero =>
    intro z1 z2 z3 z4 z5 z6 z7 u H locs ls h
    exact absurd h (by intro q; cases q)
  | succ n ih =>
    intro z1 z2 z3 z4 z5 z6 z7 u H locs ls h hP hS hl
    rw [LX12_layWorths_0_3] at h
    refine lv_iload C.1 C.2.1 dX12_layWorths_3 (lv_at hl 7 rfl) ?_
    refine lv_aload_n C.1 C.2.1 dX12_layWorths_5 rfl (lv_at hl 0 rfl) ?_
    refine gM_0_parts C hX12_layWorths_0_X12 hK hP mX12_layWorths_0_1 dX12_layWorths_6 ?_
    refine lv_icmp_ge (tgt := 45) C.1 C.2.1 dX12_layWorths_9 (by decide) (fun c9 => ?_) (fun c9 => ?_)
    · rw [if_pos c9] at h
      cases h
      exact rt_v C hP hS dX12_layWorths_45
    · rw [if_neg c9] at h
      refine lv_aload_n C.1 C.2.1 dX12_layWorths_12 rfl (lv_at hl 0 rfl) ?_
      refine gM_0_worths C hX12_layWorths_0_X12 hK hP mX12_layWorths_0_2 dX12_layWorths_13 ?_
      refine lv_iload C.1 C.2.1 dX12_layWorths_16 (lv_at hl 7 rfl) ?_
      refine lv_aload_n C.1 C.2.1 dX12_layWorths_18 rfl (lv_at hl 0 rfl) ?_
      refine lv_aload_n C.1 C.2.1 dX12_layWorths_19 rfl (lv_at hl 0 rfl) ?_
      refine gM_0_partLaw C hX12_layWorths_0_X12 hK hP mX12_layWorths_0_3 dX12_layWorths_20 ?_
      refine lv_iload C.1 C.2.1 dX12_layWorths_23 (lv_at hl 7 rfl) ?_
      obtain ⟨hg1, h⟩ := gd_some h
      refine lM_6 C hK hP hg1 dX12_layWorths_25 ?_
      refine lv_iload_n C.1 C.2.1 dX12_layWorths_26 rfl (lv_at hl 1 rfl) ?_
      refine lv_iload_n C.1 C.2.1 dX12_layWorths_27 rfl (lv_at hl 2 rfl) ?_
      refine lv_iload_n C.1 C.2.1 dX12_layWorths_28 rfl (lv_at hl 3 rfl) ?_
      refine lv_iload C.1 C.2.1 dX12_layWorths_29 (lv_at hl 4 rfl) ?_
      refine lv_iload C.1 C.2.1 dX12_layWorths_31 (lv_at hl 5 rfl) ?_
      refine lv_iload C.1 C.2.1 dX12_layWorths_33 (lv_at hl 6 rfl) ?_
      obtain ⟨⟨r2, u3⟩, hc4, h⟩ := bd_some h
      try dsimp only at h
      refine cg_i (As := [.int (u.2.1 6 z7.toNatClampNeg), .int z1, .int z2, .int z3, .int z4, .int z5, .int z6]) (rest := [.int z7, .ref (ad 18)]) (AM_ge hJ) C hK hP hS (metX12_lawWorth_0 l D cy ad st hJ _ (u.2.1 6 z7.toNatClampNeg) z1 z2 z3 z4 z5 z6 hc4) (cwV 7 C.2.2.2.2.2.1 gX12_layWorths_X12_lawWorth rfl rfl rfl (by decide +kernel) ⟨(Nat.le_of_ble_eq_true rfl), (Nat.le_of_ble_eq_true rfl)⟩) 0 12 rfl rfl rfl hl.1 rfl (Nat.le_of_ble_eq_true rfl) dX12_layWorths_35 ⟨Nat.zero_le _, Nat.zero_le _⟩ (fun H locs hP hS => ?_)
      obtain ⟨hg5, h⟩ := gd_some h
      refine tM_18 C hK hP hJ hS hg5 dX12_layWorths_38 (fun H locs hP hS => ?_)
      obtain ⟨u6, hu7, h⟩ := lt_some h
      rw [← hu7] at hP
      refine lv_iinc (v := z7 + 1) (lv' := [(7, .int (z7 + 1)), (0, .ref (ad 0)), (1, .int z1), (2, .int z2), (3, .int z3), (4, .int z4), (5, .int z5), (6, .int z6)]) C.1 C.2.1 dX12_layWorths_39 hl (k := 7) rfl rfl (by decide) rfl (fun ls hl => ?_)
      replace hl := lv_sub (l' := [(0, .ref (ad 0)), (1, .int z1), (2, .int z2), (3, .int z3), (4, .int z4), (5, .int z5), (6, .int z6), (7, .int (z7 + 1))]) hl [1, 2, 3, 4, 5, 6, 7, 0] rfl
      refine lv_goto (tgt := 3) C.1 C.2.1 dX12_layWorths_42 (by decide) ?_
      exact ih _ _ _ _ _ _ _ _ _ _ _ h hP hS hl
set_option maxHeartbeats 4000000 in
set_option maxRecDepth 100000 in
theorem wX12_layWorths_0 {p : Program} {l : Launch} {e : Env} {s : State} {m : MethodId} {args : Array Value} {below : List Frame} {meth : Method} {c : Code} {D : va_G} {cy : Nat → ClassId} {ad st : Nat → Nat} (C : Cx RX12 cX12_layWorths 8 none wsX12_layWorths p s m args meth c) (hK : Ky D [(cy 0, .int), (cy 1, .long), (cy 2, .boolean), (cy 3, .byte), (cy 4, .object "HissHorn$Text")] st s) (hJ : JM ad st) (x1 : Int32) (x2 : Int32) (x3 : Int32) (x4 : Int32) (x5 : Int32) (x6 : Int32) {u : SX} {r : Int32} {u' : SX} {H : Heap} {locs : List Loc} {ls : Array Slot} (h : fX12_layWorths_0 x1 x2 x3 x4 x5 x6 u = some (r, u')) (hP : va_P D vwCl (VM cy ad st u) H) (hS : va_S (Ax (AM ad) s.heap.size) s.heap H locs) (hl : lv_has ls 8 [(0, .ref (ad 0)), (1, .int x1), (2, .int x2), (3, .int x3), (4, .int x4), (5, .int x5), (6, .int x6)]) : W p l e rmX12_layWorths_0 s m args below meth c H locs 0 0 (MQ below (Qv D (VM cy ad st) (AM ad) s.heap.size r u') args s 0 0 (Ax (AM ad) s.heap.size)) (F0 m 0 ls []) := by
  unfold fX12_layWorths_0 at h
  refine lv_iconst (v := 0) C.1 C.2.1 dX12_layWorths_0 (by decide) ?_
  refine lv_istore (lv' := [(7, .int 0), (0, .ref (ad 0)), (1, .int x1), (2, .int x2), (3, .int x3), (4, .int x4), (5, .int x5), (6, .int x6)]) C.1 C.2.1 dX12_layWorths_1 hl (by decide) rfl (fun ls hl => ?_)
  replace hl := lv_sub (l' := [(0, .ref (ad 0)), (1, .int x1), (2, .int x2), (3, .int x3), (4, .int x4), (5, .int x5), (6, .int x6), (7, .int 0)]) hl [1, 2, 3, 4, 5, 6, 7, 0] rfl
  exact wLX12_layWorths_0_3 C hK hJ  5000 _ _ _ _ _ _ _ _ _ _ _ h hP hS hl
theorem metX12_layWorths_0 (l : Launch) (D : va_G) (cy : Nat → ClassId) (ad st : Nat → Nat) (hJ : JM ad st) (sz : Nat) (x1 : Int32) (x2 : Int32) (x3 : Int32) (x4 : Int32) (x5 : Int32) (x6 : Int32) {u : SX} {r : Int32} {u' : SX} (h : fX12_layWorths_0 x1 x2 x3 x4 x5 x6 u = some (r, u')) : Met l yX12_layWorths wsX12_layWorths rmX12_layWorths_0 (va_Pc [.ref (ad 0), .int x1, .int x2, .int x3, .int x4, .int x5, .int x6] (Px D [(cy 0, .int), (cy 1, .long), (cy 2, .boolean), (cy 3, .byte), (cy 4, .object "HissHorn$Text")] st (VM cy ad st) sz u)) (Qv D (VM cy ad st) (AM ad) sz r u') 0 0 (Ax (AM ad) sz) := by
  refine Met.ofW (cc := cX12_layWorths) (maxL := 8) (ret := none) (by decide) rfl ?_
  intro p e s m args below meth c s₁ B hml hv
  obtain ⟨rfl, hsz, hP, hK⟩ := hv
  subst hsz
  have C : Cx RX12 cX12_layWorths 8 none wsX12_layWorths p s m _ meth c := ⟨B.exec, B.bytes, hml, B.returns, findClass_of_methodNamed B.named, atoms_spec (ws := wsX12_layWorths) B.pre, B.notSynchronized⟩
  have hl := lv_entry ([.ref (ad 0), .int x1, .int x2, .int x3, .int x4, .int x5, .int x6]) (n := 8) (Nat.le_of_ble_eq_true rfl)
  rw [lg_entry_eq]
  exact wX12_layWorths_0 C hK hJ x1 x2 x3 x4 x5 x6 h hP va_S.rf hl
