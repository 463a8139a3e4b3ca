theorem zdX12_isLook_0 : (and (and (and (and (zk cX12_isLook 0 (.iload_n 1) 1) (zk cX12_isLook 1 (.ifCond .lt 15) 3)) (zk cX12_isLook 16 (.iconst 0) 1)) (and (zk cX12_isLook 17 (.ireturn) 1) (zk cX12_isLook 4 (.iload_n 1) 1))) (and (and (and (zk cX12_isLook 5 (.aload_n 0) 1) (zk cX12_isLook 6 (.getfield 401) 3)) (zk cX12_isLook 9 (.if_icmp .ge 7) 3)) (and (zk cX12_isLook 12 (.iconst 1) 1) (zk cX12_isLook 13 (.goto 4) 3)))) = true := by decide +kernel
theorem dX12_isLook_0 : decode cX12_isLook 0 = .ok (.iload_n 1, 1) := zk_of (zk_l (zk_l (zk_l (zk_l zdX12_isLook_0))))
theorem dX12_isLook_1 : decode cX12_isLook 1 = .ok (.ifCond .lt 15, 3) := zk_of (zk_r (zk_l (zk_l (zk_l zdX12_isLook_0))))
theorem dX12_isLook_16 : decode cX12_isLook 16 = .ok (.iconst 0, 1) := zk_of (zk_r (zk_l (zk_l zdX12_isLook_0)))
theorem dX12_isLook_17 : decode cX12_isLook 17 = .ok (.ireturn, 1) := zk_of (zk_l (zk_r (zk_l zdX12_isLook_0)))
theorem dX12_isLook_4 : decode cX12_isLook 4 = .ok (.iload_n 1, 1) := zk_of (zk_r (zk_r (zk_l zdX12_isLook_0)))
theorem dX12_isLook_5 : decode cX12_isLook 5 = .ok (.aload_n 0, 1) := zk_of (zk_l (zk_l (zk_l (zk_r zdX12_isLook_0))))
theorem dX12_isLook_6 : decode cX12_isLook 6 = .ok (.getfield 401, 3) := zk_of (zk_r (zk_l (zk_l (zk_r zdX12_isLook_0))))
theorem dX12_isLook_9 : decode cX12_isLook 9 = .ok (.if_icmp .ge 7, 3) := zk_of (zk_r (zk_l (zk_r zdX12_isLook_0)))
theorem dX12_isLook_12 : decode cX12_isLook 12 = .ok (.iconst 1, 1) := zk_of (zk_l (zk_r (zk_r zdX12_isLook_0)))
theorem dX12_isLook_13 : decode cX12_isLook 13 = .ok (.goto 4, 3) := zk_of (zk_r (zk_r (zk_r zdX12_isLook_0)))
/-- HissHornModel.isLook(I)Z of cell 0 -/
def rmX12_isLook_0 : Room := { frames := 0, cells := 0, slots := 0, locals := 0 }
theorem hX12_isLook_0_X12 : ∀ w ∈ u_ws RX12 TX12 69, w ∈ wsX12_isLook := fun w h => (List.mem_cons_of_mem _ (List.mem_append_right _ h))
theorem mX12_isLook_0_1 : Cond.fieldLink RX12 401 "HissHornModel" "looks" "I" ∈ wsX12_isLook := (List.mem_cons_of_mem _ (List.mem_append_left _ (List.mem_of_getElem? (i := 0) rfl)))
def fX12_isLook_0 (x1 : Int32) (u : SX) : Option (Int32 × SX) := (if x1 < 0 then (gd (isB 0) (some (0, u))) else (if (u.1 21) ≤ x1 then (gd (isB 0) (some (0, u))) else (gd (isB 1) (some (1, u)))))
set_option maxHeartbeats 4000000 in
set_option maxRecDepth 100000 in
theorem wX12_isLook_0 {p : Program} {l : Launch} {e : Env} {s : State} {m : MethodId} {args : Array Value} {below : List Frame} {meth : Method} {c : Code} {D : va_G} {cy : Nat → ClassId} {ad st : Nat → Nat} (C : Cx RX12 cX12_isLook 2 (some .boolean) wsX12_isLook p s m args meth c) (hK : Ky D [(cy 0, .int), (cy 1, .long), (cy 2, .boolean), (cy 3, .byte), (cy 4, .object "HissHorn$Text")] st s) (hJ : JM ad st) (x1 : Int32) {u : SX} {r : Int32} {u' : SX} {H : Heap} {locs : List Loc} {ls : Array Slot} (h : fX12_isLook_0 x1 u = some (r, u')) (hP : va_P D vwCl (VM cy ad st u) H) (hS : va_S (Ax (AM ad) s.heap.size) s.heap H locs) (hl : lv_has ls 2 [(0, .ref (ad 0)), (1, .int x1)]) : W p l e rmX12_isLook_0 s m args below meth c H locs 0 0 (MQ below (Qi D (VM cy ad st) (AM ad) s.heap.size r u') args s 0 0 (Ax (AM ad) s.heap.size)) (F0 m 0 ls []) := by
  unfold fX12_isLook_0 at h
  refine lv_iload_n C.1 C.2.1 dX12_isLook_0 rfl (lv_at hl 1 rfl) ?_
  refine lv_if_lt (tgt := 16) C.1 C.2.1 dX12_isLook_1 (by decide) (fun c1 => ?_) (fun c1 => ?_)
  · rw [if_pos c1] at h
    refine lv_iconst (v := 0) C.1 C.2.1 dX12_isLook_16 (by decide) ?_
    obtain ⟨hg1, h⟩ := gd_some h
    cases h
    exact rt_z hg1 C hP hS dX12_isLook_17
  · rw [if_neg c1] at h
    refine lv_iload_n C.1 C.2.1 dX12_isLook_4 rfl (lv_at hl 1 rfl) ?_
    refine lv_aload_n C.1 C.2.1 dX12_isLook_5 rfl (lv_at hl 0 rfl) ?_
    refine gM_0_looks C hX12_isLook_0_X12 hK hP mX12_isLook_0_1 dX12_isLook_6 ?_
    refine lv_icmp_ge (tgt := 16) C.1 C.2.1 dX12_isLook_9 (by decide) (fun c9 => ?_) (fun c9 => ?_)
    · rw [if_pos c9] at h
      refine lv_iconst (v := 0) C.1 C.2.1 dX12_isLook_16 (by decide) ?_
      obtain ⟨hg2, h⟩ := gd_some h
      cases h
      exact rt_z hg2 C hP hS dX12_isLook_17
    · rw [if_neg c9] at h
      refine lv_iconst (v := 1) C.1 C.2.1 dX12_isLook_12 (by decide) ?_
      refine lv_goto (tgt := 17) C.1 C.2.1 dX12_isLook_13 (by decide) ?_
      obtain ⟨hg3, h⟩ := gd_some h
      cases h
      exact rt_z hg3 C hP hS dX12_isLook_17
theorem metX12_isLook_0 (l : Launch) (D : va_G) (cy : Nat → ClassId) (ad st : Nat → Nat) (hJ : JM ad st) (sz : Nat) (x1 : Int32) {u : SX} {r : Int32} {u' : SX} (h : fX12_isLook_0 x1 u = some (r, u')) : Met l yX12_isLook wsX12_isLook rmX12_isLook_0 (va_Pc [.ref (ad 0), .int x1] (Px D [(cy 0, .int), (cy 1, .long), (cy 2, .boolean), (cy 3, .byte), (cy 4, .object "HissHorn$Text")] st (VM cy ad st) sz u)) (Qi D (VM cy ad st) (AM ad) sz r u') 0 0 (Ax (AM ad) sz) := by
  refine Met.ofW (cc := cX12_isLook) (maxL := 2) (ret := (some .boolean)) (by decide) rfl ?_
  intro p e s m args below meth c s₁ B hml hv
  obtain ⟨rfl, hsz, hP, hK⟩ := hv
  subst hsz
  have C : Cx RX12 cX12_isLook 2 (some .boolean) wsX12_isLook p s m _ meth c := ⟨B.exec, B.bytes, hml, B.returns, findClass_of_methodNamed B.named, atoms_spec (ws := wsX12_isLook) B.pre, B.notSynchronized⟩
  have hl := lv_entry ([.ref (ad 0), .int x1]) (n := 2) (Nat.le_of_ble_eq_true rfl)
  rw [lg_entry_eq]
  exact wX12_isLook_0 C hK hJ x1 h hP va_S.rf hl

theorem zdX12_look__0 : (and (and (and (and (and (zk cX12_look_ 0 (.aload_n 0) 1) (zk cX12_look_ 1 (.iconst 0) 1)) (and (zk cX12_look_ 2 (.putfield 151) 3) (zk cX12_look_ 5 (.aload_n 0) 1))) (and (and (zk cX12_look_ 6 (.getfield 401) 3) (zk cX12_look_ 9 (.bipush 10) 2)) (and (zk cX12_look_ 11 (.if_icmp .eq 30) 3) (zk cX12_look_ 41 (.iconst (-1)) 1)))) (and (and (and (zk cX12_look_ 42 (.ireturn) 1) (zk cX12_look_ 14 (.aload_n 0) 1)) (and (zk cX12_look_ 15 (.iload_n 1) 1) (zk cX12_look_ 16 (.invokevirtual 307) 3))) (and (and (zk cX12_look_ 19 (.ifCond .eq 22) 3) (zk cX12_look_ 22 (.iload_n 2) 1)) (and (zk cX12_look_ 23 (.iload_n 3) 1) (zk cX12_look_ 24 (.invokestatic 289) 3))))) (and (and (and (and (zk cX12_look_ 27 (.ifCond .eq 14) 3) (zk cX12_look_ 30 (.iload 4) 2)) (and (zk cX12_look_ 32 (.iconst 1) 1) (zk cX12_look_ 33 (.bipush 50) 2))) (and (and (zk cX12_look_ 35 (.invokestatic 155) 3) (zk cX12_look_ 38 (.ifCond .ne 5) 3)) (and (zk cX12_look_ 43 (.aload_n 0) 1) (zk cX12_look_ 44 (.getfield 106) 3)))) (and (and (and (zk cX12_look_ 47 (.aload_n 0) 1) (zk cX12_look_ 48 (.getfield 401) 3)) (and (zk cX12_look_ 51 (.iload_n 1) 1) (zk cX12_look_ 52 (.iastore) 1))) (and (and (zk cX12_look_ 53 (.aload_n 0) 1) (zk cX12_look_ 54 (.getfield 109) 3)) (and (zk cX12_look_ 57 (.aload_n 0) 1) (zk cX12_look_ 58 (.getfield 401) 3)))))) = true := by decide +kernel
theorem dX12_look__0 : decode cX12_look_ 0 = .ok (.aload_n 0, 1) := zk_of (zk_l (zk_l (zk_l (zk_l (zk_l zdX12_look__0)))))
theorem dX12_look__1 : decode cX12_look_ 1 = .ok (.iconst 0, 1) := zk_of (zk_r (zk_l (zk_l (zk_l (zk_l zdX12_look__0)))))
theorem dX12_look__2 : decode cX12_look_ 2 = .ok (.putfield 151, 3) := zk_of (zk_l (zk_r (zk_l (zk_l (zk_l zdX12_look__0)))))
theorem dX12_look__5 : decode cX12_look_ 5 = .ok (.aload_n 0, 1) := zk_of (zk_r (zk_r (zk_l (zk_l (zk_l zdX12_look__0)))))
theorem dX12_look__6 : decode cX12_look_ 6 = .ok (.getfield 401, 3) := zk_of (zk_l (zk_l (zk_r (zk_l (zk_l zdX12_look__0)))))
theorem dX12_look__9 : decode cX12_look_ 9 = .ok (.bipush 10, 2) := zk_of (zk_r (zk_l (zk_r (zk_l (zk_l zdX12_look__0)))))
theorem dX12_look__11 : decode cX12_look_ 11 = .ok (.if_icmp .eq 30, 3) := zk_of (zk_l (zk_r (zk_r (zk_l (zk_l zdX12_look__0)))))
theorem dX12_look__41 : decode cX12_look_ 41 = .ok (.iconst (-1), 1) := zk_of (zk_r (zk_r (zk_r (zk_l (zk_l zdX12_look__0)))))
theorem dX12_look__42 : decode cX12_look_ 42 = .ok (.ireturn, 1) := zk_of (zk_l (zk_l (zk_l (zk_r (zk_l zdX12_look__0)))))
theorem dX12_look__14 : decode cX12_look_ 14 = .ok (.aload_n 0, 1) := zk_of (zk_r (zk_l (zk_l (zk_r (zk_l zdX12_look__0)))))
theorem dX12_look__15 : decode cX12_look_ 15 = .ok (.iload_n 1, 1) := zk_of (zk_l (zk_r (zk_l (zk_r (zk_l zdX12_look__0)))))
theorem dX12_look__16 : decode cX12_look_ 16 = .ok (.invokevirtual 307, 3) := zk_of (zk_r (zk_r (zk_l (zk_r (zk_l zdX12_look__0)))))
theorem dX12_look__19 : decode cX12_look_ 19 = .ok (.ifCond .eq 22, 3) := zk_of (zk_l (zk_l (zk_r (zk_r (zk_l zdX12_look__0)))))
theorem dX12_look__22 : decode cX12_look_ 22 = .ok (.iload_n 2, 1) := zk_of (zk_r (zk_l (zk_r (zk_r (zk_l zdX12_look__0)))))
theorem dX12_look__23 : decode cX12_look_ 23 = .ok (.iload_n 3, 1) := zk_of (zk_l (zk_r (zk_r (zk_r (zk_l zdX12_look__0)))))
theorem dX12_look__24 : decode cX12_look_ 24 = .ok (.invokestatic 289, 3) := zk_of (zk_r (zk_r (zk_r (zk_r (zk_l zdX12_look__0)))))
theorem dX12_look__27 : decode cX12_look_ 27 = .ok (.ifCond .eq 14, 3) := zk_of (zk_l (zk_l (zk_l (zk_l (zk_r zdX12_look__0)))))
theorem dX12_look__30 : decode cX12_look_ 30 = .ok (.iload 4, 2) := zk_of (zk_r (zk_l (zk_l (zk_l (zk_r zdX12_look__0)))))
theorem dX12_look__32 : decode cX12_look_ 32 = .ok (.iconst 1, 1) := zk_of (zk_l (zk_r (zk_l (zk_l (zk_r zdX12_look__0)))))
theorem dX12_look__33 : decode cX12_look_ 33 = .ok (.bipush 50, 2) := zk_of (zk_r (zk_r (zk_l (zk_l (zk_r zdX12_look__0)))))
theorem dX12_look__35 : decode cX12_look_ 35 = .ok (.invokestatic 155, 3) := zk_of (zk_l (zk_l (zk_r (zk_l (zk_r zdX12_look__0)))))
theorem dX12_look__38 : decode cX12_look_ 38 = .ok (.ifCond .ne 5, 3) := zk_of (zk_r (zk_l (zk_r (zk_l (zk_r zdX12_look__0)))))
theorem dX12_look__43 : decode cX12_look_ 43 = .ok (.aload_n 0, 1) := zk_of (zk_l (zk_r (zk_r (zk_l (zk_r zdX12_look__0)))))
theorem dX12_look__44 : decode cX12_look_ 44 = .ok (.getfield 106, 3) := zk_of (zk_r (zk_r (zk_r (zk_l (zk_r zdX12_look__0)))))
theorem dX12_look__47 : decode cX12_look_ 47 = .ok (.aload_n 0, 1) := zk_of (zk_l (zk_l (zk_l (zk_r (zk_r zdX12_look__0)))))
theorem dX12_look__48 : decode cX12_look_ 48 = .ok (.getfield 401, 3) := zk_of (zk_r (zk_l (zk_l (zk_r (zk_r zdX12_look__0)))))
theorem dX12_look__51 : decode cX12_look_ 51 = .ok (.iload_n 1, 1) := zk_of (zk_l (zk_r (zk_l (zk_r (zk_r zdX12_look__0)))))
theorem dX12_look__52 : decode cX12_look_ 52 = .ok (.iastore, 1) := zk_of (zk_r (zk_r (zk_l (zk_r (zk_r zdX12_look__0)))))
theorem dX12_look__53 : decode cX12_look_ 53 = .ok (.aload_n 0, 1) := zk_of (zk_l (zk_l (zk_r (zk_r (zk_r zdX12_look__0)))))
theorem dX12_look__54 : decode cX12_look_ 54 = .ok (.getfield 109, 3) := zk_of (zk_r (zk_l (zk_r (zk_r (zk_r zdX12_look__0)))))
theorem dX12_look__57 : decode cX12_look_ 57 = .ok (.aload_n 0, 1) := zk_of (zk_l (zk_r (zk_r (zk_r (zk_r zdX12_look__0)))))
theorem dX12_look__58 : decode cX12_look_ 58 = .ok (.getfield 401, 3) := zk_of (zk_r (zk_r (zk_r (zk_r (zk_r zdX12_look__0)))))
set_option maxRecDepth 20000 in
theorem ggX12_look__X12_isPart : GoodIn wsX12_look_ wsX12_isPart := ggi (fun w h => List.mem_cons_of_mem _ (List.mem_append_left _ (List.mem_append_right _ (List.mem_append_left _ h)))) gs_X12_isPart
set_option maxRecDepth 20000 in
theorem gX12_look__X12_isPart : GoodIn wsX12_look_ (wsV RX12 307 RX12 yX12_isPart wsX12_isPart) := goodIn_app (goodIn_of _ (by decide +kernel)) ggX12_look__X12_isPart
set_option maxRecDepth 20000 in
theorem ggX12_look__X12_isSpan : GoodIn wsX12_look_ wsX12_isSpan := ggi (fun w h => List.mem_cons_of_mem _ (List.mem_append_left _ (List.mem_append_right _ (List.mem_append_right _ (List.mem_append_left _ h))))) gs_X12_isSpan
set_option maxRecDepth 20000 in
theorem gX12_look__X12_isSpan : GoodIn wsX12_look_ (va_wsS RX12 289 yX12_isSpan wsX12_isSpan) := goodIn_app (goodIn_of _ (by decide +kernel)) ggX12_look__X12_isSpan
set_option maxRecDepth 20000 in
theorem ggX12_look__X12_isIn : GoodIn wsX12_look_ wsX12_isIn := ggi (fun w h => List.mem_cons_of_mem _ (List.mem_append_left _ (List.mem_append_right _ (List.mem_append_right _ (List.mem_append_right _ h))))) gs_X12_isIn
set_option maxRecDepth 20000 in
theorem gX12_look__X12_isIn : GoodIn wsX12_look_ (va_wsS RX12 155 yX12_isIn wsX12_isIn) := goodIn_app (goodIn_of _ (by decide +kernel)) ggX12_look__X12_isIn
theorem zdX12_look__61 : (and (and (and (and (and (zk cX12_look_ 61 (.iload_n 2) 1) (zk cX12_look_ 62 (.iastore) 1)) (and (zk cX12_look_ 63 (.aload_n 0) 1) (zk cX12_look_ 64 (.getfield 112) 3))) (and (and (zk cX12_look_ 67 (.aload_n 0) 1) (zk cX12_look_ 68 (.getfield 401) 3)) (and (zk cX12_look_ 71 (.iload_n 3) 1) (zk cX12_look_ 72 (.iastore) 1)))) (and (and (and (zk cX12_look_ 73 (.aload_n 0) 1) (zk cX12_look_ 74 (.getfield 115) 3)) (and (zk cX12_look_ 77 (.aload_n 0) 1) (zk cX12_look_ 78 (.getfield 401) 3))) (and (and (zk cX12_look_ 81 (.iload 4) 2) (zk cX12_look_ 83 (.iastore) 1)) (and (zk cX12_look_ 84 (.aload_n 0) 1) (zk cX12_look_ 85 (.getfield 118) 3))))) (and (and (and (and (zk cX12_look_ 88 (.aload_n 0) 1) (zk cX12_look_ 89 (.getfield 401) 3)) (and (zk cX12_look_ 92 (.iconst (-1)) 1) (zk cX12_look_ 93 (.iastore) 1))) (and (and (zk cX12_look_ 94 (.aload_n 0) 1) (zk cX12_look_ 95 (.dup) 1)) (and (zk cX12_look_ 96 (.getfield 401) 3) (zk cX12_look_ 99 (.iconst 1) 1)))) (and (and (and (zk cX12_look_ 100 (.iadd) 1) (zk cX12_look_ 101 (.putfield 401) 3)) (and (zk cX12_look_ 104 (.aload_n 0) 1) (zk cX12_look_ 105 (.getfield 401) 3))) (and (and (zk cX12_look_ 108 (.iconst 1) 1) (zk cX12_look_ 109 (.isub) 1)) (zk cX12_look_ 110 (.ireturn) 1))))) = true := by decide +kernel
theorem dX12_look__61 : decode cX12_look_ 61 = .ok (.iload_n 2, 1) := zk_of (zk_l (zk_l (zk_l (zk_l (zk_l zdX12_look__61)))))
theorem dX12_look__62 : decode cX12_look_ 62 = .ok (.iastore, 1) := zk_of (zk_r (zk_l (zk_l (zk_l (zk_l zdX12_look__61)))))
theorem dX12_look__63 : decode cX12_look_ 63 = .ok (.aload_n 0, 1) := zk_of (zk_l (zk_r (zk_l (zk_l (zk_l zdX12_look__61)))))
theorem dX12_look__64 : decode cX12_look_ 64 = .ok (.getfield 112, 3) := zk_of (zk_r (zk_r (zk_l (zk_l (zk_l zdX12_look__61)))))
theorem dX12_look__67 : decode cX12_look_ 67 = .ok (.aload_n 0, 1) := zk_of (zk_l (zk_l (zk_r (zk_l (zk_l zdX12_look__61)))))
theorem dX12_look__68 : decode cX12_look_ 68 = .ok (.getfield 401, 3) := zk_of (zk_r (zk_l (zk_r (zk_l (zk_l zdX12_look__61)))))
theorem dX12_look__71 : decode cX12_look_ 71 = .ok (.iload_n 3, 1) := zk_of (zk_l (zk_r (zk_r (zk_l (zk_l zdX12_look__61)))))
theorem dX12_look__72 : decode cX12_look_ 72 = .ok (.iastore, 1) := zk_of (zk_r (zk_r (zk_r (zk_l (zk_l zdX12_look__61)))))
theorem dX12_look__73 : decode cX12_look_ 73 = .ok (.aload_n 0, 1) := zk_of (zk_l (zk_l (zk_l (zk_r (zk_l zdX12_look__61)))))
theorem dX12_look__74 : decode cX12_look_ 74 = .ok (.getfield 115, 3) := zk_of (zk_r (zk_l (zk_l (zk_r (zk_l zdX12_look__61)))))
theorem dX12_look__77 : decode cX12_look_ 77 = .ok (.aload_n 0, 1) := zk_of (zk_l (zk_r (zk_l (zk_r (zk_l zdX12_look__61)))))
theorem dX12_look__78 : decode cX12_look_ 78 = .ok (.getfield 401, 3) := zk_of (zk_r (zk_r (zk_l (zk_r (zk_l zdX12_look__61)))))
theorem dX12_look__81 : decode cX12_look_ 81 = .ok (.iload 4, 2) := zk_of (zk_l (zk_l (zk_r (zk_r (zk_l zdX12_look__61)))))
theorem dX12_look__83 : decode cX12_look_ 83 = .ok (.iastore, 1) := zk_of (zk_r (zk_l (zk_r (zk_r (zk_l zdX12_look__61)))))
theorem dX12_look__84 : decode cX12_look_ 84 = .ok (.aload_n 0, 1) := zk_of (zk_l (zk_r (zk_r (zk_r (zk_l zdX12_look__61)))))
theorem dX12_look__85 : decode cX12_look_ 85 = .ok (.getfield 118, 3) := zk_of (zk_r (zk_r (zk_r (zk_r (zk_l zdX12_look__61)))))
theorem dX12_look__88 : decode cX12_look_ 88 = .ok (.aload_n 0, 1) := zk_of (zk_l (zk_l (zk_l (zk_l (zk_r zdX12_look__61)))))
theorem dX12_look__89 : decode cX12_look_ 89 = .ok (.getfield 401, 3) := zk_of (zk_r (zk_l (zk_l (zk_l (zk_r zdX12_look__61)))))
theorem dX12_look__92 : decode cX12_look_ 92 = .ok (.iconst (-1), 1) := zk_of (zk_l (zk_r (zk_l (zk_l (zk_r zdX12_look__61)))))
theorem dX12_look__93 : decode cX12_look_ 93 = .ok (.iastore, 1) := zk_of (zk_r (zk_r (zk_l (zk_l (zk_r zdX12_look__61)))))
theorem dX12_look__94 : decode cX12_look_ 94 = .ok (.aload_n 0, 1) := zk_of (zk_l (zk_l (zk_r (zk_l (zk_r zdX12_look__61)))))
theorem dX12_look__95 : decode cX12_look_ 95 = .ok (.dup, 1) := zk_of (zk_r (zk_l (zk_r (zk_l (zk_r zdX12_look__61)))))
theorem dX12_look__96 : decode cX12_look_ 96 = .ok (.getfield 401, 3) := zk_of (zk_l (zk_r (zk_r (zk_l (zk_r zdX12_look__61)))))
theorem dX12_look__99 : decode cX12_look_ 99 = .ok (.iconst 1, 1) := zk_of (zk_r (zk_r (zk_r (zk_l (zk_r zdX12_look__61)))))
theorem dX12_look__100 : decode cX12_look_ 100 = .ok (.iadd, 1) := zk_of (zk_l (zk_l (zk_l (zk_r (zk_r zdX12_look__61)))))
theorem dX12_look__101 : decode cX12_look_ 101 = .ok (.putfield 401, 3) := zk_of (zk_r (zk_l (zk_l (zk_r (zk_r zdX12_look__61)))))
theorem dX12_look__104 : decode cX12_look_ 104 = .ok (.aload_n 0, 1) := zk_of (zk_l (zk_r (zk_l (zk_r (zk_r zdX12_look__61)))))
theorem dX12_look__105 : decode cX12_look_ 105 = .ok (.getfield 401, 3) := zk_of (zk_r (zk_r (zk_l (zk_r (zk_r zdX12_look__61)))))
theorem dX12_look__108 : decode cX12_look_ 108 = .ok (.iconst 1, 1) := zk_of (zk_l (zk_l (zk_r (zk_r (zk_r zdX12_look__61)))))
theorem dX12_look__109 : decode cX12_look_ 109 = .ok (.isub, 1) := zk_of (zk_r (zk_l (zk_r (zk_r (zk_r zdX12_look__61)))))
theorem dX12_look__110 : decode cX12_look_ 110 = .ok (.ireturn, 1) := zk_of (zk_r (zk_r (zk_r (zk_r zdX12_look__61))))
/-- HissHornModel.look(IIII)I of cell 0 -/
def rmX12_look__0 : Room := { frames := 2, cells := 0, slots := 0, locals := 43 }
theorem hX12_look__0_X12 : ∀ w ∈ u_ws RX12 TX12 69, w ∈ wsX12_look_ := fun w h => (List.mem_cons_of_mem _ (List.mem_append_right _ h))
theorem mX12_look__0_1 : Cond.fieldLink RX12 151 "HissHornModel" "thrown" "I" ∈ wsX12_look_ := (List.mem_cons_of_mem _ (List.mem_append_left _ (List.mem_append_left _ (List.mem_of_getElem? (i := 8) rfl))))
theorem mX12_look__0_2 : Cond.fieldLink RX12 401 "HissHornModel" "looks" "I" ∈ wsX12_look_ := (List.mem_cons_of_mem _ (List.mem_append_left _ (List.mem_append_left _ (List.mem_of_getElem? (i := 9) rfl))))
theorem mX12_look__0_3 : Cond.fieldLink RX12 106 "HissHornModel" "lookPart" "[I" ∈ wsX12_look_ := (List.mem_cons_of_mem _ (List.mem_append_left _ (List.mem_append_left _ (List.mem_of_getElem? (i := 10) rfl))))
theorem mX12_look__0_4 : Cond.fieldLink RX12 109 "HissHornModel" "lookFrom" "[I" ∈ wsX12_look_ := (List.mem_cons_of_mem _ (List.mem_append_left _ (List.mem_append_left _ (List.mem_of_getElem? (i := 11) rfl))))
theorem mX12_look__0_5 : Cond.fieldLink RX12 112 "HissHornModel" "lookTo" "[I" ∈ wsX12_look_ := (List.mem_cons_of_mem _ (List.mem_append_left _ (List.mem_append_left _ (List.mem_of_getElem? (i := 12) rfl))))
theorem mX12_look__0_6 : Cond.fieldLink RX12 115 "HissHornModel" "lookCost" "[I" ∈ wsX12_look_ := (List.mem_cons_of_mem _ (List.mem_append_left _ (List.mem_append_left _ (List.mem_of_getElem? (i := 13) rfl))))
theorem mX12_look__0_7 : Cond.fieldLink RX12 118 "HissHornModel" "lookEvent" "[I" ∈ wsX12_look_ := (List.mem_cons_of_mem _ (List.mem_append_left _ (List.mem_append_left _ (List.mem_of_getElem? (i := 14) rfl))))
def fX12_look__0 (x1 : Int32) (x2 : Int32) (x3 : Int32) (x4 : Int32) (u : SX) : Option (Int32 × SX) := (lt (sI u 0 0) fun u1 => (if (u1.1 21) = 10 then (some ((-1), u1)) else ((fX12_isPart_0 x1 u1).bind fun q => match q with | (r3, u4) => (if r3 = 0 then (some ((-1), u4)) else ((fX12_isSpan x2 x3).bind fun r6 => (if r6 = 0 then (some ((-1), u4)) else ((fX12_isIn x4 1 50).bind fun r9 => (if r9 = 0 then (some ((-1), u4)) else (gd (inb (u4.1 21) 10) (lt (sA u4 29 (upd (u4.2.1 29) (u4.1 21).toNatClampNeg x1)) fun u13 => (gd (inb (u13.1 21) 10) (lt (sA u13 30 (upd (u13.2.1 30) (u13.1 21).toNatClampNeg x2)) fun u16 => (gd (inb (u16.1 21) 10) (lt (sA u16 31 (upd (u16.2.1 31) (u16.1 21).toNatClampNeg x3)) fun u19 => (gd (inb (u19.1 21) 10) (lt (sA u19 32 (upd (u19.2.1 32) (u19.1 21).toNatClampNeg x4)) fun u22 => (gd (inb (u22.1 21) 10) (lt (sA u22 33 (upd (u22.2.1 33) (u22.1 21).toNatClampNeg (-1))) fun u25 => (lt (sI u25 21 ((u25.1 21) + 1)) fun u27 => (some ((u27.1 21) - 1, u27)))))))))))))))))))))
set_option maxHeartbeats 4000000 in
set_option maxRecDepth 100000 in
theorem wX12_look__0 {p : Program} {l : Launch} {e : Env} {s : State} {m : MethodId} {args : Array Value} {below : List Frame} {meth : Method} {c : Code} {D : va_G} {cy : Nat → ClassId} {ad st : Nat → Nat} (C : Cx RX12 cX12_look_ 5 (some .int) wsX12_look_ p s m args meth c) (hK : Ky D [(cy 0, .int), (cy 1, .long), (cy 2, .boolean), (cy 3, .byte), (cy 4, .object "HissHorn$Text")] st s) (hJ : JM ad st) (x1 : Int32) (x2 : Int32) (x3 : Int32) (x4 : Int32) {u : SX} {r : Int32} {u' : SX} {H : Heap} {locs : List Loc} {ls : Array Slot} (h : fX12_look__0 x1 x2 x3 x4 u = some (r, u')) (hP : va_P D vwCl (VM cy ad st u) H) (hS : va_S (Ax (AM ad) s.heap.size) s.heap H locs) (hl : lv_has ls 5 [(0, .ref (ad 0)), (1, .int x1), (2, .int x2), (3, .int x3), (4, .int x4)]) : W p l e rmX12_look__0 s m args below meth c H locs 0 0 (MQ below (Qi D (VM cy ad st) (AM ad) s.heap.size r u') args s 0 0 (Ax (AM ad) s.heap.size)) (F0 m 0 ls []) := by
  unfold fX12_look__0 at h
  refine lv_aload_n C.1 C.2.1 dX12_look__0 rfl (lv_at hl 0 rfl) ?_
  refine lv_iconst (v := 0) C.1 C.2.1 dX12_look__1 (by decide) ?_
  refine pM_0_thrown C hX12_look__0_X12 hK hP hJ hS mX12_look__0_1 dX12_look__2 (fun H locs hP hS => ?_)
  obtain ⟨u1, hu2, h⟩ := lt_some h
  rw [← hu2] at hP
  refine lv_aload_n C.1 C.2.1 dX12_look__5 rfl (lv_at hl 0 rfl) ?_
  refine gM_0_looks C hX12_look__0_X12 hK hP mX12_look__0_2 dX12_look__6 ?_
  refine lv_bipush (v := 10) C.1 C.2.1 dX12_look__9 (by decide) ?_
  refine lv_icmp_eq (tgt := 41) C.1 C.2.1 dX12_look__11 (by decide) (fun c11 => ?_) (fun c11 => ?_)
  · rw [if_pos c11] at h
    refine lv_iconst (v := (-1)) C.1 C.2.1 dX12_look__41 (by decide) ?_
    cases h
    exact rt_i C hP hS dX12_look__42
  · rw [if_neg c11] at h
    refine lv_aload_n C.1 C.2.1 dX12_look__14 rfl (lv_at hl 0 rfl) ?_
    refine lv_iload_n C.1 C.2.1 dX12_look__15 rfl (lv_at hl 1 rfl) ?_
    obtain ⟨⟨r3, u4⟩, hc5, h⟩ := bd_some h
    try dsimp only at h
    refine cg_i (As := [.int x1]) (rest := []) (AM_ge hJ) C hK hP hS (metX12_isPart_0 l D cy ad st hJ _ x1 hc5) (cwV 1 C.2.2.2.2.2.1 gX12_look__X12_isPart rfl rfl rfl (by decide +kernel) ⟨(Nat.le_of_ble_eq_true rfl), (Nat.le_of_ble_eq_true rfl)⟩) 0 12 rfl rfl rfl hl.1 rfl (Nat.le_of_ble_eq_true rfl) dX12_look__16 ⟨Nat.zero_le _, Nat.zero_le _⟩ (fun H locs hP hS => ?_)
    refine lv_if_eq (tgt := 41) C.1 C.2.1 dX12_look__19 (by decide) (fun c19 => ?_) (fun c19 => ?_)
    · rw [if_pos c19] at h
      refine lv_iconst (v := (-1)) C.1 C.2.1 dX12_look__41 (by decide) ?_
      cases h
      exact rt_i C hP hS dX12_look__42
    · rw [if_neg c19] at h
      refine lv_iload_n C.1 C.2.1 dX12_look__22 rfl (lv_at hl 2 rfl) ?_
      refine lv_iload_n C.1 C.2.1 dX12_look__23 rfl (lv_at hl 3 rfl) ?_
      obtain ⟨r6, hc8, h⟩ := bd_some h
      refine cs_i (As := [.int x2, .int x3]) (rest := []) (AM_ge hJ) C hK hP hS (metX12_isSpan l D cy st _ x2 x3 hc8) (va_cwS 2 C.2.2.2.2.2.1 gX12_look__X12_isSpan rfl rfl rfl (by decide +kernel) ⟨(Nat.le_of_ble_eq_true rfl), (Nat.le_of_ble_eq_true rfl)⟩) rfl hl.1 rfl (Nat.le_of_ble_eq_true rfl) dX12_look__24 ⟨Nat.zero_le _, Nat.zero_le _⟩ (fun H locs hP hS => ?_)
      refine lv_if_eq (tgt := 41) C.1 C.2.1 dX12_look__27 (by decide) (fun c27 => ?_) (fun c27 => ?_)
      · rw [if_pos c27] at h
        refine lv_iconst (v := (-1)) C.1 C.2.1 dX12_look__41 (by decide) ?_
        cases h
        exact rt_i C hP hS dX12_look__42
      · rw [if_neg c27] at h
        refine lv_iload C.1 C.2.1 dX12_look__30 (lv_at hl 4 rfl) ?_
        refine lv_iconst (v := 1) C.1 C.2.1 dX12_look__32 (by decide) ?_
        refine lv_bipush (v := 50) C.1 C.2.1 dX12_look__33 (by decide) ?_
        obtain ⟨r9, hc11, h⟩ := bd_some h
        refine cs_i (As := [.int x4, .int 1, .int 50]) (rest := []) (AM_ge hJ) C hK hP hS (metX12_isIn l D cy st _ x4 1 50 hc11) (va_cwS 3 C.2.2.2.2.2.1 gX12_look__X12_isIn rfl rfl rfl (by decide +kernel) ⟨(Nat.le_of_ble_eq_true rfl), (Nat.le_of_ble_eq_true rfl)⟩) rfl hl.1 rfl (Nat.le_of_ble_eq_true rfl) dX12_look__35 ⟨Nat.zero_le _, Nat.zero_le _⟩ (fun H locs hP hS => ?_)
        refine lv_if_ne (tgt := 43) C.1 C.2.1 dX12_look__38 (by decide) (fun c38 => ?_) (fun c38 => ?_)
        · rw [if_neg c38] at h
          refine lv_aload_n C.1 C.2.1 dX12_look__43 rfl (lv_at hl 0 rfl) ?_
          refine gM_0_lookPart C hX12_look__0_X12 hK hP mX12_look__0_3 dX12_look__44 ?_
          refine lv_aload_n C.1 C.2.1 dX12_look__47 rfl (lv_at hl 0 rfl) ?_
          refine gM_0_looks C hX12_look__0_X12 hK hP mX12_look__0_2 dX12_look__48 ?_
          refine lv_iload_n C.1 C.2.1 dX12_look__51 rfl (lv_at hl 1 rfl) ?_
          obtain ⟨hg12, h⟩ := gd_some h
          refine tM_29 C hK hP hJ hS hg12 dX12_look__52 (fun H locs hP hS => ?_)
          obtain ⟨u13, hu14, h⟩ := lt_some h
          rw [← hu14] at hP
          refine lv_aload_n C.1 C.2.1 dX12_look__53 rfl (lv_at hl 0 rfl) ?_
          refine gM_0_lookFrom C hX12_look__0_X12 hK hP mX12_look__0_4 dX12_look__54 ?_
          refine lv_aload_n C.1 C.2.1 dX12_look__57 rfl (lv_at hl 0 rfl) ?_
          refine gM_0_looks C hX12_look__0_X12 hK hP mX12_look__0_2 dX12_look__58 ?_
          refine lv_iload_n C.1 C.2.1 dX12_look__61 rfl (lv_at hl 2 rfl) ?_
          obtain ⟨hg15, h⟩ := gd_some h
          refine tM_30 C hK hP hJ hS hg15 dX12_look__62 (fun H locs hP hS => ?_)
          obtain ⟨u16, hu17, h⟩ := lt_some h
          rw [← hu17] at hP
          refine lv_aload_n C.1 C.2.1 dX12_look__63 rfl (lv_at hl 0 rfl) ?_
          refine gM_0_lookTo C hX12_look__0_X12 hK hP mX12_look__0_5 dX12_look__64 ?_
          refine lv_aload_n C.1 C.2.1 dX12_look__67 rfl (lv_at hl 0 rfl) ?_
          refine gM_0_looks C hX12_look__0_X12 hK hP mX12_look__0_2 dX12_look__68 ?_
          refine lv_iload_n C.1 C.2.1 dX12_look__71 rfl (lv_at hl 3 rfl) ?_
          obtain ⟨hg18, h⟩ := gd_some h
          refine tM_31 C hK hP hJ hS hg18 dX12_look__72 (fun H locs hP hS => ?_)
          obtain ⟨u19, hu20, h⟩ := lt_some h
          rw [← hu20] at hP
          refine lv_aload_n C.1 C.2.1 dX12_look__73 rfl (lv_at hl 0 rfl) ?_
          refine gM_0_lookCost C hX12_look__0_X12 hK hP mX12_look__0_6 dX12_look__74 ?_
          refine lv_aload_n C.1 C.2.1 dX12_look__77 rfl (lv_at hl 0 rfl) ?_
          refine gM_0_looks C hX12_look__0_X12 hK hP mX12_look__0_2 dX12_look__78 ?_
          refine lv_iload C.1 C.2.1 dX12_look__81 (lv_at hl 4 rfl) ?_
          obtain ⟨hg21, h⟩ := gd_some h
          refine tM_32 C hK hP hJ hS hg21 dX12_look__83 (fun H locs hP hS => ?_)
          obtain ⟨u22, hu23, h⟩ := lt_some h
          rw [← hu23] at hP
          refine lv_aload_n C.1 C.2.1 dX12_look__84 rfl (lv_at hl 0 rfl) ?_
          refine gM_0_lookEvent C hX12_look__0_X12 hK hP mX12_look__0_7 dX12_look__85 ?_
          refine lv_aload_n C.1 C.2.1 dX12_look__88 rfl (lv_at hl 0 rfl) ?_
          refine gM_0_looks C hX12_look__0_X12 hK hP mX12_look__0_2 dX12_look__89 ?_
          refine lv_iconst (v := (-1)) C.1 C.2.1 dX12_look__92 (by decide) ?_
          obtain ⟨hg24, h⟩ := gd_some h
          refine tM_33 C hK hP hJ hS hg24 dX12_look__93 (fun H locs hP hS => ?_)
          obtain ⟨u25, hu26, h⟩ := lt_some h
          rw [← hu26] at hP
          refine lv_aload_n C.1 C.2.1 dX12_look__94 rfl (lv_at hl 0 rfl) ?_
          refine lv_dup C.1 C.2.1 dX12_look__95 rfl ?_
          refine gM_0_looks C hX12_look__0_X12 hK hP mX12_look__0_2 dX12_look__96 ?_
          refine lv_iconst (v := 1) C.1 C.2.1 dX12_look__99 (by decide) ?_
          refine lv_iadd C.1 C.2.1 dX12_look__100 ?_
          refine pM_0_looks C hX12_look__0_X12 hK hP hJ hS mX12_look__0_2 dX12_look__101 (fun H locs hP hS => ?_)
          obtain ⟨u27, hu28, h⟩ := lt_some h
          rw [← hu28] at hP
          refine lv_aload_n C.1 C.2.1 dX12_look__104 rfl (lv_at hl 0 rfl) ?_
          refine gM_0_looks C hX12_look__0_X12 hK hP mX12_look__0_2 dX12_look__105 ?_
          refine lv_iconst (v := 1) C.1 C.2.1 dX12_look__108 (by decide) ?_
          refine lv_isub C.1 C.2.1 dX12_look__109 ?_
          cases h
          exact rt_i C hP hS dX12_look__110
        · rw [if_pos c38] at h
          refine lv_iconst (v := (-1)) C.1 C.2.1 dX12_look__41 (by decide) ?_
          cases h
          exact rt_i C hP hS dX12_look__42
theorem metX12_look__0 (l : Launch) (D : va_G) (cy : Nat → ClassId) (ad st : Nat → Nat) (hJ : JM ad st) (sz : Nat) (x1 : Int32) (x2 : Int32) (x3 : Int32) (x4 : Int32) {u : SX} {r : Int32} {u' : SX} (h : fX12_look__0 x1 x2 x3 x4 u = some (r, u')) : Met l yX12_look_ wsX12_look_ rmX12_look__0 (va_Pc [.ref (ad 0), .int x1, .int x2, .int x3, .int x4] (Px D [(cy 0, .int), (cy 1, .long), (cy 2, .boolean), (cy 3, .byte), (cy 4, .object "HissHorn$Text")] st (VM cy ad st) sz u)) (Qi D (VM cy ad st) (AM ad) sz r u') 0 0 (Ax (AM ad) sz) := by
  refine Met.ofW (cc := cX12_look_) (maxL := 5) (ret := (some .int)) (by decide) rfl ?_
  intro p e s m args below meth c s₁ B hml hv
  obtain ⟨rfl, hsz, hP, hK⟩ := hv
  subst hsz
  have C : Cx RX12 cX12_look_ 5 (some .int) wsX12_look_ p s m _ meth c := ⟨B.exec, B.bytes, hml, B.returns, findClass_of_methodNamed B.named, atoms_spec (ws := wsX12_look_) B.pre, B.notSynchronized⟩
  have hl := lv_entry ([.ref (ad 0), .int x1, .int x2, .int x3, .int x4]) (n := 5) (Nat.le_of_ble_eq_true rfl)
  rw [lg_entry_eq]
  exact wX12_look__0 C hK hJ x1 x2 x3 x4 h hP va_S.rf hl

theorem zdX12_happens_0 : (and (and (and (and (and (zk cX12_happens 0 (.aload_n 0) 1) (zk cX12_happens 1 (.getfield 50) 3)) (and (zk cX12_happens 4 (.aload_n 0) 1) (zk cX12_happens 5 (.getfield 301) 3))) (and (and (zk cX12_happens 8 (.iload_n 1) 1) (zk cX12_happens 9 (.iastore) 1)) (and (zk cX12_happens 10 (.aload_n 0) 1) (zk cX12_happens 11 (.getfield 53) 3)))) (and (and (and (zk cX12_happens 14 (.aload_n 0) 1) (zk cX12_happens 15 (.getfield 301) 3)) (and (zk cX12_happens 18 (.iload_n 2) 1) (zk cX12_happens 19 (.iastore) 1))) (and (and (zk cX12_happens 20 (.aload_n 0) 1) (zk cX12_happens 21 (.getfield 56) 3)) (and (zk cX12_happens 24 (.aload_n 0) 1) (zk cX12_happens 25 (.getfield 301) 3))))) (and (and (and (and (zk cX12_happens 28 (.iload_n 3) 1) (zk cX12_happens 29 (.iastore) 1)) (and (zk cX12_happens 30 (.aload_n 0) 1) (zk cX12_happens 31 (.getfield 59) 3))) (and (and (zk cX12_happens 34 (.aload_n 0) 1) (zk cX12_happens 35 (.getfield 301) 3)) (and (zk cX12_happens 38 (.iload 4) 2) (zk cX12_happens 40 (.iastore) 1)))) (and (and (and (zk cX12_happens 41 (.aload_n 0) 1) (zk cX12_happens 42 (.getfield 62) 3)) (and (zk cX12_happens 45 (.aload_n 0) 1) (zk cX12_happens 46 (.getfield 301) 3))) (and (and (zk cX12_happens 49 (.aload_n 0) 1) (zk cX12_happens 50 (.getfield 159) 3)) (and (zk cX12_happens 53 (.iastore) 1) (zk cX12_happens 54 (.aload_n 0) 1)))))) = true := by decide +kernel
theorem dX12_happens_0 : decode cX12_happens 0 = .ok (.aload_n 0, 1) := zk_of (zk_l (zk_l (zk_l (zk_l (zk_l zdX12_happens_0)))))
theorem dX12_happens_1 : decode cX12_happens 1 = .ok (.getfield 50, 3) := zk_of (zk_r (zk_l (zk_l (zk_l (zk_l zdX12_happens_0)))))
theorem dX12_happens_4 : decode cX12_happens 4 = .ok (.aload_n 0, 1) := zk_of (zk_l (zk_r (zk_l (zk_l (zk_l zdX12_happens_0)))))
theorem dX12_happens_5 : decode cX12_happens 5 = .ok (.getfield 301, 3) := zk_of (zk_r (zk_r (zk_l (zk_l (zk_l zdX12_happens_0)))))
theorem dX12_happens_8 : decode cX12_happens 8 = .ok (.iload_n 1, 1) := zk_of (zk_l (zk_l (zk_r (zk_l (zk_l zdX12_happens_0)))))
theorem dX12_happens_9 : decode cX12_happens 9 = .ok (.iastore, 1) := zk_of (zk_r (zk_l (zk_r (zk_l (zk_l zdX12_happens_0)))))
theorem dX12_happens_10 : decode cX12_happens 10 = .ok (.aload_n 0, 1) := zk_of (zk_l (zk_r (zk_r (zk_l (zk_l zdX12_happens_0)))))
theorem dX12_happens_11 : decode cX12_happens 11 = .ok (.getfield 53, 3) := zk_of (zk_r (zk_r (zk_r (zk_l (zk_l zdX12_happens_0)))))
theorem dX12_happens_14 : decode cX12_happens 14 = .ok (.aload_n 0, 1) := zk_of (zk_l (zk_l (zk_l (zk_r (zk_l zdX12_happens_0)))))
theorem dX12_happens_15 : decode cX12_happens 15 = .ok (.getfield 301, 3) := zk_of (zk_r (zk_l (zk_l (zk_r (zk_l zdX12_happens_0)))))
theorem dX12_happens_18 : decode cX12_happens 18 = .ok (.iload_n 2, 1) := zk_of (zk_l (zk_r (zk_l (zk_r (zk_l zdX12_happens_0)))))
theorem dX12_happens_19 : decode cX12_happens 19 = .ok (.iastore, 1) := zk_of (zk_r (zk_r (zk_l (zk_r (zk_l zdX12_happens_0)))))
theorem dX12_happens_20 : decode cX12_happens 20 = .ok (.aload_n 0, 1) := zk_of (zk_l (zk_l (zk_r (zk_r (zk_l zdX12_happens_0)))))
theorem dX12_happens_21 : decode cX12_happens 21 = .ok (.getfield 56, 3) := zk_of (zk_r (zk_l (zk_r (zk_r (zk_l zdX12_happens_0)))))
theorem dX12_happens_24 : decode cX12_happens 24 = .ok (.aload_n 0, 1) := zk_of (zk_l (zk_r (zk_r (zk_r (zk_l zdX12_happens_0)))))
theorem dX12_happens_25 : decode cX12_happens 25 = .ok (.getfield 301, 3) := zk_of (zk_r (zk_r (zk_r (zk_r (zk_l zdX12_happens_0)))))
theorem dX12_happens_28 : decode cX12_happens 28 = .ok (.iload_n 3, 1) := zk_of (zk_l (zk_l (zk_l (zk_l (zk_r zdX12_happens_0)))))
theorem dX12_happens_29 : decode cX12_happens 29 = .ok (.iastore, 1) := zk_of (zk_r (zk_l (zk_l (zk_l (zk_r zdX12_happens_0)))))
theorem dX12_happens_30 : decode cX12_happens 30 = .ok (.aload_n 0, 1) := zk_of (zk_l (zk_r (zk_l (zk_l (zk_r zdX12_happens_0)))))
theorem dX12_happens_31 : decode cX12_happens 31 = .ok (.getfield 59, 3) := zk_of (zk_r (zk_r (zk_l (zk_l (zk_r zdX12_happens_0)))))
theorem dX12_happens_34 : decode cX12_happens 34 = .ok (.aload_n 0, 1) := zk_of (zk_l (zk_l (zk_r (zk_l (zk_r zdX12_happens_0)))))
theorem dX12_happens_35 : decode cX12_happens 35 = .ok (.getfield 301, 3) := zk_of (zk_r (zk_l (zk_r (zk_l (zk_r zdX12_happens_0)))))
theorem dX12_happens_38 : decode cX12_happens 38 = .ok (.iload 4, 2) := zk_of (zk_l (zk_r (zk_r (zk_l (zk_r zdX12_happens_0)))))
theorem dX12_happens_40 : decode cX12_happens 40 = .ok (.iastore, 1) := zk_of (zk_r (zk_r (zk_r (zk_l (zk_r zdX12_happens_0)))))
theorem dX12_happens_41 : decode cX12_happens 41 = .ok (.aload_n 0, 1) := zk_of (zk_l (zk_l (zk_l (zk_r (zk_r zdX12_happens_0)))))
theorem dX12_happens_42 : decode cX12_happens 42 = .ok (.getfield 62, 3) := zk_of (zk_r (zk_l (zk_l (zk_r (zk_r zdX12_happens_0)))))
theorem dX12_happens_45 : decode cX12_happens 45 = .ok (.aload_n 0, 1) := zk_of (zk_l (zk_r (zk_l (zk_r (zk_r zdX12_happens_0)))))
theorem dX12_happens_46 : decode cX12_happens 46 = .ok (.getfield 301, 3) := zk_of (zk_r (zk_r (zk_l (zk_r (zk_r zdX12_happens_0)))))
theorem dX12_happens_49 : decode cX12_happens 49 = .ok (.aload_n 0, 1) := zk_of (zk_l (zk_l (zk_r (zk_r (zk_r zdX12_happens_0)))))
theorem dX12_happens_50 : decode cX12_happens 50 = .ok (.getfield 159, 3) := zk_of (zk_r (zk_l (zk_r (zk_r (zk_r zdX12_happens_0)))))
theorem dX12_happens_53 : decode cX12_happens 53 = .ok (.iastore, 1) := zk_of (zk_l (zk_r (zk_r (zk_r (zk_r zdX12_happens_0)))))
theorem dX12_happens_54 : decode cX12_happens 54 = .ok (.aload_n 0, 1) := zk_of (zk_r (zk_r (zk_r (zk_r (zk_r zdX12_happens_0)))))
theorem zdX12_happens_55 : (and (and (and (zk cX12_happens 55 (.dup) 1) (zk cX12_happens 56 (.getfield 301) 3)) (zk cX12_happens 59 (.iconst 1) 1)) (and (and (zk cX12_happens 60 (.iadd) 1) (zk cX12_happens 61 (.putfield 301) 3)) (zk cX12_happens 64 (.return_) 1))) = true := by decide +kernel
theorem dX12_happens_55 : decode cX12_happens 55 = .ok (.dup, 1) := zk_of (zk_l (zk_l (zk_l zdX12_happens_55)))
theorem dX12_happens_56 : decode cX12_happens 56 = .ok (.getfield 301, 3) := zk_of (zk_r (zk_l (zk_l zdX12_happens_55)))
theorem dX12_happens_59 : decode cX12_happens 59 = .ok (.iconst 1, 1) := zk_of (zk_r (zk_l zdX12_happens_55))
theorem dX12_happens_60 : decode cX12_happens 60 = .ok (.iadd, 1) := zk_of (zk_l (zk_l (zk_r zdX12_happens_55)))
theorem dX12_happens_61 : decode cX12_happens 61 = .ok (.putfield 301, 3) := zk_of (zk_r (zk_l (zk_r zdX12_happens_55)))
theorem dX12_happens_64 : decode cX12_happens 64 = .ok (.return_, 1) := zk_of (zk_r (zk_r zdX12_happens_55))
/-- HissHornModel.happens(IIII)V of cell 0 -/
def rmX12_happens_0 : Room := { frames := 0, cells := 0, slots := 0, locals := 0 }
theorem hX12_happens_0_X12 : ∀ w ∈ u_ws RX12 TX12 69, w ∈ wsX12_happens := fun w h => (List.mem_cons_of_mem _ (List.mem_append_right _ h))
theorem mX12_happens_0_1 : Cond.fieldLink RX12 50 "HissHornModel" "eventLook" "[I" ∈ wsX12_happens := (List.mem_cons_of_mem _ (List.mem_append_left _ (List.mem_of_getElem? (i := 0) rfl)))
theorem mX12_happens_0_2 : Cond.fieldLink RX12 301 "HissHornModel" "events" "I" ∈ wsX12_happens := (List.mem_cons_of_mem _ (List.mem_append_left _ (List.mem_of_getElem? (i := 1) rfl)))
theorem mX12_happens_0_3 : Cond.fieldLink RX12 53 "HissHornModel" "eventPart" "[I" ∈ wsX12_happens := (List.mem_cons_of_mem _ (List.mem_append_left _ (List.mem_of_getElem? (i := 2) rfl)))
theorem mX12_happens_0_4 : Cond.fieldLink RX12 56 "HissHornModel" "eventFrom" "[I" ∈ wsX12_happens := (List.mem_cons_of_mem _ (List.mem_append_left _ (List.mem_of_getElem? (i := 3) rfl)))
theorem mX12_happens_0_5 : Cond.fieldLink RX12 59 "HissHornModel" "eventTo" "[I" ∈ wsX12_happens := (List.mem_cons_of_mem _ (List.mem_append_left _ (List.mem_of_getElem? (i := 4) rfl)))
theorem mX12_happens_0_6 : Cond.fieldLink RX12 62 "HissHornModel" "eventDay" "[I" ∈ wsX12_happens := (List.mem_cons_of_mem _ (List.mem_append_left _ (List.mem_of_getElem? (i := 5) rfl)))
theorem mX12_happens_0_7 : Cond.fieldLink RX12 159 "HissHornModel" "now" "I" ∈ wsX12_happens := (List.mem_cons_of_mem _ (List.mem_append_left _ (List.mem_of_getElem? (i := 6) rfl)))
def fX12_happens_0 (x1 : Int32) (x2 : Int32) (x3 : Int32) (x4 : Int32) (u : SX) : Option (Int32 × SX) := (gd (inb (u.1 13) 30) (lt (sA u 11 (upd (u.2.1 11) (u.1 13).toNatClampNeg x1)) fun u2 => (gd (inb (u2.1 13) 30) (lt (sA u2 12 (upd (u2.2.1 12) (u2.1 13).toNatClampNeg x2)) fun u5 => (gd (inb (u5.1 13) 30) (lt (sA u5 13 (upd (u5.2.1 13) (u5.1 13).toNatClampNeg x3)) fun u8 => (gd (inb (u8.1 13) 30) (lt (sA u8 14 (upd (u8.2.1 14) (u8.1 13).toNatClampNeg x4)) fun u11 => (gd (inb (u11.1 13) 30) (lt (sA u11 15 (upd (u11.2.1 15) (u11.1 13).toNatClampNeg (u11.1 1))) fun u14 => (lt (sI u14 13 ((u14.1 13) + 1)) fun u16 => (some (0, u16)))))))))))))
set_option maxHeartbeats 4000000 in
set_option maxRecDepth 100000 in
theorem wX12_happens_0 {p : Program} {l : Launch} {e : Env} {s : State} {m : MethodId} {args : Array Value} {below : List Frame} {meth : Method} {c : Code} {D : va_G} {cy : Nat → ClassId} {ad st : Nat → Nat} (C : Cx RX12 cX12_happens 5 none wsX12_happens p s m args meth c) (hK : Ky D [(cy 0, .int), (cy 1, .long), (cy 2, .boolean), (cy 3, .byte), (cy 4, .object "HissHorn$Text")] st s) (hJ : JM ad st) (x1 : Int32) (x2 : Int32) (x3 : Int32) (x4 : Int32) {u : SX} {r : Int32} {u' : SX} {H : Heap} {locs : List Loc} {ls : Array Slot} (h : fX12_happens_0 x1 x2 x3 x4 u = some (r, u')) (hP : va_P D vwCl (VM cy ad st u) H) (hS : va_S (Ax (AM ad) s.heap.size) s.heap H locs) (hl : lv_has ls 5 [(0, .ref (ad 0)), (1, .int x1), (2, .int x2), (3, .int x3), (4, .int x4)]) : W p l e rmX12_happens_0 s m args below meth c H locs 0 0 (MQ below (Qv D (VM cy ad st) (AM ad) s.heap.size r u') args s 0 0 (Ax (AM ad) s.heap.size)) (F0 m 0 ls []) := by
  unfold fX12_happens_0 at h
  refine lv_aload_n C.1 C.2.1 dX12_happens_0 rfl (lv_at hl 0 rfl) ?_
  refine gM_0_eventLook C hX12_happens_0_X12 hK hP mX12_happens_0_1 dX12_happens_1 ?_
  refine lv_aload_n C.1 C.2.1 dX12_happens_4 rfl (lv_at hl 0 rfl) ?_
  refine gM_0_events C hX12_happens_0_X12 hK hP mX12_happens_0_2 dX12_happens_5 ?_
  refine lv_iload_n C.1 C.2.1 dX12_happens_8 rfl (lv_at hl 1 rfl) ?_
  obtain ⟨hg1, h⟩ := gd_some h
  refine tM_11 C hK hP hJ hS hg1 dX12_happens_9 (fun H locs hP hS => ?_)
  obtain ⟨u2, hu3, h⟩ := lt_some h
  rw [← hu3] at hP
  refine lv_aload_n C.1 C.2.1 dX12_happens_10 rfl (lv_at hl 0 rfl) ?_
  refine gM_0_eventPart C hX12_happens_0_X12 hK hP mX12_happens_0_3 dX12_happens_11 ?_
  refine lv_aload_n C.1 C.2.1 dX12_happens_14 rfl (lv_at hl 0 rfl) ?_
  refine gM_0_events C hX12_happens_0_X12 hK hP mX12_happens_0_2 dX12_happens_15 ?_
  refine lv_iload_n C.1 C.2.1 dX12_happens_18 rfl (lv_at hl 2 rfl) ?_
  obtain ⟨hg4, h⟩ := gd_some h
  refine tM_12 C hK hP hJ hS hg4 dX12_happens_19 (fun H locs hP hS => ?_)
  obtain ⟨u5, hu6, h⟩ := lt_some h
  rw [← hu6] at hP
  refine lv_aload_n C.1 C.2.1 dX12_happens_20 rfl (lv_at hl 0 rfl) ?_
  refine gM_0_eventFrom C hX12_happens_0_X12 hK hP mX12_happens_0_4 dX12_happens_21 ?_
  refine lv_aload_n C.1 C.2.1 dX12_happens_24 rfl (lv_at hl 0 rfl) ?_
  refine gM_0_events C hX12_happens_0_X12 hK hP mX12_happens_0_2 dX12_happens_25 ?_
  refine lv_iload_n C.1 C.2.1 dX12_happens_28 rfl (lv_at hl 3 rfl) ?_
  obtain ⟨hg7, h⟩ := gd_some h
  refine tM_13 C hK hP hJ hS hg7 dX12_happens_29 (fun H locs hP hS => ?_)
  obtain ⟨u8, hu9, h⟩ := lt_some h
  rw [← hu9] at hP
  refine lv_aload_n C.1 C.2.1 dX12_happens_30 rfl (lv_at hl 0 rfl) ?_
  refine gM_0_eventTo C hX12_happens_0_X12 hK hP mX12_happens_0_5 dX12_happens_31 ?_
  refine lv_aload_n C.1 C.2.1 dX12_happens_34 rfl (lv_at hl 0 rfl) ?_
  refine gM_0_events C hX12_happens_0_X12 hK hP mX12_happens_0_2 dX12_happens_35 ?_
  refine lv_iload C.1 C.2.1 dX12_happens_38 (lv_at hl 4 rfl) ?_
  obtain ⟨hg10, h⟩ := gd_some h
  refine tM_14 C hK hP hJ hS hg10 dX12_happens_40 (fun H locs hP hS => ?_)
  obtain ⟨u11, hu12, h⟩ := lt_some h
  rw [← hu12] at hP
  refine lv_aload_n C.1 C.2.1 dX12_happens_41 rfl (lv_at hl 0 rfl) ?_
  refine gM_0_eventDay C hX12_happens_0_X12 hK hP mX12_happens_0_6 dX12_happens_42 ?_
  refine lv_aload_n C.1 C.2.1 dX12_happens_45 rfl (lv_at hl 0 rfl) ?_
  refine gM_0_events C hX12_happens_0_X12 hK hP mX12_happens_0_2 dX12_happens_46 ?_
  refine lv_aload_n C.1 C.2.1 dX12_happens_49 rfl (lv_at hl 0 rfl) ?_
  refine gM_0_now C hX12_happens_0_X12 hK hP mX12_happens_0_7 dX12_happens_50 ?_
  obtain ⟨hg13, h⟩ := gd_some h
  refine tM_15 C hK hP hJ hS hg13 dX12_happens_53 (fun H locs hP hS => ?_)
  obtain ⟨u14, hu15, h⟩ := lt_some h
  rw [← hu15] at hP
  refine lv_aload_n C.1 C.2.1 dX12_happens_54 rfl (lv_at hl 0 rfl) ?_
  refine lv_dup C.1 C.2.1 dX12_happens_55 rfl ?_
  refine gM_0_events C hX12_happens_0_X12 hK hP mX12_happens_0_2 dX12_happens_56 ?_
  refine lv_iconst (v := 1) C.1 C.2.1 dX12_happens_59 (by decide) ?_
  refine lv_iadd C.1 C.2.1 dX12_happens_60 ?_
  refine pM_0_events C hX12_happens_0_X12 hK hP hJ hS mX12_happens_0_2 dX12_happens_61 (fun H locs hP hS => ?_)
  obtain ⟨u16, hu17, h⟩ := lt_some h
  rw [← hu17] at hP
  cases h
  exact rt_v C hP hS dX12_happens_64
theorem metX12_happens_0 (l : Launch) (D : va_G) (cy : Nat → ClassId) (ad st : Nat → Nat) (hJ : JM ad st) (sz : Nat) (x1 : Int32) (x2 : Int32) (x3 : Int32) (x4 : Int32) {u : SX} {r : Int32} {u' : SX} (h : fX12_happens_0 x1 x2 x3 x4 u = some (r, u')) : Met l yX12_happens wsX12_happens rmX12_happens_0 (va_Pc [.ref (ad 0), .int x1, .int x2, .int x3, .int x4] (Px D [(cy 0, .int), (cy 1, .long), (cy 2, .boolean), (cy 3, .byte), (cy 4, .object "HissHorn$Text")] st (VM cy ad st) sz u)) (Qv D (VM cy ad st) (AM ad) sz r u') 0 0 (Ax (AM ad) sz) := by
  refine Met.ofW (cc := cX12_happens) (maxL := 5) (ret := none) (by decide) rfl ?_
  intro p e s m args below meth c s₁ B hml hv
  obtain ⟨rfl, hsz, hP, hK⟩ := hv
  subst hsz
  have C : Cx RX12 cX12_happens 5 none wsX12_happens p s m _ meth c := ⟨B.exec, B.bytes, hml, B.returns, findClass_of_methodNamed B.named, atoms_spec (ws := wsX12_happens) B.pre, B.notSynchronized⟩
  have hl := lv_entry ([.ref (ad 0), .int x1, .int x2, .int x3, .int x4]) (n := 5) (Nat.le_of_ble_eq_true rfl)
  rw [lg_entry_eq]
  exact wX12_happens_0 C hK hJ x1 x2 x3 x4 h hP va_S.rf hl

theorem zdX12_done_0 : (and (and (and (and (and (zk cX12_done 0 (.aload_n 0) 1) (zk cX12_done 1 (.iconst 0) 1)) (and (zk cX12_done 2 (.putfield 151) 3) (zk cX12_done 5 (.aload_n 0) 1))) (and (and (zk cX12_done 6 (.iload_n 1) 1) (zk cX12_done 7 (.invokevirtual 404) 3)) (and (zk cX12_done 10 (.ifCond .eq 13) 3) (zk cX12_done 23 (.iconst 0) 1)))) (and (and (and (zk cX12_done 24 (.ireturn) 1) (zk cX12_done 13 (.aload_n 0) 1)) (and (zk cX12_done 14 (.getfield 118) 3) (zk cX12_done 17 (.iload_n 1) 1))) (and (and (zk cX12_done 18 (.iaload) 1) (zk cX12_done 19 (.iconst (-1)) 1)) (and (zk cX12_done 20 (.if_icmp .eq 5) 3) (zk cX12_done 25 (.aload_n 0) 1))))) (and (and (and (and (zk cX12_done 26 (.getfield 118) 3) (zk cX12_done 29 (.iload_n 1) 1)) (and (zk cX12_done 30 (.aload_n 0) 1) (zk cX12_done 31 (.getfield 301) 3))) (and (and (zk cX12_done 34 (.iastore) 1) (zk cX12_done 35 (.aload_n 0) 1)) (and (zk cX12_done 36 (.iload_n 1) 1) (zk cX12_done 37 (.aload_n 0) 1)))) (and (and (and (zk cX12_done 38 (.getfield 106) 3) (zk cX12_done 41 (.iload_n 1) 1)) (and (zk cX12_done 42 (.iaload) 1) (zk cX12_done 43 (.aload_n 0) 1))) (and (and (zk cX12_done 44 (.getfield 109) 3) (zk cX12_done 47 (.iload_n 1) 1)) (and (zk cX12_done 48 (.iaload) 1) (zk cX12_done 49 (.aload_n 0) 1)))))) = true := by decide +kernel
theorem dX12_done_0 : decode cX12_done 0 = .ok (.aload_n 0, 1) := zk_of (zk_l (zk_l (zk_l (zk_l (zk_l zdX12_done_0)))))
theorem dX12_done_1 : decode cX12_done 1 = .ok (.iconst 0, 1) := zk_of (zk_r (zk_l (zk_l (zk_l (zk_l zdX12_done_0)))))
theorem dX12_done_2 : decode cX12_done 2 = .ok (.putfield 151, 3) := zk_of (zk_l (zk_r (zk_l (zk_l (zk_l zdX12_done_0)))))
theorem dX12_done_5 : decode cX12_done 5 = .ok (.aload_n 0, 1) := zk_of (zk_r (zk_r (zk_l (zk_l (zk_l zdX12_done_0)))))
theorem dX12_done_6 : decode cX12_done 6 = .ok (.iload_n 1, 1) := zk_of (zk_l (zk_l (zk_r (zk_l (zk_l zdX12_done_0)))))
theorem dX12_done_7 : decode cX12_done 7 = .ok (.invokevirtual 404, 3) := zk_of (zk_r (zk_l (zk_r (zk_l (zk_l zdX12_done_0)))))
theorem dX12_done_10 : decode cX12_done 10 = .ok (.ifCond .eq 13, 3) := zk_of (zk_l (zk_r (zk_r (zk_l (zk_l zdX12_done_0)))))
theorem dX12_done_23 : decode cX12_done 23 = .ok (.iconst 0, 1) := zk_of (zk_r (zk_r (zk_r (zk_l (zk_l zdX12_done_0)))))
theorem dX12_done_24 : decode cX12_done 24 = .ok (.ireturn, 1) := zk_of (zk_l (zk_l (zk_l (zk_r (zk_l zdX12_done_0)))))
theorem dX12_done_13 : decode cX12_done 13 = .ok (.aload_n 0, 1) := zk_of (zk_r (zk_l (zk_l (zk_r (zk_l zdX12_done_0)))))
theorem dX12_done_14 : decode cX12_done 14 = .ok (.getfield 118, 3) := zk_of (zk_l (zk_r (zk_l (zk_r (zk_l zdX12_done_0)))))
theorem dX12_done_17 : decode cX12_done 17 = .ok (.iload_n 1, 1) := zk_of (zk_r (zk_r (zk_l (zk_r (zk_l zdX12_done_0)))))
theorem dX12_done_18 : decode cX12_done 18 = .ok (.iaload, 1) := zk_of (zk_l (zk_l (zk_r (zk_r (zk_l zdX12_done_0)))))
theorem dX12_done_19 : decode cX12_done 19 = .ok (.iconst (-1), 1) := zk_of (zk_r (zk_l (zk_r (zk_r (zk_l zdX12_done_0)))))
theorem dX12_done_20 : decode cX12_done 20 = .ok (.if_icmp .eq 5, 3) := zk_of (zk_l (zk_r (zk_r (zk_r (zk_l zdX12_done_0)))))
theorem dX12_done_25 : decode cX12_done 25 = .ok (.aload_n 0, 1) := zk_of (zk_r (zk_r (zk_r (zk_r (zk_l zdX12_done_0)))))
theorem dX12_done_26 : decode cX12_done 26 = .ok (.getfield 118, 3) := zk_of (zk_l (zk_l (zk_l (zk_l (zk_r zdX12_done_0)))))
theorem dX12_done_29 : decode cX12_done 29 = .ok (.iload_n 1, 1) := zk_of (zk_r (zk_l (zk_l (zk_l (zk_r zdX12_done_0)))))
theorem dX12_done_30 : decode cX12_done 30 = .ok (.aload_n 0, 1) := zk_of (zk_l (zk_r (zk_l (zk_l (zk_r zdX12_done_0)))))
theorem dX12_done_31 : decode cX12_done 31 = .ok (.getfield 301, 3) := zk_of (zk_r (zk_r (zk_l (zk_l (zk_r zdX12_done_0)))))
theorem dX12_done_34 : decode cX12_done 34 = .ok (.iastore, 1) := zk_of (zk_l (zk_l (zk_r (zk_l (zk_r zdX12_done_0)))))
theorem dX12_done_35 : decode cX12_done 35 = .ok (.aload_n 0, 1) := zk_of (zk_r (zk_l (zk_r (zk_l (zk_r zdX12_done_0)))))
theorem dX12_done_36 : decode cX12_done 36 = .ok (.iload_n 1, 1) := zk_of (zk_l (zk_r (zk_r (zk_l (zk_r zdX12_done_0)))))
theorem dX12_done_37 : decode cX12_done 37 = .ok (.aload_n 0, 1) := zk_of (zk_r (zk_r (zk_r (zk_l (zk_r zdX12_done_0)))))
theorem dX12_done_38 : decode cX12_done 38 = .ok (.getfield 106, 3) := zk_of (zk_l (zk_l (zk_l (zk_r (zk_r zdX12_done_0)))))
theorem dX12_done_41 : decode cX12_done 41 = .ok (.iload_n 1, 1) := zk_of (zk_r (zk_l (zk_l (zk_r (zk_r zdX12_done_0)))))
theorem dX12_done_42 : decode cX12_done 42 = .ok (.iaload, 1) := zk_of (zk_l (zk_r (zk_l (zk_r (zk_r zdX12_done_0)))))
theorem dX12_done_43 : decode cX12_done 43 = .ok (.aload_n 0, 1) := zk_of (zk_r (zk_r (zk_l (zk_r (zk_r zdX12_done_0)))))
theorem dX12_done_44 : decode cX12_done 44 = .ok (.getfield 109, 3) := zk_of (zk_l (zk_l (zk_r (zk_r (zk_r zdX12_done_0)))))
theorem dX12_done_47 : decode cX12_done 47 = .ok (.iload_n 1, 1) := zk_of (zk_r (zk_l (zk_r (zk_r (zk_r zdX12_done_0)))))
theorem dX12_done_48 : decode cX12_done 48 = .ok (.iaload, 1) := zk_of (zk_l (zk_r (zk_r (zk_r (zk_r zdX12_done_0)))))
theorem dX12_done_49 : decode cX12_done 49 = .ok (.aload_n 0, 1) := zk_of (zk_r (zk_r (zk_r (zk_r (zk_r zdX12_done_0)))))
set_option maxRecDepth 20000 in
theorem ggX12_done_X12_isLook : GoodIn wsX12_done wsX12_isLook := ggi (fun w h => List.mem_cons_of_mem _ (List.mem_append_left _ (List.mem_append_right _ (List.mem_append_left _ h)))) gs_X12_isLook
set_option maxRecDepth 20000 in
theorem gX12_done_X12_isLook : GoodIn wsX12_done (wsV RX12 404 RX12 yX12_isLook wsX12_isLook) := goodIn_app (goodIn_of _ (by decide +kernel)) ggX12_done_X12_isLook
theorem zdX12_done_50 : (and (and (and (zk cX12_done 50 (.getfield 112) 3) (zk cX12_done 53 (.iload_n 1) 1)) (zk cX12_done 54 (.iaload) 1)) (and (and (zk cX12_done 55 (.invokevirtual 407) 3) (zk cX12_done 58 (.iconst 1) 1)) (zk cX12_done 59 (.ireturn) 1))) = true := by decide +kernel
theorem dX12_done_50 : decode cX12_done 50 = .ok (.getfield 112, 3) := zk_of (zk_l (zk_l (zk_l zdX12_done_50)))
theorem dX12_done_53 : decode cX12_done 53 = .ok (.iload_n 1, 1) := zk_of (zk_r (zk_l (zk_l zdX12_done_50)))
theorem dX12_done_54 : decode cX12_done 54 = .ok (.iaload, 1) := zk_of (zk_r (zk_l zdX12_done_50))
theorem dX12_done_55 : decode cX12_done 55 = .ok (.invokevirtual 407, 3) := zk_of (zk_l (zk_l (zk_r zdX12_done_50)))
theorem dX12_done_58 : decode cX12_done 58 = .ok (.iconst 1, 1) := zk_of (zk_r (zk_l (zk_r zdX12_done_50)))
theorem dX12_done_59 : decode cX12_done 59 = .ok (.ireturn, 1) := zk_of (zk_r (zk_r zdX12_done_50))
set_option maxRecDepth 20000 in
theorem ggX12_done_X12_happens : GoodIn wsX12_done wsX12_happens := ggi (fun w h => List.mem_cons_of_mem _ (List.mem_append_left _ (List.mem_append_right _ (List.mem_append_right _ h)))) gs_X12_happens
set_option maxRecDepth 20000 in
theorem gX12_done_X12_happens : GoodIn wsX12_done (wsV RX12 407 RX12 yX12_happens wsX12_happens) := goodIn_app (goodIn_of _ (by decide +kernel)) ggX12_done_X12_happens
/-- HissHornModel.done(I)Z of cell 0 -/
def rmX12_done_0 : Room := { frames := 1, cells := 0, slots := 0, locals := 24 }
theorem hX12_done_0_X12 : ∀ w ∈ u_ws RX12 TX12 69, w ∈ wsX12_done := fun w h => (List.mem_cons_of_mem _ (List.mem_append_right _ h))
theorem mX12_done_0_1 : Cond.fieldLink RX12 151 "HissHornModel" "thrown" "I" ∈ wsX12_done := (List.mem_cons_of_mem _ (List.mem_append_left _ (List.mem_append_left _ (List.mem_of_getElem? (i := 7) rfl))))
theorem mX12_done_0_2 : Cond.fieldLink RX12 118 "HissHornModel" "lookEvent" "[I" ∈ wsX12_done := (List.mem_cons_of_mem _ (List.mem_append_left _ (List.mem_append_left _ (List.mem_of_getElem? (i := 8) rfl))))
theorem mX12_done_0_3 : Cond.fieldLink RX12 301 "HissHornModel" "events" "I" ∈ wsX12_done := (List.mem_cons_of_mem _ (List.mem_append_left _ (List.mem_append_left _ (List.mem_of_getElem? (i := 9) rfl))))
theorem mX12_done_0_4 : Cond.fieldLink RX12 106 "HissHornModel" "lookPart" "[I" ∈ wsX12_done := (List.mem_cons_of_mem _ (List.mem_append_left _ (List.mem_append_left _ (List.mem_of_getElem? (i := 10) rfl))))
theorem mX12_done_0_5 : Cond.fieldLink RX12 109 "HissHornModel" "lookFrom" "[I" ∈ wsX12_done := (List.mem_cons_of_mem _ (List.mem_append_left _ (List.mem_append_left _ (List.mem_of_getElem? (i := 11) rfl))))
theorem mX12_done_0_6 : Cond.fieldLink RX12 112 "HissHornModel" "lookTo" "[I" ∈ wsX12_done := (List.mem_cons_of_mem _ (List.mem_append_left _ (List.mem_append_left _ (List.mem_of_getElem? (i := 12) rfl))))
def fX12_done_0 (x1 : Int32) (u : SX) : Option (Int32 × SX) := (lt (sI u 0 0) fun u1 => ((fX12_isLook_0 x1 u1).bind fun q => match q with | (r3, u4) => (if r3 = 0 then (gd (isB 0) (some (0, u4))) else (gd (inb x1 10) (if (u4.2.1 33 x1.toNatClampNeg) = (-1) then (gd (inb x1 10) (lt (sA u4 33 (upd (u4.2.1 33) x1.toNatClampNeg (u4.1 13))) fun u9 => (gd (inb x1 10) (gd (inb x1 10) (gd (inb x1 10) ((fX12_happens_0 x1 (u9.2.1 29 x1.toNatClampNeg) (u9.2.1 30 x1.toNatClampNeg) (u9.2.1 31 x1.toNatClampNeg) u9).bind fun q => match q with | (r14, u15) => (gd (isB 1) (some (1, u15))))))))) else (gd (isB 0) (some (0, u4))))))))
set_option maxHeartbeats 4000000 in
set_option maxRecDepth 100000 in
theorem wX12_done_0 {p : Program} {l : Launch} {e : Env} {s : State} {m : MethodId} {args : Array Value} {below : List Frame} {meth : Method} {c : Code} {D : va_G} {cy : Nat → ClassId} {ad st : Nat → Nat} (C : Cx RX12 cX12_done 2 (some .boolean) wsX12_done p s m args meth c) (hK : Ky D [(cy 0, .int), (cy 1, .long), (cy 2, .boolean), (cy 3, .byte), (cy 4, .object "HissHorn$Text")] st s) (hJ : JM ad st) (x1 : Int32) {u : SX} {r : Int32} {u' : SX} {H : Heap} {locs : List Loc} {ls : Array Slot} (h : fX12_done_0 x1 u = some (r, u')) (hP : va_P D vwCl (VM cy ad st u) H) (hS : va_S (Ax (AM ad) s.heap.size) s.heap H locs) (hl : lv_has ls 2 [(0, .ref (ad 0)), (1, .int x1)]) : W p l e rmX12_done_0 s m args below meth c H locs 0 0 (MQ below (Qi D (VM cy ad st) (AM ad) s.heap.size r u') args s 0 0 (Ax (AM ad) s.heap.size)) (F0 m 0 ls []) := by
  unfold fX12_done_0 at h
  refine lv_aload_n C.1 C.2.1 dX12_done_0 rfl (lv_at hl 0 rfl) ?_
  refine lv_iconst (v := 0) C.1 C.2.1 dX12_done_1 (by decide) ?_
  refine pM_0_thrown C hX12_done_0_X12 hK hP hJ hS mX12_done_0_1 dX12_done_2 (fun H locs hP hS => ?_)
  obtain ⟨u1, hu2, h⟩ := lt_some h
  rw [← hu2] at hP
  refine lv_aload_n C.1 C.2.1 dX12_done_5 rfl (lv_at hl 0 rfl) ?_
  refine lv_iload_n C.1 C.2.1 dX12_done_6 rfl (lv_at hl 1 rfl) ?_
  obtain ⟨⟨r3, u4⟩, hc5, h⟩ := bd_some h
  try dsimp only at h
  refine cg_i (As := [.int x1]) (rest := []) (AM_ge hJ) C hK hP hS (metX12_isLook_0 l D cy ad st hJ _ x1 hc5) (cwV 1 C.2.2.2.2.2.1 gX12_done_X12_isLook rfl rfl rfl (by decide +kernel) ⟨(Nat.le_of_ble_eq_true rfl), (Nat.le_of_ble_eq_true rfl)⟩) 0 12 rfl rfl rfl hl.1 rfl (Nat.le_of_ble_eq_true rfl) dX12_done_7 ⟨Nat.zero_le _, Nat.zero_le _⟩ (fun H locs hP hS => ?_)
  refine lv_if_eq (tgt := 23) C.1 C.2.1 dX12_done_10 (by decide) (fun c10 => ?_) (fun c10 => ?_)
  · rw [if_pos c10] at h
    refine lv_iconst (v := 0) C.1 C.2.1 dX12_done_23 (by decide) ?_
    obtain ⟨hg6, h⟩ := gd_some h
    cases h
    exact rt_z hg6 C hP hS dX12_done_24
  · rw [if_neg c10] at h
    refine lv_aload_n C.1 C.2.1 dX12_done_13 rfl (lv_at hl 0 rfl) ?_
    refine gM_0_lookEvent C hX12_done_0_X12 hK hP mX12_done_0_2 dX12_done_14 ?_
    refine lv_iload_n C.1 C.2.1 dX12_done_17 rfl (lv_at hl 1 rfl) ?_
    obtain ⟨hg7, h⟩ := gd_some h
    refine lM_33 C hK hP hg7 dX12_done_18 ?_
    refine lv_iconst (v := (-1)) C.1 C.2.1 dX12_done_19 (by decide) ?_
    refine lv_icmp_eq (tgt := 25) C.1 C.2.1 dX12_done_20 (by decide) (fun c20 => ?_) (fun c20 => ?_)
    · rw [if_pos c20] at h
      refine lv_aload_n C.1 C.2.1 dX12_done_25 rfl (lv_at hl 0 rfl) ?_
      refine gM_0_lookEvent C hX12_done_0_X12 hK hP mX12_done_0_2 dX12_done_26 ?_
      refine lv_iload_n C.1 C.2.1 dX12_done_29 rfl (lv_at hl 1 rfl) ?_
      refine lv_aload_n C.1 C.2.1 dX12_done_30 rfl (lv_at hl 0 rfl) ?_
      refine gM_0_events C hX12_done_0_X12 hK hP mX12_done_0_3 dX12_done_31 ?_
      obtain ⟨hg8, h⟩ := gd_some h
      refine tM_33 C hK hP hJ hS hg8 dX12_done_34 (fun H locs hP hS => ?_)
      obtain ⟨u9, hu10, h⟩ := lt_some h
      rw [← hu10] at hP
      refine lv_aload_n C.1 C.2.1 dX12_done_35 rfl (lv_at hl 0 rfl) ?_
      refine lv_iload_n C.1 C.2.1 dX12_done_36 rfl (lv_at hl 1 rfl) ?_
      refine lv_aload_n C.1 C.2.1 dX12_done_37 rfl (lv_at hl 0 rfl) ?_
      refine gM_0_lookPart C hX12_done_0_X12 hK hP mX12_done_0_4 dX12_done_38 ?_
      refine lv_iload_n C.1 C.2.1 dX12_done_41 rfl (lv_at hl 1 rfl) ?_
      obtain ⟨hg11, h⟩ := gd_some h
      refine lM_29 C hK hP hg11 dX12_done_42 ?_
      refine lv_aload_n C.1 C.2.1 dX12_done_43 rfl (lv_at hl 0 rfl) ?_
      refine gM_0_lookFrom C hX12_done_0_X12 hK hP mX12_done_0_5 dX12_done_44 ?_
      refine lv_iload_n C.1 C.2.1 dX12_done_47 rfl (lv_at hl 1 rfl) ?_
      obtain ⟨hg12, h⟩ := gd_some h
      refine lM_30 C hK hP hg12 dX12_done_48 ?_
      refine lv_aload_n C.1 C.2.1 dX12_done_49 rfl (lv_at hl 0 rfl) ?_
      refine gM_0_lookTo C hX12_done_0_X12 hK hP mX12_done_0_6 dX12_done_50 ?_
      refine lv_iload_n C.1 C.2.1 dX12_done_53 rfl (lv_at hl 1 rfl) ?_
      obtain ⟨hg13, h⟩ := gd_some h
      refine lM_31 C hK hP hg13 dX12_done_54 ?_
      obtain ⟨⟨r14, u15⟩, hc16, h⟩ := bd_some h
      try dsimp only at h
      refine cg_v (As := [.int x1, .int (u9.2.1 29 x1.toNatClampNeg), .int (u9.2.1 30 x1.toNatClampNeg), .int (u9.2.1 31 x1.toNatClampNeg)]) (rest := []) (AM_ge hJ) C hK hP hS (metX12_happens_0 l D cy ad st hJ _ x1 (u9.2.1 29 x1.toNatClampNeg) (u9.2.1 30 x1.toNatClampNeg) (u9.2.1 31 x1.toNatClampNeg) hc16) (cwV 4 C.2.2.2.2.2.1 gX12_done_X12_happens rfl rfl rfl (by decide +kernel) ⟨(Nat.le_of_ble_eq_true rfl), (Nat.le_of_ble_eq_true rfl)⟩) 0 12 rfl rfl rfl hl.1 rfl (Nat.le_of_ble_eq_true rfl) dX12_done_55 ⟨Nat.zero_le _, Nat.zero_le _⟩ (fun H locs hP hS => ?_)
      refine lv_iconst (v := 1) C.1 C.2.1 dX12_done_58 (by decide) ?_
      obtain ⟨hg17, h⟩ := gd_some h
      cases h
      exact rt_z hg17 C hP hS dX12_done_59
    · rw [if_neg c20] at h
      refine lv_iconst (v := 0) C.1 C.2.1 dX12_done_23 (by decide) ?_
      obtain ⟨hg18, h⟩ := gd_some h
      cases h
      exact rt_z hg18 C hP hS dX12_done_24
theorem metX12_done_0 (l : Launch) (D : va_G) (cy : Nat → ClassId) (ad st : Nat → Nat) (hJ : JM ad st) (sz : Nat) (x1 : Int32) {u : SX} {r : Int32} {u' : SX} (h : fX12_done_0 x1 u = some (r, u')) : Met l yX12_done wsX12_done rmX12_done_0 (va_Pc [.ref (ad 0), .int x1] (Px D [(cy 0, .int), (cy 1, .long), (cy 2, .boolean), (cy 3, .byte), (cy 4, .object "HissHorn$Text")] st (VM cy ad st) sz u)) (Qi D (VM cy ad st) (AM ad) sz r u') 0 0 (Ax (AM ad) sz) := by
  refine Met.ofW (cc := cX12_done) (maxL := 2) (ret := (some .boolean)) (by decide) rfl ?_
  intro p e s m args below meth c s₁ B hml hv
  obtain ⟨rfl, hsz, hP, hK⟩ := hv
  subst hsz
  have C : Cx RX12 cX12_done 2 (some .boolean) wsX12_done p s m _ meth c := ⟨B.exec, B.bytes, hml, B.returns, findClass_of_methodNamed B.named, atoms_spec (ws := wsX12_done) B.pre, B.notSynchronized⟩
  have hl := lv_entry ([.ref (ad 0), .int x1]) (n := 2) (Nat.le_of_ble_eq_true rfl)
  rw [lg_entry_eq]
  exact wX12_done_0 C hK hJ x1 h hP va_S.rf hl

theorem zdX12_clean_0 : (and (and (and (and (and (zk cX12_clean 0 (.aload_n 0) 1) (zk cX12_clean 1 (.iconst 0) 1)) (and (zk cX12_clean 2 (.putfield 151) 3) (zk cX12_clean 5 (.aload_n 0) 1))) (and (and (zk cX12_clean 6 (.getfield 411) 3) (zk cX12_clean 9 (.bipush 20) 2)) (and (zk cX12_clean 11 (.if_icmp .eq 31) 3) (zk cX12_clean 42 (.iconst 0) 1)))) (and (and (and (zk cX12_clean 43 (.ireturn) 1) (zk cX12_clean 14 (.aload_n 0) 1)) (and (zk cX12_clean 15 (.iload_n 1) 1) (zk cX12_clean 16 (.invokevirtual 307) 3))) (and (and (zk cX12_clean 19 (.ifCond .eq 23) 3) (zk cX12_clean 22 (.iload_n 2) 1)) (and (zk cX12_clean 23 (.iload_n 3) 1) (zk cX12_clean 24 (.invokestatic 289) 3))))) (and (and (and (and (zk cX12_clean 27 (.ifCond .eq 15) 3) (zk cX12_clean 30 (.iload 4) 2)) (and (zk cX12_clean 32 (.iconst 0) 1) (zk cX12_clean 33 (.sipush 400) 3))) (and (and (zk cX12_clean 36 (.invokestatic 155) 3) (zk cX12_clean 39 (.ifCond .ne 5) 3)) (and (zk cX12_clean 44 (.aload_n 0) 1) (zk cX12_clean 45 (.iconst (-1)) 1)))) (and (and (and (zk cX12_clean 46 (.iload_n 1) 1) (zk cX12_clean 47 (.iload_n 2) 1)) (and (zk cX12_clean 48 (.iload_n 3) 1) (zk cX12_clean 49 (.invokevirtual 407) 3))) (and (and (zk cX12_clean 52 (.aload_n 0) 1) (zk cX12_clean 53 (.getfield 44) 3)) (and (zk cX12_clean 56 (.iload_n 1) 1) (zk cX12_clean 57 (.iload 4) 2)))))) = true := by decide +kernel
theorem dX12_clean_0 : decode cX12_clean 0 = .ok (.aload_n 0, 1) := zk_of (zk_l (zk_l (zk_l (zk_l (zk_l zdX12_clean_0)))))
theorem dX12_clean_1 : decode cX12_clean 1 = .ok (.iconst 0, 1) := zk_of (zk_r (zk_l (zk_l (zk_l (zk_l zdX12_clean_0)))))
theorem dX12_clean_2 : decode cX12_clean 2 = .ok (.putfield 151, 3) := zk_of (zk_l (zk_r (zk_l (zk_l (zk_l zdX12_clean_0)))))
theorem dX12_clean_5 : decode cX12_clean 5 = .ok (.aload_n 0, 1) := zk_of (zk_r (zk_r (zk_l (zk_l (zk_l zdX12_clean_0)))))
theorem dX12_clean_6 : decode cX12_clean 6 = .ok (.getfield 411, 3) := zk_of (zk_l (zk_l (zk_r (zk_l (zk_l zdX12_clean_0)))))
theorem dX12_clean_9 : decode cX12_clean 9 = .ok (.bipush 20, 2) := zk_of (zk_r (zk_l (zk_r (zk_l (zk_l zdX12_clean_0)))))
theorem dX12_clean_11 : decode cX12_clean 11 = .ok (.if_icmp .eq 31, 3) := zk_of (zk_l (zk_r (zk_r (zk_l (zk_l zdX12_clean_0)))))
theorem dX12_clean_42 : decode cX12_clean 42 = .ok (.iconst 0, 1) := zk_of (zk_r (zk_r (zk_r (zk_l (zk_l zdX12_clean_0)))))
theorem dX12_clean_43 : decode cX12_clean 43 = .ok (.ireturn, 1) := zk_of (zk_l (zk_l (zk_l (zk_r (zk_l zdX12_clean_0)))))
theorem dX12_clean_14 : decode cX12_clean 14 = .ok (.aload_n 0, 1) := zk_of (zk_r (zk_l (zk_l (zk_r (zk_l zdX12_clean_0)))))
theorem dX12_clean_15 : decode cX12_clean 15 = .ok (.iload_n 1, 1) := zk_of (zk_l (zk_r (zk_l (zk_r (zk_l zdX12_clean_0)))))
theorem dX12_clean_16 : decode cX12_clean 16 = .ok (.invokevirtual 307, 3) := zk_of (zk_r (zk_r (zk_l (zk_r (zk_l zdX12_clean_0)))))
theorem dX12_clean_19 : decode cX12_clean 19 = .ok (.ifCond .eq 23, 3) := zk_of (zk_l (zk_l (zk_r (zk_r (zk_l zdX12_clean_0)))))
theorem dX12_clean_22 : decode cX12_clean 22 = .ok (.iload_n 2, 1) := zk_of (zk_r (zk_l (zk_r (zk_r (zk_l zdX12_clean_0)))))
theorem dX12_clean_23 : decode cX12_clean 23 = .ok (.iload_n 3, 1) := zk_of (zk_l (zk_r (zk_r (zk_r (zk_l zdX12_clean_0)))))
theorem dX12_clean_24 : decode cX12_clean 24 = .ok (.invokestatic 289, 3) := zk_of (zk_r (zk_r (zk_r (zk_r (zk_l zdX12_clean_0)))))
theorem dX12_clean_27 : decode cX12_clean 27 = .ok (.ifCond .eq 15, 3) := zk_of (zk_l (zk_l (zk_l (zk_l (zk_r zdX12_clean_0)))))
theorem dX12_clean_30 : decode cX12_clean 30 = .ok (.iload 4, 2) := zk_of (zk_r (zk_l (zk_l (zk_l (zk_r zdX12_clean_0)))))
theorem dX12_clean_32 : decode cX12_clean 32 = .ok (.iconst 0, 1) := zk_of (zk_l (zk_r (zk_l (zk_l (zk_r zdX12_clean_0)))))
theorem dX12_clean_33 : decode cX12_clean 33 = .ok (.sipush 400, 3) := zk_of (zk_r (zk_r (zk_l (zk_l (zk_r zdX12_clean_0)))))
theorem dX12_clean_36 : decode cX12_clean 36 = .ok (.invokestatic 155, 3) := zk_of (zk_l (zk_l (zk_r (zk_l (zk_r zdX12_clean_0)))))
theorem dX12_clean_39 : decode cX12_clean 39 = .ok (.ifCond .ne 5, 3) := zk_of (zk_r (zk_l (zk_r (zk_l (zk_r zdX12_clean_0)))))
theorem dX12_clean_44 : decode cX12_clean 44 = .ok (.aload_n 0, 1) := zk_of (zk_l (zk_r (zk_r (zk_l (zk_r zdX12_clean_0)))))
theorem dX12_clean_45 : decode cX12_clean 45 = .ok (.iconst (-1), 1) := zk_of (zk_r (zk_r (zk_r (zk_l (zk_r zdX12_clean_0)))))
theorem dX12_clean_46 : decode cX12_clean 46 = .ok (.iload_n 1, 1) := zk_of (zk_l (zk_l (zk_l (zk_r (zk_r zdX12_clean_0)))))
theorem dX12_clean_47 : decode cX12_clean 47 = .ok (.iload_n 2, 1) := zk_of (zk_r (zk_l (zk_l (zk_r (zk_r zdX12_clean_0)))))
theorem dX12_clean_48 : decode cX12_clean 48 = .ok (.iload_n 3, 1) := zk_of (zk_l (zk_r (zk_l (zk_r (zk_r zdX12_clean_0)))))
theorem dX12_clean_49 : decode cX12_clean 49 = .ok (.invokevirtual 407, 3) := zk_of (zk_r (zk_r (zk_l (zk_r (zk_r zdX12_clean_0)))))
theorem dX12_clean_52 : decode cX12_clean 52 = .ok (.aload_n 0, 1) := zk_of (zk_l (zk_l (zk_r (zk_r (zk_r zdX12_clean_0)))))
theorem dX12_clean_53 : decode cX12_clean 53 = .ok (.getfield 44, 3) := zk_of (zk_r (zk_l (zk_r (zk_r (zk_r zdX12_clean_0)))))
theorem dX12_clean_56 : decode cX12_clean 56 = .ok (.iload_n 1, 1) := zk_of (zk_l (zk_r (zk_r (zk_r (zk_r zdX12_clean_0)))))
theorem dX12_clean_57 : decode cX12_clean 57 = .ok (.iload 4, 2) := zk_of (zk_r (zk_r (zk_r (zk_r (zk_r zdX12_clean_0)))))
set_option maxRecDepth 20000 in
theorem ggX12_clean_X12_isPart : GoodIn wsX12_clean wsX12_isPart := ggi (fun w h => List.mem_cons_of_mem _ (List.mem_append_left _ (List.mem_append_right _ (List.mem_append_left _ h)))) gs_X12_isPart
set_option maxRecDepth 20000 in
theorem gX12_clean_X12_isPart : GoodIn wsX12_clean (wsV RX12 307 RX12 yX12_isPart wsX12_isPart) := goodIn_app (goodIn_of _ (by decide +kernel)) ggX12_clean_X12_isPart
set_option maxRecDepth 20000 in
theorem ggX12_clean_X12_isSpan : GoodIn wsX12_clean wsX12_isSpan := ggi (fun w h => List.mem_cons_of_mem _ (List.mem_append_left _ (List.mem_append_right _ (List.mem_append_right _ (List.mem_append_left _ h))))) gs_X12_isSpan
set_option maxRecDepth 20000 in
theorem gX12_clean_X12_isSpan : GoodIn wsX12_clean (va_wsS RX12 289 yX12_isSpan wsX12_isSpan) := goodIn_app (goodIn_of _ (by decide +kernel)) ggX12_clean_X12_isSpan
set_option maxRecDepth 20000 in
theorem ggX12_clean_X12_isIn : GoodIn wsX12_clean wsX12_isIn := ggi (fun w h => List.mem_cons_of_mem _ (List.mem_append_left _ (List.mem_append_right _ (List.mem_append_right _ (List.mem_append_right _ (List.mem_append_left _ h)))))) gs_X12_isIn
set_option maxRecDepth 20000 in
theorem gX12_clean_X12_isIn : GoodIn wsX12_clean (va_wsS RX12 155 yX12_isIn wsX12_isIn) := goodIn_app (goodIn_of _ (by decide +kernel)) ggX12_clean_X12_isIn
set_option maxRecDepth 20000 in
theorem ggX12_clean_X12_happens : GoodIn wsX12_clean wsX12_happens := ggi (fun w h => List.mem_cons_of_mem _ (List.mem_append_left _ (List.mem_append_right _ (List.mem_append_right _ (List.mem_append_right _ (List.mem_append_right _ h)))))) gs_X12_happens
set_option maxRecDepth 20000 in
theorem gX12_clean_X12_happens : GoodIn wsX12_clean (wsV RX12 407 RX12 yX12_happens wsX12_happens) := goodIn_app (goodIn_of _ (by decide +kernel)) ggX12_clean_X12_happens
theorem zdX12_clean_59 : (and (and (and (and (zk cX12_clean 59 (.iastore) 1) (zk cX12_clean 60 (.aload_n 0) 1)) (zk cX12_clean 61 (.dup) 1)) (and (zk cX12_clean 62 (.getfield 411) 3) (zk cX12_clean 65 (.iconst 1) 1))) (and (and (zk cX12_clean 66 (.iadd) 1) (zk cX12_clean 67 (.putfield 411) 3)) (and (zk cX12_clean 70 (.iconst 1) 1) (zk cX12_clean 71 (.ireturn) 1)))) = true := by decide +kernel
theorem dX12_clean_59 : decode cX12_clean 59 = .ok (.iastore, 1) := zk_of (zk_l (zk_l (zk_l (zk_l zdX12_clean_59))))
theorem dX12_clean_60 : decode cX12_clean 60 = .ok (.aload_n 0, 1) := zk_of (zk_r (zk_l (zk_l (zk_l zdX12_clean_59))))
theorem dX12_clean_61 : decode cX12_clean 61 = .ok (.dup, 1) := zk_of (zk_r (zk_l (zk_l zdX12_clean_59)))
theorem dX12_clean_62 : decode cX12_clean 62 = .ok (.getfield 411, 3) := zk_of (zk_l (zk_r (zk_l zdX12_clean_59)))
theorem dX12_clean_65 : decode cX12_clean 65 = .ok (.iconst 1, 1) := zk_of (zk_r (zk_r (zk_l zdX12_clean_59)))
theorem dX12_clean_66 : decode cX12_clean 66 = .ok (.iadd, 1) := zk_of (zk_l (zk_l (zk_r zdX12_clean_59)))
theorem dX12_clean_67 : decode cX12_clean 67 = .ok (.putfield 411, 3) := zk_of (zk_r (zk_l (zk_r zdX12_clean_59)))
theorem dX12_clean_70 : decode cX12_clean 70 = .ok (.iconst 1, 1) := zk_of (zk_l (zk_r (zk_r zdX12_clean_59)))
theorem dX12_clean_71 : decode cX12_clean 71 = .ok (.ireturn, 1) := zk_of (zk_r (zk_r (zk_r zdX12_clean_59)))
/-- HissHornModel.clean(IIII)Z of cell 0 -/
def rmX12_clean_0 : Room := { frames := 2, cells := 0, slots := 0, locals := 43 }
theorem hX12_clean_0_X12 : ∀ w ∈ u_ws RX12 TX12 69, w ∈ wsX12_clean := fun w h => (List.mem_cons_of_mem _ (List.mem_append_right _ h))
theorem mX12_clean_0_1 : Cond.fieldLink RX12 151 "HissHornModel" "thrown" "I" ∈ wsX12_clean := (List.mem_cons_of_mem _ (List.mem_append_left _ (List.mem_append_left _ (List.mem_of_getElem? (i := 11) rfl))))
theorem mX12_clean_0_2 : Cond.fieldLink RX12 411 "HissHornModel" "cleans" "I" ∈ wsX12_clean := (List.mem_cons_of_mem _ (List.mem_append_left _ (List.mem_append_left _ (List.mem_of_getElem? (i := 12) rfl))))
theorem mX12_clean_0_3 : Cond.fieldLink RX12 44 "HissHornModel" "truly" "[I" ∈ wsX12_clean := (List.mem_cons_of_mem _ (List.mem_append_left _ (List.mem_append_left _ (List.mem_of_getElem? (i := 13) rfl))))
def fX12_clean_0 (x1 : Int32) (x2 : Int32) (x3 : Int32) (x4 : Int32) (u : SX) : Option (Int32 × SX) := (lt (sI u 0 0) fun u1 => (if (u1.1 14) = 20 then (gd (isB 0) (some (0, u1))) else ((fX12_isPart_0 x1 u1).bind fun q => match q with | (r4, u5) => (if r4 = 0 then (gd (isB 0) (some (0, u5))) else ((fX12_isSpan x2 x3).bind fun r8 => (if r8 = 0 then (gd (isB 0) (some (0, u5))) else ((fX12_isIn x4 0 400).bind fun r12 => (if r12 = 0 then (gd (isB 0) (some (0, u5))) else ((fX12_happens_0 (-1) x1 x2 x3 u5).bind fun q => match q with | (r15, u16) => (gd (inb x1 12) (lt (sA u16 9 (upd (u16.2.1 9) x1.toNatClampNeg x4)) fun u19 => (lt (sI u19 14 ((u19.1 14) + 1)) fun u21 => (gd (isB 1) (some (1, u21)))))))))))))))
set_option maxHeartbeats 4000000 in
set_option maxRecDepth 100000 in
theorem wX12_clean_0 {p : Program} {l : Launch} {e : Env} {s : State} {m : MethodId} {args : Array Value} {below : List Frame} {meth : Method} {c : Code} {D : va_G} {cy : Nat → ClassId} {ad st : Nat → Nat} (C : Cx RX12 cX12_clean 5 (some .boolean) wsX12_clean p s m args meth c) (hK : Ky D [(cy 0, .int), (cy 1, .long), (cy 2, .boolean), (cy 3, .byte), (cy 4, .object "HissHorn$Text")] st s) (hJ : JM ad st) (x1 : Int32) (x2 : Int32) (x3 : Int32) (x4 : Int32) {u : SX} {r : Int32} {u' : SX} {H : Heap} {locs : List Loc} {ls : Array Slot} (h : fX12_clean_0 x1 x2 x3 x4 u = some (r, u')) (hP : va_P D vwCl (VM cy ad st u) H) (hS : va_S (Ax (AM ad) s.heap.size) s.heap H locs) (hl : lv_has ls 5 [(0, .ref (ad 0)), (1, .int x1), (2, .int x2), (3, .int x3), (4, .int x4)]) : W p l e rmX12_clean_0 s m args below meth c H locs 0 0 (MQ below (Qi D (VM cy ad st) (AM ad) s.heap.size r u') args s 0 0 (Ax (AM ad) s.heap.size)) (F0 m 0 ls []) := by
  unfold fX12_clean_0 at h
  refine lv_aload_n C.1 C.2.1 dX12_clean_0 rfl (lv_at hl 0 rfl) ?_
  refine lv_iconst (v := 0) C.1 C.2.1 dX12_clean_1 (by decide) ?_
  refine pM_0_thrown C hX12_clean_0_X12 hK hP hJ hS mX12_clean_0_1 dX12_clean_2 (fun H locs hP hS => ?_)
  obtain ⟨u1, hu2, h⟩ := lt_some h
  rw [← hu2] at hP
  refine lv_aload_n C.1 C.2.1 dX12_clean_5 rfl (lv_at hl 0 rfl) ?_
  refine gM_0_cleans C hX12_clean_0_X12 hK hP mX12_clean_0_2 dX12_clean_6 ?_
  refine lv_bipush (v := 20) C.1 C.2.1 dX12_clean_9 (by decide) ?_
  refine lv_icmp_eq (tgt := 42) C.1 C.2.1 dX12_clean_11 (by decide) (fun c11 => ?_) (fun c11 => ?_)
  · rw [if_pos c11] at h
    refine lv_iconst (v := 0) C.1 C.2.1 dX12_clean_42 (by decide) ?_
    obtain ⟨hg3, h⟩ := gd_some h
    cases h
    exact rt_z hg3 C hP hS dX12_clean_43
  · rw [if_neg c11] at h
    refine lv_aload_n C.1 C.2.1 dX12_clean_14 rfl (lv_at hl 0 rfl) ?_
    refine lv_iload_n C.1 C.2.1 dX12_clean_15 rfl (lv_at hl 1 rfl) ?_
    obtain ⟨⟨r4, u5⟩, hc6, h⟩ := bd_some h
    try dsimp only at h
    refine cg_i (As := [.int x1]) (rest := []) (AM_ge hJ) C hK hP hS (metX12_isPart_0 l D cy ad st hJ _ x1 hc6) (cwV 1 C.2.2.2.2.2.1 gX12_clean_X12_isPart rfl rfl rfl (by decide +kernel) ⟨(Nat.le_of_ble_eq_true rfl), (Nat.le_of_ble_eq_true rfl)⟩) 0 12 rfl rfl rfl hl.1 rfl (Nat.le_of_ble_eq_true rfl) dX12_clean_16 ⟨Nat.zero_le _, Nat.zero_le _⟩ (fun H locs hP hS => ?_)
    refine lv_if_eq (tgt := 42) C.1 C.2.1 dX12_clean_19 (by decide) (fun c19 => ?_) (fun c19 => ?_)
    · rw [if_pos c19] at h
      refine lv_iconst (v := 0) C.1 C.2.1 dX12_clean_42 (by decide) ?_
      obtain ⟨hg7, h⟩ := gd_some h
      cases h
      exact rt_z hg7 C hP hS dX12_clean_43
    · rw [if_neg c19] at h
      refine lv_iload_n C.1 C.2.1 dX12_clean_22 rfl (lv_at hl 2 rfl) ?_
      refine lv_iload_n C.1 C.2.1 dX12_clean_23 rfl (lv_at hl 3 rfl) ?_
      obtain ⟨r8, hc10, h⟩ := bd_some h
      refine cs_i (As := [.int x2, .int x3]) (rest := []) (AM_ge hJ) C hK hP hS (metX12_isSpan l D cy st _ x2 x3 hc10) (va_cwS 2 C.2.2.2.2.2.1 gX12_clean_X12_isSpan rfl rfl rfl (by decide +kernel) ⟨(Nat.le_of_ble_eq_true rfl), (Nat.le_of_ble_eq_true rfl)⟩) rfl hl.1 rfl (Nat.le_of_ble_eq_true rfl) dX12_clean_24 ⟨Nat.zero_le _, Nat.zero_le _⟩ (fun H locs hP hS => ?_)
      refine lv_if_eq (tgt := 42) C.1 C.2.1 dX12_clean_27 (by decide) (fun c27 => ?_) (fun c27 => ?_)
      · rw [if_pos c27] at h
        refine lv_iconst (v := 0) C.1 C.2.1 dX12_clean_42 (by decide) ?_
        obtain ⟨hg11, h⟩ := gd_some h
        cases h
        exact rt_z hg11 C hP hS dX12_clean_43
      · rw [if_neg c27] at h
        refine lv_iload C.1 C.2.1 dX12_clean_30 (lv_at hl 4 rfl) ?_
        refine lv_iconst (v := 0) C.1 C.2.1 dX12_clean_32 (by decide) ?_
        refine lv_sipush (v := 400) C.1 C.2.1 dX12_clean_33 (by decide) ?_
        obtain ⟨r12, hc14, h⟩ := bd_some h
        refine cs_i (As := [.int x4, .int 0, .int 400]) (rest := []) (AM_ge hJ) C hK hP hS (metX12_isIn l D cy st _ x4 0 400 hc14) (va_cwS 3 C.2.2.2.2.2.1 gX12_clean_X12_isIn rfl rfl rfl (by decide +kernel) ⟨(Nat.le_of_ble_eq_true rfl), (Nat.le_of_ble_eq_true rfl)⟩) rfl hl.1 rfl (Nat.le_of_ble_eq_true rfl) dX12_clean_36 ⟨Nat.zero_le _, Nat.zero_le _⟩ (fun H locs hP hS => ?_)
        refine lv_if_ne (tgt := 44) C.1 C.2.1 dX12_clean_39 (by decide) (fun c39 => ?_) (fun c39 => ?_)
        · rw [if_neg c39] at h
          refine lv_aload_n C.1 C.2.1 dX12_clean_44 rfl (lv_at hl 0 rfl) ?_
          refine lv_iconst (v := (-1)) C.1 C.2.1 dX12_clean_45 (by decide) ?_
          refine lv_iload_n C.1 C.2.1 dX12_clean_46 rfl (lv_at hl 1 rfl) ?_
          refine lv_iload_n C.1 C.2.1 dX12_clean_47 rfl (lv_at hl 2 rfl) ?_
          refine lv_iload_n C.1 C.2.1 dX12_clean_48 rfl (lv_at hl 3 rfl) ?_
          obtain ⟨⟨r15, u16⟩, hc17, h⟩ := bd_some h
          try dsimp only at h
          refine cg_v (As := [.int (-1), .int x1, .int x2, .int x3]) (rest := []) (AM_ge hJ) C hK hP hS (metX12_happens_0 l D cy ad st hJ _ (-1) x1 x2 x3 hc17) (cwV 4 C.2.2.2.2.2.1 gX12_clean_X12_happens rfl rfl rfl (by decide +kernel) ⟨(Nat.le_of_ble_eq_true rfl), (Nat.le_of_ble_eq_true rfl)⟩) 0 12 rfl rfl rfl hl.1 rfl (Nat.le_of_ble_eq_true rfl) dX12_clean_49 ⟨Nat.zero_le _, Nat.zero_le _⟩ (fun H locs hP hS => ?_)
          refine lv_aload_n C.1 C.2.1 dX12_clean_52 rfl (lv_at hl 0 rfl) ?_
          refine gM_0_truly C hX12_clean_0_X12 hK hP mX12_clean_0_3 dX12_clean_53 ?_
          refine lv_iload_n C.1 C.2.1 dX12_clean_56 rfl (lv_at hl 1 rfl) ?_
          refine lv_iload C.1 C.2.1 dX12_clean_57 (lv_at hl 4 rfl) ?_
          obtain ⟨hg18, h⟩ := gd_some h
          refine tM_9 C hK hP hJ hS hg18 dX12_clean_59 (fun H locs hP hS => ?_)
          obtain ⟨u19, hu20, h⟩ := lt_some h
          rw [← hu20] at hP
          refine lv_aload_n C.1 C.2.1 dX12_clean_60 rfl (lv_at hl 0 rfl) ?_
          refine lv_dup C.1 C.2.1 dX12_clean_61 rfl ?_
          refine gM_0_cleans C hX12_clean_0_X12 hK hP mX12_clean_0_2 dX12_clean_62 ?_
          refine lv_iconst (v := 1) C.1 C.2.1 dX12_clean_65 (by decide) ?_
          refine lv_iadd C.1 C.2.1 dX12_clean_66 ?_
          refine pM_0_cleans C hX12_clean_0_X12 hK hP hJ hS mX12_clean_0_2 dX12_clean_67 (fun H locs hP hS => ?_)
          obtain ⟨u21, hu22, h⟩ := lt_some h
          rw [← hu22] at hP
          refine lv_iconst (v := 1) C.1 C.2.1 dX12_clean_70 (by decide) ?_
          obtain ⟨hg23, h⟩ := gd_some h
          cases h
          exact rt_z hg23 C hP hS dX12_clean_71
        · rw [if_pos c39] at h
          refine lv_iconst (v := 0) C.1 C.2.1 dX12_clean_42 (by decide) ?_
          obtain ⟨hg24, h⟩ := gd_some h
          cases h
          exact rt_z hg24 C hP hS dX12_clean_43
theorem metX12_clean_0 (l : Launch) (D : va_G) (cy : Nat → ClassId) (ad st : Nat → Nat) (hJ : JM ad st) (sz : Nat) (x1 : Int32) (x2 : Int32) (x3 : Int32) (x4 : Int32) {u : SX} {r : Int32} {u' : SX} (h : fX12_clean_0 x1 x2 x3 x4 u = some (r, u')) : Met l yX12_clean wsX12_clean rmX12_clean_0 (va_Pc [.ref (ad 0), .int x1, .int x2, .int x3, .int x4] (Px D [(cy 0, .int), (cy 1, .long), (cy 2, .boolean), (cy 3, .byte), (cy 4, .object "HissHorn$Text")] st (VM cy ad st) sz u)) (Qi D (VM cy ad st) (AM ad) sz r u') 0 0 (Ax (AM ad) sz) := by
  refine Met.ofW (cc := cX12_clean) (maxL := 5) (ret := (some .boolean)) (by decide) rfl ?_
  intro p e s m args below meth c s₁ B hml hv
  obtain ⟨rfl, hsz, hP, hK⟩ := hv
  subst hsz
  have C : Cx RX12 cX12_clean 5 (some .boolean) wsX12_clean p s m _ meth c := ⟨B.exec, B.bytes, hml, B.returns, findClass_of_methodNamed B.named, atoms_spec (ws := wsX12_clean) B.pre, B.notSynchronized⟩
  have hl := lv_entry ([.ref (ad 0), .int x1, .int x2, .int x3, .int x4]) (n := 5) (Nat.le_of_ble_eq_true rfl)
  rw [lg_entry_eq]
  exact wX12_clean_0 C hK hJ x1 x2 x3 x4 h hP va_S.rf hl

theorem zdX12_wide_0 : (and (and (and (and (zk cX12_wide 0 (.aload_n 0) 1) (zk cX12_wide 1 (.iload_n 1) 1)) (zk cX12_wide 2 (.aload_n 0) 1)) (and (and (zk cX12_wide 3 (.getfield 159) 3) (zk cX12_wide 6 (.invokevirtual 361) 3)) (zk cX12_wide 9 (.aload_n 0) 1))) (and (and (and (zk cX12_wide 10 (.getfield 349) 3) (zk cX12_wide 13 (.aload_n 0) 1)) (zk cX12_wide 14 (.getfield 346) 3)) (and (zk cX12_wide 17 (.isub) 1) (zk cX12_wide 18 (.ireturn) 1)))) = true := by decide +kernel
theorem dX12_wide_0 : decode cX12_wide 0 = .ok (.aload_n 0, 1) := zk_of (zk_l (zk_l (zk_l (zk_l zdX12_wide_0))))
theorem dX12_wide_1 : decode cX12_wide 1 = .ok (.iload_n 1, 1) := zk_of (zk_r (zk_l (zk_l (zk_l zdX12_wide_0))))
theorem dX12_wide_2 : decode cX12_wide 2 = .ok (.aload_n 0, 1) := zk_of (zk_r (zk_l (zk_l zdX12_wide_0)))
theorem dX12_wide_3 : decode cX12_wide 3 = .ok (.getfield 159, 3) := zk_of (zk_l (zk_l (zk_r (zk_l zdX12_wide_0))))
theorem dX12_wide_6 : decode cX12_wide 6 = .ok (.invokevirtual 361, 3) := zk_of (zk_r (zk_l (zk_r (zk_l zdX12_wide_0))))
theorem dX12_wide_9 : decode cX12_wide 9 = .ok (.aload_n 0, 1) := zk_of (zk_r (zk_r (zk_l zdX12_wide_0)))
theorem dX12_wide_10 : decode cX12_wide 10 = .ok (.getfield 349, 3) := zk_of (zk_l (zk_l (zk_l (zk_r zdX12_wide_0))))
theorem dX12_wide_13 : decode cX12_wide 13 = .ok (.aload_n 0, 1) := zk_of (zk_r (zk_l (zk_l (zk_r zdX12_wide_0))))
theorem dX12_wide_14 : decode cX12_wide 14 = .ok (.getfield 346, 3) := zk_of (zk_r (zk_l (zk_r zdX12_wide_0)))
theorem dX12_wide_17 : decode cX12_wide 17 = .ok (.isub, 1) := zk_of (zk_l (zk_r (zk_r zdX12_wide_0)))
theorem dX12_wide_18 : decode cX12_wide 18 = .ok (.ireturn, 1) := zk_of (zk_r (zk_r (zk_r zdX12_wide_0)))
set_option maxRecDepth 20000 in
theorem ggX12_wide_X12_layLeft : GoodIn wsX12_wide wsX12_layLeft := ggi (fun w h => List.mem_cons_of_mem _ (List.mem_append_left _ (List.mem_append_right _ h))) gs_X12_layLeft
set_option maxRecDepth 20000 in
theorem gX12_wide_X12_layLeft : GoodIn wsX12_wide (wsV RX12 361 RX12 yX12_layLeft wsX12_layLeft) := goodIn_app (goodIn_of _ (by decide +kernel)) ggX12_wide_X12_layLeft
/-- HissHornModel.wide(I)I of cell 0 -/
def rmX12_wide_0 : Room := { frames := 142, cells := 0, slots := 0, locals := 8525 }
theorem hX12_wide_0_X12 : ∀ w ∈ u_ws RX12 TX12 69, w ∈ wsX12_wide := fun w h => (List.mem_cons_of_mem _ (List.mem_append_right _ h))
theorem mX12_wide_0_1 : Cond.fieldLink RX12 159 "HissHornModel" "now" "I" ∈ wsX12_wide := (List.mem_cons_of_mem _ (List.mem_append_left _ (List.mem_append_left _ (List.mem_of_getElem? (i := 4) rfl))))
theorem mX12_wide_0_2 : Cond.fieldLink RX12 349 "HissHornModel" "leftTo" "I" ∈ wsX12_wide := (List.mem_cons_of_mem _ (List.mem_append_left _ (List.mem_append_left _ (List.mem_of_getElem? (i := 5) rfl))))
theorem mX12_wide_0_3 : Cond.fieldLink RX12 346 "HissHornModel" "leftFrom" "I" ∈ wsX12_wide := (List.mem_cons_of_mem _ (List.mem_append_left _ (List.mem_append_left _ (List.mem_of_getElem? (i := 6) rfl))))
def fX12_wide_0 (x1 : Int32) (u : SX) : Option (Int32 × SX) := ((fX12_layLeft_0 x1 (u.1 1) u).bind fun q => match q with | (r1, u2) => (some ((u2.1 17) - (u2.1 16), u2)))
set_option maxHeartbeats 4000000 in
set_option maxRecDepth 100000 in
theorem wX12_wide_0 {p : Program} {l : Launch} {e : Env} {s : State} {m : MethodId} {args : Array Value} {below : List Frame} {meth : Method} {c : Code} {D : va_G} {cy : Nat → ClassId} {ad st : Nat → Nat} (C : Cx RX12 cX12_wide 2 (some .int) wsX12_wide p s m args meth c) (hK : Ky D [(cy 0, .int), (cy 1, .long), (cy 2, .boolean), (cy 3, .byte), (cy 4, .object "HissHorn$Text")] st s) (hJ : JM ad st) (x1 : Int32) {u : SX} {r : Int32} {u' : SX} {H : Heap} {locs : List Loc} {ls : Array Slot} (h : fX12_wide_0 x1 u = some (r, u')) (hP : va_P D vwCl (VM cy ad st u) H) (hS : va_S (Ax (AM ad) s.heap.size) s.heap H locs) (hl : lv_has ls 2 [(0, .ref (ad 0)), (1, .int x1)]) : W p l e rmX12_wide_0 s m args below meth c H locs 0 0 (MQ below (Qi D (VM cy ad st) (AM ad) s.heap.size r u') args s 0 0 (Ax (AM ad) s.heap.size)) (F0 m 0 ls []) := by
  unfold fX12_wide_0 at h
  refine lv_aload_n C.1 C.2.1 dX12_wide_0 rfl (lv_at hl 0 rfl) ?_
  refine lv_iload_n C.1 C.2.1 dX12_wide_1 rfl (lv_at hl 1 rfl) ?_
  refine lv_aload_n C.1 C.2.1 dX12_wide_2 rfl (lv_at hl 0 rfl) ?_
  refine gM_0_now C hX12_wide_0_X12 hK hP mX12_wide_0_1 dX12_wide_3 ?_
  obtain ⟨⟨r1, u2⟩, hc3, h⟩ := bd_some h
  try dsimp only at h
  refine cg_v (As := [.int x1, .int (u.1 1)]) (rest := []) (AM_ge hJ) C hK hP hS (metX12_layLeft_0 l D cy ad st hJ _ x1 (u.1 1) hc3) (cwV 2 C.2.2.2.2.2.1 gX12_wide_X12_layLeft rfl rfl rfl (by decide +kernel) ⟨(Nat.le_of_ble_eq_true rfl), (Nat.le_of_ble_eq_true rfl)⟩) 0 12 rfl rfl rfl hl.1 rfl (Nat.le_of_ble_eq_true rfl) dX12_wide_6 ⟨Nat.zero_le _, Nat.zero_le _⟩ (fun H locs hP hS => ?_)
  refine lv_aload_n C.1 C.2.1 dX12_wide_9 rfl (lv_at hl 0 rfl) ?_
  refine gM_0_leftTo C hX12_wide_0_X12 hK hP mX12_wide_0_2 dX12_wide_10 ?_
  refine lv_aload_n C.1 C.2.1 dX12_wide_13 rfl (lv_at hl 0 rfl) ?_
  refine gM_0_leftFrom C hX12_wide_0_X12 hK hP mX12_wide_0_3 dX12_wide_14 ?_
  refine lv_isub C.1 C.2.1 dX12_wide_17 ?_
  cases h
  exact rt_i C hP hS dX12_wide_18
theorem metX12_wide_0 (l : Launch) (D : va_G) (cy : Nat → ClassId) (ad st : Nat → Nat) (hJ : JM ad st) (sz : Nat) (x1 : Int32) {u : SX} {r : Int32} {u' : SX} (h : fX12_wide_0 x1 u = some (r, u')) : Met l yX12_wide wsX12_wide rmX12_wide_0 (va_Pc [.ref (ad 0), .int x1] (Px D [(cy 0, .int), (cy 1, .long), (cy 2, .boolean), (cy 3, .byte), (cy 4, .object "HissHorn$Text")] st (VM cy ad st) sz u)) (Qi D (VM cy ad st) (AM ad) sz r u') 0 0 (Ax (AM ad) sz) := by
  refine Met.ofW (cc := cX12_wide) (maxL := 2) (ret := (some .int)) (by decide) rfl ?_
  intro p e s m args below meth c s₁ B hml hv
  obtain ⟨rfl, hsz, hP, hK⟩ := hv
  subst hsz
  have C : Cx RX12 cX12_wide 2 (some .int) wsX12_wide p s m _ meth c := ⟨B.exec, B.bytes, hml, B.returns, findClass_of_methodNamed B.named, atoms_spec (ws := wsX12_wide) B.pre, B.notSynchronized⟩
  have hl := lv_entry ([.ref (ad 0), .int x1]) (n := 2) (Nat.le_of_ble_eq_true rfl)
  rw [lg_entry_eq]
  exact wX12_wide_0 C hK hJ x1 h hP va_S.rf hl

theorem zdX12_wideBy_0 : (and (and (and (and (and (zk cX12_wideBy 0 (.aload_n 0) 1) (zk cX12_wideBy 1 (.iload_n 3) 1)) (and (zk cX12_wideBy 2 (.invokevirtual 304) 3) (zk cX12_wideBy 5 (.aload_n 0) 1))) (and (and (zk cX12_wideBy 6 (.getfield 65) 3) (zk cX12_wideBy 9 (.iload_n 2) 1)) (and (zk cX12_wideBy 10 (.iaload) 1) (zk cX12_wideBy 11 (.istore 4) 2)))) (and (and (and (zk cX12_wideBy 13 (.aload_n 0) 1) (zk cX12_wideBy 14 (.getfield 68) 3)) (and (zk cX12_wideBy 17 (.iload_n 2) 1) (zk cX12_wideBy 18 (.iaload) 1))) (and (and (zk cX12_wideBy 19 (.istore 5) 2) (zk cX12_wideBy 21 (.aload_n 0) 1)) (and (zk cX12_wideBy 22 (.aload_n 0) 1) (zk cX12_wideBy 23 (.getfield 301) 3))))) (and (and (and (and (zk cX12_wideBy 26 (.invokevirtual 304) 3) (zk cX12_wideBy 29 (.aload_n 0) 1)) (and (zk cX12_wideBy 30 (.getfield 65) 3) (zk cX12_wideBy 33 (.iload_n 2) 1))) (and (and (zk cX12_wideBy 34 (.iload 4) 2) (zk cX12_wideBy 36 (.iastore) 1)) (and (zk cX12_wideBy 37 (.aload_n 0) 1) (zk cX12_wideBy 38 (.getfield 68) 3)))) (and (and (and (zk cX12_wideBy 41 (.iload_n 2) 1) (zk cX12_wideBy 42 (.iload 5) 2)) (and (zk cX12_wideBy 44 (.iastore) 1) (zk cX12_wideBy 45 (.aload_n 0) 1))) (and (and (zk cX12_wideBy 46 (.iload_n 1) 1) (zk cX12_wideBy 47 (.invokevirtual 414) 3)) (zk cX12_wideBy 50 (.ireturn) 1))))) = true := by decide +kernel
theorem dX12_wideBy_0 : decode cX12_wideBy 0 = .ok (.aload_n 0, 1) := zk_of (zk_l (zk_l (zk_l (zk_l (zk_l zdX12_wideBy_0)))))
theorem dX12_wideBy_1 : decode cX12_wideBy 1 = .ok (.iload_n 3, 1) := zk_of (zk_r (zk_l (zk_l (zk_l (zk_l zdX12_wideBy_0)))))
theorem dX12_wideBy_2 : decode cX12_wideBy 2 = .ok (.invokevirtual 304, 3) := zk_of (zk_l (zk_r (zk_l (zk_l (zk_l zdX12_wideBy_0)))))
theorem dX12_wideBy_5 : decode cX12_wideBy 5 = .ok (.aload_n 0, 1) := zk_of (zk_r (zk_r (zk_l (zk_l (zk_l zdX12_wideBy_0)))))
theorem dX12_wideBy_6 : decode cX12_wideBy 6 = .ok (.getfield 65, 3) := zk_of (zk_l (zk_l (zk_r (zk_l (zk_l zdX12_wideBy_0)))))
theorem dX12_wideBy_9 : decode cX12_wideBy 9 = .ok (.iload_n 2, 1) := zk_of (zk_r (zk_l (zk_r (zk_l (zk_l zdX12_wideBy_0)))))
theorem dX12_wideBy_10 : decode cX12_wideBy 10 = .ok (.iaload, 1) := zk_of (zk_l (zk_r (zk_r (zk_l (zk_l zdX12_wideBy_0)))))
theorem dX12_wideBy_11 : decode cX12_wideBy 11 = .ok (.istore 4, 2) := zk_of (zk_r (zk_r (zk_r (zk_l (zk_l zdX12_wideBy_0)))))
theorem dX12_wideBy_13 : decode cX12_wideBy 13 = .ok (.aload_n 0, 1) := zk_of (zk_l (zk_l (zk_l (zk_r (zk_l zdX12_wideBy_0)))))
theorem dX12_wideBy_14 : decode cX12_wideBy 14 = .ok (.getfield 68, 3) := zk_of (zk_r (zk_l (zk_l (zk_r (zk_l zdX12_wideBy_0)))))
theorem dX12_wideBy_17 : decode cX12_wideBy 17 = .ok (.iload_n 2, 1) := zk_of (zk_l (zk_r (zk_l (zk_r (zk_l zdX12_wideBy_0)))))
theorem dX12_wideBy_18 : decode cX12_wideBy 18 = .ok (.iaload, 1) := zk_of (zk_r (zk_r (zk_l (zk_r (zk_l zdX12_wideBy_0)))))
theorem dX12_wideBy_19 : decode cX12_wideBy 19 = .ok (.istore 5, 2) := zk_of (zk_l (zk_l (zk_r (zk_r (zk_l zdX12_wideBy_0)))))
theorem dX12_wideBy_21 : decode cX12_wideBy 21 = .ok (.aload_n 0, 1) := zk_of (zk_r (zk_l (zk_r (zk_r (zk_l zdX12_wideBy_0)))))
theorem dX12_wideBy_22 : decode cX12_wideBy 22 = .ok (.aload_n 0, 1) := zk_of (zk_l (zk_r (zk_r (zk_r (zk_l zdX12_wideBy_0)))))
theorem dX12_wideBy_23 : decode cX12_wideBy 23 = .ok (.getfield 301, 3) := zk_of (zk_r (zk_r (zk_r (zk_r (zk_l zdX12_wideBy_0)))))
theorem dX12_wideBy_26 : decode cX12_wideBy 26 = .ok (.invokevirtual 304, 3) := zk_of (zk_l (zk_l (zk_l (zk_l (zk_r zdX12_wideBy_0)))))
theorem dX12_wideBy_29 : decode cX12_wideBy 29 = .ok (.aload_n 0, 1) := zk_of (zk_r (zk_l (zk_l (zk_l (zk_r zdX12_wideBy_0)))))
theorem dX12_wideBy_30 : decode cX12_wideBy 30 = .ok (.getfield 65, 3) := zk_of (zk_l (zk_r (zk_l (zk_l (zk_r zdX12_wideBy_0)))))
theorem dX12_wideBy_33 : decode cX12_wideBy 33 = .ok (.iload_n 2, 1) := zk_of (zk_r (zk_r (zk_l (zk_l (zk_r zdX12_wideBy_0)))))
theorem dX12_wideBy_34 : decode cX12_wideBy 34 = .ok (.iload 4, 2) := zk_of (zk_l (zk_l (zk_r (zk_l (zk_r zdX12_wideBy_0)))))
theorem dX12_wideBy_36 : decode cX12_wideBy 36 = .ok (.iastore, 1) := zk_of (zk_r (zk_l (zk_r (zk_l (zk_r zdX12_wideBy_0)))))
theorem dX12_wideBy_37 : decode cX12_wideBy 37 = .ok (.aload_n 0, 1) := zk_of (zk_l (zk_r (zk_r (zk_l (zk_r zdX12_wideBy_0)))))
theorem dX12_wideBy_38 : decode cX12_wideBy 38 = .ok (.getfield 68, 3) := zk_of (zk_r (zk_r (zk_r (zk_l (zk_r zdX12_wideBy_0)))))
theorem dX12_wideBy_41 : decode cX12_wideBy 41 = .ok (.iload_n 2, 1) := zk_of (zk_l (zk_l (zk_l (zk_r (zk_r zdX12_wideBy_0)))))
theorem dX12_wideBy_42 : decode cX12_wideBy 42 = .ok (.iload 5, 2) := zk_of (zk_r (zk_l (zk_l (zk_r (zk_r zdX12_wideBy_0)))))
theorem dX12_wideBy_44 : decode cX12_wideBy 44 = .ok (.iastore, 1) := zk_of (zk_l (zk_r (zk_l (zk_r (zk_r zdX12_wideBy_0)))))
theorem dX12_wideBy_45 : decode cX12_wideBy 45 = .ok (.aload_n 0, 1) := zk_of (zk_r (zk_r (zk_l (zk_r (zk_r zdX12_wideBy_0)))))
theorem dX12_wideBy_46 : decode cX12_wideBy 46 = .ok (.iload_n 1, 1) := zk_of (zk_l (zk_l (zk_r (zk_r (zk_r zdX12_wideBy_0)))))
theorem dX12_wideBy_47 : decode cX12_wideBy 47 = .ok (.invokevirtual 414, 3) := zk_of (zk_r (zk_l (zk_r (zk_r (zk_r zdX12_wideBy_0)))))
theorem dX12_wideBy_50 : decode cX12_wideBy 50 = .ok (.ireturn, 1) := zk_of (zk_r (zk_r (zk_r (zk_r zdX12_wideBy_0))))
set_option maxRecDepth 20000 in
theorem ggX12_wideBy_X12_laySpans : GoodIn wsX12_wideBy wsX12_laySpans := ggi (fun w h => List.mem_cons_of_mem _ (List.mem_append_left _ (List.mem_append_right _ (List.mem_append_left _ h)))) gs_X12_laySpans
set_option maxRecDepth 20000 in
theorem gX12_wideBy_X12_laySpans : GoodIn wsX12_wideBy (wsV RX12 304 RX12 yX12_laySpans wsX12_laySpans) := goodIn_app (goodIn_of _ (by decide +kernel)) ggX12_wideBy_X12_laySpans
set_option maxRecDepth 20000 in
theorem ggX12_wideBy_X12_wide : GoodIn wsX12_wideBy wsX12_wide := ggi (fun w h => List.mem_cons_of_mem _ (List.mem_append_left _ (List.mem_append_right _ (List.mem_append_right _ h)))) gs_X12_wide
set_option maxRecDepth 20000 in
theorem gX12_wideBy_X12_wide : GoodIn wsX12_wideBy (wsV RX12 414 RX12 yX12_wide wsX12_wide) := goodIn_app (goodIn_of _ (by decide +kernel)) ggX12_wideBy_X12_wide
/-- HissHornModel.wideBy(III)I of cell 0 -/
def rmX12_wideBy_0 : Room := { frames := 143, cells := 0, slots := 0, locals := 8546 }
theorem hX12_wideBy_0_X12 : ∀ w ∈ u_ws RX12 TX12 69, w ∈ wsX12_wideBy := fun w h => (List.mem_cons_of_mem _ (List.mem_append_right _ h))
theorem mX12_wideBy_0_1 : Cond.fieldLink RX12 65 "HissHornModel" "from" "[I" ∈ wsX12_wideBy := (List.mem_cons_of_mem _ (List.mem_append_left _ (List.mem_append_left _ (List.mem_of_getElem? (i := 7) rfl))))
theorem mX12_wideBy_0_2 : Cond.fieldLink RX12 68 "HissHornModel" "to" "[I" ∈ wsX12_wideBy := (List.mem_cons_of_mem _ (List.mem_append_left _ (List.mem_append_left _ (List.mem_of_getElem? (i := 8) rfl))))
theorem mX12_wideBy_0_3 : Cond.fieldLink RX12 301 "HissHornModel" "events" "I" ∈ wsX12_wideBy := (List.mem_cons_of_mem _ (List.mem_append_left _ (List.mem_append_left _ (List.mem_of_getElem? (i := 9) rfl))))
def fX12_wideBy_0 (x1 : Int32) (x2 : Int32) (x3 : Int32) (u : SX) : Option (Int32 × SX) := ((fX12_laySpans_0 x3 u).bind fun q => match q with | (r1, u2) => (gd (inb x2 12) (lt (u2.2.1 16 x2.toNatClampNeg) fun v5 => (gd (inb x2 12) (lt (u2.2.1 17 x2.toNatClampNeg) fun v8 => ((fX12_laySpans_0 (u2.1 13) u2).bind fun q => match q with | (r10, u11) => (gd (inb x2 12) (lt (sA u11 16 (upd (u11.2.1 16) x2.toNatClampNeg v5)) fun u14 => (gd (inb x2 12) (lt (sA u14 17 (upd (u14.2.1 17) x2.toNatClampNeg v8)) fun u17 => ((fX12_wide_0 x1 u17).bind fun q => match q with | (r19, u20) => (some (r19, u20)))))))))))))
set_option maxHeartbeats 4000000 in
set_option maxRecDepth 100000 in
theorem wX12_wideBy_0 {p : Program} {l : Launch} {e : Env} {s : State} {m : MethodId} {args : Array Value} {below : List Frame} {meth : Method} {c : Code} {D : va_G} {cy : Nat → ClassId} {ad st : Nat → Nat} (C : Cx RX12 cX12_wideBy 6 (some .int) wsX12_wideBy p s m args meth c) (hK : Ky D [(cy 0, .int), (cy 1, .long), (cy 2, .boolean), (cy 3, .byte), (cy 4, .object "HissHorn$Text")] st s) (hJ : JM ad st) (x1 : Int32) (x2 : Int32) (x3 : Int32) {u : SX} {r : Int32} {u' : SX} {H : Heap} {locs : List Loc} {ls : Array Slot} (h : fX12_wideBy_0 x1 x2 x3 u = some (r, u')) (hP : va_P D vwCl (VM cy ad st u) H) (hS : va_S (Ax (AM ad) s.heap.size) s.heap H locs) (hl : lv_has ls 6 [(0, .ref (ad 0)), (1, .int x1), (2, .int x2), (3, .int x3)]) : W p l e rmX12_wideBy_0 s m args below meth c H locs 0 0 (MQ below (Qi D (VM cy ad st) (AM ad) s.heap.size r u') args s 0 0 (Ax (AM ad) s.heap.size)) (F0 m 0 ls []) := by
  unfold fX12_wideBy_0 at h
  refine lv_aload_n C.1 C.2.1 dX12_wideBy_0 rfl (lv_at hl 0 rfl) ?_
  refine lv_iload_n C.1 C.2.1 dX12_wideBy_1 rfl (lv_at hl 3 rfl) ?_
  obtain ⟨⟨r1, u2⟩, hc3, h⟩ := bd_some h
  try dsimp only at h
  refine cg_v (As := [.int x3]) (rest := []) (AM_ge hJ) C hK hP hS (metX12_laySpans_0 l D cy ad st hJ _ x3 hc3) (cwV 1 C.2.2.2.2.2.1 gX12_wideBy_X12_laySpans rfl rfl rfl (by decide +kernel) ⟨(Nat.le_of_ble_eq_true rfl), (Nat.le_of_ble_eq_true rfl)⟩) 0 12 rfl rfl rfl hl.1 rfl (Nat.le_of_ble_eq_true rfl) dX12_wideBy_2 ⟨Nat.zero_le _, Nat.zero_le _⟩ (fun H locs hP hS => ?_)
  refine lv_aload_n C.1 C.2.1 dX12_wideBy_5 rfl (lv_at hl 0 rfl) ?_
  refine gM_0_from C hX12_wideBy_0_X12 hK hP mX12_wideBy_0_1 dX12_wideBy_6 ?_
  refine lv_iload_n C.1 C.2.1 dX12_wideBy_9 rfl (lv_at hl 2 rfl) ?_
  obtain ⟨hg4, h⟩ := gd_some h
  refine lM_16 C hK hP hg4 dX12_wideBy_10 ?_
  refine lv_topi (fun v5 hv6 => ?_)
  replace h := lt_e hv6 h
  try dsimp only at h
  refine lv_istore (lv' := [(4, .int v5), (0, .ref (ad 0)), (1, .int x1), (2, .int x2), (3, .int x3)]) C.1 C.2.1 dX12_wideBy_11 hl (by decide) rfl (fun ls hl => ?_)
  replace hl := lv_sub (l' := [(0, .ref (ad 0)), (1, .int x1), (2, .int x2), (3, .int x3), (4, .int v5)]) hl [1, 2, 3, 4, 0] rfl
  refine lv_aload_n C.1 C.2.1 dX12_wideBy_13 rfl (lv_at hl 0 rfl) ?_
  refine gM_0_to C hX12_wideBy_0_X12 hK hP mX12_wideBy_0_2 dX12_wideBy_14 ?_
  refine lv_iload_n C.1 C.2.1 dX12_wideBy_17 rfl (lv_at hl 2 rfl) ?_
  obtain ⟨hg7, h⟩ := gd_some h
  refine lM_17 C hK hP hg7 dX12_wideBy_18 ?_
  refine lv_topi (fun v8 hv9 => ?_)
  replace h := lt_e hv9 h
  try dsimp only at h
  refine lv_istore (lv' := [(5, .int v8), (0, .ref (ad 0)), (1, .int x1), (2, .int x2), (3, .int x3), (4, .int v5)]) C.1 C.2.1 dX12_wideBy_19 hl (by decide) rfl (fun ls hl => ?_)
  replace hl := lv_sub (l' := [(0, .ref (ad 0)), (1, .int x1), (2, .int x2), (3, .int x3), (4, .int v5), (5, .int v8)]) hl [1, 2, 3, 4, 5, 0] rfl
  refine lv_aload_n C.1 C.2.1 dX12_wideBy_21 rfl (lv_at hl 0 rfl) ?_
  refine lv_aload_n C.1 C.2.1 dX12_wideBy_22 rfl (lv_at hl 0 rfl) ?_
  refine gM_0_events C hX12_wideBy_0_X12 hK hP mX12_wideBy_0_3 dX12_wideBy_23 ?_
  obtain ⟨⟨r10, u11⟩, hc12, h⟩ := bd_some h
  try dsimp only at h
  refine cg_v (As := [.int (u2.1 13)]) (rest := []) (AM_ge hJ) C hK hP hS (metX12_laySpans_0 l D cy ad st hJ _ (u2.1 13) hc12) (cwV 1 C.2.2.2.2.2.1 gX12_wideBy_X12_laySpans rfl rfl rfl (by decide +kernel) ⟨(Nat.le_of_ble_eq_true rfl), (Nat.le_of_ble_eq_true rfl)⟩) 0 12 rfl rfl rfl hl.1 rfl (Nat.le_of_ble_eq_true rfl) dX12_wideBy_26 ⟨Nat.zero_le _, Nat.zero_le _⟩ (fun H locs hP hS => ?_)
  refine lv_aload_n C.1 C.2.1 dX12_wideBy_29 rfl (lv_at hl 0 rfl) ?_
  refine gM_0_from C hX12_wideBy_0_X12 hK hP mX12_wideBy_0_1 dX12_wideBy_30 ?_
  refine lv_iload_n C.1 C.2.1 dX12_wideBy_33 rfl (lv_at hl 2 rfl) ?_
  refine lv_iload C.1 C.2.1 dX12_wideBy_34 (lv_at hl 4 rfl) ?_
  obtain ⟨hg13, h⟩ := gd_some h
  refine tM_16 C hK hP hJ hS hg13 dX12_wideBy_36 (fun H locs hP hS => ?_)
  obtain ⟨u14, hu15, h⟩ := lt_some h
  rw [← hu15] at hP
  refine lv_aload_n C.1 C.2.1 dX12_wideBy_37 rfl (lv_at hl 0 rfl) ?_
  refine gM_0_to C hX12_wideBy_0_X12 hK hP mX12_wideBy_0_2 dX12_wideBy_38 ?_
  refine lv_iload_n C.1 C.2.1 dX12_wideBy_41 rfl (lv_at hl 2 rfl) ?_
  refine lv_iload C.1 C.2.1 dX12_wideBy_42 (lv_at hl 5 rfl) ?_
  obtain ⟨hg16, h⟩ := gd_some h
  refine tM_17 C hK hP hJ hS hg16 dX12_wideBy_44 (fun H locs hP hS => ?_)
  obtain ⟨u17, hu18, h⟩ := lt_some h
  rw [← hu18] at hP
  refine lv_aload_n C.1 C.2.1 dX12_wideBy_45 rfl (lv_at hl 0 rfl) ?_
  refine lv_iload_n C.1 C.2.1 dX12_wideBy_46 rfl (lv_at hl 1 rfl) ?_
  obtain ⟨⟨r19, u20⟩, hc21, h⟩ := bd_some h
  try dsimp only at h
  refine cg_i (As := [.int x1]) (rest := []) (AM_ge hJ) C hK hP hS (metX12_wide_0 l D cy ad st hJ _ x1 hc21) (cwV 1 C.2.2.2.2.2.1 gX12_wideBy_X12_wide rfl rfl rfl (by decide +kernel) ⟨(Nat.le_of_ble_eq_true rfl), (Nat.le_of_ble_eq_true rfl)⟩) 0 12 rfl rfl rfl hl.1 rfl (Nat.le_of_ble_eq_true rfl) dX12_wideBy_47 ⟨Nat.zero_le _, Nat.zero_le _⟩ (fun H locs hP hS => ?_)
  cases h
  exact rt_i C hP hS dX12_wideBy_50
theorem metX12_wideBy_0 (l : Launch) (D : va_G) (cy : Nat → ClassId) (ad st : Nat → Nat) (hJ : JM ad st) (sz : Nat) (x1 : Int32) (x2 : Int32) (x3 : Int32) {u : SX} {r : Int32} {u' : SX} (h : fX12_wideBy_0 x1 x2 x3 u = some (r, u')) : Met l yX12_wideBy wsX12_wideBy rmX12_wideBy_0 (va_Pc [.ref (ad 0), .int x1, .int x2, .int x3] (Px D [(cy 0, .int), (cy 1, .long), (cy 2, .boolean), (cy 3, .byte), (cy 4, .object "HissHorn$Text")] st (VM cy ad st) sz u)) (Qi D (VM cy ad st) (AM ad) sz r u') 0 0 (Ax (AM ad) sz) := by
  refine Met.ofW (cc := cX12_wideBy) (maxL := 6) (ret := (some .int)) (by decide) rfl ?_
  intro p e s m args below meth c s₁ B hml hv
  obtain ⟨rfl, hsz, hP, hK⟩ := hv
  subst hsz
  have C : Cx RX12 cX12_wideBy 6 (some .int) wsX12_wideBy p s m _ meth c := ⟨B.exec, B.bytes, hml, B.returns, findClass_of_methodNamed B.named, atoms_spec (ws := wsX12_wideBy) B.pre, B.notSynchronized⟩
  have hl := lv_entry ([.ref (ad 0), .int x1, .int x2, .int x3]) (n := 6) (Nat.le_of_ble_eq_true rfl)
  rw [lg_entry_eq]
  exact wX12_wideBy_0 C hK hJ x1 x2 x3 h hP va_S.rf hl

theorem zdX12_narrows_0 : (and (and (and (and (and (zk cX12_narrows 0 (.aload_n 0) 1) (zk cX12_narrows 1 (.iconst 0) 1)) (and (zk cX12_narrows 2 (.putfield 151) 3) (zk cX12_narrows 5 (.aload_n 0) 1))) (and (and (zk cX12_narrows 6 (.iload_n 1) 1) (zk cX12_narrows 7 (.invokevirtual 404) 3)) (and (zk cX12_narrows 10 (.ifCond .eq 21) 3) (zk cX12_narrows 31 (.ldc_w 330) 3)))) (and (and (and (zk cX12_narrows 34 (.ireturn) 1) (zk cX12_narrows 13 (.aload_n 0) 1)) (and (zk cX12_narrows 14 (.iload_n 2) 1) (zk cX12_narrows 15 (.invokevirtual 358) 3))) (and (and (zk cX12_narrows 18 (.ifCond .eq 13) 3) (zk cX12_narrows 21 (.aload_n 0) 1)) (and (zk cX12_narrows 22 (.getfield 118) 3) (zk cX12_narrows 25 (.iload_n 1) 1))))) (and (and (and (and (zk cX12_narrows 26 (.iaload) 1) (zk cX12_narrows 27 (.iconst (-1)) 1)) (and (zk cX12_narrows 28 (.if_icmp .ne 7) 3) (zk cX12_narrows 35 (.aload_n 0) 1))) (and (and (zk cX12_narrows 36 (.iload_n 2) 1) (zk cX12_narrows 37 (.aload_n 0) 1)) (and (zk cX12_narrows 38 (.getfield 106) 3) (zk cX12_narrows 41 (.iload_n 1) 1)))) (and (and (and (zk cX12_narrows 42 (.iaload) 1) (zk cX12_narrows 43 (.aload_n 0) 1)) (and (zk cX12_narrows 44 (.getfield 118) 3) (zk cX12_narrows 47 (.iload_n 1) 1))) (and (and (zk cX12_narrows 48 (.iaload) 1) (zk cX12_narrows 49 (.invokevirtual 417) 3)) (and (zk cX12_narrows 52 (.aload_n 0) 1) (zk cX12_narrows 53 (.iload_n 2) 1)))))) = true := by decide +kernel
theorem dX12_narrows_0 : decode cX12_narrows 0 = .ok (.aload_n 0, 1) := zk_of (zk_l (zk_l (zk_l (zk_l (zk_l zdX12_narrows_0)))))
theorem dX12_narrows_1 : decode cX12_narrows 1 = .ok (.iconst 0, 1) := zk_of (zk_r (zk_l (zk_l (zk_l (zk_l zdX12_narrows_0)))))
theorem dX12_narrows_2 : decode cX12_narrows 2 = .ok (.putfield 151, 3) := zk_of (zk_l (zk_r (zk_l (zk_l (zk_l zdX12_narrows_0)))))
theorem dX12_narrows_5 : decode cX12_narrows 5 = .ok (.aload_n 0, 1) := zk_of (zk_r (zk_r (zk_l (zk_l (zk_l zdX12_narrows_0)))))
theorem dX12_narrows_6 : decode cX12_narrows 6 = .ok (.iload_n 1, 1) := zk_of (zk_l (zk_l (zk_r (zk_l (zk_l zdX12_narrows_0)))))
theorem dX12_narrows_7 : decode cX12_narrows 7 = .ok (.invokevirtual 404, 3) := zk_of (zk_r (zk_l (zk_r (zk_l (zk_l zdX12_narrows_0)))))
theorem dX12_narrows_10 : decode cX12_narrows 10 = .ok (.ifCond .eq 21, 3) := zk_of (zk_l (zk_r (zk_r (zk_l (zk_l zdX12_narrows_0)))))
theorem dX12_narrows_31 : decode cX12_narrows 31 = .ok (.ldc_w 330, 3) := zk_of (zk_r (zk_r (zk_r (zk_l (zk_l zdX12_narrows_0)))))
theorem dX12_narrows_34 : decode cX12_narrows 34 = .ok (.ireturn, 1) := zk_of (zk_l (zk_l (zk_l (zk_r (zk_l zdX12_narrows_0)))))
theorem dX12_narrows_13 : decode cX12_narrows 13 = .ok (.aload_n 0, 1) := zk_of (zk_r (zk_l (zk_l (zk_r (zk_l zdX12_narrows_0)))))
theorem dX12_narrows_14 : decode cX12_narrows 14 = .ok (.iload_n 2, 1) := zk_of (zk_l (zk_r (zk_l (zk_r (zk_l zdX12_narrows_0)))))
theorem dX12_narrows_15 : decode cX12_narrows 15 = .ok (.invokevirtual 358, 3) := zk_of (zk_r (zk_r (zk_l (zk_r (zk_l zdX12_narrows_0)))))
theorem dX12_narrows_18 : decode cX12_narrows 18 = .ok (.ifCond .eq 13, 3) := zk_of (zk_l (zk_l (zk_r (zk_r (zk_l zdX12_narrows_0)))))
theorem dX12_narrows_21 : decode cX12_narrows 21 = .ok (.aload_n 0, 1) := zk_of (zk_r (zk_l (zk_r (zk_r (zk_l zdX12_narrows_0)))))
theorem dX12_narrows_22 : decode cX12_narrows 22 = .ok (.getfield 118, 3) := zk_of (zk_l (zk_r (zk_r (zk_r (zk_l zdX12_narrows_0)))))
theorem dX12_narrows_25 : decode cX12_narrows 25 = .ok (.iload_n 1, 1) := zk_of (zk_r (zk_r (zk_r (zk_r (zk_l zdX12_narrows_0)))))
theorem dX12_narrows_26 : decode cX12_narrows 26 = .ok (.iaload, 1) := zk_of (zk_l (zk_l (zk_l (zk_l (zk_r zdX12_narrows_0)))))
theorem dX12_narrows_27 : decode cX12_narrows 27 = .ok (.iconst (-1), 1) := zk_of (zk_r (zk_l (zk_l (zk_l (zk_r zdX12_narrows_0)))))
theorem dX12_narrows_28 : decode cX12_narrows 28 = .ok (.if_icmp .ne 7, 3) := zk_of (zk_l (zk_r (zk_l (zk_l (zk_r zdX12_narrows_0)))))
theorem dX12_narrows_35 : decode cX12_narrows 35 = .ok (.aload_n 0, 1) := zk_of (zk_r (zk_r (zk_l (zk_l (zk_r zdX12_narrows_0)))))
theorem dX12_narrows_36 : decode cX12_narrows 36 = .ok (.iload_n 2, 1) := zk_of (zk_l (zk_l (zk_r (zk_l (zk_r zdX12_narrows_0)))))
theorem dX12_narrows_37 : decode cX12_narrows 37 = .ok (.aload_n 0, 1) := zk_of (zk_r (zk_l (zk_r (zk_l (zk_r zdX12_narrows_0)))))
theorem dX12_narrows_38 : decode cX12_narrows 38 = .ok (.getfield 106, 3) := zk_of (zk_l (zk_r (zk_r (zk_l (zk_r zdX12_narrows_0)))))
theorem dX12_narrows_41 : decode cX12_narrows 41 = .ok (.iload_n 1, 1) := zk_of (zk_r (zk_r (zk_r (zk_l (zk_r zdX12_narrows_0)))))
theorem dX12_narrows_42 : decode cX12_narrows 42 = .ok (.iaload, 1) := zk_of (zk_l (zk_l (zk_l (zk_r (zk_r zdX12_narrows_0)))))
theorem dX12_narrows_43 : decode cX12_narrows 43 = .ok (.aload_n 0, 1) := zk_of (zk_r (zk_l (zk_l (zk_r (zk_r zdX12_narrows_0)))))
theorem dX12_narrows_44 : decode cX12_narrows 44 = .ok (.getfield 118, 3) := zk_of (zk_l (zk_r (zk_l (zk_r (zk_r zdX12_narrows_0)))))
theorem dX12_narrows_47 : decode cX12_narrows 47 = .ok (.iload_n 1, 1) := zk_of (zk_r (zk_r (zk_l (zk_r (zk_r zdX12_narrows_0)))))
theorem dX12_narrows_48 : decode cX12_narrows 48 = .ok (.iaload, 1) := zk_of (zk_l (zk_l (zk_r (zk_r (zk_r zdX12_narrows_0)))))
theorem dX12_narrows_49 : decode cX12_narrows 49 = .ok (.invokevirtual 417, 3) := zk_of (zk_r (zk_l (zk_r (zk_r (zk_r zdX12_narrows_0)))))
theorem dX12_narrows_52 : decode cX12_narrows 52 = .ok (.aload_n 0, 1) := zk_of (zk_l (zk_r (zk_r (zk_r (zk_r zdX12_narrows_0)))))
theorem dX12_narrows_53 : decode cX12_narrows 53 = .ok (.iload_n 2, 1) := zk_of (zk_r (zk_r (zk_r (zk_r (zk_r zdX12_narrows_0)))))
set_option maxRecDepth 20000 in
theorem ggX12_narrows_X12_isLook : GoodIn wsX12_narrows wsX12_isLook := ggi (fun w h => List.mem_cons_of_mem _ (List.mem_append_left _ (List.mem_append_right _ (List.mem_append_left _ h)))) gs_X12_isLook
set_option maxRecDepth 20000 in
theorem gX12_narrows_X12_isLook : GoodIn wsX12_narrows (wsV RX12 404 RX12 yX12_isLook wsX12_isLook) := goodIn_app (goodIn_of _ (by decide +kernel)) ggX12_narrows_X12_isLook
set_option maxRecDepth 20000 in
theorem ggX12_narrows_X12_isReading : GoodIn wsX12_narrows wsX12_isReading := ggi (fun w h => List.mem_cons_of_mem _ (List.mem_append_left _ (List.mem_append_right _ (List.mem_append_right _ (List.mem_append_left _ h))))) gs_X12_isReading
set_option maxRecDepth 20000 in
theorem gX12_narrows_X12_isReading : GoodIn wsX12_narrows (wsV RX12 358 RX12 yX12_isReading wsX12_isReading) := goodIn_app (goodIn_of _ (by decide +kernel)) ggX12_narrows_X12_isReading
set_option maxRecDepth 20000 in
theorem ggX12_narrows_X12_wideBy : GoodIn wsX12_narrows wsX12_wideBy := ggi (fun w h => List.mem_cons_of_mem _ (List.mem_append_left _ (List.mem_append_right _ (List.mem_append_right _ (List.mem_append_right _ h))))) gs_X12_wideBy
set_option maxRecDepth 20000 in
theorem gX12_narrows_X12_wideBy : GoodIn wsX12_narrows (wsV RX12 417 RX12 yX12_wideBy wsX12_wideBy) := goodIn_app (goodIn_of _ (by decide +kernel)) ggX12_narrows_X12_wideBy
theorem zdX12_narrows_54 : (and (and (and (and (zk cX12_narrows 54 (.aload_n 0) 1) (zk cX12_narrows 55 (.getfield 106) 3)) (and (zk cX12_narrows 58 (.iload_n 1) 1) (zk cX12_narrows 59 (.iaload) 1))) (and (and (zk cX12_narrows 60 (.aload_n 0) 1) (zk cX12_narrows 61 (.getfield 118) 3)) (zk cX12_narrows 64 (.iload_n 1) 1))) (and (and (and (zk cX12_narrows 65 (.iaload) 1) (zk cX12_narrows 66 (.iconst 1) 1)) (zk cX12_narrows 67 (.iadd) 1)) (and (and (zk cX12_narrows 68 (.invokevirtual 417) 3) (zk cX12_narrows 71 (.isub) 1)) (zk cX12_narrows 72 (.ireturn) 1)))) = true := by decide +kernel
theorem dX12_narrows_54 : decode cX12_narrows 54 = .ok (.aload_n 0, 1) := zk_of (zk_l (zk_l (zk_l (zk_l zdX12_narrows_54))))
theorem dX12_narrows_55 : decode cX12_narrows 55 = .ok (.getfield 106, 3) := zk_of (zk_r (zk_l (zk_l (zk_l zdX12_narrows_54))))
theorem dX12_narrows_58 : decode cX12_narrows 58 = .ok (.iload_n 1, 1) := zk_of (zk_l (zk_r (zk_l (zk_l zdX12_narrows_54))))
theorem dX12_narrows_59 : decode cX12_narrows 59 = .ok (.iaload, 1) := zk_of (zk_r (zk_r (zk_l (zk_l zdX12_narrows_54))))
theorem dX12_narrows_60 : decode cX12_narrows 60 = .ok (.aload_n 0, 1) := zk_of (zk_l (zk_l (zk_r (zk_l zdX12_narrows_54))))
theorem dX12_narrows_61 : decode cX12_narrows 61 = .ok (.getfield 118, 3) := zk_of (zk_r (zk_l (zk_r (zk_l zdX12_narrows_54))))
theorem dX12_narrows_64 : decode cX12_narrows 64 = .ok (.iload_n 1, 1) := zk_of (zk_r (zk_r (zk_l zdX12_narrows_54)))
theorem dX12_narrows_65 : decode cX12_narrows 65 = .ok (.iaload, 1) := zk_of (zk_l (zk_l (zk_l (zk_r zdX12_narrows_54))))
theorem dX12_narrows_66 : decode cX12_narrows 66 = .ok (.iconst 1, 1) := zk_of (zk_r (zk_l (zk_l (zk_r zdX12_narrows_54))))
theorem dX12_narrows_67 : decode cX12_narrows 67 = .ok (.iadd, 1) := zk_of (zk_r (zk_l (zk_r zdX12_narrows_54)))
theorem dX12_narrows_68 : decode cX12_narrows 68 = .ok (.invokevirtual 417, 3) := zk_of (zk_l (zk_l (zk_r (zk_r zdX12_narrows_54))))
theorem dX12_narrows_71 : decode cX12_narrows 71 = .ok (.isub, 1) := zk_of (zk_r (zk_l (zk_r (zk_r zdX12_narrows_54))))
theorem dX12_narrows_72 : decode cX12_narrows 72 = .ok (.ireturn, 1) := zk_of (zk_r (zk_r (zk_r zdX12_narrows_54)))
/-- HissHornModel.narrows(II)I of cell 0 -/
def rmX12_narrows_0 : Room := { frames := 144, cells := 0, slots := 0, locals := 8571 }
theorem hX12_narrows_0_X12 : ∀ w ∈ u_ws RX12 TX12 69, w ∈ wsX12_narrows := fun w h => (List.mem_cons_of_mem _ (List.mem_append_right _ h))
theorem mX12_narrows_0_1 : Cond.fieldLink RX12 151 "HissHornModel" "thrown" "I" ∈ wsX12_narrows := (List.mem_cons_of_mem _ (List.mem_append_left _ (List.mem_append_left _ (List.mem_of_getElem? (i := 10) rfl))))
theorem mX12_narrows_0_2 : Cond.constant RX12 330 (-100000000) ∈ wsX12_narrows := (List.mem_cons_of_mem _ (List.mem_append_left _ (List.mem_append_left _ (List.mem_of_getElem? (i := 11) rfl))))
theorem mX12_narrows_0_3 : Cond.fieldLink RX12 118 "HissHornModel" "lookEvent" "[I" ∈ wsX12_narrows := (List.mem_cons_of_mem _ (List.mem_append_left _ (List.mem_append_left _ (List.mem_of_getElem? (i := 12) rfl))))
theorem mX12_narrows_0_4 : Cond.fieldLink RX12 106 "HissHornModel" "lookPart" "[I" ∈ wsX12_narrows := (List.mem_cons_of_mem _ (List.mem_append_left _ (List.mem_append_left _ (List.mem_of_getElem? (i := 13) rfl))))
def fX12_narrows_0 (x1 : Int32) (x2 : Int32) (u : SX) : Option (Int32 × SX) := (lt (sI u 0 0) fun u1 => ((fX12_isLook_0 x1 u1).bind fun q => match q with | (r3, u4) => (if r3 = 0 then (some ((-100000000), u4)) else ((fX12_isReading_0 x2 u4).bind fun q => match q with | (r6, u7) => (if r6 = 0 then (some ((-100000000), u7)) else (gd (inb x1 10) (if (u7.2.1 33 x1.toNatClampNeg) = (-1) then (some ((-100000000), u7)) else (gd (inb x1 10) (gd (inb x1 10) ((fX12_wideBy_0 x2 (u7.2.1 29 x1.toNatClampNeg) (u7.2.1 33 x1.toNatClampNeg) u7).bind fun q => match q with | (r12, u13) => (gd (inb x1 10) (gd (inb x1 10) ((fX12_wideBy_0 x2 (u13.2.1 29 x1.toNatClampNeg) ((u13.2.1 33 x1.toNatClampNeg) + 1) u13).bind fun q => match q with | (r17, u18) => (some (r12 - r17, u18)))))))))))))))
set_option maxHeartbeats 4000000 in
set_option maxRecDepth 100000 in
theorem wX12_narrows_0 {p : Program} {l : Launch} {e : Env} {s : State} {m : MethodId} {args : Array Value} {below : List Frame} {meth : Method} {c : Code} {D : va_G} {cy : Nat → ClassId} {ad st : Nat → Nat} (C : Cx RX12 cX12_narrows 3 (some .int) wsX12_narrows p s m args meth c) (hK : Ky D [(cy 0, .int), (cy 1, .long), (cy 2, .boolean), (cy 3, .byte), (cy 4, .object "HissHorn$Text")] st s) (hJ : JM ad st) (x1 : Int32) (x2 : Int32) {u : SX} {r : Int32} {u' : SX} {H : Heap} {locs : List Loc} {ls : Array Slot} (h : fX12_narrows_0 x1 x2 u = some (r, u')) (hP : va_P D vwCl (VM cy ad st u) H) (hS : va_S (Ax (AM ad) s.heap.size) s.heap H locs) (hl : lv_has ls 3 [(0, .ref (ad 0)), (1, .int x1), (2, .int x2)]) : W p l e rmX12_narrows_0 s m args below meth c H locs 0 0 (MQ below (Qi D (VM cy ad st) (AM ad) s.heap.size r u') args s 0 0 (Ax (AM ad) s.heap.size)) (F0 m 0 ls []) := by
  unfold fX12_narrows_0 at h
  refine lv_aload_n C.1 C.2.1 dX12_narrows_0 rfl (lv_at hl 0 rfl) ?_
  refine lv_iconst (v := 0) C.1 C.2.1 dX12_narrows_1 (by decide) ?_
  refine pM_0_thrown C hX12_narrows_0_X12 hK hP hJ hS mX12_narrows_0_1 dX12_narrows_2 (fun H locs hP hS => ?_)
  obtain ⟨u1, hu2, h⟩ := lt_some h
  rw [← hu2] at hP
  refine lv_aload_n C.1 C.2.1 dX12_narrows_5 rfl (lv_at hl 0 rfl) ?_
  refine lv_iload_n C.1 C.2.1 dX12_narrows_6 rfl (lv_at hl 1 rfl) ?_
  obtain ⟨⟨r3, u4⟩, hc5, h⟩ := bd_some h
  try dsimp only at h
  refine cg_i (As := [.int x1]) (rest := []) (AM_ge hJ) C hK hP hS (metX12_isLook_0 l D cy ad st hJ _ x1 hc5) (cwV 1 C.2.2.2.2.2.1 gX12_narrows_X12_isLook rfl rfl rfl (by decide +kernel) ⟨(Nat.le_of_ble_eq_true rfl), (Nat.le_of_ble_eq_true rfl)⟩) 0 12 rfl rfl rfl hl.1 rfl (Nat.le_of_ble_eq_true rfl) dX12_narrows_7 ⟨Nat.zero_le _, Nat.zero_le _⟩ (fun H locs hP hS => ?_)
  refine lv_if_eq (tgt := 31) C.1 C.2.1 dX12_narrows_10 (by decide) (fun c10 => ?_) (fun c10 => ?_)
  · rw [if_pos c10] at h
    refine lv_ldcw C.1 C.2.1 C.2.2.2.2.1 (C.2.2.2.2.2.1 _ mX12_narrows_0_2) dX12_narrows_31 ?_
    cases h
    exact rt_i C hP hS dX12_narrows_34
  · rw [if_neg c10] at h
    refine lv_aload_n C.1 C.2.1 dX12_narrows_13 rfl (lv_at hl 0 rfl) ?_
    refine lv_iload_n C.1 C.2.1 dX12_narrows_14 rfl (lv_at hl 2 rfl) ?_
    obtain ⟨⟨r6, u7⟩, hc8, h⟩ := bd_some h
    try dsimp only at h
    refine cg_i (As := [.int x2]) (rest := []) (AM_ge hJ) C hK hP hS (metX12_isReading_0 l D cy ad st hJ _ x2 hc8) (cwV 1 C.2.2.2.2.2.1 gX12_narrows_X12_isReading rfl rfl rfl (by decide +kernel) ⟨(Nat.le_of_ble_eq_true rfl), (Nat.le_of_ble_eq_true rfl)⟩) 0 12 rfl rfl rfl hl.1 rfl (Nat.le_of_ble_eq_true rfl) dX12_narrows_15 ⟨Nat.zero_le _, Nat.zero_le _⟩ (fun H locs hP hS => ?_)
    refine lv_if_eq (tgt := 31) C.1 C.2.1 dX12_narrows_18 (by decide) (fun c18 => ?_) (fun c18 => ?_)
    · rw [if_pos c18] at h
      refine lv_ldcw C.1 C.2.1 C.2.2.2.2.1 (C.2.2.2.2.2.1 _ mX12_narrows_0_2) dX12_narrows_31 ?_
      cases h
      exact rt_i C hP hS dX12_narrows_34
    · rw [if_neg c18] at h
      refine lv_aload_n C.1 C.2.1 dX12_narrows_21 rfl (lv_at hl 0 rfl) ?_
      refine gM_0_lookEvent C hX12_narrows_0_X12 hK hP mX12_narrows_0_3 dX12_narrows_22 ?_
      refine lv_iload_n C.1 C.2.1 dX12_narrows_25 rfl (lv_at hl 1 rfl) ?_
      obtain ⟨hg9, h⟩ := gd_some h
      refine lM_33 C hK hP hg9 dX12_narrows_26 ?_
      refine lv_iconst (v := (-1)) C.1 C.2.1 dX12_narrows_27 (by decide) ?_
      refine lv_icmp_ne (tgt := 35) C.1 C.2.1 dX12_narrows_28 (by decide) (fun c28 => ?_) (fun c28 => ?_)
      · rw [if_neg c28] at h
        refine lv_aload_n C.1 C.2.1 dX12_narrows_35 rfl (lv_at hl 0 rfl) ?_
        refine lv_iload_n C.1 C.2.1 dX12_narrows_36 rfl (lv_at hl 2 rfl) ?_
        refine lv_aload_n C.1 C.2.1 dX12_narrows_37 rfl (lv_at hl 0 rfl) ?_
        refine gM_0_lookPart C hX12_narrows_0_X12 hK hP mX12_narrows_0_4 dX12_narrows_38 ?_
        refine lv_iload_n C.1 C.2.1 dX12_narrows_41 rfl (lv_at hl 1 rfl) ?_
        obtain ⟨hg10, h⟩ := gd_some h
        refine lM_29 C hK hP hg10 dX12_narrows_42 ?_
        refine lv_aload_n C.1 C.2.1 dX12_narrows_43 rfl (lv_at hl 0 rfl) ?_
        refine gM_0_lookEvent C hX12_narrows_0_X12 hK hP mX12_narrows_0_3 dX12_narrows_44 ?_
        refine lv_iload_n C.1 C.2.1 dX12_narrows_47 rfl (lv_at hl 1 rfl) ?_
        obtain ⟨hg11, h⟩ := gd_some h
        refine lM_33 C hK hP hg11 dX12_narrows_48 ?_
        obtain ⟨⟨r12, u13⟩, hc14, h⟩ := bd_some h
        try dsimp only at h
        refine cg_i (As := [.int x2, .int (u7.2.1 29 x1.toNatClampNeg), .int (u7.2.1 33 x1.toNatClampNeg)]) (rest := []) (AM_ge hJ) C hK hP hS (metX12_wideBy_0 l D cy ad st hJ _ x2 (u7.2.1 29 x1.toNatClampNeg) (u7.2.1 33 x1.toNatClampNeg) hc14) (cwV 3 C.2.2.2.2.2.1 gX12_narrows_X12_wideBy rfl rfl rfl (by decide +kernel) ⟨(Nat.le_of_ble_eq_true rfl), (Nat.le_of_ble_eq_true rfl)⟩) 0 12 rfl rfl rfl hl.1 rfl (Nat.le_of_ble_eq_true rfl) dX12_narrows_49 ⟨Nat.zero_le _, Nat.zero_le _⟩ (fun H locs hP hS => ?_)
        refine lv_aload_n C.1 C.2.1 dX12_narrows_52 rfl (lv_at hl 0 rfl) ?_
        refine lv_iload_n C.1 C.2.1 dX12_narrows_53 rfl (lv_at hl 2 rfl) ?_
        refine lv_aload_n C.1 C.2.1 dX12_narrows_54 rfl (lv_at hl 0 rfl) ?_
        refine gM_0_lookPart C hX12_narrows_0_X12 hK hP mX12_narrows_0_4 dX12_narrows_55 ?_
        refine lv_iload_n C.1 C.2.1 dX12_narrows_58 rfl (lv_at hl 1 rfl) ?_
        obtain ⟨hg15, h⟩ := gd_some h
        refine lM_29 C hK hP hg15 dX12_narrows_59 ?_
        refine lv_aload_n C.1 C.2.1 dX12_narrows_60 rfl (lv_at hl 0 rfl) ?_
        refine gM_0_lookEvent C hX12_narrows_0_X12 hK hP mX12_narrows_0_3 dX12_narrows_61 ?_
        refine lv_iload_n C.1 C.2.1 dX12_narrows_64 rfl (lv_at hl 1 rfl) ?_
        obtain ⟨hg16, h⟩ := gd_some h
        refine lM_33 C hK hP hg16 dX12_narrows_65 ?_
        refine lv_iconst (v := 1) C.1 C.2.1 dX12_narrows_66 (by decide) ?_
        refine lv_iadd C.1 C.2.1 dX12_narrows_67 ?_
        obtain ⟨⟨r17, u18⟩, hc19, h⟩ := bd_some h
        try dsimp only at h
        refine cg_i (As := [.int x2, .int (u13.2.1 29 x1.toNatClampNeg), .int ((u13.2.1 33 x1.toNatClampNeg) + 1)]) (rest := [.int r12]) (AM_ge hJ) C hK hP hS (metX12_wideBy_0 l D cy ad st hJ _ x2 (u13.2.1 29 x1.toNatClampNeg) ((u13.2.1 33 x1.toNatClampNeg) + 1) hc19) (cwV 3 C.2.2.2.2.2.1 gX12_narrows_X12_wideBy rfl rfl rfl (by decide +kernel) ⟨(Nat.le_of_ble_eq_true rfl), (Nat.le_of_ble_eq_true rfl)⟩) 0 12 rfl rfl rfl hl.1 rfl (Nat.le_of_ble_eq_true rfl) dX12_narrows_68 ⟨Nat.zero_le _, Nat.zero_le _⟩ (fun H locs hP hS => ?_)
        refine lv_isub C.1 C.2.1 dX12_narrows_71 ?_
        cases h
        exact rt_i C hP hS dX12_narrows_72
      · rw [if_pos c28] at h
        refine lv_ldcw C.1 C.2.1 C.2.2.2.2.1 (C.2.2.2.2.2.1 _ mX12_narrows_0_2) dX12_narrows_31 ?_
        cases h
        exact rt_i C hP hS dX12_narrows_34
theorem metX12_narrows_0 (l : Launch) (D : va_G) (cy : Nat → ClassId) (ad st : Nat → Nat) (hJ : JM ad st) (sz : Nat) (x1 : Int32) (x2 : Int32) {u : SX} {r : Int32} {u' : SX} (h : fX12_narrows_0 x1 x2 u = some (r, u')) : Met l yX12_narrows wsX12_narrows rmX12_narrows_0 (va_Pc [.ref (ad 0), .int x1, .int x2] (Px D [(cy 0, .int), (cy 1, .long), (cy 2, .boolean), (cy 3, .byte), (cy 4, .object "HissHorn$Text")] st (VM cy ad st) sz u)) (Qi D (VM cy ad st) (AM ad) sz r u') 0 0 (Ax (AM ad) sz) := by
  refine Met.ofW (cc := cX12_narrows) (maxL := 3) (ret := (some .int)) (by decide) rfl ?_
  intro p e s m args below meth c s₁ B hml hv
  obtain ⟨rfl, hsz, hP, hK⟩ := hv
  subst hsz
  have C : Cx RX12 cX12_narrows 3 (some .int) wsX12_narrows p s m _ meth c := ⟨B.exec, B.bytes, hml, B.returns, findClass_of_methodNamed B.named, atoms_spec (ws := wsX12_narrows) B.pre, B.notSynchronized⟩
  have hl := lv_entry ([.ref (ad 0), .int x1, .int x2]) (n := 3) (Nat.le_of_ble_eq_true rfl)
  rw [lg_entry_eq]
  exact wX12_narrows_0 C hK hJ x1 x2 h hP va_S.rf hl

theorem zdX12_nothing_128 : (and (and (and (and (and (zk cX12_nothing 128 (.iinc 2 1) 3) (zk cX12_nothing 131 (.goto (-122)) 3)) (and (zk cX12_nothing 126 (.ior) 1) (zk cX12_nothing 127 (.istore_n 1) 1))) (and (and (zk cX12_nothing 125 (.iconst 0) 1) (zk cX12_nothing 9 (.iload_n 2) 1)) (and (zk cX12_nothing 10 (.aload_n 0) 1) (zk cX12_nothing 11 (.getfield 401) 3)))) (and (and (and (zk cX12_nothing 14 (.if_icmp .ge 120) 3) (zk cX12_nothing 134 (.iload_n 1) 1)) (and (zk cX12_nothing 135 (.ireturn) 1) (zk cX12_nothing 17 (.aload_n 0) 1))) (and (and (zk cX12_nothing 18 (.getfield 118) 3) (zk cX12_nothing 21 (.iload_n 2) 1)) (and (zk cX12_nothing 22 (.iaload) 1) (zk cX12_nothing 23 (.iconst (-1)) 1))))) (and (and (and (and (zk cX12_nothing 24 (.if_icmp .ne 6) 3) (zk cX12_nothing 30 (.aload_n 0) 1)) (and (zk cX12_nothing 31 (.aload_n 0) 1) (zk cX12_nothing 32 (.getfield 118) 3))) (and (and (zk cX12_nothing 35 (.iload_n 2) 1) (zk cX12_nothing 36 (.iaload) 1)) (and (zk cX12_nothing 37 (.invokevirtual 304) 3) (zk cX12_nothing 40 (.aload_n 0) 1)))) (and (and (and (zk cX12_nothing 41 (.getfield 65) 3) (zk cX12_nothing 44 (.aload_n 0) 1)) (and (zk cX12_nothing 45 (.getfield 106) 3) (zk cX12_nothing 48 (.iload_n 2) 1))) (and (and (zk cX12_nothing 49 (.iaload) 1) (zk cX12_nothing 50 (.iaload) 1)) (and (zk cX12_nothing 51 (.istore_n 3) 1) (zk cX12_nothing 52 (.aload_n 0) 1)))))) = true := by decide +kernel
theorem dX12_nothing_128 : decode cX12_nothing 128 = .ok (.iinc 2 1, 3) := zk_of (zk_l (zk_l (zk_l (zk_l (zk_l zdX12_nothing_128)))))
theorem dX12_nothing_131 : decode cX12_nothing 131 = .ok (.goto (-122), 3) := zk_of (zk_r (zk_l (zk_l (zk_l (zk_l zdX12_nothing_128)))))
theorem dX12_nothing_126 : decode cX12_nothing 126 = .ok (.ior, 1) := zk_of (zk_l (zk_r (zk_l (zk_l (zk_l zdX12_nothing_128)))))
theorem dX12_nothing_127 : decode cX12_nothing 127 = .ok (.istore_n 1, 1) := zk_of (zk_r (zk_r (zk_l (zk_l (zk_l zdX12_nothing_128)))))
theorem dX12_nothing_125 : decode cX12_nothing 125 = .ok (.iconst 0, 1) := zk_of (zk_l (zk_l (zk_r (zk_l (zk_l zdX12_nothing_128)))))
theorem dX12_nothing_9 : decode cX12_nothing 9 = .ok (.iload_n 2, 1) := zk_of (zk_r (zk_l (zk_r (zk_l (zk_l zdX12_nothing_128)))))
theorem dX12_nothing_10 : decode cX12_nothing 10 = .ok (.aload_n 0, 1) := zk_of (zk_l (zk_r (zk_r (zk_l (zk_l zdX12_nothing_128)))))
theorem dX12_nothing_11 : decode cX12_nothing 11 = .ok (.getfield 401, 3) := zk_of (zk_r (zk_r (zk_r (zk_l (zk_l zdX12_nothing_128)))))
theorem dX12_nothing_14 : decode cX12_nothing 14 = .ok (.if_icmp .ge 120, 3) := zk_of (zk_l (zk_l (zk_l (zk_r (zk_l zdX12_nothing_128)))))
theorem dX12_nothing_134 : decode cX12_nothing 134 = .ok (.iload_n 1, 1) := zk_of (zk_r (zk_l (zk_l (zk_r (zk_l zdX12_nothing_128)))))
theorem dX12_nothing_135 : decode cX12_nothing 135 = .ok (.ireturn, 1) := zk_of (zk_l (zk_r (zk_l (zk_r (zk_l zdX12_nothing_128)))))
theorem dX12_nothing_17 : decode cX12_nothing 17 = .ok (.aload_n 0, 1) := zk_of (zk_r (zk_r (zk_l (zk_r (zk_l zdX12_nothing_128)))))
theorem dX12_nothing_18 : decode cX12_nothing 18 = .ok (.getfield 118, 3) := zk_of (zk_l (zk_l (zk_r (zk_r (zk_l zdX12_nothing_128)))))
theorem dX12_nothing_21 : decode cX12_nothing 21 = .ok (.iload_n 2, 1) := zk_of (zk_r (zk_l (zk_r (zk_r (zk_l zdX12_nothing_128)))))
theorem dX12_nothing_22 : decode cX12_nothing 22 = .ok (.iaload, 1) := zk_of (zk_l (zk_r (zk_r (zk_r (zk_l zdX12_nothing_128)))))
theorem dX12_nothing_23 : decode cX12_nothing 23 = .ok (.iconst (-1), 1) := zk_of (zk_r (zk_r (zk_r (zk_r (zk_l zdX12_nothing_128)))))
theorem dX12_nothing_24 : decode cX12_nothing 24 = .ok (.if_icmp .ne 6, 3) := zk_of (zk_l (zk_l (zk_l (zk_l (zk_r zdX12_nothing_128)))))
theorem dX12_nothing_30 : decode cX12_nothing 30 = .ok (.aload_n 0, 1) := zk_of (zk_r (zk_l (zk_l (zk_l (zk_r zdX12_nothing_128)))))
theorem dX12_nothing_31 : decode cX12_nothing 31 = .ok (.aload_n 0, 1) := zk_of (zk_l (zk_r (zk_l (zk_l (zk_r zdX12_nothing_128)))))
theorem dX12_nothing_32 : decode cX12_nothing 32 = .ok (.getfield 118, 3) := zk_of (zk_r (zk_r (zk_l (zk_l (zk_r zdX12_nothing_128)))))
theorem dX12_nothing_35 : decode cX12_nothing 35 = .ok (.iload_n 2, 1) := zk_of (zk_l (zk_l (zk_r (zk_l (zk_r zdX12_nothing_128)))))
theorem dX12_nothing_36 : decode cX12_nothing 36 = .ok (.iaload, 1) := zk_of (zk_r (zk_l (zk_r (zk_l (zk_r zdX12_nothing_128)))))
theorem dX12_nothing_37 : decode cX12_nothing 37 = .ok (.invokevirtual 304, 3) := zk_of (zk_l (zk_r (zk_r (zk_l (zk_r zdX12_nothing_128)))))
theorem dX12_nothing_40 : decode cX12_nothing 40 = .ok (.aload_n 0, 1) := zk_of (zk_r (zk_r (zk_r (zk_l (zk_r zdX12_nothing_128)))))
theorem dX12_nothing_41 : decode cX12_nothing 41 = .ok (.getfield 65, 3) := zk_of (zk_l (zk_l (zk_l (zk_r (zk_r zdX12_nothing_128)))))
theorem dX12_nothing_44 : decode cX12_nothing 44 = .ok (.aload_n 0, 1) := zk_of (zk_r (zk_l (zk_l (zk_r (zk_r zdX12_nothing_128)))))
theorem dX12_nothing_45 : decode cX12_nothing 45 = .ok (.getfield 106, 3) := zk_of (zk_l (zk_r (zk_l (zk_r (zk_r zdX12_nothing_128)))))
theorem dX12_nothing_48 : decode cX12_nothing 48 = .ok (.iload_n 2, 1) := zk_of (zk_r (zk_r (zk_l (zk_r (zk_r zdX12_nothing_128)))))
theorem dX12_nothing_49 : decode cX12_nothing 49 = .ok (.iaload, 1) := zk_of (zk_l (zk_l (zk_r (zk_r (zk_r zdX12_nothing_128)))))
theorem dX12_nothing_50 : decode cX12_nothing 50 = .ok (.iaload, 1) := zk_of (zk_r (zk_l (zk_r (zk_r (zk_r zdX12_nothing_128)))))
theorem dX12_nothing_51 : decode cX12_nothing 51 = .ok (.istore_n 3, 1) := zk_of (zk_l (zk_r (zk_r (zk_r (zk_r zdX12_nothing_128)))))
theorem dX12_nothing_52 : decode cX12_nothing 52 = .ok (.aload_n 0, 1) := zk_of (zk_r (zk_r (zk_r (zk_r (zk_r zdX12_nothing_128)))))
set_option maxRecDepth 20000 in
theorem ggX12_nothing_X12_laySpans : GoodIn wsX12_nothing wsX12_laySpans := ggi (fun w h => List.mem_cons_of_mem _ (List.mem_append_left _ (List.mem_append_right _ (List.mem_append_left _ h)))) gs_X12_laySpans
set_option maxRecDepth 20000 in
theorem gX12_nothing_X12_laySpans : GoodIn wsX12_nothing (wsV RX12 304 RX12 yX12_laySpans wsX12_laySpans) := goodIn_app (goodIn_of _ (by decide +kernel)) ggX12_nothing_X12_laySpans
theorem zdX12_nothing_53 : (and (and (and (and (and (zk cX12_nothing 53 (.getfield 68) 3) (zk cX12_nothing 56 (.aload_n 0) 1)) (and (zk cX12_nothing 57 (.getfield 106) 3) (zk cX12_nothing 60 (.iload_n 2) 1))) (and (and (zk cX12_nothing 61 (.iaload) 1) (zk cX12_nothing 62 (.iaload) 1)) (and (zk cX12_nothing 63 (.istore 4) 2) (zk cX12_nothing 65 (.aload_n 0) 1)))) (and (and (and (zk cX12_nothing 66 (.aload_n 0) 1) (zk cX12_nothing 67 (.getfield 106) 3)) (and (zk cX12_nothing 70 (.iload_n 2) 1) (zk cX12_nothing 71 (.iaload) 1))) (and (and (zk cX12_nothing 72 (.aload_n 0) 1) (zk cX12_nothing 73 (.getfield 109) 3)) (and (zk cX12_nothing 76 (.iload_n 2) 1) (zk cX12_nothing 77 (.iaload) 1))))) (and (and (and (and (zk cX12_nothing 78 (.aload_n 0) 1) (zk cX12_nothing 79 (.getfield 112) 3)) (and (zk cX12_nothing 82 (.iload_n 2) 1) (zk cX12_nothing 83 (.iaload) 1))) (and (and (zk cX12_nothing 84 (.invokevirtual 297) 3) (zk cX12_nothing 87 (.iload_n 1) 1)) (and (zk cX12_nothing 88 (.aload_n 0) 1) (zk cX12_nothing 89 (.getfield 65) 3)))) (and (and (and (zk cX12_nothing 92 (.aload_n 0) 1) (zk cX12_nothing 93 (.getfield 106) 3)) (and (zk cX12_nothing 96 (.iload_n 2) 1) (zk cX12_nothing 97 (.iaload) 1))) (and (and (zk cX12_nothing 98 (.iaload) 1) (zk cX12_nothing 99 (.iload_n 3) 1)) (and (zk cX12_nothing 100 (.if_icmp .ne 25) 3) (zk cX12_nothing 103 (.aload_n 0) 1)))))) = true := by decide +kernel
theorem dX12_nothing_53 : decode cX12_nothing 53 = .ok (.getfield 68, 3) := zk_of (zk_l (zk_l (zk_l (zk_l (zk_l zdX12_nothing_53)))))
theorem dX12_nothing_56 : decode cX12_nothing 56 = .ok (.aload_n 0, 1) := zk_of (zk_r (zk_l (zk_l (zk_l (zk_l zdX12_nothing_53)))))
theorem dX12_nothing_57 : decode cX12_nothing 57 = .ok (.getfield 106, 3) := zk_of (zk_l (zk_r (zk_l (zk_l (zk_l zdX12_nothing_53)))))
theorem dX12_nothing_60 : decode cX12_nothing 60 = .ok (.iload_n 2, 1) := zk_of (zk_r (zk_r (zk_l (zk_l (zk_l zdX12_nothing_53)))))
theorem dX12_nothing_61 : decode cX12_nothing 61 = .ok (.iaload, 1) := zk_of (zk_l (zk_l (zk_r (zk_l (zk_l zdX12_nothing_53)))))
theorem dX12_nothing_62 : decode cX12_nothing 62 = .ok (.iaload, 1) := zk_of (zk_r (zk_l (zk_r (zk_l (zk_l zdX12_nothing_53)))))
theorem dX12_nothing_63 : decode cX12_nothing 63 = .ok (.istore 4, 2) := zk_of (zk_l (zk_r (zk_r (zk_l (zk_l zdX12_nothing_53)))))
theorem dX12_nothing_65 : decode cX12_nothing 65 = .ok (.aload_n 0, 1) := zk_of (zk_r (zk_r (zk_r (zk_l (zk_l zdX12_nothing_53)))))
theorem dX12_nothing_66 : decode cX12_nothing 66 = .ok (.aload_n 0, 1) := zk_of (zk_l (zk_l (zk_l (zk_r (zk_l zdX12_nothing_53)))))
theorem dX12_nothing_67 : decode cX12_nothing 67 = .ok (.getfield 106, 3) := zk_of (zk_r (zk_l (zk_l (zk_r (zk_l zdX12_nothing_53)))))
theorem dX12_nothing_70 : decode cX12_nothing 70 = .ok (.iload_n 2, 1) := zk_of (zk_l (zk_r (zk_l (zk_r (zk_l zdX12_nothing_53)))))
theorem dX12_nothing_71 : decode cX12_nothing 71 = .ok (.iaload, 1) := zk_of (zk_r (zk_r (zk_l (zk_r (zk_l zdX12_nothing_53)))))
theorem dX12_nothing_72 : decode cX12_nothing 72 = .ok (.aload_n 0, 1) := zk_of (zk_l (zk_l (zk_r (zk_r (zk_l zdX12_nothing_53)))))
theorem dX12_nothing_73 : decode cX12_nothing 73 = .ok (.getfield 109, 3) := zk_of (zk_r (zk_l (zk_r (zk_r (zk_l zdX12_nothing_53)))))
theorem dX12_nothing_76 : decode cX12_nothing 76 = .ok (.iload_n 2, 1) := zk_of (zk_l (zk_r (zk_r (zk_r (zk_l zdX12_nothing_53)))))
theorem dX12_nothing_77 : decode cX12_nothing 77 = .ok (.iaload, 1) := zk_of (zk_r (zk_r (zk_r (zk_r (zk_l zdX12_nothing_53)))))
theorem dX12_nothing_78 : decode cX12_nothing 78 = .ok (.aload_n 0, 1) := zk_of (zk_l (zk_l (zk_l (zk_l (zk_r zdX12_nothing_53)))))
theorem dX12_nothing_79 : decode cX12_nothing 79 = .ok (.getfield 112, 3) := zk_of (zk_r (zk_l (zk_l (zk_l (zk_r zdX12_nothing_53)))))
theorem dX12_nothing_82 : decode cX12_nothing 82 = .ok (.iload_n 2, 1) := zk_of (zk_l (zk_r (zk_l (zk_l (zk_r zdX12_nothing_53)))))
theorem dX12_nothing_83 : decode cX12_nothing 83 = .ok (.iaload, 1) := zk_of (zk_r (zk_r (zk_l (zk_l (zk_r zdX12_nothing_53)))))
theorem dX12_nothing_84 : decode cX12_nothing 84 = .ok (.invokevirtual 297, 3) := zk_of (zk_l (zk_l (zk_r (zk_l (zk_r zdX12_nothing_53)))))
theorem dX12_nothing_87 : decode cX12_nothing 87 = .ok (.iload_n 1, 1) := zk_of (zk_r (zk_l (zk_r (zk_l (zk_r zdX12_nothing_53)))))
theorem dX12_nothing_88 : decode cX12_nothing 88 = .ok (.aload_n 0, 1) := zk_of (zk_l (zk_r (zk_r (zk_l (zk_r zdX12_nothing_53)))))
theorem dX12_nothing_89 : decode cX12_nothing 89 = .ok (.getfield 65, 3) := zk_of (zk_r (zk_r (zk_r (zk_l (zk_r zdX12_nothing_53)))))
theorem dX12_nothing_92 : decode cX12_nothing 92 = .ok (.aload_n 0, 1) := zk_of (zk_l (zk_l (zk_l (zk_r (zk_r zdX12_nothing_53)))))
theorem dX12_nothing_93 : decode cX12_nothing 93 = .ok (.getfield 106, 3) := zk_of (zk_r (zk_l (zk_l (zk_r (zk_r zdX12_nothing_53)))))
theorem dX12_nothing_96 : decode cX12_nothing 96 = .ok (.iload_n 2, 1) := zk_of (zk_l (zk_r (zk_l (zk_r (zk_r zdX12_nothing_53)))))
theorem dX12_nothing_97 : decode cX12_nothing 97 = .ok (.iaload, 1) := zk_of (zk_r (zk_r (zk_l (zk_r (zk_r zdX12_nothing_53)))))
theorem dX12_nothing_98 : decode cX12_nothing 98 = .ok (.iaload, 1) := zk_of (zk_l (zk_l (zk_r (zk_r (zk_r zdX12_nothing_53)))))
theorem dX12_nothing_99 : decode cX12_nothing 99 = .ok (.iload_n 3, 1) := zk_of (zk_r (zk_l (zk_r (zk_r (zk_r zdX12_nothing_53)))))
theorem dX12_nothing_100 : decode cX12_nothing 100 = .ok (.if_icmp .ne 25, 3) := zk_of (zk_l (zk_r (zk_r (zk_r (zk_r zdX12_nothing_53)))))
theorem dX12_nothing_103 : decode cX12_nothing 103 = .ok (.aload_n 0, 1) := zk_of (zk_r (zk_r (zk_r (zk_r (zk_r zdX12_nothing_53)))))
set_option maxRecDepth 20000 in
theorem ggX12_nothing_X12_cutDown : GoodIn wsX12_nothing wsX12_cutDown := ggi (fun w h => List.mem_cons_of_mem _ (List.mem_append_left _ (List.mem_append_right _ (List.mem_append_right _ h)))) gs_X12_cutDown
set_option maxRecDepth 20000 in
theorem gX12_nothing_X12_cutDown : GoodIn wsX12_nothing (wsV RX12 297 RX12 yX12_cutDown wsX12_cutDown) := goodIn_app (goodIn_of _ (by decide +kernel)) ggX12_nothing_X12_cutDown
theorem zdX12_nothing_104 : (and (and (and (and (and (zk cX12_nothing 104 (.getfield 68) 3) (zk cX12_nothing 107 (.aload_n 0) 1)) (zk cX12_nothing 108 (.getfield 106) 3)) (and (zk cX12_nothing 111 (.iload_n 2) 1) (zk cX12_nothing 112 (.iaload) 1))) (and (and (and (zk cX12_nothing 113 (.iaload) 1) (zk cX12_nothing 114 (.iload 4) 2)) (zk cX12_nothing 116 (.if_icmp .ne 9) 3)) (and (zk cX12_nothing 119 (.iconst 1) 1) (zk cX12_nothing 120 (.iload_n 2) 1)))) (and (and (and (and (zk cX12_nothing 121 (.ishl) 1) (zk cX12_nothing 122 (.goto 4) 3)) (zk cX12_nothing 27 (.goto 101) 3)) (and (zk cX12_nothing 0 (.aload_n 0) 1) (zk cX12_nothing 1 (.iconst 0) 1))) (and (and (and (zk cX12_nothing 2 (.putfield 151) 3) (zk cX12_nothing 5 (.iconst 0) 1)) (zk cX12_nothing 6 (.istore_n 1) 1)) (and (zk cX12_nothing 7 (.iconst 0) 1) (zk cX12_nothing 8 (.istore_n 2) 1))))) = true := by decide +kernel
theorem dX12_nothing_104 : decode cX12_nothing 104 = .ok (.getfield 68, 3) := zk_of (zk_l (zk_l (zk_l (zk_l (zk_l zdX12_nothing_104)))))
theorem dX12_nothing_107 : decode cX12_nothing 107 = .ok (.aload_n 0, 1) := zk_of (zk_r (zk_l (zk_l (zk_l (zk_l zdX12_nothing_104)))))
theorem dX12_nothing_108 : decode cX12_nothing 108 = .ok (.getfield 106, 3) := zk_of (zk_r (zk_l (zk_l (zk_l zdX12_nothing_104))))
theorem dX12_nothing_111 : decode cX12_nothing 111 = .ok (.iload_n 2, 1) := zk_of (zk_l (zk_r (zk_l (zk_l zdX12_nothing_104))))
theorem dX12_nothing_112 : decode cX12_nothing 112 = .ok (.iaload, 1) := zk_of (zk_r (zk_r (zk_l (zk_l zdX12_nothing_104))))
theorem dX12_nothing_113 : decode cX12_nothing 113 = .ok (.iaload, 1) := zk_of (zk_l (zk_l (zk_l (zk_r (zk_l zdX12_nothing_104)))))
theorem dX12_nothing_114 : decode cX12_nothing 114 = .ok (.iload 4, 2) := zk_of (zk_r (zk_l (zk_l (zk_r (zk_l zdX12_nothing_104)))))
theorem dX12_nothing_116 : decode cX12_nothing 116 = .ok (.if_icmp .ne 9, 3) := zk_of (zk_r (zk_l (zk_r (zk_l zdX12_nothing_104))))
theorem dX12_nothing_119 : decode cX12_nothing 119 = .ok (.iconst 1, 1) := zk_of (zk_l (zk_r (zk_r (zk_l zdX12_nothing_104))))
theorem dX12_nothing_120 : decode cX12_nothing 120 = .ok (.iload_n 2, 1) := zk_of (zk_r (zk_r (zk_r (zk_l zdX12_nothing_104))))
theorem dX12_nothing_121 : decode cX12_nothing 121 = .ok (.ishl, 1) := zk_of (zk_l (zk_l (zk_l (zk_l (zk_r zdX12_nothing_104)))))
theorem dX12_nothing_122 : decode cX12_nothing 122 = .ok (.goto 4, 3) := zk_of (zk_r (zk_l (zk_l (zk_l (zk_r zdX12_nothing_104)))))
theorem dX12_nothing_27 : decode cX12_nothing 27 = .ok (.goto 101, 3) := zk_of (zk_r (zk_l (zk_l (zk_r zdX12_nothing_104))))
theorem dX12_nothing_0 : decode cX12_nothing 0 = .ok (.aload_n 0, 1) := zk_of (zk_l (zk_r (zk_l (zk_r zdX12_nothing_104))))
theorem dX12_nothing_1 : decode cX12_nothing 1 = .ok (.iconst 0, 1) := zk_of (zk_r (zk_r (zk_l (zk_r zdX12_nothing_104))))
theorem dX12_nothing_2 : decode cX12_nothing 2 = .ok (.putfield 151, 3) := zk_of (zk_l (zk_l (zk_l (zk_r (zk_r zdX12_nothing_104)))))
theorem dX12_nothing_5 : decode cX12_nothing 5 = .ok (.iconst 0, 1) := zk_of (zk_r (zk_l (zk_l (zk_r (zk_r zdX12_nothing_104)))))
theorem dX12_nothing_6 : decode cX12_nothing 6 = .ok (.istore_n 1, 1) := zk_of (zk_r (zk_l (zk_r (zk_r zdX12_nothing_104))))
theorem dX12_nothing_7 : decode cX12_nothing 7 = .ok (.iconst 0, 1) := zk_of (zk_l (zk_r (zk_r (zk_r zdX12_nothing_104))))
theorem dX12_nothing_8 : decode cX12_nothing 8 = .ok (.istore_n 2, 1) := zk_of (zk_r (zk_r (zk_r (zk_r zdX12_nothing_104))))
/-- HissHornModel.nothing()I of cell 0 -/
def rmX12_nothing_0 : Room := { frames := 3, cells := 0, slots := 0, locals := 62 }
theorem hX12_nothing_0_X12 : ∀ w ∈ u_ws RX12 TX12 69, w ∈ wsX12_nothing := fun w h => (List.mem_cons_of_mem _ (List.mem_append_right _ h))
theorem mX12_nothing_0_1 : Cond.fieldLink RX12 151 "HissHornModel" "thrown" "I" ∈ wsX12_nothing := (List.mem_cons_of_mem _ (List.mem_append_left _ (List.mem_append_left _ (List.mem_of_getElem? (i := 7) rfl))))
theorem mX12_nothing_0_2 : Cond.fieldLink RX12 401 "HissHornModel" "looks" "I" ∈ wsX12_nothing := (List.mem_cons_of_mem _ (List.mem_append_left _ (List.mem_append_left _ (List.mem_of_getElem? (i := 8) rfl))))
theorem mX12_nothing_0_3 : Cond.fieldLink RX12 118 "HissHornModel" "lookEvent" "[I" ∈ wsX12_nothing := (List.mem_cons_of_mem _ (List.mem_append_left _ (List.mem_append_left _ (List.mem_of_getElem? (i := 9) rfl))))
theorem mX12_nothing_0_4 : Cond.fieldLink RX12 65 "HissHornModel" "from" "[I" ∈ wsX12_nothing := (List.mem_cons_of_mem _ (List.mem_append_left _ (List.mem_append_left _ (List.mem_of_getElem? (i := 10) rfl))))
theorem mX12_nothing_0_5 : Cond.fieldLink RX12 106 "HissHornModel" "lookPart" "[I" ∈ wsX12_nothing := (List.mem_cons_of_mem _ (List.mem_append_left _ (List.mem_append_left _ (List.mem_of_getElem? (i := 11) rfl))))
theorem mX12_nothing_0_6 : Cond.fieldLink RX12 68 "HissHornModel" "to" "[I" ∈ wsX12_nothing := (List.mem_cons_of_mem _ (List.mem_append_left _ (List.mem_append_left _ (List.mem_of_getElem? (i := 12) rfl))))
theorem mX12_nothing_0_7 : Cond.fieldLink RX12 109 "HissHornModel" "lookFrom" "[I" ∈ wsX12_nothing := (List.mem_cons_of_mem _ (List.mem_append_left _ (List.mem_append_left _ (List.mem_of_getElem? (i := 13) rfl))))
theorem mX12_nothing_0_8 : Cond.fieldLink RX12 112 "HissHornModel" "lookTo" "[I" ∈ wsX12_nothing := (List.mem_cons_of_mem _ (List.mem_append_left _ (List.mem_append_left _ (List.mem_of_getElem? (i := 14) rfl))))
def GX12_nothing_0_128 (k9 : Int32 → Int32 → SX → Option (Int32 × SX)) (z1 : Int32) (z2 : Int32) (u : SX) : Option (Int32 × SX) := (k9 z1 (z2 + 1) u)
def GX12_nothing_0_126 (k9 : Int32 → Int32 → SX → Option (Int32 × SX)) (z2 : Int32) (y0 : Int32) (y1 : Int32) (u : SX) : Option (Int32 × SX) := (lt (y1 ||| y0) fun v24 => (GX12_nothing_0_128 k9 v24 z2 u))
def GX12_nothing_0_125 (k9 : Int32 → Int32 → SX → Option (Int32 × SX)) (z2 : Int32) (y0 : Int32) (u : SX) : Option (Int32 × SX) := (GX12_nothing_0_126 k9 z2 0 y0 u)
def LX12_nothing_0_9  : Nat → Int32 → Int32 → SX → Option (Int32 × SX)
  | 0, _, _, _ => none
  | n + 1, z1, z2, u => (if (u.1 21) ≤ z2 then (some (z1, u)) else (gd (inb z2 10) (if (u.2.1 33 z2.toNatClampNeg) = (-1) then (GX12_nothing_0_128 (LX12_nothing_0_9 n) z1 z2 u) else (gd (inb z2 10) ((fX12_laySpans_0 (u.2.1 33 z2.toNatClampNeg) u).bind fun q => match q with | (r5, u6) => (gd (inb z2 10) (gd (inb (u6.2.1 29 z2.toNatClampNeg) 12) (lt (u6.2.1 16 (u6.2.1 29 z2.toNatClampNeg).toNatClampNeg) fun v10 => (gd (inb z2 10) (gd (inb (u6.2.1 29 z2.toNatClampNeg) 12) (lt (u6.2.1 17 (u6.2.1 29 z2.toNatClampNeg).toNatClampNeg) fun v14 => (gd (inb z2 10) (gd (inb z2 10) (gd (inb z2 10) ((fX12_cutDown_0 (u6.2.1 29 z2.toNatClampNeg) (u6.2.1 30 z2.toNatClampNeg) (u6.2.1 31 z2.toNatClampNeg) u6).bind fun q => match q with | (r19, u20) => (gd (inb z2 10) (gd (inb (u20.2.1 29 z2.toNatClampNeg) 12) (if (u20.2.1 16 (u20.2.1 29 z2.toNatClampNeg).toNatClampNeg) = v10 then (gd (inb z2 10) (gd (inb (u20.2.1 29 z2.toNatClampNeg) 12) (if (u20.2.1 17 (u20.2.1 29 z2.toNatClampNeg).toNatClampNeg) = v14 then (GX12_nothing_0_126 (LX12_nothing_0_9 n) z2 (1 <<< (z2 &&& 31)) z1 u20) else (GX12_nothing_0_125 (LX12_nothing_0_9 n) z2 z1 u20)))) else (GX12_nothing_0_125 (LX12_nothing_0_9 n) z2 z1 u20)))))))))))))))))))
def fX12_nothing_0  (u : SX) : Option (Int32 × SX) := (lt (sI u 0 0) fun u1 => (LX12_nothing_0_9  5000 0 0 u1))
set_option maxHeartbeats 4000000 in
set_option maxRecDepth 100000 in
theorem wGX12_nothing_0_128 {p : Program} {l : Launch} {e : Env} {s : State} {m : MethodId} {args : Array Value} {below : List Frame} {meth : Method} {c : Code} {D : va_G} {cy : Nat → ClassId} {ad st : Nat → Nat} (C : Cx RX12 cX12_nothing 5 (some .int) wsX12_nothing p s m args meth c) (hK : Ky D [(cy 0, .int), (cy 1, .long), (cy 2, .boolean), (cy 3, .byte), (cy 4, .object "HissHorn$Text")] st s) (hJ : JM ad st) {r : Int32} {u' : SX} {k9 : Int32 → Int32 → SX → Option (Int32 × SX)} (hk9 : ∀ (z1 : Int32) (z2 : Int32) (u : SX) (H : Heap) (locs : List Loc) (ls : Array Slot), k9 z1 z2 u = some (r, u') → va_P D vwCl (VM cy ad st u) H → va_S (Ax (AM ad) s.heap.size) s.heap H locs → lv_has ls 5 [(0, .ref (ad 0)), (1, .int z1), (2, .int z2)] → W p l e rmX12_nothing_0 s m args below meth c H locs 0 0 (MQ below (Qi D (VM cy ad st) (AM ad) s.heap.size r u') args s 0 0 (Ax (AM ad) s.heap.size)) (F0 m 9 ls [])) (z1 : Int32) (z2 : Int32) (u : SX) (H : Heap) (locs : List Loc) (ls : Array Slot) (h : GX12_nothing_0_128 k9 z1 z2 u = some (r, u')) (hP : va_P D vwCl (VM cy ad st u) H) (hS : va_S (Ax (AM ad) s.heap.size) s.heap H locs) (hl : lv_has ls 5 [(0, .ref (ad 0)), (1, .int z1), (2, .int z2)]) : W p l e rmX12_nothing_0 s m args below meth c H locs 0 0 (MQ below (Qi D (VM cy ad st) (AM ad) s.heap.size r u') args s 0 0 (Ax (AM ad) s.heap.size)) (F0 m 128 ls []) := by
  unfold GX12_nothing_0_128 at h
  refine lv_iinc (v := z2 + 1) (lv' := [(2, .int (z2 + 1)), (0, .ref (ad 0)), (1, .int z1)]) C.1 C.2.1 dX12_nothing_128 hl (k := 2) rfl rfl (by decide) rfl (fun ls hl => ?_)
  replace hl := lv_sub (l' := [(0, .ref (ad 0)), (1, .int z1), (2, .int (z2 + 1))]) hl [1, 2, 0] rfl
  refine lv_goto (tgt := 9) C.1 C.2.1 dX12_nothing_131 (by decide) ?_
  exact hk9 _ _ _ _ _ _ h hP hS hl
set_option maxHeartbeats 4000000 in
set_option maxRecDepth 100000 in
theorem wGX12_nothing_0_126 {p : Program} {l : Launch} {e : Env} {s : State} {m : MethodId} {args : Array Value} {below : List Frame} {meth : Method} {c : Code} {D : va_G} {cy : Nat → ClassId} {ad st : Nat → Nat} (C : Cx RX12 cX12_nothing 5 (some .int) wsX12_nothing p s m args meth c) (hK : Ky D [(cy 0, .int), (cy 1, .long), (cy 2, .boolean), (cy 3, .byte), (cy 4, .object "HissHorn$Text")] st s) (hJ : JM ad st) {r : Int32} {u' : SX} {k9 : Int32 → Int32 → SX → Option (Int32 × SX)} (hk9 : ∀ (z1 : Int32) (z2 : Int32) (u : SX) (H : Heap) (locs : List Loc) (ls : Array Slot), k9 z1 z2 u = some (r, u') → va_P D vwCl (VM cy ad st u) H → va_S (Ax (AM ad) s.heap.size) s.heap H locs → lv_has ls 5 [(0, .ref (ad 0)), (1, .int z1), (2, .int z2)] → W p l e rmX12_nothing_0 s m args below meth c H locs 0 0 (MQ below (Qi D (VM cy ad st) (AM ad) s.heap.size r u') args s 0 0 (Ax (AM ad) s.heap.size)) (F0 m 9 ls [])) (z2 : Int32) (y0 : Int32) (y1 : Int32) (u : SX) (H : Heap) (locs : List Loc) (ls : Array Slot) (h : GX12_nothing_0_126 k9 z2 y0 y1 u = some (r, u')) (hP : va_P D vwCl (VM cy ad st u) H) (hS : va_S (Ax (AM ad) s.heap.size) s.heap H locs) (hl : lv_has ls 5 [(0, .ref (ad 0)), (2, .int z2)]) : W p l e rmX12_nothing_0 s m args below meth c H locs 0 0 (MQ below (Qi D (VM cy ad st) (AM ad) s.heap.size r u') args s 0 0 (Ax (AM ad) s.heap.size)) (F0 m 126 ls [.int y0, .int y1]) := by
  unfold GX12_nothing_0_126 at h
  refine lv_ior C.1 C.2.1 dX12_nothing_126 ?_
  refine lv_topi (fun v24 hv25 => ?_)
  replace h := lt_e hv25 h
  try dsimp only at h
  refine lv_istore_n (lv' := [(1, .int v24), (0, .ref (ad 0)), (2, .int z2)]) C.1 C.2.1 dX12_nothing_127 rfl hl (by decide) rfl (fun ls hl => ?_)
  replace hl := lv_sub (l' := [(0, .ref (ad 0)), (1, .int v24), (2, .int z2)]) hl [1, 0, 2] rfl
  exact wGX12_nothing_0_128 C hK hJ hk9 _ _ _ _ _ _ h hP hS hl
set_option maxHeartbeats 4000000 in
set_option maxRecDepth 100000 in
theorem wGX12_nothing_0_125 {p : Program} {l : Launch} {e : Env} {s : State} {m : MethodId} {args : Array Value} {below : List Frame} {meth : Method} {c : Code} {D : va_G} {cy : Nat → ClassId} {ad st : Nat → Nat} (C : Cx RX12 cX12_nothing 5 (some .int) wsX12_nothing p s m args meth c) (hK : Ky D [(cy 0, .int), (cy 1, .long), (cy 2, .boolean), (cy 3, .byte), (cy 4, .object "HissHorn$Text")] st s) (hJ : JM ad st) {r : Int32} {u' : SX} {k9 : Int32 → Int32 → SX → Option (Int32 × SX)} (hk9 : ∀ (z1 : Int32) (z2 : Int32) (u : SX) (H : Heap) (locs : List Loc) (ls : Array Slot), k9 z1 z2 u = some (r, u') → va_P D vwCl (VM cy ad st u) H → va_S (Ax (AM ad) s.heap.size) s.heap H locs → lv_has ls 5 [(0, .ref (ad 0)), (1, .int z1), (2, .int z2)] → W p l e rmX12_nothing_0 s m args below meth c H locs 0 0 (MQ below (Qi D (VM cy ad st) (AM ad) s.heap.size r u') args s 0 0 (Ax (AM ad) s.heap.size)) (F0 m 9 ls [])) (z2 : Int32) (y0 : Int32) (u : SX) (H : Heap) (locs : List Loc) (ls : Array Slot) (h : GX12_nothing_0_125 k9 z2 y0 u = some (r, u')) (hP : va_P D vwCl (VM cy ad st u) H) (hS : va_S (Ax (AM ad) s.heap.size) s.heap H locs) (hl : lv_has ls 5 [(0, .ref (ad 0)), (2, .int z2)]) : W p l e rmX12_nothing_0 s m args below meth c H locs 0 0 (MQ below (Qi D (VM cy ad st) (AM ad) s.heap.size r u') args s 0 0 (Ax (AM ad) s.heap.size)) (F0 m 125 ls [.int y0]) := by
  unfold GX12_nothing_0_125 at h
  refine lv_iconst (v := 0) C.1 C.2.1 dX12_nothing_125 (by decide) ?_
  exact wGX12_nothing_0_126 C hK hJ hk9 _ _ _ _ _ _ _ h hP hS hl
set_option maxHeartbeats 4000000 in
set_option maxRecDepth 100000 in
theorem wLX12_nothing_0_9 {p : Program} {l : Launch} {e : Env} {s : State} {m : MethodId} {args : Array Value} {below : List Frame} {meth : Method} {c : Code} {D : va_G} {cy : Nat → ClassId} {ad st : Nat → Nat} (C : Cx RX12 cX12_nothing 5 (some .int) wsX12_nothing p s m args meth c) (hK : Ky D [(cy 0, .int), (cy 1, .long), (cy 2, .boolean), (cy 3, .byte), (cy 4, .object "HissHorn$Text")] st s) (hJ : JM ad st) {r : Int32} {u' : SX}   : ∀ (n : Nat) (z1 : Int32) (z2 : Int32) (u : SX) (H : Heap) (locs : List Loc) (ls : Array Slot), LX12_nothing_0_9  n z1 z2 u = some (r, u') → va_P D vwCl (VM cy ad st u) H → va_S (Ax (AM ad) s.heap.size) s.heap H locs → lv_has ls 5 [(0, .ref (ad 0)), (1, .int z1), (2, .int z2)] → W p l e rmX12_nothing_0 s m args below meth c H locs 0 0 (MQ below (Qi D (VM cy ad st) (AM ad) s.heap.size r u') args s 0 0 (Ax (AM ad) s.heap.size)) (F0 m 9 ls []) := by
  intro n
  induction n with
  | zero =>
    intro z1 z2 u H locs ls h
    exact absurd h (by intro q; cases q)
  | succ n ih =>
    intro z1 z2 u H locs ls h hP hS hl
    rw [LX12_nothing_0_9] at h
    refine lv_iload_n C.1 C.2.1 dX12_nothing_9 rfl (lv_at hl 2 rfl) ?_
    refine lv_aload_n C.1 C.2.1 dX12_nothing_10 rfl (lv_at hl 0 rfl) ?_
    refine gM_0_looks C hX12_nothing_0_X12 hK hP mX12_nothing_0_2 dX12_nothing_11 ?_
    refine lv_icmp_ge (tgt := 134) C.1 C.2.1 dX12_nothing_14 (by decide) (fun c14 => ?_) (fun c14 => ?_)
    · rw [if_pos c14] at h
      refine lv_iload_n C.1 C.2.1 dX12_nothing_134 rfl (lv_at hl 1 rfl) ?_
      cases h
      exact rt_i C hP hS dX12_nothing_135
    · rw [if_neg c14] at h
      refine lv_aload_n C.1 C.2.1 dX12_nothing_17 rfl (lv_at hl 0 rfl) ?_
      refine gM_0_lookEvent C hX12_nothing_0_X12 hK hP mX12_nothing_0_3 dX12_nothing_18 ?_
      refine lv_iload_n C.1 C.2.1 dX12_nothing_21 rfl (lv_at hl 2 rfl) ?_
      obtain ⟨hg3, h⟩ := gd_some h
      refine lM_33 C hK hP hg3 dX12_nothing_22 ?_
      refine lv_iconst (v := (-1)) C.1 C.2.1 dX12_nothing_23 (by decide) ?_
      refine lv_icmp_ne (tgt := 30) C.1 C.2.1 dX12_nothing_24 (by decide) (fun c24 => ?_) (fun c24 => ?_)
      · rw [if_neg c24] at h
        refine lv_aload_n C.1 C.2.1 dX12_nothing_30 rfl (lv_at hl 0 rfl) ?_
        refine lv_aload_n C.1 C.2.1 dX12_nothing_31 rfl (lv_at hl 0 rfl) ?_
        refine gM_0_lookEvent C hX12_nothing_0_X12 hK hP mX12_nothing_0_3 dX12_nothing_32 ?_
        refine lv_iload_n C.1 C.2.1 dX12_nothing_35 rfl (lv_at hl 2 rfl) ?_
        obtain ⟨hg4, h⟩ := gd_some h
        refine lM_33 C hK hP hg4 dX12_nothing_36 ?_
        obtain ⟨⟨r5, u6⟩, hc7, h⟩ := bd_some h
        try dsimp only at h
        refine cg_v (As := [.int (u.2.1 33 z2.toNatClampNeg)]) (rest := []) (AM_ge hJ) C hK hP hS (metX12_laySpans_0 l D cy ad st hJ _ (u.2.1 33 z2.toNatClampNeg) hc7) (cwV 1 C.2.2.2.2.2.1 gX12_nothing_X12_laySpans rfl rfl rfl (by decide +kernel) ⟨(Nat.le_of_ble_eq_true rfl), (Nat.le_of_ble_eq_true rfl)⟩) 0 12 rfl rfl rfl hl.1 rfl (Nat.le_of_ble_eq_true rfl) dX12_nothing_37 ⟨Nat.zero_le _, Nat.zero_le _⟩ (fun H locs hP hS => ?_)
        refine lv_aload_n C.1 C.2.1 dX12_nothing_40 rfl (lv_at hl 0 rfl) ?_
        refine gM_0_from C hX12_nothing_0_X12 hK hP mX12_nothing_0_4 dX12_nothing_41 ?_
        refine lv_aload_n C.1 C.2.1 dX12_nothing_44 rfl (lv_at hl 0 rfl) ?_
        refine gM_0_lookPart C hX12_nothing_0_X12 hK hP mX12_nothing_0_5 dX12_nothing_45 ?_
        refine lv_iload_n C.1 C.2.1 dX12_nothing_48 rfl (lv_at hl 2 rfl) ?_
        obtain ⟨hg8, h⟩ := gd_some h
        refine lM_29 C hK hP hg8 dX12_nothing_49 ?_
        obtain ⟨hg9, h⟩ := gd_some h
        refine lM_16 C hK hP hg9 dX12_nothing_50 ?_
        refine lv_topi (fun v10 hv11 => ?_)
        replace h := lt_e hv11 h
        try dsimp only at h
        refine lv_istore_n (lv' := [(3, .int v10), (0, .ref (ad 0)), (1, .int z1), (2, .int z2)]) C.1 C.2.1 dX12_nothing_51 rfl hl (by decide) rfl (fun ls hl => ?_)
        replace hl := lv_sub (l' := [(0, .ref (ad 0)), (1, .int z1), (2, .int z2), (3, .int v10)]) hl [1, 2, 3, 0] rfl
        refine lv_aload_n C.1 C.2.1 dX12_nothing_52 rfl (lv_at hl 0 rfl) ?_
        refine gM_0_to C hX12_nothing_0_X12 hK hP mX12_nothing_0_6 dX12_nothing_53 ?_
        refine lv_aload_n C.1 C.2.1 dX12_nothing_56 rfl (lv_at hl 0 rfl) ?_
        refine gM_0_lookPart C hX12_nothing_0_X12 hK hP mX12_nothing_0_5 dX12_nothing_57 ?_
        refine lv_iload_n C.1 C.2.1 dX12_nothing_60 rfl (lv_at hl 2 rfl) ?_
        obtain ⟨hg12, h⟩ := gd_some h
        refine lM_29 C hK hP hg12 dX12_nothing_61 ?_
        obtain ⟨hg13, h⟩ := gd_some h
        refine lM_17 C hK hP hg13 dX12_nothing_62 ?_
        refine lv_topi (fun v14 hv15 => ?_)
        replace h := lt_e hv15 h
        try dsimp only at h
        refine lv_istore (lv' := [(4, .int v14), (0, .ref (ad 0)), (1, .int z1), (2, .int z2), (3, .int v10)]) C.1 C.2.1 dX12_nothing_63 hl (by decide) rfl (fun ls hl => ?_)
        replace hl := lv_sub (l' := [(0, .ref (ad 0)), (1, .int z1), (2, .int z2), (3, .int v10), (4, .int v14)]) hl [1, 2, 3, 4, 0] rfl
        refine lv_aload_n C.1 C.2.1 dX12_nothing_65 rfl (lv_at hl 0 rfl) ?_
        refine lv_aload_n C.1 C.2.1 dX12_nothing_66 rfl (lv_at hl 0 rfl) ?_
        refine gM_0_lookPart C hX12_nothing_0_X12 hK hP mX12_nothing_0_5 dX12_nothing_67 ?_
        refine lv_iload_n C.1 C.2.1 dX12_nothing_70 rfl (lv_at hl 2 rfl) ?_
        obtain ⟨hg16, h⟩ := gd_some h
        refine lM_29 C hK hP hg16 dX12_nothing_71 ?_
        refine lv_aload_n C.1 C.2.1 dX12_nothing_72 rfl (lv_at hl 0 rfl) ?_
        refine gM_0_lookFrom C hX12_nothing_0_X12 hK hP mX12_nothing_0_7 dX12_nothing_73 ?_
        refine lv_iload_n C.1 C.2.1 dX12_nothing_76 rfl (lv_at hl 2 rfl) ?_
        obtain ⟨hg17, h⟩ := gd_some h
        refine lM_30 C hK hP hg17 dX12_nothing_77 ?_
        refine lv_aload_n C.1 C.2.1 dX12_nothing_78 rfl (lv_at hl 0 rfl) ?_
        refine gM_0_lookTo C hX12_nothing_0_X12 hK hP mX12_nothing_0_8 dX12_nothing_79 ?_
        refine lv_iload_n C.1 C.2.1 dX12_nothing_82 rfl (lv_at hl 2 rfl) ?_
        obtain ⟨hg18, h⟩ := gd_some h
        refine lM_31 C hK hP hg18 dX12_nothing_83 ?_
        obtain ⟨⟨r19, u20⟩, hc21, h⟩ := bd_some h
        try dsimp only at h
        refine cg_v (As := [.int (u6.2.1 29 z2.toNatClampNeg), .int (u6.2.1 30 z2.toNatClampNeg), .int (u6.2.1 31 z2.toNatClampNeg)]) (rest := []) (AM_ge hJ) C hK hP hS (metX12_cutDown_0 l D cy ad st hJ _ (u6.2.1 29 z2.toNatClampNeg) (u6.2.1 30 z2.toNatClampNeg) (u6.2.1 31 z2.toNatClampNeg) hc21) (cwV 3 C.2.2.2.2.2.1 gX12_nothing_X12_cutDown rfl rfl rfl (by decide +kernel) ⟨(Nat.le_of_ble_eq_true rfl), (Nat.le_of_ble_eq_true rfl)⟩) 0 12 rfl rfl rfl hl.1 rfl (Nat.le_of_ble_eq_true rfl) dX12_nothing_84 ⟨Nat.zero_le _, Nat.zero_le _⟩ (fun H locs hP hS => ?_)
        refine lv_iload_n C.1 C.2.1 dX12_nothing_87 rfl (lv_at hl 1 rfl) ?_
        refine lv_aload_n C.1 C.2.1 dX12_nothing_88 rfl (lv_at hl 0 rfl) ?_
        refine gM_0_from C hX12_nothing_0_X12 hK hP mX12_nothing_0_4 dX12_nothing_89 ?_
        refine lv_aload_n C.1 C.2.1 dX12_nothing_92 rfl (lv_at hl 0 rfl) ?_
        refine gM_0_lookPart C hX12_nothing_0_X12 hK hP mX12_nothing_0_5 dX12_nothing_93 ?_
        refine lv_iload_n C.1 C.2.1 dX12_nothing_96 rfl (lv_at hl 2 rfl) ?_
        obtain ⟨hg22, h⟩ := gd_some h
        refine lM_29 C hK hP hg22 dX12_nothing_97 ?_
        obtain ⟨hg23, h⟩ := gd_some h
        refine lM_16 C hK hP hg23 dX12_nothing_98 ?_
        refine lv_iload_n C.1 C.2.1 dX12_nothing_99 rfl (lv_at hl 3 rfl) ?_
        refine lv_icmp_ne (tgt := 125) C.1 C.2.1 dX12_nothing_100 (by decide) (fun c100 => ?_) (fun c100 => ?_)
        · rw [if_neg c100] at h
          exact wGX12_nothing_0_125 C hK hJ ih _ _ _ _ _ _ h hP hS (lv_sub hl [0, 2] rfl)
        · rw [if_pos c100] at h
          refine lv_aload_n C.1 C.2.1 dX12_nothing_103 rfl (lv_at hl 0 rfl) ?_
          refine gM_0_to C hX12_nothing_0_X12 hK hP mX12_nothing_0_6 dX12_nothing_104 ?_
          refine lv_aload_n C.1 C.2.1 dX12_nothing_107 rfl (lv_at hl 0 rfl) ?_
          refine gM_0_lookPart C hX12_nothing_0_X12 hK hP mX12_nothing_0_5 dX12_nothing_108 ?_
          refine lv_iload_n C.1 C.2.1 dX12_nothing_111 rfl (lv_at hl 2 rfl) ?_
          obtain ⟨hg26, h⟩ := gd_some h
          refine lM_29 C hK hP hg26 dX12_nothing_112 ?_
          obtain ⟨hg27, h⟩ := gd_some h
          refine lM_17 C hK hP hg27 dX12_nothing_113 ?_
          refine lv_iload C.1 C.2.1 dX12_nothing_114 (lv_at hl 4 rfl) ?_
          refine lv_icmp_ne (tgt := 125) C.1 C.2.1 dX12_nothing_116 (by decide) (fun c116 => ?_) (fun c116 => ?_)
          · rw [if_neg c116] at h
            exact wGX12_nothing_0_125 C hK hJ ih _ _ _ _ _ _ h hP hS (lv_sub hl [0, 2] rfl)
          · rw [if_pos c116] at h
            refine lv_iconst (v := 1) C.1 C.2.1 dX12_nothing_119 (by decide) ?_
            refine lv_iload_n C.1 C.2.1 dX12_nothing_120 rfl (lv_at hl 2 rfl) ?_
            refine lv_ishl C.1 C.2.1 dX12_nothing_121 ?_
            refine lv_goto (tgt := 126) C.1 C.2.1 dX12_nothing_122 (by decide) ?_
            exact wGX12_nothing_0_126 C hK hJ ih _ _ _ _ _ _ _ h hP hS (lv_sub hl [0, 2] rfl)
      · rw [if_pos c24] at h
        refine lv_goto (tgt := 128) C.1 C.2.1 dX12_nothing_27 (by decide) ?_
        exact wGX12_nothing_0_128 C hK hJ ih _ _ _ _ _ _ h hP hS hl
set_option maxHeartbeats 4000000 in
set_option maxRecDepth 100000 in
theorem wX12_nothing_0 {p : Program} {l : Launch} {e : Env} {s : State} {m : MethodId} {args : Array Value} {below : List Frame} {meth : Method} {c : Code} {D : va_G} {cy : Nat → ClassId} {ad st : Nat → Nat} (C : Cx RX12 cX12_nothing 5 (some .int) wsX12_nothing p s m args meth c) (hK : Ky D [(cy 0, .int), (cy 1, .long), (cy 2, .boolean), (cy 3, .byte), (cy 4, .object "HissHorn$Text")] st s) (hJ : JM ad st)  {u : SX} {r : Int32} {u' : SX} {H : Heap} {locs : List Loc} {ls : Array Slot} (h : fX12_nothing_0  u = some (r, u')) (hP : va_P D vwCl (VM cy ad st u) H) (hS : va_S (Ax (AM ad) s.heap.size) s.heap H locs) (hl : lv_has ls 5 [(0, .ref (ad 0))]) : W p l e rmX12_nothing_0 s m args below meth c H locs 0 0 (MQ below (Qi D (VM cy ad st) (AM ad) s.heap.size r u') args s 0 0 (Ax (AM ad) s.heap.size)) (F0 m 0 ls []) := by
  unfold fX12_nothing_0 at h
  refine lv_aload_n C.1 C.2.1 dX12_nothing_0 rfl (lv_at hl 0 rfl) ?_
  refine lv_iconst (v := 0) C.1 C.2.1 dX12_nothing_1 (by decide) ?_
  refine pM_0_thrown C hX12_nothing_0_X12 hK hP hJ hS mX12_nothing_0_1 dX12_nothing_2 (fun H locs hP hS => ?_)
  obtain ⟨u1, hu2, h⟩ := lt_some h
  rw [← hu2] at hP
  refine lv_iconst (v := 0) C.1 C.2.1 dX12_nothing_5 (by decide) ?_
  refine lv_istore_n (lv' := [(1, .int 0), (0, .ref (ad 0))]) C.1 C.2.1 dX12_nothing_6 rfl hl (by decide) rfl (fun ls hl => ?_)
  replace hl := lv_sub (l' := [(0, .ref (ad 0)), (1, .int 0)]) hl [1, 0] rfl
  refine lv_iconst (v := 0) C.1 C.2.1 dX12_nothing_7 (by decide) ?_
  refine lv_istore_n (lv' := [(2, .int 0), (0, .ref (ad 0)), (1, .int 0)]) C.1 C.2.1 dX12_nothing_8 rfl hl (by decide) rfl (fun ls hl => ?_)
  replace hl := lv_sub (l' := [(0, .ref (ad 0)), (1, .int 0), (2, .int 0)]) hl [1, 2, 0] rfl
  exact wLX12_nothing_0_9 C hK hJ  5000 _ _ _ _ _ _ h hP hS hl
theorem metX12_nothing_0 (l : Launch) (D : va_G) (cy : Nat → ClassId) (ad st : Nat → Nat) (hJ : JM ad st) (sz : Nat)  {u : SX} {r : Int32} {u' : SX} (h : fX12_nothing_0  u = some (r, u')) : Met l yX12_nothing wsX12_nothing rmX12_nothing_0 (va_Pc [.ref (ad 0)] (Px D [(cy 0, .int), (cy 1, .long), (cy 2, .boolean), (cy 3, .byte), (cy 4, .object "HissHorn$Text")] st (VM cy ad st) sz u)) (Qi D (VM cy ad st) (AM ad) sz r u') 0 0 (Ax (AM ad) sz) := by
  refine Met.ofW (cc := cX12_nothing) (maxL := 5) (ret := (some .int)) (by decide) rfl ?_
  intro p e s m args below meth c s₁ B hml hv
  obtain ⟨rfl, hsz, hP, hK⟩ := hv
  subst hsz
  have C : Cx RX12 cX12_nothing 5 (some .int) wsX12_nothing p s m _ meth c := ⟨B.exec, B.bytes, hml, B.returns, findClass_of_methodNamed B.named, atoms_spec (ws := wsX12_nothing) B.pre, B.notSynchronized⟩
  have hl := lv_entry ([.ref (ad 0)]) (n := 5) (Nat.le_of_ble_eq_true rfl)
  rw [lg_entry_eq]
  exact wX12_nothing_0 C hK hJ h hP va_S.rf hl

theorem zdX12_judged_49 : (and (and (and (and (and (zk cX12_judged 49 (.iinc 3 1) 3) (zk cX12_judged 52 (.goto (-42)) 3)) (and (zk cX12_judged 10 (.iload_n 3) 1) (zk cX12_judged 11 (.aload_n 0) 1))) (and (and (zk cX12_judged 12 (.getfield 401) 3) (zk cX12_judged 15 (.if_icmp .ge 40) 3)) (and (zk cX12_judged 18 (.iload_n 1) 1) (zk cX12_judged 19 (.iload_n 3) 1)))) (and (and (and (zk cX12_judged 20 (.ishr) 1) (zk cX12_judged 21 (.iconst 1) 1)) (and (zk cX12_judged 22 (.iand) 1) (zk cX12_judged 23 (.iconst 1) 1))) (and (and (zk cX12_judged 24 (.if_icmp .ne 25) 3) (zk cX12_judged 27 (.aload_n 0) 1)) (and (zk cX12_judged 28 (.aload_n 0) 1) (zk cX12_judged 29 (.getfield 106) 3))))) (and (and (and (and (zk cX12_judged 32 (.iload_n 3) 1) (zk cX12_judged 33 (.iaload) 1)) (and (zk cX12_judged 34 (.aload_n 0) 1) (zk cX12_judged 35 (.getfield 109) 3))) (and (and (zk cX12_judged 38 (.iload_n 3) 1) (zk cX12_judged 39 (.iaload) 1)) (and (zk cX12_judged 40 (.aload_n 0) 1) (zk cX12_judged 41 (.getfield 112) 3)))) (and (and (and (zk cX12_judged 44 (.iload_n 3) 1) (zk cX12_judged 45 (.iaload) 1)) (and (zk cX12_judged 46 (.invokevirtual 297) 3) (zk cX12_judged 55 (.aload_n 0) 1))) (and (and (zk cX12_judged 56 (.iload_n 2) 1) (zk cX12_judged 57 (.invokevirtual 414) 3)) (and (zk cX12_judged 60 (.ireturn) 1) (zk cX12_judged 0 (.aload_n 0) 1)))))) = true := by decide +kernel
theorem dX12_judged_49 : decode cX12_judged 49 = .ok (.iinc 3 1, 3) := zk_of (zk_l (zk_l (zk_l (zk_l (zk_l zdX12_judged_49)))))
theorem dX12_judged_52 : decode cX12_judged 52 = .ok (.goto (-42), 3) := zk_of (zk_r (zk_l (zk_l (zk_l (zk_l zdX12_judged_49)))))
theorem dX12_judged_10 : decode cX12_judged 10 = .ok (.iload_n 3, 1) := zk_of (zk_l (zk_r (zk_l (zk_l (zk_l zdX12_judged_49)))))
theorem dX12_judged_11 : decode cX12_judged 11 = .ok (.aload_n 0, 1) := zk_of (zk_r (zk_r (zk_l (zk_l (zk_l zdX12_judged_49)))))
theorem dX12_judged_12 : decode cX12_judged 12 = .ok (.getfield 401, 3) := zk_of (zk_l (zk_l (zk_r (zk_l (zk_l zdX12_judged_49)))))
theorem dX12_judged_15 : decode cX12_judged 15 = .ok (.if_icmp .ge 40, 3) := zk_of (zk_r (zk_l (zk_r (zk_l (zk_l zdX12_judged_49)))))
theorem dX12_judged_18 : decode cX12_judged 18 = .ok (.iload_n 1, 1) := zk_of (zk_l (zk_r (zk_r (zk_l (zk_l zdX12_judged_49)))))
theorem dX12_judged_19 : decode cX12_judged 19 = .ok (.iload_n 3, 1) := zk_of (zk_r (zk_r (zk_r (zk_l (zk_l zdX12_judged_49)))))
theorem dX12_judged_20 : decode cX12_judged 20 = .ok (.ishr, 1) := zk_of (zk_l (zk_l (zk_l (zk_r (zk_l zdX12_judged_49)))))
theorem dX12_judged_21 : decode cX12_judged 21 = .ok (.iconst 1, 1) := zk_of (zk_r (zk_l (zk_l (zk_r (zk_l zdX12_judged_49)))))
theorem dX12_judged_22 : decode cX12_judged 22 = .ok (.iand, 1) := zk_of (zk_l (zk_r (zk_l (zk_r (zk_l zdX12_judged_49)))))
theorem dX12_judged_23 : decode cX12_judged 23 = .ok (.iconst 1, 1) := zk_of (zk_r (zk_r (zk_l (zk_r (zk_l zdX12_judged_49)))))
theorem dX12_judged_24 : decode cX12_judged 24 = .ok (.if_icmp .ne 25, 3) := zk_of (zk_l (zk_l (zk_r (zk_r (zk_l zdX12_judged_49)))))
theorem dX12_judged_27 : decode cX12_judged 27 = .ok (.aload_n 0, 1) := zk_of (zk_r (zk_l (zk_r (zk_r (zk_l zdX12_judged_49)))))
theorem dX12_judged_28 : decode cX12_judged 28 = .ok (.aload_n 0, 1) := zk_of (zk_l (zk_r (zk_r (zk_r (zk_l zdX12_judged_49)))))
theorem dX12_judged_29 : decode cX12_judged 29 = .ok (.getfield 106, 3) := zk_of (zk_r (zk_r (zk_r (zk_r (zk_l zdX12_judged_49)))))
theorem dX12_judged_32 : decode cX12_judged 32 = .ok (.iload_n 3, 1) := zk_of (zk_l (zk_l (zk_l (zk_l (zk_r zdX12_judged_49)))))
theorem dX12_judged_33 : decode cX12_judged 33 = .ok (.iaload, 1) := zk_of (zk_r (zk_l (zk_l (zk_l (zk_r zdX12_judged_49)))))
theorem dX12_judged_34 : decode cX12_judged 34 = .ok (.aload_n 0, 1) := zk_of (zk_l (zk_r (zk_l (zk_l (zk_r zdX12_judged_49)))))
theorem dX12_judged_35 : decode cX12_judged 35 = .ok (.getfield 109, 3) := zk_of (zk_r (zk_r (zk_l (zk_l (zk_r zdX12_judged_49)))))
theorem dX12_judged_38 : decode cX12_judged 38 = .ok (.iload_n 3, 1) := zk_of (zk_l (zk_l (zk_r (zk_l (zk_r zdX12_judged_49)))))
theorem dX12_judged_39 : decode cX12_judged 39 = .ok (.iaload, 1) := zk_of (zk_r (zk_l (zk_r (zk_l (zk_r zdX12_judged_49)))))
theorem dX12_judged_40 : decode cX12_judged 40 = .ok (.aload_n 0, 1) := zk_of (zk_l (zk_r (zk_r (zk_l (zk_r zdX12_judged_49)))))
theorem dX12_judged_41 : decode cX12_judged 41 = .ok (.getfield 112, 3) := zk_of (zk_r (zk_r (zk_r (zk_l (zk_r zdX12_judged_49)))))
theorem dX12_judged_44 : decode cX12_judged 44 = .ok (.iload_n 3, 1) := zk_of (zk_l (zk_l (zk_l (zk_r (zk_r zdX12_judged_49)))))
theorem dX12_judged_45 : decode cX12_judged 45 = .ok (.iaload, 1) := zk_of (zk_r (zk_l (zk_l (zk_r (zk_r zdX12_judged_49)))))
theorem dX12_judged_46 : decode cX12_judged 46 = .ok (.invokevirtual 297, 3) := zk_of (zk_l (zk_r (zk_l (zk_r (zk_r zdX12_judged_49)))))
theorem dX12_judged_55 : decode cX12_judged 55 = .ok (.aload_n 0, 1) := zk_of (zk_r (zk_r (zk_l (zk_r (zk_r zdX12_judged_49)))))
theorem dX12_judged_56 : decode cX12_judged 56 = .ok (.iload_n 2, 1) := zk_of (zk_l (zk_l (zk_r (zk_r (zk_r zdX12_judged_49)))))
theorem dX12_judged_57 : decode cX12_judged 57 = .ok (.invokevirtual 414, 3) := zk_of (zk_r (zk_l (zk_r (zk_r (zk_r zdX12_judged_49)))))
theorem dX12_judged_60 : decode cX12_judged 60 = .ok (.ireturn, 1) := zk_of (zk_l (zk_r (zk_r (zk_r (zk_r zdX12_judged_49)))))
theorem dX12_judged_0 : decode cX12_judged 0 = .ok (.aload_n 0, 1) := zk_of (zk_r (zk_r (zk_r (zk_r (zk_r zdX12_judged_49)))))
set_option maxRecDepth 20000 in
theorem ggX12_judged_X12_cutDown : GoodIn wsX12_judged wsX12_cutDown := ggi (fun w h => List.mem_cons_of_mem _ (List.mem_append_left _ (List.mem_append_right _ (List.mem_append_left _ h)))) gs_X12_cutDown
set_option maxRecDepth 20000 in
theorem gX12_judged_X12_cutDown : GoodIn wsX12_judged (wsV RX12 297 RX12 yX12_cutDown wsX12_cutDown) := goodIn_app (goodIn_of _ (by decide +kernel)) ggX12_judged_X12_cutDown
set_option maxRecDepth 20000 in
theorem ggX12_judged_X12_wide : GoodIn wsX12_judged wsX12_wide := ggi (fun w h => List.mem_cons_of_mem _ (List.mem_append_left _ (List.mem_append_right _ (List.mem_append_right _ (List.mem_append_left _ h))))) gs_X12_wide
set_option maxRecDepth 20000 in
theorem gX12_judged_X12_wide : GoodIn wsX12_judged (wsV RX12 414 RX12 yX12_wide wsX12_wide) := goodIn_app (goodIn_of _ (by decide +kernel)) ggX12_judged_X12_wide
theorem zdX12_judged_1 : (and (and (and (zk cX12_judged 1 (.aload_n 0) 1) (zk cX12_judged 2 (.getfield 301) 3)) (zk cX12_judged 5 (.invokevirtual 304) 3)) (and (zk cX12_judged 8 (.iconst 0) 1) (zk cX12_judged 9 (.istore_n 3) 1))) = true := by decide +kernel
theorem dX12_judged_1 : decode cX12_judged 1 = .ok (.aload_n 0, 1) := zk_of (zk_l (zk_l (zk_l zdX12_judged_1)))
theorem dX12_judged_2 : decode cX12_judged 2 = .ok (.getfield 301, 3) := zk_of (zk_r (zk_l (zk_l zdX12_judged_1)))
theorem dX12_judged_5 : decode cX12_judged 5 = .ok (.invokevirtual 304, 3) := zk_of (zk_r (zk_l zdX12_judged_1))
theorem dX12_judged_8 : decode cX12_judged 8 = .ok (.iconst 0, 1) := zk_of (zk_l (zk_r zdX12_judged_1))
theorem dX12_judged_9 : decode cX12_judged 9 = .ok (.istore_n 3, 1) := zk_of (zk_r (zk_r zdX12_judged_1))
set_option maxRecDepth 20000 in
theorem ggX12_judged_X12_laySpans : GoodIn wsX12_judged wsX12_laySpans := ggi (fun w h => List.mem_cons_of_mem _ (List.mem_append_left _ (List.mem_append_right _ (List.mem_append_right _ (List.mem_append_right _ h))))) gs_X12_laySpans
set_option maxRecDepth 20000 in
theorem gX12_judged_X12_laySpans : GoodIn wsX12_judged (wsV RX12 304 RX12 yX12_laySpans wsX12_laySpans) := goodIn_app (goodIn_of _ (by decide +kernel)) ggX12_judged_X12_laySpans
/-- HissHornModel.judged(II)I of cell 0 -/
def rmX12_judged_0 : Room := { frames := 143, cells := 0, slots := 0, locals := 8546 }
theorem hX12_judged_0_X12 : ∀ w ∈ u_ws RX12 TX12 69, w ∈ wsX12_judged := fun w h => (List.mem_cons_of_mem _ (List.mem_append_right _ h))
theorem mX12_judged_0_1 : Cond.fieldLink RX12 301 "HissHornModel" "events" "I" ∈ wsX12_judged := (List.mem_cons_of_mem _ (List.mem_append_left _ (List.mem_append_left _ (List.mem_of_getElem? (i := 10) rfl))))
theorem mX12_judged_0_2 : Cond.fieldLink RX12 401 "HissHornModel" "looks" "I" ∈ wsX12_judged := (List.mem_cons_of_mem _ (List.mem_append_left _ (List.mem_append_left _ (List.mem_of_getElem? (i := 11) rfl))))
def GX12_judged_0_49 (k10 : Int32 → Int32 → Int32 → SX → Option (Int32 × SX)) (z1 : Int32) (z2 : Int32) (z3 : Int32) (u : SX) : Option (Int32 × SX) := (k10 z1 z2 (z3 + 1) u)
theorem mX12_judged_0_3 : Cond.fieldLink RX12 106 "HissHornModel" "lookPart" "[I" ∈ wsX12_judged := (List.mem_cons_of_mem _ (List.mem_append_left _ (List.mem_append_left _ (List.mem_of_getElem? (i := 12) rfl))))
theorem mX12_judged_0_4 : Cond.fieldLink RX12 109 "HissHornModel" "lookFrom" "[I" ∈ wsX12_judged := (List.mem_cons_of_mem _ (List.mem_append_left _ (List.mem_append_left _ (List.mem_of_getElem? (i := 13) rfl))))
theorem mX12_judged_0_5 : Cond.fieldLink RX12 112 "HissHornModel" "lookTo" "[I" ∈ wsX12_judged := (List.mem_cons_of_mem _ (List.mem_append_left _ (List.mem_append_left _ (List.mem_of_getElem? (i := 14) rfl))))
def LX12_judged_0_10 (k55 : Int32 → SX → Option (Int32 × SX)) : Nat → Int32 → Int32 → Int32 → SX → Option (Int32 × SX)
  | 0, _, _, _, _ => none
  | n + 1, z1, z2, z3, u => (if (u.1 21) ≤ z3 then (k55 z2 u) else (if ((z1 >>> (z3 &&& 31)) &&& 1) = 1 then (gd (inb z3 10) (gd (inb z3 10) (gd (inb z3 10) ((fX12_cutDown_0 (u.2.1 29 z3.toNatClampNeg) (u.2.1 30 z3.toNatClampNeg) (u.2.1 31 z3.toNatClampNeg) u).bind fun q => match q with | (r7, u8) => (GX12_judged_0_49 (LX12_judged_0_10 k55 n) z1 z2 z3 u8))))) else (GX12_judged_0_49 (LX12_judged_0_10 k55 n) z1 z2 z3 u)))
def GX12_judged_0_55 (z2 : Int32) (u : SX) : Option (Int32 × SX) := ((fX12_wide_0 z2 u).bind fun q => match q with | (r10, u11) => (some (r10, u11)))
def fX12_judged_0 (x1 : Int32) (x2 : Int32) (u : SX) : Option (Int32 × SX) := ((fX12_laySpans_0 (u.1 13) u).bind fun q => match q with | (r1, u2) => (LX12_judged_0_10 GX12_judged_0_55 5000 x1 x2 0 u2))
set_option maxHeartbeats 4000000 in
set_option maxRecDepth 100000 in
theorem wGX12_judged_0_49 {p : Program} {l : Launch} {e : Env} {s : State} {m : MethodId} {args : Array Value} {below : List Frame} {meth : Method} {c : Code} {D : va_G} {cy : Nat → ClassId} {ad st : Nat → Nat} (C : Cx RX12 cX12_judged 4 (some .int) wsX12_judged p s m args meth c) (hK : Ky D [(cy 0, .int), (cy 1, .long), (cy 2, .boolean), (cy 3, .byte), (cy 4, .object "HissHorn$Text")] st s) (hJ : JM ad st) {r : Int32} {u' : SX} {k10 : Int32 → Int32 → Int32 → SX → Option (Int32 × SX)} (hk10 : ∀ (z1 : Int32) (z2 : Int32) (z3 : Int32) (u : SX) (H : Heap) (locs : List Loc) (ls : Array Slot), k10 z1 z2 z3 u = some (r, u') → va_P D vwCl (VM cy ad st u) H → va_S (Ax (AM ad) s.heap.size) s.heap H locs → lv_has ls 4 [(0, .ref (ad 0)), (1, .int z1), (2, .int z2), (3, .int z3)] → W p l e rmX12_judged_0 s m args below meth c H locs 0 0 (MQ below (Qi D (VM cy ad st) (AM ad) s.heap.size r u') args s 0 0 (Ax (AM ad) s.heap.size)) (F0 m 10 ls [])) (z1 : Int32) (z2 : Int32) (z3 : Int32) (u : SX) (H : Heap) (locs : List Loc) (ls : Array Slot) (h : GX12_judged_0_49 k10 z1 z2 z3 u = some (r, u')) (hP : va_P D vwCl (VM cy ad st u) H) (hS : va_S (Ax (AM ad) s.heap.size) s.heap H locs) (hl : lv_has ls 4 [(0, .ref (ad 0)), (1, .int z1), (2, .int z2), (3, .int z3)]) : W p l e rmX12_judged_0 s m args below meth c H locs 0 0 (MQ below (Qi D (VM cy ad st) (AM ad) s.heap.size r u') args s 0 0 (Ax (AM ad) s.heap.size)) (F0 m 49 ls []) := by
  unfold GX12_judged_0_49 at h
  refine lv_iinc (v := z3 + 1) (lv' := [(3, .int (z3 + 1)), (0, .ref (ad 0)), (1, .int z1), (2, .int z2)]) C.1 C.2.1 dX12_judged_49 hl (k := 3) rfl rfl (by decide) rfl (fun ls hl => ?_)
  replace hl := lv_sub (l' := [(0, .ref (ad 0)), (1, .int z1), (2, .int z2), (3, .int (z3 + 1))]) hl [1, 2, 3, 0] rfl
  refine lv_goto (tgt := 10) C.1 C.2.1 dX12_judged_52 (by decide) ?_
  exact hk10 _ _ _ _ _ _ _ h hP hS hl
set_option maxHeartbeats 4000000 in
set_option maxRecDepth 100000 in
theorem wLX12_judged_0_10 {p : Program} {l : Launch} {e : Env} {s : State} {m : MethodId} {args : Array Value} {below : List Frame} {meth : Method} {c : Code} {D : va_G} {cy : Nat → ClassId} {ad st : Nat → Nat} (C : Cx RX12 cX12_judged 4 (some .int) wsX12_judged p s m args meth c) (hK : Ky D [(cy 0, .int), (cy 1, .long), (cy 2, .boolean), (cy 3, .byte), (cy 4, .object "HissHorn$Text")] st s) (hJ : JM ad st) {r : Int32} {u' : SX} {k55 : Int32 → SX → Option (Int32 × SX)} (hk55 : ∀ (z2 : Int32) (u : SX) (H : Heap) (locs : List Loc) (ls : Array Slot), k55 z2 u = some (r, u') → va_P D vwCl (VM cy ad st u) H → va_S (Ax (AM ad) s.heap.size) s.heap H locs → lv_has ls 4 [(0, .ref (ad 0)), (2, .int z2)] → W p l e rmX12_judged_0 s m args below meth c H locs 0 0 (MQ below (Qi D (VM cy ad st) (AM ad) s.heap.size r u') args s 0 0 (Ax (AM ad) s.heap.size)) (F0 m 55 ls [])) : ∀ (n : Nat) (z1 : Int32) (z2 : Int32) (z3 : Int32) (u : SX) (H : Heap) (locs : List Loc) (ls : Array Slot), LX12_judged_0_10 k55 n z1 z2 z3 u = some (r, u') → va_P D vwCl (VM cy ad st u) H → va_S (Ax (AM ad) s.heap.size) s.heap H locs → lv_has ls 4 [(0, .ref (ad 0)), (1, .int z1), (2, .int z2), (3, .int z3)] → W p l e rmX12_judged_0 s m args below meth c H locs 0 0 (MQ below (Qi D (VM cy ad st) (AM ad) s.heap.size r u') args s 0 0 (Ax (AM ad) s.heap.size)) (F0 m 10 ls []) := by
  intro n
  induction n with
  | zero =>
    intro z1 z2 z3 u H locs ls h
    exact absurd h (by intro q; cases q)
  | succ n ih =>
    intro z1 z2 z3 u H locs ls h hP hS hl
    rw [LX12_judged_0_10] at h
    refine lv_iload_n C.1 C.2.1 dX12_judged_10 rfl (lv_at hl 3 rfl) ?_
    refine lv_aload_n C.1 C.2.1 dX12_judged_11 rfl (lv_at hl 0 rfl) ?_
    refine gM_0_looks C hX12_judged_0_X12 hK hP mX12_judged_0_2 dX12_judged_12 ?_
    refine lv_icmp_ge (tgt := 55) C.1 C.2.1 dX12_judged_15 (by decide) (fun c15 => ?_) (fun c15 => ?_)
    · rw [if_pos c15] at h
      exact hk55 _ _ _ _ _ h hP hS (lv_sub hl [0, 2] rfl)
    · rw [if_neg c15] at h
      refine lv_iload_n C.1 C.2.1 dX12_judged_18 rfl (lv_at hl 1 rfl) ?_
      refine lv_iload_n C.1 C.2.1 dX12_judged_19 rfl (lv_at hl 3 rfl) ?_
      refine lv_ishr C.1 C.2.1 dX12_judged_20 ?_
      refine lv_iconst (v := 1) C.1 C.2.1 dX12_judged_21 (by decide) ?_
      refine lv_iand C.1 C.2.1 dX12_judged_22 ?_
      refine lv_iconst (v := 1) C.1 C.2.1 dX12_judged_23 (by decide) ?_
      refine lv_icmp_ne (tgt := 49) C.1 C.2.1 dX12_judged_24 (by decide) (fun c24 => ?_) (fun c24 => ?_)
      · rw [if_neg c24] at h
        exact wGX12_judged_0_49 C hK hJ ih _ _ _ _ _ _ _ h hP hS hl
      · rw [if_pos c24] at h
        refine lv_aload_n C.1 C.2.1 dX12_judged_27 rfl (lv_at hl 0 rfl) ?_
        refine lv_aload_n C.1 C.2.1 dX12_judged_28 rfl (lv_at hl 0 rfl) ?_
        refine gM_0_lookPart C hX12_judged_0_X12 hK hP mX12_judged_0_3 dX12_judged_29 ?_
        refine lv_iload_n C.1 C.2.1 dX12_judged_32 rfl (lv_at hl 3 rfl) ?_
        obtain ⟨hg4, h⟩ := gd_some h
        refine lM_29 C hK hP hg4 dX12_judged_33 ?_
        refine lv_aload_n C.1 C.2.1 dX12_judged_34 rfl (lv_at hl 0 rfl) ?_
        refine gM_0_lookFrom C hX12_judged_0_X12 hK hP mX12_judged_0_4 dX12_judged_35 ?_
        refine lv_iload_n C.1 C.2.1 dX12_judged_38 rfl (lv_at hl 3 rfl) ?_
        obtain ⟨hg5, h⟩ := gd_some h
        refine lM_30 C hK hP hg5 dX12_judged_39 ?_
        refine lv_aload_n C.1 C.2.1 dX12_judged_40 rfl (lv_at hl 0 rfl) ?_
        refine gM_0_lookTo C hX12_judged_0_X12 hK hP mX12_judged_0_5 dX12_judged_41 ?_
        refine lv_iload_n C.1 C.2.1 dX12_judged_44 rfl (lv_at hl 3 rfl) ?_
        obtain ⟨hg6, h⟩ := gd_some h
        refine lM_31 C hK hP hg6 dX12_judged_45 ?_
        obtain ⟨⟨r7, u8⟩, hc9, h⟩ := bd_some h
        try dsimp only at h
        refine cg_v (As := [.int (u.2.1 29 z3.toNatClampNeg), .int (u.2.1 30 z3.toNatClampNeg), .int (u.2.1 31 z3.toNatClampNeg)]) (rest := []) (AM_ge hJ) C hK hP hS (metX12_cutDown_0 l D cy ad st hJ _ (u.2.1 29 z3.toNatClampNeg) (u.2.1 30 z3.toNatClampNeg) (u.2.1 31 z3.toNatClampNeg) hc9) (cwV 3 C.2.2.2.2.2.1 gX12_judged_X12_cutDown rfl rfl rfl (by decide +kernel) ⟨(Nat.le_of_ble_eq_true rfl), (Nat.le_of_ble_eq_true rfl)⟩) 0 12 rfl rfl rfl hl.1 rfl (Nat.le_of_ble_eq_true rfl) dX12_judged_46 ⟨Nat.zero_le _, Nat.zero_le _⟩ (fun H locs hP hS => ?_)
        exact wGX12_judged_0_49 C hK hJ ih _ _ _ _ _ _ _ h hP hS hl
set_option maxHeartbeats 4000000 in
set_option maxRecDepth 100000 in
theorem wGX12_judged_0_55 {p : Program} {l : Launch} {e : Env} {s : State} {m : MethodId} {args : Array Value} {below : List Frame} {meth : Method} {c : Code} {D : va_G} {cy : Nat → ClassId} {ad st : Nat → Nat} (C : Cx RX12 cX12_judged 4 (some .int) wsX12_judged p s m args meth c) (hK : Ky D [(cy 0, .int), (cy 1, .long), (cy 2, .boolean), (cy 3, .byte), (cy 4, .object "HissHorn$Text")] st s) (hJ : JM ad st) {r : Int32} {u' : SX}   (z2 : Int32) (u : SX) (H : Heap) (locs : List Loc) (ls : Array Slot) (h : GX12_judged_0_55 z2 u = some (r, u')) (hP : va_P D vwCl (VM cy ad st u) H) (hS : va_S (Ax (AM ad) s.heap.size) s.heap H locs) (hl : lv_has ls 4 [(0, .ref (ad 0)), (2, .int z2)]) : W p l e rmX12_judged_0 s m args below meth c H locs 0 0 (MQ below (Qi D (VM cy ad st) (AM ad) s.heap.size r u') args s 0 0 (Ax (AM ad) s.heap.size)) (F0 m 55 ls []) := by
  unfold GX12_judged_0_55 at h
  refine lv_aload_n C.1 C.2.1 dX12_judged_55 rfl (lv_at hl 0 rfl) ?_
  refine lv_iload_n C.1 C.2.1 dX12_judged_56 rfl (lv_at hl 1 rfl) ?_
  obtain ⟨⟨r10, u11⟩, hc12, h⟩ := bd_some h
  try dsimp only at h
  refine cg_i (As := [.int z2]) (rest := []) (AM_ge hJ) C hK hP hS (metX12_wide_0 l D cy ad st hJ _ z2 hc12) (cwV 1 C.2.2.2.2.2.1 gX12_judged_X12_wide rfl rfl rfl (by decide +kernel) ⟨(Nat.le_of_ble_eq_true rfl), (Nat.le_of_ble_eq_true rfl)⟩) 0 12 rfl rfl rfl hl.1 rfl (Nat.le_of_ble_eq_true rfl) dX12_judged_57 ⟨Nat.zero_le _, Nat.zero_le _⟩ (fun H locs hP hS => ?_)
  cases h
  exact rt_i C hP hS dX12_judged_60
set_option maxHeartbeats 4000000 in
set_option maxRecDepth 100000 in
theorem wX12_judged_0 {p : Program} {l : Launch} {e : Env} {s : State} {m : MethodId} {args : Array Value} {below : List Frame} {meth : Method} {c : Code} {D : va_G} {cy : Nat → ClassId} {ad st : Nat → Nat} (C : Cx RX12 cX12_judged 4 (some .int) wsX12_judged p s m args meth c) (hK : Ky D [(cy 0, .int), (cy 1, .long), (cy 2, .boolean), (cy 3, .byte), (cy 4, .object "HissHorn$Text")] st s) (hJ : JM ad st) (x1 : Int32) (x2 : Int32) {u : SX} {r : Int32} {u' : SX} {H : Heap} {locs : List Loc} {ls : Array Slot} (h : fX12_judged_0 x1 x2 u = some (r, u')) (hP : va_P D vwCl (VM cy ad st u) H) (hS : va_S (Ax (AM ad) s.heap.size) s.heap H locs) (hl : lv_has ls 4 [(0, .ref (ad 0)), (1, .int x1), (2, .int x2)]) : W p l e rmX12_judged_0 s m args below meth c H locs 0 0 (MQ below (Qi D (VM cy ad st) (AM ad) s.heap.size r u') args s 0 0 (Ax (AM ad) s.heap.size)) (F0 m 0 ls []) := by
  unfold fX12_judged_0 at h
  refine lv_aload_n C.1 C.2.1 dX12_judged_0 rfl (lv_at hl 0 rfl) ?_
  refine lv_aload_n C.1 C.2.1 dX12_judged_1 rfl (lv_at hl 0 rfl) ?_
  refine gM_0_events C hX12_judged_0_X12 hK hP mX12_judged_0_1 dX12_judged_2 ?_
  obtain ⟨⟨r1, u2⟩, hc3, h⟩ := bd_some h
  try dsimp only at h
  refine cg_v (As := [.int (u.1 13)]) (rest := []) (AM_ge hJ) C hK hP hS (metX12_laySpans_0 l D cy ad st hJ _ (u.1 13) hc3) (cwV 1 C.2.2.2.2.2.1 gX12_judged_X12_laySpans rfl rfl rfl (by decide +kernel) ⟨(Nat.le_of_ble_eq_true rfl), (Nat.le_of_ble_eq_true rfl)⟩) 0 12 rfl rfl rfl hl.1 rfl (Nat.le_of_ble_eq_true rfl) dX12_judged_5 ⟨Nat.zero_le _, Nat.zero_le _⟩ (fun H locs hP hS => ?_)
  refine lv_iconst (v := 0) C.1 C.2.1 dX12_judged_8 (by decide) ?_
  refine lv_istore_n (lv' := [(3, .int 0), (0, .ref (ad 0)), (1, .int x1), (2, .int x2)]) C.1 C.2.1 dX12_judged_9 rfl hl (by decide) rfl (fun ls hl => ?_)
  replace hl := lv_sub (l' := [(0, .ref (ad 0)), (1, .int x1), (2, .int x2), (3, .int 0)]) hl [1, 2, 3, 0] rfl
  exact wLX12_judged_0_10 C hK hJ (wGX12_judged_0_55 C hK hJ ) 5000 _ _ _ _ _ _ _ h hP hS hl
theorem metX12_judged_0 (l : Launch) (D : va_G) (cy : Nat → ClassId) (ad st : Nat → Nat) (hJ : JM ad st) (sz : Nat) (x1 : Int32) (x2 : Int32) {u : SX} {r : Int32} {u' : SX} (h : fX12_judged_0 x1 x2 u = some (r, u')) : Met l yX12_judged wsX12_judged rmX12_judged_0 (va_Pc [.ref (ad 0), .int x1, .int x2] (Px D [(cy 0, .int), (cy 1, .long), (cy 2, .boolean), (cy 3, .byte), (cy 4, .object "HissHorn$Text")] st (VM cy ad st) sz u)) (Qi D (VM cy ad st) (AM ad) sz r u') 0 0 (Ax (AM ad) sz) := by
  refine Met.ofW (cc := cX12_judged) (maxL := 4) (ret := (some .int)) (by decide) rfl ?_
  intro p e s m args below meth c s₁ B hml hv
  obtain ⟨rfl, hsz, hP, hK⟩ := hv
  subst hsz
  have C : Cx RX12 cX12_judged 4 (some .int) wsX12_judged p s m _ meth c := ⟨B.exec, B.bytes, hml, B.returns, findClass_of_methodNamed B.named, atoms_spec (ws := wsX12_judged) B.pre, B.notSynchronized⟩
  have hl := lv_entry ([.ref (ad 0), .int x1, .int x2]) (n := 4) (Nat.le_of_ble_eq_true rfl)
  rw [lg_entry_eq]
  exact wX12_judged_0 C hK hJ x1 x2 h hP va_S.rf hl

theorem zdX12_isRow_47 : (and (and (and (and (and (zk cX12_isRow 47 (.iinc 2 1) 3) (zk cX12_isRow 50 (.goto (-32)) 3)) (and (zk cX12_isRow 18 (.iload_n 2) 1) (zk cX12_isRow 19 (.aload_n 0) 1))) (and (and (zk cX12_isRow 20 (.getfield 401) 3) (zk cX12_isRow 23 (.if_icmp .ge 30) 3)) (and (zk cX12_isRow 53 (.iconst 1) 1) (zk cX12_isRow 54 (.ireturn) 1)))) (and (and (and (zk cX12_isRow 26 (.iload_n 1) 1) (zk cX12_isRow 27 (.iload_n 2) 1)) (and (zk cX12_isRow 28 (.ishr) 1) (zk cX12_isRow 29 (.iconst 1) 1))) (and (and (zk cX12_isRow 30 (.iand) 1) (zk cX12_isRow 31 (.iconst 1) 1)) (and (zk cX12_isRow 32 (.if_icmp .ne 15) 3) (zk cX12_isRow 35 (.aload_n 0) 1))))) (and (and (and (and (zk cX12_isRow 36 (.getfield 118) 3) (zk cX12_isRow 39 (.iload_n 2) 1)) (and (zk cX12_isRow 40 (.iaload) 1) (zk cX12_isRow 41 (.iconst (-1)) 1))) (and (and (zk cX12_isRow 42 (.if_icmp .eq 5) 3) (zk cX12_isRow 45 (.iconst 0) 1)) (and (zk cX12_isRow 46 (.ireturn) 1) (zk cX12_isRow 0 (.iload_n 1) 1)))) (and (and (and (zk cX12_isRow 1 (.ifCond .lt 13) 3) (zk cX12_isRow 14 (.iconst 0) 1)) (and (zk cX12_isRow 15 (.ireturn) 1) (zk cX12_isRow 4 (.iload_n 1) 1))) (and (and (zk cX12_isRow 5 (.iconst 1) 1) (zk cX12_isRow 6 (.aload_n 0) 1)) (and (zk cX12_isRow 7 (.getfield 401) 3) (zk cX12_isRow 10 (.ishl) 1)))))) = true := by decide +kernel
theorem dX12_isRow_47 : decode cX12_isRow 47 = .ok (.iinc 2 1, 3) := zk_of (zk_l (zk_l (zk_l (zk_l (zk_l zdX12_isRow_47)))))
theorem dX12_isRow_50 : decode cX12_isRow 50 = .ok (.goto (-32), 3) := zk_of (zk_r (zk_l (zk_l (zk_l (zk_l zdX12_isRow_47)))))
theorem dX12_isRow_18 : decode cX12_isRow 18 = .ok (.iload_n 2, 1) := zk_of (zk_l (zk_r (zk_l (zk_l (zk_l zdX12_isRow_47)))))
theorem dX12_isRow_19 : decode cX12_isRow 19 = .ok (.aload_n 0, 1) := zk_of (zk_r (zk_r (zk_l (zk_l (zk_l zdX12_isRow_47)))))
theorem dX12_isRow_20 : decode cX12_isRow 20 = .ok (.getfield 401, 3) := zk_of (zk_l (zk_l (zk_r (zk_l (zk_l zdX12_isRow_47)))))
theorem dX12_isRow_23 : decode cX12_isRow 23 = .ok (.if_icmp .ge 30, 3) := zk_of (zk_r (zk_l (zk_r (zk_l (zk_l zdX12_isRow_47)))))
theorem dX12_isRow_53 : decode cX12_isRow 53 = .ok (.iconst 1, 1) := zk_of (zk_l (zk_r (zk_r (zk_l (zk_l zdX12_isRow_47)))))
theorem dX12_isRow_54 : decode cX12_isRow 54 = .ok (.ireturn, 1) := zk_of (zk_r (zk_r (zk_r (zk_l (zk_l zdX12_isRow_47)))))
theorem dX12_isRow_26 : decode cX12_isRow 26 = .ok (.iload_n 1, 1) := zk_of (zk_l (zk_l (zk_l (zk_r (zk_l zdX12_isRow_47)))))
theorem dX12_isRow_27 : decode cX12_isRow 27 = .ok (.iload_n 2, 1) := zk_of (zk_r (zk_l (zk_l (zk_r (zk_l zdX12_isRow_47)))))
theorem dX12_isRow_28 : decode cX12_isRow 28 = .ok (.ishr, 1) := zk_of (zk_l (zk_r (zk_l (zk_r (zk_l zdX12_isRow_47)))))
theorem dX12_isRow_29 : decode cX12_isRow 29 = .ok (.iconst 1, 1) := zk_of (zk_r (zk_r (zk_l (zk_r (zk_l zdX12_isRow_47)))))
theorem dX12_isRow_30 : decode cX12_isRow 30 = .ok (.iand, 1) := zk_of (zk_l (zk_l (zk_r (zk_r (zk_l zdX12_isRow_47)))))
theorem dX12_isRow_31 : decode cX12_isRow 31 = .ok (.iconst 1, 1) := zk_of (zk_r (zk_l (zk_r (zk_r (zk_l zdX12_isRow_47)))))
theorem dX12_isRow_32 : decode cX12_isRow 32 = .ok (.if_icmp .ne 15, 3) := zk_of (zk_l (zk_r (zk_r (zk_r (zk_l zdX12_isRow_47)))))
theorem dX12_isRow_35 : decode cX12_isRow 35 = .ok (.aload_n 0, 1) := zk_of (zk_r (zk_r (zk_r (zk_r (zk_l zdX12_isRow_47)))))
theorem dX12_isRow_36 : decode cX12_isRow 36 = .ok (.getfield 118, 3) := zk_of (zk_l (zk_l (zk_l (zk_l (zk_r zdX12_isRow_47)))))
theorem dX12_isRow_39 : decode cX12_isRow 39 = .ok (.iload_n 2, 1) := zk_of (zk_r (zk_l (zk_l (zk_l (zk_r zdX12_isRow_47)))))
theorem dX12_isRow_40 : decode cX12_isRow 40 = .ok (.iaload, 1) := zk_of (zk_l (zk_r (zk_l (zk_l (zk_r zdX12_isRow_47)))))
theorem dX12_isRow_41 : decode cX12_isRow 41 = .ok (.iconst (-1), 1) := zk_of (zk_r (zk_r (zk_l (zk_l (zk_r zdX12_isRow_47)))))
theorem dX12_isRow_42 : decode cX12_isRow 42 = .ok (.if_icmp .eq 5, 3) := zk_of (zk_l (zk_l (zk_r (zk_l (zk_r zdX12_isRow_47)))))
theorem dX12_isRow_45 : decode cX12_isRow 45 = .ok (.iconst 0, 1) := zk_of (zk_r (zk_l (zk_r (zk_l (zk_r zdX12_isRow_47)))))
theorem dX12_isRow_46 : decode cX12_isRow 46 = .ok (.ireturn, 1) := zk_of (zk_l (zk_r (zk_r (zk_l (zk_r zdX12_isRow_47)))))
theorem dX12_isRow_0 : decode cX12_isRow 0 = .ok (.iload_n 1, 1) := zk_of (zk_r (zk_r (zk_r (zk_l (zk_r zdX12_isRow_47)))))
theorem dX12_isRow_1 : decode cX12_isRow 1 = .ok (.ifCond .lt 13, 3) := zk_of (zk_l (zk_l (zk_l (zk_r (zk_r zdX12_isRow_47)))))
theorem dX12_isRow_14 : decode cX12_isRow 14 = .ok (.iconst 0, 1) := zk_of (zk_r (zk_l (zk_l (zk_r (zk_r zdX12_isRow_47)))))
theorem dX12_isRow_15 : decode cX12_isRow 15 = .ok (.ireturn, 1) := zk_of (zk_l (zk_r (zk_l (zk_r (zk_r zdX12_isRow_47)))))
theorem dX12_isRow_4 : decode cX12_isRow 4 = .ok (.iload_n 1, 1) := zk_of (zk_r (zk_r (zk_l (zk_r (zk_r zdX12_isRow_47)))))
theorem dX12_isRow_5 : decode cX12_isRow 5 = .ok (.iconst 1, 1) := zk_of (zk_l (zk_l (zk_r (zk_r (zk_r zdX12_isRow_47)))))
theorem dX12_isRow_6 : decode cX12_isRow 6 = .ok (.aload_n 0, 1) := zk_of (zk_r (zk_l (zk_r (zk_r (zk_r zdX12_isRow_47)))))
theorem dX12_isRow_7 : decode cX12_isRow 7 = .ok (.getfield 401, 3) := zk_of (zk_l (zk_r (zk_r (zk_r (zk_r zdX12_isRow_47)))))
theorem dX12_isRow_10 : decode cX12_isRow 10 = .ok (.ishl, 1) := zk_of (zk_r (zk_r (zk_r (zk_r (zk_r zdX12_isRow_47)))))
theorem zdX12_isRow_11 : (and (and (zk cX12_isRow 11 (.if_icmp .lt 5) 3) (zk cX12_isRow 16 (.iconst 0) 1)) (zk cX12_isRow 17 (.istore_n 2) 1)) = true := by decide +kernel
theorem dX12_isRow_11 : decode cX12_isRow 11 = .ok (.if_icmp .lt 5, 3) := zk_of (zk_l (zk_l zdX12_isRow_11))
theorem dX12_isRow_16 : decode cX12_isRow 16 = .ok (.iconst 0, 1) := zk_of (zk_r (zk_l zdX12_isRow_11))
theorem dX12_isRow_17 : decode cX12_isRow 17 = .ok (.istore_n 2, 1) := zk_of (zk_r zdX12_isRow_11)
/-- HissHornModel.isRow(I)Z of cell 0 -/
def rmX12_isRow_0 : Room := { frames := 0, cells := 0, slots := 0, locals := 0 }
theorem hX12_isRow_0_X12 : ∀ w ∈ u_ws RX12 TX12 69, w ∈ wsX12_isRow := fun w h => (List.mem_cons_of_mem _ (List.mem_append_right _ h))
theorem mX12_isRow_0_1 : Cond.fieldLink RX12 401 "HissHornModel" "looks" "I" ∈ wsX12_isRow := (List.mem_cons_of_mem _ (List.mem_append_left _ (List.mem_of_getElem? (i := 0) rfl)))
def GX12_isRow_0_47 (k18 : Int32 → Int32 → SX → Option (Int32 × SX)) (z1 : Int32) (z2 : Int32) (u : SX) : Option (Int32 × SX) := (k18 z1 (z2 + 1) u)
theorem mX12_isRow_0_2 : Cond.fieldLink RX12 118 "HissHornModel" "lookEvent" "[I" ∈ wsX12_isRow := (List.mem_cons_of_mem _ (List.mem_append_left _ (List.mem_of_getElem? (i := 1) rfl)))
def LX12_isRow_0_18  : Nat → Int32 → Int32 → SX → Option (Int32 × SX)
  | 0, _, _, _ => none
  | n + 1, z1, z2, u => (if (u.1 21) ≤ z2 then (gd (isB 1) (some (1, u))) else (if ((z1 >>> (z2 &&& 31)) &&& 1) = 1 then (gd (inb z2 10) (if (u.2.1 33 z2.toNatClampNeg) = (-1) then (GX12_isRow_0_47 (LX12_isRow_0_18 n) z1 z2 u) else (gd (isB 0) (some (0, u))))) else (GX12_isRow_0_47 (LX12_isRow_0_18 n) z1 z2 u)))
def fX12_isRow_0 (x1 : Int32) (u : SX) : Option (Int32 × SX) := (if x1 < 0 then (gd (isB 0) (some (0, u))) else (if x1 < (1 <<< ((u.1 21) &&& 31)) then (LX12_isRow_0_18  5000 x1 0 u) else (gd (isB 0) (some (0, u)))))
set_option maxHeartbeats 4000000 in
set_option maxRecDepth 100000 in
theorem wGX12_isRow_0_47 {p : Program} {l : Launch} {e : Env} {s : State} {m : MethodId} {args : Array Value} {below : List Frame} {meth : Method} {c : Code} {D : va_G} {cy : Nat → ClassId} {ad st : Nat → Nat} (C : Cx RX12 cX12_isRow 3 (some .boolean) wsX12_isRow p s m args meth c) (hK : Ky D [(cy 0, .int), (cy 1, .long), (cy 2, .boolean), (cy 3, .byte), (cy 4, .object "HissHorn$Text")] st s) (hJ : JM ad st) {r : Int32} {u' : SX} {k18 : Int32 → Int32 → SX → Option (Int32 × SX)} (hk18 : ∀ (z1 : Int32) (z2 : Int32) (u : SX) (H : Heap) (locs : List Loc) (ls : Array Slot), k18 z1 z2 u = some (r, u') → va_P D vwCl (VM cy ad st u) H → va_S (Ax (AM ad) s.heap.size) s.heap H locs → lv_has ls 3 [(0, .ref (ad 0)), (1, .int z1), (2, .int z2)] → W p l e rmX12_isRow_0 s m args below meth c H locs 0 0 (MQ below (Qi D (VM cy ad st) (AM ad) s.heap.size r u') args s 0 0 (Ax (AM ad) s.heap.size)) (F0 m 18 ls [])) (z1 : Int32) (z2 : Int32) (u : SX) (H : Heap) (locs : List Loc) (ls : Array Slot) (h : GX12_isRow_0_47 k18 z1 z2 u = some (r, u')) (hP : va_P D vwCl (VM cy ad st u) H) (hS : va_S (Ax (AM ad) s.heap.size) s.heap H locs) (hl : lv_has ls 3 [(0, .ref (ad 0)), (1, .int z1), (2, .int z2)]) : W p l e rmX12_isRow_0 s m args below meth c H locs 0 0 (MQ below (Qi D (VM cy ad st) (AM ad) s.heap.size r u') args s 0 0 (Ax (AM ad) s.heap.size)) (F0 m 47 ls []) := by
  unfold GX12_isRow_0_47 at h
  refine lv_iinc (v := z2 + 1) (lv' := [(2, .int (z2 + 1)), (0, .ref (ad 0)), (1, .int z1)]) C.1 C.2.1 dX12_isRow_47 hl (k := 2) rfl rfl (by decide) rfl (fun ls hl => ?_)
  replace hl := lv_sub (l' := [(0, .ref (ad 0)), (1, .int z1), (2, .int (z2 + 1))]) hl [1, 2, 0] rfl
  refine lv_goto (tgt := 18) C.1 C.2.1 dX12_isRow_50 (by decide) ?_
  exact hk18 _ _ _ _ _ _ h hP hS hl
set_option maxHeartbeats 4000000 in
set_option maxRecDepth 100000 in
theorem wLX12_isRow_0_18 {p : Program} {l : Launch} {e : Env} {s : State} {m : MethodId} {args : Array Value} {below : List Frame} {meth : Method} {c : Code} {D : va_G} {cy : Nat → ClassId} {ad st : Nat → Nat} (C : Cx RX12 cX12_isRow 3 (some .boolean) wsX12_isRow p s m args meth c) (hK : Ky D [(cy 0, .int), (cy 1, .long), (cy 2, .boolean), (cy 3, .byte), (cy 4, .object "HissHorn$Text")] st s) (hJ : JM ad st) {r : Int32} {u' : SX}   : ∀ (n : Nat) (z1 : Int32) (z2 : Int32) (u : SX) (H : Heap) (locs : List Loc) (ls : Array Slot), LX12_isRow_0_18  n z1 z2 u = some (r, u') → va_P D vwCl (VM cy ad st u) H → va_S (Ax (AM ad) s.heap.size) s.heap H locs → lv_has ls 3 [(0, .ref (ad 0)), (1, .int z1), (2, .int z2)] → W p l e rmX12_isRow_0 s m args below meth c H locs 0 0 (MQ below (Qi D (VM cy ad st) (AM ad) s.heap.size r u') args s 0 0 (Ax (AM ad) s.heap.size)) (F0 m 18 ls []) := by
  intro n
  induction n with
  | zero =>
    intro z1 z2 u H locs ls h
    exact absurd h (by intro q; cases q)
  | succ n ih =>
    intro z1 z2 u H locs ls h hP hS hl
    rw [LX12_isRow_0_18] at h
    refine lv_iload_n C.1 C.2.1 dX12_isRow_18 rfl (lv_at hl 2 rfl) ?_
    refine lv_aload_n C.1 C.2.1 dX12_isRow_19 rfl (lv_at hl 0 rfl) ?_
    refine gM_0_looks C hX12_isRow_0_X12 hK hP mX12_isRow_0_1 dX12_isRow_20 ?_
    refine lv_icmp_ge (tgt := 53) C.1 C.2.1 dX12_isRow_23 (by decide) (fun c23 => ?_) (fun c23 => ?_)
    · rw [if_pos c23] at h
      refine lv_iconst (v := 1) C.1 C.2.1 dX12_isRow_53 (by decide) ?_
      obtain ⟨hg2, h⟩ := gd_some h
      cases h
      exact rt_z hg2 C hP hS dX12_isRow_54
    · rw [if_neg c23] at h
      refine lv_iload_n C.1 C.2.1 dX12_isRow_26 rfl (lv_at hl 1 rfl) ?_
      refine lv_iload_n C.1 C.2.1 dX12_isRow_27 rfl (lv_at hl 2 rfl) ?_
      refine lv_ishr C.1 C.2.1 dX12_isRow_28 ?_
      refine lv_iconst (v := 1) C.1 C.2.1 dX12_isRow_29 (by decide) ?_
      refine lv_iand C.1 C.2.1 dX12_isRow_30 ?_
      refine lv_iconst (v := 1) C.1 C.2.1 dX12_isRow_31 (by decide) ?_
      refine lv_icmp_ne (tgt := 47) C.1 C.2.1 dX12_isRow_32 (by decide) (fun c32 => ?_) (fun c32 => ?_)
      · rw [if_neg c32] at h
        exact wGX12_isRow_0_47 C hK hJ ih _ _ _ _ _ _ h hP hS hl
      · rw [if_pos c32] at h
        refine lv_aload_n C.1 C.2.1 dX12_isRow_35 rfl (lv_at hl 0 rfl) ?_
        refine gM_0_lookEvent C hX12_isRow_0_X12 hK hP mX12_isRow_0_2 dX12_isRow_36 ?_
        refine lv_iload_n C.1 C.2.1 dX12_isRow_39 rfl (lv_at hl 2 rfl) ?_
        obtain ⟨hg3, h⟩ := gd_some h
        refine lM_33 C hK hP hg3 dX12_isRow_40 ?_
        refine lv_iconst (v := (-1)) C.1 C.2.1 dX12_isRow_41 (by decide) ?_
        refine lv_icmp_eq (tgt := 47) C.1 C.2.1 dX12_isRow_42 (by decide) (fun c42 => ?_) (fun c42 => ?_)
        · rw [if_pos c42] at h
          exact wGX12_isRow_0_47 C hK hJ ih _ _ _ _ _ _ h hP hS hl
        · rw [if_neg c42] at h
          refine lv_iconst (v := 0) C.1 C.2.1 dX12_isRow_45 (by decide) ?_
          obtain ⟨hg4, h⟩ := gd_some h
          cases h
          exact rt_z hg4 C hP hS dX12_isRow_46
set_option maxHeartbeats 4000000 in
set_option maxRecDepth 100000 in
theorem wX12_isRow_0 {p : Program} {l : Launch} {e : Env} {s : State} {m : MethodId} {args : Array Value} {below : List Frame} {meth : Method} {c : Code} {D : va_G} {cy : Nat → ClassId} {ad st : Nat → Nat} (C : Cx RX12 cX12_isRow 3 (some .boolean) wsX12_isRow p s m args meth c) (hK : Ky D [(cy 0, .int), (cy 1, .long), (cy 2, .boolean), (cy 3, .byte), (cy 4, .object "HissHorn$Text")] st s) (hJ : JM ad st) (x1 : Int32) {u : SX} {r : Int32} {u' : SX} {H : Heap} {locs : List Loc} {ls : Array Slot} (h : fX12_isRow_0 x1 u = some (r, u')) (hP : va_P D vwCl (VM cy ad st u) H) (hS : va_S (Ax (AM ad) s.heap.size) s.heap H locs) (hl : lv_has ls 3 [(0, .ref (ad 0)), (1, .int x1)]) : W p l e rmX12_isRow_0 s m args below meth c H locs 0 0 (MQ below (Qi D (VM cy ad st) (AM ad) s.heap.size r u') args s 0 0 (Ax (AM ad) s.heap.size)) (F0 m 0 ls []) := by
  unfold fX12_isRow_0 at h
  refine lv_iload_n C.1 C.2.1 dX12_isRow_0 rfl (lv_at hl 1 rfl) ?_
  refine lv_if_lt (tgt := 14) C.1 C.2.1 dX12_isRow_1 (by decide) (fun c1 => ?_) (fun c1 => ?_)
  · rw [if_pos c1] at h
    refine lv_iconst (v := 0) C.1 C.2.1 dX12_isRow_14 (by decide) ?_
    obtain ⟨hg1, h⟩ := gd_some h
    cases h
    exact rt_z hg1 C hP hS dX12_isRow_15
  · rw [if_neg c1] at h
    refine lv_iload_n C.1 C.2.1 dX12_isRow_4 rfl (lv_at hl 1 rfl) ?_
    refine lv_iconst (v := 1) C.1 C.2.1 dX12_isRow_5 (by decide) ?_
    refine lv_aload_n C.1 C.2.1 dX12_isRow_6 rfl (lv_at hl 0 rfl) ?_
    refine gM_0_looks C hX12_isRow_0_X12 hK hP mX12_isRow_0_1 dX12_isRow_7 ?_
    refine lv_ishl C.1 C.2.1 dX12_isRow_10 ?_
    refine lv_icmp_lt (tgt := 16) C.1 C.2.1 dX12_isRow_11 (by decide) (fun c11 => ?_) (fun c11 => ?_)
    · rw [if_pos c11] at h
      refine lv_iconst (v := 0) C.1 C.2.1 dX12_isRow_16 (by decide) ?_
      refine lv_istore_n (lv' := [(2, .int 0), (0, .ref (ad 0)), (1, .int x1)]) C.1 C.2.1 dX12_isRow_17 rfl hl (by decide) rfl (fun ls hl => ?_)
      replace hl := lv_sub (l' := [(0, .ref (ad 0)), (1, .int x1), (2, .int 0)]) hl [1, 2, 0] rfl
      exact wLX12_isRow_0_18 C hK hJ  5000 _ _ _ _ _ _ h hP hS hl
    · rw [if_neg c11] at h
      refine lv_iconst (v := 0) C.1 C.2.1 dX12_isRow_14 (by decide) ?_
      obtain ⟨hg5, h⟩ := gd_some h
      cases h
      exact rt_z hg5 C hP hS dX12_isRow_15
theorem metX12_isRow_0 (l : Launch) (D : va_G) (cy : Nat → ClassId) (ad st : Nat → Nat) (hJ : JM ad st) (sz : Nat) (x1 : Int32) {u : SX} {r : Int32} {u' : SX} (h : fX12_isRow_0 x1 u = some (r, u')) : Met l yX12_isRow wsX12_isRow rmX12_isRow_0 (va_Pc [.ref (ad 0), .int x1] (Px D [(cy 0, .int), (cy 1, .long), (cy 2, .boolean), (cy 3, .byte), (cy 4, .object "HissHorn$Text")] st (VM cy ad st) sz u)) (Qi D (VM cy ad st) (AM ad) sz r u') 0 0 (Ax (AM ad) sz) := by
  refine Met.ofW (cc := cX12_isRow) (maxL := 3) (ret := (some .boolean)) (by decide) rfl ?_
  intro p e s m args below meth c s₁ B hml hv
  obtain ⟨rfl, hsz, hP, hK⟩ := hv
  subst hsz
  have C : Cx RX12 cX12_isRow 3 (some .boolean) wsX12_isRow p s m _ meth c := ⟨B.exec, B.bytes, hml, B.returns, findClass_of_methodNamed B.named, atoms_spec (ws := wsX12_isRow) B.pre, B.notSynchronized⟩
  have hl := lv_entry ([.ref (ad 0), .int x1]) (n := 3) (Nat.le_of_ble_eq_true rfl)
  rw [lg_entry_eq]
  exact wX12_isRow_0 C hK hJ x1 h hP va_S.rf hl

theorem zdX12_plan_109 : (and (and (and (and (and (zk cX12_plan 109 (.iadd) 1) (zk cX12_plan 110 (.istore 8) 2)) (and (zk cX12_plan 112 (.iinc 9 1) 3) (zk cX12_plan 115 (.goto (-39)) 3))) (and (and (zk cX12_plan 76 (.iload 9) 2) (zk cX12_plan 78 (.aload_n 0) 1)) (and (zk cX12_plan 79 (.getfield 401) 3) (zk cX12_plan 82 (.if_icmp .ge 36) 3)))) (and (and (and (zk cX12_plan 85 (.iload 8) 2) (zk cX12_plan 87 (.iload 7) 2)) (and (zk cX12_plan 89 (.iload 9) 2) (zk cX12_plan 91 (.ishr) 1))) (and (and (zk cX12_plan 92 (.iconst 1) 1) (zk cX12_plan 93 (.iand) 1)) (and (zk cX12_plan 94 (.iconst 1) 1) (zk cX12_plan 95 (.if_icmp .ne 13) 3))))) (and (and (and (and (zk cX12_plan 108 (.iconst 0) 1) (zk cX12_plan 98 (.aload_n 0) 1)) (and (zk cX12_plan 99 (.getfield 115) 3) (zk cX12_plan 102 (.iload 9) 2))) (and (and (zk cX12_plan 104 (.iaload) 1) (zk cX12_plan 105 (.goto 4) 3)) (and (zk cX12_plan 221 (.iinc 7 1) 3) (zk cX12_plan 224 (.goto (-177)) 3)))) (and (and (and (zk cX12_plan 199 (.istore 10) 2) (zk cX12_plan 201 (.iload 10) 2)) (and (zk cX12_plan 203 (.ifCond .le 6) 3) (zk cX12_plan 209 (.iload 7) 2))) (and (and (zk cX12_plan 211 (.istore 4) 2) (zk cX12_plan 213 (.iload 9) 2)) (and (zk cX12_plan 215 (.istore 5) 2) (zk cX12_plan 217 (.iload 8) 2)))))) = true := by decide +kernel
theorem dX12_plan_109 : decode cX12_plan 109 = .ok (.iadd, 1) := zk_of (zk_l (zk_l (zk_l (zk_l (zk_l zdX12_plan_109)))))
theorem dX12_plan_110 : decode cX12_plan 110 = .ok (.istore 8, 2) := zk_of (zk_r (zk_l (zk_l (zk_l (zk_l zdX12_plan_109)))))
theorem dX12_plan_112 : decode cX12_plan 112 = .ok (.iinc 9 1, 3) := zk_of (zk_l (zk_r (zk_l (zk_l (zk_l zdX12_plan_109)))))
theorem dX12_plan_115 : decode cX12_plan 115 = .ok (.goto (-39), 3) := zk_of (zk_r (zk_r (zk_l (zk_l (zk_l zdX12_plan_109)))))
theorem dX12_plan_76 : decode cX12_plan 76 = .ok (.iload 9, 2) := zk_of (zk_l (zk_l (zk_r (zk_l (zk_l zdX12_plan_109)))))
theorem dX12_plan_78 : decode cX12_plan 78 = .ok (.aload_n 0, 1) := zk_of (zk_r (zk_l (zk_r (zk_l (zk_l zdX12_plan_109)))))
theorem dX12_plan_79 : decode cX12_plan 79 = .ok (.getfield 401, 3) := zk_of (zk_l (zk_r (zk_r (zk_l (zk_l zdX12_plan_109)))))
theorem dX12_plan_82 : decode cX12_plan 82 = .ok (.if_icmp .ge 36, 3) := zk_of (zk_r (zk_r (zk_r (zk_l (zk_l zdX12_plan_109)))))
theorem dX12_plan_85 : decode cX12_plan 85 = .ok (.iload 8, 2) := zk_of (zk_l (zk_l (zk_l (zk_r (zk_l zdX12_plan_109)))))
theorem dX12_plan_87 : decode cX12_plan 87 = .ok (.iload 7, 2) := zk_of (zk_r (zk_l (zk_l (zk_r (zk_l zdX12_plan_109)))))
theorem dX12_plan_89 : decode cX12_plan 89 = .ok (.iload 9, 2) := zk_of (zk_l (zk_r (zk_l (zk_r (zk_l zdX12_plan_109)))))
theorem dX12_plan_91 : decode cX12_plan 91 = .ok (.ishr, 1) := zk_of (zk_r (zk_r (zk_l (zk_r (zk_l zdX12_plan_109)))))
theorem dX12_plan_92 : decode cX12_plan 92 = .ok (.iconst 1, 1) := zk_of (zk_l (zk_l (zk_r (zk_r (zk_l zdX12_plan_109)))))
theorem dX12_plan_93 : decode cX12_plan 93 = .ok (.iand, 1) := zk_of (zk_r (zk_l (zk_r (zk_r (zk_l zdX12_plan_109)))))
theorem dX12_plan_94 : decode cX12_plan 94 = .ok (.iconst 1, 1) := zk_of (zk_l (zk_r (zk_r (zk_r (zk_l zdX12_plan_109)))))
theorem dX12_plan_95 : decode cX12_plan 95 = .ok (.if_icmp .ne 13, 3) := zk_of (zk_r (zk_r (zk_r (zk_r (zk_l zdX12_plan_109)))))
theorem dX12_plan_108 : decode cX12_plan 108 = .ok (.iconst 0, 1) := zk_of (zk_l (zk_l (zk_l (zk_l (zk_r zdX12_plan_109)))))
theorem dX12_plan_98 : decode cX12_plan 98 = .ok (.aload_n 0, 1) := zk_of (zk_r (zk_l (zk_l (zk_l (zk_r zdX12_plan_109)))))
theorem dX12_plan_99 : decode cX12_plan 99 = .ok (.getfield 115, 3) := zk_of (zk_l (zk_r (zk_l (zk_l (zk_r zdX12_plan_109)))))
theorem dX12_plan_102 : decode cX12_plan 102 = .ok (.iload 9, 2) := zk_of (zk_r (zk_r (zk_l (zk_l (zk_r zdX12_plan_109)))))
theorem dX12_plan_104 : decode cX12_plan 104 = .ok (.iaload, 1) := zk_of (zk_l (zk_l (zk_r (zk_l (zk_r zdX12_plan_109)))))
theorem dX12_plan_105 : decode cX12_plan 105 = .ok (.goto 4, 3) := zk_of (zk_r (zk_l (zk_r (zk_l (zk_r zdX12_plan_109)))))
theorem dX12_plan_221 : decode cX12_plan 221 = .ok (.iinc 7 1, 3) := zk_of (zk_l (zk_r (zk_r (zk_l (zk_r zdX12_plan_109)))))
theorem dX12_plan_224 : decode cX12_plan 224 = .ok (.goto (-177), 3) := zk_of (zk_r (zk_r (zk_r (zk_l (zk_r zdX12_plan_109)))))
theorem dX12_plan_199 : decode cX12_plan 199 = .ok (.istore 10, 2) := zk_of (zk_l (zk_l (zk_l (zk_r (zk_r zdX12_plan_109)))))
theorem dX12_plan_201 : decode cX12_plan 201 = .ok (.iload 10, 2) := zk_of (zk_r (zk_l (zk_l (zk_r (zk_r zdX12_plan_109)))))
theorem dX12_plan_203 : decode cX12_plan 203 = .ok (.ifCond .le 6, 3) := zk_of (zk_l (zk_r (zk_l (zk_r (zk_r zdX12_plan_109)))))
theorem dX12_plan_209 : decode cX12_plan 209 = .ok (.iload 7, 2) := zk_of (zk_r (zk_r (zk_l (zk_r (zk_r zdX12_plan_109)))))
theorem dX12_plan_211 : decode cX12_plan 211 = .ok (.istore 4, 2) := zk_of (zk_l (zk_l (zk_r (zk_r (zk_r zdX12_plan_109)))))
theorem dX12_plan_213 : decode cX12_plan 213 = .ok (.iload 9, 2) := zk_of (zk_r (zk_l (zk_r (zk_r (zk_r zdX12_plan_109)))))
theorem dX12_plan_215 : decode cX12_plan 215 = .ok (.istore 5, 2) := zk_of (zk_l (zk_r (zk_r (zk_r (zk_r zdX12_plan_109)))))
theorem dX12_plan_217 : decode cX12_plan 217 = .ok (.iload 8, 2) := zk_of (zk_r (zk_r (zk_r (zk_r (zk_r zdX12_plan_109)))))
theorem zdX12_plan_219 : (and (and (and (and (and (zk cX12_plan 219 (.istore 6) 2) (zk cX12_plan 206 (.goto 15) 3)) (and (zk cX12_plan 118 (.iload 8) 2) (zk cX12_plan 120 (.iload_n 2) 1))) (and (and (zk cX12_plan 121 (.if_icmp .le 6) 3) (zk cX12_plan 127 (.aload_n 0) 1)) (and (zk cX12_plan 128 (.iload 7) 2) (zk cX12_plan 130 (.iload_n 1) 1)))) (and (and (and (zk cX12_plan 131 (.invokevirtual 424) 3) (zk cX12_plan 134 (.istore 9) 2)) (and (zk cX12_plan 136 (.iload 4) 2) (zk cX12_plan 138 (.iconst (-1)) 1))) (and (and (zk cX12_plan 139 (.if_icmp .ne 7) 3) (zk cX12_plan 146 (.iload 9) 2)) (and (zk cX12_plan 148 (.iload 5) 2) (zk cX12_plan 150 (.if_icmp .eq 11) 3))))) (and (and (and (and (zk cX12_plan 161 (.iload 8) 2) (zk cX12_plan 163 (.iload 6) 2)) (and (zk cX12_plan 165 (.if_icmp .eq 11) 3) (zk cX12_plan 176 (.iload 7) 2))) (and (and (zk cX12_plan 178 (.iload 7) 2) (zk cX12_plan 180 (.iload 4) 2)) (and (zk cX12_plan 182 (.ixor) 1) (zk cX12_plan 183 (.iand) 1)))) (and (and (and (zk cX12_plan 184 (.iload 7) 2) (zk cX12_plan 186 (.iload 4) 2)) (and (zk cX12_plan 188 (.ixor) 1) (zk cX12_plan 189 (.ineg) 1))) (and (and (zk cX12_plan 190 (.iand) 1) (zk cX12_plan 191 (.ifCond .eq 7) 3)) (and (zk cX12_plan 198 (.iconst 1) 1) (zk cX12_plan 194 (.iconst (-1)) 1)))))) = true := by decide +kernel
theorem dX12_plan_219 : decode cX12_plan 219 = .ok (.istore 6, 2) := zk_of (zk_l (zk_l (zk_l (zk_l (zk_l zdX12_plan_219)))))
theorem dX12_plan_206 : decode cX12_plan 206 = .ok (.goto 15, 3) := zk_of (zk_r (zk_l (zk_l (zk_l (zk_l zdX12_plan_219)))))
theorem dX12_plan_118 : decode cX12_plan 118 = .ok (.iload 8, 2) := zk_of (zk_l (zk_r (zk_l (zk_l (zk_l zdX12_plan_219)))))
theorem dX12_plan_120 : decode cX12_plan 120 = .ok (.iload_n 2, 1) := zk_of (zk_r (zk_r (zk_l (zk_l (zk_l zdX12_plan_219)))))
theorem dX12_plan_121 : decode cX12_plan 121 = .ok (.if_icmp .le 6, 3) := zk_of (zk_l (zk_l (zk_r (zk_l (zk_l zdX12_plan_219)))))
theorem dX12_plan_127 : decode cX12_plan 127 = .ok (.aload_n 0, 1) := zk_of (zk_r (zk_l (zk_r (zk_l (zk_l zdX12_plan_219)))))
theorem dX12_plan_128 : decode cX12_plan 128 = .ok (.iload 7, 2) := zk_of (zk_l (zk_r (zk_r (zk_l (zk_l zdX12_plan_219)))))
theorem dX12_plan_130 : decode cX12_plan 130 = .ok (.iload_n 1, 1) := zk_of (zk_r (zk_r (zk_r (zk_l (zk_l zdX12_plan_219)))))
theorem dX12_plan_131 : decode cX12_plan 131 = .ok (.invokevirtual 424, 3) := zk_of (zk_l (zk_l (zk_l (zk_r (zk_l zdX12_plan_219)))))
theorem dX12_plan_134 : decode cX12_plan 134 = .ok (.istore 9, 2) := zk_of (zk_r (zk_l (zk_l (zk_r (zk_l zdX12_plan_219)))))
theorem dX12_plan_136 : decode cX12_plan 136 = .ok (.iload 4, 2) := zk_of (zk_l (zk_r (zk_l (zk_r (zk_l zdX12_plan_219)))))
theorem dX12_plan_138 : decode cX12_plan 138 = .ok (.iconst (-1), 1) := zk_of (zk_r (zk_r (zk_l (zk_r (zk_l zdX12_plan_219)))))
theorem dX12_plan_139 : decode cX12_plan 139 = .ok (.if_icmp .ne 7, 3) := zk_of (zk_l (zk_l (zk_r (zk_r (zk_l zdX12_plan_219)))))
theorem dX12_plan_146 : decode cX12_plan 146 = .ok (.iload 9, 2) := zk_of (zk_r (zk_l (zk_r (zk_r (zk_l zdX12_plan_219)))))
theorem dX12_plan_148 : decode cX12_plan 148 = .ok (.iload 5, 2) := zk_of (zk_l (zk_r (zk_r (zk_r (zk_l zdX12_plan_219)))))
theorem dX12_plan_150 : decode cX12_plan 150 = .ok (.if_icmp .eq 11, 3) := zk_of (zk_r (zk_r (zk_r (zk_r (zk_l zdX12_plan_219)))))
theorem dX12_plan_161 : decode cX12_plan 161 = .ok (.iload 8, 2) := zk_of (zk_l (zk_l (zk_l (zk_l (zk_r zdX12_plan_219)))))
theorem dX12_plan_163 : decode cX12_plan 163 = .ok (.iload 6, 2) := zk_of (zk_r (zk_l (zk_l (zk_l (zk_r zdX12_plan_219)))))
theorem dX12_plan_165 : decode cX12_plan 165 = .ok (.if_icmp .eq 11, 3) := zk_of (zk_l (zk_r (zk_l (zk_l (zk_r zdX12_plan_219)))))
theorem dX12_plan_176 : decode cX12_plan 176 = .ok (.iload 7, 2) := zk_of (zk_r (zk_r (zk_l (zk_l (zk_r zdX12_plan_219)))))
theorem dX12_plan_178 : decode cX12_plan 178 = .ok (.iload 7, 2) := zk_of (zk_l (zk_l (zk_r (zk_l (zk_r zdX12_plan_219)))))
theorem dX12_plan_180 : decode cX12_plan 180 = .ok (.iload 4, 2) := zk_of (zk_r (zk_l (zk_r (zk_l (zk_r zdX12_plan_219)))))
theorem dX12_plan_182 : decode cX12_plan 182 = .ok (.ixor, 1) := zk_of (zk_l (zk_r (zk_r (zk_l (zk_r zdX12_plan_219)))))
theorem dX12_plan_183 : decode cX12_plan 183 = .ok (.iand, 1) := zk_of (zk_r (zk_r (zk_r (zk_l (zk_r zdX12_plan_219)))))
theorem dX12_plan_184 : decode cX12_plan 184 = .ok (.iload 7, 2) := zk_of (zk_l (zk_l (zk_l (zk_r (zk_r zdX12_plan_219)))))
theorem dX12_plan_186 : decode cX12_plan 186 = .ok (.iload 4, 2) := zk_of (zk_r (zk_l (zk_l (zk_r (zk_r zdX12_plan_219)))))
theorem dX12_plan_188 : decode cX12_plan 188 = .ok (.ixor, 1) := zk_of (zk_l (zk_r (zk_l (zk_r (zk_r zdX12_plan_219)))))
theorem dX12_plan_189 : decode cX12_plan 189 = .ok (.ineg, 1) := zk_of (zk_r (zk_r (zk_l (zk_r (zk_r zdX12_plan_219)))))
theorem dX12_plan_190 : decode cX12_plan 190 = .ok (.iand, 1) := zk_of (zk_l (zk_l (zk_r (zk_r (zk_r zdX12_plan_219)))))
theorem dX12_plan_191 : decode cX12_plan 191 = .ok (.ifCond .eq 7, 3) := zk_of (zk_r (zk_l (zk_r (zk_r (zk_r zdX12_plan_219)))))
theorem dX12_plan_198 : decode cX12_plan 198 = .ok (.iconst 1, 1) := zk_of (zk_l (zk_r (zk_r (zk_r (zk_r zdX12_plan_219)))))
theorem dX12_plan_194 : decode cX12_plan 194 = .ok (.iconst (-1), 1) := zk_of (zk_r (zk_r (zk_r (zk_r (zk_r zdX12_plan_219)))))
set_option maxRecDepth 20000 in
theorem ggX12_plan_X12_judged : GoodIn wsX12_plan wsX12_judged := ggi (fun w h => List.mem_cons_of_mem _ (List.mem_append_left _ (List.mem_append_right _ (List.mem_append_left _ h)))) gs_X12_judged
set_option maxRecDepth 20000 in
theorem gX12_plan_X12_judged : GoodIn wsX12_plan (wsV RX12 424 RX12 yX12_judged wsX12_judged) := goodIn_app (goodIn_of _ (by decide +kernel)) ggX12_plan_X12_judged
theorem zdX12_plan_195 : (and (and (and (and (and (zk cX12_plan 195 (.goto 4) 3) (zk cX12_plan 168 (.iload 8) 2)) (and (zk cX12_plan 170 (.iload 6) 2) (zk cX12_plan 172 (.isub) 1))) (and (and (zk cX12_plan 173 (.goto 26) 3) (zk cX12_plan 153 (.iload 9) 2)) (and (zk cX12_plan 155 (.iload 5) 2) (zk cX12_plan 157 (.isub) 1)))) (and (and (and (zk cX12_plan 158 (.goto 41) 3) (zk cX12_plan 142 (.iconst (-1)) 1)) (and (zk cX12_plan 143 (.goto 56) 3) (zk cX12_plan 124 (.goto 97) 3))) (and (and (zk cX12_plan 47 (.iload 7) 2) (zk cX12_plan 49 (.iconst 1) 1)) (and (zk cX12_plan 50 (.aload_n 0) 1) (zk cX12_plan 51 (.getfield 401) 3))))) (and (and (and (and (zk cX12_plan 54 (.ishl) 1) (zk cX12_plan 55 (.if_icmp .ge 172) 3)) (and (zk cX12_plan 58 (.aload_n 0) 1) (zk cX12_plan 59 (.iload 7) 2))) (and (and (zk cX12_plan 61 (.invokevirtual 421) 3) (zk cX12_plan 64 (.ifCond .ne 6) 3)) (and (zk cX12_plan 70 (.iconst 0) 1) (zk cX12_plan 71 (.istore 8) 2)))) (and (and (and (zk cX12_plan 73 (.iconst 0) 1) (zk cX12_plan 74 (.istore 9) 2)) (and (zk cX12_plan 67 (.goto 154) 3) (zk cX12_plan 227 (.iload_n 3) 1))) (and (and (zk cX12_plan 228 (.ifCond .ne 8) 3) (zk cX12_plan 236 (.iload 5) 2)) (and (zk cX12_plan 238 (.ireturn) 1) (zk cX12_plan 231 (.iload 4) 2)))))) = true := by decide +kernel
theorem dX12_plan_195 : decode cX12_plan 195 = .ok (.goto 4, 3) := zk_of (zk_l (zk_l (zk_l (zk_l (zk_l zdX12_plan_195)))))
theorem dX12_plan_168 : decode cX12_plan 168 = .ok (.iload 8, 2) := zk_of (zk_r (zk_l (zk_l (zk_l (zk_l zdX12_plan_195)))))
theorem dX12_plan_170 : decode cX12_plan 170 = .ok (.iload 6, 2) := zk_of (zk_l (zk_r (zk_l (zk_l (zk_l zdX12_plan_195)))))
theorem dX12_plan_172 : decode cX12_plan 172 = .ok (.isub, 1) := zk_of (zk_r (zk_r (zk_l (zk_l (zk_l zdX12_plan_195)))))
theorem dX12_plan_173 : decode cX12_plan 173 = .ok (.goto 26, 3) := zk_of (zk_l (zk_l (zk_r (zk_l (zk_l zdX12_plan_195)))))
theorem dX12_plan_153 : decode cX12_plan 153 = .ok (.iload 9, 2) := zk_of (zk_r (zk_l (zk_r (zk_l (zk_l zdX12_plan_195)))))
theorem dX12_plan_155 : decode cX12_plan 155 = .ok (.iload 5, 2) := zk_of (zk_l (zk_r (zk_r (zk_l (zk_l zdX12_plan_195)))))
theorem dX12_plan_157 : decode cX12_plan 157 = .ok (.isub, 1) := zk_of (zk_r (zk_r (zk_r (zk_l (zk_l zdX12_plan_195)))))
theorem dX12_plan_158 : decode cX12_plan 158 = .ok (.goto 41, 3) := zk_of (zk_l (zk_l (zk_l (zk_r (zk_l zdX12_plan_195)))))
theorem dX12_plan_142 : decode cX12_plan 142 = .ok (.iconst (-1), 1) := zk_of (zk_r (zk_l (zk_l (zk_r (zk_l zdX12_plan_195)))))
theorem dX12_plan_143 : decode cX12_plan 143 = .ok (.goto 56, 3) := zk_of (zk_l (zk_r (zk_l (zk_r (zk_l zdX12_plan_195)))))
theorem dX12_plan_124 : decode cX12_plan 124 = .ok (.goto 97, 3) := zk_of (zk_r (zk_r (zk_l (zk_r (zk_l zdX12_plan_195)))))
theorem dX12_plan_47 : decode cX12_plan 47 = .ok (.iload 7, 2) := zk_of (zk_l (zk_l (zk_r (zk_r (zk_l zdX12_plan_195)))))
theorem dX12_plan_49 : decode cX12_plan 49 = .ok (.iconst 1, 1) := zk_of (zk_r (zk_l (zk_r (zk_r (zk_l zdX12_plan_195)))))
theorem dX12_plan_50 : decode cX12_plan 50 = .ok (.aload_n 0, 1) := zk_of (zk_l (zk_r (zk_r (zk_r (zk_l zdX12_plan_195)))))
theorem dX12_plan_51 : decode cX12_plan 51 = .ok (.getfield 401, 3) := zk_of (zk_r (zk_r (zk_r (zk_r (zk_l zdX12_plan_195)))))
theorem dX12_plan_54 : decode cX12_plan 54 = .ok (.ishl, 1) := zk_of (zk_l (zk_l (zk_l (zk_l (zk_r zdX12_plan_195)))))
theorem dX12_plan_55 : decode cX12_plan 55 = .ok (.if_icmp .ge 172, 3) := zk_of (zk_r (zk_l (zk_l (zk_l (zk_r zdX12_plan_195)))))
theorem dX12_plan_58 : decode cX12_plan 58 = .ok (.aload_n 0, 1) := zk_of (zk_l (zk_r (zk_l (zk_l (zk_r zdX12_plan_195)))))
theorem dX12_plan_59 : decode cX12_plan 59 = .ok (.iload 7, 2) := zk_of (zk_r (zk_r (zk_l (zk_l (zk_r zdX12_plan_195)))))
theorem dX12_plan_61 : decode cX12_plan 61 = .ok (.invokevirtual 421, 3) := zk_of (zk_l (zk_l (zk_r (zk_l (zk_r zdX12_plan_195)))))
theorem dX12_plan_64 : decode cX12_plan 64 = .ok (.ifCond .ne 6, 3) := zk_of (zk_r (zk_l (zk_r (zk_l (zk_r zdX12_plan_195)))))
theorem dX12_plan_70 : decode cX12_plan 70 = .ok (.iconst 0, 1) := zk_of (zk_l (zk_r (zk_r (zk_l (zk_r zdX12_plan_195)))))
theorem dX12_plan_71 : decode cX12_plan 71 = .ok (.istore 8, 2) := zk_of (zk_r (zk_r (zk_r (zk_l (zk_r zdX12_plan_195)))))
theorem dX12_plan_73 : decode cX12_plan 73 = .ok (.iconst 0, 1) := zk_of (zk_l (zk_l (zk_l (zk_r (zk_r zdX12_plan_195)))))
theorem dX12_plan_74 : decode cX12_plan 74 = .ok (.istore 9, 2) := zk_of (zk_r (zk_l (zk_l (zk_r (zk_r zdX12_plan_195)))))
theorem dX12_plan_67 : decode cX12_plan 67 = .ok (.goto 154, 3) := zk_of (zk_l (zk_r (zk_l (zk_r (zk_r zdX12_plan_195)))))
theorem dX12_plan_227 : decode cX12_plan 227 = .ok (.iload_n 3, 1) := zk_of (zk_r (zk_r (zk_l (zk_r (zk_r zdX12_plan_195)))))
theorem dX12_plan_228 : decode cX12_plan 228 = .ok (.ifCond .ne 8, 3) := zk_of (zk_l (zk_l (zk_r (zk_r (zk_r zdX12_plan_195)))))
theorem dX12_plan_236 : decode cX12_plan 236 = .ok (.iload 5, 2) := zk_of (zk_r (zk_l (zk_r (zk_r (zk_r zdX12_plan_195)))))
theorem dX12_plan_238 : decode cX12_plan 238 = .ok (.ireturn, 1) := zk_of (zk_l (zk_r (zk_r (zk_r (zk_r zdX12_plan_195)))))
theorem dX12_plan_231 : decode cX12_plan 231 = .ok (.iload 4, 2) := zk_of (zk_r (zk_r (zk_r (zk_r (zk_r zdX12_plan_195)))))
set_option maxRecDepth 20000 in
theorem ggX12_plan_X12_isRow : GoodIn wsX12_plan wsX12_isRow := ggi (fun w h => List.mem_cons_of_mem _ (List.mem_append_left _ (List.mem_append_right _ (List.mem_append_right _ (List.mem_append_left _ h))))) gs_X12_isRow
set_option maxRecDepth 20000 in
theorem gX12_plan_X12_isRow : GoodIn wsX12_plan (wsV RX12 421 RX12 yX12_isRow wsX12_isRow) := goodIn_app (goodIn_of _ (by decide +kernel)) ggX12_plan_X12_isRow
theorem zdX12_plan_233 : (and (and (and (and (and (zk cX12_plan 233 (.goto 5) 3) (zk cX12_plan 0 (.aload_n 0) 1)) (and (zk cX12_plan 1 (.iconst 0) 1) (zk cX12_plan 2 (.putfield 151) 3))) (and (and (zk cX12_plan 5 (.aload_n 0) 1) (zk cX12_plan 6 (.iload_n 1) 1)) (zk cX12_plan 7 (.invokevirtual 358) 3))) (and (and (and (zk cX12_plan 10 (.ifCond .eq 23) 3) (zk cX12_plan 33 (.iconst (-1)) 1)) (and (zk cX12_plan 34 (.ireturn) 1) (zk cX12_plan 13 (.iload_n 2) 1))) (and (and (zk cX12_plan 14 (.iconst 0) 1) (zk cX12_plan 15 (.sipush 500) 3)) (zk cX12_plan 18 (.invokestatic 155) 3)))) (and (and (and (and (zk cX12_plan 21 (.ifCond .eq 12) 3) (zk cX12_plan 24 (.iload_n 3) 1)) (and (zk cX12_plan 25 (.iconst 0) 1) (zk cX12_plan 26 (.iconst 1) 1))) (and (and (zk cX12_plan 27 (.invokestatic 155) 3) (zk cX12_plan 30 (.ifCond .ne 5) 3)) (zk cX12_plan 35 (.iconst (-1)) 1))) (and (and (and (zk cX12_plan 36 (.istore 4) 2) (zk cX12_plan 38 (.iconst 0) 1)) (and (zk cX12_plan 39 (.istore 5) 2) (zk cX12_plan 41 (.iconst 0) 1))) (and (and (zk cX12_plan 42 (.istore 6) 2) (zk cX12_plan 44 (.iconst 0) 1)) (zk cX12_plan 45 (.istore 7) 2))))) = true := by decide +kernel
theorem dX12_plan_233 : decode cX12_plan 233 = .ok (.goto 5, 3) := zk_of (zk_l (zk_l (zk_l (zk_l (zk_l zdX12_plan_233)))))
theorem dX12_plan_0 : decode cX12_plan 0 = .ok (.aload_n 0, 1) := zk_of (zk_r (zk_l (zk_l (zk_l (zk_l zdX12_plan_233)))))
theorem dX12_plan_1 : decode cX12_plan 1 = .ok (.iconst 0, 1) := zk_of (zk_l (zk_r (zk_l (zk_l (zk_l zdX12_plan_233)))))
theorem dX12_plan_2 : decode cX12_plan 2 = .ok (.putfield 151, 3) := zk_of (zk_r (zk_r (zk_l (zk_l (zk_l zdX12_plan_233)))))
theorem dX12_plan_5 : decode cX12_plan 5 = .ok (.aload_n 0, 1) := zk_of (zk_l (zk_l (zk_r (zk_l (zk_l zdX12_plan_233)))))
theorem dX12_plan_6 : decode cX12_plan 6 = .ok (.iload_n 1, 1) := zk_of (zk_r (zk_l (zk_r (zk_l (zk_l zdX12_plan_233)))))
theorem dX12_plan_7 : decode cX12_plan 7 = .ok (.invokevirtual 358, 3) := zk_of (zk_r (zk_r (zk_l (zk_l zdX12_plan_233))))
theorem dX12_plan_10 : decode cX12_plan 10 = .ok (.ifCond .eq 23, 3) := zk_of (zk_l (zk_l (zk_l (zk_r (zk_l zdX12_plan_233)))))
theorem dX12_plan_33 : decode cX12_plan 33 = .ok (.iconst (-1), 1) := zk_of (zk_r (zk_l (zk_l (zk_r (zk_l zdX12_plan_233)))))
theorem dX12_plan_34 : decode cX12_plan 34 = .ok (.ireturn, 1) := zk_of (zk_l (zk_r (zk_l (zk_r (zk_l zdX12_plan_233)))))
theorem dX12_plan_13 : decode cX12_plan 13 = .ok (.iload_n 2, 1) := zk_of (zk_r (zk_r (zk_l (zk_r (zk_l zdX12_plan_233)))))
theorem dX12_plan_14 : decode cX12_plan 14 = .ok (.iconst 0, 1) := zk_of (zk_l (zk_l (zk_r (zk_r (zk_l zdX12_plan_233)))))
theorem dX12_plan_15 : decode cX12_plan 15 = .ok (.sipush 500, 3) := zk_of (zk_r (zk_l (zk_r (zk_r (zk_l zdX12_plan_233)))))
theorem dX12_plan_18 : decode cX12_plan 18 = .ok (.invokestatic 155, 3) := zk_of (zk_r (zk_r (zk_r (zk_l zdX12_plan_233))))
theorem dX12_plan_21 : decode cX12_plan 21 = .ok (.ifCond .eq 12, 3) := zk_of (zk_l (zk_l (zk_l (zk_l (zk_r zdX12_plan_233)))))
theorem dX12_plan_24 : decode cX12_plan 24 = .ok (.iload_n 3, 1) := zk_of (zk_r (zk_l (zk_l (zk_l (zk_r zdX12_plan_233)))))
theorem dX12_plan_25 : decode cX12_plan 25 = .ok (.iconst 0, 1) := zk_of (zk_l (zk_r (zk_l (zk_l (zk_r zdX12_plan_233)))))
theorem dX12_plan_26 : decode cX12_plan 26 = .ok (.iconst 1, 1) := zk_of (zk_r (zk_r (zk_l (zk_l (zk_r zdX12_plan_233)))))
theorem dX12_plan_27 : decode cX12_plan 27 = .ok (.invokestatic 155, 3) := zk_of (zk_l (zk_l (zk_r (zk_l (zk_r zdX12_plan_233)))))
theorem dX12_plan_30 : decode cX12_plan 30 = .ok (.ifCond .ne 5, 3) := zk_of (zk_r (zk_l (zk_r (zk_l (zk_r zdX12_plan_233)))))
theorem dX12_plan_35 : decode cX12_plan 35 = .ok (.iconst (-1), 1) := zk_of (zk_r (zk_r (zk_l (zk_r zdX12_plan_233))))
theorem dX12_plan_36 : decode cX12_plan 36 = .ok (.istore 4, 2) := zk_of (zk_l (zk_l (zk_l (zk_r (zk_r zdX12_plan_233)))))
theorem dX12_plan_38 : decode cX12_plan 38 = .ok (.iconst 0, 1) := zk_of (zk_r (zk_l (zk_l (zk_r (zk_r zdX12_plan_233)))))
theorem dX12_plan_39 : decode cX12_plan 39 = .ok (.istore 5, 2) := zk_of (zk_l (zk_r (zk_l (zk_r (zk_r zdX12_plan_233)))))
theorem dX12_plan_41 : decode cX12_plan 41 = .ok (.iconst 0, 1) := zk_of (zk_r (zk_r (zk_l (zk_r (zk_r zdX12_plan_233)))))
theorem dX12_plan_42 : decode cX12_plan 42 = .ok (.istore 6, 2) := zk_of (zk_l (zk_l (zk_r (zk_r (zk_r zdX12_plan_233)))))
theorem dX12_plan_44 : decode cX12_plan 44 = .ok (.iconst 0, 1) := zk_of (zk_r (zk_l (zk_r (zk_r (zk_r zdX12_plan_233)))))
theorem dX12_plan_45 : decode cX12_plan 45 = .ok (.istore 7, 2) := zk_of (zk_r (zk_r (zk_r (zk_r zdX12_plan_233))))
set_option maxRecDepth 20000 in
theorem ggX12_plan_X12_isReading : GoodIn wsX12_plan wsX12_isReading := ggi (fun w h => List.mem_cons_of_mem _ (List.mem_append_left _ (List.mem_append_right _ (List.mem_append_right _ (List.mem_append_right _ (List.mem_append_left _ h)))))) gs_X12_isReading
set_option maxRecDepth 20000 in
theorem gX12_plan_X12_isReading : GoodIn wsX12_plan (wsV RX12 358 RX12 yX12_isReading wsX12_isReading) := goodIn_app (goodIn_of _ (by decide +kernel)) ggX12_plan_X12_isReading
set_option maxRecDepth 20000 in
theorem ggX12_plan_X12_isIn : GoodIn wsX12_plan wsX12_isIn := ggi (fun w h => List.mem_cons_of_mem _ (List.mem_append_left _ (List.mem_append_right _ (List.mem_append_right _ (List.mem_append_right _ (List.mem_append_right _ h)))))) gs_X12_isIn
set_option maxRecDepth 20000 in
theorem gX12_plan_X12_isIn : GoodIn wsX12_plan (va_wsS RX12 155 yX12_isIn wsX12_isIn) := goodIn_app (goodIn_of _ (by decide +kernel)) ggX12_plan_X12_isIn
/-- HissHornModel.plan(III)I of cell 0 -/
def rmX12_plan_0 : Room := { frames := 144, cells := 0, slots := 0, locals := 8569 }
theorem hX12_plan_0_X12 : ∀ w ∈ u_ws RX12 TX12 69, w ∈ wsX12_plan := fun w h => (List.mem_cons_of_mem _ (List.mem_append_right _ h))
theorem mX12_plan_0_1 : Cond.fieldLink RX12 151 "HissHornModel" "thrown" "I" ∈ wsX12_plan := (List.mem_cons_of_mem _ (List.mem_append_left _ (List.mem_append_left _ (List.mem_of_getElem? (i := 12) rfl))))
theorem mX12_plan_0_2 : Cond.fieldLink RX12 401 "HissHornModel" "looks" "I" ∈ wsX12_plan := (List.mem_cons_of_mem _ (List.mem_append_left _ (List.mem_append_left _ (List.mem_of_getElem? (i := 13) rfl))))
def GX12_plan_0_109 (k76 : Int32 → Int32 → Int32 → Int32 → Int32 → Int32 → Int32 → Int32 → Int32 → SX → Option (Int32 × SX)) (z1 : Int32) (z2 : Int32) (z3 : Int32) (z4 : Int32) (z5 : Int32) (z6 : Int32) (z7 : Int32) (z9 : Int32) (y0 : Int32) (y1 : Int32) (u : SX) : Option (Int32 × SX) := (lt (y1 + y0) fun v15 => (k76 z1 z2 z3 z4 z5 z6 z7 v15 (z9 + 1) u))
theorem mX12_plan_0_3 : Cond.fieldLink RX12 115 "HissHornModel" "lookCost" "[I" ∈ wsX12_plan := (List.mem_cons_of_mem _ (List.mem_append_left _ (List.mem_append_left _ (List.mem_of_getElem? (i := 14) rfl))))
def LX12_plan_0_76 (k118 : Int32 → Int32 → Int32 → Int32 → Int32 → Int32 → Int32 → Int32 → SX → Option (Int32 × SX)) : Nat → Int32 → Int32 → Int32 → Int32 → Int32 → Int32 → Int32 → Int32 → Int32 → SX → Option (Int32 × SX)
  | 0, _, _, _, _, _, _, _, _, _, _ => none
  | n + 1, z1, z2, z3, z4, z5, z6, z7, z8, z9, u => (if (u.1 21) ≤ z9 then (k118 z1 z2 z3 z4 z5 z6 z7 z8 u) else (if ((z7 >>> (z9 &&& 31)) &&& 1) = 1 then (gd (inb z9 10) (GX12_plan_0_109 (LX12_plan_0_76 k118 n) z1 z2 z3 z4 z5 z6 z7 z9 (u.2.1 32 z9.toNatClampNeg) z8 u)) else (GX12_plan_0_109 (LX12_plan_0_76 k118 n) z1 z2 z3 z4 z5 z6 z7 z9 0 z8 u)))
def GX12_plan_0_221 (k47 : Int32 → Int32 → Int32 → Int32 → Int32 → Int32 → Int32 → SX → Option (Int32 × SX)) (z1 : Int32) (z2 : Int32) (z3 : Int32) (z4 : Int32) (z5 : Int32) (z6 : Int32) (z7 : Int32) (u : SX) : Option (Int32 × SX) := (k47 z1 z2 z3 z4 z5 z6 (z7 + 1) u)
def GX12_plan_0_199 (k47 : Int32 → Int32 → Int32 → Int32 → Int32 → Int32 → Int32 → SX → Option (Int32 × SX)) (z1 : Int32) (z2 : Int32) (z3 : Int32) (z4 : Int32) (z5 : Int32) (z6 : Int32) (z7 : Int32) (z8 : Int32) (z9 : Int32) (y0 : Int32) (u : SX) : Option (Int32 × SX) := (if y0 ≤ 0 then (GX12_plan_0_221 k47 z1 z2 z3 z7 z9 z8 z7 u) else (GX12_plan_0_221 k47 z1 z2 z3 z4 z5 z6 z7 u))
def GX12_plan_0_118 (k47 : Int32 → Int32 → Int32 → Int32 → Int32 → Int32 → Int32 → SX → Option (Int32 × SX)) (z1 : Int32) (z2 : Int32) (z3 : Int32) (z4 : Int32) (z5 : Int32) (z6 : Int32) (z7 : Int32) (z8 : Int32) (u : SX) : Option (Int32 × SX) := (if z8 ≤ z2 then ((fX12_judged_0 z7 z1 u).bind fun q => match q with | (r18, u19) => (if z4 = (-1) then (GX12_plan_0_199 k47 z1 z2 z3 z4 z5 z6 z7 z8 r18 (-1) u19) else (if r18 = z5 then (if z8 = z6 then (if ((z7 &&& (z7 ^^^ z4)) &&& (-(z7 ^^^ z4))) = 0 then (GX12_plan_0_199 k47 z1 z2 z3 z4 z5 z6 z7 z8 r18 1 u19) else (GX12_plan_0_199 k47 z1 z2 z3 z4 z5 z6 z7 z8 r18 (-1) u19)) else (GX12_plan_0_199 k47 z1 z2 z3 z4 z5 z6 z7 z8 r18 (z8 - z6) u19)) else (GX12_plan_0_199 k47 z1 z2 z3 z4 z5 z6 z7 z8 r18 (r18 - z5) u19)))) else (GX12_plan_0_221 k47 z1 z2 z3 z4 z5 z6 z7 u))
def LX12_plan_0_47 (k227 : Int32 → Int32 → Int32 → SX → Option (Int32 × SX)) : Nat → Int32 → Int32 → Int32 → Int32 → Int32 → Int32 → Int32 → SX → Option (Int32 × SX)
  | 0, _, _, _, _, _, _, _, _ => none
  | n + 1, z1, z2, z3, z4, z5, z6, z7, u => (if (1 <<< ((u.1 21) &&& 31)) ≤ z7 then (k227 z3 z4 z5 u) else ((fX12_isRow_0 z7 u).bind fun q => match q with | (r12, u13) => (if r12 = 0 then (GX12_plan_0_221 (LX12_plan_0_47 k227 n) z1 z2 z3 z4 z5 z6 z7 u13) else (LX12_plan_0_76 (GX12_plan_0_118 (LX12_plan_0_47 k227 n)) 5000 z1 z2 z3 z4 z5 z6 z7 0 0 u13))))
def GX12_plan_0_227 (z3 : Int32) (z4 : Int32) (z5 : Int32) (u : SX) : Option (Int32 × SX) := (if z3 = 0 then (some (z4, u)) else (some (z5, u)))
def fX12_plan_0 (x1 : Int32) (x2 : Int32) (x3 : Int32) (u : SX) : Option (Int32 × SX) := (lt (sI u 0 0) fun u1 => ((fX12_isReading_0 x1 u1).bind fun q => match q with | (r3, u4) => (if r3 = 0 then (some ((-1), u4)) else ((fX12_isIn x2 0 500).bind fun r6 => (if r6 = 0 then (some ((-1), u4)) else ((fX12_isIn x3 0 1).bind fun r9 => (if r9 = 0 then (some ((-1), u4)) else (LX12_plan_0_47 GX12_plan_0_227 5000 x1 x2 x3 (-1) 0 0 0 u4))))))))
set_option maxHeartbeats 4000000 in
set_option maxRecDepth 100000 in
theorem wGX12_plan_0_109 {p : Program} {l : Launch} {e : Env} {s : State} {m : MethodId} {args : Array Value} {below : List Frame} {meth : Method} {c : Code} {D : va_G} {cy : Nat → ClassId} {ad st : Nat → Nat} (C : Cx RX12 cX12_plan 11 (some .int) wsX12_plan p s m args meth c) (hK : Ky D [(cy 0, .int), (cy 1, .long), (cy 2, .boolean), (cy 3, .byte), (cy 4, .object "HissHorn$Text")] st s) (hJ : JM ad st) {r : Int32} {u' : SX} {k76 : Int32 → Int32 → Int32 → Int32 → Int32 → Int32 → Int32 → Int32 → Int32 → SX → Option (Int32 × SX)} (hk76 : ∀ (z1 : Int32) (z2 : Int32) (z3 : Int32) (z4 : Int32) (z5 : Int32) (z6 : Int32) (z7 : Int32) (z8 : Int32) (z9 : Int32) (u : SX) (H : Heap) (locs : List Loc) (ls : Array Slot), k76 z1 z2 z3 z4 z5 z6 z7 z8 z9 u = some (r, u') → va_P D vwCl (VM cy ad st u) H → va_S (Ax (AM ad) s.heap.size) s.heap H locs → lv_has ls 11 [(0, .ref (ad 0)), (1, .int z1), (2, .int z2), (3, .int z3), (4, .int z4), (5, .int z5), (6, .int z6), (7, .int z7), (8, .int z8), (9, .int z9)] → W p l e rmX12_plan_0 s m args below meth c H locs 0 0 (MQ below (Qi D (VM cy ad st) (AM ad) s.heap.size r u') args s 0 0 (Ax (AM ad) s.heap.size)) (F0 m 76 ls [])) (z1 : Int32) (z2 : Int32) (z3 : Int32) (z4 : Int32) (z5 : Int32) (z6 : Int32) (z7 : Int32) (z9 : Int32) (y0 : Int32) (y1 : Int32) (u : SX) (H : Heap) (locs : List Loc) (ls : Array Slot) (h : GX12_plan_0_109 k76 z1 z2 z3 z4 z5 z6 z7 z9 y0 y1 u = some (r, u')) (hP : va_P D vwCl (VM cy ad st u) H) (hS : va_S (Ax (AM ad) s.heap.size) s.heap H locs) (hl : lv_has ls 11 [(0, .ref (ad 0)), (1, .int z1), (2, .int z2), (3, .int z3), (4, .int z4), (5, .int z5), (6, .int z6), (7, .int z7), (9, .int z9)]) : W p l e rmX12_plan_0 s m args below meth c H locs 0 0 (MQ below (Qi D (VM cy ad st) (AM ad) s.heap.size r u') args s 0 0 (Ax (AM ad) s.heap.size)) (F0 m 109 ls [.int y0, .int y1]) := by
  unfold GX12_plan_0_109 at h
  refine lv_iadd C.1 C.2.1 dX12_plan_109 ?_
  refine lv_topi (fun v15 hv16 => ?_)
  replace h := lt_e hv16 h
  try dsimp only at h
  refine lv_istore (lv' := [(8, .int v15), (0, .ref (ad 0)), (1, .int z1), (2, .int z2), (3, .int z3), (4, .int z4), (5, .int z5), (6, .int z6), (7, .int z7), (9, .int z9)]) C.1 C.2.1 dX12_plan_110 hl (by decide) rfl (fun ls hl => ?_)
  replace hl := lv_sub (l' := [(0, .ref (ad 0)), (1, .int z1), (2, .int z2), (3, .int z3), (4, .int z4), (5, .int z5), (6, .int z6), (7, .int z7), (8, .int v15), (9, .int z9)]) hl [1, 2, 3, 4, 5, 6, 7, 8, 0, 9] rfl
  refine lv_iinc (v := z9 + 1) (lv' := [(9, .int (z9 + 1)), (0, .ref (ad 0)), (1, .int z1), (2, .int z2), (3, .int z3), (4, .int z4), (5, .int z5), (6, .int z6), (7, .int z7), (8, .int v15)]) C.1 C.2.1 dX12_plan_112 hl (k := 9) rfl rfl (by decide) rfl (fun ls hl => ?_)
  replace hl := lv_sub (l' := [(0, .ref (ad 0)), (1, .int z1), (2, .int z2), (3, .int z3), (4, .int z4), (5, .int z5), (6, .int z6), (7, .int z7), (8, .int v15), (9, .int (z9 + 1))]) hl [1, 2, 3, 4, 5, 6, 7, 8, 9, 0] rfl
  refine lv_goto (tgt := 76) C.1 C.2.1 dX12_plan_115 (by decide) ?_
  exact hk76 _ _ _ _ _ _ _ _ _ _ _ _ _ h hP hS hl
set_option maxHeartbeats 4000000 in
set_option maxRecDepth 100000 in
theorem wLX12_plan_0_76 {p : Program} {l : Launch} {e : Env} {s : State} {m : MethodId} {args : Array Value} {below : List Frame} {meth : Method} {c : Code} {D : va_G} {cy : Nat → ClassId} {ad st : Nat → Nat} (C : Cx RX12 cX12_plan 11 (some .int) wsX12_plan p s m args meth c) (hK : Ky D [(cy 0, .int), (cy 1, .long), (cy 2, .boolean), (cy 3, .byte), (cy 4, .object "HissHorn$Text")] st s) (hJ : JM ad st) {r : Int32} {u' : SX} {k118 : Int32 → Int32 → Int32 → Int32 → Int32 → Int32 → Int32 → Int32 → SX → Option (Int32 × SX)} (hk118 : ∀ (z1 : Int32) (z2 : Int32) (z3 : Int32) (z4 : Int32) (z5 : Int32) (z6 : Int32) (z7 : Int32) (z8 : Int32) (u : SX) (H : Heap) (locs : List Loc) (ls : Array Slot), k118 z1 z2 z3 z4 z5 z6 z7 z8 u = some (r, u') → va_P D vwCl (VM cy ad st u) H → va_S (Ax (AM ad) s.heap.size) s.heap H locs → lv_has ls 11 [(0, .ref (ad 0)), (1, .int z1), (2, .int z2), (3, .int z3), (4, .int z4), (5, .int z5), (6, .int z6), (7, .int z7), (8, .int z8)] → W p l e rmX12_plan_0 s m args below meth c H locs 0 0 (MQ below (Qi D (VM cy ad st) (AM ad) s.heap.size r u') args s 0 0 (Ax (AM ad) s.heap.size)) (F0 m 118 ls [])) : ∀ (n : Nat) (z1 : Int32) (z2 : Int32) (z3 : Int32) (z4 : Int32) (z5 : Int32) (z6 : Int32) (z7 : Int32) (z8 : Int32) (z9 : Int32) (u : SX) (H : Heap) (locs : List Loc) (ls : Array Slot), LX12_plan_0_76 k118 n z1 z2 z3 z4 z5 z6 z7 z8 z9 u = some (r, u') → va_P D vwCl (VM cy ad st u) H → va_S (Ax (AM ad) s.heap.size) s.heap H locs → lv_has ls 11 [(0, .ref (ad 0)), (1, .int z1), (2, .int z2), (3, .int z3), (4, .int z4), (5, .int z5), (6, .int z6), (7, .int z7), (8, .int z8), (9, .int z9)] → W p l e rmX12_plan_0 s m args below meth c H locs 0 0 (MQ below (Qi D (VM cy ad st) (AM ad) s.heap.size r u') args s 0 0 (Ax (AM ad) s.heap.size)) (F0 m 76 ls []) := by
  intro n
  induction n with
  | zero =>
    intro z1 z2 z3 z4 z5 z6 z7 z8 z9 u H locs ls h
    exact absurd h (by intro q; cases q)
  | succ n ih =>
    intro z1 z2 z3 z4 z5 z6 z7 z8 z9 u H locs ls h hP hS hl
    rw [LX12_plan_0_76] at h
    refine lv_iload C.1 C.2.1 dX12_plan_76 (lv_at hl 9 rfl) ?_
    refine lv_aload_n C.1 C.2.1 dX12_plan_78 rfl (lv_at hl 0 rfl) ?_
    refine gM_0_looks C hX12_plan_0_X12 hK hP mX12_plan_0_2 dX12_plan_79 ?_
    refine lv_icmp_ge (tgt := 118) C.1 C.2.1 dX12_plan_82 (by decide) (fun c82 => ?_) (fun c82 => ?_)
    · rw [if_pos c82] at h
      exact hk118 _ _ _ _ _ _ _ _ _ _ _ _ h hP hS (lv_sub hl [0, 1, 2, 3, 4, 5, 6, 7, 8] rfl)
    · rw [if_neg c82] at h
      refine lv_iload C.1 C.2.1 dX12_plan_85 (lv_at hl 8 rfl) ?_
      refine lv_iload C.1 C.2.1 dX12_plan_87 (lv_at hl 7 rfl) ?_
      refine lv_iload C.1 C.2.1 dX12_plan_89 (lv_at hl 9 rfl) ?_
      refine lv_ishr C.1 C.2.1 dX12_plan_91 ?_
      refine lv_iconst (v := 1) C.1 C.2.1 dX12_plan_92 (by decide) ?_
      refine lv_iand C.1 C.2.1 dX12_plan_93 ?_
      refine lv_iconst (v := 1) C.1 C.2.1 dX12_plan_94 (by decide) ?_
      refine lv_icmp_ne (tgt := 108) C.1 C.2.1 dX12_plan_95 (by decide) (fun c95 => ?_) (fun c95 => ?_)
      · rw [if_neg c95] at h
        refine lv_iconst (v := 0) C.1 C.2.1 dX12_plan_108 (by decide) ?_
        exact wGX12_plan_0_109 C hK hJ ih _ _ _ _ _ _ _ _ _ _ _ _ _ _ h hP hS (lv_sub hl [0, 1, 2, 3, 4, 5, 6, 7, 9] rfl)
      · rw [if_pos c95] at h
        refine lv_aload_n C.1 C.2.1 dX12_plan_98 rfl (lv_at hl 0 rfl) ?_
        refine gM_0_lookCost C hX12_plan_0_X12 hK hP mX12_plan_0_3 dX12_plan_99 ?_
        refine lv_iload C.1 C.2.1 dX12_plan_102 (lv_at hl 9 rfl) ?_
        obtain ⟨hg17, h⟩ := gd_some h
        refine lM_32 C hK hP hg17 dX12_plan_104 ?_
        refine lv_goto (tgt := 109) C.1 C.2.1 dX12_plan_105 (by decide) ?_
        exact wGX12_plan_0_109 C hK hJ ih _ _ _ _ _ _ _ _ _ _ _ _ _ _ h hP hS (lv_sub hl [0, 1, 2, 3, 4, 5, 6, 7, 9] rfl)
set_option maxHeartbeats 4000000 in
set_option maxRecDepth 100000 in
theorem wGX12_plan_0_221 {p : Program} {l : Launch} {e : Env} {s : State} {m : MethodId} {args : Array Value} {below : List Frame} {meth : Method} {c : Code} {D : va_G} {cy : Nat → ClassId} {ad st : Nat → Nat} (C : Cx RX12 cX12_plan 11 (some .int) wsX12_plan p s m args meth c) (hK : Ky D [(cy 0, .int), (cy 1, .long), (cy 2, .boolean), (cy 3, .byte), (cy 4, .object "HissHorn$Text")] st s) (hJ : JM ad st) {r : Int32} {u' : SX} {k47 : Int32 → Int32 → Int32 → Int32 → Int32 → Int32 → Int32 → SX → Option (Int32 × SX)} (hk47 : ∀ (z1 : Int32) (z2 : Int32) (z3 : Int32) (z4 : Int32) (z5 : Int32) (z6 : Int32) (z7 : Int32) (u : SX) (H : Heap) (locs : List Loc) (ls : Array Slot), k47 z1 z2 z3 z4 z5 z6 z7 u = some (r, u') → va_P D vwCl (VM cy ad st u) H → va_S (Ax (AM ad) s.heap.size) s.heap H locs → lv_has ls 11 [(0, .ref (ad 0)), (1, .int z1), (2, .int z2), (3, .int z3), (4, .int z4), (5, .int z5), (6, .int z6), (7, .int z7)] → W p l e rmX12_plan_0 s m args below meth c H locs 0 0 (MQ below (Qi D (VM cy ad st) (AM ad) s.heap.size r u') args s 0 0 (Ax (AM ad) s.heap.size)) (F0 m 47 ls [])) (z1 : Int32) (z2 : Int32) (z3 : Int32) (z4 : Int32) (z5 : Int32) (z6 : Int32) (z7 : Int32) (u : SX) (H : Heap) (locs : List Loc) (ls : Array Slot) (h : GX12_plan_0_221 k47 z1 z2 z3 z4 z5 z6 z7 u = some (r, u')) (hP : va_P D vwCl (VM cy ad st u) H) (hS : va_S (Ax (AM ad) s.heap.size) s.heap H locs) (hl : lv_has ls 11 [(0, .ref (ad 0)), (1, .int z1), (2, .int z2), (3, .int z3), (4, .int z4), (5, .int z5), (6, .int z6), (7, .int z7)]) : W p l e rmX12_plan_0 s m args below meth c H locs 0 0 (MQ below (Qi D (VM cy ad st) (AM ad) s.heap.size r u') args s 0 0 (Ax (AM ad) s.heap.size)) (F0 m 221 ls []) := by
  unfold GX12_plan_0_221 at h
  refine lv_iinc (v := z7 + 1) (lv' := [(7, .int (z7 + 1)), (0, .ref (ad 0)), (1, .int z1), (2, .int z2), (3, .int z3), (4, .int z4), (5, .int z5), (6, .int z6)]) C.1 C.2.1 dX12_plan_221 hl (k := 7) rfl rfl (by decide) rfl (fun ls hl => ?_)
  replace hl := lv_sub (l' := [(0, .ref (ad 0)), (1, .int z1), (2, .int z2), (3, .int z3), (4, .int z4), (5, .int z5), (6, .int z6), (7, .int (z7 + 1))]) hl [1, 2, 3, 4, 5, 6, 7, 0] rfl
  refine lv_goto (tgt := 47) C.1 C.2.1 dX12_plan_224 (by decide) ?_
  exact hk47 _ _ _ _ _ _ _ _ _ _ _ h hP hS hl
set_option maxHeartbeats 4000000 in
set_option maxRecDepth 100000 in
theorem wGX12_plan_0_199 {p : Program} {l : Launch} {e : Env} {s : State} {m : MethodId} {args : Array Value} {below : List Frame} {meth : Method} {c : Code} {D : va_G} {cy : Nat → ClassId} {ad st : Nat → Nat} (C : Cx RX12 cX12_plan 11 (some .int) wsX12_plan p s m args meth c) (hK : Ky D [(cy 0, .int), (cy 1, .long), (cy 2, .boolean), (cy 3, .byte), (cy 4, .object "HissHorn$Text")] st s) (hJ : JM ad st) {r : Int32} {u' : SX} {k47 : Int32 → Int32 → Int32 → Int32 → Int32 → Int32 → Int32 → SX → Option (Int32 × SX)} (hk47 : ∀ (z1 : Int32) (z2 : Int32) (z3 : Int32) (z4 : Int32) (z5 : Int32) (z6 : Int32) (z7 : Int32) (u : SX) (H : Heap) (locs : List Loc) (ls : Array Slot), k47 z1 z2 z3 z4 z5 z6 z7 u = some (r, u') → va_P D vwCl (VM cy ad st u) H → va_S (Ax (AM ad) s.heap.size) s.heap H locs → lv_has ls 11 [(0, .ref (ad 0)), (1, .int z1), (2, .int z2), (3, .int z3), (4, .int z4), (5, .int z5), (6, .int z6), (7, .int z7)] → W p l e rmX12_plan_0 s m args below meth c H locs 0 0 (MQ below (Qi D (VM cy ad st) (AM ad) s.heap.size r u') args s 0 0 (Ax (AM ad) s.heap.size)) (F0 m 47 ls [])) (z1 : Int32) (z2 : Int32) (z3 : Int32) (z4 : Int32) (z5 : Int32) (z6 : Int32) (z7 : Int32) (z8 : Int32) (z9 : Int32) (y0 : Int32) (u : SX) (H : Heap) (locs : List Loc) (ls : Array Slot) (h : GX12_plan_0_199 k47 z1 z2 z3 z4 z5 z6 z7 z8 z9 y0 u = some (r, u')) (hP : va_P D vwCl (VM cy ad st u) H) (hS : va_S (Ax (AM ad) s.heap.size) s.heap H locs) (hl : lv_has ls 11 [(0, .ref (ad 0)), (1, .int z1), (2, .int z2), (3, .int z3), (4, .int z4), (5, .int z5), (6, .int z6), (7, .int z7), (8, .int z8), (9, .int z9)]) : W p l e rmX12_plan_0 s m args below meth c H locs 0 0 (MQ below (Qi D (VM cy ad st) (AM ad) s.heap.size r u') args s 0 0 (Ax (AM ad) s.heap.size)) (F0 m 199 ls [.int y0]) := by
  unfold GX12_plan_0_199 at h
  refine lv_istore (lv' := [(10, .int y0), (0, .ref (ad 0)), (1, .int z1), (2, .int z2), (3, .int z3), (4, .int z4), (5, .int z5), (6, .int z6), (7, .int z7), (8, .int z8), (9, .int z9)]) C.1 C.2.1 dX12_plan_199 hl (by decide) rfl (fun ls hl => ?_)
  replace hl := lv_sub (l' := [(0, .ref (ad 0)), (1, .int z1), (2, .int z2), (3, .int z3), (4, .int z4), (5, .int z5), (6, .int z6), (7, .int z7), (8, .int z8), (9, .int z9), (10, .int y0)]) hl [1, 2, 3, 4, 5, 6, 7, 8, 9, 10, 0] rfl
  refine lv_iload C.1 C.2.1 dX12_plan_201 (lv_at hl 10 rfl) ?_
  refine lv_if_le (tgt := 209) C.1 C.2.1 dX12_plan_203 (by decide) (fun c203 => ?_) (fun c203 => ?_)
  · rw [if_pos c203] at h
    refine lv_iload C.1 C.2.1 dX12_plan_209 (lv_at hl 7 rfl) ?_
    refine lv_istore (lv' := [(4, .int z7), (0, .ref (ad 0)), (1, .int z1), (2, .int z2), (3, .int z3), (5, .int z5), (6, .int z6), (7, .int z7), (8, .int z8), (9, .int z9), (10, .int y0)]) C.1 C.2.1 dX12_plan_211 hl (by decide) rfl (fun ls hl => ?_)
    replace hl := lv_sub (l' := [(0, .ref (ad 0)), (1, .int z1), (2, .int z2), (3, .int z3), (4, .int z7), (5, .int z5), (6, .int z6), (7, .int z7), (8, .int z8), (9, .int z9), (10, .int y0)]) hl [1, 2, 3, 4, 0, 5, 6, 7, 8, 9, 10] rfl
    refine lv_iload C.1 C.2.1 dX12_plan_213 (lv_at hl 9 rfl) ?_
    refine lv_istore (lv' := [(5, .int z9), (0, .ref (ad 0)), (1, .int z1), (2, .int z2), (3, .int z3), (4, .int z7), (6, .int z6), (7, .int z7), (8, .int z8), (9, .int z9), (10, .int y0)]) C.1 C.2.1 dX12_plan_215 hl (by decide) rfl (fun ls hl => ?_)
    replace hl := lv_sub (l' := [(0, .ref (ad 0)), (1, .int z1), (2, .int z2), (3, .int z3), (4, .int z7), (5, .int z9), (6, .int z6), (7, .int z7), (8, .int z8), (9, .int z9), (10, .int y0)]) hl [1, 2, 3, 4, 5, 0, 6, 7, 8, 9, 10] rfl
    refine lv_iload C.1 C.2.1 dX12_plan_217 (lv_at hl 8 rfl) ?_
    refine lv_istore (lv' := [(6, .int z8), (0, .ref (ad 0)), (1, .int z1), (2, .int z2), (3, .int z3), (4, .int z7), (5, .int z9), (7, .int z7), (8, .int z8), (9, .int z9), (10, .int y0)]) C.1 C.2.1 dX12_plan_219 hl (by decide) rfl (fun ls hl => ?_)
    replace hl := lv_sub (l' := [(0, .ref (ad 0)), (1, .int z1), (2, .int z2), (3, .int z3), (4, .int z7), (5, .int z9), (6, .int z8), (7, .int z7), (8, .int z8), (9, .int z9), (10, .int y0)]) hl [1, 2, 3, 4, 5, 6, 0, 7, 8, 9, 10] rfl
    exact wGX12_plan_0_221 C hK hJ hk47 _ _ _ _ _ _ _ _ _ _ _ h hP hS (lv_sub hl [0, 1, 2, 3, 4, 5, 6, 7] rfl)
  · rw [if_neg c203] at h
    refine lv_goto (tgt := 221) C.1 C.2.1 dX12_plan_206 (by decide) ?_
    exact wGX12_plan_0_221 C hK hJ hk47 _ _ _ _ _ _ _ _ _ _ _ h hP hS (lv_sub hl [0, 1, 2, 3, 4, 5, 6, 7] rfl)
set_option maxHeartbeats 4000000 in
set_option maxRecDepth 100000 in
theorem wGX12_plan_0_118 {p : Program} {l : Launch} {e : Env} {s : State} {m : MethodId} {args : Array Value} {below : List Frame} {meth : Method} {c : Code} {D : va_G} {cy : Nat → ClassId} {ad st : Nat → Nat} (C : Cx RX12 cX12_plan 11 (some .int) wsX12_plan p s m args meth c) (hK : Ky D [(cy 0, .int), (cy 1, .long), (cy 2, .boolean), (cy 3, .byte), (cy 4, .object "HissHorn$Text")] st s) (hJ : JM ad st) {r : Int32} {u' : SX} {k47 : Int32 → Int32 → Int32 → Int32 → Int32 → Int32 → Int32 → SX → Option (Int32 × SX)} (hk47 : ∀ (z1 : Int32) (z2 : Int32) (z3 : Int32) (z4 : Int32) (z5 : Int32) (z6 : Int32) (z7 : Int32) (u : SX) (H : Heap) (locs : List Loc) (ls : Array Slot), k47 z1 z2 z3 z4 z5 z6 z7 u = some (r, u') → va_P D vwCl (VM cy ad st u) H → va_S (Ax (AM ad) s.heap.size) s.heap H locs → lv_has ls 11 [(0, .ref (ad 0)), (1, .int z1), (2, .int z2), (3, .int z3), (4, .int z4), (5, .int z5), (6, .int z6), (7, .int z7)] → W p l e rmX12_plan_0 s m args below meth c H locs 0 0 (MQ below (Qi D (VM cy ad st) (AM ad) s.heap.size r u') args s 0 0 (Ax (AM ad) s.heap.size)) (F0 m 47 ls [])) (z1 : Int32) (z2 : Int32) (z3 : Int32) (z4 : Int32) (z5 : Int32) (z6 : Int32) (z7 : Int32) (z8 : Int32) (u : SX) (H : Heap) (locs : List Loc) (ls : Array Slot) (h : GX12_plan_0_118 k47 z1 z2 z3 z4 z5 z6 z7 z8 u = some (r, u')) (hP : va_P D vwCl (VM cy ad st u) H) (hS : va_S (Ax (AM ad) s.heap.size) s.heap H locs) (hl : lv_has ls 11 [(0, .ref (ad 0)), (1, .int z1), (2, .int z2), (3, .int z3), (4, .int z4), (5, .int z5), (6, .int z6), (7, .int z7), (8, .int z8)]) : W p l e rmX12_plan_0 s m args below meth c H locs 0 0 (MQ below (Qi D (VM cy ad st) (AM ad) s.heap.size r u') args s 0 0 (Ax (AM ad) s.heap.size)) (F0 m 118 ls []) := by
  unfold GX12_plan_0_118 at h
  refine lv_iload C.1 C.2.1 dX12_plan_118 (lv_at hl 8 rfl) ?_
  refine lv_iload_n C.1 C.2.1 dX12_plan_120 rfl (lv_at hl 2 rfl) ?_
  refine lv_icmp_le (tgt := 127) C.1 C.2.1 dX12_plan_121 (by decide) (fun c121 => ?_) (fun c121 => ?_)
  · rw [if_pos c121] at h
    refine lv_aload_n C.1 C.2.1 dX12_plan_127 rfl (lv_at hl 0 rfl) ?_
    refine lv_iload C.1 C.2.1 dX12_plan_128 (lv_at hl 7 rfl) ?_
    refine lv_iload_n C.1 C.2.1 dX12_plan_130 rfl (lv_at hl 1 rfl) ?_
    obtain ⟨⟨r18, u19⟩, hc20, h⟩ := bd_some h
    try dsimp only at h
    refine cg_i (As := [.int z7, .int z1]) (rest := []) (AM_ge hJ) C hK hP hS (metX12_judged_0 l D cy ad st hJ _ z7 z1 hc20) (cwV 2 C.2.2.2.2.2.1 gX12_plan_X12_judged rfl rfl rfl (by decide +kernel) ⟨(Nat.le_of_ble_eq_true rfl), (Nat.le_of_ble_eq_true rfl)⟩) 0 12 rfl rfl rfl hl.1 rfl (Nat.le_of_ble_eq_true rfl) dX12_plan_131 ⟨Nat.zero_le _, Nat.zero_le _⟩ (fun H locs hP hS => ?_)
    refine lv_istore (lv' := [(9, .int r18), (0, .ref (ad 0)), (1, .int z1), (2, .int z2), (3, .int z3), (4, .int z4), (5, .int z5), (6, .int z6), (7, .int z7), (8, .int z8)]) C.1 C.2.1 dX12_plan_134 hl (by decide) rfl (fun ls hl => ?_)
    replace hl := lv_sub (l' := [(0, .ref (ad 0)), (1, .int z1), (2, .int z2), (3, .int z3), (4, .int z4), (5, .int z5), (6, .int z6), (7, .int z7), (8, .int z8), (9, .int r18)]) hl [1, 2, 3, 4, 5, 6, 7, 8, 9, 0] rfl
    refine lv_iload C.1 C.2.1 dX12_plan_136 (lv_at hl 4 rfl) ?_
    refine lv_iconst (v := (-1)) C.1 C.2.1 dX12_plan_138 (by decide) ?_
    refine lv_icmp_ne (tgt := 146) C.1 C.2.1 dX12_plan_139 (by decide) (fun c139 => ?_) (fun c139 => ?_)
    · rw [if_neg c139] at h
      refine lv_iload C.1 C.2.1 dX12_plan_146 (lv_at hl 9 rfl) ?_
      refine lv_iload C.1 C.2.1 dX12_plan_148 (lv_at hl 5 rfl) ?_
      refine lv_icmp_eq (tgt := 161) C.1 C.2.1 dX12_plan_150 (by decide) (fun c150 => ?_) (fun c150 => ?_)
      · rw [if_pos c150] at h
        refine lv_iload C.1 C.2.1 dX12_plan_161 (lv_at hl 8 rfl) ?_
        refine lv_iload C.1 C.2.1 dX12_plan_163 (lv_at hl 6 rfl) ?_
        refine lv_icmp_eq (tgt := 176) C.1 C.2.1 dX12_plan_165 (by decide) (fun c165 => ?_) (fun c165 => ?_)
        · rw [if_pos c165] at h
          refine lv_iload C.1 C.2.1 dX12_plan_176 (lv_at hl 7 rfl) ?_
          refine lv_iload C.1 C.2.1 dX12_plan_178 (lv_at hl 7 rfl) ?_
          refine lv_iload C.1 C.2.1 dX12_plan_180 (lv_at hl 4 rfl) ?_
          refine lv_ixor C.1 C.2.1 dX12_plan_182 ?_
          refine lv_iand C.1 C.2.1 dX12_plan_183 ?_
          refine lv_iload C.1 C.2.1 dX12_plan_184 (lv_at hl 7 rfl) ?_
          refine lv_iload C.1 C.2.1 dX12_plan_186 (lv_at hl 4 rfl) ?_
          refine lv_ixor C.1 C.2.1 dX12_plan_188 ?_
          refine lv_ineg C.1 C.2.1 dX12_plan_189 ?_
          refine lv_iand C.1 C.2.1 dX12_plan_190 ?_
          refine lv_if_eq (tgt := 198) C.1 C.2.1 dX12_plan_191 (by decide) (fun c191 => ?_) (fun c191 => ?_)
          · rw [if_pos c191] at h
            refine lv_iconst (v := 1) C.1 C.2.1 dX12_plan_198 (by decide) ?_
            exact wGX12_plan_0_199 C hK hJ hk47 _ _ _ _ _ _ _ _ _ _ _ _ _ _ h hP hS hl
          · rw [if_neg c191] at h
            refine lv_iconst (v := (-1)) C.1 C.2.1 dX12_plan_194 (by decide) ?_
            refine lv_goto (tgt := 199) C.1 C.2.1 dX12_plan_195 (by decide) ?_
            exact wGX12_plan_0_199 C hK hJ hk47 _ _ _ _ _ _ _ _ _ _ _ _ _ _ h hP hS hl
        · rw [if_neg c165] at h
          refine lv_iload C.1 C.2.1 dX12_plan_168 (lv_at hl 8 rfl) ?_
          refine lv_iload C.1 C.2.1 dX12_plan_170 (lv_at hl 6 rfl) ?_
          refine lv_isub C.1 C.2.1 dX12_plan_172 ?_
          refine lv_goto (tgt := 199) C.1 C.2.1 dX12_plan_173 (by decide) ?_
          exact wGX12_plan_0_199 C hK hJ hk47 _ _ _ _ _ _ _ _ _ _ _ _ _ _ h hP hS hl
      · rw [if_neg c150] at h
        refine lv_iload C.1 C.2.1 dX12_plan_153 (lv_at hl 9 rfl) ?_
        refine lv_iload C.1 C.2.1 dX12_plan_155 (lv_at hl 5 rfl) ?_
        refine lv_isub C.1 C.2.1 dX12_plan_157 ?_
        refine lv_goto (tgt := 199) C.1 C.2.1 dX12_plan_158 (by decide) ?_
        exact wGX12_plan_0_199 C hK hJ hk47 _ _ _ _ _ _ _ _ _ _ _ _ _ _ h hP hS hl
    · rw [if_pos c139] at h
      refine lv_iconst (v := (-1)) C.1 C.2.1 dX12_plan_142 (by decide) ?_
      refine lv_goto (tgt := 199) C.1 C.2.1 dX12_plan_143 (by decide) ?_
      exact wGX12_plan_0_199 C hK hJ hk47 _ _ _ _ _ _ _ _ _ _ _ _ _ _ h hP hS hl
  · rw [if_neg c121] at h
    refine lv_goto (tgt := 221) C.1 C.2.1 dX12_plan_124 (by decide) ?_
    exact wGX12_plan_0_221 C hK hJ hk47 _ _ _ _ _ _ _ _ _ _ _ h hP hS (lv_sub hl [0, 1, 2, 3, 4, 5, 6, 7] rfl)
set_option maxHeartbeats 4000000 in
set_option maxRecDepth 100000 in
theorem wLX12_plan_0_47 {p : Program} {l : Launch} {e : Env} {s : State} {m : MethodId} {args : Array Value} {below : List Frame} {meth : Method} {c : Code} {D : va_G} {cy : Nat → ClassId} {ad st : Nat → Nat} (C : Cx RX12 cX12_plan 11 (some .int) wsX12_plan p s m args meth c) (hK : Ky D [(cy 0, .int), (cy 1, .long), (cy 2, .boolean), (cy 3, .byte), (cy 4, .object "HissHorn$Text")] st s) (hJ : JM ad st) {r : Int32} {u' : SX} {k227 : Int32 → Int32 → Int32 → SX → Option (Int32 × SX)} (hk227 : ∀ (z3 : Int32) (z4 : Int32) (z5 : Int32) (u : SX) (H : Heap) (locs : List Loc) (ls : Array Slot), k227 z3 z4 z5 u = some (r, u') → va_P D vwCl (VM cy ad st u) H → va_S (Ax (AM ad) s.heap.size) s.heap H locs → lv_has ls 11 [(3, .int z3), (4, .int z4), (5, .int z5)] → W p l e rmX12_plan_0 s m args below meth c H locs 0 0 (MQ below (Qi D (VM cy ad st) (AM ad) s.heap.size r u') args s 0 0 (Ax (AM ad) s.heap.size)) (F0 m 227 ls [])) : ∀ (n : Nat) (z1 : Int32) (z2 : Int32) (z3 : Int32) (z4 : Int32) (z5 : Int32) (z6 : Int32) (z7 : Int32) (u : SX) (H : Heap) (locs : List Loc) (ls : Array Slot), LX12_plan_0_47 k227 n z1 z2 z3 z4 z5 z6 z7 u = some (r, u') → va_P D vwCl (VM cy ad st u) H → va_S (Ax (AM ad) s.heap.size) s.heap H locs → lv_has ls 11 [(0, .ref (ad 0)), (1, .int z1), (2, .int z2), (3, .int z3), (4, .int z4), (5, .int z5), (6, .int z6), (7, .int z7)] → W p l e rmX12_plan_0 s m args below meth c H locs 0 0 (MQ below (Qi D (VM cy ad st) (AM ad) s.heap.size r u') args s 0 0 (Ax (AM ad) s.heap.size)) (F0 m 47 ls []) := by
  intro n
  induction n with
  | zero =>
    intro z1 z2 z3 z4 z5 z6 z7 u H locs ls h
    exact absurd h (by intro q; cases q)
  | succ n ih =>
    intro z1 z2 z3 z4 z5 z6 z7 u H locs ls h hP hS hl
    rw [LX12_plan_0_47] at h
    refine lv_iload C.1 C.2.1 dX12_plan_47 (lv_at hl 7 rfl) ?_
    refine lv_iconst (v := 1) C.1 C.2.1 dX12_plan_49 (by decide) ?_
    refine lv_aload_n C.1 C.2.1 dX12_plan_50 rfl (lv_at hl 0 rfl) ?_
    refine gM_0_looks C hX12_plan_0_X12 hK hP mX12_plan_0_2 dX12_plan_51 ?_
    refine lv_ishl C.1 C.2.1 dX12_plan_54 ?_
    refine lv_icmp_ge (tgt := 227) C.1 C.2.1 dX12_plan_55 (by decide) (fun c55 => ?_) (fun c55 => ?_)
    · rw [if_pos c55] at h
      exact hk227 _ _ _ _ _ _ _ h hP hS (lv_sub hl [3, 4, 5] rfl)
    · rw [if_neg c55] at h
      refine lv_aload_n C.1 C.2.1 dX12_plan_58 rfl (lv_at hl 0 rfl) ?_
      refine lv_iload C.1 C.2.1 dX12_plan_59 (lv_at hl 7 rfl) ?_
      obtain ⟨⟨r12, u13⟩, hc14, h⟩ := bd_some h
      try dsimp only at h
      refine cg_i (As := [.int z7]) (rest := []) (AM_ge hJ) C hK hP hS (metX12_isRow_0 l D cy ad st hJ _ z7 hc14) (cwV 1 C.2.2.2.2.2.1 gX12_plan_X12_isRow rfl rfl rfl (by decide +kernel) ⟨(Nat.le_of_ble_eq_true rfl), (Nat.le_of_ble_eq_true rfl)⟩) 0 12 rfl rfl rfl hl.1 rfl (Nat.le_of_ble_eq_true rfl) dX12_plan_61 ⟨Nat.zero_le _, Nat.zero_le _⟩ (fun H locs hP hS => ?_)
      refine lv_if_ne (tgt := 70) C.1 C.2.1 dX12_plan_64 (by decide) (fun c64 => ?_) (fun c64 => ?_)
      · rw [if_neg c64] at h
        refine lv_iconst (v := 0) C.1 C.2.1 dX12_plan_70 (by decide) ?_
        refine lv_istore (lv' := [(8, .int 0), (0, .ref (ad 0)), (1, .int z1), (2, .int z2), (3, .int z3), (4, .int z4), (5, .int z5), (6, .int z6), (7, .int z7)]) C.1 C.2.1 dX12_plan_71 hl (by decide) rfl (fun ls hl => ?_)
        replace hl := lv_sub (l' := [(0, .ref (ad 0)), (1, .int z1), (2, .int z2), (3, .int z3), (4, .int z4), (5, .int z5), (6, .int z6), (7, .int z7), (8, .int 0)]) hl [1, 2, 3, 4, 5, 6, 7, 8, 0] rfl
        refine lv_iconst (v := 0) C.1 C.2.1 dX12_plan_73 (by decide) ?_
        refine lv_istore (lv' := [(9, .int 0), (0, .ref (ad 0)), (1, .int z1), (2, .int z2), (3, .int z3), (4, .int z4), (5, .int z5), (6, .int z6), (7, .int z7), (8, .int 0)]) C.1 C.2.1 dX12_plan_74 hl (by decide) rfl (fun ls hl => ?_)
        replace hl := lv_sub (l' := [(0, .ref (ad 0)), (1, .int z1), (2, .int z2), (3, .int z3), (4, .int z4), (5, .int z5), (6, .int z6), (7, .int z7), (8, .int 0), (9, .int 0)]) hl [1, 2, 3, 4, 5, 6, 7, 8, 9, 0] rfl
        exact wLX12_plan_0_76 C hK hJ (wGX12_plan_0_118 C hK hJ ih) 5000 _ _ _ _ _ _ _ _ _ _ _ _ _ h hP hS hl
      · rw [if_pos c64] at h
        refine lv_goto (tgt := 221) C.1 C.2.1 dX12_plan_67 (by decide) ?_
        exact wGX12_plan_0_221 C hK hJ ih _ _ _ _ _ _ _ _ _ _ _ h hP hS hl
set_option maxHeartbeats 4000000 in
set_option maxRecDepth 100000 in
theorem wGX12_plan_0_227 {p : Program} {l : Launch} {e : Env} {s : State} {m : MethodId} {args : Array Value} {below : List Frame} {meth : Method} {c : Code} {D : va_G} {cy : Nat → ClassId} {ad st : Nat → Nat} (C : Cx RX12 cX12_plan 11 (some .int) wsX12_plan p s m args meth c) (hK : Ky D [(cy 0, .int), (cy 1, .long), (cy 2, .boolean), (cy 3, .byte), (cy 4, .object "HissHorn$Text")] st s) (hJ : JM ad st) {r : Int32} {u' : SX}   (z3 : Int32) (z4 : Int32) (z5 : Int32) (u : SX) (H : Heap) (locs : List Loc) (ls : Array Slot) (h : GX12_plan_0_227 z3 z4 z5 u = some (r, u')) (hP : va_P D vwCl (VM cy ad st u) H) (hS : va_S (Ax (AM ad) s.heap.size) s.heap H locs) (hl : lv_has ls 11 [(3, .int z3), (4, .int z4), (5, .int z5)]) : W p l e rmX12_plan_0 s m args below meth c H locs 0 0 (MQ below (Qi D (VM cy ad st) (AM ad) s.heap.size r u') args s 0 0 (Ax (AM ad) s.heap.size)) (F0 m 227 ls []) := by
  unfold GX12_plan_0_227 at h
  refine lv_iload_n C.1 C.2.1 dX12_plan_227 rfl (lv_at hl 0 rfl) ?_
  refine lv_if_ne (tgt := 236) C.1 C.2.1 dX12_plan_228 (by decide) (fun c228 => ?_) (fun c228 => ?_)
  · rw [if_neg c228] at h
    refine lv_iload C.1 C.2.1 dX12_plan_236 (lv_at hl 2 rfl) ?_
    cases h
    exact rt_i C hP hS dX12_plan_238
  · rw [if_pos c228] at h
    refine lv_iload C.1 C.2.1 dX12_plan_231 (lv_at hl 1 rfl) ?_
    refine lv_goto (tgt := 238) C.1 C.2.1 dX12_plan_233 (by decide) ?_
    cases h
    exact rt_i C hP hS dX12_plan_238
set_option maxHeartbeats 4000000 in
set_option maxRecDepth 100000 in
theorem wX12_plan_0 {p : Program} {l : Launch} {e : Env} {s : State} {m : MethodId} {args : Array Value} {below : List Frame} {meth : Method} {c : Code} {D : va_G} {cy : Nat → ClassId} {ad st : Nat → Nat} (C : Cx RX12 cX12_plan 11 (some .int) wsX12_plan p s m args meth c) (hK : Ky D [(cy 0, .int), (cy 1, .long), (cy 2, .boolean), (cy 3, .byte), (cy 4, .object "HissHorn$Text")] st s) (hJ : JM ad st) (x1 : Int32) (x2 : Int32) (x3 : Int32) {u : SX} {r : Int32} {u' : SX} {H : Heap} {locs : List Loc} {ls : Array Slot} (h : fX12_plan_0 x1 x2 x3 u = some (r, u')) (hP : va_P D vwCl (VM cy ad st u) H) (hS : va_S (Ax (AM ad) s.heap.size) s.heap H locs) (hl : lv_has ls 11 [(0, .ref (ad 0)), (1, .int x1), (2, .int x2), (3, .int x3)]) : W p l e rmX12_plan_0 s m args below meth c H locs 0 0 (MQ below (Qi D (VM cy ad st) (AM ad) s.heap.size r u') args s 0 0 (Ax (AM ad) s.heap.size)) (F0 m 0 ls []) := by
  unfold fX12_plan_0 at h
  refine lv_aload_n C.1 C.2.1 dX12_plan_0 rfl (lv_at hl 0 rfl) ?_
  refine lv_iconst (v := 0) C.1 C.2.1 dX12_plan_1 (by decide) ?_
  refine pM_0_thrown C hX12_plan_0_X12 hK hP hJ hS mX12_plan_0_1 dX12_plan_2 (fun H locs hP hS => ?_)
  obtain ⟨u1, hu2, h⟩ := lt_some h
  rw [← hu2] at hP
  refine lv_aload_n C.1 C.2.1 dX12_plan_5 rfl (lv_at hl 0 rfl) ?_
  refine lv_iload_n C.1 C.2.1 dX12_plan_6 rfl (lv_at hl 1 rfl) ?_
  obtain ⟨⟨r3, u4⟩, hc5, h⟩ := bd_some h
  try dsimp only at h
  refine cg_i (As := [.int x1]) (rest := []) (AM_ge hJ) C hK hP hS (metX12_isReading_0 l D cy ad st hJ _ x1 hc5) (cwV 1 C.2.2.2.2.2.1 gX12_plan_X12_isReading rfl rfl rfl (by decide +kernel) ⟨(Nat.le_of_ble_eq_true rfl), (Nat.le_of_ble_eq_true rfl)⟩) 0 12 rfl rfl rfl hl.1 rfl (Nat.le_of_ble_eq_true rfl) dX12_plan_7 ⟨Nat.zero_le _, Nat.zero_le _⟩ (fun H locs hP hS => ?_)
  refine lv_if_eq (tgt := 33) C.1 C.2.1 dX12_plan_10 (by decide) (fun c10 => ?_) (fun c10 => ?_)
  · rw [if_pos c10] at h
    refine lv_iconst (v := (-1)) C.1 C.2.1 dX12_plan_33 (by decide) ?_
    cases h
    exact rt_i C hP hS dX12_plan_34
  · rw [if_neg c10] at h
    refine lv_iload_n C.1 C.2.1 dX12_plan_13 rfl (lv_at hl 2 rfl) ?_
    refine lv_iconst (v := 0) C.1 C.2.1 dX12_plan_14 (by decide) ?_
    refine lv_sipush (v := 500) C.1 C.2.1 dX12_plan_15 (by decide) ?_
    obtain ⟨r6, hc8, h⟩ := bd_some h
    refine cs_i (As := [.int x2, .int 0, .int 500]) (rest := []) (AM_ge hJ) C hK hP hS (metX12_isIn l D cy st _ x2 0 500 hc8) (va_cwS 3 C.2.2.2.2.2.1 gX12_plan_X12_isIn rfl rfl rfl (by decide +kernel) ⟨(Nat.le_of_ble_eq_true rfl), (Nat.le_of_ble_eq_true rfl)⟩) rfl hl.1 rfl (Nat.le_of_ble_eq_true rfl) dX12_plan_18 ⟨Nat.zero_le _, Nat.zero_le _⟩ (fun H locs hP hS => ?_)
    refine lv_if_eq (tgt := 33) C.1 C.2.1 dX12_plan_21 (by decide) (fun c21 => ?_) (fun c21 => ?_)
    · rw [if_pos c21] at h
      refine lv_iconst (v := (-1)) C.1 C.2.1 dX12_plan_33 (by decide) ?_
      cases h
      exact rt_i C hP hS dX12_plan_34
    · rw [if_neg c21] at h
      refine lv_iload_n C.1 C.2.1 dX12_plan_24 rfl (lv_at hl 3 rfl) ?_
      refine lv_iconst (v := 0) C.1 C.2.1 dX12_plan_25 (by decide) ?_
      refine lv_iconst (v := 1) C.1 C.2.1 dX12_plan_26 (by decide) ?_
      obtain ⟨r9, hc11, h⟩ := bd_some h
      refine cs_i (As := [.int x3, .int 0, .int 1]) (rest := []) (AM_ge hJ) C hK hP hS (metX12_isIn l D cy st _ x3 0 1 hc11) (va_cwS 3 C.2.2.2.2.2.1 gX12_plan_X12_isIn rfl rfl rfl (by decide +kernel) ⟨(Nat.le_of_ble_eq_true rfl), (Nat.le_of_ble_eq_true rfl)⟩) rfl hl.1 rfl (Nat.le_of_ble_eq_true rfl) dX12_plan_27 ⟨Nat.zero_le _, Nat.zero_le _⟩ (fun H locs hP hS => ?_)
      refine lv_if_ne (tgt := 35) C.1 C.2.1 dX12_plan_30 (by decide) (fun c30 => ?_) (fun c30 => ?_)
      · rw [if_neg c30] at h
        refine lv_iconst (v := (-1)) C.1 C.2.1 dX12_plan_35 (by decide) ?_
        refine lv_istore (lv' := [(4, .int (-1)), (0, .ref (ad 0)), (1, .int x1), (2, .int x2), (3, .int x3)]) C.1 C.2.1 dX12_plan_36 hl (by decide) rfl (fun ls hl => ?_)
        replace hl := lv_sub (l' := [(0, .ref (ad 0)), (1, .int x1), (2, .int x2), (3, .int x3), (4, .int (-1))]) hl [1, 2, 3, 4, 0] rfl
        refine lv_iconst (v := 0) C.1 C.2.1 dX12_plan_38 (by decide) ?_
        refine lv_istore (lv' := [(5, .int 0), (0, .ref (ad 0)), (1, .int x1), (2, .int x2), (3, .int x3), (4, .int (-1))]) C.1 C.2.1 dX12_plan_39 hl (by decide) rfl (fun ls hl => ?_)
        replace hl := lv_sub (l' := [(0, .ref (ad 0)), (1, .int x1), (2, .int x2), (3, .int x3), (4, .int (-1)), (5, .int 0)]) hl [1, 2, 3, 4, 5, 0] rfl
        refine lv_iconst (v := 0) C.1 C.2.1 dX12_plan_41 (by decide) ?_
        refine lv_istore (lv' := [(6, .int 0), (0, .ref (ad 0)), (1, .int x1), (2, .int x2), (3, .int x3), (4, .int (-1)), (5, .int 0)]) C.1 C.2.1 dX12_plan_42 hl (by decide) rfl (fun ls hl => ?_)
        replace hl := lv_sub (l' := [(0, .ref (ad 0)), (1, .int x1), (2, .int x2), (3, .int x3), (4, .int (-1)), (5, .int 0), (6, .int 0)]) hl [1, 2, 3, 4, 5, 6, 0] rfl
        refine lv_iconst (v := 0) C.1 C.2.1 dX12_plan_44 (by decide) ?_
        refine lv_istore (lv' := [(7, .int 0), (0, .ref (ad 0)), (1, .int x1), (2, .int x2), (3, .int x3), (4, .int (-1)), (5, .int 0), (6, .int 0)]) C.1 C.2.1 dX12_plan_45 hl (by decide) rfl (fun ls hl => ?_)
        replace hl := lv_sub (l' := [(0, .ref (ad 0)), (1, .int x1), (2, .int x2), (3, .int x3), (4, .int (-1)), (5, .int 0), (6, .int 0), (7, .int 0)]) hl [1, 2, 3, 4, 5, 6, 7, 0] rfl
        exact wLX12_plan_0_47 C hK hJ (wGX12_plan_0_227 C hK hJ ) 5000 _ _ _ _ _ _ _ _ _ _ _ h hP hS hl
      · rw [if_pos c30] at h
        refine lv_iconst (v := (-1)) C.1 C.2.1 dX12_plan_33 (by decide) ?_
        cases h
        exact rt_i C hP hS dX12_plan_34
theorem metX12_plan_0 (l : Launch) (D : va_G) (cy : Nat → ClassId) (ad st : Nat → Nat) (hJ : JM ad st) (sz : Nat) (x1 : Int32) (x2 : Int32) (x3 : Int32) {u : SX} {r : Int32} {u' : SX} (h : fX12_plan_0 x1 x2 x3 u = some (r, u')) : Met l yX12_plan wsX12_plan rmX12_plan_0 (va_Pc [.ref (ad 0), .int x1, .int x2, .int x3] (Px D [(cy 0, .int), (cy 1, .long), (cy 2, .boolean), (cy 3, .byte), (cy 4, .object "HissHorn$Text")] st (VM cy ad st) sz u)) (Qi D (VM cy ad st) (AM ad) sz r u') 0 0 (Ax (AM ad) sz) := by
  refine Met.ofW (cc := cX12_plan) (maxL := 11) (ret := (some .int)) (by decide) rfl ?_
  intro p e s m args below meth c s₁ B hml hv
  obtain ⟨rfl, hsz, hP, hK⟩ := hv
  subst hsz
  have C : Cx RX12 cX12_plan 11 (some .int) wsX12_plan p s m _ meth c := ⟨B.exec, B.bytes, hml, B.returns, findClass_of_methodNamed B.named, atoms_spec (ws := wsX12_plan) B.pre, B.notSynchronized⟩
  have hl := lv_entry ([.ref (ad 0), .int x1, .int x2, .int x3]) (n := 11) (Nat.le_of_ble_eq_true rfl)
  rw [lg_entry_eq]
  exact wX12_plan_0 C hK hJ x1 x2 x3 h hP va_S.rf hl

theorem zdX12_judge_0 : (and (and (and (and (and (zk cX12_judge 0 (.aload_n 0) 1) (zk cX12_judge 1 (.iconst 0) 1)) (zk cX12_judge 2 (.putfield 151) 3)) (and (zk cX12_judge 5 (.aload_n 0) 1) (zk cX12_judge 6 (.iload_n 2) 1))) (and (and (zk cX12_judge 7 (.invokevirtual 358) 3) (zk cX12_judge 10 (.ifCond .eq 20) 3)) (and (zk cX12_judge 30 (.bipush (-2)) 2) (zk cX12_judge 32 (.ireturn) 1)))) (and (and (and (and (zk cX12_judge 13 (.aload_n 0) 1) (zk cX12_judge 14 (.iload_n 1) 1)) (zk cX12_judge 15 (.invokevirtual 421) 3)) (and (zk cX12_judge 18 (.ifCond .eq 12) 3) (zk cX12_judge 21 (.aload_n 0) 1))) (and (and (zk cX12_judge 22 (.iload_n 1) 1) (zk cX12_judge 23 (.iload_n 2) 1)) (and (zk cX12_judge 24 (.invokevirtual 424) 3) (zk cX12_judge 27 (.goto 5) 3))))) = true := by decide +kernel
theorem dX12_judge_0 : decode cX12_judge 0 = .ok (.aload_n 0, 1) := zk_of (zk_l (zk_l (zk_l (zk_l (zk_l zdX12_judge_0)))))
theorem dX12_judge_1 : decode cX12_judge 1 = .ok (.iconst 0, 1) := zk_of (zk_r (zk_l (zk_l (zk_l (zk_l zdX12_judge_0)))))
theorem dX12_judge_2 : decode cX12_judge 2 = .ok (.putfield 151, 3) := zk_of (zk_r (zk_l (zk_l (zk_l zdX12_judge_0))))
theorem dX12_judge_5 : decode cX12_judge 5 = .ok (.aload_n 0, 1) := zk_of (zk_l (zk_r (zk_l (zk_l zdX12_judge_0))))
theorem dX12_judge_6 : decode cX12_judge 6 = .ok (.iload_n 2, 1) := zk_of (zk_r (zk_r (zk_l (zk_l zdX12_judge_0))))
theorem dX12_judge_7 : decode cX12_judge 7 = .ok (.invokevirtual 358, 3) := zk_of (zk_l (zk_l (zk_r (zk_l zdX12_judge_0))))
theorem dX12_judge_10 : decode cX12_judge 10 = .ok (.ifCond .eq 20, 3) := zk_of (zk_r (zk_l (zk_r (zk_l zdX12_judge_0))))
theorem dX12_judge_30 : decode cX12_judge 30 = .ok (.bipush (-2), 2) := zk_of (zk_l (zk_r (zk_r (zk_l zdX12_judge_0))))
theorem dX12_judge_32 : decode cX12_judge 32 = .ok (.ireturn, 1) := zk_of (zk_r (zk_r (zk_r (zk_l zdX12_judge_0))))
theorem dX12_judge_13 : decode cX12_judge 13 = .ok (.aload_n 0, 1) := zk_of (zk_l (zk_l (zk_l (zk_l (zk_r zdX12_judge_0)))))
theorem dX12_judge_14 : decode cX12_judge 14 = .ok (.iload_n 1, 1) := zk_of (zk_r (zk_l (zk_l (zk_l (zk_r zdX12_judge_0)))))
theorem dX12_judge_15 : decode cX12_judge 15 = .ok (.invokevirtual 421, 3) := zk_of (zk_r (zk_l (zk_l (zk_r zdX12_judge_0))))
theorem dX12_judge_18 : decode cX12_judge 18 = .ok (.ifCond .eq 12, 3) := zk_of (zk_l (zk_r (zk_l (zk_r zdX12_judge_0))))
theorem dX12_judge_21 : decode cX12_judge 21 = .ok (.aload_n 0, 1) := zk_of (zk_r (zk_r (zk_l (zk_r zdX12_judge_0))))
theorem dX12_judge_22 : decode cX12_judge 22 = .ok (.iload_n 1, 1) := zk_of (zk_l (zk_l (zk_r (zk_r zdX12_judge_0))))
theorem dX12_judge_23 : decode cX12_judge 23 = .ok (.iload_n 2, 1) := zk_of (zk_r (zk_l (zk_r (zk_r zdX12_judge_0))))
theorem dX12_judge_24 : decode cX12_judge 24 = .ok (.invokevirtual 424, 3) := zk_of (zk_l (zk_r (zk_r (zk_r zdX12_judge_0))))
theorem dX12_judge_27 : decode cX12_judge 27 = .ok (.goto 5, 3) := zk_of (zk_r (zk_r (zk_r (zk_r zdX12_judge_0))))
set_option maxRecDepth 20000 in
theorem ggX12_judge_X12_isReading : GoodIn wsX12_judge wsX12_isReading := ggi (fun w h => List.mem_cons_of_mem _ (List.mem_append_left _ (List.mem_append_right _ (List.mem_append_left _ h)))) gs_X12_isReading
set_option maxRecDepth 20000 in
theorem gX12_judge_X12_isReading : GoodIn wsX12_judge (wsV RX12 358 RX12 yX12_isReading wsX12_isReading) := goodIn_app (goodIn_of _ (by decide +kernel)) ggX12_judge_X12_isReading
set_option maxRecDepth 20000 in
theorem ggX12_judge_X12_isRow : GoodIn wsX12_judge wsX12_isRow := ggi (fun w h => List.mem_cons_of_mem _ (List.mem_append_left _ (List.mem_append_right _ (List.mem_append_right _ (List.mem_append_left _ h))))) gs_X12_isRow
set_option maxRecDepth 20000 in
theorem gX12_judge_X12_isRow : GoodIn wsX12_judge (wsV RX12 421 RX12 yX12_isRow wsX12_isRow) := goodIn_app (goodIn_of _ (by decide +kernel)) ggX12_judge_X12_isRow
set_option maxRecDepth 20000 in
theorem ggX12_judge_X12_judged : GoodIn wsX12_judge wsX12_judged := ggi (fun w h => List.mem_cons_of_mem _ (List.mem_append_left _ (List.mem_append_right _ (List.mem_append_right _ (List.mem_append_right _ h))))) gs_X12_judged
set_option maxRecDepth 20000 in
theorem gX12_judge_X12_judged : GoodIn wsX12_judge (wsV RX12 424 RX12 yX12_judged wsX12_judged) := goodIn_app (goodIn_of _ (by decide +kernel)) ggX12_judge_X12_judged
/-- HissHornModel.judge(II)I of cell 0 -/
def rmX12_judge_0 : Room := { frames := 144, cells := 0, slots := 0, locals := 8569 }
theorem hX12_judge_0_X12 : ∀ w ∈ u_ws RX12 TX12 69, w ∈ wsX12_judge := fun w h => (List.mem_cons_of_mem _ (List.mem_append_right _ h))
theorem mX12_judge_0_1 : Cond.fieldLink RX12 151 "HissHornModel" "thrown" "I" ∈ wsX12_judge := (List.mem_cons_of_mem _ (List.mem_append_left _ (List.mem_append_left _ (List.mem_of_getElem? (i := 10) rfl))))
def fX12_judge_0 (x1 : Int32) (x2 : Int32) (u : SX) : Option (Int32 × SX) := (lt (sI u 0 0) fun u1 => ((fX12_isReading_0 x2 u1).bind fun q => match q with | (r3, u4) => (if r3 = 0 then (some ((-2), u4)) else ((fX12_isRow_0 x1 u4).bind fun q => match q with | (r6, u7) => (if r6 = 0 then (some ((-2), u7)) else ((fX12_judged_0 x1 x2 u7).bind fun q => match q with | (r9, u10) => (some (r9, u10))))))))
set_option maxHeartbeats 4000000 in
set_option maxRecDepth 100000 in
theorem wX12_judge_0 {p : Program} {l : Launch} {e : Env} {s : State} {m : MethodId} {args : Array Value} {below : List Frame} {meth : Method} {c : Code} {D : va_G} {cy : Nat → ClassId} {ad st : Nat → Nat} (C : Cx RX12 cX12_judge 3 (some .int) wsX12_judge p s m args meth c) (hK : Ky D [(cy 0, .int), (cy 1, .long), (cy 2, .boolean), (cy 3, .byte), (cy 4, .object "HissHorn$Text")] st s) (hJ : JM ad st) (x1 : Int32) (x2 : Int32) {u : SX} {r : Int32} {u' : SX} {H : Heap} {locs : List Loc} {ls : Array Slot} (h : fX12_judge_0 x1 x2 u = some (r, u')) (hP : va_P D vwCl (VM cy ad st u) H) (hS : va_S (Ax (AM ad) s.heap.size) s.heap H locs) (hl : lv_has ls 3 [(0, .ref (ad 0)), (1, .int x1), (2, .int x2)]) : W p l e rmX12_judge_0 s m args below meth c H locs 0 0 (MQ below (Qi D (VM cy ad st) (AM ad) s.heap.size r u') args s 0 0 (Ax (AM ad) s.heap.size)) (F0 m 0 ls []) := by
  unfold fX12_judge_0 at h
  refine lv_aload_n C.1 C.2.1 dX12_judge_0 rfl (lv_at hl 0 rfl) ?_
  refine lv_iconst (v := 0) C.1 C.2.1 dX12_judge_1 (by decide) ?_
  refine pM_0_thrown C hX12_judge_0_X12 hK hP hJ hS mX12_judge_0_1 dX12_judge_2 (fun H locs hP hS => ?_)
  obtain ⟨u1, hu2, h⟩ := lt_some h
  rw [← hu2] at hP
  refine lv_aload_n C.1 C.2.1 dX12_judge_5 rfl (lv_at hl 0 rfl) ?_
  refine lv_iload_n C.1 C.2.1 dX12_judge_6 rfl (lv_at hl 2 rfl) ?_
  obtain ⟨⟨r3, u4⟩, hc5, h⟩ := bd_some h
  try dsimp only at h
  refine cg_i (As := [.int x2]) (rest := []) (AM_ge hJ) C hK hP hS (metX12_isReading_0 l D cy ad st hJ _ x2 hc5) (cwV 1 C.2.2.2.2.2.1 gX12_judge_X12_isReading rfl rfl rfl (by decide +kernel) ⟨(Nat.le_of_ble_eq_true rfl), (Nat.le_of_ble_eq_true rfl)⟩) 0 12 rfl rfl rfl hl.1 rfl (Nat.le_of_ble_eq_true rfl) dX12_judge_7 ⟨Nat.zero_le _, Nat.zero_le _⟩ (fun H locs hP hS => ?_)
  refine lv_if_eq (tgt := 30) C.1 C.2.1 dX12_judge_10 (by decide) (fun c10 => ?_) (fun c10 => ?_)
  · rw [if_pos c10] at h
    refine lv_bipush (v := (-2)) C.1 C.2.1 dX12_judge_30 (by decide) ?_
    cases h
    exact rt_i C hP hS dX12_judge_32
  · rw [if_neg c10] at h
    refine lv_aload_n C.1 C.2.1 dX12_judge_13 rfl (lv_at hl 0 rfl) ?_
    refine lv_iload_n C.1 C.2.1 dX12_judge_14 rfl (lv_at hl 1 rfl) ?_
    obtain ⟨⟨r6, u7⟩, hc8, h⟩ := bd_some h
    try dsimp only at h
    refine cg_i (As := [.int x1]) (rest := []) (AM_ge hJ) C hK hP hS (metX12_isRow_0 l D cy ad st hJ _ x1 hc8) (cwV 1 C.2.2.2.2.2.1 gX12_judge_X12_isRow rfl rfl rfl (by decide +kernel) ⟨(Nat.le_of_ble_eq_true rfl), (Nat.le_of_ble_eq_true rfl)⟩) 0 12 rfl rfl rfl hl.1 rfl (Nat.le_of_ble_eq_true rfl) dX12_judge_15 ⟨Nat.zero_le _, Nat.zero_le _⟩ (fun H locs hP hS => ?_)
    refine lv_if_eq (tgt := 30) C.1 C.2.1 dX12_judge_18 (by decide) (fun c18 => ?_) (fun c18 => ?_)
    · rw [if_pos c18] at h
      refine lv_bipush (v := (-2)) C.1 C.2.1 dX12_judge_30 (by decide) ?_
      cases h
      exact rt_i C hP hS dX12_judge_32
    · rw [if_neg c18] at h
      refine lv_aload_n C.1 C.2.1 dX12_judge_21 rfl (lv_at hl 0 rfl) ?_
      refine lv_iload_n C.1 C.2.1 dX12_judge_22 rfl (lv_at hl 1 rfl) ?_
      refine lv_iload_n C.1 C.2.1 dX12_judge_23 rfl (lv_at hl 2 rfl) ?_
      obtain ⟨⟨r9, u10⟩, hc11, h⟩ := bd_some h
      try dsimp only at h
      refine cg_i (As := [.int x1, .int x2]) (rest := []) (AM_ge hJ) C hK hP hS (metX12_judged_0 l D cy ad st hJ _ x1 x2 hc11) (cwV 2 C.2.2.2.2.2.1 gX12_judge_X12_judged rfl rfl rfl (by decide +kernel) ⟨(Nat.le_of_ble_eq_true rfl), (Nat.le_of_ble_eq_true rfl)⟩) 0 12 rfl rfl rfl hl.1 rfl (Nat.le_of_ble_eq_true rfl) dX12_judge_24 ⟨Nat.zero_le _, Nat.zero_le _⟩ (fun H locs hP hS => ?_)
      refine lv_goto (tgt := 32) C.1 C.2.1 dX12_judge_27 (by decide) ?_
      cases h
      exact rt_i C hP hS dX12_judge_32
theorem metX12_judge_0 (l : Launch) (D : va_G) (cy : Nat → ClassId) (ad st : Nat → Nat) (hJ : JM ad st) (sz : Nat) (x1 : Int32) (x2 : Int32) {u : SX} {r : Int32} {u' : SX} (h : fX12_judge_0 x1 x2 u = some (r, u')) : Met l yX12_judge wsX12_judge rmX12_judge_0 (va_Pc [.ref (ad 0), .int x1, .int x2] (Px D [(cy 0, .int), (cy 1, .long), (cy 2, .boolean), (cy 3, .byte), (cy 4, .object "HissHorn$Text")] st (VM cy ad st) sz u)) (Qi D (VM cy ad st) (AM ad) sz r u') 0 0 (Ax (AM ad) sz) := by
  refine Met.ofW (cc := cX12_judge) (maxL := 3) (ret := (some .int)) (by decide) rfl ?_
  intro p e s m args below meth c s₁ B hml hv
  obtain ⟨rfl, hsz, hP, hK⟩ := hv
  subst hsz
  have C : Cx RX12 cX12_judge 3 (some .int) wsX12_judge p s m _ meth c := ⟨B.exec, B.bytes, hml, B.returns, findClass_of_methodNamed B.named, atoms_spec (ws := wsX12_judge) B.pre, B.notSynchronized⟩
  have hl := lv_entry ([.ref (ad 0), .int x1, .int x2]) (n := 3) (Nat.le_of_ble_eq_true rfl)
  rw [lg_entry_eq]
  exact wX12_judge_0 C hK hJ x1 x2 h hP va_S.rf hl

theorem zdX12_leans_0 : (and (and (and (and (and (zk cX12_leans 0 (.aload_n 0) 1) (zk cX12_leans 1 (.iconst 0) 1)) (zk cX12_leans 2 (.putfield 151) 3)) (and (and (zk cX12_leans 5 (.aload_n 0) 1) (zk cX12_leans 6 (.iload_n 1) 1)) (zk cX12_leans 7 (.invokevirtual 358) 3))) (and (and (and (zk cX12_leans 10 (.ifCond .eq 11) 3) (zk cX12_leans 21 (.ldc_w 330) 3)) (zk cX12_leans 24 (.ireturn) 1)) (and (zk cX12_leans 13 (.aload_n 0) 1) (zk cX12_leans 14 (.iload_n 2) 1)))) (and (and (and (and (zk cX12_leans 15 (.invokevirtual 307) 3) (zk cX12_leans 18 (.ifCond .ne 7) 3)) (zk cX12_leans 25 (.aload_n 0) 1)) (and (zk cX12_leans 26 (.iload_n 1) 1) (zk cX12_leans 27 (.invokevirtual 343) 3))) (and (and (and (zk cX12_leans 30 (.aload_n 0) 1) (zk cX12_leans 31 (.getfield 71) 3)) (zk cX12_leans 34 (.iload_n 2) 1)) (and (zk cX12_leans 35 (.iaload) 1) (zk cX12_leans 36 (.ireturn) 1))))) = true := by decide +kernel
theorem dX12_leans_0 : decode cX12_leans 0 = .ok (.aload_n 0, 1) := zk_of (zk_l (zk_l (zk_l (zk_l (zk_l zdX12_leans_0)))))
theorem dX12_leans_1 : decode cX12_leans 1 = .ok (.iconst 0, 1) := zk_of (zk_r (zk_l (zk_l (zk_l (zk_l zdX12_leans_0)))))
theorem dX12_leans_2 : decode cX12_leans 2 = .ok (.putfield 151, 3) := zk_of (zk_r (zk_l (zk_l (zk_l zdX12_leans_0))))
theorem dX12_leans_5 : decode cX12_leans 5 = .ok (.aload_n 0, 1) := zk_of (zk_l (zk_l (zk_r (zk_l (zk_l zdX12_leans_0)))))
theorem dX12_leans_6 : decode cX12_leans 6 = .ok (.iload_n 1, 1) := zk_of (zk_r (zk_l (zk_r (zk_l (zk_l zdX12_leans_0)))))
theorem dX12_leans_7 : decode cX12_leans 7 = .ok (.invokevirtual 358, 3) := zk_of (zk_r (zk_r (zk_l (zk_l zdX12_leans_0))))
theorem dX12_leans_10 : decode cX12_leans 10 = .ok (.ifCond .eq 11, 3) := zk_of (zk_l (zk_l (zk_l (zk_r (zk_l zdX12_leans_0)))))
theorem dX12_leans_21 : decode cX12_leans 21 = .ok (.ldc_w 330, 3) := zk_of (zk_r (zk_l (zk_l (zk_r (zk_l zdX12_leans_0)))))
theorem dX12_leans_24 : decode cX12_leans 24 = .ok (.ireturn, 1) := zk_of (zk_r (zk_l (zk_r (zk_l zdX12_leans_0))))
theorem dX12_leans_13 : decode cX12_leans 13 = .ok (.aload_n 0, 1) := zk_of (zk_l (zk_r (zk_r (zk_l zdX12_leans_0))))
theorem dX12_leans_14 : decode cX12_leans 14 = .ok (.iload_n 2, 1) := zk_of (zk_r (zk_r (zk_r (zk_l zdX12_leans_0))))
theorem dX12_leans_15 : decode cX12_leans 15 = .ok (.invokevirtual 307, 3) := zk_of (zk_l (zk_l (zk_l (zk_l (zk_r zdX12_leans_0)))))
theorem dX12_leans_18 : decode cX12_leans 18 = .ok (.ifCond .ne 7, 3) := zk_of (zk_r (zk_l (zk_l (zk_l (zk_r zdX12_leans_0)))))
theorem dX12_leans_25 : decode cX12_leans 25 = .ok (.aload_n 0, 1) := zk_of (zk_r (zk_l (zk_l (zk_r zdX12_leans_0))))
theorem dX12_leans_26 : decode cX12_leans 26 = .ok (.iload_n 1, 1) := zk_of (zk_l (zk_r (zk_l (zk_r zdX12_leans_0))))
theorem dX12_leans_27 : decode cX12_leans 27 = .ok (.invokevirtual 343, 3) := zk_of (zk_r (zk_r (zk_l (zk_r zdX12_leans_0))))
theorem dX12_leans_30 : decode cX12_leans 30 = .ok (.aload_n 0, 1) := zk_of (zk_l (zk_l (zk_l (zk_r (zk_r zdX12_leans_0)))))
theorem dX12_leans_31 : decode cX12_leans 31 = .ok (.getfield 71, 3) := zk_of (zk_r (zk_l (zk_l (zk_r (zk_r zdX12_leans_0)))))
theorem dX12_leans_34 : decode cX12_leans 34 = .ok (.iload_n 2, 1) := zk_of (zk_r (zk_l (zk_r (zk_r zdX12_leans_0))))
theorem dX12_leans_35 : decode cX12_leans 35 = .ok (.iaload, 1) := zk_of (zk_l (zk_r (zk_r (zk_r zdX12_leans_0))))
theorem dX12_leans_36 : decode cX12_leans 36 = .ok (.ireturn, 1) := zk_of (zk_r (zk_r (zk_r (zk_r zdX12_leans_0))))
set_option maxRecDepth 20000 in
theorem ggX12_leans_X12_isReading : GoodIn wsX12_leans wsX12_isReading := ggi (fun w h => List.mem_cons_of_mem _ (List.mem_append_left _ (List.mem_append_right _ (List.mem_append_left _ h)))) gs_X12_isReading
set_option maxRecDepth 20000 in
theorem gX12_leans_X12_isReading : GoodIn wsX12_leans (wsV RX12 358 RX12 yX12_isReading wsX12_isReading) := goodIn_app (goodIn_of _ (by decide +kernel)) ggX12_leans_X12_isReading
set_option maxRecDepth 20000 in
theorem ggX12_leans_X12_isPart : GoodIn wsX12_leans wsX12_isPart := ggi (fun w h => List.mem_cons_of_mem _ (List.mem_append_left _ (List.mem_append_right _ (List.mem_append_right _ (List.mem_append_left _ h))))) gs_X12_isPart
set_option maxRecDepth 20000 in
theorem gX12_leans_X12_isPart : GoodIn wsX12_leans (wsV RX12 307 RX12 yX12_isPart wsX12_isPart) := goodIn_app (goodIn_of _ (by decide +kernel)) ggX12_leans_X12_isPart
set_option maxRecDepth 20000 in
theorem ggX12_leans_X12_layWorthsOf : GoodIn wsX12_leans wsX12_layWorthsOf := ggi (fun w h => List.mem_cons_of_mem _ (List.mem_append_left _ (List.mem_append_right _ (List.mem_append_right _ (List.mem_append_right _ h))))) gs_X12_layWorthsOf
set_option maxRecDepth 20000 in
theorem gX12_leans_X12_layWorthsOf : GoodIn wsX12_leans (wsV RX12 343 RX12 yX12_layWorthsOf wsX12_layWorthsOf) := goodIn_app (goodIn_of _ (by decide +kernel)) ggX12_leans_X12_layWorthsOf
/-- HissHornModel.leans(II)I of cell 0 -/
def rmX12_leans_0 : Room := { frames := 141, cells := 0, slots := 0, locals := 8502 }
theorem hX12_leans_0_X12 : ∀ w ∈ u_ws RX12 TX12 69, w ∈ wsX12_leans := fun w h => (List.mem_cons_of_mem _ (List.mem_append_right _ h))
theorem mX12_leans_0_1 : Cond.fieldLink RX12 151 "HissHornModel" "thrown" "I" ∈ wsX12_leans := (List.mem_cons_of_mem _ (List.mem_append_left _ (List.mem_append_left _ (List.mem_of_getElem? (i := 10) rfl))))
theorem mX12_leans_0_2 : Cond.constant RX12 330 (-100000000) ∈ wsX12_leans := (List.mem_cons_of_mem _ (List.mem_append_left _ (List.mem_append_left _ (List.mem_of_getElem? (i := 11) rfl))))
theorem mX12_leans_0_3 : Cond.fieldLink RX12 71 "HissHornModel" "worths" "[I" ∈ wsX12_leans := (List.mem_cons_of_mem _ (List.mem_append_left _ (List.mem_append_left _ (List.mem_of_getElem? (i := 12) rfl))))
def fX12_leans_0 (x1 : Int32) (x2 : Int32) (u : SX) : Option (Int32 × SX) := (lt (sI u 0 0) fun u1 => ((fX12_isReading_0 x1 u1).bind fun q => match q with | (r3, u4) => (if r3 = 0 then (some ((-100000000), u4)) else ((fX12_isPart_0 x2 u4).bind fun q => match q with | (r6, u7) => (if r6 = 0 then (some ((-100000000), u7)) else ((fX12_layWorthsOf_0 x1 u7).bind fun q => match q with | (r9, u10) => (gd (inb x2 12) (some (u10.2.1 18 x2.toNatClampNeg, u10)))))))))
set_option maxHeartbeats 4000000 in
set_option maxRecDepth 100000 in
theorem wX12_leans_0 {p : Program} {l : Launch} {e : Env} {s : State} {m : MethodId} {args : Array Value} {below : List Frame} {meth : Method} {c : Code} {D : va_G} {cy : Nat → ClassId} {ad st : Nat → Nat} (C : Cx RX12 cX12_leans 3 (some .int) wsX12_leans p s m args meth c) (hK : Ky D [(cy 0, .int), (cy 1, .long), (cy 2, .boolean), (cy 3, .byte), (cy 4, .object "HissHorn$Text")] st s) (hJ : JM ad st) (x1 : Int32) (x2 : Int32) {u : SX} {r : Int32} {u' : SX} {H : Heap} {locs : List Loc} {ls : Array Slot} (h : fX12_leans_0 x1 x2 u = some (r, u')) (hP : va_P D vwCl (VM cy ad st u) H) (hS : va_S (Ax (AM ad) s.heap.size) s.heap H locs) (hl : lv_has ls 3 [(0, .ref (ad 0)), (1, .int x1), (2, .int x2)]) : W p l e rmX12_leans_0 s m args below meth c H locs 0 0 (MQ below (Qi D (VM cy ad st) (AM ad) s.heap.size r u') args s 0 0 (Ax (AM ad) s.heap.size)) (F0 m 0 ls []) := by
  unfold fX12_leans_0 at h
  refine lv_aload_n C.1 C.2.1 dX12_leans_0 rfl (lv_at hl 0 rfl) ?_
  refine lv_iconst (v := 0) C.1 C.2.1 dX12_leans_1 (by decide) ?_
  refine pM_0_thrown C hX12_leans_0_X12 hK hP hJ hS mX12_leans_0_1 dX12_leans_2 (fun H locs hP hS => ?_)
  obtain ⟨u1, hu2, h⟩ := lt_some h
  rw [← hu2] at hP
  refine lv_aload_n C.1 C.2.1 dX12_leans_5 rfl (lv_at hl 0 rfl) ?_
  refine lv_iload_n C.1 C.2.1 dX12_leans_6 rfl (lv_at hl 1 rfl) ?_
  obtain ⟨⟨r3, u4⟩, hc5, h⟩ := bd_some h
  try dsimp only at h
  refine cg_i (As := [.int x1]) (rest := []) (AM_ge hJ) C hK hP hS (metX12_isReading_0 l D cy ad st hJ _ x1 hc5) (cwV 1 C.2.2.2.2.2.1 gX12_leans_X12_isReading rfl rfl rfl (by decide +kernel) ⟨(Nat.le_of_ble_eq_true rfl), (Nat.le_of_ble_eq_true rfl)⟩) 0 12 rfl rfl rfl hl.1 rfl (Nat.le_of_ble_eq_true rfl) dX12_leans_7 ⟨Nat.zero_le _, Nat.zero_le _⟩ (fun H locs hP hS => ?_)
  refine lv_if_eq (tgt := 21) C.1 C.2.1 dX12_leans_10 (by decide) (fun c10 => ?_) (fun c10 => ?_)
  · rw [if_pos c10] at h
    refine lv_ldcw C.1 C.2.1 C.2.2.2.2.1 (C.2.2.2.2.2.1 _ mX12_leans_0_2) dX12_leans_21 ?_
    cases h
    exact rt_i C hP hS dX12_leans_24
  · rw [if_neg c10] at h
    refine lv_aload_n C.1 C.2.1 dX12_leans_13 rfl (lv_at hl 0 rfl) ?_
    refine lv_iload_n C.1 C.2.1 dX12_leans_14 rfl (lv_at hl 2 rfl) ?_
    obtain ⟨⟨r6, u7⟩, hc8, h⟩ := bd_some h
    try dsimp only at h
    refine cg_i (As := [.int x2]) (rest := []) (AM_ge hJ) C hK hP hS (metX12_isPart_0 l D cy ad st hJ _ x2 hc8) (cwV 1 C.2.2.2.2.2.1 gX12_leans_X12_isPart rfl rfl rfl (by decide +kernel) ⟨(Nat.le_of_ble_eq_true rfl), (Nat.le_of_ble_eq_true rfl)⟩) 0 12 rfl rfl rfl hl.1 rfl (Nat.le_of_ble_eq_true rfl) dX12_leans_15 ⟨Nat.zero_le _, Nat.zero_le _⟩ (fun H locs hP hS => ?_)
    refine lv_if_ne (tgt := 25) C.1 C.2.1 dX12_leans_18 (by decide) (fun c18 => ?_) (fun c18 => ?_)
    · rw [if_neg c18] at h
      refine lv_aload_n C.1 C.2.1 dX12_leans_25 rfl (lv_at hl 0 rfl) ?_
      refine lv_iload_n C.1 C.2.1 dX12_leans_26 rfl (lv_at hl 1 rfl) ?_
      obtain ⟨⟨r9, u10⟩, hc11, h⟩ := bd_some h
      try dsimp only at h
      refine cg_v (As := [.int x1]) (rest := []) (AM_ge hJ) C hK hP hS (metX12_layWorthsOf_0 l D cy ad st hJ _ x1 hc11) (cwV 1 C.2.2.2.2.2.1 gX12_leans_X12_layWorthsOf rfl rfl rfl (by decide +kernel) ⟨(Nat.le_of_ble_eq_true rfl), (Nat.le_of_ble_eq_true rfl)⟩) 0 12 rfl rfl rfl hl.1 rfl (Nat.le_of_ble_eq_true rfl) dX12_leans_27 ⟨Nat.zero_le _, Nat.zero_le _⟩ (fun H locs hP hS => ?_)
      refine lv_aload_n C.1 C.2.1 dX12_leans_30 rfl (lv_at hl 0 rfl) ?_
      refine gM_0_worths C hX12_leans_0_X12 hK hP mX12_leans_0_3 dX12_leans_31 ?_
      refine lv_iload_n C.1 C.2.1 dX12_leans_34 rfl (lv_at hl 2 rfl) ?_
      obtain ⟨hg12, h⟩ := gd_some h
      refine lM_18 C hK hP hg12 dX12_leans_35 ?_
      cases h
      exact rt_i C hP hS dX12_leans_36
    · rw [if_pos c18] at h
      refine lv_ldcw C.1 C.2.1 C.2.2.2.2.1 (C.2.2.2.2.2.1 _ mX12_leans_0_2) dX12_leans_21 ?_
      cases h
      exact rt_i C hP hS dX12_leans_24
theorem metX12_leans_0 (l : Launch) (D : va_G) (cy : Nat → ClassId) (ad st : Nat → Nat) (hJ : JM ad st) (sz : Nat) (x1 : Int32) (x2 : Int32) {u : SX} {r : Int32} {u' : SX} (h : fX12_leans_0 x1 x2 u = some (r, u')) : Met l yX12_leans wsX12_leans rmX12_leans_0 (va_Pc [.ref (ad 0), .int x1, .int x2] (Px D [(cy 0, .int), (cy 1, .long), (cy 2, .boolean), (cy 3, .byte), (cy 4, .object "HissHorn$Text")] st (VM cy ad st) sz u)) (Qi D (VM cy ad st) (AM ad) sz r u') 0 0 (Ax (AM ad) sz) := by
  refine Met.ofW (cc := cX12_leans) (maxL := 3) (ret := (some .int)) (by decide) rfl ?_
  intro p e s m args below meth c s₁ B hml hv
  obtain ⟨rfl, hsz, hP, hK⟩ := hv
  subst hsz
  have C : Cx RX12 cX12_leans 3 (some .int) wsX12_leans p s m _ meth c := ⟨B.exec, B.bytes, hml, B.returns, findClass_of_methodNamed B.named, atoms_spec (ws := wsX12_leans) B.pre, B.notSynchronized⟩
  have hl := lv_entry ([.ref (ad 0), .int x1, .int x2]) (n := 3) (Nat.le_of_ble_eq_true rfl)
  rw [lg_entry_eq]
  exact wX12_leans_0 C hK hJ x1 x2 h hP va_S.rf hl

theorem zdX12_guessWorth_0 : (and (and (and (and (and (zk cX12_guessWorth 0 (.aload_n 0) 1) (zk cX12_guessWorth 1 (.invokevirtual 271) 3)) (zk cX12_guessWorth 4 (.aload_n 0) 1)) (and (zk cX12_guessWorth 5 (.getfield 23) 3) (zk cX12_guessWorth 8 (.bipush 97) 2))) (and (and (zk cX12_guessWorth 10 (.iload_n 2) 1) (zk cX12_guessWorth 11 (.iastore) 1)) (and (zk cX12_guessWorth 12 (.aload_n 0) 1) (zk cX12_guessWorth 13 (.getfield 23) 3)))) (and (and (and (zk cX12_guessWorth 16 (.bipush 108) 2) (zk cX12_guessWorth 18 (.iload_n 3) 1)) (and (zk cX12_guessWorth 19 (.iastore) 1) (zk cX12_guessWorth 20 (.aload_n 0) 1))) (and (and (zk cX12_guessWorth 21 (.iconst 1) 1) (zk cX12_guessWorth 22 (.iload_n 1) 1)) (and (zk cX12_guessWorth 23 (.invokevirtual 274) 3) (zk cX12_guessWorth 26 (.ireturn) 1))))) = true := by decide +kernel
theorem dX12_guessWorth_0 : decode cX12_guessWorth 0 = .ok (.aload_n 0, 1) := zk_of (zk_l (zk_l (zk_l (zk_l (zk_l zdX12_guessWorth_0)))))
theorem dX12_guessWorth_1 : decode cX12_guessWorth 1 = .ok (.invokevirtual 271, 3) := zk_of (zk_r (zk_l (zk_l (zk_l (zk_l zdX12_guessWorth_0)))))
theorem dX12_guessWorth_4 : decode cX12_guessWorth 4 = .ok (.aload_n 0, 1) := zk_of (zk_r (zk_l (zk_l (zk_l zdX12_guessWorth_0))))
theorem dX12_guessWorth_5 : decode cX12_guessWorth 5 = .ok (.getfield 23, 3) := zk_of (zk_l (zk_r (zk_l (zk_l zdX12_guessWorth_0))))
theorem dX12_guessWorth_8 : decode cX12_guessWorth 8 = .ok (.bipush 97, 2) := zk_of (zk_r (zk_r (zk_l (zk_l zdX12_guessWorth_0))))
theorem dX12_guessWorth_10 : decode cX12_guessWorth 10 = .ok (.iload_n 2, 1) := zk_of (zk_l (zk_l (zk_r (zk_l zdX12_guessWorth_0))))
theorem dX12_guessWorth_11 : decode cX12_guessWorth 11 = .ok (.iastore, 1) := zk_of (zk_r (zk_l (zk_r (zk_l zdX12_guessWorth_0))))
theorem dX12_guessWorth_12 : decode cX12_guessWorth 12 = .ok (.aload_n 0, 1) := zk_of (zk_l (zk_r (zk_r (zk_l zdX12_guessWorth_0))))
theorem dX12_guessWorth_13 : decode cX12_guessWorth 13 = .ok (.getfield 23, 3) := zk_of (zk_r (zk_r (zk_r (zk_l zdX12_guessWorth_0))))
theorem dX12_guessWorth_16 : decode cX12_guessWorth 16 = .ok (.bipush 108, 2) := zk_of (zk_l (zk_l (zk_l (zk_r zdX12_guessWorth_0))))
theorem dX12_guessWorth_18 : decode cX12_guessWorth 18 = .ok (.iload_n 3, 1) := zk_of (zk_r (zk_l (zk_l (zk_r zdX12_guessWorth_0))))
theorem dX12_guessWorth_19 : decode cX12_guessWorth 19 = .ok (.iastore, 1) := zk_of (zk_l (zk_r (zk_l (zk_r zdX12_guessWorth_0))))
theorem dX12_guessWorth_20 : decode cX12_guessWorth 20 = .ok (.aload_n 0, 1) := zk_of (zk_r (zk_r (zk_l (zk_r zdX12_guessWorth_0))))
theorem dX12_guessWorth_21 : decode cX12_guessWorth 21 = .ok (.iconst 1, 1) := zk_of (zk_l (zk_l (zk_r (zk_r zdX12_guessWorth_0))))
theorem dX12_guessWorth_22 : decode cX12_guessWorth 22 = .ok (.iload_n 1, 1) := zk_of (zk_r (zk_l (zk_r (zk_r zdX12_guessWorth_0))))
theorem dX12_guessWorth_23 : decode cX12_guessWorth 23 = .ok (.invokevirtual 274, 3) := zk_of (zk_l (zk_r (zk_r (zk_r zdX12_guessWorth_0))))
theorem dX12_guessWorth_26 : decode cX12_guessWorth 26 = .ok (.ireturn, 1) := zk_of (zk_r (zk_r (zk_r (zk_r zdX12_guessWorth_0))))
set_option maxRecDepth 20000 in
theorem ggX12_guessWorth_X12_noLetters : GoodIn wsX12_guessWorth wsX12_noLetters := ggi (fun w h => List.mem_cons_of_mem _ (List.mem_append_left _ (List.mem_append_right _ (List.mem_append_left _ h)))) gs_X12_noLetters
set_option maxRecDepth 20000 in
theorem gX12_guessWorth_X12_noLetters : GoodIn wsX12_guessWorth (wsV RX12 271 RX12 yX12_noLetters wsX12_noLetters) := goodIn_app (goodIn_of _ (by decide +kernel)) ggX12_guessWorth_X12_noLetters
set_option maxRecDepth 20000 in
theorem ggX12_guessWorth_X12_worthOf : GoodIn wsX12_guessWorth wsX12_worthOf := ggi (fun w h => List.mem_cons_of_mem _ (List.mem_append_left _ (List.mem_append_right _ (List.mem_append_right _ h)))) gs_X12_worthOf
set_option maxRecDepth 20000 in
theorem gX12_guessWorth_X12_worthOf : GoodIn wsX12_guessWorth (wsV RX12 274 RX12 yX12_worthOf wsX12_worthOf) := goodIn_app (goodIn_of _ (by decide +kernel)) ggX12_guessWorth_X12_worthOf
/-- HissHornModel.guessWorth(III)I of cell 0 -/
def rmX12_guessWorth_0 : Room := { frames := 138, cells := 0, slots := 0, locals := 8427 }
theorem hX12_guessWorth_0_X12 : ∀ w ∈ u_ws RX12 TX12 69, w ∈ wsX12_guessWorth := fun w h => (List.mem_cons_of_mem _ (List.mem_append_right _ h))
theorem mX12_guessWorth_0_1 : Cond.fieldLink RX12 23 "HissHornModel" "letters" "[I" ∈ wsX12_guessWorth := (List.mem_cons_of_mem _ (List.mem_append_left _ (List.mem_append_left _ (List.mem_of_getElem? (i := 7) rfl))))
def fX12_guessWorth_0 (x1 : Int32) (x2 : Int32) (x3 : Int32) (u : SX) : Option (Int32 × SX) := ((fX12_noLetters_0  u).bind fun q => match q with | (r1, u2) => (gd (inb 97 128) (lt (sA u2 5 (upd (u2.2.1 5) (97 : Int32).toNatClampNeg x2)) fun u5 => (gd (inb 108 128) (lt (sA u5 5 (upd (u5.2.1 5) (108 : Int32).toNatClampNeg x3)) fun u8 => ((fX12_worthOf_0 1 x1 u8).bind fun q => match q with | (r10, u11) => (some (r10, u11))))))))
set_option maxHeartbeats 4000000 in
set_option maxRecDepth 100000 in
theorem wX12_guessWorth_0 {p : Program} {l : Launch} {e : Env} {s : State} {m : MethodId} {args : Array Value} {below : List Frame} {meth : Method} {c : Code} {D : va_G} {cy : Nat → ClassId} {ad st : Nat → Nat} (C : Cx RX12 cX12_guessWorth 4 (some .int) wsX12_guessWorth p s m args meth c) (hK : Ky D [(cy 0, .int), (cy 1, .long), (cy 2, .boolean), (cy 3, .byte), (cy 4, .object "HissHorn$Text")] st s) (hJ : JM ad st) (x1 : Int32) (x2 : Int32) (x3 : Int32) {u : SX} {r : Int32} {u' : SX} {H : Heap} {locs : List Loc} {ls : Array Slot} (h : fX12_guessWorth_0 x1 x2 x3 u = some (r, u')) (hP : va_P D vwCl (VM cy ad st u) H) (hS : va_S (Ax (AM ad) s.heap.size) s.heap H locs) (hl : lv_has ls 4 [(0, .ref (ad 0)), (1, .int x1), (2, .int x2), (3, .int x3)]) : W p l e rmX12_guessWorth_0 s m args below meth c H locs 0 0 (MQ below (Qi D (VM cy ad st) (AM ad) s.heap.size r u') args s 0 0 (Ax (AM ad) s.heap.size)) (F0 m 0 ls []) := by
  unfold fX12_guessWorth_0 at h
  refine lv_aload_n C.1 C.2.1 dX12_guessWorth_0 rfl (lv_at hl 0 rfl) ?_
  obtain ⟨⟨r1, u2⟩, hc3, h⟩ := bd_some h
  try dsimp only at h
  refine cg_v (As := []) (rest := []) (AM_ge hJ) C hK hP hS (metX12_noLetters_0 l D cy ad st hJ _  hc3) (cwV 0 C.2.2.2.2.2.1 gX12_guessWorth_X12_noLetters rfl rfl rfl (by decide +kernel) ⟨(Nat.le_of_ble_eq_true rfl), (Nat.le_of_ble_eq_true rfl)⟩) 0 12 rfl rfl rfl hl.1 rfl (Nat.le_of_ble_eq_true rfl) dX12_guessWorth_1 ⟨Nat.zero_le _, Nat.zero_le _⟩ (fun H locs hP hS => ?_)
  refine lv_aload_n C.1 C.2.1 dX12_guessWorth_4 rfl (lv_at hl 0 rfl) ?_
  refine gM_0_letters C hX12_guessWorth_0_X12 hK hP mX12_guessWorth_0_1 dX12_guessWorth_5 ?_
  refine lv_bipush (v := 97) C.1 C.2.1 dX12_guessWorth_8 (by decide) ?_
  refine lv_iload_n C.1 C.2.1 dX12_guessWorth_10 rfl (lv_at hl 2 rfl) ?_
  obtain ⟨hg4, h⟩ := gd_some h
  refine tM_5 C hK hP hJ hS hg4 dX12_guessWorth_11 (fun H locs hP hS => ?_)
  obtain ⟨u5, hu6, h⟩ := lt_some h
  rw [← hu6] at hP
  refine lv_aload_n C.1 C.2.1 dX12_guessWorth_12 rfl (lv_at hl 0 rfl) ?_
  refine gM_0_letters C hX12_guessWorth_0_X12 hK hP mX12_guessWorth_0_1 dX12_guessWorth_13 ?_
  refine lv_bipush (v := 108) C.1 C.2.1 dX12_guessWorth_16 (by decide) ?_
  refine lv_iload_n C.1 C.2.1 dX12_guessWorth_18 rfl (lv_at hl 3 rfl) ?_
  obtain ⟨hg7, h⟩ := gd_some h
  refine tM_5 C hK hP hJ hS hg7 dX12_guessWorth_19 (fun H locs hP hS => ?_)
  obtain ⟨u8, hu9, h⟩ := lt_some h
  rw [← hu9] at hP
  refine lv_aload_n C.1 C.2.1 dX12_guessWorth_20 rfl (lv_at hl 0 rfl) ?_
  refine lv_iconst (v := 1) C.1 C.2.1 dX12_guessWorth_21 (by decide) ?_
  refine lv_iload_n C.1 C.2.1 dX12_guessWorth_22 rfl (lv_at hl 1 rfl) ?_
  obtain ⟨⟨r10, u11⟩, hc12, h⟩ := bd_some h
  try dsimp only at h
  refine cg_i (As := [.int 1, .int x1]) (rest := []) (AM_ge hJ) C hK hP hS (metX12_worthOf_0 l D cy ad st hJ _ 1 x1 hc12) (cwV 2 C.2.2.2.2.2.1 gX12_guessWorth_X12_worthOf rfl rfl rfl (by decide +kernel) ⟨(Nat.le_of_ble_eq_true rfl), (Nat.le_of_ble_eq_true rfl)⟩) 0 12 rfl rfl rfl hl.1 rfl (Nat.le_of_ble_eq_true rfl) dX12_guessWorth_23 ⟨Nat.zero_le _, Nat.zero_le _⟩ (fun H locs hP hS => ?_)
  cases h
  exact rt_i C hP hS dX12_guessWorth_26
theorem metX12_guessWorth_0 (l : Launch) (D : va_G) (cy : Nat → ClassId) (ad st : Nat → Nat) (hJ : JM ad st) (sz : Nat) (x1 : Int32) (x2 : Int32) (x3 : Int32) {u : SX} {r : Int32} {u' : SX} (h : fX12_guessWorth_0 x1 x2 x3 u = some (r, u')) : Met l yX12_guessWorth wsX12_guessWorth rmX12_guessWorth_0 (va_Pc [.ref (ad 0), .int x1, .int x2, .int x3] (Px D [(cy 0, .int), (cy 1, .long), (cy 2, .boolean), (cy 3, .byte), (cy 4, .object "HissHorn$Text")] st (VM cy ad st) sz u)) (Qi D (VM cy ad st) (AM ad) sz r u') 0 0 (Ax (AM ad) sz) := by
  refine Met.ofW (cc := cX12_guessWorth) (maxL := 4) (ret := (some .int)) (by decide) rfl ?_
  intro p e s m args below meth c s₁ B hml hv
  obtain ⟨rfl, hsz, hP, hK⟩ := hv
  subst hsz
  have C : Cx RX12 cX12_guessWorth 4 (some .int) wsX12_guessWorth p s m _ meth c := ⟨B.exec, B.bytes, hml, B.returns, findClass_of_methodNamed B.named, atoms_spec (ws := wsX12_guessWorth) B.pre, B.notSynchronized⟩
  have hl := lv_entry ([.ref (ad 0), .int x1, .int x2, .int x3]) (n := 4) (Nat.le_of_ble_eq_true rfl)
  rw [lg_entry_eq]
  exact wX12_guessWorth_0 C hK hJ x1 x2 x3 h hP va_S.rf hl
