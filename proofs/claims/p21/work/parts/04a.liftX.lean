theorem zdX11_within_0 : (and (and (and (and (zk cX11_within 0 (.iload_n 0) 1) (zk cX11_within 1 (.iload_n 1) 1)) (zk cX11_within 2 (.if_icmp .lt 12) 3)) (and (zk cX11_within 14 (.iconst 0) 1) (zk cX11_within 15 (.ireturn) 1))) (and (and (and (zk cX11_within 5 (.iload_n 0) 1) (zk cX11_within 6 (.iload_n 2) 1)) (zk cX11_within 7 (.if_icmp .gt 7) 3)) (and (zk cX11_within 10 (.iconst 1) 1) (zk cX11_within 11 (.goto 4) 3)))) = true := by decide +kernel
theorem dX11_within_0 : decode cX11_within 0 = .ok (.iload_n 0, 1) := zk_of (zk_l (zk_l (zk_l (zk_l zdX11_within_0))))
theorem dX11_within_1 : decode cX11_within 1 = .ok (.iload_n 1, 1) := zk_of (zk_r (zk_l (zk_l (zk_l zdX11_within_0))))
theorem dX11_within_2 : decode cX11_within 2 = .ok (.if_icmp .lt 12, 3) := zk_of (zk_r (zk_l (zk_l zdX11_within_0)))
theorem dX11_within_14 : decode cX11_within 14 = .ok (.iconst 0, 1) := zk_of (zk_l (zk_r (zk_l zdX11_within_0)))
theorem dX11_within_15 : decode cX11_within 15 = .ok (.ireturn, 1) := zk_of (zk_r (zk_r (zk_l zdX11_within_0)))
theorem dX11_within_5 : decode cX11_within 5 = .ok (.iload_n 0, 1) := zk_of (zk_l (zk_l (zk_l (zk_r zdX11_within_0))))
theorem dX11_within_6 : decode cX11_within 6 = .ok (.iload_n 2, 1) := zk_of (zk_r (zk_l (zk_l (zk_r zdX11_within_0))))
theorem dX11_within_7 : decode cX11_within 7 = .ok (.if_icmp .gt 7, 3) := zk_of (zk_r (zk_l (zk_r zdX11_within_0)))
theorem dX11_within_10 : decode cX11_within 10 = .ok (.iconst 1, 1) := zk_of (zk_l (zk_r (zk_r zdX11_within_0)))
theorem dX11_within_11 : decode cX11_within 11 = .ok (.goto 4, 3) := zk_of (zk_r (zk_r (zk_r zdX11_within_0)))
/-- HissHorn.within(III)Z -/
def rmX11_within : Room := { frames := 0, cells := 0, slots := 0, locals := 0 }
def fX11_within (x0 : Int32) (x1 : Int32) (x2 : Int32) : Option Int32 := (if x0 < x1 then (gd (isB 0) (some 0)) else (if x2 < x0 then (gd (isB 0) (some 0)) else (gd (isB 1) (some 1))))
set_option maxHeartbeats 4000000 in
set_option maxRecDepth 100000 in
theorem wX11_within {p : Program} {l : Launch} {e : Env} {s : State} {m : MethodId} {args : Array Value} {below : List Frame} {meth : Method} {c : Code} {D : va_G} {cy : Nat → ClassId} {st : Nat → Nat} (C : Cx RX11 cX11_within 3 (some .boolean) wsX11_within p s m args meth c) (hK : Ky D [(cy 0, .int), (cy 1, .long), (cy 2, .boolean), (cy 3, .byte), (cy 4, .object "HissHorn$Text")] st s) (x0 : Int32) (x1 : Int32) (x2 : Int32) {r : Int32} {H : Heap} {locs : List Loc} {ls : Array Slot} (h : fX11_within x0 x1 x2 = some r) (hP : va_P D vwCl (V0 u00) H) (hS : va_S (Ax (A0) s.heap.size) s.heap H locs) (hl : lv_has ls 3 [(0, .int x0), (1, .int x1), (2, .int x2)]) : W p l e rmX11_within s m args below meth c H locs 0 0 (MQ below (Qi D (V0) (A0) s.heap.size r u00) args s 0 0 (Ax (A0) s.heap.size)) (F0 m 0 ls []) := by
  unfold fX11_within at h
  refine lv_iload_n C.1 C.2.1 dX11_within_0 rfl (lv_at hl 0 rfl) ?_
  refine lv_iload_n C.1 C.2.1 dX11_within_1 rfl (lv_at hl 1 rfl) ?_
  refine lv_icmp_lt (tgt := 14) C.1 C.2.1 dX11_within_2 (by decide) (fun c2 => ?_) (fun c2 => ?_)
  · rw [if_pos c2] at h
    refine lv_iconst (v := 0) C.1 C.2.1 dX11_within_14 (by decide) ?_
    obtain ⟨hg1, h⟩ := gd_some h
    cases h
    exact rt_z hg1 C hP hS dX11_within_15
  · rw [if_neg c2] at h
    refine lv_iload_n C.1 C.2.1 dX11_within_5 rfl (lv_at hl 0 rfl) ?_
    refine lv_iload_n C.1 C.2.1 dX11_within_6 rfl (lv_at hl 2 rfl) ?_
    refine lv_icmp_gt (tgt := 14) C.1 C.2.1 dX11_within_7 (by decide) (fun c7 => ?_) (fun c7 => ?_)
    · rw [if_pos c7] at h
      refine lv_iconst (v := 0) C.1 C.2.1 dX11_within_14 (by decide) ?_
      obtain ⟨hg2, h⟩ := gd_some h
      cases h
      exact rt_z hg2 C hP hS dX11_within_15
    · rw [if_neg c7] at h
      refine lv_iconst (v := 1) C.1 C.2.1 dX11_within_10 (by decide) ?_
      refine lv_goto (tgt := 15) C.1 C.2.1 dX11_within_11 (by decide) ?_
      obtain ⟨hg3, h⟩ := gd_some h
      cases h
      exact rt_z hg3 C hP hS dX11_within_15
theorem metX11_within (l : Launch) (D : va_G) (cy : Nat → ClassId) (st : Nat → Nat) (sz : Nat) (x0 : Int32) (x1 : Int32) (x2 : Int32) {r : Int32} (h : fX11_within x0 x1 x2 = some r) : Met l yX11_within wsX11_within rmX11_within (va_Pc [.int x0, .int x1, .int x2] (Px D [(cy 0, .int), (cy 1, .long), (cy 2, .boolean), (cy 3, .byte), (cy 4, .object "HissHorn$Text")] st V0 sz u00)) (Qi D V0 A0 sz r u00) 0 0 (Ax A0 sz) := by
  refine Met.ofW (cc := cX11_within) (maxL := 3) (ret := (some .boolean)) (by decide) rfl ?_
  intro p e s m args below meth c s₁ B hml hv
  obtain ⟨rfl, hsz, hP, hK⟩ := hv
  subst hsz
  have C : Cx RX11 cX11_within 3 (some .boolean) wsX11_within p s m _ meth c := ⟨B.exec, B.bytes, hml, B.returns, findClass_of_methodNamed B.named, atoms_spec (ws := wsX11_within) B.pre, B.notSynchronized⟩
  have hl := lv_entry ([.int x0, .int x1, .int x2]) (n := 3) (Nat.le_of_ble_eq_true rfl)
  rw [lg_entry_eq]
  exact wX11_within C hK x0 x1 x2 h hP va_S.rf hl

theorem zdX11_days_0 : (and (and (and (and (and (zk cX11_days 0 (.iload_n 1) 1) (zk cX11_days 1 (.iconst 0) 1)) (zk cX11_days 2 (.bipush 60) 2)) (and (and (zk cX11_days 4 (.invokestatic 107) 3) (zk cX11_days 7 (.ifCond .eq 14) 3)) (zk cX11_days 21 (.iconst (-1)) 1))) (and (and (and (zk cX11_days 22 (.ireturn) 1) (zk cX11_days 10 (.aload_n 0) 1)) (zk cX11_days 11 (.getfield 103) 3)) (and (zk cX11_days 14 (.iload_n 1) 1) (zk cX11_days 15 (.iadd) 1)))) (and (and (and (and (zk cX11_days 16 (.bipush 120) 2) (zk cX11_days 18 (.if_icmp .le 5) 3)) (zk cX11_days 23 (.aload_n 0) 1)) (and (and (zk cX11_days 24 (.dup) 1) (zk cX11_days 25 (.getfield 103) 3)) (zk cX11_days 28 (.iload_n 1) 1))) (and (and (and (zk cX11_days 29 (.iadd) 1) (zk cX11_days 30 (.putfield 103) 3)) (zk cX11_days 33 (.aload_n 0) 1)) (and (zk cX11_days 34 (.getfield 103) 3) (zk cX11_days 37 (.ireturn) 1))))) = true := by decide +kernel
theorem dX11_days_0 : decode cX11_days 0 = .ok (.iload_n 1, 1) := zk_of (zk_l (zk_l (zk_l (zk_l (zk_l zdX11_days_0)))))
theorem dX11_days_1 : decode cX11_days 1 = .ok (.iconst 0, 1) := zk_of (zk_r (zk_l (zk_l (zk_l (zk_l zdX11_days_0)))))
theorem dX11_days_2 : decode cX11_days 2 = .ok (.bipush 60, 2) := zk_of (zk_r (zk_l (zk_l (zk_l zdX11_days_0))))
theorem dX11_days_4 : decode cX11_days 4 = .ok (.invokestatic 107, 3) := zk_of (zk_l (zk_l (zk_r (zk_l (zk_l zdX11_days_0)))))
theorem dX11_days_7 : decode cX11_days 7 = .ok (.ifCond .eq 14, 3) := zk_of (zk_r (zk_l (zk_r (zk_l (zk_l zdX11_days_0)))))
theorem dX11_days_21 : decode cX11_days 21 = .ok (.iconst (-1), 1) := zk_of (zk_r (zk_r (zk_l (zk_l zdX11_days_0))))
theorem dX11_days_22 : decode cX11_days 22 = .ok (.ireturn, 1) := zk_of (zk_l (zk_l (zk_l (zk_r (zk_l zdX11_days_0)))))
theorem dX11_days_10 : decode cX11_days 10 = .ok (.aload_n 0, 1) := zk_of (zk_r (zk_l (zk_l (zk_r (zk_l zdX11_days_0)))))
theorem dX11_days_11 : decode cX11_days 11 = .ok (.getfield 103, 3) := zk_of (zk_r (zk_l (zk_r (zk_l zdX11_days_0))))
theorem dX11_days_14 : decode cX11_days 14 = .ok (.iload_n 1, 1) := zk_of (zk_l (zk_r (zk_r (zk_l zdX11_days_0))))
theorem dX11_days_15 : decode cX11_days 15 = .ok (.iadd, 1) := zk_of (zk_r (zk_r (zk_r (zk_l zdX11_days_0))))
theorem dX11_days_16 : decode cX11_days 16 = .ok (.bipush 120, 2) := zk_of (zk_l (zk_l (zk_l (zk_l (zk_r zdX11_days_0)))))
theorem dX11_days_18 : decode cX11_days 18 = .ok (.if_icmp .le 5, 3) := zk_of (zk_r (zk_l (zk_l (zk_l (zk_r zdX11_days_0)))))
theorem dX11_days_23 : decode cX11_days 23 = .ok (.aload_n 0, 1) := zk_of (zk_r (zk_l (zk_l (zk_r zdX11_days_0))))
theorem dX11_days_24 : decode cX11_days 24 = .ok (.dup, 1) := zk_of (zk_l (zk_l (zk_r (zk_l (zk_r zdX11_days_0)))))
theorem dX11_days_25 : decode cX11_days 25 = .ok (.getfield 103, 3) := zk_of (zk_r (zk_l (zk_r (zk_l (zk_r zdX11_days_0)))))
theorem dX11_days_28 : decode cX11_days 28 = .ok (.iload_n 1, 1) := zk_of (zk_r (zk_r (zk_l (zk_r zdX11_days_0))))
theorem dX11_days_29 : decode cX11_days 29 = .ok (.iadd, 1) := zk_of (zk_l (zk_l (zk_l (zk_r (zk_r zdX11_days_0)))))
theorem dX11_days_30 : decode cX11_days 30 = .ok (.putfield 103, 3) := zk_of (zk_r (zk_l (zk_l (zk_r (zk_r zdX11_days_0)))))
theorem dX11_days_33 : decode cX11_days 33 = .ok (.aload_n 0, 1) := zk_of (zk_r (zk_l (zk_r (zk_r zdX11_days_0))))
theorem dX11_days_34 : decode cX11_days 34 = .ok (.getfield 103, 3) := zk_of (zk_l (zk_r (zk_r (zk_r zdX11_days_0))))
theorem dX11_days_37 : decode cX11_days 37 = .ok (.ireturn, 1) := zk_of (zk_r (zk_r (zk_r (zk_r zdX11_days_0))))
set_option maxRecDepth 20000 in
theorem ggX11_days_X11_within : GoodIn wsX11_days wsX11_within := ggi (fun w h => List.mem_cons_of_mem _ (List.mem_append_left _ (List.mem_append_right _ h))) gs_X11_within
set_option maxRecDepth 20000 in
theorem gX11_days_X11_within : GoodIn wsX11_days (va_wsS RX11 107 yX11_within wsX11_within) := goodIn_app (goodIn_of _ (by decide +kernel)) ggX11_days_X11_within
/-- HissHorn.days(I)I of cell 0 -/
def rmX11_days_0 : Room := { frames := 1, cells := 0, slots := 0, locals := 22 }
theorem hX11_days_0_X11 : ∀ w ∈ u_ws RX11 TX11 13, w ∈ wsX11_days := fun w h => (List.mem_cons_of_mem _ (List.mem_append_right _ h))
theorem mX11_days_0_1 : Cond.fieldLink RX11 103 "HissHorn" "now" "I" ∈ wsX11_days := (List.mem_cons_of_mem _ (List.mem_append_left _ (List.mem_append_left _ (List.mem_of_getElem? (i := 3) rfl))))
def fX11_days_0 (x1 : Int32) (u : SX) : Option (Int32 × SX) := ((fX11_within x1 0 60).bind fun r1 => (if r1 = 0 then (some ((-1), u)) else (if ((u.1 0) + x1) ≤ 120 then (lt (sI u 0 ((u.1 0) + x1)) fun u4 => (some (u4.1 0, u4))) else (some ((-1), u)))))
set_option maxHeartbeats 4000000 in
set_option maxRecDepth 100000 in
theorem wX11_days_0 {p : Program} {l : Launch} {e : Env} {s : State} {m : MethodId} {args : Array Value} {below : List Frame} {meth : Method} {c : Code} {D : va_G} {cy : Nat → ClassId} {ad st : Nat → Nat} (C : Cx RX11 cX11_days 2 (some .int) wsX11_days p s m args meth c) (hK : Ky D [(cy 0, .int), (cy 1, .long), (cy 2, .boolean), (cy 3, .byte), (cy 4, .object "HissHorn$Text")] st s) (hJ : JX ad st) (x1 : Int32) {u : SX} {r : Int32} {u' : SX} {H : Heap} {locs : List Loc} {ls : Array Slot} (h : fX11_days_0 x1 u = some (r, u')) (hP : va_P D vwCl (VX cy ad st u) H) (hS : va_S (Ax (AX ad) s.heap.size) s.heap H locs) (hl : lv_has ls 2 [(0, .ref (ad 0)), (1, .int x1)]) : W p l e rmX11_days_0 s m args below meth c H locs 0 0 (MQ below (Qi D (VX cy ad st) (AX ad) s.heap.size r u') args s 0 0 (Ax (AX ad) s.heap.size)) (F0 m 0 ls []) := by
  unfold fX11_days_0 at h
  refine lv_iload_n C.1 C.2.1 dX11_days_0 rfl (lv_at hl 1 rfl) ?_
  refine lv_iconst (v := 0) C.1 C.2.1 dX11_days_1 (by decide) ?_
  refine lv_bipush (v := 60) C.1 C.2.1 dX11_days_2 (by decide) ?_
  obtain ⟨r1, hc3, h⟩ := bd_some h
  refine cs_i (As := [.int x1, .int 0, .int 60]) (rest := []) (AX_ge hJ) C hK hP hS (metX11_within l D cy st _ x1 0 60 hc3) (va_cwS 3 C.2.2.2.2.2.1 gX11_days_X11_within rfl rfl rfl (by decide +kernel) ⟨(Nat.le_of_ble_eq_true rfl), (Nat.le_of_ble_eq_true rfl)⟩) rfl hl.1 rfl (Nat.le_of_ble_eq_true rfl) dX11_days_4 ⟨Nat.zero_le _, Nat.zero_le _⟩ (fun H locs hP hS => ?_)
  refine lv_if_eq (tgt := 21) C.1 C.2.1 dX11_days_7 (by decide) (fun c7 => ?_) (fun c7 => ?_)
  · rw [if_pos c7] at h
    refine lv_iconst (v := (-1)) C.1 C.2.1 dX11_days_21 (by decide) ?_
    cases h
    exact rt_i C hP hS dX11_days_22
  · rw [if_neg c7] at h
    refine lv_aload_n C.1 C.2.1 dX11_days_10 rfl (lv_at hl 0 rfl) ?_
    refine gX_0_now C hX11_days_0_X11 hK hP mX11_days_0_1 dX11_days_11 ?_
    refine lv_iload_n C.1 C.2.1 dX11_days_14 rfl (lv_at hl 1 rfl) ?_
    refine lv_iadd C.1 C.2.1 dX11_days_15 ?_
    refine lv_bipush (v := 120) C.1 C.2.1 dX11_days_16 (by decide) ?_
    refine lv_icmp_le (tgt := 23) C.1 C.2.1 dX11_days_18 (by decide) (fun c18 => ?_) (fun c18 => ?_)
    · rw [if_pos c18] at h
      refine lv_aload_n C.1 C.2.1 dX11_days_23 rfl (lv_at hl 0 rfl) ?_
      refine lv_dup C.1 C.2.1 dX11_days_24 rfl ?_
      refine gX_0_now C hX11_days_0_X11 hK hP mX11_days_0_1 dX11_days_25 ?_
      refine lv_iload_n C.1 C.2.1 dX11_days_28 rfl (lv_at hl 1 rfl) ?_
      refine lv_iadd C.1 C.2.1 dX11_days_29 ?_
      refine pX_0_now C hX11_days_0_X11 hK hP hJ hS mX11_days_0_1 dX11_days_30 (fun H locs hP hS => ?_)
      obtain ⟨u4, hu5, h⟩ := lt_some h
      rw [← hu5] at hP
      refine lv_aload_n C.1 C.2.1 dX11_days_33 rfl (lv_at hl 0 rfl) ?_
      refine gX_0_now C hX11_days_0_X11 hK hP mX11_days_0_1 dX11_days_34 ?_
      cases h
      exact rt_i C hP hS dX11_days_37
    · rw [if_neg c18] at h
      refine lv_iconst (v := (-1)) C.1 C.2.1 dX11_days_21 (by decide) ?_
      cases h
      exact rt_i C hP hS dX11_days_22
theorem metX11_days_0 (l : Launch) (D : va_G) (cy : Nat → ClassId) (ad st : Nat → Nat) (hJ : JX ad st) (sz : Nat) (x1 : Int32) {u : SX} {r : Int32} {u' : SX} (h : fX11_days_0 x1 u = some (r, u')) : Met l yX11_days wsX11_days rmX11_days_0 (va_Pc [.ref (ad 0), .int x1] (Px D [(cy 0, .int), (cy 1, .long), (cy 2, .boolean), (cy 3, .byte), (cy 4, .object "HissHorn$Text")] st (VX cy ad st) sz u)) (Qi D (VX cy ad st) (AX ad) sz r u') 0 0 (Ax (AX ad) sz) := by
  refine Met.ofW (cc := cX11_days) (maxL := 2) (ret := (some .int)) (by decide) rfl ?_
  intro p e s m args below meth c s₁ B hml hv
  obtain ⟨rfl, hsz, hP, hK⟩ := hv
  subst hsz
  have C : Cx RX11 cX11_days 2 (some .int) wsX11_days p s m _ meth c := ⟨B.exec, B.bytes, hml, B.returns, findClass_of_methodNamed B.named, atoms_spec (ws := wsX11_days) B.pre, B.notSynchronized⟩
  have hl := lv_entry ([.ref (ad 0), .int x1]) (n := 2) (Nat.le_of_ble_eq_true rfl)
  rw [lg_entry_eq]
  exact wX11_days_0 C hK hJ x1 h hP va_S.rf hl

theorem zdX9_bytesOf_22 : (and (and (and (and (and (zk cX9_bytesOf 22 (.iinc 2 (-8)) 3) (zk cX9_bytesOf 25 (.goto (-20)) 3)) (zk cX9_bytesOf 5 (.iload_n 2) 1)) (and (zk cX9_bytesOf 6 (.ifCond .lt 22) 3) (zk cX9_bytesOf 28 (.iload_n 1) 1))) (and (and (zk cX9_bytesOf 29 (.ireturn) 1) (zk cX9_bytesOf 9 (.iload_n 0) 1)) (and (zk cX9_bytesOf 10 (.iload_n 2) 1) (zk cX9_bytesOf 11 (.iushr) 1)))) (and (and (and (zk cX9_bytesOf 12 (.sipush 255) 3) (zk cX9_bytesOf 15 (.iand) 1)) (and (zk cX9_bytesOf 16 (.ifCond .eq 6) 3) (zk cX9_bytesOf 19 (.iinc 1 1) 3))) (and (and (zk cX9_bytesOf 0 (.iconst 0) 1) (zk cX9_bytesOf 1 (.istore_n 1) 1)) (and (zk cX9_bytesOf 2 (.bipush 24) 2) (zk cX9_bytesOf 4 (.istore_n 2) 1))))) = true := by decide +kernel
theorem dX9_bytesOf_22 : decode cX9_bytesOf 22 = .ok (.iinc 2 (-8), 3) := zk_of (zk_l (zk_l (zk_l (zk_l (zk_l zdX9_bytesOf_22)))))
theorem dX9_bytesOf_25 : decode cX9_bytesOf 25 = .ok (.goto (-20), 3) := zk_of (zk_r (zk_l (zk_l (zk_l (zk_l zdX9_bytesOf_22)))))
theorem dX9_bytesOf_5 : decode cX9_bytesOf 5 = .ok (.iload_n 2, 1) := zk_of (zk_r (zk_l (zk_l (zk_l zdX9_bytesOf_22))))
theorem dX9_bytesOf_6 : decode cX9_bytesOf 6 = .ok (.ifCond .lt 22, 3) := zk_of (zk_l (zk_r (zk_l (zk_l zdX9_bytesOf_22))))
theorem dX9_bytesOf_28 : decode cX9_bytesOf 28 = .ok (.iload_n 1, 1) := zk_of (zk_r (zk_r (zk_l (zk_l zdX9_bytesOf_22))))
theorem dX9_bytesOf_29 : decode cX9_bytesOf 29 = .ok (.ireturn, 1) := zk_of (zk_l (zk_l (zk_r (zk_l zdX9_bytesOf_22))))
theorem dX9_bytesOf_9 : decode cX9_bytesOf 9 = .ok (.iload_n 0, 1) := zk_of (zk_r (zk_l (zk_r (zk_l zdX9_bytesOf_22))))
theorem dX9_bytesOf_10 : decode cX9_bytesOf 10 = .ok (.iload_n 2, 1) := zk_of (zk_l (zk_r (zk_r (zk_l zdX9_bytesOf_22))))
theorem dX9_bytesOf_11 : decode cX9_bytesOf 11 = .ok (.iushr, 1) := zk_of (zk_r (zk_r (zk_r (zk_l zdX9_bytesOf_22))))
theorem dX9_bytesOf_12 : decode cX9_bytesOf 12 = .ok (.sipush 255, 3) := zk_of (zk_l (zk_l (zk_l (zk_r zdX9_bytesOf_22))))
theorem dX9_bytesOf_15 : decode cX9_bytesOf 15 = .ok (.iand, 1) := zk_of (zk_r (zk_l (zk_l (zk_r zdX9_bytesOf_22))))
theorem dX9_bytesOf_16 : decode cX9_bytesOf 16 = .ok (.ifCond .eq 6, 3) := zk_of (zk_l (zk_r (zk_l (zk_r zdX9_bytesOf_22))))
theorem dX9_bytesOf_19 : decode cX9_bytesOf 19 = .ok (.iinc 1 1, 3) := zk_of (zk_r (zk_r (zk_l (zk_r zdX9_bytesOf_22))))
theorem dX9_bytesOf_0 : decode cX9_bytesOf 0 = .ok (.iconst 0, 1) := zk_of (zk_l (zk_l (zk_r (zk_r zdX9_bytesOf_22))))
theorem dX9_bytesOf_1 : decode cX9_bytesOf 1 = .ok (.istore_n 1, 1) := zk_of (zk_r (zk_l (zk_r (zk_r zdX9_bytesOf_22))))
theorem dX9_bytesOf_2 : decode cX9_bytesOf 2 = .ok (.bipush 24, 2) := zk_of (zk_l (zk_r (zk_r (zk_r zdX9_bytesOf_22))))
theorem dX9_bytesOf_4 : decode cX9_bytesOf 4 = .ok (.istore_n 2, 1) := zk_of (zk_r (zk_r (zk_r (zk_r zdX9_bytesOf_22))))
/-- HissHorn$Tape.bytesOf(I)I -/
def rmX9_bytesOf : Room := { frames := 0, cells := 0, slots := 0, locals := 0 }
def GX9_bytesOf_22 (k5 : Int32 → Int32 → Int32 → Option Int32) (z0 : Int32) (z1 : Int32) (z2 : Int32) : Option Int32 := (k5 z0 z1 (z2 + (-8)))
def LX9_bytesOf_5  : Nat → Int32 → Int32 → Int32 → Option Int32
  | 0, _, _, _ => none
  | n + 1, z0, z1, z2 => (if z2 < 0 then (some z1) else (if (((z0.toUInt32 >>> (z2.toUInt32 &&& Int32.toUInt32 31)).toInt32) &&& 255) = 0 then (GX9_bytesOf_22 (LX9_bytesOf_5 n) z0 z1 z2) else (GX9_bytesOf_22 (LX9_bytesOf_5 n) z0 (z1 + 1) z2)))
def fX9_bytesOf (x0 : Int32) : Option Int32 := (LX9_bytesOf_5  5000 x0 0 24)
set_option maxHeartbeats 4000000 in
set_option maxRecDepth 100000 in
theorem wGX9_bytesOf_22 {p : Program} {l : Launch} {e : Env} {s : State} {m : MethodId} {args : Array Value} {below : List Frame} {meth : Method} {c : Code} {D : va_G} {cy : Nat → ClassId} {st : Nat → Nat} (C : Cx RX9 cX9_bytesOf 3 (some .int) wsX9_bytesOf p s m args meth c) (hK : Ky D [(cy 0, .int), (cy 1, .long), (cy 2, .boolean), (cy 3, .byte), (cy 4, .object "HissHorn$Text")] st s) {r : Int32} {k5 : Int32 → Int32 → Int32 → Option Int32} (hk5 : ∀ (z0 : Int32) (z1 : Int32) (z2 : Int32) (H : Heap) (locs : List Loc) (ls : Array Slot), k5 z0 z1 z2 = some r → va_P D vwCl (V0 u00) H → va_S (Ax (A0) s.heap.size) s.heap H locs → lv_has ls 3 [(0, .int z0), (1, .int z1), (2, .int z2)] → W p l e rmX9_bytesOf s m args below meth c H locs 0 0 (MQ below (Qi D (V0) (A0) s.heap.size r u00) args s 0 0 (Ax (A0) s.heap.size)) (F0 m 5 ls [])) (z0 : Int32) (z1 : Int32) (z2 : Int32) (H : Heap) (locs : List Loc) (ls : Array Slot) (h : GX9_bytesOf_22 k5 z0 z1 z2 = some r) (hP : va_P D vwCl (V0 u00) H) (hS : va_S (Ax (A0) s.heap.size) s.heap H locs) (hl : lv_has ls 3 [(0, .int z0), (1, .int z1), (2, .int z2)]) : W p l e rmX9_bytesOf s m args below meth c H locs 0 0 (MQ below (Qi D (V0) (A0) s.heap.size r u00) args s 0 0 (Ax (A0) s.heap.size)) (F0 m 22 ls []) := by
  unfold GX9_bytesOf_22 at h
  refine lv_iinc (v := z2 + (-8)) (lv' := [(2, .int (z2 + (-8))), (0, .int z0), (1, .int z1)]) C.1 C.2.1 dX9_bytesOf_22 hl (k := 2) rfl rfl (by decide) rfl (fun ls hl => ?_)
  replace hl := lv_sub (l' := [(0, .int z0), (1, .int z1), (2, .int (z2 + (-8)))]) hl [1, 2, 0] rfl
  refine lv_goto (tgt := 5) C.1 C.2.1 dX9_bytesOf_25 (by decide) ?_
  exact hk5 _ _ _ _ _ _ h hP hS hl
set_option maxHeartbeats 4000000 in
set_option maxRecDepth 100000 in
theorem wLX9_bytesOf_5 {p : Program} {l : Launch} {e : Env} {s : State} {m : MethodId} {args : Array Value} {below : List Frame} {meth : Method} {c : Code} {D : va_G} {cy : Nat → ClassId} {st : Nat → Nat} (C : Cx RX9 cX9_bytesOf 3 (some .int) wsX9_bytesOf p s m args meth c) (hK : Ky D [(cy 0, .int), (cy 1, .long), (cy 2, .boolean), (cy 3, .byte), (cy 4, .object "HissHorn$Text")] st s) {r : Int32}   : ∀ (n : Nat) (z0 : Int32) (z1 : Int32) (z2 : Int32) (H : Heap) (locs : List Loc) (ls : Array Slot), LX9_bytesOf_5  n z0 z1 z2 = some r → va_P D vwCl (V0 u00) H → va_S (Ax (A0) s.heap.size) s.heap H locs → lv_has ls 3 [(0, .int z0), (1, .int z1), (2, .int z2)] → W p l e rmX9_bytesOf s m args below meth c H locs 0 0 (MQ below (Qi D (V0) (A0) s.heap.size r u00) args s 0 0 (Ax (A0) s.heap.size)) (F0 m 5 ls []) := by
  intro n
  induction n with
  | zero =>
    intro z0 z1 z2 H locs ls h
    exact absurd h (by intro q; cases q)
  | succ n ih =>
    intro z0 z1 z2 H locs ls h hP hS hl
    rw [LX9_bytesOf_5] at h
    refine lv_iload_n C.1 C.2.1 dX9_bytesOf_5 rfl (lv_at hl 2 rfl) ?_
    refine lv_if_lt (tgt := 28) C.1 C.2.1 dX9_bytesOf_6 (by decide) (fun c6 => ?_) (fun c6 => ?_)
    · rw [if_pos c6] at h
      refine lv_iload_n C.1 C.2.1 dX9_bytesOf_28 rfl (lv_at hl 1 rfl) ?_
      cases h
      exact rt_i C hP hS dX9_bytesOf_29
    · rw [if_neg c6] at h
      refine lv_iload_n C.1 C.2.1 dX9_bytesOf_9 rfl (lv_at hl 0 rfl) ?_
      refine lv_iload_n C.1 C.2.1 dX9_bytesOf_10 rfl (lv_at hl 2 rfl) ?_
      refine lv_iushr (v := (z0.toUInt32 >>> (z2.toUInt32 &&& Int32.toUInt32 31)).toInt32) C.1 C.2.1 dX9_bytesOf_11 rfl ?_
      refine lv_sipush (v := 255) C.1 C.2.1 dX9_bytesOf_12 (by decide) ?_
      refine lv_iand C.1 C.2.1 dX9_bytesOf_15 ?_
      refine lv_if_eq (tgt := 22) C.1 C.2.1 dX9_bytesOf_16 (by decide) (fun c16 => ?_) (fun c16 => ?_)
      · rw [if_pos c16] at h
        exact wGX9_bytesOf_22 C hK ih _ _ _ _ _ _ h hP hS hl
      · rw [if_neg c16] at h
        refine lv_iinc (v := z1 + 1) (lv' := [(1, .int (z1 + 1)), (0, .int z0), (2, .int z2)]) C.1 C.2.1 dX9_bytesOf_19 hl (k := 1) rfl rfl (by decide) rfl (fun ls hl => ?_)
        replace hl := lv_sub (l' := [(0, .int z0), (1, .int (z1 + 1)), (2, .int z2)]) hl [1, 0, 2] rfl
        exact wGX9_bytesOf_22 C hK ih _ _ _ _ _ _ h hP hS hl
set_option maxHeartbeats 4000000 in
set_option maxRecDepth 100000 in
theorem wX9_bytesOf {p : Program} {l : Launch} {e : Env} {s : State} {m : MethodId} {args : Array Value} {below : List Frame} {meth : Method} {c : Code} {D : va_G} {cy : Nat → ClassId} {st : Nat → Nat} (C : Cx RX9 cX9_bytesOf 3 (some .int) wsX9_bytesOf p s m args meth c) (hK : Ky D [(cy 0, .int), (cy 1, .long), (cy 2, .boolean), (cy 3, .byte), (cy 4, .object "HissHorn$Text")] st s) (x0 : Int32) {r : Int32} {H : Heap} {locs : List Loc} {ls : Array Slot} (h : fX9_bytesOf x0 = some r) (hP : va_P D vwCl (V0 u00) H) (hS : va_S (Ax (A0) s.heap.size) s.heap H locs) (hl : lv_has ls 3 [(0, .int x0)]) : W p l e rmX9_bytesOf s m args below meth c H locs 0 0 (MQ below (Qi D (V0) (A0) s.heap.size r u00) args s 0 0 (Ax (A0) s.heap.size)) (F0 m 0 ls []) := by
  unfold fX9_bytesOf at h
  refine lv_iconst (v := 0) C.1 C.2.1 dX9_bytesOf_0 (by decide) ?_
  refine lv_istore_n (lv' := [(1, .int 0), (0, .int x0)]) C.1 C.2.1 dX9_bytesOf_1 rfl hl (by decide) rfl (fun ls hl => ?_)
  replace hl := lv_sub (l' := [(0, .int x0), (1, .int 0)]) hl [1, 0] rfl
  refine lv_bipush (v := 24) C.1 C.2.1 dX9_bytesOf_2 (by decide) ?_
  refine lv_istore_n (lv' := [(2, .int 24), (0, .int x0), (1, .int 0)]) C.1 C.2.1 dX9_bytesOf_4 rfl hl (by decide) rfl (fun ls hl => ?_)
  replace hl := lv_sub (l' := [(0, .int x0), (1, .int 0), (2, .int 24)]) hl [1, 2, 0] rfl
  exact wLX9_bytesOf_5 C hK  5000 _ _ _ _ _ _ h hP hS hl
theorem metX9_bytesOf (l : Launch) (D : va_G) (cy : Nat → ClassId) (st : Nat → Nat) (sz : Nat) (x0 : Int32) {r : Int32} (h : fX9_bytesOf x0 = some r) : Met l yX9_bytesOf wsX9_bytesOf rmX9_bytesOf (va_Pc [.int x0] (Px D [(cy 0, .int), (cy 1, .long), (cy 2, .boolean), (cy 3, .byte), (cy 4, .object "HissHorn$Text")] st V0 sz u00)) (Qi D V0 A0 sz r u00) 0 0 (Ax A0 sz) := by
  refine Met.ofW (cc := cX9_bytesOf) (maxL := 3) (ret := (some .int)) (by decide) rfl ?_
  intro p e s m args below meth c s₁ B hml hv
  obtain ⟨rfl, hsz, hP, hK⟩ := hv
  subst hsz
  have C : Cx RX9 cX9_bytesOf 3 (some .int) wsX9_bytesOf p s m _ meth c := ⟨B.exec, B.bytes, hml, B.returns, findClass_of_methodNamed B.named, atoms_spec (ws := wsX9_bytesOf) B.pre, B.notSynchronized⟩
  have hl := lv_entry ([.int x0]) (n := 3) (Nat.le_of_ble_eq_true rfl)
  rw [lg_entry_eq]
  exact wX9_bytesOf C hK x0 h hP va_S.rf hl

theorem zdX9_append_48 : (and (and (and (and (and (zk cX9_append 48 (.iinc 2 (-8)) 3) (zk cX9_append 51 (.goto (-48)) 3)) (and (zk cX9_append 3 (.iload_n 2) 1) (zk cX9_append 4 (.ifCond .lt 50) 3))) (and (and (zk cX9_append 54 (.return_) 1) (zk cX9_append 7 (.iload_n 1) 1)) (and (zk cX9_append 8 (.iload_n 2) 1) (zk cX9_append 9 (.iushr) 1)))) (and (and (and (zk cX9_append 10 (.sipush 255) 3) (zk cX9_append 13 (.iand) 1)) (and (zk cX9_append 14 (.istore_n 3) 1) (zk cX9_append 15 (.iload_n 3) 1))) (and (and (zk cX9_append 16 (.ifCond .eq 32) 3) (zk cX9_append 19 (.aload_n 0) 1)) (and (zk cX9_append 20 (.getfield 13) 3) (zk cX9_append 23 (.bipush 120) 2))))) (and (and (and (and (zk cX9_append 25 (.if_icmp .ge 23) 3) (zk cX9_append 28 (.aload_n 0) 1)) (and (zk cX9_append 29 (.getfield 9) 3) (zk cX9_append 32 (.aload_n 0) 1))) (and (and (zk cX9_append 33 (.getfield 13) 3) (zk cX9_append 36 (.iload_n 3) 1)) (and (zk cX9_append 37 (.iastore) 1) (zk cX9_append 38 (.aload_n 0) 1)))) (and (and (and (zk cX9_append 39 (.dup) 1) (zk cX9_append 40 (.getfield 13) 3)) (and (zk cX9_append 43 (.iconst 1) 1) (zk cX9_append 44 (.iadd) 1))) (and (and (zk cX9_append 45 (.putfield 13) 3) (zk cX9_append 0 (.bipush 24) 2)) (zk cX9_append 2 (.istore_n 2) 1))))) = true := by decide +kernel
theorem dX9_append_48 : decode cX9_append 48 = .ok (.iinc 2 (-8), 3) := zk_of (zk_l (zk_l (zk_l (zk_l (zk_l zdX9_append_48)))))
theorem dX9_append_51 : decode cX9_append 51 = .ok (.goto (-48), 3) := zk_of (zk_r (zk_l (zk_l (zk_l (zk_l zdX9_append_48)))))
theorem dX9_append_3 : decode cX9_append 3 = .ok (.iload_n 2, 1) := zk_of (zk_l (zk_r (zk_l (zk_l (zk_l zdX9_append_48)))))
theorem dX9_append_4 : decode cX9_append 4 = .ok (.ifCond .lt 50, 3) := zk_of (zk_r (zk_r (zk_l (zk_l (zk_l zdX9_append_48)))))
theorem dX9_append_54 : decode cX9_append 54 = .ok (.return_, 1) := zk_of (zk_l (zk_l (zk_r (zk_l (zk_l zdX9_append_48)))))
theorem dX9_append_7 : decode cX9_append 7 = .ok (.iload_n 1, 1) := zk_of (zk_r (zk_l (zk_r (zk_l (zk_l zdX9_append_48)))))
theorem dX9_append_8 : decode cX9_append 8 = .ok (.iload_n 2, 1) := zk_of (zk_l (zk_r (zk_r (zk_l (zk_l zdX9_append_48)))))
theorem dX9_append_9 : decode cX9_append 9 = .ok (.iushr, 1) := zk_of (zk_r (zk_r (zk_r (zk_l (zk_l zdX9_append_48)))))
theorem dX9_append_10 : decode cX9_append 10 = .ok (.sipush 255, 3) := zk_of (zk_l (zk_l (zk_l (zk_r (zk_l zdX9_append_48)))))
theorem dX9_append_13 : decode cX9_append 13 = .ok (.iand, 1) := zk_of (zk_r (zk_l (zk_l (zk_r (zk_l zdX9_append_48)))))
theorem dX9_append_14 : decode cX9_append 14 = .ok (.istore_n 3, 1) := zk_of (zk_l (zk_r (zk_l (zk_r (zk_l zdX9_append_48)))))
theorem dX9_append_15 : decode cX9_append 15 = .ok (.iload_n 3, 1) := zk_of (zk_r (zk_r (zk_l (zk_r (zk_l zdX9_append_48)))))
theorem dX9_append_16 : decode cX9_append 16 = .ok (.ifCond .eq 32, 3) := zk_of (zk_l (zk_l (zk_r (zk_r (zk_l zdX9_append_48)))))
theorem dX9_append_19 : decode cX9_append 19 = .ok (.aload_n 0, 1) := zk_of (zk_r (zk_l (zk_r (zk_r (zk_l zdX9_append_48)))))
theorem dX9_append_20 : decode cX9_append 20 = .ok (.getfield 13, 3) := zk_of (zk_l (zk_r (zk_r (zk_r (zk_l zdX9_append_48)))))
theorem dX9_append_23 : decode cX9_append 23 = .ok (.bipush 120, 2) := zk_of (zk_r (zk_r (zk_r (zk_r (zk_l zdX9_append_48)))))
theorem dX9_append_25 : decode cX9_append 25 = .ok (.if_icmp .ge 23, 3) := zk_of (zk_l (zk_l (zk_l (zk_l (zk_r zdX9_append_48)))))
theorem dX9_append_28 : decode cX9_append 28 = .ok (.aload_n 0, 1) := zk_of (zk_r (zk_l (zk_l (zk_l (zk_r zdX9_append_48)))))
theorem dX9_append_29 : decode cX9_append 29 = .ok (.getfield 9, 3) := zk_of (zk_l (zk_r (zk_l (zk_l (zk_r zdX9_append_48)))))
theorem dX9_append_32 : decode cX9_append 32 = .ok (.aload_n 0, 1) := zk_of (zk_r (zk_r (zk_l (zk_l (zk_r zdX9_append_48)))))
theorem dX9_append_33 : decode cX9_append 33 = .ok (.getfield 13, 3) := zk_of (zk_l (zk_l (zk_r (zk_l (zk_r zdX9_append_48)))))
theorem dX9_append_36 : decode cX9_append 36 = .ok (.iload_n 3, 1) := zk_of (zk_r (zk_l (zk_r (zk_l (zk_r zdX9_append_48)))))
theorem dX9_append_37 : decode cX9_append 37 = .ok (.iastore, 1) := zk_of (zk_l (zk_r (zk_r (zk_l (zk_r zdX9_append_48)))))
theorem dX9_append_38 : decode cX9_append 38 = .ok (.aload_n 0, 1) := zk_of (zk_r (zk_r (zk_r (zk_l (zk_r zdX9_append_48)))))
theorem dX9_append_39 : decode cX9_append 39 = .ok (.dup, 1) := zk_of (zk_l (zk_l (zk_l (zk_r (zk_r zdX9_append_48)))))
theorem dX9_append_40 : decode cX9_append 40 = .ok (.getfield 13, 3) := zk_of (zk_r (zk_l (zk_l (zk_r (zk_r zdX9_append_48)))))
theorem dX9_append_43 : decode cX9_append 43 = .ok (.iconst 1, 1) := zk_of (zk_l (zk_r (zk_l (zk_r (zk_r zdX9_append_48)))))
theorem dX9_append_44 : decode cX9_append 44 = .ok (.iadd, 1) := zk_of (zk_r (zk_r (zk_l (zk_r (zk_r zdX9_append_48)))))
theorem dX9_append_45 : decode cX9_append 45 = .ok (.putfield 13, 3) := zk_of (zk_l (zk_l (zk_r (zk_r (zk_r zdX9_append_48)))))
theorem dX9_append_0 : decode cX9_append 0 = .ok (.bipush 24, 2) := zk_of (zk_r (zk_l (zk_r (zk_r (zk_r zdX9_append_48)))))
theorem dX9_append_2 : decode cX9_append 2 = .ok (.istore_n 2, 1) := zk_of (zk_r (zk_r (zk_r (zk_r zdX9_append_48))))
/-- HissHorn$Tape.append(I)V of cell 1 -/
def rmX9_append_1 : Room := { frames := 0, cells := 0, slots := 0, locals := 0 }
def GX9_append_1_48 (k3 : Int32 → Int32 → SX → Option (Int32 × SX)) (z1 : Int32) (z2 : Int32) (u : SX) : Option (Int32 × SX) := (k3 z1 (z2 + (-8)) u)
theorem hX9_append_1_X9 : ∀ w ∈ u_ws RX9 TX9 2, w ∈ wsX9_append := fun w h => (List.mem_cons_of_mem _ (List.mem_append_right _ h))
theorem mX9_append_1_1 : Cond.fieldLink RX9 13 "HissHorn$Tape" "length" "I" ∈ wsX9_append := (List.mem_cons_of_mem _ (List.mem_append_left _ (List.mem_of_getElem? (i := 0) rfl)))
theorem mX9_append_1_2 : Cond.fieldLink RX9 9 "HissHorn$Tape" "bytes" "[I" ∈ wsX9_append := (List.mem_cons_of_mem _ (List.mem_append_left _ (List.mem_of_getElem? (i := 1) rfl)))
def LX9_append_1_3  : Nat → Int32 → Int32 → SX → Option (Int32 × SX)
  | 0, _, _, _ => none
  | n + 1, z1, z2, u => (if z2 < 0 then (some (0, u)) else (lt (((z1.toUInt32 >>> (z2.toUInt32 &&& Int32.toUInt32 31)).toInt32) &&& 255) fun v1 => (if v1 = 0 then (GX9_append_1_48 (LX9_append_1_3 n) z1 z2 u) else (if 120 ≤ (u.1 1) then (GX9_append_1_48 (LX9_append_1_3 n) z1 z2 u) else (gd (inb (u.1 1) 120) (lt (sA u 13 (upd (u.2.1 13) (u.1 1).toNatClampNeg v1)) fun u4 => (lt (sI u4 1 ((u4.1 1) + 1)) fun u6 => (GX9_append_1_48 (LX9_append_1_3 n) z1 z2 u6))))))))
def fX9_append_1 (x1 : Int32) (u : SX) : Option (Int32 × SX) := (LX9_append_1_3  5000 x1 24 u)
set_option maxHeartbeats 4000000 in
set_option maxRecDepth 100000 in
theorem wGX9_append_1_48 {p : Program} {l : Launch} {e : Env} {s : State} {m : MethodId} {args : Array Value} {below : List Frame} {meth : Method} {c : Code} {D : va_G} {cy : Nat → ClassId} {ad st : Nat → Nat} (C : Cx RX9 cX9_append 4 none wsX9_append p s m args meth c) (hK : Ky D [(cy 0, .int), (cy 1, .long), (cy 2, .boolean), (cy 3, .byte), (cy 4, .object "HissHorn$Text")] st s) (hJ : JX ad st) {r : Int32} {u' : SX} {k3 : Int32 → Int32 → SX → Option (Int32 × SX)} (hk3 : ∀ (z1 : Int32) (z2 : Int32) (u : SX) (H : Heap) (locs : List Loc) (ls : Array Slot), k3 z1 z2 u = some (r, u') → va_P D vwCl (VX cy ad st u) H → va_S (Ax (AX ad) s.heap.size) s.heap H locs → lv_has ls 4 [(0, .ref (ad 1)), (1, .int z1), (2, .int z2)] → W p l e rmX9_append_1 s m args below meth c H locs 0 0 (MQ below (Qv D (VX cy ad st) (AX ad) s.heap.size r u') args s 0 0 (Ax (AX ad) s.heap.size)) (F0 m 3 ls [])) (z1 : Int32) (z2 : Int32) (u : SX) (H : Heap) (locs : List Loc) (ls : Array Slot) (h : GX9_append_1_48 k3 z1 z2 u = some (r, u')) (hP : va_P D vwCl (VX cy ad st u) H) (hS : va_S (Ax (AX ad) s.heap.size) s.heap H locs) (hl : lv_has ls 4 [(0, .ref (ad 1)), (1, .int z1), (2, .int z2)]) : W p l e rmX9_append_1 s m args below meth c H locs 0 0 (MQ below (Qv D (VX cy ad st) (AX ad) s.heap.size r u') args s 0 0 (Ax (AX ad) s.heap.size)) (F0 m 48 ls []) := by
  unfold GX9_append_1_48 at h
  refine lv_iinc (v := z2 + (-8)) (lv' := [(2, .int (z2 + (-8))), (0, .ref (ad 1)), (1, .int z1)]) C.1 C.2.1 dX9_append_48 hl (k := 2) rfl rfl (by decide) rfl (fun ls hl => ?_)
  replace hl := lv_sub (l' := [(0, .ref (ad 1)), (1, .int z1), (2, .int (z2 + (-8)))]) hl [1, 2, 0] rfl
  refine lv_goto (tgt := 3) C.1 C.2.1 dX9_append_51 (by decide) ?_
  exact hk3 _ _ _ _ _ _ h hP hS hl
set_option maxHeartbeats 4000000 in
set_option maxRecDepth 100000 in
theorem wLX9_append_1_3 {p : Program} {l : Launch} {e : Env} {s : State} {m : MethodId} {args : Array Value} {below : List Frame} {meth : Method} {c : Code} {D : va_G} {cy : Nat → ClassId} {ad st : Nat → Nat} (C : Cx RX9 cX9_append 4 none wsX9_append p s m args meth c) (hK : Ky D [(cy 0, .int), (cy 1, .long), (cy 2, .boolean), (cy 3, .byte), (cy 4, .object "HissHorn$Text")] st s) (hJ : JX ad st) {r : Int32} {u' : SX}   : ∀ (n : Nat) (z1 : Int32) (z2 : Int32) (u : SX) (H : Heap) (locs : List Loc) (ls : Array Slot), LX9_append_1_3  n z1 z2 u = some (r, u') → va_P D vwCl (VX cy ad st u) H → va_S (Ax (AX ad) s.heap.size) s.heap H locs → lv_has ls 4 [(0, .ref (ad 1)), (1, .int z1), (2, .int z2)] → W p l e rmX9_append_1 s m args below meth c H locs 0 0 (MQ below (Qv D (VX cy ad st) (AX ad) s.heap.size r u') args s 0 0 (Ax (AX ad) s.heap.size)) (F0 m 3 ls []) := by
  intro n
  induction n with
  | zero =>
    intro z1 z2 u H locs ls h
    exact absurd h (by intro q; cases q)
  | succ n ih =>
    intro z1 z2 u H locs ls h hP hS hl
    rw [LX9_append_1_3] at h
    refine lv_iload_n C.1 C.2.1 dX9_append_3 rfl (lv_at hl 2 rfl) ?_
    refine lv_if_lt (tgt := 54) C.1 C.2.1 dX9_append_4 (by decide) (fun c4 => ?_) (fun c4 => ?_)
    · rw [if_pos c4] at h
      cases h
      exact rt_v C hP hS dX9_append_54
    · rw [if_neg c4] at h
      refine lv_iload_n C.1 C.2.1 dX9_append_7 rfl (lv_at hl 1 rfl) ?_
      refine lv_iload_n C.1 C.2.1 dX9_append_8 rfl (lv_at hl 2 rfl) ?_
      refine lv_iushr (v := (z1.toUInt32 >>> (z2.toUInt32 &&& Int32.toUInt32 31)).toInt32) C.1 C.2.1 dX9_append_9 rfl ?_
      refine lv_sipush (v := 255) C.1 C.2.1 dX9_append_10 (by decide) ?_
      refine lv_iand C.1 C.2.1 dX9_append_13 ?_
      refine lv_topi (fun v1 hv2 => ?_)
      replace h := lt_e hv2 h
      try dsimp only at h
      refine lv_istore_n (lv' := [(3, .int v1), (0, .ref (ad 1)), (1, .int z1), (2, .int z2)]) C.1 C.2.1 dX9_append_14 rfl hl (by decide) rfl (fun ls hl => ?_)
      replace hl := lv_sub (l' := [(0, .ref (ad 1)), (1, .int z1), (2, .int z2), (3, .int v1)]) hl [1, 2, 3, 0] rfl
      refine lv_iload_n C.1 C.2.1 dX9_append_15 rfl (lv_at hl 3 rfl) ?_
      refine lv_if_eq (tgt := 48) C.1 C.2.1 dX9_append_16 (by decide) (fun c16 => ?_) (fun c16 => ?_)
      · rw [if_pos c16] at h
        exact wGX9_append_1_48 C hK hJ ih _ _ _ _ _ _ h hP hS (lv_sub hl [0, 1, 2] rfl)
      · rw [if_neg c16] at h
        refine lv_aload_n C.1 C.2.1 dX9_append_19 rfl (lv_at hl 0 rfl) ?_
        refine gX_1_length C hX9_append_1_X9 hK hP mX9_append_1_1 dX9_append_20 ?_
        refine lv_bipush (v := 120) C.1 C.2.1 dX9_append_23 (by decide) ?_
        refine lv_icmp_ge (tgt := 48) C.1 C.2.1 dX9_append_25 (by decide) (fun c25 => ?_) (fun c25 => ?_)
        · rw [if_pos c25] at h
          exact wGX9_append_1_48 C hK hJ ih _ _ _ _ _ _ h hP hS (lv_sub hl [0, 1, 2] rfl)
        · rw [if_neg c25] at h
          refine lv_aload_n C.1 C.2.1 dX9_append_28 rfl (lv_at hl 0 rfl) ?_
          refine gX_1_bytes C hX9_append_1_X9 hK hP mX9_append_1_2 dX9_append_29 ?_
          refine lv_aload_n C.1 C.2.1 dX9_append_32 rfl (lv_at hl 0 rfl) ?_
          refine gX_1_length C hX9_append_1_X9 hK hP mX9_append_1_1 dX9_append_33 ?_
          refine lv_iload_n C.1 C.2.1 dX9_append_36 rfl (lv_at hl 3 rfl) ?_
          obtain ⟨hg3, h⟩ := gd_some h
          refine tX_13 C hK hP hJ hS hg3 dX9_append_37 (fun H locs hP hS => ?_)
          obtain ⟨u4, hu5, h⟩ := lt_some h
          rw [← hu5] at hP
          refine lv_aload_n C.1 C.2.1 dX9_append_38 rfl (lv_at hl 0 rfl) ?_
          refine lv_dup C.1 C.2.1 dX9_append_39 rfl ?_
          refine gX_1_length C hX9_append_1_X9 hK hP mX9_append_1_1 dX9_append_40 ?_
          refine lv_iconst (v := 1) C.1 C.2.1 dX9_append_43 (by decide) ?_
          refine lv_iadd C.1 C.2.1 dX9_append_44 ?_
          refine pX_1_length C hX9_append_1_X9 hK hP hJ hS mX9_append_1_1 dX9_append_45 (fun H locs hP hS => ?_)
          obtain ⟨u6, hu7, h⟩ := lt_some h
          rw [← hu7] at hP
          exact wGX9_append_1_48 C hK hJ ih _ _ _ _ _ _ h hP hS (lv_sub hl [0, 1, 2] rfl)
set_option maxHeartbeats 4000000 in
set_option maxRecDepth 100000 in
theorem wX9_append_1 {p : Program} {l : Launch} {e : Env} {s : State} {m : MethodId} {args : Array Value} {below : List Frame} {meth : Method} {c : Code} {D : va_G} {cy : Nat → ClassId} {ad st : Nat → Nat} (C : Cx RX9 cX9_append 4 none wsX9_append p s m args meth c) (hK : Ky D [(cy 0, .int), (cy 1, .long), (cy 2, .boolean), (cy 3, .byte), (cy 4, .object "HissHorn$Text")] st s) (hJ : JX ad st) (x1 : Int32) {u : SX} {r : Int32} {u' : SX} {H : Heap} {locs : List Loc} {ls : Array Slot} (h : fX9_append_1 x1 u = some (r, u')) (hP : va_P D vwCl (VX cy ad st u) H) (hS : va_S (Ax (AX ad) s.heap.size) s.heap H locs) (hl : lv_has ls 4 [(0, .ref (ad 1)), (1, .int x1)]) : W p l e rmX9_append_1 s m args below meth c H locs 0 0 (MQ below (Qv D (VX cy ad st) (AX ad) s.heap.size r u') args s 0 0 (Ax (AX ad) s.heap.size)) (F0 m 0 ls []) := by
  unfold fX9_append_1 at h
  refine lv_bipush (v := 24) C.1 C.2.1 dX9_append_0 (by decide) ?_
  refine lv_istore_n (lv' := [(2, .int 24), (0, .ref (ad 1)), (1, .int x1)]) C.1 C.2.1 dX9_append_2 rfl hl (by decide) rfl (fun ls hl => ?_)
  replace hl := lv_sub (l' := [(0, .ref (ad 1)), (1, .int x1), (2, .int 24)]) hl [1, 2, 0] rfl
  exact wLX9_append_1_3 C hK hJ  5000 _ _ _ _ _ _ h hP hS hl
theorem metX9_append_1 (l : Launch) (D : va_G) (cy : Nat → ClassId) (ad st : Nat → Nat) (hJ : JX ad st) (sz : Nat) (x1 : Int32) {u : SX} {r : Int32} {u' : SX} (h : fX9_append_1 x1 u = some (r, u')) : Met l yX9_append wsX9_append rmX9_append_1 (va_Pc [.ref (ad 1), .int x1] (Px D [(cy 0, .int), (cy 1, .long), (cy 2, .boolean), (cy 3, .byte), (cy 4, .object "HissHorn$Text")] st (VX cy ad st) sz u)) (Qv D (VX cy ad st) (AX ad) sz r u') 0 0 (Ax (AX ad) sz) := by
  refine Met.ofW (cc := cX9_append) (maxL := 4) (ret := none) (by decide) rfl ?_
  intro p e s m args below meth c s₁ B hml hv
  obtain ⟨rfl, hsz, hP, hK⟩ := hv
  subst hsz
  have C : Cx RX9 cX9_append 4 none wsX9_append p s m _ meth c := ⟨B.exec, B.bytes, hml, B.returns, findClass_of_methodNamed B.named, atoms_spec (ws := wsX9_append) B.pre, B.notSynchronized⟩
  have hl := lv_entry ([.ref (ad 1), .int x1]) (n := 4) (Nat.le_of_ble_eq_true rfl)
  rw [lg_entry_eq]
  exact wX9_append_1 C hK hJ x1 h hP va_S.rf hl

theorem zdX11_feed_0 : (and (and (and (and (and (zk cX11_feed 0 (.iload_n 1) 1) (zk cX11_feed 1 (.invokestatic 111) 3)) (and (zk cX11_feed 4 (.iload_n 2) 1) (zk cX11_feed 5 (.invokestatic 111) 3))) (and (and (zk cX11_feed 8 (.iadd) 1) (zk cX11_feed 9 (.iload_n 3) 1)) (and (zk cX11_feed 10 (.invokestatic 111) 3) (zk cX11_feed 13 (.iadd) 1)))) (and (and (and (zk cX11_feed 14 (.iload 4) 2) (zk cX11_feed 16 (.invokestatic 111) 3)) (and (zk cX11_feed 19 (.iadd) 1) (zk cX11_feed 20 (.iload 5) 2))) (and (and (zk cX11_feed 22 (.invokestatic 111) 3) (zk cX11_feed 25 (.iadd) 1)) (and (zk cX11_feed 26 (.istore 6) 2) (zk cX11_feed 28 (.aload_n 0) 1))))) (and (and (and (and (zk cX11_feed 29 (.getfield 10) 3) (zk cX11_feed 32 (.getfield 115) 3)) (and (zk cX11_feed 35 (.iload 6) 2) (zk cX11_feed 37 (.iadd) 1))) (and (and (zk cX11_feed 38 (.bipush 120) 2) (zk cX11_feed 40 (.if_icmp .le 5) 3)) (and (zk cX11_feed 45 (.aload_n 0) 1) (zk cX11_feed 46 (.getfield 10) 3)))) (and (and (and (zk cX11_feed 49 (.iload_n 1) 1) (zk cX11_feed 50 (.invokevirtual 118) 3)) (and (zk cX11_feed 53 (.aload_n 0) 1) (zk cX11_feed 54 (.getfield 10) 3))) (and (and (zk cX11_feed 57 (.iload_n 2) 1) (zk cX11_feed 58 (.invokevirtual 118) 3)) (and (zk cX11_feed 61 (.aload_n 0) 1) (zk cX11_feed 62 (.getfield 10) 3)))))) = true := by decide +kernel
theorem dX11_feed_0 : decode cX11_feed 0 = .ok (.iload_n 1, 1) := zk_of (zk_l (zk_l (zk_l (zk_l (zk_l zdX11_feed_0)))))
theorem dX11_feed_1 : decode cX11_feed 1 = .ok (.invokestatic 111, 3) := zk_of (zk_r (zk_l (zk_l (zk_l (zk_l zdX11_feed_0)))))
theorem dX11_feed_4 : decode cX11_feed 4 = .ok (.iload_n 2, 1) := zk_of (zk_l (zk_r (zk_l (zk_l (zk_l zdX11_feed_0)))))
theorem dX11_feed_5 : decode cX11_feed 5 = .ok (.invokestatic 111, 3) := zk_of (zk_r (zk_r (zk_l (zk_l (zk_l zdX11_feed_0)))))
theorem dX11_feed_8 : decode cX11_feed 8 = .ok (.iadd, 1) := zk_of (zk_l (zk_l (zk_r (zk_l (zk_l zdX11_feed_0)))))
theorem dX11_feed_9 : decode cX11_feed 9 = .ok (.iload_n 3, 1) := zk_of (zk_r (zk_l (zk_r (zk_l (zk_l zdX11_feed_0)))))
theorem dX11_feed_10 : decode cX11_feed 10 = .ok (.invokestatic 111, 3) := zk_of (zk_l (zk_r (zk_r (zk_l (zk_l zdX11_feed_0)))))
theorem dX11_feed_13 : decode cX11_feed 13 = .ok (.iadd, 1) := zk_of (zk_r (zk_r (zk_r (zk_l (zk_l zdX11_feed_0)))))
theorem dX11_feed_14 : decode cX11_feed 14 = .ok (.iload 4, 2) := zk_of (zk_l (zk_l (zk_l (zk_r (zk_l zdX11_feed_0)))))
theorem dX11_feed_16 : decode cX11_feed 16 = .ok (.invokestatic 111, 3) := zk_of (zk_r (zk_l (zk_l (zk_r (zk_l zdX11_feed_0)))))
theorem dX11_feed_19 : decode cX11_feed 19 = .ok (.iadd, 1) := zk_of (zk_l (zk_r (zk_l (zk_r (zk_l zdX11_feed_0)))))
theorem dX11_feed_20 : decode cX11_feed 20 = .ok (.iload 5, 2) := zk_of (zk_r (zk_r (zk_l (zk_r (zk_l zdX11_feed_0)))))
theorem dX11_feed_22 : decode cX11_feed 22 = .ok (.invokestatic 111, 3) := zk_of (zk_l (zk_l (zk_r (zk_r (zk_l zdX11_feed_0)))))
theorem dX11_feed_25 : decode cX11_feed 25 = .ok (.iadd, 1) := zk_of (zk_r (zk_l (zk_r (zk_r (zk_l zdX11_feed_0)))))
theorem dX11_feed_26 : decode cX11_feed 26 = .ok (.istore 6, 2) := zk_of (zk_l (zk_r (zk_r (zk_r (zk_l zdX11_feed_0)))))
theorem dX11_feed_28 : decode cX11_feed 28 = .ok (.aload_n 0, 1) := zk_of (zk_r (zk_r (zk_r (zk_r (zk_l zdX11_feed_0)))))
theorem dX11_feed_29 : decode cX11_feed 29 = .ok (.getfield 10, 3) := zk_of (zk_l (zk_l (zk_l (zk_l (zk_r zdX11_feed_0)))))
theorem dX11_feed_32 : decode cX11_feed 32 = .ok (.getfield 115, 3) := zk_of (zk_r (zk_l (zk_l (zk_l (zk_r zdX11_feed_0)))))
theorem dX11_feed_35 : decode cX11_feed 35 = .ok (.iload 6, 2) := zk_of (zk_l (zk_r (zk_l (zk_l (zk_r zdX11_feed_0)))))
theorem dX11_feed_37 : decode cX11_feed 37 = .ok (.iadd, 1) := zk_of (zk_r (zk_r (zk_l (zk_l (zk_r zdX11_feed_0)))))
theorem dX11_feed_38 : decode cX11_feed 38 = .ok (.bipush 120, 2) := zk_of (zk_l (zk_l (zk_r (zk_l (zk_r zdX11_feed_0)))))
theorem dX11_feed_40 : decode cX11_feed 40 = .ok (.if_icmp .le 5, 3) := zk_of (zk_r (zk_l (zk_r (zk_l (zk_r zdX11_feed_0)))))
theorem dX11_feed_45 : decode cX11_feed 45 = .ok (.aload_n 0, 1) := zk_of (zk_l (zk_r (zk_r (zk_l (zk_r zdX11_feed_0)))))
theorem dX11_feed_46 : decode cX11_feed 46 = .ok (.getfield 10, 3) := zk_of (zk_r (zk_r (zk_r (zk_l (zk_r zdX11_feed_0)))))
theorem dX11_feed_49 : decode cX11_feed 49 = .ok (.iload_n 1, 1) := zk_of (zk_l (zk_l (zk_l (zk_r (zk_r zdX11_feed_0)))))
theorem dX11_feed_50 : decode cX11_feed 50 = .ok (.invokevirtual 118, 3) := zk_of (zk_r (zk_l (zk_l (zk_r (zk_r zdX11_feed_0)))))
theorem dX11_feed_53 : decode cX11_feed 53 = .ok (.aload_n 0, 1) := zk_of (zk_l (zk_r (zk_l (zk_r (zk_r zdX11_feed_0)))))
theorem dX11_feed_54 : decode cX11_feed 54 = .ok (.getfield 10, 3) := zk_of (zk_r (zk_r (zk_l (zk_r (zk_r zdX11_feed_0)))))
theorem dX11_feed_57 : decode cX11_feed 57 = .ok (.iload_n 2, 1) := zk_of (zk_l (zk_l (zk_r (zk_r (zk_r zdX11_feed_0)))))
theorem dX11_feed_58 : decode cX11_feed 58 = .ok (.invokevirtual 118, 3) := zk_of (zk_r (zk_l (zk_r (zk_r (zk_r zdX11_feed_0)))))
theorem dX11_feed_61 : decode cX11_feed 61 = .ok (.aload_n 0, 1) := zk_of (zk_l (zk_r (zk_r (zk_r (zk_r zdX11_feed_0)))))
theorem dX11_feed_62 : decode cX11_feed 62 = .ok (.getfield 10, 3) := zk_of (zk_r (zk_r (zk_r (zk_r (zk_r zdX11_feed_0)))))
set_option maxRecDepth 20000 in
theorem ggX11_feed_X9_bytesOf : GoodIn wsX11_feed wsX9_bytesOf := ggi (fun w h => List.mem_cons_of_mem _ (List.mem_append_left _ (List.mem_append_left _ (List.mem_append_right _ (List.mem_append_left _ h))))) gs_X9_bytesOf
set_option maxRecDepth 20000 in
theorem gX11_feed_X9_bytesOf : GoodIn wsX11_feed (va_wsS RX11 111 yX9_bytesOf wsX9_bytesOf) := goodIn_app (goodIn_of _ (by decide +kernel)) ggX11_feed_X9_bytesOf
set_option maxRecDepth 20000 in
theorem ggX11_feed_X9_append : GoodIn wsX11_feed wsX9_append := ggi (fun w h => List.mem_cons_of_mem _ (List.mem_append_left _ (List.mem_append_left _ (List.mem_append_right _ (List.mem_append_right _ h))))) gs_X9_append
set_option maxRecDepth 20000 in
theorem gX11_feed_X9_append : GoodIn wsX11_feed (wsV RX11 118 RX9 yX9_append wsX9_append) := goodIn_app (goodIn_of _ (by decide +kernel)) ggX11_feed_X9_append
theorem zdX11_feed_65 : (and (and (and (and (zk cX11_feed 65 (.iload_n 3) 1) (zk cX11_feed 66 (.invokevirtual 118) 3)) (and (zk cX11_feed 69 (.aload_n 0) 1) (zk cX11_feed 70 (.getfield 10) 3))) (and (and (zk cX11_feed 73 (.iload 4) 2) (zk cX11_feed 75 (.invokevirtual 118) 3)) (and (zk cX11_feed 78 (.aload_n 0) 1) (zk cX11_feed 79 (.getfield 10) 3)))) (and (and (and (zk cX11_feed 82 (.iload 5) 2) (zk cX11_feed 84 (.invokevirtual 118) 3)) (and (zk cX11_feed 87 (.aload_n 0) 1) (zk cX11_feed 88 (.getfield 10) 3))) (and (and (zk cX11_feed 91 (.getfield 115) 3) (zk cX11_feed 94 (.ireturn) 1)) (and (zk cX11_feed 43 (.iconst (-1)) 1) (zk cX11_feed 44 (.ireturn) 1))))) = true := by decide +kernel
theorem dX11_feed_65 : decode cX11_feed 65 = .ok (.iload_n 3, 1) := zk_of (zk_l (zk_l (zk_l (zk_l zdX11_feed_65))))
theorem dX11_feed_66 : decode cX11_feed 66 = .ok (.invokevirtual 118, 3) := zk_of (zk_r (zk_l (zk_l (zk_l zdX11_feed_65))))
theorem dX11_feed_69 : decode cX11_feed 69 = .ok (.aload_n 0, 1) := zk_of (zk_l (zk_r (zk_l (zk_l zdX11_feed_65))))
theorem dX11_feed_70 : decode cX11_feed 70 = .ok (.getfield 10, 3) := zk_of (zk_r (zk_r (zk_l (zk_l zdX11_feed_65))))
theorem dX11_feed_73 : decode cX11_feed 73 = .ok (.iload 4, 2) := zk_of (zk_l (zk_l (zk_r (zk_l zdX11_feed_65))))
theorem dX11_feed_75 : decode cX11_feed 75 = .ok (.invokevirtual 118, 3) := zk_of (zk_r (zk_l (zk_r (zk_l zdX11_feed_65))))
theorem dX11_feed_78 : decode cX11_feed 78 = .ok (.aload_n 0, 1) := zk_of (zk_l (zk_r (zk_r (zk_l zdX11_feed_65))))
theorem dX11_feed_79 : decode cX11_feed 79 = .ok (.getfield 10, 3) := zk_of (zk_r (zk_r (zk_r (zk_l zdX11_feed_65))))
theorem dX11_feed_82 : decode cX11_feed 82 = .ok (.iload 5, 2) := zk_of (zk_l (zk_l (zk_l (zk_r zdX11_feed_65))))
theorem dX11_feed_84 : decode cX11_feed 84 = .ok (.invokevirtual 118, 3) := zk_of (zk_r (zk_l (zk_l (zk_r zdX11_feed_65))))
theorem dX11_feed_87 : decode cX11_feed 87 = .ok (.aload_n 0, 1) := zk_of (zk_l (zk_r (zk_l (zk_r zdX11_feed_65))))
theorem dX11_feed_88 : decode cX11_feed 88 = .ok (.getfield 10, 3) := zk_of (zk_r (zk_r (zk_l (zk_r zdX11_feed_65))))
theorem dX11_feed_91 : decode cX11_feed 91 = .ok (.getfield 115, 3) := zk_of (zk_l (zk_l (zk_r (zk_r zdX11_feed_65))))
theorem dX11_feed_94 : decode cX11_feed 94 = .ok (.ireturn, 1) := zk_of (zk_r (zk_l (zk_r (zk_r zdX11_feed_65))))
theorem dX11_feed_43 : decode cX11_feed 43 = .ok (.iconst (-1), 1) := zk_of (zk_l (zk_r (zk_r (zk_r zdX11_feed_65))))
theorem dX11_feed_44 : decode cX11_feed 44 = .ok (.ireturn, 1) := zk_of (zk_r (zk_r (zk_r (zk_r zdX11_feed_65))))
/-- HissHorn.feed(IIIII)I of cell 0 -/
def rmX11_feed_0 : Room := { frames := 1, cells := 0, slots := 0, locals := 23 }
theorem hX11_feed_0_X11 : ∀ w ∈ u_ws RX11 TX11 13, w ∈ wsX11_feed := fun w h => (List.mem_cons_of_mem _ (List.mem_append_left _ (List.mem_append_right _ h)))
theorem mX11_feed_0_1 : Cond.fieldLink RX11 10 "HissHorn" "tape" "LHissHorn$Tape;" ∈ wsX11_feed := (List.mem_cons_of_mem _ (List.mem_append_left _ (List.mem_append_left _ (List.mem_append_left _ (List.mem_of_getElem? (i := 6) rfl)))))
theorem hX11_feed_0_X9 : ∀ w ∈ u_ws RX9 TX9 2, w ∈ wsX11_feed := fun w h => (List.mem_cons_of_mem _ (List.mem_append_right _ h))
theorem mX11_feed_0_3 : Cond.fieldLink RX11 115 "HissHorn$Tape" "length" "I" ∈ wsX11_feed := (List.mem_cons_of_mem _ (List.mem_append_left _ (List.mem_append_left _ (List.mem_append_left _ (List.mem_of_getElem? (i := 7) rfl)))))
def fX11_feed_0 (x1 : Int32) (x2 : Int32) (x3 : Int32) (x4 : Int32) (x5 : Int32) (u : SX) : Option (Int32 × SX) := ((fX9_bytesOf x1).bind fun r1 => ((fX9_bytesOf x2).bind fun r4 => ((fX9_bytesOf x3).bind fun r7 => ((fX9_bytesOf x4).bind fun r10 => ((fX9_bytesOf x5).bind fun r13 => (lt ((((r1 + r4) + r7) + r10) + r13) fun v16 => (if ((u.1 1) + v16) ≤ 120 then ((fX9_append_1 x1 u).bind fun q => match q with | (r18, u19) => ((fX9_append_1 x2 u19).bind fun q => match q with | (r21, u22) => ((fX9_append_1 x3 u22).bind fun q => match q with | (r24, u25) => ((fX9_append_1 x4 u25).bind fun q => match q with | (r27, u28) => ((fX9_append_1 x5 u28).bind fun q => match q with | (r30, u31) => (some (u31.1 1, u31))))))) else (some ((-1), u)))))))))
set_option maxHeartbeats 4000000 in
set_option maxRecDepth 100000 in
theorem wX11_feed_0 {p : Program} {l : Launch} {e : Env} {s : State} {m : MethodId} {args : Array Value} {below : List Frame} {meth : Method} {c : Code} {D : va_G} {cy : Nat → ClassId} {ad st : Nat → Nat} (C : Cx RX11 cX11_feed 7 (some .int) wsX11_feed p s m args meth c) (hK : Ky D [(cy 0, .int), (cy 1, .long), (cy 2, .boolean), (cy 3, .byte), (cy 4, .object "HissHorn$Text")] st s) (hJ : JX ad st) (x1 : Int32) (x2 : Int32) (x3 : Int32) (x4 : Int32) (x5 : Int32) {u : SX} {r : Int32} {u' : SX} {H : Heap} {locs : List Loc} {ls : Array Slot} (h : fX11_feed_0 x1 x2 x3 x4 x5 u = some (r, u')) (hP : va_P D vwCl (VX cy ad st u) H) (hS : va_S (Ax (AX ad) s.heap.size) s.heap H locs) (hl : lv_has ls 7 [(0, .ref (ad 0)), (1, .int x1), (2, .int x2), (3, .int x3), (4, .int x4), (5, .int x5)]) : W p l e rmX11_feed_0 s m args below meth c H locs 0 0 (MQ below (Qi D (VX cy ad st) (AX ad) s.heap.size r u') args s 0 0 (Ax (AX ad) s.heap.size)) (F0 m 0 ls []) := by
  unfold fX11_feed_0 at h
  refine lv_iload_n C.1 C.2.1 dX11_feed_0 rfl (lv_at hl 1 rfl) ?_
  obtain ⟨r1, hc3, h⟩ := bd_some h
  refine cs_i (As := [.int x1]) (rest := []) (AX_ge hJ) C hK hP hS (metX9_bytesOf l D cy st _ x1 hc3) (va_cwS 1 C.2.2.2.2.2.1 gX11_feed_X9_bytesOf rfl rfl rfl (by decide +kernel) ⟨(Nat.le_of_ble_eq_true rfl), (Nat.le_of_ble_eq_true rfl)⟩) rfl hl.1 rfl (Nat.le_of_ble_eq_true rfl) dX11_feed_1 ⟨Nat.zero_le _, Nat.zero_le _⟩ (fun H locs hP hS => ?_)
  refine lv_iload_n C.1 C.2.1 dX11_feed_4 rfl (lv_at hl 2 rfl) ?_
  obtain ⟨r4, hc6, h⟩ := bd_some h
  refine cs_i (As := [.int x2]) (rest := [.int r1]) (AX_ge hJ) C hK hP hS (metX9_bytesOf l D cy st _ x2 hc6) (va_cwS 1 C.2.2.2.2.2.1 gX11_feed_X9_bytesOf rfl rfl rfl (by decide +kernel) ⟨(Nat.le_of_ble_eq_true rfl), (Nat.le_of_ble_eq_true rfl)⟩) rfl hl.1 rfl (Nat.le_of_ble_eq_true rfl) dX11_feed_5 ⟨Nat.zero_le _, Nat.zero_le _⟩ (fun H locs hP hS => ?_)
  refine lv_iadd C.1 C.2.1 dX11_feed_8 ?_
  refine lv_iload_n C.1 C.2.1 dX11_feed_9 rfl (lv_at hl 3 rfl) ?_
  obtain ⟨r7, hc9, h⟩ := bd_some h
  refine cs_i (As := [.int x3]) (rest := [.int (r1 + r4)]) (AX_ge hJ) C hK hP hS (metX9_bytesOf l D cy st _ x3 hc9) (va_cwS 1 C.2.2.2.2.2.1 gX11_feed_X9_bytesOf rfl rfl rfl (by decide +kernel) ⟨(Nat.le_of_ble_eq_true rfl), (Nat.le_of_ble_eq_true rfl)⟩) rfl hl.1 rfl (Nat.le_of_ble_eq_true rfl) dX11_feed_10 ⟨Nat.zero_le _, Nat.zero_le _⟩ (fun H locs hP hS => ?_)
  refine lv_iadd C.1 C.2.1 dX11_feed_13 ?_
  refine lv_iload C.1 C.2.1 dX11_feed_14 (lv_at hl 4 rfl) ?_
  obtain ⟨r10, hc12, h⟩ := bd_some h
  refine cs_i (As := [.int x4]) (rest := [.int ((r1 + r4) + r7)]) (AX_ge hJ) C hK hP hS (metX9_bytesOf l D cy st _ x4 hc12) (va_cwS 1 C.2.2.2.2.2.1 gX11_feed_X9_bytesOf rfl rfl rfl (by decide +kernel) ⟨(Nat.le_of_ble_eq_true rfl), (Nat.le_of_ble_eq_true rfl)⟩) rfl hl.1 rfl (Nat.le_of_ble_eq_true rfl) dX11_feed_16 ⟨Nat.zero_le _, Nat.zero_le _⟩ (fun H locs hP hS => ?_)
  refine lv_iadd C.1 C.2.1 dX11_feed_19 ?_
  refine lv_iload C.1 C.2.1 dX11_feed_20 (lv_at hl 5 rfl) ?_
  obtain ⟨r13, hc15, h⟩ := bd_some h
  refine cs_i (As := [.int x5]) (rest := [.int (((r1 + r4) + r7) + r10)]) (AX_ge hJ) C hK hP hS (metX9_bytesOf l D cy st _ x5 hc15) (va_cwS 1 C.2.2.2.2.2.1 gX11_feed_X9_bytesOf rfl rfl rfl (by decide +kernel) ⟨(Nat.le_of_ble_eq_true rfl), (Nat.le_of_ble_eq_true rfl)⟩) rfl hl.1 rfl (Nat.le_of_ble_eq_true rfl) dX11_feed_22 ⟨Nat.zero_le _, Nat.zero_le _⟩ (fun H locs hP hS => ?_)
  refine lv_iadd C.1 C.2.1 dX11_feed_25 ?_
  refine lv_topi (fun v16 hv17 => ?_)
  replace h := lt_e hv17 h
  try dsimp only at h
  refine lv_istore (lv' := [(6, .int v16), (0, .ref (ad 0)), (1, .int x1), (2, .int x2), (3, .int x3), (4, .int x4), (5, .int x5)]) C.1 C.2.1 dX11_feed_26 hl (by decide) rfl (fun ls hl => ?_)
  replace hl := lv_sub (l' := [(0, .ref (ad 0)), (1, .int x1), (2, .int x2), (3, .int x3), (4, .int x4), (5, .int x5), (6, .int v16)]) hl [1, 2, 3, 4, 5, 6, 0] rfl
  refine lv_aload_n C.1 C.2.1 dX11_feed_28 rfl (lv_at hl 0 rfl) ?_
  refine gX_0_tape C hX11_feed_0_X11 hK hP mX11_feed_0_1 dX11_feed_29 ?_
  refine gX_1_length C hX11_feed_0_X9 hK hP mX11_feed_0_3 dX11_feed_32 ?_
  refine lv_iload C.1 C.2.1 dX11_feed_35 (lv_at hl 6 rfl) ?_
  refine lv_iadd C.1 C.2.1 dX11_feed_37 ?_
  refine lv_bipush (v := 120) C.1 C.2.1 dX11_feed_38 (by decide) ?_
  refine lv_icmp_le (tgt := 45) C.1 C.2.1 dX11_feed_40 (by decide) (fun c40 => ?_) (fun c40 => ?_)
  · rw [if_pos c40] at h
    refine lv_aload_n C.1 C.2.1 dX11_feed_45 rfl (lv_at hl 0 rfl) ?_
    refine gX_0_tape C hX11_feed_0_X11 hK hP mX11_feed_0_1 dX11_feed_46 ?_
    refine lv_iload_n C.1 C.2.1 dX11_feed_49 rfl (lv_at hl 1 rfl) ?_
    obtain ⟨⟨r18, u19⟩, hc20, h⟩ := bd_some h
    try dsimp only at h
    refine cg_v (As := [.int x1]) (rest := []) (AX_ge hJ) C hK hP hS (metX9_append_1 l D cy ad st hJ _ x1 hc20) (cwV 1 C.2.2.2.2.2.1 gX11_feed_X9_append rfl rfl rfl (by decide +kernel) ⟨(Nat.le_of_ble_eq_true rfl), (Nat.le_of_ble_eq_true rfl)⟩) 1 9 rfl rfl rfl hl.1 rfl (Nat.le_of_ble_eq_true rfl) dX11_feed_50 ⟨Nat.zero_le _, Nat.zero_le _⟩ (fun H locs hP hS => ?_)
    refine lv_aload_n C.1 C.2.1 dX11_feed_53 rfl (lv_at hl 0 rfl) ?_
    refine gX_0_tape C hX11_feed_0_X11 hK hP mX11_feed_0_1 dX11_feed_54 ?_
    refine lv_iload_n C.1 C.2.1 dX11_feed_57 rfl (lv_at hl 2 rfl) ?_
    obtain ⟨⟨r21, u22⟩, hc23, h⟩ := bd_some h
    try dsimp only at h
    refine cg_v (As := [.int x2]) (rest := []) (AX_ge hJ) C hK hP hS (metX9_append_1 l D cy ad st hJ _ x2 hc23) (cwV 1 C.2.2.2.2.2.1 gX11_feed_X9_append rfl rfl rfl (by decide +kernel) ⟨(Nat.le_of_ble_eq_true rfl), (Nat.le_of_ble_eq_true rfl)⟩) 1 9 rfl rfl rfl hl.1 rfl (Nat.le_of_ble_eq_true rfl) dX11_feed_58 ⟨Nat.zero_le _, Nat.zero_le _⟩ (fun H locs hP hS => ?_)
    refine lv_aload_n C.1 C.2.1 dX11_feed_61 rfl (lv_at hl 0 rfl) ?_
    refine gX_0_tape C hX11_feed_0_X11 hK hP mX11_feed_0_1 dX11_feed_62 ?_
    refine lv_iload_n C.1 C.2.1 dX11_feed_65 rfl (lv_at hl 3 rfl) ?_
    obtain ⟨⟨r24, u25⟩, hc26, h⟩ := bd_some h
    try dsimp only at h
    refine cg_v (As := [.int x3]) (rest := []) (AX_ge hJ) C hK hP hS (metX9_append_1 l D cy ad st hJ _ x3 hc26) (cwV 1 C.2.2.2.2.2.1 gX11_feed_X9_append rfl rfl rfl (by decide +kernel) ⟨(Nat.le_of_ble_eq_true rfl), (Nat.le_of_ble_eq_true rfl)⟩) 1 9 rfl rfl rfl hl.1 rfl (Nat.le_of_ble_eq_true rfl) dX11_feed_66 ⟨Nat.zero_le _, Nat.zero_le _⟩ (fun H locs hP hS => ?_)
    refine lv_aload_n C.1 C.2.1 dX11_feed_69 rfl (lv_at hl 0 rfl) ?_
    refine gX_0_tape C hX11_feed_0_X11 hK hP mX11_feed_0_1 dX11_feed_70 ?_
    refine lv_iload C.1 C.2.1 dX11_feed_73 (lv_at hl 4 rfl) ?_
    obtain ⟨⟨r27, u28⟩, hc29, h⟩ := bd_some h
    try dsimp only at h
    refine cg_v (As := [.int x4]) (rest := []) (AX_ge hJ) C hK hP hS (metX9_append_1 l D cy ad st hJ _ x4 hc29) (cwV 1 C.2.2.2.2.2.1 gX11_feed_X9_append rfl rfl rfl (by decide +kernel) ⟨(Nat.le_of_ble_eq_true rfl), (Nat.le_of_ble_eq_true rfl)⟩) 1 9 rfl rfl rfl hl.1 rfl (Nat.le_of_ble_eq_true rfl) dX11_feed_75 ⟨Nat.zero_le _, Nat.zero_le _⟩ (fun H locs hP hS => ?_)
    refine lv_aload_n C.1 C.2.1 dX11_feed_78 rfl (lv_at hl 0 rfl) ?_
    refine gX_0_tape C hX11_feed_0_X11 hK hP mX11_feed_0_1 dX11_feed_79 ?_
    refine lv_iload C.1 C.2.1 dX11_feed_82 (lv_at hl 5 rfl) ?_
    obtain ⟨⟨r30, u31⟩, hc32, h⟩ := bd_some h
    try dsimp only at h
    refine cg_v (As := [.int x5]) (rest := []) (AX_ge hJ) C hK hP hS (metX9_append_1 l D cy ad st hJ _ x5 hc32) (cwV 1 C.2.2.2.2.2.1 gX11_feed_X9_append rfl rfl rfl (by decide +kernel) ⟨(Nat.le_of_ble_eq_true rfl), (Nat.le_of_ble_eq_true rfl)⟩) 1 9 rfl rfl rfl hl.1 rfl (Nat.le_of_ble_eq_true rfl) dX11_feed_84 ⟨Nat.zero_le _, Nat.zero_le _⟩ (fun H locs hP hS => ?_)
    refine lv_aload_n C.1 C.2.1 dX11_feed_87 rfl (lv_at hl 0 rfl) ?_
    refine gX_0_tape C hX11_feed_0_X11 hK hP mX11_feed_0_1 dX11_feed_88 ?_
    refine gX_1_length C hX11_feed_0_X9 hK hP mX11_feed_0_3 dX11_feed_91 ?_
    cases h
    exact rt_i C hP hS dX11_feed_94
  · rw [if_neg c40] at h
    refine lv_iconst (v := (-1)) C.1 C.2.1 dX11_feed_43 (by decide) ?_
    cases h
    exact rt_i C hP hS dX11_feed_44
theorem metX11_feed_0 (l : Launch) (D : va_G) (cy : Nat → ClassId) (ad st : Nat → Nat) (hJ : JX ad st) (sz : Nat) (x1 : Int32) (x2 : Int32) (x3 : Int32) (x4 : Int32) (x5 : Int32) {u : SX} {r : Int32} {u' : SX} (h : fX11_feed_0 x1 x2 x3 x4 x5 u = some (r, u')) : Met l yX11_feed wsX11_feed rmX11_feed_0 (va_Pc [.ref (ad 0), .int x1, .int x2, .int x3, .int x4, .int x5] (Px D [(cy 0, .int), (cy 1, .long), (cy 2, .boolean), (cy 3, .byte), (cy 4, .object "HissHorn$Text")] st (VX cy ad st) sz u)) (Qi D (VX cy ad st) (AX ad) sz r u') 0 0 (Ax (AX ad) sz) := by
  refine Met.ofW (cc := cX11_feed) (maxL := 7) (ret := (some .int)) (by decide) rfl ?_
  intro p e s m args below meth c s₁ B hml hv
  obtain ⟨rfl, hsz, hP, hK⟩ := hv
  subst hsz
  have C : Cx RX11 cX11_feed 7 (some .int) wsX11_feed p s m _ meth c := ⟨B.exec, B.bytes, hml, B.returns, findClass_of_methodNamed B.named, atoms_spec (ws := wsX11_feed) B.pre, B.notSynchronized⟩
  have hl := lv_entry ([.ref (ad 0), .int x1, .int x2, .int x3, .int x4, .int x5]) (n := 7) (Nat.le_of_ble_eq_true rfl)
  rw [lg_entry_eq]
  exact wX11_feed_0 C hK hJ x1 x2 x3 x4 x5 h hP va_S.rf hl

theorem zdX11_end_0 : (and (and (and (and (zk cX11_end 0 (.iload_n 1) 1) (zk cX11_end 1 (.iconst 0) 1)) (and (zk cX11_end 2 (.aload_n 0) 1) (zk cX11_end 3 (.getfield 10) 3))) (and (and (zk cX11_end 6 (.getfield 115) 3) (zk cX11_end 9 (.invokestatic 107) 3)) (and (zk cX11_end 12 (.ifCond .ne 5) 3) (zk cX11_end 17 (.aload_n 0) 1)))) (and (and (and (zk cX11_end 18 (.getfield 10) 3) (zk cX11_end 21 (.iload_n 1) 1)) (and (zk cX11_end 22 (.putfield 115) 3) (zk cX11_end 25 (.iconst 1) 1))) (and (and (zk cX11_end 26 (.ireturn) 1) (zk cX11_end 15 (.iconst 0) 1)) (zk cX11_end 16 (.ireturn) 1)))) = true := by decide +kernel
theorem dX11_end_0 : decode cX11_end 0 = .ok (.iload_n 1, 1) := zk_of (zk_l (zk_l (zk_l (zk_l zdX11_end_0))))
theorem dX11_end_1 : decode cX11_end 1 = .ok (.iconst 0, 1) := zk_of (zk_r (zk_l (zk_l (zk_l zdX11_end_0))))
theorem dX11_end_2 : decode cX11_end 2 = .ok (.aload_n 0, 1) := zk_of (zk_l (zk_r (zk_l (zk_l zdX11_end_0))))
theorem dX11_end_3 : decode cX11_end 3 = .ok (.getfield 10, 3) := zk_of (zk_r (zk_r (zk_l (zk_l zdX11_end_0))))
theorem dX11_end_6 : decode cX11_end 6 = .ok (.getfield 115, 3) := zk_of (zk_l (zk_l (zk_r (zk_l zdX11_end_0))))
theorem dX11_end_9 : decode cX11_end 9 = .ok (.invokestatic 107, 3) := zk_of (zk_r (zk_l (zk_r (zk_l zdX11_end_0))))
theorem dX11_end_12 : decode cX11_end 12 = .ok (.ifCond .ne 5, 3) := zk_of (zk_l (zk_r (zk_r (zk_l zdX11_end_0))))
theorem dX11_end_17 : decode cX11_end 17 = .ok (.aload_n 0, 1) := zk_of (zk_r (zk_r (zk_r (zk_l zdX11_end_0))))
theorem dX11_end_18 : decode cX11_end 18 = .ok (.getfield 10, 3) := zk_of (zk_l (zk_l (zk_l (zk_r zdX11_end_0))))
theorem dX11_end_21 : decode cX11_end 21 = .ok (.iload_n 1, 1) := zk_of (zk_r (zk_l (zk_l (zk_r zdX11_end_0))))
theorem dX11_end_22 : decode cX11_end 22 = .ok (.putfield 115, 3) := zk_of (zk_l (zk_r (zk_l (zk_r zdX11_end_0))))
theorem dX11_end_25 : decode cX11_end 25 = .ok (.iconst 1, 1) := zk_of (zk_r (zk_r (zk_l (zk_r zdX11_end_0))))
theorem dX11_end_26 : decode cX11_end 26 = .ok (.ireturn, 1) := zk_of (zk_l (zk_l (zk_r (zk_r zdX11_end_0))))
theorem dX11_end_15 : decode cX11_end 15 = .ok (.iconst 0, 1) := zk_of (zk_r (zk_l (zk_r (zk_r zdX11_end_0))))
theorem dX11_end_16 : decode cX11_end 16 = .ok (.ireturn, 1) := zk_of (zk_r (zk_r (zk_r zdX11_end_0)))
set_option maxRecDepth 20000 in
theorem ggX11_end_X11_within : GoodIn wsX11_end wsX11_within := ggi (fun w h => List.mem_cons_of_mem _ (List.mem_append_left _ (List.mem_append_left _ (List.mem_append_right _ h)))) gs_X11_within
set_option maxRecDepth 20000 in
theorem gX11_end_X11_within : GoodIn wsX11_end (va_wsS RX11 107 yX11_within wsX11_within) := goodIn_app (goodIn_of _ (by decide +kernel)) ggX11_end_X11_within
/-- HissHorn.end(I)Z of cell 0 -/
def rmX11_end_0 : Room := { frames := 1, cells := 0, slots := 0, locals := 22 }
theorem hX11_end_0_X11 : ∀ w ∈ u_ws RX11 TX11 13, w ∈ wsX11_end := fun w h => (List.mem_cons_of_mem _ (List.mem_append_left _ (List.mem_append_right _ h)))
theorem mX11_end_0_1 : Cond.fieldLink RX11 10 "HissHorn" "tape" "LHissHorn$Tape;" ∈ wsX11_end := (List.mem_cons_of_mem _ (List.mem_append_left _ (List.mem_append_left _ (List.mem_append_left _ (List.mem_of_getElem? (i := 3) rfl)))))
theorem hX11_end_0_X9 : ∀ w ∈ u_ws RX9 TX9 2, w ∈ wsX11_end := fun w h => (List.mem_cons_of_mem _ (List.mem_append_right _ h))
theorem mX11_end_0_3 : Cond.fieldLink RX11 115 "HissHorn$Tape" "length" "I" ∈ wsX11_end := (List.mem_cons_of_mem _ (List.mem_append_left _ (List.mem_append_left _ (List.mem_append_left _ (List.mem_of_getElem? (i := 4) rfl)))))
def fX11_end_0 (x1 : Int32) (u : SX) : Option (Int32 × SX) := ((fX11_within x1 0 (u.1 1)).bind fun r1 => (if r1 = 0 then (gd (isB 0) (some (0, u))) else (lt (sI u 1 x1) fun u4 => (gd (isB 1) (some (1, u4))))))
set_option maxHeartbeats 4000000 in
set_option maxRecDepth 100000 in
theorem wX11_end_0 {p : Program} {l : Launch} {e : Env} {s : State} {m : MethodId} {args : Array Value} {below : List Frame} {meth : Method} {c : Code} {D : va_G} {cy : Nat → ClassId} {ad st : Nat → Nat} (C : Cx RX11 cX11_end 2 (some .boolean) wsX11_end p s m args meth c) (hK : Ky D [(cy 0, .int), (cy 1, .long), (cy 2, .boolean), (cy 3, .byte), (cy 4, .object "HissHorn$Text")] st s) (hJ : JX ad st) (x1 : Int32) {u : SX} {r : Int32} {u' : SX} {H : Heap} {locs : List Loc} {ls : Array Slot} (h : fX11_end_0 x1 u = some (r, u')) (hP : va_P D vwCl (VX cy ad st u) H) (hS : va_S (Ax (AX ad) s.heap.size) s.heap H locs) (hl : lv_has ls 2 [(0, .ref (ad 0)), (1, .int x1)]) : W p l e rmX11_end_0 s m args below meth c H locs 0 0 (MQ below (Qi D (VX cy ad st) (AX ad) s.heap.size r u') args s 0 0 (Ax (AX ad) s.heap.size)) (F0 m 0 ls []) := by
  unfold fX11_end_0 at h
  refine lv_iload_n C.1 C.2.1 dX11_end_0 rfl (lv_at hl 1 rfl) ?_
  refine lv_iconst (v := 0) C.1 C.2.1 dX11_end_1 (by decide) ?_
  refine lv_aload_n C.1 C.2.1 dX11_end_2 rfl (lv_at hl 0 rfl) ?_
  refine gX_0_tape C hX11_end_0_X11 hK hP mX11_end_0_1 dX11_end_3 ?_
  refine gX_1_length C hX11_end_0_X9 hK hP mX11_end_0_3 dX11_end_6 ?_
  obtain ⟨r1, hc3, h⟩ := bd_some h
  refine cs_i (As := [.int x1, .int 0, .int (u.1 1)]) (rest := []) (AX_ge hJ) C hK hP hS (metX11_within l D cy st _ x1 0 (u.1 1) hc3) (va_cwS 3 C.2.2.2.2.2.1 gX11_end_X11_within rfl rfl rfl (by decide +kernel) ⟨(Nat.le_of_ble_eq_true rfl), (Nat.le_of_ble_eq_true rfl)⟩) rfl hl.1 rfl (Nat.le_of_ble_eq_true rfl) dX11_end_9 ⟨Nat.zero_le _, Nat.zero_le _⟩ (fun H locs hP hS => ?_)
  refine lv_if_ne (tgt := 17) C.1 C.2.1 dX11_end_12 (by decide) (fun c12 => ?_) (fun c12 => ?_)
  · rw [if_neg c12] at h
    refine lv_aload_n C.1 C.2.1 dX11_end_17 rfl (lv_at hl 0 rfl) ?_
    refine gX_0_tape C hX11_end_0_X11 hK hP mX11_end_0_1 dX11_end_18 ?_
    refine lv_iload_n C.1 C.2.1 dX11_end_21 rfl (lv_at hl 1 rfl) ?_
    refine pX_1_length C hX11_end_0_X9 hK hP hJ hS mX11_end_0_3 dX11_end_22 (fun H locs hP hS => ?_)
    obtain ⟨u4, hu5, h⟩ := lt_some h
    rw [← hu5] at hP
    refine lv_iconst (v := 1) C.1 C.2.1 dX11_end_25 (by decide) ?_
    obtain ⟨hg6, h⟩ := gd_some h
    cases h
    exact rt_z hg6 C hP hS dX11_end_26
  · rw [if_pos c12] at h
    refine lv_iconst (v := 0) C.1 C.2.1 dX11_end_15 (by decide) ?_
    obtain ⟨hg7, h⟩ := gd_some h
    cases h
    exact rt_z hg7 C hP hS dX11_end_16
theorem metX11_end_0 (l : Launch) (D : va_G) (cy : Nat → ClassId) (ad st : Nat → Nat) (hJ : JX ad st) (sz : Nat) (x1 : Int32) {u : SX} {r : Int32} {u' : SX} (h : fX11_end_0 x1 u = some (r, u')) : Met l yX11_end wsX11_end rmX11_end_0 (va_Pc [.ref (ad 0), .int x1] (Px D [(cy 0, .int), (cy 1, .long), (cy 2, .boolean), (cy 3, .byte), (cy 4, .object "HissHorn$Text")] st (VX cy ad st) sz u)) (Qi D (VX cy ad st) (AX ad) sz r u') 0 0 (Ax (AX ad) sz) := by
  refine Met.ofW (cc := cX11_end) (maxL := 2) (ret := (some .boolean)) (by decide) rfl ?_
  intro p e s m args below meth c s₁ B hml hv
  obtain ⟨rfl, hsz, hP, hK⟩ := hv
  subst hsz
  have C : Cx RX11 cX11_end 2 (some .boolean) wsX11_end p s m _ meth c := ⟨B.exec, B.bytes, hml, B.returns, findClass_of_methodNamed B.named, atoms_spec (ws := wsX11_end) B.pre, B.notSynchronized⟩
  have hl := lv_entry ([.ref (ad 0), .int x1]) (n := 2) (Nat.le_of_ble_eq_true rfl)
  rw [lg_entry_eq]
  exact wX11_end_0 C hK hJ x1 h hP va_S.rf hl

theorem zdX11_shelfOf_0 : (and (and (and (and (zk cX11_shelfOf 0 (.iload_n 1) 1) (zk cX11_shelfOf 1 (.tableswitch 42 0 2 #[27, 32, 37]) 27)) (and (zk cX11_shelfOf 28 (.aload_n 0) 1) (zk cX11_shelfOf 29 (.getfield 32) 3))) (and (and (zk cX11_shelfOf 32 (.areturn) 1) (zk cX11_shelfOf 33 (.aload_n 0) 1)) (zk cX11_shelfOf 34 (.getfield 38) 3))) (and (and (and (zk cX11_shelfOf 37 (.areturn) 1) (zk cX11_shelfOf 38 (.aload_n 0) 1)) (zk cX11_shelfOf 39 (.getfield 43) 3)) (and (and (zk cX11_shelfOf 42 (.areturn) 1) (zk cX11_shelfOf 43 (.aconst_null) 1)) (zk cX11_shelfOf 44 (.areturn) 1)))) = true := by decide +kernel
theorem dX11_shelfOf_0 : decode cX11_shelfOf 0 = .ok (.iload_n 1, 1) := zk_of (zk_l (zk_l (zk_l (zk_l zdX11_shelfOf_0))))
theorem dX11_shelfOf_1 : decode cX11_shelfOf 1 = .ok (.tableswitch 42 0 2 #[27, 32, 37], 27) := zk_of (zk_r (zk_l (zk_l (zk_l zdX11_shelfOf_0))))
theorem dX11_shelfOf_28 : decode cX11_shelfOf 28 = .ok (.aload_n 0, 1) := zk_of (zk_l (zk_r (zk_l (zk_l zdX11_shelfOf_0))))
theorem dX11_shelfOf_29 : decode cX11_shelfOf 29 = .ok (.getfield 32, 3) := zk_of (zk_r (zk_r (zk_l (zk_l zdX11_shelfOf_0))))
theorem dX11_shelfOf_32 : decode cX11_shelfOf 32 = .ok (.areturn, 1) := zk_of (zk_l (zk_l (zk_r (zk_l zdX11_shelfOf_0))))
theorem dX11_shelfOf_33 : decode cX11_shelfOf 33 = .ok (.aload_n 0, 1) := zk_of (zk_r (zk_l (zk_r (zk_l zdX11_shelfOf_0))))
theorem dX11_shelfOf_34 : decode cX11_shelfOf 34 = .ok (.getfield 38, 3) := zk_of (zk_r (zk_r (zk_l zdX11_shelfOf_0)))
theorem dX11_shelfOf_37 : decode cX11_shelfOf 37 = .ok (.areturn, 1) := zk_of (zk_l (zk_l (zk_l (zk_r zdX11_shelfOf_0))))
theorem dX11_shelfOf_38 : decode cX11_shelfOf 38 = .ok (.aload_n 0, 1) := zk_of (zk_r (zk_l (zk_l (zk_r zdX11_shelfOf_0))))
theorem dX11_shelfOf_39 : decode cX11_shelfOf 39 = .ok (.getfield 43, 3) := zk_of (zk_r (zk_l (zk_r zdX11_shelfOf_0)))
theorem dX11_shelfOf_42 : decode cX11_shelfOf 42 = .ok (.areturn, 1) := zk_of (zk_l (zk_l (zk_r (zk_r zdX11_shelfOf_0))))
theorem dX11_shelfOf_43 : decode cX11_shelfOf 43 = .ok (.aconst_null, 1) := zk_of (zk_r (zk_l (zk_r (zk_r zdX11_shelfOf_0))))
theorem dX11_shelfOf_44 : decode cX11_shelfOf 44 = .ok (.areturn, 1) := zk_of (zk_r (zk_r (zk_r zdX11_shelfOf_0)))
/-- HissHorn.shelfOf(I)LHissHorn$Shelf; of cell 0 -/
def rmX11_shelfOf_0 : Room := { frames := 0, cells := 0, slots := 0, locals := 0 }
theorem hX11_shelfOf_0_X11 : ∀ w ∈ u_ws RX11 TX11 13, w ∈ wsX11_shelfOf := fun w h => (List.mem_cons_of_mem _ (List.mem_append_right _ h))
theorem mX11_shelfOf_0_1 : Cond.fieldLink RX11 32 "HissHorn" "laws" "LHissHorn$Shelf;" ∈ wsX11_shelfOf := (List.mem_cons_of_mem _ (List.mem_append_left _ (List.mem_of_getElem? (i := 0) rfl)))
theorem mX11_shelfOf_0_2 : Cond.fieldLink RX11 38 "HissHorn" "guesses" "LHissHorn$Shelf;" ∈ wsX11_shelfOf := (List.mem_cons_of_mem _ (List.mem_append_left _ (List.mem_of_getElem? (i := 1) rfl)))
theorem mX11_shelfOf_0_3 : Cond.fieldLink RX11 43 "HissHorn" "rules" "LHissHorn$Shelf;" ∈ wsX11_shelfOf := (List.mem_cons_of_mem _ (List.mem_append_left _ (List.mem_of_getElem? (i := 2) rfl)))
def fX11_shelfOf_0 (x1 : Int32) (u : SX) : Option (Nat × SX) := (if x1 = 0 then (some (4, u)) else (if x1 = 1 then (some (5, u)) else (if x1 = 2 then (some (6, u)) else (some (0, u)))))
set_option maxHeartbeats 4000000 in
set_option maxRecDepth 100000 in
theorem wX11_shelfOf_0 {p : Program} {l : Launch} {e : Env} {s : State} {m : MethodId} {args : Array Value} {below : List Frame} {meth : Method} {c : Code} {D : va_G} {cy : Nat → ClassId} {ad st : Nat → Nat} (C : Cx RX11 cX11_shelfOf 2 (some (.object "HissHorn$Shelf")) wsX11_shelfOf p s m args meth c) (hK : Ky D [(cy 0, .int), (cy 1, .long), (cy 2, .boolean), (cy 3, .byte), (cy 4, .object "HissHorn$Text")] st s) (hJ : JX ad st) (x1 : Int32) {u : SX} {r : Nat} {u' : SX} {H : Heap} {locs : List Loc} {ls : Array Slot} (h : fX11_shelfOf_0 x1 u = some (r, u')) (hP : va_P D vwCl (VX cy ad st u) H) (hS : va_S (Ax (AX ad) s.heap.size) s.heap H locs) (hl : lv_has ls 2 [(0, .ref (ad 0)), (1, .int x1)]) : W p l e rmX11_shelfOf_0 s m args below meth c H locs 0 0 (MQ below (Qq ad D (VX cy ad st) (AX ad) s.heap.size r u') args s 0 0 (Ax (AX ad) s.heap.size)) (F0 m 0 ls []) := by
  unfold fX11_shelfOf_0 at h
  refine lv_iload_n C.1 C.2.1 dX11_shelfOf_0 rfl (lv_at hl 1 rfl) ?_
  by_cases c1_0 : x1 = 0
  · rw [if_pos c1_0] at h
    rw [c1_0]
    refine lv_tableIn (off := 27) (tgt := 28) C.1 C.2.1 dX11_shelfOf_1 (by decide) (by decide) (by decide) (by decide) ?_
    refine lv_aload_n C.1 C.2.1 dX11_shelfOf_28 rfl (lv_at hl 0 rfl) ?_
    refine gX_0_laws C hX11_shelfOf_0_X11 hK hP mX11_shelfOf_0_1 dX11_shelfOf_29 ?_
    cases h
    exact rt_q C (Or.inl ⟨_, rfl⟩) (k := 4) hP hS dX11_shelfOf_32
  · rw [if_neg c1_0] at h
    by_cases c1_1 : x1 = 1
    · rw [if_pos c1_1] at h
      rw [c1_1]
      refine lv_tableIn (off := 32) (tgt := 33) C.1 C.2.1 dX11_shelfOf_1 (by decide) (by decide) (by decide) (by decide) ?_
      refine lv_aload_n C.1 C.2.1 dX11_shelfOf_33 rfl (lv_at hl 0 rfl) ?_
      refine gX_0_guesses C hX11_shelfOf_0_X11 hK hP mX11_shelfOf_0_2 dX11_shelfOf_34 ?_
      cases h
      exact rt_q C (Or.inl ⟨_, rfl⟩) (k := 5) hP hS dX11_shelfOf_37
    · rw [if_neg c1_1] at h
      by_cases c1_2 : x1 = 2
      · rw [if_pos c1_2] at h
        rw [c1_2]
        refine lv_tableIn (off := 37) (tgt := 38) C.1 C.2.1 dX11_shelfOf_1 (by decide) (by decide) (by decide) (by decide) ?_
        refine lv_aload_n C.1 C.2.1 dX11_shelfOf_38 rfl (lv_at hl 0 rfl) ?_
        refine gX_0_rules C hX11_shelfOf_0_X11 hK hP mX11_shelfOf_0_3 dX11_shelfOf_39 ?_
        cases h
        exact rt_q C (Or.inl ⟨_, rfl⟩) (k := 6) hP hS dX11_shelfOf_42
      · rw [if_neg c1_2] at h
        have e1_0 := lv_neT c1_0 (show (0 : Int32).toInt = 0 from by decide)
        have e1_1 := lv_neT c1_1 (show (1 : Int32).toInt = 1 from by decide)
        have e1_2 := lv_neT c1_2 (show (2 : Int32).toInt = 2 from by decide)
        refine lv_tableOut (tgt := 43) C.1 C.2.1 dX11_shelfOf_1 (by omega) (by decide) ?_
        refine lv_null C.1 C.2.1 dX11_shelfOf_43 ?_
        cases h
        exact rt_q C (Or.inl ⟨_, rfl⟩) (k := 0) hP hS dX11_shelfOf_44
theorem metX11_shelfOf_0 (l : Launch) (D : va_G) (cy : Nat → ClassId) (ad st : Nat → Nat) (hJ : JX ad st) (sz : Nat) (x1 : Int32) {u : SX} {r : Nat} {u' : SX} (h : fX11_shelfOf_0 x1 u = some (r, u')) : Met l yX11_shelfOf wsX11_shelfOf rmX11_shelfOf_0 (va_Pc [.ref (ad 0), .int x1] (Px D [(cy 0, .int), (cy 1, .long), (cy 2, .boolean), (cy 3, .byte), (cy 4, .object "HissHorn$Text")] st (VX cy ad st) sz u)) (Qq ad D (VX cy ad st) (AX ad) sz r u') 0 0 (Ax (AX ad) sz) := by
  refine Met.ofW (cc := cX11_shelfOf) (maxL := 2) (ret := (some (.object "HissHorn$Shelf"))) (by decide) rfl ?_
  intro p e s m args below meth c s₁ B hml hv
  obtain ⟨rfl, hsz, hP, hK⟩ := hv
  subst hsz
  have C : Cx RX11 cX11_shelfOf 2 (some (.object "HissHorn$Shelf")) wsX11_shelfOf p s m _ meth c := ⟨B.exec, B.bytes, hml, B.returns, findClass_of_methodNamed B.named, atoms_spec (ws := wsX11_shelfOf) B.pre, B.notSynchronized⟩
  have hl := lv_entry ([.ref (ad 0), .int x1]) (n := 2) (Nat.le_of_ble_eq_true rfl)
  rw [lg_entry_eq]
  exact wX11_shelfOf_0 C hK hJ x1 h hP va_S.rf hl

theorem zdX5_peek_0 : (and (and (and (and (and (zk cX5_peek 0 (.aload_n 0) 1) (zk cX5_peek 1 (.getfield 27) 3)) (and (zk cX5_peek 4 (.aload_n 0) 1) (zk cX5_peek 5 (.getfield 23) 3))) (and (and (zk cX5_peek 8 (.getfield 34) 3) (zk cX5_peek 11 (.if_icmp .ge 33) 3)) (and (zk cX5_peek 14 (.aload_n 0) 1) (zk cX5_peek 15 (.getfield 23) 3)))) (and (and (and (zk cX5_peek 18 (.getfield 90) 3) (zk cX5_peek 21 (.aload_n 0) 1)) (and (zk cX5_peek 22 (.getfield 27) 3) (zk cX5_peek 25 (.iaload) 1))) (and (and (zk cX5_peek 26 (.bipush 32) 2) (zk cX5_peek 28 (.if_icmp .ne 16) 3)) (and (zk cX5_peek 31 (.aload_n 0) 1) (zk cX5_peek 32 (.dup) 1))))) (and (and (and (and (zk cX5_peek 33 (.getfield 27) 3) (zk cX5_peek 36 (.iconst 1) 1)) (and (zk cX5_peek 37 (.iadd) 1) (zk cX5_peek 38 (.putfield 27) 3))) (and (and (zk cX5_peek 41 (.goto (-41)) 3) (zk cX5_peek 44 (.aload_n 0) 1)) (and (zk cX5_peek 45 (.getfield 27) 3) (zk cX5_peek 48 (.aload_n 0) 1)))) (and (and (and (zk cX5_peek 49 (.getfield 23) 3) (zk cX5_peek 52 (.getfield 34) 3)) (and (zk cX5_peek 55 (.if_icmp .ge 18) 3) (zk cX5_peek 73 (.iconst 0) 1))) (and (and (zk cX5_peek 74 (.ireturn) 1) (zk cX5_peek 58 (.aload_n 0) 1)) (and (zk cX5_peek 59 (.getfield 23) 3) (zk cX5_peek 62 (.getfield 90) 3)))))) = true := by decide +kernel
theorem dX5_peek_0 : decode cX5_peek 0 = .ok (.aload_n 0, 1) := zk_of (zk_l (zk_l (zk_l (zk_l (zk_l zdX5_peek_0)))))
theorem dX5_peek_1 : decode cX5_peek 1 = .ok (.getfield 27, 3) := zk_of (zk_r (zk_l (zk_l (zk_l (zk_l zdX5_peek_0)))))
theorem dX5_peek_4 : decode cX5_peek 4 = .ok (.aload_n 0, 1) := zk_of (zk_l (zk_r (zk_l (zk_l (zk_l zdX5_peek_0)))))
theorem dX5_peek_5 : decode cX5_peek 5 = .ok (.getfield 23, 3) := zk_of (zk_r (zk_r (zk_l (zk_l (zk_l zdX5_peek_0)))))
theorem dX5_peek_8 : decode cX5_peek 8 = .ok (.getfield 34, 3) := zk_of (zk_l (zk_l (zk_r (zk_l (zk_l zdX5_peek_0)))))
theorem dX5_peek_11 : decode cX5_peek 11 = .ok (.if_icmp .ge 33, 3) := zk_of (zk_r (zk_l (zk_r (zk_l (zk_l zdX5_peek_0)))))
theorem dX5_peek_14 : decode cX5_peek 14 = .ok (.aload_n 0, 1) := zk_of (zk_l (zk_r (zk_r (zk_l (zk_l zdX5_peek_0)))))
theorem dX5_peek_15 : decode cX5_peek 15 = .ok (.getfield 23, 3) := zk_of (zk_r (zk_r (zk_r (zk_l (zk_l zdX5_peek_0)))))
theorem dX5_peek_18 : decode cX5_peek 18 = .ok (.getfield 90, 3) := zk_of (zk_l (zk_l (zk_l (zk_r (zk_l zdX5_peek_0)))))
theorem dX5_peek_21 : decode cX5_peek 21 = .ok (.aload_n 0, 1) := zk_of (zk_r (zk_l (zk_l (zk_r (zk_l zdX5_peek_0)))))
theorem dX5_peek_22 : decode cX5_peek 22 = .ok (.getfield 27, 3) := zk_of (zk_l (zk_r (zk_l (zk_r (zk_l zdX5_peek_0)))))
theorem dX5_peek_25 : decode cX5_peek 25 = .ok (.iaload, 1) := zk_of (zk_r (zk_r (zk_l (zk_r (zk_l zdX5_peek_0)))))
theorem dX5_peek_26 : decode cX5_peek 26 = .ok (.bipush 32, 2) := zk_of (zk_l (zk_l (zk_r (zk_r (zk_l zdX5_peek_0)))))
theorem dX5_peek_28 : decode cX5_peek 28 = .ok (.if_icmp .ne 16, 3) := zk_of (zk_r (zk_l (zk_r (zk_r (zk_l zdX5_peek_0)))))
theorem dX5_peek_31 : decode cX5_peek 31 = .ok (.aload_n 0, 1) := zk_of (zk_l (zk_r (zk_r (zk_r (zk_l zdX5_peek_0)))))
theorem dX5_peek_32 : decode cX5_peek 32 = .ok (.dup, 1) := zk_of (zk_r (zk_r (zk_r (zk_r (zk_l zdX5_peek_0)))))
theorem dX5_peek_33 : decode cX5_peek 33 = .ok (.getfield 27, 3) := zk_of (zk_l (zk_l (zk_l (zk_l (zk_r zdX5_peek_0)))))
theorem dX5_peek_36 : decode cX5_peek 36 = .ok (.iconst 1, 1) := zk_of (zk_r (zk_l (zk_l (zk_l (zk_r zdX5_peek_0)))))
theorem dX5_peek_37 : decode cX5_peek 37 = .ok (.iadd, 1) := zk_of (zk_l (zk_r (zk_l (zk_l (zk_r zdX5_peek_0)))))
theorem dX5_peek_38 : decode cX5_peek 38 = .ok (.putfield 27, 3) := zk_of (zk_r (zk_r (zk_l (zk_l (zk_r zdX5_peek_0)))))
theorem dX5_peek_41 : decode cX5_peek 41 = .ok (.goto (-41), 3) := zk_of (zk_l (zk_l (zk_r (zk_l (zk_r zdX5_peek_0)))))
theorem dX5_peek_44 : decode cX5_peek 44 = .ok (.aload_n 0, 1) := zk_of (zk_r (zk_l (zk_r (zk_l (zk_r zdX5_peek_0)))))
theorem dX5_peek_45 : decode cX5_peek 45 = .ok (.getfield 27, 3) := zk_of (zk_l (zk_r (zk_r (zk_l (zk_r zdX5_peek_0)))))
theorem dX5_peek_48 : decode cX5_peek 48 = .ok (.aload_n 0, 1) := zk_of (zk_r (zk_r (zk_r (zk_l (zk_r zdX5_peek_0)))))
theorem dX5_peek_49 : decode cX5_peek 49 = .ok (.getfield 23, 3) := zk_of (zk_l (zk_l (zk_l (zk_r (zk_r zdX5_peek_0)))))
theorem dX5_peek_52 : decode cX5_peek 52 = .ok (.getfield 34, 3) := zk_of (zk_r (zk_l (zk_l (zk_r (zk_r zdX5_peek_0)))))
theorem dX5_peek_55 : decode cX5_peek 55 = .ok (.if_icmp .ge 18, 3) := zk_of (zk_l (zk_r (zk_l (zk_r (zk_r zdX5_peek_0)))))
theorem dX5_peek_73 : decode cX5_peek 73 = .ok (.iconst 0, 1) := zk_of (zk_r (zk_r (zk_l (zk_r (zk_r zdX5_peek_0)))))
theorem dX5_peek_74 : decode cX5_peek 74 = .ok (.ireturn, 1) := zk_of (zk_l (zk_l (zk_r (zk_r (zk_r zdX5_peek_0)))))
theorem dX5_peek_58 : decode cX5_peek 58 = .ok (.aload_n 0, 1) := zk_of (zk_r (zk_l (zk_r (zk_r (zk_r zdX5_peek_0)))))
theorem dX5_peek_59 : decode cX5_peek 59 = .ok (.getfield 23, 3) := zk_of (zk_l (zk_r (zk_r (zk_r (zk_r zdX5_peek_0)))))
theorem dX5_peek_62 : decode cX5_peek 62 = .ok (.getfield 90, 3) := zk_of (zk_r (zk_r (zk_r (zk_r (zk_r zdX5_peek_0)))))
theorem zdX5_peek_65 : (and (and (zk cX5_peek 65 (.aload_n 0) 1) (zk cX5_peek 66 (.getfield 27) 3)) (and (zk cX5_peek 69 (.iaload) 1) (zk cX5_peek 70 (.goto 4) 3))) = true := by decide +kernel
theorem dX5_peek_65 : decode cX5_peek 65 = .ok (.aload_n 0, 1) := zk_of (zk_l (zk_l zdX5_peek_65))
theorem dX5_peek_66 : decode cX5_peek 66 = .ok (.getfield 27, 3) := zk_of (zk_r (zk_l zdX5_peek_65))
theorem dX5_peek_69 : decode cX5_peek 69 = .ok (.iaload, 1) := zk_of (zk_l (zk_r zdX5_peek_65))
theorem dX5_peek_70 : decode cX5_peek 70 = .ok (.goto 4, 3) := zk_of (zk_r (zk_r zdX5_peek_65))
/-- HissHorn$Parser.peek()I of cell 2 -/
def rmX5_peek_2 : Room := { frames := 0, cells := 0, slots := 0, locals := 0 }
theorem hX5_peek_2_X5 : ∀ w ∈ u_ws RX5 TX5 5, w ∈ wsX5_peek := fun w h => (List.mem_cons_of_mem _ (List.mem_append_left _ (List.mem_append_right _ h)))
theorem mX5_peek_2_1 : Cond.fieldLink RX5 27 "HissHorn$Parser" "at" "I" ∈ wsX5_peek := (List.mem_cons_of_mem _ (List.mem_append_left _ (List.mem_append_left _ (List.mem_of_getElem? (i := 0) rfl))))
theorem mX5_peek_2_2 : Cond.fieldLink RX5 23 "HissHorn$Parser" "tape" "LHissHorn$Tape;" ∈ wsX5_peek := (List.mem_cons_of_mem _ (List.mem_append_left _ (List.mem_append_left _ (List.mem_of_getElem? (i := 1) rfl))))
theorem hX5_peek_2_X9 : ∀ w ∈ u_ws RX9 TX9 2, w ∈ wsX5_peek := fun w h => (List.mem_cons_of_mem _ (List.mem_append_right _ h))
theorem mX5_peek_2_4 : Cond.fieldLink RX5 34 "HissHorn$Tape" "length" "I" ∈ wsX5_peek := (List.mem_cons_of_mem _ (List.mem_append_left _ (List.mem_append_left _ (List.mem_of_getElem? (i := 2) rfl))))
theorem mX5_peek_2_5 : Cond.fieldLink RX5 90 "HissHorn$Tape" "bytes" "[I" ∈ wsX5_peek := (List.mem_cons_of_mem _ (List.mem_append_left _ (List.mem_append_left _ (List.mem_of_getElem? (i := 3) rfl))))
def LX5_peek_2_0 (k44 : SX → Option (Int32 × SX)) : Nat → SX → Option (Int32 × SX)
  | 0, _ => none
  | n + 1, u => (if (u.1 1) ≤ (u.1 4) then (k44 u) else (gd (inb (u.1 4) 120) (if (u.2.1 13 (u.1 4).toNatClampNeg) = 32 then (lt (sI u 4 ((u.1 4) + 1)) fun u2 => ((LX5_peek_2_0 k44 n) u2)) else (k44 u))))
def GX5_peek_2_44  (u : SX) : Option (Int32 × SX) := (if (u.1 1) ≤ (u.1 4) then (some (0, u)) else (gd (inb (u.1 4) 120) (some (u.2.1 13 (u.1 4).toNatClampNeg, u))))
def fX5_peek_2  (u : SX) : Option (Int32 × SX) := (LX5_peek_2_0 GX5_peek_2_44 5000 u)
set_option maxHeartbeats 4000000 in
set_option maxRecDepth 100000 in
theorem wLX5_peek_2_0 {p : Program} {l : Launch} {e : Env} {s : State} {m : MethodId} {args : Array Value} {below : List Frame} {meth : Method} {c : Code} {D : va_G} {cy : Nat → ClassId} {ad st : Nat → Nat} (C : Cx RX5 cX5_peek 1 (some .int) wsX5_peek p s m args meth c) (hK : Ky D [(cy 0, .int), (cy 1, .long), (cy 2, .boolean), (cy 3, .byte), (cy 4, .object "HissHorn$Text")] st s) (hJ : JX ad st) {r : Int32} {u' : SX} {k44 : SX → Option (Int32 × SX)} (hk44 : ∀  (u : SX) (H : Heap) (locs : List Loc) (ls : Array Slot), k44 u = some (r, u') → va_P D vwCl (VX cy ad st u) H → va_S (Ax (AX ad) s.heap.size) s.heap H locs → lv_has ls 1 [(0, .ref (ad 2))] → W p l e rmX5_peek_2 s m args below meth c H locs 0 0 (MQ below (Qi D (VX cy ad st) (AX ad) s.heap.size r u') args s 0 0 (Ax (AX ad) s.heap.size)) (F0 m 44 ls [])) : ∀ (n : Nat) (u : SX) (H : Heap) (locs : List Loc) (ls : Array Slot), LX5_peek_2_0 k44 n u = some (r, u') → va_P D vwCl (VX cy ad st u) H → va_S (Ax (AX ad) s.heap.size) s.heap H locs → lv_has ls 1 [(0, .ref (ad 2))] → W p l e rmX5_peek_2 s m args below meth c H locs 0 0 (MQ below (Qi D (VX cy ad st) (AX ad) s.heap.size r u') args s 0 0 (Ax (AX ad) s.heap.size)) (F0 m 0 ls []) := by
  intro n
  induction n with
  | zero =>
    intro u H locs ls h
    exact absurd h (by intro q; cases q)
  | succ n ih =>
    intro u H locs ls h hP hS hl
    rw [LX5_peek_2_0] at h
    refine lv_aload_n C.1 C.2.1 dX5_peek_0 rfl (lv_at hl 0 rfl) ?_
    refine gX_2_at C hX5_peek_2_X5 hK hP mX5_peek_2_1 dX5_peek_1 ?_
    refine lv_aload_n C.1 C.2.1 dX5_peek_4 rfl (lv_at hl 0 rfl) ?_
    refine gX_2_tape C hX5_peek_2_X5 hK hP mX5_peek_2_2 dX5_peek_5 ?_
    refine gX_1_length C hX5_peek_2_X9 hK hP mX5_peek_2_4 dX5_peek_8 ?_
    refine lv_icmp_ge (tgt := 44) C.1 C.2.1 dX5_peek_11 (by decide) (fun c11 => ?_) (fun c11 => ?_)
    · rw [if_pos c11] at h
      exact hk44 _ _ _ _ h hP hS hl
    · rw [if_neg c11] at h
      refine lv_aload_n C.1 C.2.1 dX5_peek_14 rfl (lv_at hl 0 rfl) ?_
      refine gX_2_tape C hX5_peek_2_X5 hK hP mX5_peek_2_2 dX5_peek_15 ?_
      refine gX_1_bytes C hX5_peek_2_X9 hK hP mX5_peek_2_5 dX5_peek_18 ?_
      refine lv_aload_n C.1 C.2.1 dX5_peek_21 rfl (lv_at hl 0 rfl) ?_
      refine gX_2_at C hX5_peek_2_X5 hK hP mX5_peek_2_1 dX5_peek_22 ?_
      obtain ⟨hg1, h⟩ := gd_some h
      refine lX_13 C hK hP hg1 dX5_peek_25 ?_
      refine lv_bipush (v := 32) C.1 C.2.1 dX5_peek_26 (by decide) ?_
      refine lv_icmp_ne (tgt := 44) C.1 C.2.1 dX5_peek_28 (by decide) (fun c28 => ?_) (fun c28 => ?_)
      · rw [if_neg c28] at h
        exact hk44 _ _ _ _ h hP hS hl
      · rw [if_pos c28] at h
        refine lv_aload_n C.1 C.2.1 dX5_peek_31 rfl (lv_at hl 0 rfl) ?_
        refine lv_dup C.1 C.2.1 dX5_peek_32 rfl ?_
        refine gX_2_at C hX5_peek_2_X5 hK hP mX5_peek_2_1 dX5_peek_33 ?_
        refine lv_iconst (v := 1) C.1 C.2.1 dX5_peek_36 (by decide) ?_
        refine lv_iadd C.1 C.2.1 dX5_peek_37 ?_
        refine pX_2_at C hX5_peek_2_X5 hK hP hJ hS mX5_peek_2_1 dX5_peek_38 (fun H locs hP hS => ?_)
        obtain ⟨u2, hu3, h⟩ := lt_some h
        rw [← hu3] at hP
        refine lv_goto (tgt := 0) C.1 C.2.1 dX5_peek_41 (by decide) ?_
        exact ih _ _ _ _ h hP hS hl
set_option maxHeartbeats 4000000 in
set_option maxRecDepth 100000 in
theorem wGX5_peek_2_44 {p : Program} {l : Launch} {e : Env} {s : State} {m : MethodId} {args : Array Value} {below : List Frame} {meth : Method} {c : Code} {D : va_G} {cy : Nat → ClassId} {ad st : Nat → Nat} (C : Cx RX5 cX5_peek 1 (some .int) wsX5_peek p s m args meth c) (hK : Ky D [(cy 0, .int), (cy 1, .long), (cy 2, .boolean), (cy 3, .byte), (cy 4, .object "HissHorn$Text")] st s) (hJ : JX ad st) {r : Int32} {u' : SX}   (u : SX) (H : Heap) (locs : List Loc) (ls : Array Slot) (h : GX5_peek_2_44  u = some (r, u')) (hP : va_P D vwCl (VX cy ad st u) H) (hS : va_S (Ax (AX ad) s.heap.size) s.heap H locs) (hl : lv_has ls 1 [(0, .ref (ad 2))]) : W p l e rmX5_peek_2 s m args below meth c H locs 0 0 (MQ below (Qi D (VX cy ad st) (AX ad) s.heap.size r u') args s 0 0 (Ax (AX ad) s.heap.size)) (F0 m 44 ls []) := by
  unfold GX5_peek_2_44 at h
  refine lv_aload_n C.1 C.2.1 dX5_peek_44 rfl (lv_at hl 0 rfl) ?_
  refine gX_2_at C hX5_peek_2_X5 hK hP mX5_peek_2_1 dX5_peek_45 ?_
  refine lv_aload_n C.1 C.2.1 dX5_peek_48 rfl (lv_at hl 0 rfl) ?_
  refine gX_2_tape C hX5_peek_2_X5 hK hP mX5_peek_2_2 dX5_peek_49 ?_
  refine gX_1_length C hX5_peek_2_X9 hK hP mX5_peek_2_4 dX5_peek_52 ?_
  refine lv_icmp_ge (tgt := 73) C.1 C.2.1 dX5_peek_55 (by decide) (fun c55 => ?_) (fun c55 => ?_)
  · rw [if_pos c55] at h
    refine lv_iconst (v := 0) C.1 C.2.1 dX5_peek_73 (by decide) ?_
    cases h
    exact rt_i C hP hS dX5_peek_74
  · rw [if_neg c55] at h
    refine lv_aload_n C.1 C.2.1 dX5_peek_58 rfl (lv_at hl 0 rfl) ?_
    refine gX_2_tape C hX5_peek_2_X5 hK hP mX5_peek_2_2 dX5_peek_59 ?_
    refine gX_1_bytes C hX5_peek_2_X9 hK hP mX5_peek_2_5 dX5_peek_62 ?_
    refine lv_aload_n C.1 C.2.1 dX5_peek_65 rfl (lv_at hl 0 rfl) ?_
    refine gX_2_at C hX5_peek_2_X5 hK hP mX5_peek_2_1 dX5_peek_66 ?_
    obtain ⟨hg4, h⟩ := gd_some h
    refine lX_13 C hK hP hg4 dX5_peek_69 ?_
    refine lv_goto (tgt := 74) C.1 C.2.1 dX5_peek_70 (by decide) ?_
    cases h
    exact rt_i C hP hS dX5_peek_74
set_option maxHeartbeats 4000000 in
set_option maxRecDepth 100000 in
theorem wX5_peek_2 {p : Program} {l : Launch} {e : Env} {s : State} {m : MethodId} {args : Array Value} {below : List Frame} {meth : Method} {c : Code} {D : va_G} {cy : Nat → ClassId} {ad st : Nat → Nat} (C : Cx RX5 cX5_peek 1 (some .int) wsX5_peek p s m args meth c) (hK : Ky D [(cy 0, .int), (cy 1, .long), (cy 2, .boolean), (cy 3, .byte), (cy 4, .object "HissHorn$Text")] st s) (hJ : JX ad st)  {u : SX} {r : Int32} {u' : SX} {H : Heap} {locs : List Loc} {ls : Array Slot} (h : fX5_peek_2  u = some (r, u')) (hP : va_P D vwCl (VX cy ad st u) H) (hS : va_S (Ax (AX ad) s.heap.size) s.heap H locs) (hl : lv_has ls 1 [(0, .ref (ad 2))]) : W p l e rmX5_peek_2 s m args below meth c H locs 0 0 (MQ below (Qi D (VX cy ad st) (AX ad) s.heap.size r u') args s 0 0 (Ax (AX ad) s.heap.size)) (F0 m 0 ls []) := by
  unfold fX5_peek_2 at h
  exact wLX5_peek_2_0 C hK hJ (wGX5_peek_2_44 C hK hJ ) 5000 _ _ _ _ h hP hS hl
theorem metX5_peek_2 (l : Launch) (D : va_G) (cy : Nat → ClassId) (ad st : Nat → Nat) (hJ : JX ad st) (sz : Nat)  {u : SX} {r : Int32} {u' : SX} (h : fX5_peek_2  u = some (r, u')) : Met l yX5_peek wsX5_peek rmX5_peek_2 (va_Pc [.ref (ad 2)] (Px D [(cy 0, .int), (cy 1, .long), (cy 2, .boolean), (cy 3, .byte), (cy 4, .object "HissHorn$Text")] st (VX cy ad st) sz u)) (Qi D (VX cy ad st) (AX ad) sz r u') 0 0 (Ax (AX ad) sz) := by
  refine Met.ofW (cc := cX5_peek) (maxL := 1) (ret := (some .int)) (by decide) rfl ?_
  intro p e s m args below meth c s₁ B hml hv
  obtain ⟨rfl, hsz, hP, hK⟩ := hv
  subst hsz
  have C : Cx RX5 cX5_peek 1 (some .int) wsX5_peek p s m _ meth c := ⟨B.exec, B.bytes, hml, B.returns, findClass_of_methodNamed B.named, atoms_spec (ws := wsX5_peek) B.pre, B.notSynchronized⟩
  have hl := lv_entry ([.ref (ad 2)]) (n := 1) (Nat.le_of_ble_eq_true rfl)
  rw [lg_entry_eq]
  exact wX5_peek_2 C hK hJ h hP va_S.rf hl

theorem zdX5_takes_0 : (and (and (and (and (zk cX5_takes 0 (.aload_n 0) 1) (zk cX5_takes 1 (.invokevirtual 45) 3)) (and (zk cX5_takes 4 (.iload_n 1) 1) (zk cX5_takes 5 (.if_icmp .eq 5) 3))) (and (and (zk cX5_takes 10 (.aload_n 0) 1) (zk cX5_takes 11 (.dup) 1)) (zk cX5_takes 12 (.getfield 27) 3))) (and (and (and (zk cX5_takes 15 (.iconst 1) 1) (zk cX5_takes 16 (.iadd) 1)) (and (zk cX5_takes 17 (.putfield 27) 3) (zk cX5_takes 20 (.iconst 1) 1))) (and (and (zk cX5_takes 21 (.ireturn) 1) (zk cX5_takes 8 (.iconst 0) 1)) (zk cX5_takes 9 (.ireturn) 1)))) = true := by decide +kernel
theorem dX5_takes_0 : decode cX5_takes 0 = .ok (.aload_n 0, 1) := zk_of (zk_l (zk_l (zk_l (zk_l zdX5_takes_0))))
theorem dX5_takes_1 : decode cX5_takes 1 = .ok (.invokevirtual 45, 3) := zk_of (zk_r (zk_l (zk_l (zk_l zdX5_takes_0))))
theorem dX5_takes_4 : decode cX5_takes 4 = .ok (.iload_n 1, 1) := zk_of (zk_l (zk_r (zk_l (zk_l zdX5_takes_0))))
theorem dX5_takes_5 : decode cX5_takes 5 = .ok (.if_icmp .eq 5, 3) := zk_of (zk_r (zk_r (zk_l (zk_l zdX5_takes_0))))
theorem dX5_takes_10 : decode cX5_takes 10 = .ok (.aload_n 0, 1) := zk_of (zk_l (zk_l (zk_r (zk_l zdX5_takes_0))))
theorem dX5_takes_11 : decode cX5_takes 11 = .ok (.dup, 1) := zk_of (zk_r (zk_l (zk_r (zk_l zdX5_takes_0))))
theorem dX5_takes_12 : decode cX5_takes 12 = .ok (.getfield 27, 3) := zk_of (zk_r (zk_r (zk_l zdX5_takes_0)))
theorem dX5_takes_15 : decode cX5_takes 15 = .ok (.iconst 1, 1) := zk_of (zk_l (zk_l (zk_l (zk_r zdX5_takes_0))))
theorem dX5_takes_16 : decode cX5_takes 16 = .ok (.iadd, 1) := zk_of (zk_r (zk_l (zk_l (zk_r zdX5_takes_0))))
theorem dX5_takes_17 : decode cX5_takes 17 = .ok (.putfield 27, 3) := zk_of (zk_l (zk_r (zk_l (zk_r zdX5_takes_0))))
theorem dX5_takes_20 : decode cX5_takes 20 = .ok (.iconst 1, 1) := zk_of (zk_r (zk_r (zk_l (zk_r zdX5_takes_0))))
theorem dX5_takes_21 : decode cX5_takes 21 = .ok (.ireturn, 1) := zk_of (zk_l (zk_l (zk_r (zk_r zdX5_takes_0))))
theorem dX5_takes_8 : decode cX5_takes 8 = .ok (.iconst 0, 1) := zk_of (zk_r (zk_l (zk_r (zk_r zdX5_takes_0))))
theorem dX5_takes_9 : decode cX5_takes 9 = .ok (.ireturn, 1) := zk_of (zk_r (zk_r (zk_r zdX5_takes_0)))
set_option maxRecDepth 20000 in
theorem ggX5_takes_X5_peek : GoodIn wsX5_takes wsX5_peek := goodIn_r _ [6, 1, 7, 8, 9, 10, 11, 12, 13, 14, 15, 16] rfl (by decide +kernel)
set_option maxRecDepth 20000 in
theorem gX5_takes_X5_peek : GoodIn wsX5_takes (wsV RX5 45 RX5 yX5_peek wsX5_peek) := goodIn_app (goodIn_of _ (by decide +kernel)) ggX5_takes_X5_peek
/-- HissHorn$Parser.takes(C)Z of cell 2 -/
def rmX5_takes_2 : Room := { frames := 1, cells := 0, slots := 0, locals := 20 }
theorem hX5_takes_2_X5 : ∀ w ∈ u_ws RX5 TX5 5, w ∈ wsX5_takes := fun w h => (List.mem_cons_of_mem _ (List.mem_append_left _ (List.mem_append_right _ h)))
theorem mX5_takes_2_1 : Cond.fieldLink RX5 27 "HissHorn$Parser" "at" "I" ∈ wsX5_takes := (List.mem_cons_of_mem _ (List.mem_append_left _ (List.mem_append_left _ (List.mem_of_getElem? (i := 0) rfl))))
def fX5_takes_2 (x1 : Int32) (u : SX) : Option (Int32 × SX) := ((fX5_peek_2  u).bind fun q => match q with | (r1, u2) => (if r1 = x1 then (lt (sI u2 4 ((u2.1 4) + 1)) fun u4 => (gd (isB 1) (some (1, u4)))) else (gd (isB 0) (some (0, u2)))))
set_option maxHeartbeats 4000000 in
set_option maxRecDepth 100000 in
theorem wX5_takes_2 {p : Program} {l : Launch} {e : Env} {s : State} {m : MethodId} {args : Array Value} {below : List Frame} {meth : Method} {c : Code} {D : va_G} {cy : Nat → ClassId} {ad st : Nat → Nat} (C : Cx RX5 cX5_takes 2 (some .boolean) wsX5_takes p s m args meth c) (hK : Ky D [(cy 0, .int), (cy 1, .long), (cy 2, .boolean), (cy 3, .byte), (cy 4, .object "HissHorn$Text")] st s) (hJ : JX ad st) (x1 : Int32) {u : SX} {r : Int32} {u' : SX} {H : Heap} {locs : List Loc} {ls : Array Slot} (h : fX5_takes_2 x1 u = some (r, u')) (hP : va_P D vwCl (VX cy ad st u) H) (hS : va_S (Ax (AX ad) s.heap.size) s.heap H locs) (hl : lv_has ls 2 [(0, .ref (ad 2)), (1, .int x1)]) : W p l e rmX5_takes_2 s m args below meth c H locs 0 0 (MQ below (Qi D (VX cy ad st) (AX ad) s.heap.size r u') args s 0 0 (Ax (AX ad) s.heap.size)) (F0 m 0 ls []) := by
  unfold fX5_takes_2 at h
  refine lv_aload_n C.1 C.2.1 dX5_takes_0 rfl (lv_at hl 0 rfl) ?_
  obtain ⟨⟨r1, u2⟩, hc3, h⟩ := bd_some h
  try dsimp only at h
  refine cg_i (As := []) (rest := []) (AX_ge hJ) C hK hP hS (metX5_peek_2 l D cy ad st hJ _  hc3) (cwV 0 C.2.2.2.2.2.1 gX5_takes_X5_peek rfl rfl rfl (by decide +kernel) ⟨(Nat.le_of_ble_eq_true rfl), (Nat.le_of_ble_eq_true rfl)⟩) 2 5 rfl rfl rfl hl.1 rfl (Nat.le_of_ble_eq_true rfl) dX5_takes_1 ⟨Nat.zero_le _, Nat.zero_le _⟩ (fun H locs hP hS => ?_)
  refine lv_iload_n C.1 C.2.1 dX5_takes_4 rfl (lv_at hl 1 rfl) ?_
  refine lv_icmp_eq (tgt := 10) C.1 C.2.1 dX5_takes_5 (by decide) (fun c5 => ?_) (fun c5 => ?_)
  · rw [if_pos c5] at h
    refine lv_aload_n C.1 C.2.1 dX5_takes_10 rfl (lv_at hl 0 rfl) ?_
    refine lv_dup C.1 C.2.1 dX5_takes_11 rfl ?_
    refine gX_2_at C hX5_takes_2_X5 hK hP mX5_takes_2_1 dX5_takes_12 ?_
    refine lv_iconst (v := 1) C.1 C.2.1 dX5_takes_15 (by decide) ?_
    refine lv_iadd C.1 C.2.1 dX5_takes_16 ?_
    refine pX_2_at C hX5_takes_2_X5 hK hP hJ hS mX5_takes_2_1 dX5_takes_17 (fun H locs hP hS => ?_)
    obtain ⟨u4, hu5, h⟩ := lt_some h
    rw [← hu5] at hP
    refine lv_iconst (v := 1) C.1 C.2.1 dX5_takes_20 (by decide) ?_
    obtain ⟨hg6, h⟩ := gd_some h
    cases h
    exact rt_z hg6 C hP hS dX5_takes_21
  · rw [if_neg c5] at h
    refine lv_iconst (v := 0) C.1 C.2.1 dX5_takes_8 (by decide) ?_
    obtain ⟨hg7, h⟩ := gd_some h
    cases h
    exact rt_z hg7 C hP hS dX5_takes_9
theorem metX5_takes_2 (l : Launch) (D : va_G) (cy : Nat → ClassId) (ad st : Nat → Nat) (hJ : JX ad st) (sz : Nat) (x1 : Int32) {u : SX} {r : Int32} {u' : SX} (h : fX5_takes_2 x1 u = some (r, u')) : Met l yX5_takes wsX5_takes rmX5_takes_2 (va_Pc [.ref (ad 2), .int x1] (Px D [(cy 0, .int), (cy 1, .long), (cy 2, .boolean), (cy 3, .byte), (cy 4, .object "HissHorn$Text")] st (VX cy ad st) sz u)) (Qi D (VX cy ad st) (AX ad) sz r u') 0 0 (Ax (AX ad) sz) := by
  refine Met.ofW (cc := cX5_takes) (maxL := 2) (ret := (some .boolean)) (by decide) rfl ?_
  intro p e s m args below meth c s₁ B hml hv
  obtain ⟨rfl, hsz, hP, hK⟩ := hv
  subst hsz
  have C : Cx RX5 cX5_takes 2 (some .boolean) wsX5_takes p s m _ meth c := ⟨B.exec, B.bytes, hml, B.returns, findClass_of_methodNamed B.named, atoms_spec (ws := wsX5_takes) B.pre, B.notSynchronized⟩
  have hl := lv_entry ([.ref (ad 2), .int x1]) (n := 2) (Nat.le_of_ble_eq_true rfl)
  rw [lg_entry_eq]
  exact wX5_takes_2 C hK hJ x1 h hP va_S.rf hl

theorem zdX5_emit_0 : (and (and (and (and (and (zk cX5_emit 0 (.iload_n 1) 1) (zk cX5_emit 1 (.ifCond .eq 40) 3)) (and (zk cX5_emit 41 (.return_) 1) (zk cX5_emit 4 (.aload_n 0) 1))) (and (and (zk cX5_emit 5 (.getfield 31) 3) (zk cX5_emit 8 (.aload_n 0) 1)) (zk cX5_emit 9 (.getfield 11) 3))) (and (and (and (zk cX5_emit 12 (.arraylength) 1) (zk cX5_emit 13 (.if_icmp .ge 28) 3)) (zk cX5_emit 16 (.aload_n 0) 1)) (and (and (zk cX5_emit 17 (.getfield 11) 3) (zk cX5_emit 20 (.aload_n 0) 1)) (zk cX5_emit 21 (.getfield 31) 3)))) (and (and (and (and (zk cX5_emit 24 (.iload_n 2) 1) (zk cX5_emit 25 (.bipush 8) 2)) (zk cX5_emit 27 (.ishl) 1)) (and (and (zk cX5_emit 28 (.iload_n 1) 1) (zk cX5_emit 29 (.ior) 1)) (zk cX5_emit 30 (.iastore) 1))) (and (and (and (zk cX5_emit 31 (.aload_n 0) 1) (zk cX5_emit 32 (.dup) 1)) (zk cX5_emit 33 (.getfield 31) 3)) (and (and (zk cX5_emit 36 (.iconst 1) 1) (zk cX5_emit 37 (.iadd) 1)) (zk cX5_emit 38 (.putfield 31) 3))))) = true := by decide +kernel
theorem dX5_emit_0 : decode cX5_emit 0 = .ok (.iload_n 1, 1) := zk_of (zk_l (zk_l (zk_l (zk_l (zk_l zdX5_emit_0)))))
theorem dX5_emit_1 : decode cX5_emit 1 = .ok (.ifCond .eq 40, 3) := zk_of (zk_r (zk_l (zk_l (zk_l (zk_l zdX5_emit_0)))))
theorem dX5_emit_41 : decode cX5_emit 41 = .ok (.return_, 1) := zk_of (zk_l (zk_r (zk_l (zk_l (zk_l zdX5_emit_0)))))
theorem dX5_emit_4 : decode cX5_emit 4 = .ok (.aload_n 0, 1) := zk_of (zk_r (zk_r (zk_l (zk_l (zk_l zdX5_emit_0)))))
theorem dX5_emit_5 : decode cX5_emit 5 = .ok (.getfield 31, 3) := zk_of (zk_l (zk_l (zk_r (zk_l (zk_l zdX5_emit_0)))))
theorem dX5_emit_8 : decode cX5_emit 8 = .ok (.aload_n 0, 1) := zk_of (zk_r (zk_l (zk_r (zk_l (zk_l zdX5_emit_0)))))
theorem dX5_emit_9 : decode cX5_emit 9 = .ok (.getfield 11, 3) := zk_of (zk_r (zk_r (zk_l (zk_l zdX5_emit_0))))
theorem dX5_emit_12 : decode cX5_emit 12 = .ok (.arraylength, 1) := zk_of (zk_l (zk_l (zk_l (zk_r (zk_l zdX5_emit_0)))))
theorem dX5_emit_13 : decode cX5_emit 13 = .ok (.if_icmp .ge 28, 3) := zk_of (zk_r (zk_l (zk_l (zk_r (zk_l zdX5_emit_0)))))
theorem dX5_emit_16 : decode cX5_emit 16 = .ok (.aload_n 0, 1) := zk_of (zk_r (zk_l (zk_r (zk_l zdX5_emit_0))))
theorem dX5_emit_17 : decode cX5_emit 17 = .ok (.getfield 11, 3) := zk_of (zk_l (zk_l (zk_r (zk_r (zk_l zdX5_emit_0)))))
theorem dX5_emit_20 : decode cX5_emit 20 = .ok (.aload_n 0, 1) := zk_of (zk_r (zk_l (zk_r (zk_r (zk_l zdX5_emit_0)))))
theorem dX5_emit_21 : decode cX5_emit 21 = .ok (.getfield 31, 3) := zk_of (zk_r (zk_r (zk_r (zk_l zdX5_emit_0))))
theorem dX5_emit_24 : decode cX5_emit 24 = .ok (.iload_n 2, 1) := zk_of (zk_l (zk_l (zk_l (zk_l (zk_r zdX5_emit_0)))))
theorem dX5_emit_25 : decode cX5_emit 25 = .ok (.bipush 8, 2) := zk_of (zk_r (zk_l (zk_l (zk_l (zk_r zdX5_emit_0)))))
theorem dX5_emit_27 : decode cX5_emit 27 = .ok (.ishl, 1) := zk_of (zk_r (zk_l (zk_l (zk_r zdX5_emit_0))))
theorem dX5_emit_28 : decode cX5_emit 28 = .ok (.iload_n 1, 1) := zk_of (zk_l (zk_l (zk_r (zk_l (zk_r zdX5_emit_0)))))
theorem dX5_emit_29 : decode cX5_emit 29 = .ok (.ior, 1) := zk_of (zk_r (zk_l (zk_r (zk_l (zk_r zdX5_emit_0)))))
theorem dX5_emit_30 : decode cX5_emit 30 = .ok (.iastore, 1) := zk_of (zk_r (zk_r (zk_l (zk_r zdX5_emit_0))))
theorem dX5_emit_31 : decode cX5_emit 31 = .ok (.aload_n 0, 1) := zk_of (zk_l (zk_l (zk_l (zk_r (zk_r zdX5_emit_0)))))
theorem dX5_emit_32 : decode cX5_emit 32 = .ok (.dup, 1) := zk_of (zk_r (zk_l (zk_l (zk_r (zk_r zdX5_emit_0)))))
theorem dX5_emit_33 : decode cX5_emit 33 = .ok (.getfield 31, 3) := zk_of (zk_r (zk_l (zk_r (zk_r zdX5_emit_0))))
theorem dX5_emit_36 : decode cX5_emit 36 = .ok (.iconst 1, 1) := zk_of (zk_l (zk_l (zk_r (zk_r (zk_r zdX5_emit_0)))))
theorem dX5_emit_37 : decode cX5_emit 37 = .ok (.iadd, 1) := zk_of (zk_r (zk_l (zk_r (zk_r (zk_r zdX5_emit_0)))))
theorem dX5_emit_38 : decode cX5_emit 38 = .ok (.putfield 31, 3) := zk_of (zk_r (zk_r (zk_r (zk_r zdX5_emit_0))))
/-- HissHorn$Parser.emit(II)V of cell 2 -/
def rmX5_emit_2 : Room := { frames := 0, cells := 0, slots := 0, locals := 0 }
theorem hX5_emit_2_X5 : ∀ w ∈ u_ws RX5 TX5 5, w ∈ wsX5_emit := fun w h => (List.mem_cons_of_mem _ (List.mem_append_right _ h))
theorem mX5_emit_2_1 : Cond.fieldLink RX5 31 "HissHorn$Parser" "size" "I" ∈ wsX5_emit := (List.mem_cons_of_mem _ (List.mem_append_left _ (List.mem_of_getElem? (i := 0) rfl)))
theorem mX5_emit_2_2 : Cond.fieldLink RX5 11 "HissHorn$Parser" "code" "[I" ∈ wsX5_emit := (List.mem_cons_of_mem _ (List.mem_append_left _ (List.mem_of_getElem? (i := 1) rfl)))
def fX5_emit_2 (x1 : Int32) (x2 : Int32) (u : SX) : Option (Int32 × SX) := (if x1 = 0 then (some (0, u)) else (if 121 ≤ (u.1 2) then (some (0, u)) else (gd (inb (u.1 2) 121) (lt (sA u 14 (upd (u.2.1 14) (u.1 2).toNatClampNeg ((x2 <<< (8 &&& 31)) ||| x1))) fun u2 => (lt (sI u2 2 ((u2.1 2) + 1)) fun u4 => (some (0, u4)))))))
set_option maxHeartbeats 4000000 in
set_option maxRecDepth 100000 in
theorem wX5_emit_2 {p : Program} {l : Launch} {e : Env} {s : State} {m : MethodId} {args : Array Value} {below : List Frame} {meth : Method} {c : Code} {D : va_G} {cy : Nat → ClassId} {ad st : Nat → Nat} (C : Cx RX5 cX5_emit 3 none wsX5_emit p s m args meth c) (hK : Ky D [(cy 0, .int), (cy 1, .long), (cy 2, .boolean), (cy 3, .byte), (cy 4, .object "HissHorn$Text")] st s) (hJ : JX ad st) (x1 : Int32) (x2 : Int32) {u : SX} {r : Int32} {u' : SX} {H : Heap} {locs : List Loc} {ls : Array Slot} (h : fX5_emit_2 x1 x2 u = some (r, u')) (hP : va_P D vwCl (VX cy ad st u) H) (hS : va_S (Ax (AX ad) s.heap.size) s.heap H locs) (hl : lv_has ls 3 [(0, .ref (ad 2)), (1, .int x1), (2, .int x2)]) : W p l e rmX5_emit_2 s m args below meth c H locs 0 0 (MQ below (Qv D (VX cy ad st) (AX ad) s.heap.size r u') args s 0 0 (Ax (AX ad) s.heap.size)) (F0 m 0 ls []) := by
  unfold fX5_emit_2 at h
  refine lv_iload_n C.1 C.2.1 dX5_emit_0 rfl (lv_at hl 1 rfl) ?_
  refine lv_if_eq (tgt := 41) C.1 C.2.1 dX5_emit_1 (by decide) (fun c1 => ?_) (fun c1 => ?_)
  · rw [if_pos c1] at h
    cases h
    exact rt_v C hP hS dX5_emit_41
  · rw [if_neg c1] at h
    refine lv_aload_n C.1 C.2.1 dX5_emit_4 rfl (lv_at hl 0 rfl) ?_
    refine gX_2_size C hX5_emit_2_X5 hK hP mX5_emit_2_1 dX5_emit_5 ?_
    refine lv_aload_n C.1 C.2.1 dX5_emit_8 rfl (lv_at hl 0 rfl) ?_
    refine gX_2_code C hX5_emit_2_X5 hK hP mX5_emit_2_2 dX5_emit_9 ?_
    refine va_alen (v := 121) C.1 C.2.1 hK.1 hP 14 0 rfl rfl rfl dX5_emit_12 ?_
    refine lv_icmp_ge (tgt := 41) C.1 C.2.1 dX5_emit_13 (by decide) (fun c13 => ?_) (fun c13 => ?_)
    · rw [if_pos c13] at h
      cases h
      exact rt_v C hP hS dX5_emit_41
    · rw [if_neg c13] at h
      refine lv_aload_n C.1 C.2.1 dX5_emit_16 rfl (lv_at hl 0 rfl) ?_
      refine gX_2_code C hX5_emit_2_X5 hK hP mX5_emit_2_2 dX5_emit_17 ?_
      refine lv_aload_n C.1 C.2.1 dX5_emit_20 rfl (lv_at hl 0 rfl) ?_
      refine gX_2_size C hX5_emit_2_X5 hK hP mX5_emit_2_1 dX5_emit_21 ?_
      refine lv_iload_n C.1 C.2.1 dX5_emit_24 rfl (lv_at hl 2 rfl) ?_
      refine lv_bipush (v := 8) C.1 C.2.1 dX5_emit_25 (by decide) ?_
      refine lv_ishl C.1 C.2.1 dX5_emit_27 ?_
      refine lv_iload_n C.1 C.2.1 dX5_emit_28 rfl (lv_at hl 1 rfl) ?_
      refine lv_ior C.1 C.2.1 dX5_emit_29 ?_
      obtain ⟨hg1, h⟩ := gd_some h
      refine tX_14 C hK hP hJ hS hg1 dX5_emit_30 (fun H locs hP hS => ?_)
      obtain ⟨u2, hu3, h⟩ := lt_some h
      rw [← hu3] at hP
      refine lv_aload_n C.1 C.2.1 dX5_emit_31 rfl (lv_at hl 0 rfl) ?_
      refine lv_dup C.1 C.2.1 dX5_emit_32 rfl ?_
      refine gX_2_size C hX5_emit_2_X5 hK hP mX5_emit_2_1 dX5_emit_33 ?_
      refine lv_iconst (v := 1) C.1 C.2.1 dX5_emit_36 (by decide) ?_
      refine lv_iadd C.1 C.2.1 dX5_emit_37 ?_
      refine pX_2_size C hX5_emit_2_X5 hK hP hJ hS mX5_emit_2_1 dX5_emit_38 (fun H locs hP hS => ?_)
      obtain ⟨u4, hu5, h⟩ := lt_some h
      rw [← hu5] at hP
      cases h
      exact rt_v C hP hS dX5_emit_41
theorem metX5_emit_2 (l : Launch) (D : va_G) (cy : Nat → ClassId) (ad st : Nat → Nat) (hJ : JX ad st) (sz : Nat) (x1 : Int32) (x2 : Int32) {u : SX} {r : Int32} {u' : SX} (h : fX5_emit_2 x1 x2 u = some (r, u')) : Met l yX5_emit wsX5_emit rmX5_emit_2 (va_Pc [.ref (ad 2), .int x1, .int x2] (Px D [(cy 0, .int), (cy 1, .long), (cy 2, .boolean), (cy 3, .byte), (cy 4, .object "HissHorn$Text")] st (VX cy ad st) sz u)) (Qv D (VX cy ad st) (AX ad) sz r u') 0 0 (Ax (AX ad) sz) := by
  refine Met.ofW (cc := cX5_emit) (maxL := 3) (ret := none) (by decide) rfl ?_
  intro p e s m args below meth c s₁ B hml hv
  obtain ⟨rfl, hsz, hP, hK⟩ := hv
  subst hsz
  have C : Cx RX5 cX5_emit 3 none wsX5_emit p s m _ meth c := ⟨B.exec, B.bytes, hml, B.returns, findClass_of_methodNamed B.named, atoms_spec (ws := wsX5_emit) B.pre, B.notSynchronized⟩
  have hl := lv_entry ([.ref (ad 2), .int x1, .int x2]) (n := 3) (Nat.le_of_ble_eq_true rfl)
  rw [lg_entry_eq]
  exact wX5_emit_2 C hK hJ x1 x2 h hP va_S.rf hl

theorem zdX5_compares_0 : (and (and (and (and (zk cX5_compares 0 (.iload_n 0) 1) (zk cX5_compares 1 (.bipush 61) 2)) (and (zk cX5_compares 3 (.if_icmp .eq 15) 3) (zk cX5_compares 18 (.iconst 1) 1))) (and (and (zk cX5_compares 19 (.goto 4) 3) (zk cX5_compares 23 (.ireturn) 1)) (zk cX5_compares 6 (.iload_n 0) 1))) (and (and (and (zk cX5_compares 7 (.bipush 60) 2) (zk cX5_compares 9 (.if_icmp .eq 9) 3)) (zk cX5_compares 12 (.iload_n 0) 1)) (and (and (zk cX5_compares 13 (.bipush 62) 2) (zk cX5_compares 15 (.if_icmp .ne 7) 3)) (zk cX5_compares 22 (.iconst 0) 1)))) = true := by decide +kernel
theorem dX5_compares_0 : decode cX5_compares 0 = .ok (.iload_n 0, 1) := zk_of (zk_l (zk_l (zk_l (zk_l zdX5_compares_0))))
theorem dX5_compares_1 : decode cX5_compares 1 = .ok (.bipush 61, 2) := zk_of (zk_r (zk_l (zk_l (zk_l zdX5_compares_0))))
theorem dX5_compares_3 : decode cX5_compares 3 = .ok (.if_icmp .eq 15, 3) := zk_of (zk_l (zk_r (zk_l (zk_l zdX5_compares_0))))
theorem dX5_compares_18 : decode cX5_compares 18 = .ok (.iconst 1, 1) := zk_of (zk_r (zk_r (zk_l (zk_l zdX5_compares_0))))
theorem dX5_compares_19 : decode cX5_compares 19 = .ok (.goto 4, 3) := zk_of (zk_l (zk_l (zk_r (zk_l zdX5_compares_0))))
theorem dX5_compares_23 : decode cX5_compares 23 = .ok (.ireturn, 1) := zk_of (zk_r (zk_l (zk_r (zk_l zdX5_compares_0))))
theorem dX5_compares_6 : decode cX5_compares 6 = .ok (.iload_n 0, 1) := zk_of (zk_r (zk_r (zk_l zdX5_compares_0)))
theorem dX5_compares_7 : decode cX5_compares 7 = .ok (.bipush 60, 2) := zk_of (zk_l (zk_l (zk_l (zk_r zdX5_compares_0))))
theorem dX5_compares_9 : decode cX5_compares 9 = .ok (.if_icmp .eq 9, 3) := zk_of (zk_r (zk_l (zk_l (zk_r zdX5_compares_0))))
theorem dX5_compares_12 : decode cX5_compares 12 = .ok (.iload_n 0, 1) := zk_of (zk_r (zk_l (zk_r zdX5_compares_0)))
theorem dX5_compares_13 : decode cX5_compares 13 = .ok (.bipush 62, 2) := zk_of (zk_l (zk_l (zk_r (zk_r zdX5_compares_0))))
theorem dX5_compares_15 : decode cX5_compares 15 = .ok (.if_icmp .ne 7, 3) := zk_of (zk_r (zk_l (zk_r (zk_r zdX5_compares_0))))
theorem dX5_compares_22 : decode cX5_compares 22 = .ok (.iconst 0, 1) := zk_of (zk_r (zk_r (zk_r zdX5_compares_0)))
/-- HissHorn$Parser.compares(I)Z -/
def rmX5_compares : Room := { frames := 0, cells := 0, slots := 0, locals := 0 }
def fX5_compares (x0 : Int32) : Option Int32 := (if x0 = 61 then (gd (isB 1) (some 1)) else (if x0 = 60 then (gd (isB 1) (some 1)) else (if x0 = 62 then (gd (isB 1) (some 1)) else (gd (isB 0) (some 0)))))
set_option maxHeartbeats 4000000 in
set_option maxRecDepth 100000 in
theorem wX5_compares {p : Program} {l : Launch} {e : Env} {s : State} {m : MethodId} {args : Array Value} {below : List Frame} {meth : Method} {c : Code} {D : va_G} {cy : Nat → ClassId} {st : Nat → Nat} (C : Cx RX5 cX5_compares 1 (some .boolean) wsX5_compares p s m args meth c) (hK : Ky D [(cy 0, .int), (cy 1, .long), (cy 2, .boolean), (cy 3, .byte), (cy 4, .object "HissHorn$Text")] st s) (x0 : Int32) {r : Int32} {H : Heap} {locs : List Loc} {ls : Array Slot} (h : fX5_compares x0 = some r) (hP : va_P D vwCl (V0 u00) H) (hS : va_S (Ax (A0) s.heap.size) s.heap H locs) (hl : lv_has ls 1 [(0, .int x0)]) : W p l e rmX5_compares s m args below meth c H locs 0 0 (MQ below (Qi D (V0) (A0) s.heap.size r u00) args s 0 0 (Ax (A0) s.heap.size)) (F0 m 0 ls []) := by
  unfold fX5_compares at h
  refine lv_iload_n C.1 C.2.1 dX5_compares_0 rfl (lv_at hl 0 rfl) ?_
  refine lv_bipush (v := 61) C.1 C.2.1 dX5_compares_1 (by decide) ?_
  refine lv_icmp_eq (tgt := 18) C.1 C.2.1 dX5_compares_3 (by decide) (fun c3 => ?_) (fun c3 => ?_)
  · rw [if_pos c3] at h
    refine lv_iconst (v := 1) C.1 C.2.1 dX5_compares_18 (by decide) ?_
    refine lv_goto (tgt := 23) C.1 C.2.1 dX5_compares_19 (by decide) ?_
    obtain ⟨hg1, h⟩ := gd_some h
    cases h
    exact rt_z hg1 C hP hS dX5_compares_23
  · rw [if_neg c3] at h
    refine lv_iload_n C.1 C.2.1 dX5_compares_6 rfl (lv_at hl 0 rfl) ?_
    refine lv_bipush (v := 60) C.1 C.2.1 dX5_compares_7 (by decide) ?_
    refine lv_icmp_eq (tgt := 18) C.1 C.2.1 dX5_compares_9 (by decide) (fun c9 => ?_) (fun c9 => ?_)
    · rw [if_pos c9] at h
      refine lv_iconst (v := 1) C.1 C.2.1 dX5_compares_18 (by decide) ?_
      refine lv_goto (tgt := 23) C.1 C.2.1 dX5_compares_19 (by decide) ?_
      obtain ⟨hg2, h⟩ := gd_some h
      cases h
      exact rt_z hg2 C hP hS dX5_compares_23
    · rw [if_neg c9] at h
      refine lv_iload_n C.1 C.2.1 dX5_compares_12 rfl (lv_at hl 0 rfl) ?_
      refine lv_bipush (v := 62) C.1 C.2.1 dX5_compares_13 (by decide) ?_
      refine lv_icmp_ne (tgt := 22) C.1 C.2.1 dX5_compares_15 (by decide) (fun c15 => ?_) (fun c15 => ?_)
      · rw [if_neg c15] at h
        refine lv_iconst (v := 0) C.1 C.2.1 dX5_compares_22 (by decide) ?_
        obtain ⟨hg3, h⟩ := gd_some h
        cases h
        exact rt_z hg3 C hP hS dX5_compares_23
      · rw [if_pos c15] at h
        refine lv_iconst (v := 1) C.1 C.2.1 dX5_compares_18 (by decide) ?_
        refine lv_goto (tgt := 23) C.1 C.2.1 dX5_compares_19 (by decide) ?_
        obtain ⟨hg4, h⟩ := gd_some h
        cases h
        exact rt_z hg4 C hP hS dX5_compares_23
theorem metX5_compares (l : Launch) (D : va_G) (cy : Nat → ClassId) (st : Nat → Nat) (sz : Nat) (x0 : Int32) {r : Int32} (h : fX5_compares x0 = some r) : Met l yX5_compares wsX5_compares rmX5_compares (va_Pc [.int x0] (Px D [(cy 0, .int), (cy 1, .long), (cy 2, .boolean), (cy 3, .byte), (cy 4, .object "HissHorn$Text")] st V0 sz u00)) (Qi D V0 A0 sz r u00) 0 0 (Ax A0 sz) := by
  refine Met.ofW (cc := cX5_compares) (maxL := 1) (ret := (some .boolean)) (by decide) rfl ?_
  intro p e s m args below meth c s₁ B hml hv
  obtain ⟨rfl, hsz, hP, hK⟩ := hv
  subst hsz
  have C : Cx RX5 cX5_compares 1 (some .boolean) wsX5_compares p s m _ meth c := ⟨B.exec, B.bytes, hml, B.returns, findClass_of_methodNamed B.named, atoms_spec (ws := wsX5_compares) B.pre, B.notSynchronized⟩
  have hl := lv_entry ([.int x0]) (n := 1) (Nat.le_of_ble_eq_true rfl)
  rw [lg_entry_eq]
  exact wX5_compares C hK x0 h hP va_S.rf hl

theorem zdJ0_isLatin1_aae02_0 : (and (and (and (zk cJ0_isLatin1_aae02 0 (.getstatic 38) 3) (zk cJ0_isLatin1_aae02 3 (.ifCond .eq 14) 3)) (and (zk cJ0_isLatin1_aae02 6 (.aload_n 0) 1) (zk cJ0_isLatin1_aae02 7 (.getfield 15) 3))) (and (and (zk cJ0_isLatin1_aae02 10 (.ifCond .ne 7) 3) (zk cJ0_isLatin1_aae02 13 (.iconst 1) 1)) (and (zk cJ0_isLatin1_aae02 14 (.goto 4) 3) (zk cJ0_isLatin1_aae02 18 (.ireturn) 1)))) = true := by decide +kernel
theorem dJ0_isLatin1_aae02_0 : decode cJ0_isLatin1_aae02 0 = .ok (.getstatic 38, 3) := zk_of (zk_l (zk_l (zk_l zdJ0_isLatin1_aae02_0)))
theorem dJ0_isLatin1_aae02_3 : decode cJ0_isLatin1_aae02 3 = .ok (.ifCond .eq 14, 3) := zk_of (zk_r (zk_l (zk_l zdJ0_isLatin1_aae02_0)))
theorem dJ0_isLatin1_aae02_6 : decode cJ0_isLatin1_aae02 6 = .ok (.aload_n 0, 1) := zk_of (zk_l (zk_r (zk_l zdJ0_isLatin1_aae02_0)))
theorem dJ0_isLatin1_aae02_7 : decode cJ0_isLatin1_aae02 7 = .ok (.getfield 15, 3) := zk_of (zk_r (zk_r (zk_l zdJ0_isLatin1_aae02_0)))
theorem dJ0_isLatin1_aae02_10 : decode cJ0_isLatin1_aae02 10 = .ok (.ifCond .ne 7, 3) := zk_of (zk_l (zk_l (zk_r zdJ0_isLatin1_aae02_0)))
theorem dJ0_isLatin1_aae02_13 : decode cJ0_isLatin1_aae02 13 = .ok (.iconst 1, 1) := zk_of (zk_r (zk_l (zk_r zdJ0_isLatin1_aae02_0)))
theorem dJ0_isLatin1_aae02_14 : decode cJ0_isLatin1_aae02 14 = .ok (.goto 4, 3) := zk_of (zk_l (zk_r (zk_r zdJ0_isLatin1_aae02_0)))
theorem dJ0_isLatin1_aae02_18 : decode cJ0_isLatin1_aae02 18 = .ok (.ireturn, 1) := zk_of (zk_r (zk_r (zk_r zdJ0_isLatin1_aae02_0)))
/-- java/lang/String.isLatin1()Z of cell s0 -/
def rmJ0_isLatin1_aae02_s0 : Room := { frames := 0, cells := 0, slots := 0, locals := 0 }
theorem mJ0_isLatin1_aae02_s0_0 : Cond.fieldLink RJ0 38 "java/lang/String" "COMPACT_STRINGS" "Z" ∈ wsJ0_isLatin1_aae02 := (List.mem_cons_of_mem _ (List.mem_of_getElem? (i := 0) rfl))
theorem mJ0_isLatin1_aae02_s0_1 : Cond.fieldLink RJ0 15 "java/lang/String" "coder" "B" ∈ wsJ0_isLatin1_aae02 := (List.mem_cons_of_mem _ (List.mem_of_getElem? (i := 1) rfl))
def fJ0_isLatin1_aae02_s0  : Option Int32 := (gd (isB 1) (some 1))
set_option maxHeartbeats 4000000 in
set_option maxRecDepth 100000 in
theorem wJ0_isLatin1_aae02_s0 {p : Program} {l : Launch} {e : Env} {s : State} {m : MethodId} {args : Array Value} {below : List Frame} {meth : Method} {c : Code} {D : va_G} {cy : Nat → ClassId} {st : Nat → Nat} (C : Cx RJ0 cJ0_isLatin1_aae02 1 (some .boolean) wsJ0_isLatin1_aae02 p s m args meth c) (hK : Ky D [(cy 0, .int), (cy 1, .long), (cy 2, .boolean), (cy 3, .byte), (cy 4, .object "HissHorn$Text")] st s)  {r : Int32} {H : Heap} {locs : List Loc} {ls : Array Slot} (h : fJ0_isLatin1_aae02_s0  = some r) (hP : va_P D vwCl (V0 u00) H) (hS : va_S (Ax (A0) s.heap.size) s.heap H locs) (hl : lv_has ls 1 [(0, .ref (st 0))]) : W p l e rmJ0_isLatin1_aae02_s0 s m args below meth c H locs 0 0 (MQ below (Qi D (V0) (A0) s.heap.size r u00) args s 0 0 (Ax (A0) s.heap.size)) (F0 m 0 ls []) := by
  unfold fJ0_isLatin1_aae02_s0 at h
  refine va_gets C.1 C.2.1 hK.2.2.2.2.1 (Zx_S hK.2.2.2 A0_ge hS) C.2.2.2.2.1 (C.2.2.2.2.2.1 _ mJ0_isLatin1_aae02_s0_0) (fun _ h => h) dJ0_isLatin1_aae02_0 ?_
  refine lv_if_eq (tgt := 17) C.1 C.2.1 dJ0_isLatin1_aae02_3 (by decide) (fun c => absurd c (by decide)) (fun _ => ?_)
  refine lv_aload_n C.1 C.2.1 dJ0_isLatin1_aae02_6 rfl (lv_at hl 0 rfl) ?_
  refine vk_getf C.1 C.2.1 (hK.2.2.2.2.2 0 (by decide)).2.1 (Zx_S hK.2.2.2 A0_ge hS) C.2.2.2.2.1 (C.2.2.2.2.2.1 _ mJ0_isLatin1_aae02_s0_1) (fun _ h => h) dJ0_isLatin1_aae02_7 ?_
  refine lv_if_ne (tgt := 17) C.1 C.2.1 dJ0_isLatin1_aae02_10 (by decide) (fun c => absurd c (by decide)) (fun _ => ?_)
  refine lv_iconst (v := 1) C.1 C.2.1 dJ0_isLatin1_aae02_13 (by decide) ?_
  refine lv_goto (tgt := 18) C.1 C.2.1 dJ0_isLatin1_aae02_14 (by decide) ?_
  obtain ⟨hg1, h⟩ := gd_some h
  cases h
  exact rt_z hg1 C hP hS dJ0_isLatin1_aae02_18
theorem metJ0_isLatin1_aae02_s0 (l : Launch) (D : va_G) (cy : Nat → ClassId) (st : Nat → Nat) (sz : Nat)  {r : Int32} (h : fJ0_isLatin1_aae02_s0  = some r) : Met l yJ0_isLatin1_aae02 wsJ0_isLatin1_aae02 rmJ0_isLatin1_aae02_s0 (va_Pc [.ref (st 0)] (Px D [(cy 0, .int), (cy 1, .long), (cy 2, .boolean), (cy 3, .byte), (cy 4, .object "HissHorn$Text")] st V0 sz u00)) (Qi D V0 A0 sz r u00) 0 0 (Ax A0 sz) := by
  refine Met.ofW (cc := cJ0_isLatin1_aae02) (maxL := 1) (ret := (some .boolean)) (by decide) rfl ?_
  intro p e s m args below meth c s₁ B hml hv
  obtain ⟨rfl, hsz, hP, hK⟩ := hv
  subst hsz
  have C : Cx RJ0 cJ0_isLatin1_aae02 1 (some .boolean) wsJ0_isLatin1_aae02 p s m _ meth c := ⟨B.exec, B.bytes, hml, B.returns, findClass_of_methodNamed B.named, atoms_spec (ws := wsJ0_isLatin1_aae02) B.pre, B.notSynchronized⟩
  have hl := lv_entry ([.ref (st 0)]) (n := 1) (Nat.le_of_ble_eq_true rfl)
  rw [lg_entry_eq]
  exact wJ0_isLatin1_aae02_s0 C hK h hP va_S.rf hl

theorem zdJ0_coder_7d493_0 : (and (and (and (zk cJ0_coder_7d493 0 (.getstatic 38) 3) (zk cJ0_coder_7d493 3 (.ifCond .eq 10) 3)) (zk cJ0_coder_7d493 6 (.aload_n 0) 1)) (and (and (zk cJ0_coder_7d493 7 (.getfield 15) 3) (zk cJ0_coder_7d493 10 (.goto 4) 3)) (zk cJ0_coder_7d493 14 (.ireturn) 1))) = true := by decide +kernel
theorem dJ0_coder_7d493_0 : decode cJ0_coder_7d493 0 = .ok (.getstatic 38, 3) := zk_of (zk_l (zk_l (zk_l zdJ0_coder_7d493_0)))
theorem dJ0_coder_7d493_3 : decode cJ0_coder_7d493 3 = .ok (.ifCond .eq 10, 3) := zk_of (zk_r (zk_l (zk_l zdJ0_coder_7d493_0)))
theorem dJ0_coder_7d493_6 : decode cJ0_coder_7d493 6 = .ok (.aload_n 0, 1) := zk_of (zk_r (zk_l zdJ0_coder_7d493_0))
theorem dJ0_coder_7d493_7 : decode cJ0_coder_7d493 7 = .ok (.getfield 15, 3) := zk_of (zk_l (zk_l (zk_r zdJ0_coder_7d493_0)))
theorem dJ0_coder_7d493_10 : decode cJ0_coder_7d493 10 = .ok (.goto 4, 3) := zk_of (zk_r (zk_l (zk_r zdJ0_coder_7d493_0)))
theorem dJ0_coder_7d493_14 : decode cJ0_coder_7d493 14 = .ok (.ireturn, 1) := zk_of (zk_r (zk_r zdJ0_coder_7d493_0))
/-- java/lang/String.coder()B of cell s0 -/
def rmJ0_coder_7d493_s0 : Room := { frames := 0, cells := 0, slots := 0, locals := 0 }
theorem mJ0_coder_7d493_s0_0 : Cond.fieldLink RJ0 38 "java/lang/String" "COMPACT_STRINGS" "Z" ∈ wsJ0_coder_7d493 := (List.mem_cons_of_mem _ (List.mem_of_getElem? (i := 0) rfl))
theorem mJ0_coder_7d493_s0_1 : Cond.fieldLink RJ0 15 "java/lang/String" "coder" "B" ∈ wsJ0_coder_7d493 := (List.mem_cons_of_mem _ (List.mem_of_getElem? (i := 1) rfl))
def fJ0_coder_7d493_s0  : Option Int32 := (some 0)
set_option maxHeartbeats 4000000 in
set_option maxRecDepth 100000 in
theorem wJ0_coder_7d493_s0 {p : Program} {l : Launch} {e : Env} {s : State} {m : MethodId} {args : Array Value} {below : List Frame} {meth : Method} {c : Code} {D : va_G} {cy : Nat → ClassId} {st : Nat → Nat} (C : Cx RJ0 cJ0_coder_7d493 1 (some .byte) wsJ0_coder_7d493 p s m args meth c) (hK : Ky D [(cy 0, .int), (cy 1, .long), (cy 2, .boolean), (cy 3, .byte), (cy 4, .object "HissHorn$Text")] st s)  {r : Int32} {H : Heap} {locs : List Loc} {ls : Array Slot} (h : fJ0_coder_7d493_s0  = some r) (hP : va_P D vwCl (V0 u00) H) (hS : va_S (Ax (A0) s.heap.size) s.heap H locs) (hl : lv_has ls 1 [(0, .ref (st 0))]) : W p l e rmJ0_coder_7d493_s0 s m args below meth c H locs 0 0 (MQ below (Qi D (V0) (A0) s.heap.size r u00) args s 0 0 (Ax (A0) s.heap.size)) (F0 m 0 ls []) := by
  unfold fJ0_coder_7d493_s0 at h
  refine va_gets C.1 C.2.1 hK.2.2.2.2.1 (Zx_S hK.2.2.2 A0_ge hS) C.2.2.2.2.1 (C.2.2.2.2.2.1 _ mJ0_coder_7d493_s0_0) (fun _ h => h) dJ0_coder_7d493_0 ?_
  refine lv_if_eq (tgt := 13) C.1 C.2.1 dJ0_coder_7d493_3 (by decide) (fun c => absurd c (by decide)) (fun _ => ?_)
  refine lv_aload_n C.1 C.2.1 dJ0_coder_7d493_6 rfl (lv_at hl 0 rfl) ?_
  refine vk_getf C.1 C.2.1 (hK.2.2.2.2.2 0 (by decide)).2.1 (Zx_S hK.2.2.2 A0_ge hS) C.2.2.2.2.1 (C.2.2.2.2.2.1 _ mJ0_coder_7d493_s0_1) (fun _ h => h) dJ0_coder_7d493_7 ?_
  refine lv_goto (tgt := 14) C.1 C.2.1 dJ0_coder_7d493_10 (by decide) ?_
  cases h
  exact rt_b rfl C hP hS dJ0_coder_7d493_14
theorem metJ0_coder_7d493_s0 (l : Launch) (D : va_G) (cy : Nat → ClassId) (st : Nat → Nat) (sz : Nat)  {r : Int32} (h : fJ0_coder_7d493_s0  = some r) : Met l yJ0_coder_7d493 wsJ0_coder_7d493 rmJ0_coder_7d493_s0 (va_Pc [.ref (st 0)] (Px D [(cy 0, .int), (cy 1, .long), (cy 2, .boolean), (cy 3, .byte), (cy 4, .object "HissHorn$Text")] st V0 sz u00)) (Qi D V0 A0 sz r u00) 0 0 (Ax A0 sz) := by
  refine Met.ofW (cc := cJ0_coder_7d493) (maxL := 1) (ret := (some .byte)) (by decide) rfl ?_
  intro p e s m args below meth c s₁ B hml hv
  obtain ⟨rfl, hsz, hP, hK⟩ := hv
  subst hsz
  have C : Cx RJ0 cJ0_coder_7d493 1 (some .byte) wsJ0_coder_7d493 p s m _ meth c := ⟨B.exec, B.bytes, hml, B.returns, findClass_of_methodNamed B.named, atoms_spec (ws := wsJ0_coder_7d493) B.pre, B.notSynchronized⟩
  have hl := lv_entry ([.ref (st 0)]) (n := 1) (Nat.le_of_ble_eq_true rfl)
  rw [lg_entry_eq]
  exact wJ0_coder_7d493_s0 C hK h hP va_S.rf hl

theorem zdJ0_length_8abf5_0 : (and (and (and (zk cJ0_length_8abf5 0 (.aload_n 0) 1) (zk cJ0_length_8abf5 1 (.getfield 9) 3)) (and (zk cJ0_length_8abf5 4 (.arraylength) 1) (zk cJ0_length_8abf5 5 (.aload_n 0) 1))) (and (and (zk cJ0_length_8abf5 6 (.invokevirtual 335) 3) (zk cJ0_length_8abf5 9 (.ishr) 1)) (zk cJ0_length_8abf5 10 (.ireturn) 1))) = true := by decide +kernel
theorem dJ0_length_8abf5_0 : decode cJ0_length_8abf5 0 = .ok (.aload_n 0, 1) := zk_of (zk_l (zk_l (zk_l zdJ0_length_8abf5_0)))
theorem dJ0_length_8abf5_1 : decode cJ0_length_8abf5 1 = .ok (.getfield 9, 3) := zk_of (zk_r (zk_l (zk_l zdJ0_length_8abf5_0)))
theorem dJ0_length_8abf5_4 : decode cJ0_length_8abf5 4 = .ok (.arraylength, 1) := zk_of (zk_l (zk_r (zk_l zdJ0_length_8abf5_0)))
theorem dJ0_length_8abf5_5 : decode cJ0_length_8abf5 5 = .ok (.aload_n 0, 1) := zk_of (zk_r (zk_r (zk_l zdJ0_length_8abf5_0)))
theorem dJ0_length_8abf5_6 : decode cJ0_length_8abf5 6 = .ok (.invokevirtual 335, 3) := zk_of (zk_l (zk_l (zk_r zdJ0_length_8abf5_0)))
theorem dJ0_length_8abf5_9 : decode cJ0_length_8abf5 9 = .ok (.ishr, 1) := zk_of (zk_r (zk_l (zk_r zdJ0_length_8abf5_0)))
theorem dJ0_length_8abf5_10 : decode cJ0_length_8abf5 10 = .ok (.ireturn, 1) := zk_of (zk_r (zk_r zdJ0_length_8abf5_0))
set_option maxRecDepth 20000 in
theorem ggJ0_length_8abf5_J0_coder_7d493 : GoodIn wsJ0_length_8abf5 wsJ0_coder_7d493 := goodIn_r _ [6, 7, 8] rfl (by decide +kernel)
set_option maxRecDepth 20000 in
theorem gJ0_length_8abf5_J0_coder_7d493 : GoodIn wsJ0_length_8abf5 (wsV RJ0 335 RJ0 yJ0_coder_7d493 wsJ0_coder_7d493) := goodIn_app (goodIn_of _ (by decide +kernel)) ggJ0_length_8abf5_J0_coder_7d493
/-- java/lang/String.length()I of cell s0 -/
def rmJ0_length_8abf5_s0 : Room := { frames := 1, cells := 0, slots := 0, locals := 20 }
theorem mJ0_length_8abf5_s0_0 : Cond.fieldLink RJ0 9 "java/lang/String" "value" "[B" ∈ wsJ0_length_8abf5 := (List.mem_cons_of_mem _ (List.mem_of_getElem? (i := 0) rfl))
def fJ0_length_8abf5_s0  : Option Int32 := ((fJ0_coder_7d493_s0 ).bind fun r1 => (some (6 >>> (r1 &&& 31))))
set_option maxHeartbeats 4000000 in
set_option maxRecDepth 100000 in
theorem wJ0_length_8abf5_s0 {p : Program} {l : Launch} {e : Env} {s : State} {m : MethodId} {args : Array Value} {below : List Frame} {meth : Method} {c : Code} {D : va_G} {cy : Nat → ClassId} {st : Nat → Nat} (C : Cx RJ0 cJ0_length_8abf5 1 (some .int) wsJ0_length_8abf5 p s m args meth c) (hK : Ky D [(cy 0, .int), (cy 1, .long), (cy 2, .boolean), (cy 3, .byte), (cy 4, .object "HissHorn$Text")] st s)  {r : Int32} {H : Heap} {locs : List Loc} {ls : Array Slot} (h : fJ0_length_8abf5_s0  = some r) (hP : va_P D vwCl (V0 u00) H) (hS : va_S (Ax (A0) s.heap.size) s.heap H locs) (hl : lv_has ls 1 [(0, .ref (st 0))]) : W p l e rmJ0_length_8abf5_s0 s m args below meth c H locs 0 0 (MQ below (Qi D (V0) (A0) s.heap.size r u00) args s 0 0 (Ax (A0) s.heap.size)) (F0 m 0 ls []) := by
  unfold fJ0_length_8abf5_s0 at h
  refine lv_aload_n C.1 C.2.1 dJ0_length_8abf5_0 rfl (lv_at hl 0 rfl) ?_
  refine vk_getf C.1 C.2.1 (hK.2.2.2.2.2 0 (by decide)).2.2.1 (Zx_S hK.2.2.2 A0_ge hS) C.2.2.2.2.1 (C.2.2.2.2.2.1 _ mJ0_length_8abf5_s0_0) (fun _ h => h) dJ0_length_8abf5_1 ?_
  refine va_tlen (v := 6) C.1 C.2.1 (hK.2.2.2.2.2 0 (by decide)).2.2.2 (Zx_S hK.2.2.2 A0_ge hS) rfl dJ0_length_8abf5_4 ?_
  refine lv_aload_n C.1 C.2.1 dJ0_length_8abf5_5 rfl (lv_at hl 0 rfl) ?_
  obtain ⟨r1, hc3, h⟩ := bd_some h
  refine cz_i (kz := 0) (by decide) (As := []) (rest := [.int 6]) A0_ge C hK hP hS (metJ0_coder_7d493_s0 l D cy st _  hc3) (cwV 0 C.2.2.2.2.2.1 gJ0_length_8abf5_J0_coder_7d493 rfl rfl rfl (by decide +kernel) ⟨(Nat.le_of_ble_eq_true rfl), (Nat.le_of_ble_eq_true rfl)⟩) rfl hl.1 rfl (Nat.le_of_ble_eq_true rfl) dJ0_length_8abf5_6 ⟨Nat.zero_le _, Nat.zero_le _⟩ (fun H locs hP hS => ?_)
  refine lv_ishr C.1 C.2.1 dJ0_length_8abf5_9 ?_
  cases h
  exact rt_i C hP hS dJ0_length_8abf5_10
theorem metJ0_length_8abf5_s0 (l : Launch) (D : va_G) (cy : Nat → ClassId) (st : Nat → Nat) (sz : Nat)  {r : Int32} (h : fJ0_length_8abf5_s0  = some r) : Met l yJ0_length_8abf5 wsJ0_length_8abf5 rmJ0_length_8abf5_s0 (va_Pc [.ref (st 0)] (Px D [(cy 0, .int), (cy 1, .long), (cy 2, .boolean), (cy 3, .byte), (cy 4, .object "HissHorn$Text")] st V0 sz u00)) (Qi D V0 A0 sz r u00) 0 0 (Ax A0 sz) := by
  refine Met.ofW (cc := cJ0_length_8abf5) (maxL := 1) (ret := (some .int)) (by decide) rfl ?_
  intro p e s m args below meth c s₁ B hml hv
  obtain ⟨rfl, hsz, hP, hK⟩ := hv
  subst hsz
  have C : Cx RJ0 cJ0_length_8abf5 1 (some .int) wsJ0_length_8abf5 p s m _ meth c := ⟨B.exec, B.bytes, hml, B.returns, findClass_of_methodNamed B.named, atoms_spec (ws := wsJ0_length_8abf5) B.pre, B.notSynchronized⟩
  have hl := lv_entry ([.ref (st 0)]) (n := 1) (Nat.le_of_ble_eq_true rfl)
  rw [lg_entry_eq]
  exact wJ0_length_8abf5_s0 C hK h hP va_S.rf hl

theorem zdJ1_canEncode_9a6ad_0 : (and (and (and (and (zk cJ1_canEncode_9a6ad 0 (.iload_n 0) 1) (zk cJ1_canEncode_9a6ad 1 (.ifCond .lt 14) 3)) (zk cJ1_canEncode_9a6ad 15 (.iconst 0) 1)) (and (zk cJ1_canEncode_9a6ad 16 (.ireturn) 1) (zk cJ1_canEncode_9a6ad 4 (.iload_n 0) 1))) (and (and (zk cJ1_canEncode_9a6ad 5 (.sipush 255) 3) (zk cJ1_canEncode_9a6ad 8 (.if_icmp .gt 7) 3)) (and (zk cJ1_canEncode_9a6ad 11 (.iconst 1) 1) (zk cJ1_canEncode_9a6ad 12 (.goto 4) 3)))) = true := by decide +kernel
theorem dJ1_canEncode_9a6ad_0 : decode cJ1_canEncode_9a6ad 0 = .ok (.iload_n 0, 1) := zk_of (zk_l (zk_l (zk_l (zk_l zdJ1_canEncode_9a6ad_0))))
theorem dJ1_canEncode_9a6ad_1 : decode cJ1_canEncode_9a6ad 1 = .ok (.ifCond .lt 14, 3) := zk_of (zk_r (zk_l (zk_l (zk_l zdJ1_canEncode_9a6ad_0))))
theorem dJ1_canEncode_9a6ad_15 : decode cJ1_canEncode_9a6ad 15 = .ok (.iconst 0, 1) := zk_of (zk_r (zk_l (zk_l zdJ1_canEncode_9a6ad_0)))
theorem dJ1_canEncode_9a6ad_16 : decode cJ1_canEncode_9a6ad 16 = .ok (.ireturn, 1) := zk_of (zk_l (zk_r (zk_l zdJ1_canEncode_9a6ad_0)))
theorem dJ1_canEncode_9a6ad_4 : decode cJ1_canEncode_9a6ad 4 = .ok (.iload_n 0, 1) := zk_of (zk_r (zk_r (zk_l zdJ1_canEncode_9a6ad_0)))
theorem dJ1_canEncode_9a6ad_5 : decode cJ1_canEncode_9a6ad 5 = .ok (.sipush 255, 3) := zk_of (zk_l (zk_l (zk_r zdJ1_canEncode_9a6ad_0)))
theorem dJ1_canEncode_9a6ad_8 : decode cJ1_canEncode_9a6ad 8 = .ok (.if_icmp .gt 7, 3) := zk_of (zk_r (zk_l (zk_r zdJ1_canEncode_9a6ad_0)))
theorem dJ1_canEncode_9a6ad_11 : decode cJ1_canEncode_9a6ad 11 = .ok (.iconst 1, 1) := zk_of (zk_l (zk_r (zk_r zdJ1_canEncode_9a6ad_0)))
theorem dJ1_canEncode_9a6ad_12 : decode cJ1_canEncode_9a6ad 12 = .ok (.goto 4, 3) := zk_of (zk_r (zk_r (zk_r zdJ1_canEncode_9a6ad_0)))
/-- java/lang/StringLatin1.canEncode(I)Z -/
def rmJ1_canEncode_9a6ad : Room := { frames := 0, cells := 0, slots := 0, locals := 0 }
def fJ1_canEncode_9a6ad (x0 : Int32) : Option Int32 := (if x0 < 0 then (gd (isB 0) (some 0)) else (if 255 < x0 then (gd (isB 0) (some 0)) else (gd (isB 1) (some 1))))
set_option maxHeartbeats 4000000 in
set_option maxRecDepth 100000 in
theorem wJ1_canEncode_9a6ad {p : Program} {l : Launch} {e : Env} {s : State} {m : MethodId} {args : Array Value} {below : List Frame} {meth : Method} {c : Code} {D : va_G} {cy : Nat → ClassId} {st : Nat → Nat} (C : Cx RJ1 cJ1_canEncode_9a6ad 1 (some .boolean) wsJ1_canEncode_9a6ad p s m args meth c) (hK : Ky D [(cy 0, .int), (cy 1, .long), (cy 2, .boolean), (cy 3, .byte), (cy 4, .object "HissHorn$Text")] st s) (x0 : Int32) {r : Int32} {H : Heap} {locs : List Loc} {ls : Array Slot} (h : fJ1_canEncode_9a6ad x0 = some r) (hP : va_P D vwCl (V0 u00) H) (hS : va_S (Ax (A0) s.heap.size) s.heap H locs) (hl : lv_has ls 1 [(0, .int x0)]) : W p l e rmJ1_canEncode_9a6ad s m args below meth c H locs 0 0 (MQ below (Qi D (V0) (A0) s.heap.size r u00) args s 0 0 (Ax (A0) s.heap.size)) (F0 m 0 ls []) := by
  unfold fJ1_canEncode_9a6ad at h
  refine lv_iload_n C.1 C.2.1 dJ1_canEncode_9a6ad_0 rfl (lv_at hl 0 rfl) ?_
  refine lv_if_lt (tgt := 15) C.1 C.2.1 dJ1_canEncode_9a6ad_1 (by decide) (fun c1 => ?_) (fun c1 => ?_)
  · rw [if_pos c1] at h
    refine lv_iconst (v := 0) C.1 C.2.1 dJ1_canEncode_9a6ad_15 (by decide) ?_
    obtain ⟨hg1, h⟩ := gd_some h
    cases h
    exact rt_z hg1 C hP hS dJ1_canEncode_9a6ad_16
  · rw [if_neg c1] at h
    refine lv_iload_n C.1 C.2.1 dJ1_canEncode_9a6ad_4 rfl (lv_at hl 0 rfl) ?_
    refine lv_sipush (v := 255) C.1 C.2.1 dJ1_canEncode_9a6ad_5 (by decide) ?_
    refine lv_icmp_gt (tgt := 15) C.1 C.2.1 dJ1_canEncode_9a6ad_8 (by decide) (fun c8 => ?_) (fun c8 => ?_)
    · rw [if_pos c8] at h
      refine lv_iconst (v := 0) C.1 C.2.1 dJ1_canEncode_9a6ad_15 (by decide) ?_
      obtain ⟨hg2, h⟩ := gd_some h
      cases h
      exact rt_z hg2 C hP hS dJ1_canEncode_9a6ad_16
    · rw [if_neg c8] at h
      refine lv_iconst (v := 1) C.1 C.2.1 dJ1_canEncode_9a6ad_11 (by decide) ?_
      refine lv_goto (tgt := 16) C.1 C.2.1 dJ1_canEncode_9a6ad_12 (by decide) ?_
      obtain ⟨hg3, h⟩ := gd_some h
      cases h
      exact rt_z hg3 C hP hS dJ1_canEncode_9a6ad_16
theorem metJ1_canEncode_9a6ad (l : Launch) (D : va_G) (cy : Nat → ClassId) (st : Nat → Nat) (sz : Nat) (x0 : Int32) {r : Int32} (h : fJ1_canEncode_9a6ad x0 = some r) : Met l yJ1_canEncode_9a6ad wsJ1_canEncode_9a6ad rmJ1_canEncode_9a6ad (va_Pc [.int x0] (Px D [(cy 0, .int), (cy 1, .long), (cy 2, .boolean), (cy 3, .byte), (cy 4, .object "HissHorn$Text")] st V0 sz u00)) (Qi D V0 A0 sz r u00) 0 0 (Ax A0 sz) := by
  refine Met.ofW (cc := cJ1_canEncode_9a6ad) (maxL := 1) (ret := (some .boolean)) (by decide) rfl ?_
  intro p e s m args below meth c s₁ B hml hv
  obtain ⟨rfl, hsz, hP, hK⟩ := hv
  subst hsz
  have C : Cx RJ1 cJ1_canEncode_9a6ad 1 (some .boolean) wsJ1_canEncode_9a6ad p s m _ meth c := ⟨B.exec, B.bytes, hml, B.returns, findClass_of_methodNamed B.named, atoms_spec (ws := wsJ1_canEncode_9a6ad) B.pre, B.notSynchronized⟩
  have hl := lv_entry ([.int x0]) (n := 1) (Nat.le_of_ble_eq_true rfl)
  rw [lg_entry_eq]
  exact wJ1_canEncode_9a6ad C hK x0 h hP va_S.rf hl

theorem zdJ1_indexOfChar_4cfef_7 : (and (and (and (and (and (zk cJ1_indexOfChar_4cfef 7 (.iload 5) 2) (zk cJ1_indexOfChar_4cfef 9 (.iload_n 3) 1)) (zk cJ1_indexOfChar_4cfef 10 (.if_icmp .ge 21) 3)) (and (zk cJ1_indexOfChar_4cfef 31 (.iconst (-1)) 1) (zk cJ1_indexOfChar_4cfef 32 (.ireturn) 1))) (and (and (and (zk cJ1_indexOfChar_4cfef 13 (.aload_n 0) 1) (zk cJ1_indexOfChar_4cfef 14 (.iload 5) 2)) (zk cJ1_indexOfChar_4cfef 16 (.baload) 1)) (and (zk cJ1_indexOfChar_4cfef 17 (.iload 4) 2) (zk cJ1_indexOfChar_4cfef 19 (.if_icmp .ne 6) 3)))) (and (and (and (and (zk cJ1_indexOfChar_4cfef 25 (.iinc 5 1) 3) (zk cJ1_indexOfChar_4cfef 28 (.goto (-21)) 3)) (zk cJ1_indexOfChar_4cfef 22 (.iload 5) 2)) (and (zk cJ1_indexOfChar_4cfef 24 (.ireturn) 1) (zk cJ1_indexOfChar_4cfef 0 (.iload_n 1) 1))) (and (and (zk cJ1_indexOfChar_4cfef 1 (.i2b) 1) (zk cJ1_indexOfChar_4cfef 2 (.istore 4) 2)) (and (zk cJ1_indexOfChar_4cfef 4 (.iload_n 2) 1) (zk cJ1_indexOfChar_4cfef 5 (.istore 5) 2))))) = true := by decide +kernel
theorem dJ1_indexOfChar_4cfef_7 : decode cJ1_indexOfChar_4cfef 7 = .ok (.iload 5, 2) := zk_of (zk_l (zk_l (zk_l (zk_l (zk_l zdJ1_indexOfChar_4cfef_7)))))
theorem dJ1_indexOfChar_4cfef_9 : decode cJ1_indexOfChar_4cfef 9 = .ok (.iload_n 3, 1) := zk_of (zk_r (zk_l (zk_l (zk_l (zk_l zdJ1_indexOfChar_4cfef_7)))))
theorem dJ1_indexOfChar_4cfef_10 : decode cJ1_indexOfChar_4cfef 10 = .ok (.if_icmp .ge 21, 3) := zk_of (zk_r (zk_l (zk_l (zk_l zdJ1_indexOfChar_4cfef_7))))
theorem dJ1_indexOfChar_4cfef_31 : decode cJ1_indexOfChar_4cfef 31 = .ok (.iconst (-1), 1) := zk_of (zk_l (zk_r (zk_l (zk_l zdJ1_indexOfChar_4cfef_7))))
theorem dJ1_indexOfChar_4cfef_32 : decode cJ1_indexOfChar_4cfef 32 = .ok (.ireturn, 1) := zk_of (zk_r (zk_r (zk_l (zk_l zdJ1_indexOfChar_4cfef_7))))
theorem dJ1_indexOfChar_4cfef_13 : decode cJ1_indexOfChar_4cfef 13 = .ok (.aload_n 0, 1) := zk_of (zk_l (zk_l (zk_l (zk_r (zk_l zdJ1_indexOfChar_4cfef_7)))))
theorem dJ1_indexOfChar_4cfef_14 : decode cJ1_indexOfChar_4cfef 14 = .ok (.iload 5, 2) := zk_of (zk_r (zk_l (zk_l (zk_r (zk_l zdJ1_indexOfChar_4cfef_7)))))
theorem dJ1_indexOfChar_4cfef_16 : decode cJ1_indexOfChar_4cfef 16 = .ok (.baload, 1) := zk_of (zk_r (zk_l (zk_r (zk_l zdJ1_indexOfChar_4cfef_7))))
theorem dJ1_indexOfChar_4cfef_17 : decode cJ1_indexOfChar_4cfef 17 = .ok (.iload 4, 2) := zk_of (zk_l (zk_r (zk_r (zk_l zdJ1_indexOfChar_4cfef_7))))
theorem dJ1_indexOfChar_4cfef_19 : decode cJ1_indexOfChar_4cfef 19 = .ok (.if_icmp .ne 6, 3) := zk_of (zk_r (zk_r (zk_r (zk_l zdJ1_indexOfChar_4cfef_7))))
theorem dJ1_indexOfChar_4cfef_25 : decode cJ1_indexOfChar_4cfef 25 = .ok (.iinc 5 1, 3) := zk_of (zk_l (zk_l (zk_l (zk_l (zk_r zdJ1_indexOfChar_4cfef_7)))))
theorem dJ1_indexOfChar_4cfef_28 : decode cJ1_indexOfChar_4cfef 28 = .ok (.goto (-21), 3) := zk_of (zk_r (zk_l (zk_l (zk_l (zk_r zdJ1_indexOfChar_4cfef_7)))))
theorem dJ1_indexOfChar_4cfef_22 : decode cJ1_indexOfChar_4cfef 22 = .ok (.iload 5, 2) := zk_of (zk_r (zk_l (zk_l (zk_r zdJ1_indexOfChar_4cfef_7))))
theorem dJ1_indexOfChar_4cfef_24 : decode cJ1_indexOfChar_4cfef 24 = .ok (.ireturn, 1) := zk_of (zk_l (zk_r (zk_l (zk_r zdJ1_indexOfChar_4cfef_7))))
theorem dJ1_indexOfChar_4cfef_0 : decode cJ1_indexOfChar_4cfef 0 = .ok (.iload_n 1, 1) := zk_of (zk_r (zk_r (zk_l (zk_r zdJ1_indexOfChar_4cfef_7))))
theorem dJ1_indexOfChar_4cfef_1 : decode cJ1_indexOfChar_4cfef 1 = .ok (.i2b, 1) := zk_of (zk_l (zk_l (zk_r (zk_r zdJ1_indexOfChar_4cfef_7))))
theorem dJ1_indexOfChar_4cfef_2 : decode cJ1_indexOfChar_4cfef 2 = .ok (.istore 4, 2) := zk_of (zk_r (zk_l (zk_r (zk_r zdJ1_indexOfChar_4cfef_7))))
theorem dJ1_indexOfChar_4cfef_4 : decode cJ1_indexOfChar_4cfef 4 = .ok (.iload_n 2, 1) := zk_of (zk_l (zk_r (zk_r (zk_r zdJ1_indexOfChar_4cfef_7))))
theorem dJ1_indexOfChar_4cfef_5 : decode cJ1_indexOfChar_4cfef 5 = .ok (.istore 5, 2) := zk_of (zk_r (zk_r (zk_r (zk_r zdJ1_indexOfChar_4cfef_7))))
/-- java/lang/StringLatin1.indexOfChar([BIII)I -/
def rmJ1_indexOfChar_4cfef_ab0 : Room := { frames := 0, cells := 0, slots := 0, locals := 0 }
def LJ1_indexOfChar_4cfef_ab0_7  : Nat → Int32 → Int32 → Int32 → Option Int32
  | 0, _, _, _ => none
  | n + 1, z3, z4, z5 => (if z3 ≤ z5 then (some (-1)) else (gd (inb z5 6) (if (zB 0 z5.toNatClampNeg) = z4 then (some z5) else ((LJ1_indexOfChar_4cfef_ab0_7 n) z3 z4 (z5 + 1)))))
def fJ1_indexOfChar_4cfef_ab0 (x1 : Int32) (x2 : Int32) (x3 : Int32) : Option Int32 := (lt (x1.toInt8.toInt32) fun v1 => (LJ1_indexOfChar_4cfef_ab0_7  5000 x3 v1 x2))
set_option maxHeartbeats 4000000 in
set_option maxRecDepth 100000 in
theorem wLJ1_indexOfChar_4cfef_ab0_7 {p : Program} {l : Launch} {e : Env} {s : State} {m : MethodId} {args : Array Value} {below : List Frame} {meth : Method} {c : Code} {D : va_G} {cy : Nat → ClassId} {st : Nat → Nat} (C : Cx RJ1 cJ1_indexOfChar_4cfef 6 (some .int) wsJ1_indexOfChar_4cfef p s m args meth c) (hK : Ky D [(cy 0, .int), (cy 1, .long), (cy 2, .boolean), (cy 3, .byte), (cy 4, .object "HissHorn$Text")] st s) {r : Int32}   : ∀ (n : Nat) (z3 : Int32) (z4 : Int32) (z5 : Int32) (H : Heap) (locs : List Loc) (ls : Array Slot), LJ1_indexOfChar_4cfef_ab0_7  n z3 z4 z5 = some r → va_P D vwCl (V0 u00) H → va_S (Ax (A0) s.heap.size) s.heap H locs → lv_has ls 6 [(0, .ref (st 10)), (3, .int z3), (4, .int z4), (5, .int z5)] → W p l e rmJ1_indexOfChar_4cfef_ab0 s m args below meth c H locs 0 0 (MQ below (Qi D (V0) (A0) s.heap.size r u00) args s 0 0 (Ax (A0) s.heap.size)) (F0 m 7 ls []) := by
  intro n
  induction n with
  | zero =>
    intro z3 z4 z5 H locs ls h
    exact absurd h (by intro q; cases q)
  | succ n ih =>
    intro z3 z4 z5 H locs ls h hP hS hl
    rw [LJ1_indexOfChar_4cfef_ab0_7] at h
    refine lv_iload C.1 C.2.1 dJ1_indexOfChar_4cfef_7 (lv_at hl 3 rfl) ?_
    refine lv_iload_n C.1 C.2.1 dJ1_indexOfChar_4cfef_9 rfl (lv_at hl 1 rfl) ?_
    refine lv_icmp_ge (tgt := 31) C.1 C.2.1 dJ1_indexOfChar_4cfef_10 (by decide) (fun c10 => ?_) (fun c10 => ?_)
    · rw [if_pos c10] at h
      refine lv_iconst (v := (-1)) C.1 C.2.1 dJ1_indexOfChar_4cfef_31 (by decide) ?_
      cases h
      exact rt_i C hP hS dJ1_indexOfChar_4cfef_32
    · rw [if_neg c10] at h
      refine lv_aload_n C.1 C.2.1 dJ1_indexOfChar_4cfef_13 rfl (lv_at hl 0 rfl) ?_
      refine lv_iload C.1 C.2.1 dJ1_indexOfChar_4cfef_14 (lv_at hl 3 rfl) ?_
      obtain ⟨hg3, h⟩ := gd_some h
      refine va_tb (v := .int (zB 0 z5.toNatClampNeg)) C.1 C.2.1 (hK.2.2.2.2.2 0 (by decide)).2.2.2 (Zx_S hK.2.2.2 A0_ge hS) (inb_in hg3) rfl dJ1_indexOfChar_4cfef_16 ?_
      refine lv_iload C.1 C.2.1 dJ1_indexOfChar_4cfef_17 (lv_at hl 2 rfl) ?_
      refine lv_icmp_ne (tgt := 25) C.1 C.2.1 dJ1_indexOfChar_4cfef_19 (by decide) (fun c19 => ?_) (fun c19 => ?_)
      · rw [if_neg c19] at h
        refine lv_iinc (v := z5 + 1) (lv' := [(5, .int (z5 + 1)), (0, .ref (st 10)), (3, .int z3), (4, .int z4)]) C.1 C.2.1 dJ1_indexOfChar_4cfef_25 hl (k := 3) rfl rfl (by decide) rfl (fun ls hl => ?_)
        replace hl := lv_sub (l' := [(0, .ref (st 10)), (3, .int z3), (4, .int z4), (5, .int (z5 + 1))]) hl [1, 2, 3, 0] rfl
        refine lv_goto (tgt := 7) C.1 C.2.1 dJ1_indexOfChar_4cfef_28 (by decide) ?_
        exact ih _ _ _ _ _ _ h hP hS hl
      · rw [if_pos c19] at h
        refine lv_iload C.1 C.2.1 dJ1_indexOfChar_4cfef_22 (lv_at hl 3 rfl) ?_
        cases h
        exact rt_i C hP hS dJ1_indexOfChar_4cfef_24
set_option maxHeartbeats 4000000 in
set_option maxRecDepth 100000 in
theorem wJ1_indexOfChar_4cfef_ab0 {p : Program} {l : Launch} {e : Env} {s : State} {m : MethodId} {args : Array Value} {below : List Frame} {meth : Method} {c : Code} {D : va_G} {cy : Nat → ClassId} {st : Nat → Nat} (C : Cx RJ1 cJ1_indexOfChar_4cfef 6 (some .int) wsJ1_indexOfChar_4cfef p s m args meth c) (hK : Ky D [(cy 0, .int), (cy 1, .long), (cy 2, .boolean), (cy 3, .byte), (cy 4, .object "HissHorn$Text")] st s) (x1 : Int32) (x2 : Int32) (x3 : Int32) {r : Int32} {H : Heap} {locs : List Loc} {ls : Array Slot} (h : fJ1_indexOfChar_4cfef_ab0 x1 x2 x3 = some r) (hP : va_P D vwCl (V0 u00) H) (hS : va_S (Ax (A0) s.heap.size) s.heap H locs) (hl : lv_has ls 6 [(0, .ref (st 10)), (1, .int x1), (2, .int x2), (3, .int x3)]) : W p l e rmJ1_indexOfChar_4cfef_ab0 s m args below meth c H locs 0 0 (MQ below (Qi D (V0) (A0) s.heap.size r u00) args s 0 0 (Ax (A0) s.heap.size)) (F0 m 0 ls []) := by
  unfold fJ1_indexOfChar_4cfef_ab0 at h
  refine lv_iload_n C.1 C.2.1 dJ1_indexOfChar_4cfef_0 rfl (lv_at hl 1 rfl) ?_
  refine lv_i2b (v := x1.toInt8.toInt32) C.1 C.2.1 dJ1_indexOfChar_4cfef_1 rfl ?_
  refine lv_topi (fun v1 hv2 => ?_)
  replace h := lt_e hv2 h
  try dsimp only at h
  refine lv_istore (lv' := [(4, .int v1), (0, .ref (st 10)), (1, .int x1), (2, .int x2), (3, .int x3)]) C.1 C.2.1 dJ1_indexOfChar_4cfef_2 hl (by decide) rfl (fun ls hl => ?_)
  replace hl := lv_sub (l' := [(0, .ref (st 10)), (1, .int x1), (2, .int x2), (3, .int x3), (4, .int v1)]) hl [1, 2, 3, 4, 0] rfl
  refine lv_iload_n C.1 C.2.1 dJ1_indexOfChar_4cfef_4 rfl (lv_at hl 2 rfl) ?_
  refine lv_istore (lv' := [(5, .int x2), (0, .ref (st 10)), (1, .int x1), (2, .int x2), (3, .int x3), (4, .int v1)]) C.1 C.2.1 dJ1_indexOfChar_4cfef_5 hl (by decide) rfl (fun ls hl => ?_)
  replace hl := lv_sub (l' := [(0, .ref (st 10)), (1, .int x1), (2, .int x2), (3, .int x3), (4, .int v1), (5, .int x2)]) hl [1, 2, 3, 4, 5, 0] rfl
  exact wLJ1_indexOfChar_4cfef_ab0_7 C hK  5000 _ _ _ _ _ _ h hP hS (lv_sub hl [0, 3, 4, 5] rfl)
theorem metJ1_indexOfChar_4cfef_ab0 (l : Launch) (D : va_G) (cy : Nat → ClassId) (st : Nat → Nat) (sz : Nat) (x1 : Int32) (x2 : Int32) (x3 : Int32) {r : Int32} (h : fJ1_indexOfChar_4cfef_ab0 x1 x2 x3 = some r) : Met l yJ1_indexOfChar_4cfef wsJ1_indexOfChar_4cfef rmJ1_indexOfChar_4cfef_ab0 (va_Pc [.ref (st 10), .int x1, .int x2, .int x3] (Px D [(cy 0, .int), (cy 1, .long), (cy 2, .boolean), (cy 3, .byte), (cy 4, .object "HissHorn$Text")] st V0 sz u00)) (Qi D V0 A0 sz r u00) 0 0 (Ax A0 sz) := by
  refine Met.ofW (cc := cJ1_indexOfChar_4cfef) (maxL := 6) (ret := (some .int)) (by decide) rfl ?_
  intro p e s m args below meth c s₁ B hml hv
  obtain ⟨rfl, hsz, hP, hK⟩ := hv
  subst hsz
  have C : Cx RJ1 cJ1_indexOfChar_4cfef 6 (some .int) wsJ1_indexOfChar_4cfef p s m _ meth c := ⟨B.exec, B.bytes, hml, B.returns, findClass_of_methodNamed B.named, atoms_spec (ws := wsJ1_indexOfChar_4cfef) B.pre, B.notSynchronized⟩
  have hl := lv_entry ([.ref (st 10), .int x1, .int x2, .int x3]) (n := 6) (Nat.le_of_ble_eq_true rfl)
  rw [lg_entry_eq]
  exact wJ1_indexOfChar_4cfef_ab0 C hK x1 x2 x3 h hP va_S.rf hl

theorem zdJ1_indexOf_4cfef_0 : (and (and (and (and (and (zk cJ1_indexOf_4cfef 0 (.iload_n 1) 1) (zk cJ1_indexOf_4cfef 1 (.invokestatic 88) 3)) (and (zk cJ1_indexOf_4cfef 4 (.ifCond .ne 5) 3) (zk cJ1_indexOf_4cfef 9 (.iload_n 2) 1))) (and (and (zk cJ1_indexOf_4cfef 10 (.iconst 0) 1) (zk cJ1_indexOf_4cfef 11 (.invokestatic 92) 3)) (zk cJ1_indexOf_4cfef 14 (.istore_n 2) 1))) (and (and (and (zk cJ1_indexOf_4cfef 15 (.iload_n 3) 1) (zk cJ1_indexOf_4cfef 16 (.aload_n 0) 1)) (zk cJ1_indexOf_4cfef 17 (.arraylength) 1)) (and (and (zk cJ1_indexOf_4cfef 18 (.invokestatic 38) 3) (zk cJ1_indexOf_4cfef 21 (.istore_n 3) 1)) (zk cJ1_indexOf_4cfef 22 (.iload_n 2) 1)))) (and (and (and (and (zk cJ1_indexOf_4cfef 23 (.iload_n 3) 1) (zk cJ1_indexOf_4cfef 24 (.if_icmp .lt 5) 3)) (zk cJ1_indexOf_4cfef 29 (.aload_n 0) 1)) (and (and (zk cJ1_indexOf_4cfef 30 (.iload_n 1) 1) (zk cJ1_indexOf_4cfef 31 (.iload_n 2) 1)) (zk cJ1_indexOf_4cfef 32 (.iload_n 3) 1))) (and (and (and (zk cJ1_indexOf_4cfef 33 (.invokestatic 95) 3) (zk cJ1_indexOf_4cfef 36 (.ireturn) 1)) (zk cJ1_indexOf_4cfef 27 (.iconst (-1)) 1)) (and (and (zk cJ1_indexOf_4cfef 28 (.ireturn) 1) (zk cJ1_indexOf_4cfef 7 (.iconst (-1)) 1)) (zk cJ1_indexOf_4cfef 8 (.ireturn) 1))))) = true := by decide +kernel
theorem dJ1_indexOf_4cfef_0 : decode cJ1_indexOf_4cfef 0 = .ok (.iload_n 1, 1) := zk_of (zk_l (zk_l (zk_l (zk_l (zk_l zdJ1_indexOf_4cfef_0)))))
theorem dJ1_indexOf_4cfef_1 : decode cJ1_indexOf_4cfef 1 = .ok (.invokestatic 88, 3) := zk_of (zk_r (zk_l (zk_l (zk_l (zk_l zdJ1_indexOf_4cfef_0)))))
theorem dJ1_indexOf_4cfef_4 : decode cJ1_indexOf_4cfef 4 = .ok (.ifCond .ne 5, 3) := zk_of (zk_l (zk_r (zk_l (zk_l (zk_l zdJ1_indexOf_4cfef_0)))))
theorem dJ1_indexOf_4cfef_9 : decode cJ1_indexOf_4cfef 9 = .ok (.iload_n 2, 1) := zk_of (zk_r (zk_r (zk_l (zk_l (zk_l zdJ1_indexOf_4cfef_0)))))
theorem dJ1_indexOf_4cfef_10 : decode cJ1_indexOf_4cfef 10 = .ok (.iconst 0, 1) := zk_of (zk_l (zk_l (zk_r (zk_l (zk_l zdJ1_indexOf_4cfef_0)))))
theorem dJ1_indexOf_4cfef_11 : decode cJ1_indexOf_4cfef 11 = .ok (.invokestatic 92, 3) := zk_of (zk_r (zk_l (zk_r (zk_l (zk_l zdJ1_indexOf_4cfef_0)))))
theorem dJ1_indexOf_4cfef_14 : decode cJ1_indexOf_4cfef 14 = .ok (.istore_n 2, 1) := zk_of (zk_r (zk_r (zk_l (zk_l zdJ1_indexOf_4cfef_0))))
theorem dJ1_indexOf_4cfef_15 : decode cJ1_indexOf_4cfef 15 = .ok (.iload_n 3, 1) := zk_of (zk_l (zk_l (zk_l (zk_r (zk_l zdJ1_indexOf_4cfef_0)))))
theorem dJ1_indexOf_4cfef_16 : decode cJ1_indexOf_4cfef 16 = .ok (.aload_n 0, 1) := zk_of (zk_r (zk_l (zk_l (zk_r (zk_l zdJ1_indexOf_4cfef_0)))))
theorem dJ1_indexOf_4cfef_17 : decode cJ1_indexOf_4cfef 17 = .ok (.arraylength, 1) := zk_of (zk_r (zk_l (zk_r (zk_l zdJ1_indexOf_4cfef_0))))
theorem dJ1_indexOf_4cfef_18 : decode cJ1_indexOf_4cfef 18 = .ok (.invokestatic 38, 3) := zk_of (zk_l (zk_l (zk_r (zk_r (zk_l zdJ1_indexOf_4cfef_0)))))
theorem dJ1_indexOf_4cfef_21 : decode cJ1_indexOf_4cfef 21 = .ok (.istore_n 3, 1) := zk_of (zk_r (zk_l (zk_r (zk_r (zk_l zdJ1_indexOf_4cfef_0)))))
theorem dJ1_indexOf_4cfef_22 : decode cJ1_indexOf_4cfef 22 = .ok (.iload_n 2, 1) := zk_of (zk_r (zk_r (zk_r (zk_l zdJ1_indexOf_4cfef_0))))
theorem dJ1_indexOf_4cfef_23 : decode cJ1_indexOf_4cfef 23 = .ok (.iload_n 3, 1) := zk_of (zk_l (zk_l (zk_l (zk_l (zk_r zdJ1_indexOf_4cfef_0)))))
theorem dJ1_indexOf_4cfef_24 : decode cJ1_indexOf_4cfef 24 = .ok (.if_icmp .lt 5, 3) := zk_of (zk_r (zk_l (zk_l (zk_l (zk_r zdJ1_indexOf_4cfef_0)))))
theorem dJ1_indexOf_4cfef_29 : decode cJ1_indexOf_4cfef 29 = .ok (.aload_n 0, 1) := zk_of (zk_r (zk_l (zk_l (zk_r zdJ1_indexOf_4cfef_0))))
theorem dJ1_indexOf_4cfef_30 : decode cJ1_indexOf_4cfef 30 = .ok (.iload_n 1, 1) := zk_of (zk_l (zk_l (zk_r (zk_l (zk_r zdJ1_indexOf_4cfef_0)))))
theorem dJ1_indexOf_4cfef_31 : decode cJ1_indexOf_4cfef 31 = .ok (.iload_n 2, 1) := zk_of (zk_r (zk_l (zk_r (zk_l (zk_r zdJ1_indexOf_4cfef_0)))))
theorem dJ1_indexOf_4cfef_32 : decode cJ1_indexOf_4cfef 32 = .ok (.iload_n 3, 1) := zk_of (zk_r (zk_r (zk_l (zk_r zdJ1_indexOf_4cfef_0))))
theorem dJ1_indexOf_4cfef_33 : decode cJ1_indexOf_4cfef 33 = .ok (.invokestatic 95, 3) := zk_of (zk_l (zk_l (zk_l (zk_r (zk_r zdJ1_indexOf_4cfef_0)))))
theorem dJ1_indexOf_4cfef_36 : decode cJ1_indexOf_4cfef 36 = .ok (.ireturn, 1) := zk_of (zk_r (zk_l (zk_l (zk_r (zk_r zdJ1_indexOf_4cfef_0)))))
theorem dJ1_indexOf_4cfef_27 : decode cJ1_indexOf_4cfef 27 = .ok (.iconst (-1), 1) := zk_of (zk_r (zk_l (zk_r (zk_r zdJ1_indexOf_4cfef_0))))
theorem dJ1_indexOf_4cfef_28 : decode cJ1_indexOf_4cfef 28 = .ok (.ireturn, 1) := zk_of (zk_l (zk_l (zk_r (zk_r (zk_r zdJ1_indexOf_4cfef_0)))))
theorem dJ1_indexOf_4cfef_7 : decode cJ1_indexOf_4cfef 7 = .ok (.iconst (-1), 1) := zk_of (zk_r (zk_l (zk_r (zk_r (zk_r zdJ1_indexOf_4cfef_0)))))
theorem dJ1_indexOf_4cfef_8 : decode cJ1_indexOf_4cfef 8 = .ok (.ireturn, 1) := zk_of (zk_r (zk_r (zk_r (zk_r zdJ1_indexOf_4cfef_0))))
set_option maxRecDepth 20000 in
theorem ggJ1_indexOf_4cfef_J1_canEncode_9a6ad : GoodIn wsJ1_indexOf_4cfef wsJ1_canEncode_9a6ad := goodIn_r _ [11] rfl (by decide +kernel)
set_option maxRecDepth 20000 in
theorem gJ1_indexOf_4cfef_J1_canEncode_9a6ad : GoodIn wsJ1_indexOf_4cfef (va_wsS RJ1 88 yJ1_canEncode_9a6ad wsJ1_canEncode_9a6ad) := goodIn_app (goodIn_of _ (by decide +kernel)) ggJ1_indexOf_4cfef_J1_canEncode_9a6ad
set_option maxRecDepth 20000 in
theorem ggJ1_indexOf_4cfef_J1_indexOfChar_4cfef : GoodIn wsJ1_indexOf_4cfef wsJ1_indexOfChar_4cfef := goodIn_r _ [14] rfl (by decide +kernel)
set_option maxRecDepth 20000 in
theorem gJ1_indexOf_4cfef_J1_indexOfChar_4cfef : GoodIn wsJ1_indexOf_4cfef (va_wsS RJ1 95 yJ1_indexOfChar_4cfef wsJ1_indexOfChar_4cfef) := goodIn_app (goodIn_of _ (by decide +kernel)) ggJ1_indexOf_4cfef_J1_indexOfChar_4cfef
/-- java/lang/StringLatin1.indexOf([BIII)I -/
def rmJ1_indexOf_4cfef_ab0 : Room := { frames := 1, cells := 0, slots := 0, locals := 25 }
theorem mJ1_indexOf_4cfef_ab0_0 : Cond.methodLink RJ1 92 Lib.Math.max.name ∈ wsJ1_indexOf_4cfef := (List.mem_cons_of_mem _ (List.mem_of_getElem? (i := 0) rfl))
theorem mJ1_indexOf_4cfef_ab0_1 : Cond.static Lib.Math.max.name ∈ wsJ1_indexOf_4cfef := (List.mem_cons_of_mem _ (List.mem_of_getElem? (i := 1) rfl))
theorem mJ1_indexOf_4cfef_ab0_2 : Cond.initialized "java/lang/Math" ∈ wsJ1_indexOf_4cfef := (List.mem_cons_of_mem _ (List.mem_of_getElem? (i := 2) rfl))
theorem mJ1_indexOf_4cfef_ab0_3 : Cond.code Lib.Math.max.name Lib.Math.max.code 2 (some .int) ∈ wsJ1_indexOf_4cfef := (List.mem_cons_of_mem _ (List.mem_of_getElem? (i := 3) rfl))
theorem mJ1_indexOf_4cfef_ab0_4 : Cond.methodLink RJ1 38 Lib.Math.min.name ∈ wsJ1_indexOf_4cfef := (List.mem_cons_of_mem _ (List.mem_of_getElem? (i := 4) rfl))
theorem mJ1_indexOf_4cfef_ab0_5 : Cond.static Lib.Math.min.name ∈ wsJ1_indexOf_4cfef := (List.mem_cons_of_mem _ (List.mem_of_getElem? (i := 5) rfl))
theorem mJ1_indexOf_4cfef_ab0_6 : Cond.code Lib.Math.min.name Lib.Math.min.code 2 (some .int) ∈ wsJ1_indexOf_4cfef := (List.mem_cons_of_mem _ (List.mem_of_getElem? (i := 6) rfl))
def fJ1_indexOf_4cfef_ab0 (x1 : Int32) (x2 : Int32) (x3 : Int32) : Option Int32 := ((fJ1_canEncode_9a6ad x1).bind fun r1 => (if r1 = 0 then (some (-1)) else (lt (if x2 < 0 then 0 else x2) fun v4 => (lt (if 6 < x3 then 6 else x3) fun v6 => (if v4 < v6 then ((fJ1_indexOfChar_4cfef_ab0 x1 v4 v6).bind fun r8 => (some r8)) else (some (-1)))))))
set_option maxHeartbeats 4000000 in
set_option maxRecDepth 100000 in
theorem wJ1_indexOf_4cfef_ab0 {p : Program} {l : Launch} {e : Env} {s : State} {m : MethodId} {args : Array Value} {below : List Frame} {meth : Method} {c : Code} {D : va_G} {cy : Nat → ClassId} {st : Nat → Nat} (C : Cx RJ1 cJ1_indexOf_4cfef 4 (some .int) wsJ1_indexOf_4cfef p s m args meth c) (hK : Ky D [(cy 0, .int), (cy 1, .long), (cy 2, .boolean), (cy 3, .byte), (cy 4, .object "HissHorn$Text")] st s) (x1 : Int32) (x2 : Int32) (x3 : Int32) {r : Int32} {H : Heap} {locs : List Loc} {ls : Array Slot} (h : fJ1_indexOf_4cfef_ab0 x1 x2 x3 = some r) (hP : va_P D vwCl (V0 u00) H) (hS : va_S (Ax (A0) s.heap.size) s.heap H locs) (hl : lv_has ls 4 [(0, .ref (st 10)), (1, .int x1), (2, .int x2), (3, .int x3)]) : W p l e rmJ1_indexOf_4cfef_ab0 s m args below meth c H locs 0 0 (MQ below (Qi D (V0) (A0) s.heap.size r u00) args s 0 0 (Ax (A0) s.heap.size)) (F0 m 0 ls []) := by
  unfold fJ1_indexOf_4cfef_ab0 at h
  refine lv_iload_n C.1 C.2.1 dJ1_indexOf_4cfef_0 rfl (lv_at hl 1 rfl) ?_
  obtain ⟨r1, hc3, h⟩ := bd_some h
  refine cs_i (As := [.int x1]) (rest := []) A0_ge C hK hP hS (metJ1_canEncode_9a6ad l D cy st _ x1 hc3) (va_cwS 1 C.2.2.2.2.2.1 gJ1_indexOf_4cfef_J1_canEncode_9a6ad rfl rfl rfl (by decide +kernel) ⟨(Nat.le_of_ble_eq_true rfl), (Nat.le_of_ble_eq_true rfl)⟩) rfl hl.1 rfl (Nat.le_of_ble_eq_true rfl) dJ1_indexOf_4cfef_1 ⟨Nat.zero_le _, Nat.zero_le _⟩ (fun H locs hP hS => ?_)
  refine lv_if_ne (tgt := 9) C.1 C.2.1 dJ1_indexOf_4cfef_4 (by decide) (fun c4 => ?_) (fun c4 => ?_)
  · rw [if_neg c4] at h
    refine lv_iload_n C.1 C.2.1 dJ1_indexOf_4cfef_9 rfl (lv_at hl 2 rfl) ?_
    refine lv_iconst (v := 0) C.1 C.2.1 dJ1_indexOf_4cfef_10 (by decide) ?_
    refine va_mmax C.1 C.2.1 (C.2.2.1.trans hl.1.symm) C.2.2.2.2.1 (C.2.2.2.2.2.1 _ mJ1_indexOf_4cfef_ab0_0) (C.2.2.2.2.2.1 _ mJ1_indexOf_4cfef_ab0_1) (C.2.2.2.2.2.1 _ mJ1_indexOf_4cfef_ab0_2) (C.2.2.2.2.2.1 _ mJ1_indexOf_4cfef_ab0_3) (Nat.le_of_ble_eq_true rfl) (Nat.le_of_ble_eq_true rfl) (Nat.zero_le _) (Nat.zero_le _) dJ1_indexOf_4cfef_11 ?_
    refine lv_topi (fun v4 hv5 => ?_)
    replace h := lt_e hv5 h
    try dsimp only at h
    refine lv_istore_n (lv' := [(2, .int v4), (0, .ref (st 10)), (1, .int x1), (3, .int x3)]) C.1 C.2.1 dJ1_indexOf_4cfef_14 rfl hl (by decide) rfl (fun ls hl => ?_)
    replace hl := lv_sub (l' := [(0, .ref (st 10)), (1, .int x1), (2, .int v4), (3, .int x3)]) hl [1, 2, 0, 3] rfl
    refine lv_iload_n C.1 C.2.1 dJ1_indexOf_4cfef_15 rfl (lv_at hl 3 rfl) ?_
    refine lv_aload_n C.1 C.2.1 dJ1_indexOf_4cfef_16 rfl (lv_at hl 0 rfl) ?_
    refine va_tlen (v := 6) C.1 C.2.1 (hK.2.2.2.2.2 0 (by decide)).2.2.2 (Zx_S hK.2.2.2 A0_ge hS) rfl dJ1_indexOf_4cfef_17 ?_
    refine va_mmin C.1 C.2.1 (C.2.2.1.trans hl.1.symm) C.2.2.2.2.1 (C.2.2.2.2.2.1 _ mJ1_indexOf_4cfef_ab0_4) (C.2.2.2.2.2.1 _ mJ1_indexOf_4cfef_ab0_5) (C.2.2.2.2.2.1 _ mJ1_indexOf_4cfef_ab0_2) (C.2.2.2.2.2.1 _ mJ1_indexOf_4cfef_ab0_6) (Nat.le_of_ble_eq_true rfl) (Nat.le_of_ble_eq_true rfl) (Nat.zero_le _) (Nat.zero_le _) dJ1_indexOf_4cfef_18 ?_
    refine lv_topi (fun v6 hv7 => ?_)
    replace h := lt_e hv7 h
    try dsimp only at h
    refine lv_istore_n (lv' := [(3, .int v6), (0, .ref (st 10)), (1, .int x1), (2, .int v4)]) C.1 C.2.1 dJ1_indexOf_4cfef_21 rfl hl (by decide) rfl (fun ls hl => ?_)
    replace hl := lv_sub (l' := [(0, .ref (st 10)), (1, .int x1), (2, .int v4), (3, .int v6)]) hl [1, 2, 3, 0] rfl
    refine lv_iload_n C.1 C.2.1 dJ1_indexOf_4cfef_22 rfl (lv_at hl 2 rfl) ?_
    refine lv_iload_n C.1 C.2.1 dJ1_indexOf_4cfef_23 rfl (lv_at hl 3 rfl) ?_
    refine lv_icmp_lt (tgt := 29) C.1 C.2.1 dJ1_indexOf_4cfef_24 (by decide) (fun c24 => ?_) (fun c24 => ?_)
    · rw [if_pos c24] at h
      refine lv_aload_n C.1 C.2.1 dJ1_indexOf_4cfef_29 rfl (lv_at hl 0 rfl) ?_
      refine lv_iload_n C.1 C.2.1 dJ1_indexOf_4cfef_30 rfl (lv_at hl 1 rfl) ?_
      refine lv_iload_n C.1 C.2.1 dJ1_indexOf_4cfef_31 rfl (lv_at hl 2 rfl) ?_
      refine lv_iload_n C.1 C.2.1 dJ1_indexOf_4cfef_32 rfl (lv_at hl 3 rfl) ?_
      obtain ⟨r8, hc10, h⟩ := bd_some h
      refine cs_i (As := [.ref (st 10), .int x1, .int v4, .int v6]) (rest := []) A0_ge C hK hP hS (metJ1_indexOfChar_4cfef_ab0 l D cy st _ x1 v4 v6 hc10) (va_cwS 4 C.2.2.2.2.2.1 gJ1_indexOf_4cfef_J1_indexOfChar_4cfef rfl rfl rfl (by decide +kernel) ⟨(Nat.le_of_ble_eq_true rfl), (Nat.le_of_ble_eq_true rfl)⟩) rfl hl.1 rfl (Nat.le_of_ble_eq_true rfl) dJ1_indexOf_4cfef_33 ⟨Nat.zero_le _, Nat.zero_le _⟩ (fun H locs hP hS => ?_)
      cases h
      exact rt_i C hP hS dJ1_indexOf_4cfef_36
    · rw [if_neg c24] at h
      refine lv_iconst (v := (-1)) C.1 C.2.1 dJ1_indexOf_4cfef_27 (by decide) ?_
      cases h
      exact rt_i C hP hS dJ1_indexOf_4cfef_28
  · rw [if_pos c4] at h
    refine lv_iconst (v := (-1)) C.1 C.2.1 dJ1_indexOf_4cfef_7 (by decide) ?_
    cases h
    exact rt_i C hP hS dJ1_indexOf_4cfef_8
theorem metJ1_indexOf_4cfef_ab0 (l : Launch) (D : va_G) (cy : Nat → ClassId) (st : Nat → Nat) (sz : Nat) (x1 : Int32) (x2 : Int32) (x3 : Int32) {r : Int32} (h : fJ1_indexOf_4cfef_ab0 x1 x2 x3 = some r) : Met l yJ1_indexOf_4cfef wsJ1_indexOf_4cfef rmJ1_indexOf_4cfef_ab0 (va_Pc [.ref (st 10), .int x1, .int x2, .int x3] (Px D [(cy 0, .int), (cy 1, .long), (cy 2, .boolean), (cy 3, .byte), (cy 4, .object "HissHorn$Text")] st V0 sz u00)) (Qi D V0 A0 sz r u00) 0 0 (Ax A0 sz) := by
  refine Met.ofW (cc := cJ1_indexOf_4cfef) (maxL := 4) (ret := (some .int)) (by decide) rfl ?_
  intro p e s m args below meth c s₁ B hml hv
  obtain ⟨rfl, hsz, hP, hK⟩ := hv
  subst hsz
  have C : Cx RJ1 cJ1_indexOf_4cfef 4 (some .int) wsJ1_indexOf_4cfef p s m _ meth c := ⟨B.exec, B.bytes, hml, B.returns, findClass_of_methodNamed B.named, atoms_spec (ws := wsJ1_indexOf_4cfef) B.pre, B.notSynchronized⟩
  have hl := lv_entry ([.ref (st 10), .int x1, .int x2, .int x3]) (n := 4) (Nat.le_of_ble_eq_true rfl)
  rw [lg_entry_eq]
  exact wJ1_indexOf_4cfef_ab0 C hK x1 x2 x3 h hP va_S.rf hl

theorem zdJ0_indexOf_7cf53_0 : (and (and (and (and (and (zk cJ0_indexOf_7cf53 0 (.aload_n 0) 1) (zk cJ0_indexOf_7cf53 1 (.invokevirtual 492) 3)) (zk cJ0_indexOf_7cf53 4 (.ifCond .eq 19) 3)) (and (zk cJ0_indexOf_7cf53 23 (.aload_n 0) 1) (zk cJ0_indexOf_7cf53 24 (.getfield 9) 3))) (and (and (zk cJ0_indexOf_7cf53 27 (.iload_n 1) 1) (zk cJ0_indexOf_7cf53 28 (.iload_n 2) 1)) (and (zk cJ0_indexOf_7cf53 29 (.aload_n 0) 1) (zk cJ0_indexOf_7cf53 30 (.invokevirtual 505) 3)))) (and (and (and (and (zk cJ0_indexOf_7cf53 7 (.aload_n 0) 1) (zk cJ0_indexOf_7cf53 8 (.getfield 9) 3)) (zk cJ0_indexOf_7cf53 11 (.iload_n 1) 1)) (and (zk cJ0_indexOf_7cf53 12 (.iload_n 2) 1) (zk cJ0_indexOf_7cf53 13 (.aload_n 0) 1))) (and (and (zk cJ0_indexOf_7cf53 14 (.invokevirtual 505) 3) (zk cJ0_indexOf_7cf53 17 (.invokestatic 637) 3)) (and (zk cJ0_indexOf_7cf53 20 (.goto 16) 3) (zk cJ0_indexOf_7cf53 36 (.ireturn) 1))))) = true := by decide +kernel
theorem dJ0_indexOf_7cf53_0 : decode cJ0_indexOf_7cf53 0 = .ok (.aload_n 0, 1) := zk_of (zk_l (zk_l (zk_l (zk_l (zk_l zdJ0_indexOf_7cf53_0)))))
theorem dJ0_indexOf_7cf53_1 : decode cJ0_indexOf_7cf53 1 = .ok (.invokevirtual 492, 3) := zk_of (zk_r (zk_l (zk_l (zk_l (zk_l zdJ0_indexOf_7cf53_0)))))
theorem dJ0_indexOf_7cf53_4 : decode cJ0_indexOf_7cf53 4 = .ok (.ifCond .eq 19, 3) := zk_of (zk_r (zk_l (zk_l (zk_l zdJ0_indexOf_7cf53_0))))
theorem dJ0_indexOf_7cf53_23 : decode cJ0_indexOf_7cf53 23 = .ok (.aload_n 0, 1) := zk_of (zk_l (zk_r (zk_l (zk_l zdJ0_indexOf_7cf53_0))))
theorem dJ0_indexOf_7cf53_24 : decode cJ0_indexOf_7cf53 24 = .ok (.getfield 9, 3) := zk_of (zk_r (zk_r (zk_l (zk_l zdJ0_indexOf_7cf53_0))))
theorem dJ0_indexOf_7cf53_27 : decode cJ0_indexOf_7cf53 27 = .ok (.iload_n 1, 1) := zk_of (zk_l (zk_l (zk_r (zk_l zdJ0_indexOf_7cf53_0))))
theorem dJ0_indexOf_7cf53_28 : decode cJ0_indexOf_7cf53 28 = .ok (.iload_n 2, 1) := zk_of (zk_r (zk_l (zk_r (zk_l zdJ0_indexOf_7cf53_0))))
theorem dJ0_indexOf_7cf53_29 : decode cJ0_indexOf_7cf53 29 = .ok (.aload_n 0, 1) := zk_of (zk_l (zk_r (zk_r (zk_l zdJ0_indexOf_7cf53_0))))
theorem dJ0_indexOf_7cf53_30 : decode cJ0_indexOf_7cf53 30 = .ok (.invokevirtual 505, 3) := zk_of (zk_r (zk_r (zk_r (zk_l zdJ0_indexOf_7cf53_0))))
theorem dJ0_indexOf_7cf53_7 : decode cJ0_indexOf_7cf53 7 = .ok (.aload_n 0, 1) := zk_of (zk_l (zk_l (zk_l (zk_l (zk_r zdJ0_indexOf_7cf53_0)))))
theorem dJ0_indexOf_7cf53_8 : decode cJ0_indexOf_7cf53 8 = .ok (.getfield 9, 3) := zk_of (zk_r (zk_l (zk_l (zk_l (zk_r zdJ0_indexOf_7cf53_0)))))
theorem dJ0_indexOf_7cf53_11 : decode cJ0_indexOf_7cf53 11 = .ok (.iload_n 1, 1) := zk_of (zk_r (zk_l (zk_l (zk_r zdJ0_indexOf_7cf53_0))))
theorem dJ0_indexOf_7cf53_12 : decode cJ0_indexOf_7cf53 12 = .ok (.iload_n 2, 1) := zk_of (zk_l (zk_r (zk_l (zk_r zdJ0_indexOf_7cf53_0))))
theorem dJ0_indexOf_7cf53_13 : decode cJ0_indexOf_7cf53 13 = .ok (.aload_n 0, 1) := zk_of (zk_r (zk_r (zk_l (zk_r zdJ0_indexOf_7cf53_0))))
theorem dJ0_indexOf_7cf53_14 : decode cJ0_indexOf_7cf53 14 = .ok (.invokevirtual 505, 3) := zk_of (zk_l (zk_l (zk_r (zk_r zdJ0_indexOf_7cf53_0))))
theorem dJ0_indexOf_7cf53_17 : decode cJ0_indexOf_7cf53 17 = .ok (.invokestatic 637, 3) := zk_of (zk_r (zk_l (zk_r (zk_r zdJ0_indexOf_7cf53_0))))
theorem dJ0_indexOf_7cf53_20 : decode cJ0_indexOf_7cf53 20 = .ok (.goto 16, 3) := zk_of (zk_l (zk_r (zk_r (zk_r zdJ0_indexOf_7cf53_0))))
theorem dJ0_indexOf_7cf53_36 : decode cJ0_indexOf_7cf53 36 = .ok (.ireturn, 1) := zk_of (zk_r (zk_r (zk_r (zk_r zdJ0_indexOf_7cf53_0))))
set_option maxRecDepth 20000 in
theorem ggJ0_indexOf_7cf53_J0_isLatin1_aae02 : GoodIn wsJ0_indexOf_7cf53 wsJ0_isLatin1_aae02 := goodIn_r _ [6, 7, 8] rfl (by decide +kernel)
set_option maxRecDepth 20000 in
theorem gJ0_indexOf_7cf53_J0_isLatin1_aae02 : GoodIn wsJ0_indexOf_7cf53 (wsV RJ0 492 RJ0 yJ0_isLatin1_aae02 wsJ0_isLatin1_aae02) := goodIn_app (goodIn_of _ (by decide +kernel)) ggJ0_indexOf_7cf53_J0_isLatin1_aae02
set_option maxRecDepth 20000 in
theorem ggJ0_indexOf_7cf53_J0_length_8abf5 : GoodIn wsJ0_indexOf_7cf53 wsJ0_length_8abf5 := goodIn_r _ [12, 1, 13, 14, 15, 5, 16, 7, 8] rfl (by decide +kernel)
set_option maxRecDepth 20000 in
theorem gJ0_indexOf_7cf53_J0_length_8abf5 : GoodIn wsJ0_indexOf_7cf53 (wsV RJ0 505 RJ0 yJ0_length_8abf5 wsJ0_length_8abf5) := goodIn_app (goodIn_of _ (by decide +kernel)) ggJ0_indexOf_7cf53_J0_length_8abf5
set_option maxRecDepth 20000 in
theorem ggJ0_indexOf_7cf53_J1_indexOf_4cfef : GoodIn wsJ0_indexOf_7cf53 wsJ1_indexOf_4cfef := goodIn_r _ [20, 21, 22, 23, 24, 25, 26, 27, 28, 29, 19, 30, 31, 32, 33] rfl (by decide +kernel)
set_option maxRecDepth 20000 in
theorem gJ0_indexOf_7cf53_J1_indexOf_4cfef : GoodIn wsJ0_indexOf_7cf53 (va_wsS RJ0 637 yJ1_indexOf_4cfef wsJ1_indexOf_4cfef) := goodIn_app (goodIn_of _ (by decide +kernel)) ggJ0_indexOf_7cf53_J1_indexOf_4cfef
/-- java/lang/String.indexOf(II)I of cell s0 -/
def rmJ0_indexOf_7cf53_s0 : Room := { frames := 2, cells := 0, slots := 0, locals := 48 }
theorem mJ0_indexOf_7cf53_s0_0 : Cond.fieldLink RJ0 9 "java/lang/String" "value" "[B" ∈ wsJ0_indexOf_7cf53 := (List.mem_cons_of_mem _ (List.mem_append_left _ (List.mem_of_getElem? (i := 0) rfl)))
def fJ0_indexOf_7cf53_s0 (x1 : Int32) (x2 : Int32) : Option Int32 := ((fJ0_isLatin1_aae02_s0 ).bind fun r1 => (if r1 = 0 then ((fJ0_length_8abf5_s0 ).bind fun r4 => none) else ((fJ0_length_8abf5_s0 ).bind fun r7 => ((fJ1_indexOf_4cfef_ab0 x1 x2 r7).bind fun r10 => (some r10)))))
set_option maxHeartbeats 4000000 in
set_option maxRecDepth 100000 in
theorem wJ0_indexOf_7cf53_s0 {p : Program} {l : Launch} {e : Env} {s : State} {m : MethodId} {args : Array Value} {below : List Frame} {meth : Method} {c : Code} {D : va_G} {cy : Nat → ClassId} {st : Nat → Nat} (C : Cx RJ0 cJ0_indexOf_7cf53 3 (some .int) wsJ0_indexOf_7cf53 p s m args meth c) (hK : Ky D [(cy 0, .int), (cy 1, .long), (cy 2, .boolean), (cy 3, .byte), (cy 4, .object "HissHorn$Text")] st s) (x1 : Int32) (x2 : Int32) {r : Int32} {H : Heap} {locs : List Loc} {ls : Array Slot} (h : fJ0_indexOf_7cf53_s0 x1 x2 = some r) (hP : va_P D vwCl (V0 u00) H) (hS : va_S (Ax (A0) s.heap.size) s.heap H locs) (hl : lv_has ls 3 [(0, .ref (st 0)), (1, .int x1), (2, .int x2)]) : W p l e rmJ0_indexOf_7cf53_s0 s m args below meth c H locs 0 0 (MQ below (Qi D (V0) (A0) s.heap.size r u00) args s 0 0 (Ax (A0) s.heap.size)) (F0 m 0 ls []) := by
  unfold fJ0_indexOf_7cf53_s0 at h
  refine lv_aload_n C.1 C.2.1 dJ0_indexOf_7cf53_0 rfl (lv_at hl 0 rfl) ?_
  obtain ⟨r1, hc3, h⟩ := bd_some h
  refine cz_i (kz := 0) (by decide) (As := []) (rest := []) A0_ge C hK hP hS (metJ0_isLatin1_aae02_s0 l D cy st _  hc3) (cwV 0 C.2.2.2.2.2.1 gJ0_indexOf_7cf53_J0_isLatin1_aae02 rfl rfl rfl (by decide +kernel) ⟨(Nat.le_of_ble_eq_true rfl), (Nat.le_of_ble_eq_true rfl)⟩) rfl hl.1 rfl (Nat.le_of_ble_eq_true rfl) dJ0_indexOf_7cf53_1 ⟨Nat.zero_le _, Nat.zero_le _⟩ (fun H locs hP hS => ?_)
  refine lv_if_eq (tgt := 23) C.1 C.2.1 dJ0_indexOf_7cf53_4 (by decide) (fun c4 => ?_) (fun c4 => ?_)
  · rw [if_pos c4] at h
    refine lv_aload_n C.1 C.2.1 dJ0_indexOf_7cf53_23 rfl (lv_at hl 0 rfl) ?_
    refine vk_getf C.1 C.2.1 (hK.2.2.2.2.2 0 (by decide)).2.2.1 (Zx_S hK.2.2.2 A0_ge hS) C.2.2.2.2.1 (C.2.2.2.2.2.1 _ mJ0_indexOf_7cf53_s0_0) (fun _ h => h) dJ0_indexOf_7cf53_24 ?_
    refine lv_iload_n C.1 C.2.1 dJ0_indexOf_7cf53_27 rfl (lv_at hl 1 rfl) ?_
    refine lv_iload_n C.1 C.2.1 dJ0_indexOf_7cf53_28 rfl (lv_at hl 2 rfl) ?_
    refine lv_aload_n C.1 C.2.1 dJ0_indexOf_7cf53_29 rfl (lv_at hl 0 rfl) ?_
    obtain ⟨r4, hc6, h⟩ := bd_some h
    refine cz_i (kz := 0) (by decide) (As := []) (rest := [.int x2, .int x1, .ref (st 10)]) A0_ge C hK hP hS (metJ0_length_8abf5_s0 l D cy st _  hc6) (cwV 0 C.2.2.2.2.2.1 gJ0_indexOf_7cf53_J0_length_8abf5 rfl rfl rfl (by decide +kernel) ⟨(Nat.le_of_ble_eq_true rfl), (Nat.le_of_ble_eq_true rfl)⟩) rfl hl.1 rfl (Nat.le_of_ble_eq_true rfl) dJ0_indexOf_7cf53_30 ⟨Nat.zero_le _, Nat.zero_le _⟩ (fun H locs hP hS => ?_)
    exact absurd h (by intro q; cases q)
  · rw [if_neg c4] at h
    refine lv_aload_n C.1 C.2.1 dJ0_indexOf_7cf53_7 rfl (lv_at hl 0 rfl) ?_
    refine vk_getf C.1 C.2.1 (hK.2.2.2.2.2 0 (by decide)).2.2.1 (Zx_S hK.2.2.2 A0_ge hS) C.2.2.2.2.1 (C.2.2.2.2.2.1 _ mJ0_indexOf_7cf53_s0_0) (fun _ h => h) dJ0_indexOf_7cf53_8 ?_
    refine lv_iload_n C.1 C.2.1 dJ0_indexOf_7cf53_11 rfl (lv_at hl 1 rfl) ?_
    refine lv_iload_n C.1 C.2.1 dJ0_indexOf_7cf53_12 rfl (lv_at hl 2 rfl) ?_
    refine lv_aload_n C.1 C.2.1 dJ0_indexOf_7cf53_13 rfl (lv_at hl 0 rfl) ?_
    obtain ⟨r7, hc9, h⟩ := bd_some h
    refine cz_i (kz := 0) (by decide) (As := []) (rest := [.int x2, .int x1, .ref (st 10)]) A0_ge C hK hP hS (metJ0_length_8abf5_s0 l D cy st _  hc9) (cwV 0 C.2.2.2.2.2.1 gJ0_indexOf_7cf53_J0_length_8abf5 rfl rfl rfl (by decide +kernel) ⟨(Nat.le_of_ble_eq_true rfl), (Nat.le_of_ble_eq_true rfl)⟩) rfl hl.1 rfl (Nat.le_of_ble_eq_true rfl) dJ0_indexOf_7cf53_14 ⟨Nat.zero_le _, Nat.zero_le _⟩ (fun H locs hP hS => ?_)
    obtain ⟨r10, hc12, h⟩ := bd_some h
    refine cs_i (As := [.ref (st 10), .int x1, .int x2, .int r7]) (rest := []) A0_ge C hK hP hS (metJ1_indexOf_4cfef_ab0 l D cy st _ x1 x2 r7 hc12) (va_cwS 4 C.2.2.2.2.2.1 gJ0_indexOf_7cf53_J1_indexOf_4cfef rfl rfl rfl (by decide +kernel) ⟨(Nat.le_of_ble_eq_true rfl), (Nat.le_of_ble_eq_true rfl)⟩) rfl hl.1 rfl (Nat.le_of_ble_eq_true rfl) dJ0_indexOf_7cf53_17 ⟨Nat.zero_le _, Nat.zero_le _⟩ (fun H locs hP hS => ?_)
    refine lv_goto (tgt := 36) C.1 C.2.1 dJ0_indexOf_7cf53_20 (by decide) ?_
    cases h
    exact rt_i C hP hS dJ0_indexOf_7cf53_36
theorem metJ0_indexOf_7cf53_s0 (l : Launch) (D : va_G) (cy : Nat → ClassId) (st : Nat → Nat) (sz : Nat) (x1 : Int32) (x2 : Int32) {r : Int32} (h : fJ0_indexOf_7cf53_s0 x1 x2 = some r) : Met l yJ0_indexOf_7cf53 wsJ0_indexOf_7cf53 rmJ0_indexOf_7cf53_s0 (va_Pc [.ref (st 0), .int x1, .int x2] (Px D [(cy 0, .int), (cy 1, .long), (cy 2, .boolean), (cy 3, .byte), (cy 4, .object "HissHorn$Text")] st V0 sz u00)) (Qi D V0 A0 sz r u00) 0 0 (Ax A0 sz) := by
  refine Met.ofW (cc := cJ0_indexOf_7cf53) (maxL := 3) (ret := (some .int)) (by decide) rfl ?_
  intro p e s m args below meth c s₁ B hml hv
  obtain ⟨rfl, hsz, hP, hK⟩ := hv
  subst hsz
  have C : Cx RJ0 cJ0_indexOf_7cf53 3 (some .int) wsJ0_indexOf_7cf53 p s m _ meth c := ⟨B.exec, B.bytes, hml, B.returns, findClass_of_methodNamed B.named, atoms_spec (ws := wsJ0_indexOf_7cf53) B.pre, B.notSynchronized⟩
  have hl := lv_entry ([.ref (st 0), .int x1, .int x2]) (n := 3) (Nat.le_of_ble_eq_true rfl)
  rw [lg_entry_eq]
  exact wJ0_indexOf_7cf53_s0 C hK x1 x2 h hP va_S.rf hl

theorem zdJ0_indexOf_0f7a4_0 : (and (and (and (zk cJ0_indexOf_0f7a4 0 (.aload_n 0) 1) (zk cJ0_indexOf_0f7a4 1 (.iload_n 1) 1)) (zk cJ0_indexOf_0f7a4 2 (.iconst 0) 1)) (and (zk cJ0_indexOf_0f7a4 3 (.invokevirtual 633) 3) (zk cJ0_indexOf_0f7a4 6 (.ireturn) 1))) = true := by decide +kernel
theorem dJ0_indexOf_0f7a4_0 : decode cJ0_indexOf_0f7a4 0 = .ok (.aload_n 0, 1) := zk_of (zk_l (zk_l (zk_l zdJ0_indexOf_0f7a4_0)))
theorem dJ0_indexOf_0f7a4_1 : decode cJ0_indexOf_0f7a4 1 = .ok (.iload_n 1, 1) := zk_of (zk_r (zk_l (zk_l zdJ0_indexOf_0f7a4_0)))
theorem dJ0_indexOf_0f7a4_2 : decode cJ0_indexOf_0f7a4 2 = .ok (.iconst 0, 1) := zk_of (zk_r (zk_l zdJ0_indexOf_0f7a4_0))
theorem dJ0_indexOf_0f7a4_3 : decode cJ0_indexOf_0f7a4 3 = .ok (.invokevirtual 633, 3) := zk_of (zk_l (zk_r zdJ0_indexOf_0f7a4_0))
theorem dJ0_indexOf_0f7a4_6 : decode cJ0_indexOf_0f7a4 6 = .ok (.ireturn, 1) := zk_of (zk_r (zk_r zdJ0_indexOf_0f7a4_0))
set_option maxRecDepth 20000 in
theorem ggJ0_indexOf_0f7a4_J0_indexOf_7cf53 : GoodIn wsJ0_indexOf_0f7a4 wsJ0_indexOf_7cf53 := goodIn_r _ [5, 6, 7, 8, 9, 4, 10, 11, 12, 13, 14, 15, 16, 17, 18, 19, 20, 21, 22, 23, 24, 25, 26, 27, 28, 29, 30, 31, 32, 33, 34, 35, 36, 37, 38, 39, 40, 41, 42, 43, 44, 45, 46, 47, 48, 49, 50, 51, 52, 53, 54, 55, 56, 57, 58, 59, 60, 61, 62, 63, 64, 65, 66, 67, 68, 69, 70, 71, 72, 73, 74, 75, 76, 77, 78, 79, 80, 81, 82, 83, 84, 85] rfl (by decide +kernel)
set_option maxRecDepth 20000 in
theorem gJ0_indexOf_0f7a4_J0_indexOf_7cf53 : GoodIn wsJ0_indexOf_0f7a4 (wsV RJ0 633 RJ0 yJ0_indexOf_7cf53 wsJ0_indexOf_7cf53) := goodIn_app (goodIn_of _ (by decide +kernel)) ggJ0_indexOf_0f7a4_J0_indexOf_7cf53
/-- java/lang/String.indexOf(I)I of cell s0 -/
def rmJ0_indexOf_0f7a4_s0 : Room := { frames := 3, cells := 0, slots := 0, locals := 70 }
def fJ0_indexOf_0f7a4_s0 (x1 : Int32) : Option Int32 := ((fJ0_indexOf_7cf53_s0 x1 0).bind fun r1 => (some r1))
set_option maxHeartbeats 4000000 in
set_option maxRecDepth 100000 in
theorem wJ0_indexOf_0f7a4_s0 {p : Program} {l : Launch} {e : Env} {s : State} {m : MethodId} {args : Array Value} {below : List Frame} {meth : Method} {c : Code} {D : va_G} {cy : Nat → ClassId} {st : Nat → Nat} (C : Cx RJ0 cJ0_indexOf_0f7a4 2 (some .int) wsJ0_indexOf_0f7a4 p s m args meth c) (hK : Ky D [(cy 0, .int), (cy 1, .long), (cy 2, .boolean), (cy 3, .byte), (cy 4, .object "HissHorn$Text")] st s) (x1 : Int32) {r : Int32} {H : Heap} {locs : List Loc} {ls : Array Slot} (h : fJ0_indexOf_0f7a4_s0 x1 = some r) (hP : va_P D vwCl (V0 u00) H) (hS : va_S (Ax (A0) s.heap.size) s.heap H locs) (hl : lv_has ls 2 [(0, .ref (st 0)), (1, .int x1)]) : W p l e rmJ0_indexOf_0f7a4_s0 s m args below meth c H locs 0 0 (MQ below (Qi D (V0) (A0) s.heap.size r u00) args s 0 0 (Ax (A0) s.heap.size)) (F0 m 0 ls []) := by
  unfold fJ0_indexOf_0f7a4_s0 at h
  refine lv_aload_n C.1 C.2.1 dJ0_indexOf_0f7a4_0 rfl (lv_at hl 0 rfl) ?_
  refine lv_iload_n C.1 C.2.1 dJ0_indexOf_0f7a4_1 rfl (lv_at hl 1 rfl) ?_
  refine lv_iconst (v := 0) C.1 C.2.1 dJ0_indexOf_0f7a4_2 (by decide) ?_
  obtain ⟨r1, hc3, h⟩ := bd_some h
  refine cz_i (kz := 0) (by decide) (As := [.int x1, .int 0]) (rest := []) A0_ge C hK hP hS (metJ0_indexOf_7cf53_s0 l D cy st _ x1 0 hc3) (cwV 2 C.2.2.2.2.2.1 gJ0_indexOf_0f7a4_J0_indexOf_7cf53 rfl rfl rfl (by decide +kernel) ⟨(Nat.le_of_ble_eq_true rfl), (Nat.le_of_ble_eq_true rfl)⟩) rfl hl.1 rfl (Nat.le_of_ble_eq_true rfl) dJ0_indexOf_0f7a4_3 ⟨Nat.zero_le _, Nat.zero_le _⟩ (fun H locs hP hS => ?_)
  cases h
  exact rt_i C hP hS dJ0_indexOf_0f7a4_6
theorem metJ0_indexOf_0f7a4_s0 (l : Launch) (D : va_G) (cy : Nat → ClassId) (st : Nat → Nat) (sz : Nat) (x1 : Int32) {r : Int32} (h : fJ0_indexOf_0f7a4_s0 x1 = some r) : Met l yJ0_indexOf_0f7a4 wsJ0_indexOf_0f7a4 rmJ0_indexOf_0f7a4_s0 (va_Pc [.ref (st 0), .int x1] (Px D [(cy 0, .int), (cy 1, .long), (cy 2, .boolean), (cy 3, .byte), (cy 4, .object "HissHorn$Text")] st V0 sz u00)) (Qi D V0 A0 sz r u00) 0 0 (Ax A0 sz) := by
  refine Met.ofW (cc := cJ0_indexOf_0f7a4) (maxL := 2) (ret := (some .int)) (by decide) rfl ?_
  intro p e s m args below meth c s₁ B hml hv
  obtain ⟨rfl, hsz, hP, hK⟩ := hv
  subst hsz
  have C : Cx RJ0 cJ0_indexOf_0f7a4 2 (some .int) wsJ0_indexOf_0f7a4 p s m _ meth c := ⟨B.exec, B.bytes, hml, B.returns, findClass_of_methodNamed B.named, atoms_spec (ws := wsJ0_indexOf_0f7a4) B.pre, B.notSynchronized⟩
  have hl := lv_entry ([.ref (st 0), .int x1]) (n := 2) (Nat.le_of_ble_eq_true rfl)
  rw [lg_entry_eq]
  exact wJ0_indexOf_0f7a4_s0 C hK x1 h hP va_S.rf hl

/-- java/lang/String.isLatin1()Z of cell s1 -/
def rmJ0_isLatin1_aae02_s1 : Room := { frames := 0, cells := 0, slots := 0, locals := 0 }
theorem mJ0_isLatin1_aae02_s1_0 : Cond.fieldLink RJ0 38 "java/lang/String" "COMPACT_STRINGS" "Z" ∈ wsJ0_isLatin1_aae02 := (List.mem_cons_of_mem _ (List.mem_of_getElem? (i := 0) rfl))
theorem mJ0_isLatin1_aae02_s1_1 : Cond.fieldLink RJ0 15 "java/lang/String" "coder" "B" ∈ wsJ0_isLatin1_aae02 := (List.mem_cons_of_mem _ (List.mem_of_getElem? (i := 1) rfl))
def fJ0_isLatin1_aae02_s1  : Option Int32 := (gd (isB 1) (some 1))
set_option maxHeartbeats 4000000 in
set_option maxRecDepth 100000 in
theorem wJ0_isLatin1_aae02_s1 {p : Program} {l : Launch} {e : Env} {s : State} {m : MethodId} {args : Array Value} {below : List Frame} {meth : Method} {c : Code} {D : va_G} {cy : Nat → ClassId} {st : Nat → Nat} (C : Cx RJ0 cJ0_isLatin1_aae02 1 (some .boolean) wsJ0_isLatin1_aae02 p s m args meth c) (hK : Ky D [(cy 0, .int), (cy 1, .long), (cy 2, .boolean), (cy 3, .byte), (cy 4, .object "HissHorn$Text")] st s)  {r : Int32} {H : Heap} {locs : List Loc} {ls : Array Slot} (h : fJ0_isLatin1_aae02_s1  = some r) (hP : va_P D vwCl (V0 u00) H) (hS : va_S (Ax (A0) s.heap.size) s.heap H locs) (hl : lv_has ls 1 [(0, .ref (st 1))]) : W p l e rmJ0_isLatin1_aae02_s1 s m args below meth c H locs 0 0 (MQ below (Qi D (V0) (A0) s.heap.size r u00) args s 0 0 (Ax (A0) s.heap.size)) (F0 m 0 ls []) := by
  unfold fJ0_isLatin1_aae02_s1 at h
  refine va_gets C.1 C.2.1 hK.2.2.2.2.1 (Zx_S hK.2.2.2 A0_ge hS) C.2.2.2.2.1 (C.2.2.2.2.2.1 _ mJ0_isLatin1_aae02_s1_0) (fun _ h => h) dJ0_isLatin1_aae02_0 ?_
  refine lv_if_eq (tgt := 17) C.1 C.2.1 dJ0_isLatin1_aae02_3 (by decide) (fun c => absurd c (by decide)) (fun _ => ?_)
  refine lv_aload_n C.1 C.2.1 dJ0_isLatin1_aae02_6 rfl (lv_at hl 0 rfl) ?_
  refine vk_getf C.1 C.2.1 (hK.2.2.2.2.2 1 (by decide)).2.1 (Zx_S hK.2.2.2 A0_ge hS) C.2.2.2.2.1 (C.2.2.2.2.2.1 _ mJ0_isLatin1_aae02_s1_1) (fun _ h => h) dJ0_isLatin1_aae02_7 ?_
  refine lv_if_ne (tgt := 17) C.1 C.2.1 dJ0_isLatin1_aae02_10 (by decide) (fun c => absurd c (by decide)) (fun _ => ?_)
  refine lv_iconst (v := 1) C.1 C.2.1 dJ0_isLatin1_aae02_13 (by decide) ?_
  refine lv_goto (tgt := 18) C.1 C.2.1 dJ0_isLatin1_aae02_14 (by decide) ?_
  obtain ⟨hg1, h⟩ := gd_some h
  cases h
  exact rt_z hg1 C hP hS dJ0_isLatin1_aae02_18
theorem metJ0_isLatin1_aae02_s1 (l : Launch) (D : va_G) (cy : Nat → ClassId) (st : Nat → Nat) (sz : Nat)  {r : Int32} (h : fJ0_isLatin1_aae02_s1  = some r) : Met l yJ0_isLatin1_aae02 wsJ0_isLatin1_aae02 rmJ0_isLatin1_aae02_s1 (va_Pc [.ref (st 1)] (Px D [(cy 0, .int), (cy 1, .long), (cy 2, .boolean), (cy 3, .byte), (cy 4, .object "HissHorn$Text")] st V0 sz u00)) (Qi D V0 A0 sz r u00) 0 0 (Ax A0 sz) := by
  refine Met.ofW (cc := cJ0_isLatin1_aae02) (maxL := 1) (ret := (some .boolean)) (by decide) rfl ?_
  intro p e s m args below meth c s₁ B hml hv
  obtain ⟨rfl, hsz, hP, hK⟩ := hv
  subst hsz
  have C : Cx RJ0 cJ0_isLatin1_aae02 1 (some .boolean) wsJ0_isLatin1_aae02 p s m _ meth c := ⟨B.exec, B.bytes, hml, B.returns, findClass_of_methodNamed B.named, atoms_spec (ws := wsJ0_isLatin1_aae02) B.pre, B.notSynchronized⟩
  have hl := lv_entry ([.ref (st 1)]) (n := 1) (Nat.le_of_ble_eq_true rfl)
  rw [lg_entry_eq]
  exact wJ0_isLatin1_aae02_s1 C hK h hP va_S.rf hl

/-- java/lang/String.coder()B of cell s1 -/
def rmJ0_coder_7d493_s1 : Room := { frames := 0, cells := 0, slots := 0, locals := 0 }
theorem mJ0_coder_7d493_s1_0 : Cond.fieldLink RJ0 38 "java/lang/String" "COMPACT_STRINGS" "Z" ∈ wsJ0_coder_7d493 := (List.mem_cons_of_mem _ (List.mem_of_getElem? (i := 0) rfl))
theorem mJ0_coder_7d493_s1_1 : Cond.fieldLink RJ0 15 "java/lang/String" "coder" "B" ∈ wsJ0_coder_7d493 := (List.mem_cons_of_mem _ (List.mem_of_getElem? (i := 1) rfl))
def fJ0_coder_7d493_s1  : Option Int32 := (some 0)
set_option maxHeartbeats 4000000 in
set_option maxRecDepth 100000 in
theorem wJ0_coder_7d493_s1 {p : Program} {l : Launch} {e : Env} {s : State} {m : MethodId} {args : Array Value} {below : List Frame} {meth : Method} {c : Code} {D : va_G} {cy : Nat → ClassId} {st : Nat → Nat} (C : Cx RJ0 cJ0_coder_7d493 1 (some .byte) wsJ0_coder_7d493 p s m args meth c) (hK : Ky D [(cy 0, .int), (cy 1, .long), (cy 2, .boolean), (cy 3, .byte), (cy 4, .object "HissHorn$Text")] st s)  {r : Int32} {H : Heap} {locs : List Loc} {ls : Array Slot} (h : fJ0_coder_7d493_s1  = some r) (hP : va_P D vwCl (V0 u00) H) (hS : va_S (Ax (A0) s.heap.size) s.heap H locs) (hl : lv_has ls 1 [(0, .ref (st 1))]) : W p l e rmJ0_coder_7d493_s1 s m args below meth c H locs 0 0 (MQ below (Qi D (V0) (A0) s.heap.size r u00) args s 0 0 (Ax (A0) s.heap.size)) (F0 m 0 ls []) := by
  unfold fJ0_coder_7d493_s1 at h
  refine va_gets C.1 C.2.1 hK.2.2.2.2.1 (Zx_S hK.2.2.2 A0_ge hS) C.2.2.2.2.1 (C.2.2.2.2.2.1 _ mJ0_coder_7d493_s1_0) (fun _ h => h) dJ0_coder_7d493_0 ?_
  refine lv_if_eq (tgt := 13) C.1 C.2.1 dJ0_coder_7d493_3 (by decide) (fun c => absurd c (by decide)) (fun _ => ?_)
  refine lv_aload_n C.1 C.2.1 dJ0_coder_7d493_6 rfl (lv_at hl 0 rfl) ?_
  refine vk_getf C.1 C.2.1 (hK.2.2.2.2.2 1 (by decide)).2.1 (Zx_S hK.2.2.2 A0_ge hS) C.2.2.2.2.1 (C.2.2.2.2.2.1 _ mJ0_coder_7d493_s1_1) (fun _ h => h) dJ0_coder_7d493_7 ?_
  refine lv_goto (tgt := 14) C.1 C.2.1 dJ0_coder_7d493_10 (by decide) ?_
  cases h
  exact rt_b rfl C hP hS dJ0_coder_7d493_14
theorem metJ0_coder_7d493_s1 (l : Launch) (D : va_G) (cy : Nat → ClassId) (st : Nat → Nat) (sz : Nat)  {r : Int32} (h : fJ0_coder_7d493_s1  = some r) : Met l yJ0_coder_7d493 wsJ0_coder_7d493 rmJ0_coder_7d493_s1 (va_Pc [.ref (st 1)] (Px D [(cy 0, .int), (cy 1, .long), (cy 2, .boolean), (cy 3, .byte), (cy 4, .object "HissHorn$Text")] st V0 sz u00)) (Qi D V0 A0 sz r u00) 0 0 (Ax A0 sz) := by
  refine Met.ofW (cc := cJ0_coder_7d493) (maxL := 1) (ret := (some .byte)) (by decide) rfl ?_
  intro p e s m args below meth c s₁ B hml hv
  obtain ⟨rfl, hsz, hP, hK⟩ := hv
  subst hsz
  have C : Cx RJ0 cJ0_coder_7d493 1 (some .byte) wsJ0_coder_7d493 p s m _ meth c := ⟨B.exec, B.bytes, hml, B.returns, findClass_of_methodNamed B.named, atoms_spec (ws := wsJ0_coder_7d493) B.pre, B.notSynchronized⟩
  have hl := lv_entry ([.ref (st 1)]) (n := 1) (Nat.le_of_ble_eq_true rfl)
  rw [lg_entry_eq]
  exact wJ0_coder_7d493_s1 C hK h hP va_S.rf hl

/-- java/lang/String.length()I of cell s1 -/
def rmJ0_length_8abf5_s1 : Room := { frames := 1, cells := 0, slots := 0, locals := 20 }
theorem mJ0_length_8abf5_s1_0 : Cond.fieldLink RJ0 9 "java/lang/String" "value" "[B" ∈ wsJ0_length_8abf5 := (List.mem_cons_of_mem _ (List.mem_of_getElem? (i := 0) rfl))
def fJ0_length_8abf5_s1  : Option Int32 := ((fJ0_coder_7d493_s1 ).bind fun r1 => (some (2 >>> (r1 &&& 31))))
set_option maxHeartbeats 4000000 in
set_option maxRecDepth 100000 in
theorem wJ0_length_8abf5_s1 {p : Program} {l : Launch} {e : Env} {s : State} {m : MethodId} {args : Array Value} {below : List Frame} {meth : Method} {c : Code} {D : va_G} {cy : Nat → ClassId} {st : Nat → Nat} (C : Cx RJ0 cJ0_length_8abf5 1 (some .int) wsJ0_length_8abf5 p s m args meth c) (hK : Ky D [(cy 0, .int), (cy 1, .long), (cy 2, .boolean), (cy 3, .byte), (cy 4, .object "HissHorn$Text")] st s)  {r : Int32} {H : Heap} {locs : List Loc} {ls : Array Slot} (h : fJ0_length_8abf5_s1  = some r) (hP : va_P D vwCl (V0 u00) H) (hS : va_S (Ax (A0) s.heap.size) s.heap H locs) (hl : lv_has ls 1 [(0, .ref (st 1))]) : W p l e rmJ0_length_8abf5_s1 s m args below meth c H locs 0 0 (MQ below (Qi D (V0) (A0) s.heap.size r u00) args s 0 0 (Ax (A0) s.heap.size)) (F0 m 0 ls []) := by
  unfold fJ0_length_8abf5_s1 at h
  refine lv_aload_n C.1 C.2.1 dJ0_length_8abf5_0 rfl (lv_at hl 0 rfl) ?_
  refine vk_getf C.1 C.2.1 (hK.2.2.2.2.2 1 (by decide)).2.2.1 (Zx_S hK.2.2.2 A0_ge hS) C.2.2.2.2.1 (C.2.2.2.2.2.1 _ mJ0_length_8abf5_s1_0) (fun _ h => h) dJ0_length_8abf5_1 ?_
  refine va_tlen (v := 2) C.1 C.2.1 (hK.2.2.2.2.2 1 (by decide)).2.2.2 (Zx_S hK.2.2.2 A0_ge hS) rfl dJ0_length_8abf5_4 ?_
  refine lv_aload_n C.1 C.2.1 dJ0_length_8abf5_5 rfl (lv_at hl 0 rfl) ?_
  obtain ⟨r1, hc3, h⟩ := bd_some h
  refine cz_i (kz := 1) (by decide) (As := []) (rest := [.int 2]) A0_ge C hK hP hS (metJ0_coder_7d493_s1 l D cy st _  hc3) (cwV 0 C.2.2.2.2.2.1 gJ0_length_8abf5_J0_coder_7d493 rfl rfl rfl (by decide +kernel) ⟨(Nat.le_of_ble_eq_true rfl), (Nat.le_of_ble_eq_true rfl)⟩) rfl hl.1 rfl (Nat.le_of_ble_eq_true rfl) dJ0_length_8abf5_6 ⟨Nat.zero_le _, Nat.zero_le _⟩ (fun H locs hP hS => ?_)
  refine lv_ishr C.1 C.2.1 dJ0_length_8abf5_9 ?_
  cases h
  exact rt_i C hP hS dJ0_length_8abf5_10
theorem metJ0_length_8abf5_s1 (l : Launch) (D : va_G) (cy : Nat → ClassId) (st : Nat → Nat) (sz : Nat)  {r : Int32} (h : fJ0_length_8abf5_s1  = some r) : Met l yJ0_length_8abf5 wsJ0_length_8abf5 rmJ0_length_8abf5_s1 (va_Pc [.ref (st 1)] (Px D [(cy 0, .int), (cy 1, .long), (cy 2, .boolean), (cy 3, .byte), (cy 4, .object "HissHorn$Text")] st V0 sz u00)) (Qi D V0 A0 sz r u00) 0 0 (Ax A0 sz) := by
  refine Met.ofW (cc := cJ0_length_8abf5) (maxL := 1) (ret := (some .int)) (by decide) rfl ?_
  intro p e s m args below meth c s₁ B hml hv
  obtain ⟨rfl, hsz, hP, hK⟩ := hv
  subst hsz
  have C : Cx RJ0 cJ0_length_8abf5 1 (some .int) wsJ0_length_8abf5 p s m _ meth c := ⟨B.exec, B.bytes, hml, B.returns, findClass_of_methodNamed B.named, atoms_spec (ws := wsJ0_length_8abf5) B.pre, B.notSynchronized⟩
  have hl := lv_entry ([.ref (st 1)]) (n := 1) (Nat.le_of_ble_eq_true rfl)
  rw [lg_entry_eq]
  exact wJ0_length_8abf5_s1 C hK h hP va_S.rf hl

/-- java/lang/StringLatin1.indexOfChar([BIII)I -/
def rmJ1_indexOfChar_4cfef_ab1 : Room := { frames := 0, cells := 0, slots := 0, locals := 0 }
def LJ1_indexOfChar_4cfef_ab1_7  : Nat → Int32 → Int32 → Int32 → Option Int32
  | 0, _, _, _ => none
  | n + 1, z3, z4, z5 => (if z3 ≤ z5 then (some (-1)) else (gd (inb z5 2) (if (zB 1 z5.toNatClampNeg) = z4 then (some z5) else ((LJ1_indexOfChar_4cfef_ab1_7 n) z3 z4 (z5 + 1)))))
def fJ1_indexOfChar_4cfef_ab1 (x1 : Int32) (x2 : Int32) (x3 : Int32) : Option Int32 := (lt (x1.toInt8.toInt32) fun v1 => (LJ1_indexOfChar_4cfef_ab1_7  5000 x3 v1 x2))
set_option maxHeartbeats 4000000 in
set_option maxRecDepth 100000 in
theorem wLJ1_indexOfChar_4cfef_ab1_7 {p : Program} {l : Launch} {e : Env} {s : State} {m : MethodId} {args : Array Value} {below : List Frame} {meth : Method} {c : Code} {D : va_G} {cy : Nat → ClassId} {st : Nat → Nat} (C : Cx RJ1 cJ1_indexOfChar_4cfef 6 (some .int) wsJ1_indexOfChar_4cfef p s m args meth c) (hK : Ky D [(cy 0, .int), (cy 1, .long), (cy 2, .boolean), (cy 3, .byte), (cy 4, .object "HissHorn$Text")] st s) {r : Int32}   : ∀ (n : Nat) (z3 : Int32) (z4 : Int32) (z5 : Int32) (H : Heap) (locs : List Loc) (ls : Array Slot), LJ1_indexOfChar_4cfef_ab1_7  n z3 z4 z5 = some r → va_P D vwCl (V0 u00) H → va_S (Ax (A0) s.heap.size) s.heap H locs → lv_has ls 6 [(0, .ref (st 11)), (3, .int z3), (4, .int z4), (5, .int z5)] → W p l e rmJ1_indexOfChar_4cfef_ab1 s m args below meth c H locs 0 0 (MQ below (Qi D (V0) (A0) s.heap.size r u00) args s 0 0 (Ax (A0) s.heap.size)) (F0 m 7 ls []) := by
  intro n
  induction n with
  | zero =>
    intro z3 z4 z5 H locs ls h
    exact absurd h (by intro q; cases q)
  | succ n ih =>
    intro z3 z4 z5 H locs ls h hP hS hl
    rw [LJ1_indexOfChar_4cfef_ab1_7] at h
    refine lv_iload C.1 C.2.1 dJ1_indexOfChar_4cfef_7 (lv_at hl 3 rfl) ?_
    refine lv_iload_n C.1 C.2.1 dJ1_indexOfChar_4cfef_9 rfl (lv_at hl 1 rfl) ?_
    refine lv_icmp_ge (tgt := 31) C.1 C.2.1 dJ1_indexOfChar_4cfef_10 (by decide) (fun c10 => ?_) (fun c10 => ?_)
    · rw [if_pos c10] at h
      refine lv_iconst (v := (-1)) C.1 C.2.1 dJ1_indexOfChar_4cfef_31 (by decide) ?_
      cases h
      exact rt_i C hP hS dJ1_indexOfChar_4cfef_32
    · rw [if_neg c10] at h
      refine lv_aload_n C.1 C.2.1 dJ1_indexOfChar_4cfef_13 rfl (lv_at hl 0 rfl) ?_
      refine lv_iload C.1 C.2.1 dJ1_indexOfChar_4cfef_14 (lv_at hl 3 rfl) ?_
      obtain ⟨hg3, h⟩ := gd_some h
      refine va_tb (v := .int (zB 1 z5.toNatClampNeg)) C.1 C.2.1 (hK.2.2.2.2.2 1 (by decide)).2.2.2 (Zx_S hK.2.2.2 A0_ge hS) (inb_in hg3) rfl dJ1_indexOfChar_4cfef_16 ?_
      refine lv_iload C.1 C.2.1 dJ1_indexOfChar_4cfef_17 (lv_at hl 2 rfl) ?_
      refine lv_icmp_ne (tgt := 25) C.1 C.2.1 dJ1_indexOfChar_4cfef_19 (by decide) (fun c19 => ?_) (fun c19 => ?_)
      · rw [if_neg c19] at h
        refine lv_iinc (v := z5 + 1) (lv' := [(5, .int (z5 + 1)), (0, .ref (st 11)), (3, .int z3), (4, .int z4)]) C.1 C.2.1 dJ1_indexOfChar_4cfef_25 hl (k := 3) rfl rfl (by decide) rfl (fun ls hl => ?_)
        replace hl := lv_sub (l' := [(0, .ref (st 11)), (3, .int z3), (4, .int z4), (5, .int (z5 + 1))]) hl [1, 2, 3, 0] rfl
        refine lv_goto (tgt := 7) C.1 C.2.1 dJ1_indexOfChar_4cfef_28 (by decide) ?_
        exact ih _ _ _ _ _ _ h hP hS hl
      · rw [if_pos c19] at h
        refine lv_iload C.1 C.2.1 dJ1_indexOfChar_4cfef_22 (lv_at hl 3 rfl) ?_
        cases h
        exact rt_i C hP hS dJ1_indexOfChar_4cfef_24
set_option maxHeartbeats 4000000 in
set_option maxRecDepth 100000 in
theorem wJ1_indexOfChar_4cfef_ab1 {p : Program} {l : Launch} {e : Env} {s : State} {m : MethodId} {args : Array Value} {below : List Frame} {meth : Method} {c : Code} {D : va_G} {cy : Nat → ClassId} {st : Nat → Nat} (C : Cx RJ1 cJ1_indexOfChar_4cfef 6 (some .int) wsJ1_indexOfChar_4cfef p s m args meth c) (hK : Ky D [(cy 0, .int), (cy 1, .long), (cy 2, .boolean), (cy 3, .byte), (cy 4, .object "HissHorn$Text")] st s) (x1 : Int32) (x2 : Int32) (x3 : Int32) {r : Int32} {H : Heap} {locs : List Loc} {ls : Array Slot} (h : fJ1_indexOfChar_4cfef_ab1 x1 x2 x3 = some r) (hP : va_P D vwCl (V0 u00) H) (hS : va_S (Ax (A0) s.heap.size) s.heap H locs) (hl : lv_has ls 6 [(0, .ref (st 11)), (1, .int x1), (2, .int x2), (3, .int x3)]) : W p l e rmJ1_indexOfChar_4cfef_ab1 s m args below meth c H locs 0 0 (MQ below (Qi D (V0) (A0) s.heap.size r u00) args s 0 0 (Ax (A0) s.heap.size)) (F0 m 0 ls []) := by
  unfold fJ1_indexOfChar_4cfef_ab1 at h
  refine lv_iload_n C.1 C.2.1 dJ1_indexOfChar_4cfef_0 rfl (lv_at hl 1 rfl) ?_
  refine lv_i2b (v := x1.toInt8.toInt32) C.1 C.2.1 dJ1_indexOfChar_4cfef_1 rfl ?_
  refine lv_topi (fun v1 hv2 => ?_)
  replace h := lt_e hv2 h
  try dsimp only at h
  refine lv_istore (lv' := [(4, .int v1), (0, .ref (st 11)), (1, .int x1), (2, .int x2), (3, .int x3)]) C.1 C.2.1 dJ1_indexOfChar_4cfef_2 hl (by decide) rfl (fun ls hl => ?_)
  replace hl := lv_sub (l' := [(0, .ref (st 11)), (1, .int x1), (2, .int x2), (3, .int x3), (4, .int v1)]) hl [1, 2, 3, 4, 0] rfl
  refine lv_iload_n C.1 C.2.1 dJ1_indexOfChar_4cfef_4 rfl (lv_at hl 2 rfl) ?_
  refine lv_istore (lv' := [(5, .int x2), (0, .ref (st 11)), (1, .int x1), (2, .int x2), (3, .int x3), (4, .int v1)]) C.1 C.2.1 dJ1_indexOfChar_4cfef_5 hl (by decide) rfl (fun ls hl => ?_)
  replace hl := lv_sub (l' := [(0, .ref (st 11)), (1, .int x1), (2, .int x2), (3, .int x3), (4, .int v1), (5, .int x2)]) hl [1, 2, 3, 4, 5, 0] rfl
  exact wLJ1_indexOfChar_4cfef_ab1_7 C hK  5000 _ _ _ _ _ _ h hP hS (lv_sub hl [0, 3, 4, 5] rfl)
theorem metJ1_indexOfChar_4cfef_ab1 (l : Launch) (D : va_G) (cy : Nat → ClassId) (st : Nat → Nat) (sz : Nat) (x1 : Int32) (x2 : Int32) (x3 : Int32) {r : Int32} (h : fJ1_indexOfChar_4cfef_ab1 x1 x2 x3 = some r) : Met l yJ1_indexOfChar_4cfef wsJ1_indexOfChar_4cfef rmJ1_indexOfChar_4cfef_ab1 (va_Pc [.ref (st 11), .int x1, .int x2, .int x3] (Px D [(cy 0, .int), (cy 1, .long), (cy 2, .boolean), (cy 3, .byte), (cy 4, .object "HissHorn$Text")] st V0 sz u00)) (Qi D V0 A0 sz r u00) 0 0 (Ax A0 sz) := by
  refine Met.ofW (cc := cJ1_indexOfChar_4cfef) (maxL := 6) (ret := (some .int)) (by decide) rfl ?_
  intro p e s m args below meth c s₁ B hml hv
  obtain ⟨rfl, hsz, hP, hK⟩ := hv
  subst hsz
  have C : Cx RJ1 cJ1_indexOfChar_4cfef 6 (some .int) wsJ1_indexOfChar_4cfef p s m _ meth c := ⟨B.exec, B.bytes, hml, B.returns, findClass_of_methodNamed B.named, atoms_spec (ws := wsJ1_indexOfChar_4cfef) B.pre, B.notSynchronized⟩
  have hl := lv_entry ([.ref (st 11), .int x1, .int x2, .int x3]) (n := 6) (Nat.le_of_ble_eq_true rfl)
  rw [lg_entry_eq]
  exact wJ1_indexOfChar_4cfef_ab1 C hK x1 x2 x3 h hP va_S.rf hl

/-- java/lang/StringLatin1.indexOf([BIII)I -/
def rmJ1_indexOf_4cfef_ab1 : Room := { frames := 1, cells := 0, slots := 0, locals := 25 }
theorem mJ1_indexOf_4cfef_ab1_0 : Cond.methodLink RJ1 92 Lib.Math.max.name ∈ wsJ1_indexOf_4cfef := (List.mem_cons_of_mem _ (List.mem_of_getElem? (i := 0) rfl))
theorem mJ1_indexOf_4cfef_ab1_1 : Cond.static Lib.Math.max.name ∈ wsJ1_indexOf_4cfef := (List.mem_cons_of_mem _ (List.mem_of_getElem? (i := 1) rfl))
theorem mJ1_indexOf_4cfef_ab1_2 : Cond.initialized "java/lang/Math" ∈ wsJ1_indexOf_4cfef := (List.mem_cons_of_mem _ (List.mem_of_getElem? (i := 2) rfl))
theorem mJ1_indexOf_4cfef_ab1_3 : Cond.code Lib.Math.max.name Lib.Math.max.code 2 (some .int) ∈ wsJ1_indexOf_4cfef := (List.mem_cons_of_mem _ (List.mem_of_getElem? (i := 3) rfl))
theorem mJ1_indexOf_4cfef_ab1_4 : Cond.methodLink RJ1 38 Lib.Math.min.name ∈ wsJ1_indexOf_4cfef := (List.mem_cons_of_mem _ (List.mem_of_getElem? (i := 4) rfl))
theorem mJ1_indexOf_4cfef_ab1_5 : Cond.static Lib.Math.min.name ∈ wsJ1_indexOf_4cfef := (List.mem_cons_of_mem _ (List.mem_of_getElem? (i := 5) rfl))
theorem mJ1_indexOf_4cfef_ab1_6 : Cond.code Lib.Math.min.name Lib.Math.min.code 2 (some .int) ∈ wsJ1_indexOf_4cfef := (List.mem_cons_of_mem _ (List.mem_of_getElem? (i := 6) rfl))
def fJ1_indexOf_4cfef_ab1 (x1 : Int32) (x2 : Int32) (x3 : Int32) : Option Int32 := ((fJ1_canEncode_9a6ad x1).bind fun r1 => (if r1 = 0 then (some (-1)) else (lt (if x2 < 0 then 0 else x2) fun v4 => (lt (if 2 < x3 then 2 else x3) fun v6 => (if v4 < v6 then ((fJ1_indexOfChar_4cfef_ab1 x1 v4 v6).bind fun r8 => (some r8)) else (some (-1)))))))
set_option maxHeartbeats 4000000 in
set_option maxRecDepth 100000 in
theorem wJ1_indexOf_4cfef_ab1 {p : Program} {l : Launch} {e : Env} {s : State} {m : MethodId} {args : Array Value} {below : List Frame} {meth : Method} {c : Code} {D : va_G} {cy : Nat → ClassId} {st : Nat → Nat} (C : Cx RJ1 cJ1_indexOf_4cfef 4 (some .int) wsJ1_indexOf_4cfef p s m args meth c) (hK : Ky D [(cy 0, .int), (cy 1, .long), (cy 2, .boolean), (cy 3, .byte), (cy 4, .object "HissHorn$Text")] st s) (x1 : Int32) (x2 : Int32) (x3 : Int32) {r : Int32} {H : Heap} {locs : List Loc} {ls : Array Slot} (h : fJ1_indexOf_4cfef_ab1 x1 x2 x3 = some r) (hP : va_P D vwCl (V0 u00) H) (hS : va_S (Ax (A0) s.heap.size) s.heap H locs) (hl : lv_has ls 4 [(0, .ref (st 11)), (1, .int x1), (2, .int x2), (3, .int x3)]) : W p l e rmJ1_indexOf_4cfef_ab1 s m args below meth c H locs 0 0 (MQ below (Qi D (V0) (A0) s.heap.size r u00) args s 0 0 (Ax (A0) s.heap.size)) (F0 m 0 ls []) := by
  unfold fJ1_indexOf_4cfef_ab1 at h
  refine lv_iload_n C.1 C.2.1 dJ1_indexOf_4cfef_0 rfl (lv_at hl 1 rfl) ?_
  obtain ⟨r1, hc3, h⟩ := bd_some h
  refine cs_i (As := [.int x1]) (rest := []) A0_ge C hK hP hS (metJ1_canEncode_9a6ad l D cy st _ x1 hc3) (va_cwS 1 C.2.2.2.2.2.1 gJ1_indexOf_4cfef_J1_canEncode_9a6ad rfl rfl rfl (by decide +kernel) ⟨(Nat.le_of_ble_eq_true rfl), (Nat.le_of_ble_eq_true rfl)⟩) rfl hl.1 rfl (Nat.le_of_ble_eq_true rfl) dJ1_indexOf_4cfef_1 ⟨Nat.zero_le _, Nat.zero_le _⟩ (fun H locs hP hS => ?_)
  refine lv_if_ne (tgt := 9) C.1 C.2.1 dJ1_indexOf_4cfef_4 (by decide) (fun c4 => ?_) (fun c4 => ?_)
  · rw [if_neg c4] at h
    refine lv_iload_n C.1 C.2.1 dJ1_indexOf_4cfef_9 rfl (lv_at hl 2 rfl) ?_
    refine lv_iconst (v := 0) C.1 C.2.1 dJ1_indexOf_4cfef_10 (by decide) ?_
    refine va_mmax C.1 C.2.1 (C.2.2.1.trans hl.1.symm) C.2.2.2.2.1 (C.2.2.2.2.2.1 _ mJ1_indexOf_4cfef_ab1_0) (C.2.2.2.2.2.1 _ mJ1_indexOf_4cfef_ab1_1) (C.2.2.2.2.2.1 _ mJ1_indexOf_4cfef_ab1_2) (C.2.2.2.2.2.1 _ mJ1_indexOf_4cfef_ab1_3) (Nat.le_of_ble_eq_true rfl) (Nat.le_of_ble_eq_true rfl) (Nat.zero_le _) (Nat.zero_le _) dJ1_indexOf_4cfef_11 ?_
    refine lv_topi (fun v4 hv5 => ?_)
    replace h := lt_e hv5 h
    try dsimp only at h
    refine lv_istore_n (lv' := [(2, .int v4), (0, .ref (st 11)), (1, .int x1), (3, .int x3)]) C.1 C.2.1 dJ1_indexOf_4cfef_14 rfl hl (by decide) rfl (fun ls hl => ?_)
    replace hl := lv_sub (l' := [(0, .ref (st 11)), (1, .int x1), (2, .int v4), (3, .int x3)]) hl [1, 2, 0, 3] rfl
    refine lv_iload_n C.1 C.2.1 dJ1_indexOf_4cfef_15 rfl (lv_at hl 3 rfl) ?_
    refine lv_aload_n C.1 C.2.1 dJ1_indexOf_4cfef_16 rfl (lv_at hl 0 rfl) ?_
    refine va_tlen (v := 2) C.1 C.2.1 (hK.2.2.2.2.2 1 (by decide)).2.2.2 (Zx_S hK.2.2.2 A0_ge hS) rfl dJ1_indexOf_4cfef_17 ?_
    refine va_mmin C.1 C.2.1 (C.2.2.1.trans hl.1.symm) C.2.2.2.2.1 (C.2.2.2.2.2.1 _ mJ1_indexOf_4cfef_ab1_4) (C.2.2.2.2.2.1 _ mJ1_indexOf_4cfef_ab1_5) (C.2.2.2.2.2.1 _ mJ1_indexOf_4cfef_ab1_2) (C.2.2.2.2.2.1 _ mJ1_indexOf_4cfef_ab1_6) (Nat.le_of_ble_eq_true rfl) (Nat.le_of_ble_eq_true rfl) (Nat.zero_le _) (Nat.zero_le _) dJ1_indexOf_4cfef_18 ?_
    refine lv_topi (fun v6 hv7 => ?_)
    replace h := lt_e hv7 h
    try dsimp only at h
    refine lv_istore_n (lv' := [(3, .int v6), (0, .ref (st 11)), (1, .int x1), (2, .int v4)]) C.1 C.2.1 dJ1_indexOf_4cfef_21 rfl hl (by decide) rfl (fun ls hl => ?_)
    replace hl := lv_sub (l' := [(0, .ref (st 11)), (1, .int x1), (2, .int v4), (3, .int v6)]) hl [1, 2, 3, 0] rfl
    refine lv_iload_n C.1 C.2.1 dJ1_indexOf_4cfef_22 rfl (lv_at hl 2 rfl) ?_
    refine lv_iload_n C.1 C.2.1 dJ1_indexOf_4cfef_23 rfl (lv_at hl 3 rfl) ?_
    refine lv_icmp_lt (tgt := 29) C.1 C.2.1 dJ1_indexOf_4cfef_24 (by decide) (fun c24 => ?_) (fun c24 => ?_)
    · rw [if_pos c24] at h
      refine lv_aload_n C.1 C.2.1 dJ1_indexOf_4cfef_29 rfl (lv_at hl 0 rfl) ?_
      refine lv_iload_n C.1 C.2.1 dJ1_indexOf_4cfef_30 rfl (lv_at hl 1 rfl) ?_
      refine lv_iload_n C.1 C.2.1 dJ1_indexOf_4cfef_31 rfl (lv_at hl 2 rfl) ?_
      refine lv_iload_n C.1 C.2.1 dJ1_indexOf_4cfef_32 rfl (lv_at hl 3 rfl) ?_
      obtain ⟨r8, hc10, h⟩ := bd_some h
      refine cs_i (As := [.ref (st 11), .int x1, .int v4, .int v6]) (rest := []) A0_ge C hK hP hS (metJ1_indexOfChar_4cfef_ab1 l D cy st _ x1 v4 v6 hc10) (va_cwS 4 C.2.2.2.2.2.1 gJ1_indexOf_4cfef_J1_indexOfChar_4cfef rfl rfl rfl (by decide +kernel) ⟨(Nat.le_of_ble_eq_true rfl), (Nat.le_of_ble_eq_true rfl)⟩) rfl hl.1 rfl (Nat.le_of_ble_eq_true rfl) dJ1_indexOf_4cfef_33 ⟨Nat.zero_le _, Nat.zero_le _⟩ (fun H locs hP hS => ?_)
      cases h
      exact rt_i C hP hS dJ1_indexOf_4cfef_36
    · rw [if_neg c24] at h
      refine lv_iconst (v := (-1)) C.1 C.2.1 dJ1_indexOf_4cfef_27 (by decide) ?_
      cases h
      exact rt_i C hP hS dJ1_indexOf_4cfef_28
  · rw [if_pos c4] at h
    refine lv_iconst (v := (-1)) C.1 C.2.1 dJ1_indexOf_4cfef_7 (by decide) ?_
    cases h
    exact rt_i C hP hS dJ1_indexOf_4cfef_8
theorem metJ1_indexOf_4cfef_ab1 (l : Launch) (D : va_G) (cy : Nat → ClassId) (st : Nat → Nat) (sz : Nat) (x1 : Int32) (x2 : Int32) (x3 : Int32) {r : Int32} (h : fJ1_indexOf_4cfef_ab1 x1 x2 x3 = some r) : Met l yJ1_indexOf_4cfef wsJ1_indexOf_4cfef rmJ1_indexOf_4cfef_ab1 (va_Pc [.ref (st 11), .int x1, .int x2, .int x3] (Px D [(cy 0, .int), (cy 1, .long), (cy 2, .boolean), (cy 3, .byte), (cy 4, .object "HissHorn$Text")] st V0 sz u00)) (Qi D V0 A0 sz r u00) 0 0 (Ax A0 sz) := by
  refine Met.ofW (cc := cJ1_indexOf_4cfef) (maxL := 4) (ret := (some .int)) (by decide) rfl ?_
  intro p e s m args below meth c s₁ B hml hv
  obtain ⟨rfl, hsz, hP, hK⟩ := hv
  subst hsz
  have C : Cx RJ1 cJ1_indexOf_4cfef 4 (some .int) wsJ1_indexOf_4cfef p s m _ meth c := ⟨B.exec, B.bytes, hml, B.returns, findClass_of_methodNamed B.named, atoms_spec (ws := wsJ1_indexOf_4cfef) B.pre, B.notSynchronized⟩
  have hl := lv_entry ([.ref (st 11), .int x1, .int x2, .int x3]) (n := 4) (Nat.le_of_ble_eq_true rfl)
  rw [lg_entry_eq]
  exact wJ1_indexOf_4cfef_ab1 C hK x1 x2 x3 h hP va_S.rf hl

/-- java/lang/String.indexOf(II)I of cell s1 -/
def rmJ0_indexOf_7cf53_s1 : Room := { frames := 2, cells := 0, slots := 0, locals := 48 }
theorem mJ0_indexOf_7cf53_s1_0 : Cond.fieldLink RJ0 9 "java/lang/String" "value" "[B" ∈ wsJ0_indexOf_7cf53 := (List.mem_cons_of_mem _ (List.mem_append_left _ (List.mem_of_getElem? (i := 0) rfl)))
def fJ0_indexOf_7cf53_s1 (x1 : Int32) (x2 : Int32) : Option Int32 := ((fJ0_isLatin1_aae02_s1 ).bind fun r1 => (if r1 = 0 then ((fJ0_length_8abf5_s1 ).bind fun r4 => none) else ((fJ0_length_8abf5_s1 ).bind fun r7 => ((fJ1_indexOf_4cfef_ab1 x1 x2 r7).bind fun r10 => (some r10)))))
set_option maxHeartbeats 4000000 in
set_option maxRecDepth 100000 in
theorem wJ0_indexOf_7cf53_s1 {p : Program} {l : Launch} {e : Env} {s : State} {m : MethodId} {args : Array Value} {below : List Frame} {meth : Method} {c : Code} {D : va_G} {cy : Nat → ClassId} {st : Nat → Nat} (C : Cx RJ0 cJ0_indexOf_7cf53 3 (some .int) wsJ0_indexOf_7cf53 p s m args meth c) (hK : Ky D [(cy 0, .int), (cy 1, .long), (cy 2, .boolean), (cy 3, .byte), (cy 4, .object "HissHorn$Text")] st s) (x1 : Int32) (x2 : Int32) {r : Int32} {H : Heap} {locs : List Loc} {ls : Array Slot} (h : fJ0_indexOf_7cf53_s1 x1 x2 = some r) (hP : va_P D vwCl (V0 u00) H) (hS : va_S (Ax (A0) s.heap.size) s.heap H locs) (hl : lv_has ls 3 [(0, .ref (st 1)), (1, .int x1), (2, .int x2)]) : W p l e rmJ0_indexOf_7cf53_s1 s m args below meth c H locs 0 0 (MQ below (Qi D (V0) (A0) s.heap.size r u00) args s 0 0 (Ax (A0) s.heap.size)) (F0 m 0 ls []) := by
  unfold fJ0_indexOf_7cf53_s1 at h
  refine lv_aload_n C.1 C.2.1 dJ0_indexOf_7cf53_0 rfl (lv_at hl 0 rfl) ?_
  obtain ⟨r1, hc3, h⟩ := bd_some h
  refine cz_i (kz := 1) (by decide) (As := []) (rest := []) A0_ge C hK hP hS (metJ0_isLatin1_aae02_s1 l D cy st _  hc3) (cwV 0 C.2.2.2.2.2.1 gJ0_indexOf_7cf53_J0_isLatin1_aae02 rfl rfl rfl (by decide +kernel) ⟨(Nat.le_of_ble_eq_true rfl), (Nat.le_of_ble_eq_true rfl)⟩) rfl hl.1 rfl (Nat.le_of_ble_eq_true rfl) dJ0_indexOf_7cf53_1 ⟨Nat.zero_le _, Nat.zero_le _⟩ (fun H locs hP hS => ?_)
  refine lv_if_eq (tgt := 23) C.1 C.2.1 dJ0_indexOf_7cf53_4 (by decide) (fun c4 => ?_) (fun c4 => ?_)
  · rw [if_pos c4] at h
    refine lv_aload_n C.1 C.2.1 dJ0_indexOf_7cf53_23 rfl (lv_at hl 0 rfl) ?_
    refine vk_getf C.1 C.2.1 (hK.2.2.2.2.2 1 (by decide)).2.2.1 (Zx_S hK.2.2.2 A0_ge hS) C.2.2.2.2.1 (C.2.2.2.2.2.1 _ mJ0_indexOf_7cf53_s1_0) (fun _ h => h) dJ0_indexOf_7cf53_24 ?_
    refine lv_iload_n C.1 C.2.1 dJ0_indexOf_7cf53_27 rfl (lv_at hl 1 rfl) ?_
    refine lv_iload_n C.1 C.2.1 dJ0_indexOf_7cf53_28 rfl (lv_at hl 2 rfl) ?_
    refine lv_aload_n C.1 C.2.1 dJ0_indexOf_7cf53_29 rfl (lv_at hl 0 rfl) ?_
    obtain ⟨r4, hc6, h⟩ := bd_some h
    refine cz_i (kz := 1) (by decide) (As := []) (rest := [.int x2, .int x1, .ref (st 11)]) A0_ge C hK hP hS (metJ0_length_8abf5_s1 l D cy st _  hc6) (cwV 0 C.2.2.2.2.2.1 gJ0_indexOf_7cf53_J0_length_8abf5 rfl rfl rfl (by decide +kernel) ⟨(Nat.le_of_ble_eq_true rfl), (Nat.le_of_ble_eq_true rfl)⟩) rfl hl.1 rfl (Nat.le_of_ble_eq_true rfl) dJ0_indexOf_7cf53_30 ⟨Nat.zero_le _, Nat.zero_le _⟩ (fun H locs hP hS => ?_)
    exact absurd h (by intro q; cases q)
  · rw [if_neg c4] at h
    refine lv_aload_n C.1 C.2.1 dJ0_indexOf_7cf53_7 rfl (lv_at hl 0 rfl) ?_
    refine vk_getf C.1 C.2.1 (hK.2.2.2.2.2 1 (by decide)).2.2.1 (Zx_S hK.2.2.2 A0_ge hS) C.2.2.2.2.1 (C.2.2.2.2.2.1 _ mJ0_indexOf_7cf53_s1_0) (fun _ h => h) dJ0_indexOf_7cf53_8 ?_
    refine lv_iload_n C.1 C.2.1 dJ0_indexOf_7cf53_11 rfl (lv_at hl 1 rfl) ?_
    refine lv_iload_n C.1 C.2.1 dJ0_indexOf_7cf53_12 rfl (lv_at hl 2 rfl) ?_
    refine lv_aload_n C.1 C.2.1 dJ0_indexOf_7cf53_13 rfl (lv_at hl 0 rfl) ?_
    obtain ⟨r7, hc9, h⟩ := bd_some h
    refine cz_i (kz := 1) (by decide) (As := []) (rest := [.int x2, .int x1, .ref (st 11)]) A0_ge C hK hP hS (metJ0_length_8abf5_s1 l D cy st _  hc9) (cwV 0 C.2.2.2.2.2.1 gJ0_indexOf_7cf53_J0_length_8abf5 rfl rfl rfl (by decide +kernel) ⟨(Nat.le_of_ble_eq_true rfl), (Nat.le_of_ble_eq_true rfl)⟩) rfl hl.1 rfl (Nat.le_of_ble_eq_true rfl) dJ0_indexOf_7cf53_14 ⟨Nat.zero_le _, Nat.zero_le _⟩ (fun H locs hP hS => ?_)
    obtain ⟨r10, hc12, h⟩ := bd_some h
    refine cs_i (As := [.ref (st 11), .int x1, .int x2, .int r7]) (rest := []) A0_ge C hK hP hS (metJ1_indexOf_4cfef_ab1 l D cy st _ x1 x2 r7 hc12) (va_cwS 4 C.2.2.2.2.2.1 gJ0_indexOf_7cf53_J1_indexOf_4cfef rfl rfl rfl (by decide +kernel) ⟨(Nat.le_of_ble_eq_true rfl), (Nat.le_of_ble_eq_true rfl)⟩) rfl hl.1 rfl (Nat.le_of_ble_eq_true rfl) dJ0_indexOf_7cf53_17 ⟨Nat.zero_le _, Nat.zero_le _⟩ (fun H locs hP hS => ?_)
    refine lv_goto (tgt := 36) C.1 C.2.1 dJ0_indexOf_7cf53_20 (by decide) ?_
    cases h
    exact rt_i C hP hS dJ0_indexOf_7cf53_36
theorem metJ0_indexOf_7cf53_s1 (l : Launch) (D : va_G) (cy : Nat → ClassId) (st : Nat → Nat) (sz : Nat) (x1 : Int32) (x2 : Int32) {r : Int32} (h : fJ0_indexOf_7cf53_s1 x1 x2 = some r) : Met l yJ0_indexOf_7cf53 wsJ0_indexOf_7cf53 rmJ0_indexOf_7cf53_s1 (va_Pc [.ref (st 1), .int x1, .int x2] (Px D [(cy 0, .int), (cy 1, .long), (cy 2, .boolean), (cy 3, .byte), (cy 4, .object "HissHorn$Text")] st V0 sz u00)) (Qi D V0 A0 sz r u00) 0 0 (Ax A0 sz) := by
  refine Met.ofW (cc := cJ0_indexOf_7cf53) (maxL := 3) (ret := (some .int)) (by decide) rfl ?_
  intro p e s m args below meth c s₁ B hml hv
  obtain ⟨rfl, hsz, hP, hK⟩ := hv
  subst hsz
  have C : Cx RJ0 cJ0_indexOf_7cf53 3 (some .int) wsJ0_indexOf_7cf53 p s m _ meth c := ⟨B.exec, B.bytes, hml, B.returns, findClass_of_methodNamed B.named, atoms_spec (ws := wsJ0_indexOf_7cf53) B.pre, B.notSynchronized⟩
  have hl := lv_entry ([.ref (st 1), .int x1, .int x2]) (n := 3) (Nat.le_of_ble_eq_true rfl)
  rw [lg_entry_eq]
  exact wJ0_indexOf_7cf53_s1 C hK x1 x2 h hP va_S.rf hl

/-- java/lang/String.indexOf(I)I of cell s1 -/
def rmJ0_indexOf_0f7a4_s1 : Room := { frames := 3, cells := 0, slots := 0, locals := 70 }
def fJ0_indexOf_0f7a4_s1 (x1 : Int32) : Option Int32 := ((fJ0_indexOf_7cf53_s1 x1 0).bind fun r1 => (some r1))
set_option maxHeartbeats 4000000 in
set_option maxRecDepth 100000 in
theorem wJ0_indexOf_0f7a4_s1 {p : Program} {l : Launch} {e : Env} {s : State} {m : MethodId} {args : Array Value} {below : List Frame} {meth : Method} {c : Code} {D : va_G} {cy : Nat → ClassId} {st : Nat → Nat} (C : Cx RJ0 cJ0_indexOf_0f7a4 2 (some .int) wsJ0_indexOf_0f7a4 p s m args meth c) (hK : Ky D [(cy 0, .int), (cy 1, .long), (cy 2, .boolean), (cy 3, .byte), (cy 4, .object "HissHorn$Text")] st s) (x1 : Int32) {r : Int32} {H : Heap} {locs : List Loc} {ls : Array Slot} (h : fJ0_indexOf_0f7a4_s1 x1 = some r) (hP : va_P D vwCl (V0 u00) H) (hS : va_S (Ax (A0) s.heap.size) s.heap H locs) (hl : lv_has ls 2 [(0, .ref (st 1)), (1, .int x1)]) : W p l e rmJ0_indexOf_0f7a4_s1 s m args below meth c H locs 0 0 (MQ below (Qi D (V0) (A0) s.heap.size r u00) args s 0 0 (Ax (A0) s.heap.size)) (F0 m 0 ls []) := by
  unfold fJ0_indexOf_0f7a4_s1 at h
  refine lv_aload_n C.1 C.2.1 dJ0_indexOf_0f7a4_0 rfl (lv_at hl 0 rfl) ?_
  refine lv_iload_n C.1 C.2.1 dJ0_indexOf_0f7a4_1 rfl (lv_at hl 1 rfl) ?_
  refine lv_iconst (v := 0) C.1 C.2.1 dJ0_indexOf_0f7a4_2 (by decide) ?_
  obtain ⟨r1, hc3, h⟩ := bd_some h
  refine cz_i (kz := 1) (by decide) (As := [.int x1, .int 0]) (rest := []) A0_ge C hK hP hS (metJ0_indexOf_7cf53_s1 l D cy st _ x1 0 hc3) (cwV 2 C.2.2.2.2.2.1 gJ0_indexOf_0f7a4_J0_indexOf_7cf53 rfl rfl rfl (by decide +kernel) ⟨(Nat.le_of_ble_eq_true rfl), (Nat.le_of_ble_eq_true rfl)⟩) rfl hl.1 rfl (Nat.le_of_ble_eq_true rfl) dJ0_indexOf_0f7a4_3 ⟨Nat.zero_le _, Nat.zero_le _⟩ (fun H locs hP hS => ?_)
  cases h
  exact rt_i C hP hS dJ0_indexOf_0f7a4_6
theorem metJ0_indexOf_0f7a4_s1 (l : Launch) (D : va_G) (cy : Nat → ClassId) (st : Nat → Nat) (sz : Nat) (x1 : Int32) {r : Int32} (h : fJ0_indexOf_0f7a4_s1 x1 = some r) : Met l yJ0_indexOf_0f7a4 wsJ0_indexOf_0f7a4 rmJ0_indexOf_0f7a4_s1 (va_Pc [.ref (st 1), .int x1] (Px D [(cy 0, .int), (cy 1, .long), (cy 2, .boolean), (cy 3, .byte), (cy 4, .object "HissHorn$Text")] st V0 sz u00)) (Qi D V0 A0 sz r u00) 0 0 (Ax A0 sz) := by
  refine Met.ofW (cc := cJ0_indexOf_0f7a4) (maxL := 2) (ret := (some .int)) (by decide) rfl ?_
  intro p e s m args below meth c s₁ B hml hv
  obtain ⟨rfl, hsz, hP, hK⟩ := hv
  subst hsz
  have C : Cx RJ0 cJ0_indexOf_0f7a4 2 (some .int) wsJ0_indexOf_0f7a4 p s m _ meth c := ⟨B.exec, B.bytes, hml, B.returns, findClass_of_methodNamed B.named, atoms_spec (ws := wsJ0_indexOf_0f7a4) B.pre, B.notSynchronized⟩
  have hl := lv_entry ([.ref (st 1), .int x1]) (n := 2) (Nat.le_of_ble_eq_true rfl)
  rw [lg_entry_eq]
  exact wJ0_indexOf_0f7a4_s1 C hK x1 h hP va_S.rf hl

/-- java/lang/String.isLatin1()Z of cell s2 -/
def rmJ0_isLatin1_aae02_s2 : Room := { frames := 0, cells := 0, slots := 0, locals := 0 }
theorem mJ0_isLatin1_aae02_s2_0 : Cond.fieldLink RJ0 38 "java/lang/String" "COMPACT_STRINGS" "Z" ∈ wsJ0_isLatin1_aae02 := (List.mem_cons_of_mem _ (List.mem_of_getElem? (i := 0) rfl))
theorem mJ0_isLatin1_aae02_s2_1 : Cond.fieldLink RJ0 15 "java/lang/String" "coder" "B" ∈ wsJ0_isLatin1_aae02 := (List.mem_cons_of_mem _ (List.mem_of_getElem? (i := 1) rfl))
def fJ0_isLatin1_aae02_s2  : Option Int32 := (gd (isB 1) (some 1))
set_option maxHeartbeats 4000000 in
set_option maxRecDepth 100000 in
theorem wJ0_isLatin1_aae02_s2 {p : Program} {l : Launch} {e : Env} {s : State} {m : MethodId} {args : Array Value} {below : List Frame} {meth : Method} {c : Code} {D : va_G} {cy : Nat → ClassId} {st : Nat → Nat} (C : Cx RJ0 cJ0_isLatin1_aae02 1 (some .boolean) wsJ0_isLatin1_aae02 p s m args meth c) (hK : Ky D [(cy 0, .int), (cy 1, .long), (cy 2, .boolean), (cy 3, .byte), (cy 4, .object "HissHorn$Text")] st s)  {r : Int32} {H : Heap} {locs : List Loc} {ls : Array Slot} (h : fJ0_isLatin1_aae02_s2  = some r) (hP : va_P D vwCl (V0 u00) H) (hS : va_S (Ax (A0) s.heap.size) s.heap H locs) (hl : lv_has ls 1 [(0, .ref (st 2))]) : W p l e rmJ0_isLatin1_aae02_s2 s m args below meth c H locs 0 0 (MQ below (Qi D (V0) (A0) s.heap.size r u00) args s 0 0 (Ax (A0) s.heap.size)) (F0 m 0 ls []) := by
  unfold fJ0_isLatin1_aae02_s2 at h
  refine va_gets C.1 C.2.1 hK.2.2.2.2.1 (Zx_S hK.2.2.2 A0_ge hS) C.2.2.2.2.1 (C.2.2.2.2.2.1 _ mJ0_isLatin1_aae02_s2_0) (fun _ h => h) dJ0_isLatin1_aae02_0 ?_
  refine lv_if_eq (tgt := 17) C.1 C.2.1 dJ0_isLatin1_aae02_3 (by decide) (fun c => absurd c (by decide)) (fun _ => ?_)
  refine lv_aload_n C.1 C.2.1 dJ0_isLatin1_aae02_6 rfl (lv_at hl 0 rfl) ?_
  refine vk_getf C.1 C.2.1 (hK.2.2.2.2.2 2 (by decide)).2.1 (Zx_S hK.2.2.2 A0_ge hS) C.2.2.2.2.1 (C.2.2.2.2.2.1 _ mJ0_isLatin1_aae02_s2_1) (fun _ h => h) dJ0_isLatin1_aae02_7 ?_
  refine lv_if_ne (tgt := 17) C.1 C.2.1 dJ0_isLatin1_aae02_10 (by decide) (fun c => absurd c (by decide)) (fun _ => ?_)
  refine lv_iconst (v := 1) C.1 C.2.1 dJ0_isLatin1_aae02_13 (by decide) ?_
  refine lv_goto (tgt := 18) C.1 C.2.1 dJ0_isLatin1_aae02_14 (by decide) ?_
  obtain ⟨hg1, h⟩ := gd_some h
  cases h
  exact rt_z hg1 C hP hS dJ0_isLatin1_aae02_18
theorem metJ0_isLatin1_aae02_s2 (l : Launch) (D : va_G) (cy : Nat → ClassId) (st : Nat → Nat) (sz : Nat)  {r : Int32} (h : fJ0_isLatin1_aae02_s2  = some r) : Met l yJ0_isLatin1_aae02 wsJ0_isLatin1_aae02 rmJ0_isLatin1_aae02_s2 (va_Pc [.ref (st 2)] (Px D [(cy 0, .int), (cy 1, .long), (cy 2, .boolean), (cy 3, .byte), (cy 4, .object "HissHorn$Text")] st V0 sz u00)) (Qi D V0 A0 sz r u00) 0 0 (Ax A0 sz) := by
  refine Met.ofW (cc := cJ0_isLatin1_aae02) (maxL := 1) (ret := (some .boolean)) (by decide) rfl ?_
  intro p e s m args below meth c s₁ B hml hv
  obtain ⟨rfl, hsz, hP, hK⟩ := hv
  subst hsz
  have C : Cx RJ0 cJ0_isLatin1_aae02 1 (some .boolean) wsJ0_isLatin1_aae02 p s m _ meth c := ⟨B.exec, B.bytes, hml, B.returns, findClass_of_methodNamed B.named, atoms_spec (ws := wsJ0_isLatin1_aae02) B.pre, B.notSynchronized⟩
  have hl := lv_entry ([.ref (st 2)]) (n := 1) (Nat.le_of_ble_eq_true rfl)
  rw [lg_entry_eq]
  exact wJ0_isLatin1_aae02_s2 C hK h hP va_S.rf hl

/-- java/lang/String.coder()B of cell s2 -/
def rmJ0_coder_7d493_s2 : Room := { frames := 0, cells := 0, slots := 0, locals := 0 }
theorem mJ0_coder_7d493_s2_0 : Cond.fieldLink RJ0 38 "java/lang/String" "COMPACT_STRINGS" "Z" ∈ wsJ0_coder_7d493 := (List.mem_cons_of_mem _ (List.mem_of_getElem? (i := 0) rfl))
theorem mJ0_coder_7d493_s2_1 : Cond.fieldLink RJ0 15 "java/lang/String" "coder" "B" ∈ wsJ0_coder_7d493 := (List.mem_cons_of_mem _ (List.mem_of_getElem? (i := 1) rfl))
def fJ0_coder_7d493_s2  : Option Int32 := (some 0)
set_option maxHeartbeats 4000000 in
set_option maxRecDepth 100000 in
theorem wJ0_coder_7d493_s2 {p : Program} {l : Launch} {e : Env} {s : State} {m : MethodId} {args : Array Value} {below : List Frame} {meth : Method} {c : Code} {D : va_G} {cy : Nat → ClassId} {st : Nat → Nat} (C : Cx RJ0 cJ0_coder_7d493 1 (some .byte) wsJ0_coder_7d493 p s m args meth c) (hK : Ky D [(cy 0, .int), (cy 1, .long), (cy 2, .boolean), (cy 3, .byte), (cy 4, .object "HissHorn$Text")] st s)  {r : Int32} {H : Heap} {locs : List Loc} {ls : Array Slot} (h : fJ0_coder_7d493_s2  = some r) (hP : va_P D vwCl (V0 u00) H) (hS : va_S (Ax (A0) s.heap.size) s.heap H locs) (hl : lv_has ls 1 [(0, .ref (st 2))]) : W p l e rmJ0_coder_7d493_s2 s m args below meth c H locs 0 0 (MQ below (Qi D (V0) (A0) s.heap.size r u00) args s 0 0 (Ax (A0) s.heap.size)) (F0 m 0 ls []) := by
  unfold fJ0_coder_7d493_s2 at h
  refine va_gets C.1 C.2.1 hK.2.2.2.2.1 (Zx_S hK.2.2.2 A0_ge hS) C.2.2.2.2.1 (C.2.2.2.2.2.1 _ mJ0_coder_7d493_s2_0) (fun _ h => h) dJ0_coder_7d493_0 ?_
  refine lv_if_eq (tgt := 13) C.1 C.2.1 dJ0_coder_7d493_3 (by decide) (fun c => absurd c (by decide)) (fun _ => ?_)
  refine lv_aload_n C.1 C.2.1 dJ0_coder_7d493_6 rfl (lv_at hl 0 rfl) ?_
  refine vk_getf C.1 C.2.1 (hK.2.2.2.2.2 2 (by decide)).2.1 (Zx_S hK.2.2.2 A0_ge hS) C.2.2.2.2.1 (C.2.2.2.2.2.1 _ mJ0_coder_7d493_s2_1) (fun _ h => h) dJ0_coder_7d493_7 ?_
  refine lv_goto (tgt := 14) C.1 C.2.1 dJ0_coder_7d493_10 (by decide) ?_
  cases h
  exact rt_b rfl C hP hS dJ0_coder_7d493_14
theorem metJ0_coder_7d493_s2 (l : Launch) (D : va_G) (cy : Nat → ClassId) (st : Nat → Nat) (sz : Nat)  {r : Int32} (h : fJ0_coder_7d493_s2  = some r) : Met l yJ0_coder_7d493 wsJ0_coder_7d493 rmJ0_coder_7d493_s2 (va_Pc [.ref (st 2)] (Px D [(cy 0, .int), (cy 1, .long), (cy 2, .boolean), (cy 3, .byte), (cy 4, .object "HissHorn$Text")] st V0 sz u00)) (Qi D V0 A0 sz r u00) 0 0 (Ax A0 sz) := by
  refine Met.ofW (cc := cJ0_coder_7d493) (maxL := 1) (ret := (some .byte)) (by decide) rfl ?_
  intro p e s m args below meth c s₁ B hml hv
  obtain ⟨rfl, hsz, hP, hK⟩ := hv
  subst hsz
  have C : Cx RJ0 cJ0_coder_7d493 1 (some .byte) wsJ0_coder_7d493 p s m _ meth c := ⟨B.exec, B.bytes, hml, B.returns, findClass_of_methodNamed B.named, atoms_spec (ws := wsJ0_coder_7d493) B.pre, B.notSynchronized⟩
  have hl := lv_entry ([.ref (st 2)]) (n := 1) (Nat.le_of_ble_eq_true rfl)
  rw [lg_entry_eq]
  exact wJ0_coder_7d493_s2 C hK h hP va_S.rf hl

/-- java/lang/String.length()I of cell s2 -/
def rmJ0_length_8abf5_s2 : Room := { frames := 1, cells := 0, slots := 0, locals := 20 }
theorem mJ0_length_8abf5_s2_0 : Cond.fieldLink RJ0 9 "java/lang/String" "value" "[B" ∈ wsJ0_length_8abf5 := (List.mem_cons_of_mem _ (List.mem_of_getElem? (i := 0) rfl))
def fJ0_length_8abf5_s2  : Option Int32 := ((fJ0_coder_7d493_s2 ).bind fun r1 => (some (5 >>> (r1 &&& 31))))
set_option maxHeartbeats 4000000 in
set_option maxRecDepth 100000 in
theorem wJ0_length_8abf5_s2 {p : Program} {l : Launch} {e : Env} {s : State} {m : MethodId} {args : Array Value} {below : List Frame} {meth : Method} {c : Code} {D : va_G} {cy : Nat → ClassId} {st : Nat → Nat} (C : Cx RJ0 cJ0_length_8abf5 1 (some .int) wsJ0_length_8abf5 p s m args meth c) (hK : Ky D [(cy 0, .int), (cy 1, .long), (cy 2, .boolean), (cy 3, .byte), (cy 4, .object "HissHorn$Text")] st s)  {r : Int32} {H : Heap} {locs : List Loc} {ls : Array Slot} (h : fJ0_length_8abf5_s2  = some r) (hP : va_P D vwCl (V0 u00) H) (hS : va_S (Ax (A0) s.heap.size) s.heap H locs) (hl : lv_has ls 1 [(0, .ref (st 2))]) : W p l e rmJ0_length_8abf5_s2 s m args below meth c H locs 0 0 (MQ below (Qi D (V0) (A0) s.heap.size r u00) args s 0 0 (Ax (A0) s.heap.size)) (F0 m 0 ls []) := by
  unfold fJ0_length_8abf5_s2 at h
  refine lv_aload_n C.1 C.2.1 dJ0_length_8abf5_0 rfl (lv_at hl 0 rfl) ?_
  refine vk_getf C.1 C.2.1 (hK.2.2.2.2.2 2 (by decide)).2.2.1 (Zx_S hK.2.2.2 A0_ge hS) C.2.2.2.2.1 (C.2.2.2.2.2.1 _ mJ0_length_8abf5_s2_0) (fun _ h => h) dJ0_length_8abf5_1 ?_
  refine va_tlen (v := 5) C.1 C.2.1 (hK.2.2.2.2.2 2 (by decide)).2.2.2 (Zx_S hK.2.2.2 A0_ge hS) rfl dJ0_length_8abf5_4 ?_
  refine lv_aload_n C.1 C.2.1 dJ0_length_8abf5_5 rfl (lv_at hl 0 rfl) ?_
  obtain ⟨r1, hc3, h⟩ := bd_some h
  refine cz_i (kz := 2) (by decide) (As := []) (rest := [.int 5]) A0_ge C hK hP hS (metJ0_coder_7d493_s2 l D cy st _  hc3) (cwV 0 C.2.2.2.2.2.1 gJ0_length_8abf5_J0_coder_7d493 rfl rfl rfl (by decide +kernel) ⟨(Nat.le_of_ble_eq_true rfl), (Nat.le_of_ble_eq_true rfl)⟩) rfl hl.1 rfl (Nat.le_of_ble_eq_true rfl) dJ0_length_8abf5_6 ⟨Nat.zero_le _, Nat.zero_le _⟩ (fun H locs hP hS => ?_)
  refine lv_ishr C.1 C.2.1 dJ0_length_8abf5_9 ?_
  cases h
  exact rt_i C hP hS dJ0_length_8abf5_10
theorem metJ0_length_8abf5_s2 (l : Launch) (D : va_G) (cy : Nat → ClassId) (st : Nat → Nat) (sz : Nat)  {r : Int32} (h : fJ0_length_8abf5_s2  = some r) : Met l yJ0_length_8abf5 wsJ0_length_8abf5 rmJ0_length_8abf5_s2 (va_Pc [.ref (st 2)] (Px D [(cy 0, .int), (cy 1, .long), (cy 2, .boolean), (cy 3, .byte), (cy 4, .object "HissHorn$Text")] st V0 sz u00)) (Qi D V0 A0 sz r u00) 0 0 (Ax A0 sz) := by
  refine Met.ofW (cc := cJ0_length_8abf5) (maxL := 1) (ret := (some .int)) (by decide) rfl ?_
  intro p e s m args below meth c s₁ B hml hv
  obtain ⟨rfl, hsz, hP, hK⟩ := hv
  subst hsz
  have C : Cx RJ0 cJ0_length_8abf5 1 (some .int) wsJ0_length_8abf5 p s m _ meth c := ⟨B.exec, B.bytes, hml, B.returns, findClass_of_methodNamed B.named, atoms_spec (ws := wsJ0_length_8abf5) B.pre, B.notSynchronized⟩
  have hl := lv_entry ([.ref (st 2)]) (n := 1) (Nat.le_of_ble_eq_true rfl)
  rw [lg_entry_eq]
  exact wJ0_length_8abf5_s2 C hK h hP va_S.rf hl

/-- java/lang/StringLatin1.indexOfChar([BIII)I -/
def rmJ1_indexOfChar_4cfef_ab2 : Room := { frames := 0, cells := 0, slots := 0, locals := 0 }
def LJ1_indexOfChar_4cfef_ab2_7  : Nat → Int32 → Int32 → Int32 → Option Int32
  | 0, _, _, _ => none
  | n + 1, z3, z4, z5 => (if z3 ≤ z5 then (some (-1)) else (gd (inb z5 5) (if (zB 2 z5.toNatClampNeg) = z4 then (some z5) else ((LJ1_indexOfChar_4cfef_ab2_7 n) z3 z4 (z5 + 1)))))
def fJ1_indexOfChar_4cfef_ab2 (x1 : Int32) (x2 : Int32) (x3 : Int32) : Option Int32 := (lt (x1.toInt8.toInt32) fun v1 => (LJ1_indexOfChar_4cfef_ab2_7  5000 x3 v1 x2))
set_option maxHeartbeats 4000000 in
set_option maxRecDepth 100000 in
theorem wLJ1_indexOfChar_4cfef_ab2_7 {p : Program} {l : Launch} {e : Env} {s : State} {m : MethodId} {args : Array Value} {below : List Frame} {meth : Method} {c : Code} {D : va_G} {cy : Nat → ClassId} {st : Nat → Nat} (C : Cx RJ1 cJ1_indexOfChar_4cfef 6 (some .int) wsJ1_indexOfChar_4cfef p s m args meth c) (hK : Ky D [(cy 0, .int), (cy 1, .long), (cy 2, .boolean), (cy 3, .byte), (cy 4, .object "HissHorn$Text")] st s) {r : Int32}   : ∀ (n : Nat) (z3 : Int32) (z4 : Int32) (z5 : Int32) (H : Heap) (locs : List Loc) (ls : Array Slot), LJ1_indexOfChar_4cfef_ab2_7  n z3 z4 z5 = some r → va_P D vwCl (V0 u00) H → va_S (Ax (A0) s.heap.size) s.heap H locs → lv_has ls 6 [(0, .ref (st 12)), (3, .int z3), (4, .int z4), (5, .int z5)] → W p l e rmJ1_indexOfChar_4cfef_ab2 s m args below meth c H locs 0 0 (MQ below (Qi D (V0) (A0) s.heap.size r u00) args s 0 0 (Ax (A0) s.heap.size)) (F0 m 7 ls []) := by
  intro n
  induction n with
  | zero =>
    intro z3 z4 z5 H locs ls h
    exact absurd h (by intro q; cases q)
  | succ n ih =>
    intro z3 z4 z5 H locs ls h hP hS hl
    rw [LJ1_indexOfChar_4cfef_ab2_7] at h
    refine lv_iload C.1 C.2.1 dJ1_indexOfChar_4cfef_7 (lv_at hl 3 rfl) ?_
    refine lv_iload_n C.1 C.2.1 dJ1_indexOfChar_4cfef_9 rfl (lv_at hl 1 rfl) ?_
    refine lv_icmp_ge (tgt := 31) C.1 C.2.1 dJ1_indexOfChar_4cfef_10 (by decide) (fun c10 => ?_) (fun c10 => ?_)
    · rw [if_pos c10] at h
      refine lv_iconst (v := (-1)) C.1 C.2.1 dJ1_indexOfChar_4cfef_31 (by decide) ?_
      cases h
      exact rt_i C hP hS dJ1_indexOfChar_4cfef_32
    · rw [if_neg c10] at h
      refine lv_aload_n C.1 C.2.1 dJ1_indexOfChar_4cfef_13 rfl (lv_at hl 0 rfl) ?_
      refine lv_iload C.1 C.2.1 dJ1_indexOfChar_4cfef_14 (lv_at hl 3 rfl) ?_
      obtain ⟨hg3, h⟩ := gd_some h
      refine va_tb (v := .int (zB 2 z5.toNatClampNeg)) C.1 C.2.1 (hK.2.2.2.2.2 2 (by decide)).2.2.2 (Zx_S hK.2.2.2 A0_ge hS) (inb_in hg3) rfl dJ1_indexOfChar_4cfef_16 ?_
      refine lv_iload C.1 C.2.1 dJ1_indexOfChar_4cfef_17 (lv_at hl 2 rfl) ?_
      refine lv_icmp_ne (tgt := 25) C.1 C.2.1 dJ1_indexOfChar_4cfef_19 (by decide) (fun c19 => ?_) (fun c19 => ?_)
      · rw [if_neg c19] at h
        refine lv_iinc (v := z5 + 1) (lv' := [(5, .int (z5 + 1)), (0, .ref (st 12)), (3, .int z3), (4, .int z4)]) C.1 C.2.1 dJ1_indexOfChar_4cfef_25 hl (k := 3) rfl rfl (by decide) rfl (fun ls hl => ?_)
        replace hl := lv_sub (l' := [(0, .ref (st 12)), (3, .int z3), (4, .int z4), (5, .int (z5 + 1))]) hl [1, 2, 3, 0] rfl
        refine lv_goto (tgt := 7) C.1 C.2.1 dJ1_indexOfChar_4cfef_28 (by decide) ?_
        exact ih _ _ _ _ _ _ h hP hS hl
      · rw [if_pos c19] at h
        refine lv_iload C.1 C.2.1 dJ1_indexOfChar_4cfef_22 (lv_at hl 3 rfl) ?_
        cases h
        exact rt_i C hP hS dJ1_indexOfChar_4cfef_24
set_option maxHeartbeats 4000000 in
set_option maxRecDepth 100000 in
theorem wJ1_indexOfChar_4cfef_ab2 {p : Program} {l : Launch} {e : Env} {s : State} {m : MethodId} {args : Array Value} {below : List Frame} {meth : Method} {c : Code} {D : va_G} {cy : Nat → ClassId} {st : Nat → Nat} (C : Cx RJ1 cJ1_indexOfChar_4cfef 6 (some .int) wsJ1_indexOfChar_4cfef p s m args meth c) (hK : Ky D [(cy 0, .int), (cy 1, .long), (cy 2, .boolean), (cy 3, .byte), (cy 4, .object "HissHorn$Text")] st s) (x1 : Int32) (x2 : Int32) (x3 : Int32) {r : Int32} {H : Heap} {locs : List Loc} {ls : Array Slot} (h : fJ1_indexOfChar_4cfef_ab2 x1 x2 x3 = some r) (hP : va_P D vwCl (V0 u00) H) (hS : va_S (Ax (A0) s.heap.size) s.heap H locs) (hl : lv_has ls 6 [(0, .ref (st 12)), (1, .int x1), (2, .int x2), (3, .int x3)]) : W p l e rmJ1_indexOfChar_4cfef_ab2 s m args below meth c H locs 0 0 (MQ below (Qi D (V0) (A0) s.heap.size r u00) args s 0 0 (Ax (A0) s.heap.size)) (F0 m 0 ls []) := by
  unfold fJ1_indexOfChar_4cfef_ab2 at h
  refine lv_iload_n C.1 C.2.1 dJ1_indexOfChar_4cfef_0 rfl (lv_at hl 1 rfl) ?_
  refine lv_i2b (v := x1.toInt8.toInt32) C.1 C.2.1 dJ1_indexOfChar_4cfef_1 rfl ?_
  refine lv_topi (fun v1 hv2 => ?_)
  replace h := lt_e hv2 h
  try dsimp only at h
  refine lv_istore (lv' := [(4, .int v1), (0, .ref (st 12)), (1, .int x1), (2, .int x2), (3, .int x3)]) C.1 C.2.1 dJ1_indexOfChar_4cfef_2 hl (by decide) rfl (fun ls hl => ?_)
  replace hl := lv_sub (l' := [(0, .ref (st 12)), (1, .int x1), (2, .int x2), (3, .int x3), (4, .int v1)]) hl [1, 2, 3, 4, 0] rfl
  refine lv_iload_n C.1 C.2.1 dJ1_indexOfChar_4cfef_4 rfl (lv_at hl 2 rfl) ?_
  refine lv_istore (lv' := [(5, .int x2), (0, .ref (st 12)), (1, .int x1), (2, .int x2), (3, .int x3), (4, .int v1)]) C.1 C.2.1 dJ1_indexOfChar_4cfef_5 hl (by decide) rfl (fun ls hl => ?_)
  replace hl := lv_sub (l' := [(0, .ref (st 12)), (1, .int x1), (2, .int x2), (3, .int x3), (4, .int v1), (5, .int x2)]) hl [1, 2, 3, 4, 5, 0] rfl
  exact wLJ1_indexOfChar_4cfef_ab2_7 C hK  5000 _ _ _ _ _ _ h hP hS (lv_sub hl [0, 3, 4, 5] rfl)
theorem metJ1_indexOfChar_4cfef_ab2 (l : Launch) (D : va_G) (cy : Nat → ClassId) (st : Nat → Nat) (sz : Nat) (x1 : Int32) (x2 : Int32) (x3 : Int32) {r : Int32} (h : fJ1_indexOfChar_4cfef_ab2 x1 x2 x3 = some r) : Met l yJ1_indexOfChar_4cfef wsJ1_indexOfChar_4cfef rmJ1_indexOfChar_4cfef_ab2 (va_Pc [.ref (st 12), .int x1, .int x2, .int x3] (Px D [(cy 0, .int), (cy 1, .long), (cy 2, .boolean), (cy 3, .byte), (cy 4, .object "HissHorn$Text")] st V0 sz u00)) (Qi D V0 A0 sz r u00) 0 0 (Ax A0 sz) := by
  refine Met.ofW (cc := cJ1_indexOfChar_4cfef) (maxL := 6) (ret := (some .int)) (by decide) rfl ?_
  intro p e s m args below meth c s₁ B hml hv
  obtain ⟨rfl, hsz, hP, hK⟩ := hv
  subst hsz
  have C : Cx RJ1 cJ1_indexOfChar_4cfef 6 (some .int) wsJ1_indexOfChar_4cfef p s m _ meth c := ⟨B.exec, B.bytes, hml, B.returns, findClass_of_methodNamed B.named, atoms_spec (ws := wsJ1_indexOfChar_4cfef) B.pre, B.notSynchronized⟩
  have hl := lv_entry ([.ref (st 12), .int x1, .int x2, .int x3]) (n := 6) (Nat.le_of_ble_eq_true rfl)
  rw [lg_entry_eq]
  exact wJ1_indexOfChar_4cfef_ab2 C hK x1 x2 x3 h hP va_S.rf hl

/-- java/lang/StringLatin1.indexOf([BIII)I -/
def rmJ1_indexOf_4cfef_ab2 : Room := { frames := 1, cells := 0, slots := 0, locals := 25 }
theorem mJ1_indexOf_4cfef_ab2_0 : Cond.methodLink RJ1 92 Lib.Math.max.name ∈ wsJ1_indexOf_4cfef := (List.mem_cons_of_mem _ (List.mem_of_getElem? (i := 0) rfl))
theorem mJ1_indexOf_4cfef_ab2_1 : Cond.static Lib.Math.max.name ∈ wsJ1_indexOf_4cfef := (List.mem_cons_of_mem _ (List.mem_of_getElem? (i := 1) rfl))
theorem mJ1_indexOf_4cfef_ab2_2 : Cond.initialized "java/lang/Math" ∈ wsJ1_indexOf_4cfef := (List.mem_cons_of_mem _ (List.mem_of_getElem? (i := 2) rfl))
theorem mJ1_indexOf_4cfef_ab2_3 : Cond.code Lib.Math.max.name Lib.Math.max.code 2 (some .int) ∈ wsJ1_indexOf_4cfef := (List.mem_cons_of_mem _ (List.mem_of_getElem? (i := 3) rfl))
theorem mJ1_indexOf_4cfef_ab2_4 : Cond.methodLink RJ1 38 Lib.Math.min.name ∈ wsJ1_indexOf_4cfef := (List.mem_cons_of_mem _ (List.mem_of_getElem? (i := 4) rfl))
theorem mJ1_indexOf_4cfef_ab2_5 : Cond.static Lib.Math.min.name ∈ wsJ1_indexOf_4cfef := (List.mem_cons_of_mem _ (List.mem_of_getElem? (i := 5) rfl))
theorem mJ1_indexOf_4cfef_ab2_6 : Cond.code Lib.Math.min.name Lib.Math.min.code 2 (some .int) ∈ wsJ1_indexOf_4cfef := (List.mem_cons_of_mem _ (List.mem_of_getElem? (i := 6) rfl))
def fJ1_indexOf_4cfef_ab2 (x1 : Int32) (x2 : Int32) (x3 : Int32) : Option Int32 := ((fJ1_canEncode_9a6ad x1).bind fun r1 => (if r1 = 0 then (some (-1)) else (lt (if x2 < 0 then 0 else x2) fun v4 => (lt (if 5 < x3 then 5 else x3) fun v6 => (if v4 < v6 then ((fJ1_indexOfChar_4cfef_ab2 x1 v4 v6).bind fun r8 => (some r8)) else (some (-1)))))))
set_option maxHeartbeats 4000000 in
set_option maxRecDepth 100000 in
theorem wJ1_indexOf_4cfef_ab2 {p : Program} {l : Launch} {e : Env} {s : State} {m : MethodId} {args : Array Value} {below : List Frame} {meth : Method} {c : Code} {D : va_G} {cy : Nat → ClassId} {st : Nat → Nat} (C : Cx RJ1 cJ1_indexOf_4cfef 4 (some .int) wsJ1_indexOf_4cfef p s m args meth c) (hK : Ky D [(cy 0, .int), (cy 1, .long), (cy 2, .boolean), (cy 3, .byte), (cy 4, .object "HissHorn$Text")] st s) (x1 : Int32) (x2 : Int32) (x3 : Int32) {r : Int32} {H : Heap} {locs : List Loc} {ls : Array Slot} (h : fJ1_indexOf_4cfef_ab2 x1 x2 x3 = some r) (hP : va_P D vwCl (V0 u00) H) (hS : va_S (Ax (A0) s.heap.size) s.heap H locs) (hl : lv_has ls 4 [(0, .ref (st 12)), (1, .int x1), (2, .int x2), (3, .int x3)]) : W p l e rmJ1_indexOf_4cfef_ab2 s m args below meth c H locs 0 0 (MQ below (Qi D (V0) (A0) s.heap.size r u00) args s 0 0 (Ax (A0) s.heap.size)) (F0 m 0 ls []) := by
  unfold fJ1_indexOf_4cfef_ab2 at h
  refine lv_iload_n C.1 C.2.1 dJ1_indexOf_4cfef_0 rfl (lv_at hl 1 rfl) ?_
  obtain ⟨r1, hc3, h⟩ := bd_some h
  refine cs_i (As := [.int x1]) (rest := []) A0_ge C hK hP hS (metJ1_canEncode_9a6ad l D cy st _ x1 hc3) (va_cwS 1 C.2.2.2.2.2.1 gJ1_indexOf_4cfef_J1_canEncode_9a6ad rfl rfl rfl (by decide +kernel) ⟨(Nat.le_of_ble_eq_true rfl), (Nat.le_of_ble_eq_true rfl)⟩) rfl hl.1 rfl (Nat.le_of_ble_eq_true rfl) dJ1_indexOf_4cfef_1 ⟨Nat.zero_le _, Nat.zero_le _⟩ (fun H locs hP hS => ?_)
  refine lv_if_ne (tgt := 9) C.1 C.2.1 dJ1_indexOf_4cfef_4 (by decide) (fun c4 => ?_) (fun c4 => ?_)
  · rw [if_neg c4] at h
    refine lv_iload_n C.1 C.2.1 dJ1_indexOf_4cfef_9 rfl (lv_at hl 2 rfl) ?_
    refine lv_iconst (v := 0) C.1 C.2.1 dJ1_indexOf_4cfef_10 (by decide) ?_
    refine va_mmax C.1 C.2.1 (C.2.2.1.trans hl.1.symm) C.2.2.2.2.1 (C.2.2.2.2.2.1 _ mJ1_indexOf_4cfef_ab2_0) (C.2.2.2.2.2.1 _ mJ1_indexOf_4cfef_ab2_1) (C.2.2.2.2.2.1 _ mJ1_indexOf_4cfef_ab2_2) (C.2.2.2.2.2.1 _ mJ1_indexOf_4cfef_ab2_3) (Nat.le_of_ble_eq_true rfl) (Nat.le_of_ble_eq_true rfl) (Nat.zero_le _) (Nat.zero_le _) dJ1_indexOf_4cfef_11 ?_
    refine lv_topi (fun v4 hv5 => ?_)
    replace h := lt_e hv5 h
    try dsimp only at h
    refine lv_istore_n (lv' := [(2, .int v4), (0, .ref (st 12)), (1, .int x1), (3, .int x3)]) C.1 C.2.1 dJ1_indexOf_4cfef_14 rfl hl (by decide) rfl (fun ls hl => ?_)
    replace hl := lv_sub (l' := [(0, .ref (st 12)), (1, .int x1), (2, .int v4), (3, .int x3)]) hl [1, 2, 0, 3] rfl
    refine lv_iload_n C.1 C.2.1 dJ1_indexOf_4cfef_15 rfl (lv_at hl 3 rfl) ?_
    refine lv_aload_n C.1 C.2.1 dJ1_indexOf_4cfef_16 rfl (lv_at hl 0 rfl) ?_
    refine va_tlen (v := 5) C.1 C.2.1 (hK.2.2.2.2.2 2 (by decide)).2.2.2 (Zx_S hK.2.2.2 A0_ge hS) rfl dJ1_indexOf_4cfef_17 ?_
    refine va_mmin C.1 C.2.1 (C.2.2.1.trans hl.1.symm) C.2.2.2.2.1 (C.2.2.2.2.2.1 _ mJ1_indexOf_4cfef_ab2_4) (C.2.2.2.2.2.1 _ mJ1_indexOf_4cfef_ab2_5) (C.2.2.2.2.2.1 _ mJ1_indexOf_4cfef_ab2_2) (C.2.2.2.2.2.1 _ mJ1_indexOf_4cfef_ab2_6) (Nat.le_of_ble_eq_true rfl) (Nat.le_of_ble_eq_true rfl) (Nat.zero_le _) (Nat.zero_le _) dJ1_indexOf_4cfef_18 ?_
    refine lv_topi (fun v6 hv7 => ?_)
    replace h := lt_e hv7 h
    try dsimp only at h
    refine lv_istore_n (lv' := [(3, .int v6), (0, .ref (st 12)), (1, .int x1), (2, .int v4)]) C.1 C.2.1 dJ1_indexOf_4cfef_21 rfl hl (by decide) rfl (fun ls hl => ?_)
    replace hl := lv_sub (l' := [(0, .ref (st 12)), (1, .int x1), (2, .int v4), (3, .int v6)]) hl [1, 2, 3, 0] rfl
    refine lv_iload_n C.1 C.2.1 dJ1_indexOf_4cfef_22 rfl (lv_at hl 2 rfl) ?_
    refine lv_iload_n C.1 C.2.1 dJ1_indexOf_4cfef_23 rfl (lv_at hl 3 rfl) ?_
    refine lv_icmp_lt (tgt := 29) C.1 C.2.1 dJ1_indexOf_4cfef_24 (by decide) (fun c24 => ?_) (fun c24 => ?_)
    · rw [if_pos c24] at h
      refine lv_aload_n C.1 C.2.1 dJ1_indexOf_4cfef_29 rfl (lv_at hl 0 rfl) ?_
      refine lv_iload_n C.1 C.2.1 dJ1_indexOf_4cfef_30 rfl (lv_at hl 1 rfl) ?_
      refine lv_iload_n C.1 C.2.1 dJ1_indexOf_4cfef_31 rfl (lv_at hl 2 rfl) ?_
      refine lv_iload_n C.1 C.2.1 dJ1_indexOf_4cfef_32 rfl (lv_at hl 3 rfl) ?_
      obtain ⟨r8, hc10, h⟩ := bd_some h
      refine cs_i (As := [.ref (st 12), .int x1, .int v4, .int v6]) (rest := []) A0_ge C hK hP hS (metJ1_indexOfChar_4cfef_ab2 l D cy st _ x1 v4 v6 hc10) (va_cwS 4 C.2.2.2.2.2.1 gJ1_indexOf_4cfef_J1_indexOfChar_4cfef rfl rfl rfl (by decide +kernel) ⟨(Nat.le_of_ble_eq_true rfl), (Nat.le_of_ble_eq_true rfl)⟩) rfl hl.1 rfl (Nat.le_of_ble_eq_true rfl) dJ1_indexOf_4cfef_33 ⟨Nat.zero_le _, Nat.zero_le _⟩ (fun H locs hP hS => ?_)
      cases h
      exact rt_i C hP hS dJ1_indexOf_4cfef_36
    · rw [if_neg c24] at h
      refine lv_iconst (v := (-1)) C.1 C.2.1 dJ1_indexOf_4cfef_27 (by decide) ?_
      cases h
      exact rt_i C hP hS dJ1_indexOf_4cfef_28
  · rw [if_pos c4] at h
    refine lv_iconst (v := (-1)) C.1 C.2.1 dJ1_indexOf_4cfef_7 (by decide) ?_
    cases h
    exact rt_i C hP hS dJ1_indexOf_4cfef_8
theorem metJ1_indexOf_4cfef_ab2 (l : Launch) (D : va_G) (cy : Nat → ClassId) (st : Nat → Nat) (sz : Nat) (x1 : Int32) (x2 : Int32) (x3 : Int32) {r : Int32} (h : fJ1_indexOf_4cfef_ab2 x1 x2 x3 = some r) : Met l yJ1_indexOf_4cfef wsJ1_indexOf_4cfef rmJ1_indexOf_4cfef_ab2 (va_Pc [.ref (st 12), .int x1, .int x2, .int x3] (Px D [(cy 0, .int), (cy 1, .long), (cy 2, .boolean), (cy 3, .byte), (cy 4, .object "HissHorn$Text")] st V0 sz u00)) (Qi D V0 A0 sz r u00) 0 0 (Ax A0 sz) := by
  refine Met.ofW (cc := cJ1_indexOf_4cfef) (maxL := 4) (ret := (some .int)) (by decide) rfl ?_
  intro p e s m args below meth c s₁ B hml hv
  obtain ⟨rfl, hsz, hP, hK⟩ := hv
  subst hsz
  have C : Cx RJ1 cJ1_indexOf_4cfef 4 (some .int) wsJ1_indexOf_4cfef p s m _ meth c := ⟨B.exec, B.bytes, hml, B.returns, findClass_of_methodNamed B.named, atoms_spec (ws := wsJ1_indexOf_4cfef) B.pre, B.notSynchronized⟩
  have hl := lv_entry ([.ref (st 12), .int x1, .int x2, .int x3]) (n := 4) (Nat.le_of_ble_eq_true rfl)
  rw [lg_entry_eq]
  exact wJ1_indexOf_4cfef_ab2 C hK x1 x2 x3 h hP va_S.rf hl

/-- java/lang/String.indexOf(II)I of cell s2 -/
def rmJ0_indexOf_7cf53_s2 : Room := { frames := 2, cells := 0, slots := 0, locals := 48 }
theorem mJ0_indexOf_7cf53_s2_0 : Cond.fieldLink RJ0 9 "java/lang/String" "value" "[B" ∈ wsJ0_indexOf_7cf53 := (List.mem_cons_of_mem _ (List.mem_append_left _ (List.mem_of_getElem? (i := 0) rfl)))
def fJ0_indexOf_7cf53_s2 (x1 : Int32) (x2 : Int32) : Option Int32 := ((fJ0_isLatin1_aae02_s2 ).bind fun r1 => (if r1 = 0 then ((fJ0_length_8abf5_s2 ).bind fun r4 => none) else ((fJ0_length_8abf5_s2 ).bind fun r7 => ((fJ1_indexOf_4cfef_ab2 x1 x2 r7).bind fun r10 => (some r10)))))
set_option maxHeartbeats 4000000 in
set_option maxRecDepth 100000 in
theorem wJ0_indexOf_7cf53_s2 {p : Program} {l : Launch} {e : Env} {s : State} {m : MethodId} {args : Array Value} {below : List Frame} {meth : Method} {c : Code} {D : va_G} {cy : Nat → ClassId} {st : Nat → Nat} (C : Cx RJ0 cJ0_indexOf_7cf53 3 (some .int) wsJ0_indexOf_7cf53 p s m args meth c) (hK : Ky D [(cy 0, .int), (cy 1, .long), (cy 2, .boolean), (cy 3, .byte), (cy 4, .object "HissHorn$Text")] st s) (x1 : Int32) (x2 : Int32) {r : Int32} {H : Heap} {locs : List Loc} {ls : Array Slot} (h : fJ0_indexOf_7cf53_s2 x1 x2 = some r) (hP : va_P D vwCl (V0 u00) H) (hS : va_S (Ax (A0) s.heap.size) s.heap H locs) (hl : lv_has ls 3 [(0, .ref (st 2)), (1, .int x1), (2, .int x2)]) : W p l e rmJ0_indexOf_7cf53_s2 s m args below meth c H locs 0 0 (MQ below (Qi D (V0) (A0) s.heap.size r u00) args s 0 0 (Ax (A0) s.heap.size)) (F0 m 0 ls []) := by
  unfold fJ0_indexOf_7cf53_s2 at h
  refine lv_aload_n C.1 C.2.1 dJ0_indexOf_7cf53_0 rfl (lv_at hl 0 rfl) ?_
  obtain ⟨r1, hc3, h⟩ := bd_some h
  refine cz_i (kz := 2) (by decide) (As := []) (rest := []) A0_ge C hK hP hS (metJ0_isLatin1_aae02_s2 l D cy st _  hc3) (cwV 0 C.2.2.2.2.2.1 gJ0_indexOf_7cf53_J0_isLatin1_aae02 rfl rfl rfl (by decide +kernel) ⟨(Nat.le_of_ble_eq_true rfl), (Nat.le_of_ble_eq_true rfl)⟩) rfl hl.1 rfl (Nat.le_of_ble_eq_true rfl) dJ0_indexOf_7cf53_1 ⟨Nat.zero_le _, Nat.zero_le _⟩ (fun H locs hP hS => ?_)
  refine lv_if_eq (tgt := 23) C.1 C.2.1 dJ0_indexOf_7cf53_4 (by decide) (fun c4 => ?_) (fun c4 => ?_)
  · rw [if_pos c4] at h
    refine lv_aload_n C.1 C.2.1 dJ0_indexOf_7cf53_23 rfl (lv_at hl 0 rfl) ?_
    refine vk_getf C.1 C.2.1 (hK.2.2.2.2.2 2 (by decide)).2.2.1 (Zx_S hK.2.2.2 A0_ge hS) C.2.2.2.2.1 (C.2.2.2.2.2.1 _ mJ0_indexOf_7cf53_s2_0) (fun _ h => h) dJ0_indexOf_7cf53_24 ?_
    refine lv_iload_n C.1 C.2.1 dJ0_indexOf_7cf53_27 rfl (lv_at hl 1 rfl) ?_
    refine lv_iload_n C.1 C.2.1 dJ0_indexOf_7cf53_28 rfl (lv_at hl 2 rfl) ?_
    refine lv_aload_n C.1 C.2.1 dJ0_indexOf_7cf53_29 rfl (lv_at hl 0 rfl) ?_
    obtain ⟨r4, hc6, h⟩ := bd_some h
    refine cz_i (kz := 2) (by decide) (As := []) (rest := [.int x2, .int x1, .ref (st 12)]) A0_ge C hK hP hS (metJ0_length_8abf5_s2 l D cy st _  hc6) (cwV 0 C.2.2.2.2.2.1 gJ0_indexOf_7cf53_J0_length_8abf5 rfl rfl rfl (by decide +kernel) ⟨(Nat.le_of_ble_eq_true rfl), (Nat.le_of_ble_eq_true rfl)⟩) rfl hl.1 rfl (Nat.le_of_ble_eq_true rfl) dJ0_indexOf_7cf53_30 ⟨Nat.zero_le _, Nat.zero_le _⟩ (fun H locs hP hS => ?_)
    exact absurd h (by intro q; cases q)
  · rw [if_neg c4] at h
    refine lv_aload_n C.1 C.2.1 dJ0_indexOf_7cf53_7 rfl (lv_at hl 0 rfl) ?_
    refine vk_getf C.1 C.2.1 (hK.2.2.2.2.2 2 (by decide)).2.2.1 (Zx_S hK.2.2.2 A0_ge hS) C.2.2.2.2.1 (C.2.2.2.2.2.1 _ mJ0_indexOf_7cf53_s2_0) (fun _ h => h) dJ0_indexOf_7cf53_8 ?_
    refine lv_iload_n C.1 C.2.1 dJ0_indexOf_7cf53_11 rfl (lv_at hl 1 rfl) ?_
    refine lv_iload_n C.1 C.2.1 dJ0_indexOf_7cf53_12 rfl (lv_at hl 2 rfl) ?_
    refine lv_aload_n C.1 C.2.1 dJ0_indexOf_7cf53_13 rfl (lv_at hl 0 rfl) ?_
    obtain ⟨r7, hc9, h⟩ := bd_some h
    refine cz_i (kz := 2) (by decide) (As := []) (rest := [.int x2, .int x1, .ref (st 12)]) A0_ge C hK hP hS (metJ0_length_8abf5_s2 l D cy st _  hc9) (cwV 0 C.2.2.2.2.2.1 gJ0_indexOf_7cf53_J0_length_8abf5 rfl rfl rfl (by decide +kernel) ⟨(Nat.le_of_ble_eq_true rfl), (Nat.le_of_ble_eq_true rfl)⟩) rfl hl.1 rfl (Nat.le_of_ble_eq_true rfl) dJ0_indexOf_7cf53_14 ⟨Nat.zero_le _, Nat.zero_le _⟩ (fun H locs hP hS => ?_)
    obtain ⟨r10, hc12, h⟩ := bd_some h
    refine cs_i (As := [.ref (st 12), .int x1, .int x2, .int r7]) (rest := []) A0_ge C hK hP hS (metJ1_indexOf_4cfef_ab2 l D cy st _ x1 x2 r7 hc12) (va_cwS 4 C.2.2.2.2.2.1 gJ0_indexOf_7cf53_J1_indexOf_4cfef rfl rfl rfl (by decide +kernel) ⟨(Nat.le_of_ble_eq_true rfl), (Nat.le_of_ble_eq_true rfl)⟩) rfl hl.1 rfl (Nat.le_of_ble_eq_true rfl) dJ0_indexOf_7cf53_17 ⟨Nat.zero_le _, Nat.zero_le _⟩ (fun H locs hP hS => ?_)
    refine lv_goto (tgt := 36) C.1 C.2.1 dJ0_indexOf_7cf53_20 (by decide) ?_
    cases h
    exact rt_i C hP hS dJ0_indexOf_7cf53_36
theorem metJ0_indexOf_7cf53_s2 (l : Launch) (D : va_G) (cy : Nat → ClassId) (st : Nat → Nat) (sz : Nat) (x1 : Int32) (x2 : Int32) {r : Int32} (h : fJ0_indexOf_7cf53_s2 x1 x2 = some r) : Met l yJ0_indexOf_7cf53 wsJ0_indexOf_7cf53 rmJ0_indexOf_7cf53_s2 (va_Pc [.ref (st 2), .int x1, .int x2] (Px D [(cy 0, .int), (cy 1, .long), (cy 2, .boolean), (cy 3, .byte), (cy 4, .object "HissHorn$Text")] st V0 sz u00)) (Qi D V0 A0 sz r u00) 0 0 (Ax A0 sz) := by
  refine Met.ofW (cc := cJ0_indexOf_7cf53) (maxL := 3) (ret := (some .int)) (by decide) rfl ?_
  intro p e s m args below meth c s₁ B hml hv
  obtain ⟨rfl, hsz, hP, hK⟩ := hv
  subst hsz
  have C : Cx RJ0 cJ0_indexOf_7cf53 3 (some .int) wsJ0_indexOf_7cf53 p s m _ meth c := ⟨B.exec, B.bytes, hml, B.returns, findClass_of_methodNamed B.named, atoms_spec (ws := wsJ0_indexOf_7cf53) B.pre, B.notSynchronized⟩
  have hl := lv_entry ([.ref (st 2), .int x1, .int x2]) (n := 3) (Nat.le_of_ble_eq_true rfl)
  rw [lg_entry_eq]
  exact wJ0_indexOf_7cf53_s2 C hK x1 x2 h hP va_S.rf hl

/-- java/lang/String.indexOf(I)I of cell s2 -/
def rmJ0_indexOf_0f7a4_s2 : Room := { frames := 3, cells := 0, slots := 0, locals := 70 }
def fJ0_indexOf_0f7a4_s2 (x1 : Int32) : Option Int32 := ((fJ0_indexOf_7cf53_s2 x1 0).bind fun r1 => (some r1))
set_option maxHeartbeats 4000000 in
set_option maxRecDepth 100000 in
theorem wJ0_indexOf_0f7a4_s2 {p : Program} {l : Launch} {e : Env} {s : State} {m : MethodId} {args : Array Value} {below : List Frame} {meth : Method} {c : Code} {D : va_G} {cy : Nat → ClassId} {st : Nat → Nat} (C : Cx RJ0 cJ0_indexOf_0f7a4 2 (some .int) wsJ0_indexOf_0f7a4 p s m args meth c) (hK : Ky D [(cy 0, .int), (cy 1, .long), (cy 2, .boolean), (cy 3, .byte), (cy 4, .object "HissHorn$Text")] st s) (x1 : Int32) {r : Int32} {H : Heap} {locs : List Loc} {ls : Array Slot} (h : fJ0_indexOf_0f7a4_s2 x1 = some r) (hP : va_P D vwCl (V0 u00) H) (hS : va_S (Ax (A0) s.heap.size) s.heap H locs) (hl : lv_has ls 2 [(0, .ref (st 2)), (1, .int x1)]) : W p l e rmJ0_indexOf_0f7a4_s2 s m args below meth c H locs 0 0 (MQ below (Qi D (V0) (A0) s.heap.size r u00) args s 0 0 (Ax (A0) s.heap.size)) (F0 m 0 ls []) := by
  unfold fJ0_indexOf_0f7a4_s2 at h
  refine lv_aload_n C.1 C.2.1 dJ0_indexOf_0f7a4_0 rfl (lv_at hl 0 rfl) ?_
  refine lv_iload_n C.1 C.2.1 dJ0_indexOf_0f7a4_1 rfl (lv_at hl 1 rfl) ?_
  refine lv_iconst (v := 0) C.1 C.2.1 dJ0_indexOf_0f7a4_2 (by decide) ?_
  obtain ⟨r1, hc3, h⟩ := bd_some h
  refine cz_i (kz := 2) (by decide) (As := [.int x1, .int 0]) (rest := []) A0_ge C hK hP hS (metJ0_indexOf_7cf53_s2 l D cy st _ x1 0 hc3) (cwV 2 C.2.2.2.2.2.1 gJ0_indexOf_0f7a4_J0_indexOf_7cf53 rfl rfl rfl (by decide +kernel) ⟨(Nat.le_of_ble_eq_true rfl), (Nat.le_of_ble_eq_true rfl)⟩) rfl hl.1 rfl (Nat.le_of_ble_eq_true rfl) dJ0_indexOf_0f7a4_3 ⟨Nat.zero_le _, Nat.zero_le _⟩ (fun H locs hP hS => ?_)
  cases h
  exact rt_i C hP hS dJ0_indexOf_0f7a4_6
theorem metJ0_indexOf_0f7a4_s2 (l : Launch) (D : va_G) (cy : Nat → ClassId) (st : Nat → Nat) (sz : Nat) (x1 : Int32) {r : Int32} (h : fJ0_indexOf_0f7a4_s2 x1 = some r) : Met l yJ0_indexOf_0f7a4 wsJ0_indexOf_0f7a4 rmJ0_indexOf_0f7a4_s2 (va_Pc [.ref (st 2), .int x1] (Px D [(cy 0, .int), (cy 1, .long), (cy 2, .boolean), (cy 3, .byte), (cy 4, .object "HissHorn$Text")] st V0 sz u00)) (Qi D V0 A0 sz r u00) 0 0 (Ax A0 sz) := by
  refine Met.ofW (cc := cJ0_indexOf_0f7a4) (maxL := 2) (ret := (some .int)) (by decide) rfl ?_
  intro p e s m args below meth c s₁ B hml hv
  obtain ⟨rfl, hsz, hP, hK⟩ := hv
  subst hsz
  have C : Cx RJ0 cJ0_indexOf_0f7a4 2 (some .int) wsJ0_indexOf_0f7a4 p s m _ meth c := ⟨B.exec, B.bytes, hml, B.returns, findClass_of_methodNamed B.named, atoms_spec (ws := wsJ0_indexOf_0f7a4) B.pre, B.notSynchronized⟩
  have hl := lv_entry ([.ref (st 2), .int x1]) (n := 2) (Nat.le_of_ble_eq_true rfl)
  rw [lg_entry_eq]
  exact wJ0_indexOf_0f7a4_s2 C hK x1 h hP va_S.rf hl

/-- java/lang/String.isLatin1()Z of cell s3 -/
def rmJ0_isLatin1_aae02_s3 : Room := { frames := 0, cells := 0, slots := 0, locals := 0 }
theorem mJ0_isLatin1_aae02_s3_0 : Cond.fieldLink RJ0 38 "java/lang/String" "COMPACT_STRINGS" "Z" ∈ wsJ0_isLatin1_aae02 := (List.mem_cons_of_mem _ (List.mem_of_getElem? (i := 0) rfl))
theorem mJ0_isLatin1_aae02_s3_1 : Cond.fieldLink RJ0 15 "java/lang/String" "coder" "B" ∈ wsJ0_isLatin1_aae02 := (List.mem_cons_of_mem _ (List.mem_of_getElem? (i := 1) rfl))
def fJ0_isLatin1_aae02_s3  : Option Int32 := (gd (isB 1) (some 1))
set_option maxHeartbeats 4000000 in
set_option maxRecDepth 100000 in
theorem wJ0_isLatin1_aae02_s3 {p : Program} {l : Launch} {e : Env} {s : State} {m : MethodId} {args : Array Value} {below : List Frame} {meth : Method} {c : Code} {D : va_G} {cy : Nat → ClassId} {st : Nat → Nat} (C : Cx RJ0 cJ0_isLatin1_aae02 1 (some .boolean) wsJ0_isLatin1_aae02 p s m args meth c) (hK : Ky D [(cy 0, .int), (cy 1, .long), (cy 2, .boolean), (cy 3, .byte), (cy 4, .object "HissHorn$Text")] st s)  {r : Int32} {H : Heap} {locs : List Loc} {ls : Array Slot} (h : fJ0_isLatin1_aae02_s3  = some r) (hP : va_P D vwCl (V0 u00) H) (hS : va_S (Ax (A0) s.heap.size) s.heap H locs) (hl : lv_has ls 1 [(0, .ref (st 3))]) : W p l e rmJ0_isLatin1_aae02_s3 s m args below meth c H locs 0 0 (MQ below (Qi D (V0) (A0) s.heap.size r u00) args s 0 0 (Ax (A0) s.heap.size)) (F0 m 0 ls []) := by
  unfold fJ0_isLatin1_aae02_s3 at h
  refine va_gets C.1 C.2.1 hK.2.2.2.2.1 (Zx_S hK.2.2.2 A0_ge hS) C.2.2.2.2.1 (C.2.2.2.2.2.1 _ mJ0_isLatin1_aae02_s3_0) (fun _ h => h) dJ0_isLatin1_aae02_0 ?_
  refine lv_if_eq (tgt := 17) C.1 C.2.1 dJ0_isLatin1_aae02_3 (by decide) (fun c => absurd c (by decide)) (fun _ => ?_)
  refine lv_aload_n C.1 C.2.1 dJ0_isLatin1_aae02_6 rfl (lv_at hl 0 rfl) ?_
  refine vk_getf C.1 C.2.1 (hK.2.2.2.2.2 3 (by decide)).2.1 (Zx_S hK.2.2.2 A0_ge hS) C.2.2.2.2.1 (C.2.2.2.2.2.1 _ mJ0_isLatin1_aae02_s3_1) (fun _ h => h) dJ0_isLatin1_aae02_7 ?_
  refine lv_if_ne (tgt := 17) C.1 C.2.1 dJ0_isLatin1_aae02_10 (by decide) (fun c => absurd c (by decide)) (fun _ => ?_)
  refine lv_iconst (v := 1) C.1 C.2.1 dJ0_isLatin1_aae02_13 (by decide) ?_
  refine lv_goto (tgt := 18) C.1 C.2.1 dJ0_isLatin1_aae02_14 (by decide) ?_
  obtain ⟨hg1, h⟩ := gd_some h
  cases h
  exact rt_z hg1 C hP hS dJ0_isLatin1_aae02_18
theorem metJ0_isLatin1_aae02_s3 (l : Launch) (D : va_G) (cy : Nat → ClassId) (st : Nat → Nat) (sz : Nat)  {r : Int32} (h : fJ0_isLatin1_aae02_s3  = some r) : Met l yJ0_isLatin1_aae02 wsJ0_isLatin1_aae02 rmJ0_isLatin1_aae02_s3 (va_Pc [.ref (st 3)] (Px D [(cy 0, .int), (cy 1, .long), (cy 2, .boolean), (cy 3, .byte), (cy 4, .object "HissHorn$Text")] st V0 sz u00)) (Qi D V0 A0 sz r u00) 0 0 (Ax A0 sz) := by
  refine Met.ofW (cc := cJ0_isLatin1_aae02) (maxL := 1) (ret := (some .boolean)) (by decide) rfl ?_
  intro p e s m args below meth c s₁ B hml hv
  obtain ⟨rfl, hsz, hP, hK⟩ := hv
  subst hsz
  have C : Cx RJ0 cJ0_isLatin1_aae02 1 (some .boolean) wsJ0_isLatin1_aae02 p s m _ meth c := ⟨B.exec, B.bytes, hml, B.returns, findClass_of_methodNamed B.named, atoms_spec (ws := wsJ0_isLatin1_aae02) B.pre, B.notSynchronized⟩
  have hl := lv_entry ([.ref (st 3)]) (n := 1) (Nat.le_of_ble_eq_true rfl)
  rw [lg_entry_eq]
  exact wJ0_isLatin1_aae02_s3 C hK h hP va_S.rf hl

/-- java/lang/String.coder()B of cell s3 -/
def rmJ0_coder_7d493_s3 : Room := { frames := 0, cells := 0, slots := 0, locals := 0 }
theorem mJ0_coder_7d493_s3_0 : Cond.fieldLink RJ0 38 "java/lang/String" "COMPACT_STRINGS" "Z" ∈ wsJ0_coder_7d493 := (List.mem_cons_of_mem _ (List.mem_of_getElem? (i := 0) rfl))
theorem mJ0_coder_7d493_s3_1 : Cond.fieldLink RJ0 15 "java/lang/String" "coder" "B" ∈ wsJ0_coder_7d493 := (List.mem_cons_of_mem _ (List.mem_of_getElem? (i := 1) rfl))
def fJ0_coder_7d493_s3  : Option Int32 := (some 0)
set_option maxHeartbeats 4000000 in
set_option maxRecDepth 100000 in
theorem wJ0_coder_7d493_s3 {p : Program} {l : Launch} {e : Env} {s : State} {m : MethodId} {args : Array Value} {below : List Frame} {meth : Method} {c : Code} {D : va_G} {cy : Nat → ClassId} {st : Nat → Nat} (C : Cx RJ0 cJ0_coder_7d493 1 (some .byte) wsJ0_coder_7d493 p s m args meth c) (hK : Ky D [(cy 0, .int), (cy 1, .long), (cy 2, .boolean), (cy 3, .byte), (cy 4, .object "HissHorn$Text")] st s)  {r : Int32} {H : Heap} {locs : List Loc} {ls : Array Slot} (h : fJ0_coder_7d493_s3  = some r) (hP : va_P D vwCl (V0 u00) H) (hS : va_S (Ax (A0) s.heap.size) s.heap H locs) (hl : lv_has ls 1 [(0, .ref (st 3))]) : W p l e rmJ0_coder_7d493_s3 s m args below meth c H locs 0 0 (MQ below (Qi D (V0) (A0) s.heap.size r u00) args s 0 0 (Ax (A0) s.heap.size)) (F0 m 0 ls []) := by
  unfold fJ0_coder_7d493_s3 at h
  refine va_gets C.1 C.2.1 hK.2.2.2.2.1 (Zx_S hK.2.2.2 A0_ge hS) C.2.2.2.2.1 (C.2.2.2.2.2.1 _ mJ0_coder_7d493_s3_0) (fun _ h => h) dJ0_coder_7d493_0 ?_
  refine lv_if_eq (tgt := 13) C.1 C.2.1 dJ0_coder_7d493_3 (by decide) (fun c => absurd c (by decide)) (fun _ => ?_)
  refine lv_aload_n C.1 C.2.1 dJ0_coder_7d493_6 rfl (lv_at hl 0 rfl) ?_
  refine vk_getf C.1 C.2.1 (hK.2.2.2.2.2 3 (by decide)).2.1 (Zx_S hK.2.2.2 A0_ge hS) C.2.2.2.2.1 (C.2.2.2.2.2.1 _ mJ0_coder_7d493_s3_1) (fun _ h => h) dJ0_coder_7d493_7 ?_
  refine lv_goto (tgt := 14) C.1 C.2.1 dJ0_coder_7d493_10 (by decide) ?_
  cases h
  exact rt_b rfl C hP hS dJ0_coder_7d493_14
theorem metJ0_coder_7d493_s3 (l : Launch) (D : va_G) (cy : Nat → ClassId) (st : Nat → Nat) (sz : Nat)  {r : Int32} (h : fJ0_coder_7d493_s3  = some r) : Met l yJ0_coder_7d493 wsJ0_coder_7d493 rmJ0_coder_7d493_s3 (va_Pc [.ref (st 3)] (Px D [(cy 0, .int), (cy 1, .long), (cy 2, .boolean), (cy 3, .byte), (cy 4, .object "HissHorn$Text")] st V0 sz u00)) (Qi D V0 A0 sz r u00) 0 0 (Ax A0 sz) := by
  refine Met.ofW (cc := cJ0_coder_7d493) (maxL := 1) (ret := (some .byte)) (by decide) rfl ?_
  intro p e s m args below meth c s₁ B hml hv
  obtain ⟨rfl, hsz, hP, hK⟩ := hv
  subst hsz
  have C : Cx RJ0 cJ0_coder_7d493 1 (some .byte) wsJ0_coder_7d493 p s m _ meth c := ⟨B.exec, B.bytes, hml, B.returns, findClass_of_methodNamed B.named, atoms_spec (ws := wsJ0_coder_7d493) B.pre, B.notSynchronized⟩
  have hl := lv_entry ([.ref (st 3)]) (n := 1) (Nat.le_of_ble_eq_true rfl)
  rw [lg_entry_eq]
  exact wJ0_coder_7d493_s3 C hK h hP va_S.rf hl

/-- java/lang/String.length()I of cell s3 -/
def rmJ0_length_8abf5_s3 : Room := { frames := 1, cells := 0, slots := 0, locals := 20 }
theorem mJ0_length_8abf5_s3_0 : Cond.fieldLink RJ0 9 "java/lang/String" "value" "[B" ∈ wsJ0_length_8abf5 := (List.mem_cons_of_mem _ (List.mem_of_getElem? (i := 0) rfl))
def fJ0_length_8abf5_s3  : Option Int32 := ((fJ0_coder_7d493_s3 ).bind fun r1 => (some (0 >>> (r1 &&& 31))))
set_option maxHeartbeats 4000000 in
set_option maxRecDepth 100000 in
theorem wJ0_length_8abf5_s3 {p : Program} {l : Launch} {e : Env} {s : State} {m : MethodId} {args : Array Value} {below : List Frame} {meth : Method} {c : Code} {D : va_G} {cy : Nat → ClassId} {st : Nat → Nat} (C : Cx RJ0 cJ0_length_8abf5 1 (some .int) wsJ0_length_8abf5 p s m args meth c) (hK : Ky D [(cy 0, .int), (cy 1, .long), (cy 2, .boolean), (cy 3, .byte), (cy 4, .object "HissHorn$Text")] st s)  {r : Int32} {H : Heap} {locs : List Loc} {ls : Array Slot} (h : fJ0_length_8abf5_s3  = some r) (hP : va_P D vwCl (V0 u00) H) (hS : va_S (Ax (A0) s.heap.size) s.heap H locs) (hl : lv_has ls 1 [(0, .ref (st 3))]) : W p l e rmJ0_length_8abf5_s3 s m args below meth c H locs 0 0 (MQ below (Qi D (V0) (A0) s.heap.size r u00) args s 0 0 (Ax (A0) s.heap.size)) (F0 m 0 ls []) := by
  unfold fJ0_length_8abf5_s3 at h
  refine lv_aload_n C.1 C.2.1 dJ0_length_8abf5_0 rfl (lv_at hl 0 rfl) ?_
  refine vk_getf C.1 C.2.1 (hK.2.2.2.2.2 3 (by decide)).2.2.1 (Zx_S hK.2.2.2 A0_ge hS) C.2.2.2.2.1 (C.2.2.2.2.2.1 _ mJ0_length_8abf5_s3_0) (fun _ h => h) dJ0_length_8abf5_1 ?_
  refine va_tlen (v := 0) C.1 C.2.1 (hK.2.2.2.2.2 3 (by decide)).2.2.2 (Zx_S hK.2.2.2 A0_ge hS) rfl dJ0_length_8abf5_4 ?_
  refine lv_aload_n C.1 C.2.1 dJ0_length_8abf5_5 rfl (lv_at hl 0 rfl) ?_
  obtain ⟨r1, hc3, h⟩ := bd_some h
  refine cz_i (kz := 3) (by decide) (As := []) (rest := [.int 0]) A0_ge C hK hP hS (metJ0_coder_7d493_s3 l D cy st _  hc3) (cwV 0 C.2.2.2.2.2.1 gJ0_length_8abf5_J0_coder_7d493 rfl rfl rfl (by decide +kernel) ⟨(Nat.le_of_ble_eq_true rfl), (Nat.le_of_ble_eq_true rfl)⟩) rfl hl.1 rfl (Nat.le_of_ble_eq_true rfl) dJ0_length_8abf5_6 ⟨Nat.zero_le _, Nat.zero_le _⟩ (fun H locs hP hS => ?_)
  refine lv_ishr C.1 C.2.1 dJ0_length_8abf5_9 ?_
  cases h
  exact rt_i C hP hS dJ0_length_8abf5_10
theorem metJ0_length_8abf5_s3 (l : Launch) (D : va_G) (cy : Nat → ClassId) (st : Nat → Nat) (sz : Nat)  {r : Int32} (h : fJ0_length_8abf5_s3  = some r) : Met l yJ0_length_8abf5 wsJ0_length_8abf5 rmJ0_length_8abf5_s3 (va_Pc [.ref (st 3)] (Px D [(cy 0, .int), (cy 1, .long), (cy 2, .boolean), (cy 3, .byte), (cy 4, .object "HissHorn$Text")] st V0 sz u00)) (Qi D V0 A0 sz r u00) 0 0 (Ax A0 sz) := by
  refine Met.ofW (cc := cJ0_length_8abf5) (maxL := 1) (ret := (some .int)) (by decide) rfl ?_
  intro p e s m args below meth c s₁ B hml hv
  obtain ⟨rfl, hsz, hP, hK⟩ := hv
  subst hsz
  have C : Cx RJ0 cJ0_length_8abf5 1 (some .int) wsJ0_length_8abf5 p s m _ meth c := ⟨B.exec, B.bytes, hml, B.returns, findClass_of_methodNamed B.named, atoms_spec (ws := wsJ0_length_8abf5) B.pre, B.notSynchronized⟩
  have hl := lv_entry ([.ref (st 3)]) (n := 1) (Nat.le_of_ble_eq_true rfl)
  rw [lg_entry_eq]
  exact wJ0_length_8abf5_s3 C hK h hP va_S.rf hl

/-- java/lang/StringLatin1.indexOfChar([BIII)I -/
def rmJ1_indexOfChar_4cfef_ab3 : Room := { frames := 0, cells := 0, slots := 0, locals := 0 }
def LJ1_indexOfChar_4cfef_ab3_7  : Nat → Int32 → Int32 → Int32 → Option Int32
  | 0, _, _, _ => none
  | n + 1, z3, z4, z5 => (if z3 ≤ z5 then (some (-1)) else (gd (inb z5 0) (if (zB 3 z5.toNatClampNeg) = z4 then (some z5) else ((LJ1_indexOfChar_4cfef_ab3_7 n) z3 z4 (z5 + 1)))))
def fJ1_indexOfChar_4cfef_ab3 (x1 : Int32) (x2 : Int32) (x3 : Int32) : Option Int32 := (lt (x1.toInt8.toInt32) fun v1 => (LJ1_indexOfChar_4cfef_ab3_7  5000 x3 v1 x2))
set_option maxHeartbeats 4000000 in
set_option maxRecDepth 100000 in
theorem wLJ1_indexOfChar_4cfef_ab3_7 {p : Program} {l : Launch} {e : Env} {s : State} {m : MethodId} {args : Array Value} {below : List Frame} {meth : Method} {c : Code} {D : va_G} {cy : Nat → ClassId} {st : Nat → Nat} (C : Cx RJ1 cJ1_indexOfChar_4cfef 6 (some .int) wsJ1_indexOfChar_4cfef p s m args meth c) (hK : Ky D [(cy 0, .int), (cy 1, .long), (cy 2, .boolean), (cy 3, .byte), (cy 4, .object "HissHorn$Text")] st s) {r : Int32}   : ∀ (n : Nat) (z3 : Int32) (z4 : Int32) (z5 : Int32) (H : Heap) (locs : List Loc) (ls : Array Slot), LJ1_indexOfChar_4cfef_ab3_7  n z3 z4 z5 = some r → va_P D vwCl (V0 u00) H → va_S (Ax (A0) s.heap.size) s.heap H locs → lv_has ls 6 [(0, .ref (st 13)), (3, .int z3), (4, .int z4), (5, .int z5)] → W p l e rmJ1_indexOfChar_4cfef_ab3 s m args below meth c H locs 0 0 (MQ below (Qi D (V0) (A0) s.heap.size r u00) args s 0 0 (Ax (A0) s.heap.size)) (F0 m 7 ls []) := by
  intro n
  induction n with
  | zero =>
    intro z3 z4 z5 H locs ls h
    exact absurd h (by intro q; cases q)
  | succ n ih =>
    intro z3 z4 z5 H locs ls h hP hS hl
    rw [LJ1_indexOfChar_4cfef_ab3_7] at h
    refine lv_iload C.1 C.2.1 dJ1_indexOfChar_4cfef_7 (lv_at hl 3 rfl) ?_
    refine lv_iload_n C.1 C.2.1 dJ1_indexOfChar_4cfef_9 rfl (lv_at hl 1 rfl) ?_
    refine lv_icmp_ge (tgt := 31) C.1 C.2.1 dJ1_indexOfChar_4cfef_10 (by decide) (fun c10 => ?_) (fun c10 => ?_)
    · rw [if_pos c10] at h
      refine lv_iconst (v := (-1)) C.1 C.2.1 dJ1_indexOfChar_4cfef_31 (by decide) ?_
      cases h
      exact rt_i C hP hS dJ1_indexOfChar_4cfef_32
    · rw [if_neg c10] at h
      refine lv_aload_n C.1 C.2.1 dJ1_indexOfChar_4cfef_13 rfl (lv_at hl 0 rfl) ?_
      refine lv_iload C.1 C.2.1 dJ1_indexOfChar_4cfef_14 (lv_at hl 3 rfl) ?_
      obtain ⟨hg3, h⟩ := gd_some h
      refine va_tb (v := .int (zB 3 z5.toNatClampNeg)) C.1 C.2.1 (hK.2.2.2.2.2 3 (by decide)).2.2.2 (Zx_S hK.2.2.2 A0_ge hS) (inb_in hg3) rfl dJ1_indexOfChar_4cfef_16 ?_
      refine lv_iload C.1 C.2.1 dJ1_indexOfChar_4cfef_17 (lv_at hl 2 rfl) ?_
      refine lv_icmp_ne (tgt := 25) C.1 C.2.1 dJ1_indexOfChar_4cfef_19 (by decide) (fun c19 => ?_) (fun c19 => ?_)
      · rw [if_neg c19] at h
        refine lv_iinc (v := z5 + 1) (lv' := [(5, .int (z5 + 1)), (0, .ref (st 13)), (3, .int z3), (4, .int z4)]) C.1 C.2.1 dJ1_indexOfChar_4cfef_25 hl (k := 3) rfl rfl (by decide) rfl (fun ls hl => ?_)
        replace hl := lv_sub (l' := [(0, .ref (st 13)), (3, .int z3), (4, .int z4), (5, .int (z5 + 1))]) hl [1, 2, 3, 0] rfl
        refine lv_goto (tgt := 7) C.1 C.2.1 dJ1_indexOfChar_4cfef_28 (by decide) ?_
        exact ih _ _ _ _ _ _ h hP hS hl
      · rw [if_pos c19] at h
        refine lv_iload C.1 C.2.1 dJ1_indexOfChar_4cfef_22 (lv_at hl 3 rfl) ?_
        cases h
        exact rt_i C hP hS dJ1_indexOfChar_4cfef_24
set_option maxHeartbeats 4000000 in
set_option maxRecDepth 100000 in
theorem wJ1_indexOfChar_4cfef_ab3 {p : Program} {l : Launch} {e : Env} {s : State} {m : MethodId} {args : Array Value} {below : List Frame} {meth : Method} {c : Code} {D : va_G} {cy : Nat → ClassId} {st : Nat → Nat} (C : Cx RJ1 cJ1_indexOfChar_4cfef 6 (some .int) wsJ1_indexOfChar_4cfef p s m args meth c) (hK : Ky D [(cy 0, .int), (cy 1, .long), (cy 2, .boolean), (cy 3, .byte), (cy 4, .object "HissHorn$Text")] st s) (x1 : Int32) (x2 : Int32) (x3 : Int32) {r : Int32} {H : Heap} {locs : List Loc} {ls : Array Slot} (h : fJ1_indexOfChar_4cfef_ab3 x1 x2 x3 = some r) (hP : va_P D vwCl (V0 u00) H) (hS : va_S (Ax (A0) s.heap.size) s.heap H locs) (hl : lv_has ls 6 [(0, .ref (st 13)), (1, .int x1), (2, .int x2), (3, .int x3)]) : W p l e rmJ1_indexOfChar_4cfef_ab3 s m args below meth c H locs 0 0 (MQ below (Qi D (V0) (A0) s.heap.size r u00) args s 0 0 (Ax (A0) s.heap.size)) (F0 m 0 ls []) := by
  unfold fJ1_indexOfChar_4cfef_ab3 at h
  refine lv_iload_n C.1 C.2.1 dJ1_indexOfChar_4cfef_0 rfl (lv_at hl 1 rfl) ?_
  refine lv_i2b (v := x1.toInt8.toInt32) C.1 C.2.1 dJ1_indexOfChar_4cfef_1 rfl ?_
  refine lv_topi (fun v1 hv2 => ?_)
  replace h := lt_e hv2 h
  try dsimp only at h
  refine lv_istore (lv' := [(4, .int v1), (0, .ref (st 13)), (1, .int x1), (2, .int x2), (3, .int x3)]) C.1 C.2.1 dJ1_indexOfChar_4cfef_2 hl (by decide) rfl (fun ls hl => ?_)
  replace hl := lv_sub (l' := [(0, .ref (st 13)), (1, .int x1), (2, .int x2), (3, .int x3), (4, .int v1)]) hl [1, 2, 3, 4, 0] rfl
  refine lv_iload_n C.1 C.2.1 dJ1_indexOfChar_4cfef_4 rfl (lv_at hl 2 rfl) ?_
  refine lv_istore (lv' := [(5, .int x2), (0, .ref (st 13)), (1, .int x1), (2, .int x2), (3, .int x3), (4, .int v1)]) C.1 C.2.1 dJ1_indexOfChar_4cfef_5 hl (by decide) rfl (fun ls hl => ?_)
  replace hl := lv_sub (l' := [(0, .ref (st 13)), (1, .int x1), (2, .int x2), (3, .int x3), (4, .int v1), (5, .int x2)]) hl [1, 2, 3, 4, 5, 0] rfl
  exact wLJ1_indexOfChar_4cfef_ab3_7 C hK  5000 _ _ _ _ _ _ h hP hS (lv_sub hl [0, 3, 4, 5] rfl)
theorem metJ1_indexOfChar_4cfef_ab3 (l : Launch) (D : va_G) (cy : Nat → ClassId) (st : Nat → Nat) (sz : Nat) (x1 : Int32) (x2 : Int32) (x3 : Int32) {r : Int32} (h : fJ1_indexOfChar_4cfef_ab3 x1 x2 x3 = some r) : Met l yJ1_indexOfChar_4cfef wsJ1_indexOfChar_4cfef rmJ1_indexOfChar_4cfef_ab3 (va_Pc [.ref (st 13), .int x1, .int x2, .int x3] (Px D [(cy 0, .int), (cy 1, .long), (cy 2, .boolean), (cy 3, .byte), (cy 4, .object "HissHorn$Text")] st V0 sz u00)) (Qi D V0 A0 sz r u00) 0 0 (Ax A0 sz) := by
  refine Met.ofW (cc := cJ1_indexOfChar_4cfef) (maxL := 6) (ret := (some .int)) (by decide) rfl ?_
  intro p e s m args below meth c s₁ B hml hv
  obtain ⟨rfl, hsz, hP, hK⟩ := hv
  subst hsz
  have C : Cx RJ1 cJ1_indexOfChar_4cfef 6 (some .int) wsJ1_indexOfChar_4cfef p s m _ meth c := ⟨B.exec, B.bytes, hml, B.returns, findClass_of_methodNamed B.named, atoms_spec (ws := wsJ1_indexOfChar_4cfef) B.pre, B.notSynchronized⟩
  have hl := lv_entry ([.ref (st 13), .int x1, .int x2, .int x3]) (n := 6) (Nat.le_of_ble_eq_true rfl)
  rw [lg_entry_eq]
  exact wJ1_indexOfChar_4cfef_ab3 C hK x1 x2 x3 h hP va_S.rf hl

/-- java/lang/StringLatin1.indexOf([BIII)I -/
def rmJ1_indexOf_4cfef_ab3 : Room := { frames := 1, cells := 0, slots := 0, locals := 25 }
theorem mJ1_indexOf_4cfef_ab3_0 : Cond.methodLink RJ1 92 Lib.Math.max.name ∈ wsJ1_indexOf_4cfef := (List.mem_cons_of_mem _ (List.mem_of_getElem? (i := 0) rfl))
theorem mJ1_indexOf_4cfef_ab3_1 : Cond.static Lib.Math.max.name ∈ wsJ1_indexOf_4cfef := (List.mem_cons_of_mem _ (List.mem_of_getElem? (i := 1) rfl))
theorem mJ1_indexOf_4cfef_ab3_2 : Cond.initialized "java/lang/Math" ∈ wsJ1_indexOf_4cfef := (List.mem_cons_of_mem _ (List.mem_of_getElem? (i := 2) rfl))
theorem mJ1_indexOf_4cfef_ab3_3 : Cond.code Lib.Math.max.name Lib.Math.max.code 2 (some .int) ∈ wsJ1_indexOf_4cfef := (List.mem_cons_of_mem _ (List.mem_of_getElem? (i := 3) rfl))
theorem mJ1_indexOf_4cfef_ab3_4 : Cond.methodLink RJ1 38 Lib.Math.min.name ∈ wsJ1_indexOf_4cfef := (List.mem_cons_of_mem _ (List.mem_of_getElem? (i := 4) rfl))
theorem mJ1_indexOf_4cfef_ab3_5 : Cond.static Lib.Math.min.name ∈ wsJ1_indexOf_4cfef := (List.mem_cons_of_mem _ (List.mem_of_getElem? (i := 5) rfl))
theorem mJ1_indexOf_4cfef_ab3_6 : Cond.code Lib.Math.min.name Lib.Math.min.code 2 (some .int) ∈ wsJ1_indexOf_4cfef := (List.mem_cons_of_mem _ (List.mem_of_getElem? (i := 6) rfl))
def fJ1_indexOf_4cfef_ab3 (x1 : Int32) (x2 : Int32) (x3 : Int32) : Option Int32 := ((fJ1_canEncode_9a6ad x1).bind fun r1 => (if r1 = 0 then (some (-1)) else (lt (if x2 < 0 then 0 else x2) fun v4 => (lt (if 0 < x3 then 0 else x3) fun v6 => (if v4 < v6 then ((fJ1_indexOfChar_4cfef_ab3 x1 v4 v6).bind fun r8 => (some r8)) else (some (-1)))))))
set_option maxHeartbeats 4000000 in
set_option maxRecDepth 100000 in
theorem wJ1_indexOf_4cfef_ab3 {p : Program} {l : Launch} {e : Env} {s : State} {m : MethodId} {args : Array Value} {below : List Frame} {meth : Method} {c : Code} {D : va_G} {cy : Nat → ClassId} {st : Nat → Nat} (C : Cx RJ1 cJ1_indexOf_4cfef 4 (some .int) wsJ1_indexOf_4cfef p s m args meth c) (hK : Ky D [(cy 0, .int), (cy 1, .long), (cy 2, .boolean), (cy 3, .byte), (cy 4, .object "HissHorn$Text")] st s) (x1 : Int32) (x2 : Int32) (x3 : Int32) {r : Int32} {H : Heap} {locs : List Loc} {ls : Array Slot} (h : fJ1_indexOf_4cfef_ab3 x1 x2 x3 = some r) (hP : va_P D vwCl (V0 u00) H) (hS : va_S (Ax (A0) s.heap.size) s.heap H locs) (hl : lv_has ls 4 [(0, .ref (st 13)), (1, .int x1), (2, .int x2), (3, .int x3)]) : W p l e rmJ1_indexOf_4cfef_ab3 s m args below meth c H locs 0 0 (MQ below (Qi D (V0) (A0) s.heap.size r u00) args s 0 0 (Ax (A0) s.heap.size)) (F0 m 0 ls []) := by
  unfold fJ1_indexOf_4cfef_ab3 at h
  refine lv_iload_n C.1 C.2.1 dJ1_indexOf_4cfef_0 rfl (lv_at hl 1 rfl) ?_
  obtain ⟨r1, hc3, h⟩ := bd_some h
  refine cs_i (As := [.int x1]) (rest := []) A0_ge C hK hP hS (metJ1_canEncode_9a6ad l D cy st _ x1 hc3) (va_cwS 1 C.2.2.2.2.2.1 gJ1_indexOf_4cfef_J1_canEncode_9a6ad rfl rfl rfl (by decide +kernel) ⟨(Nat.le_of_ble_eq_true rfl), (Nat.le_of_ble_eq_true rfl)⟩) rfl hl.1 rfl (Nat.le_of_ble_eq_true rfl) dJ1_indexOf_4cfef_1 ⟨Nat.zero_le _, Nat.zero_le _⟩ (fun H locs hP hS => ?_)
  refine lv_if_ne (tgt := 9) C.1 C.2.1 dJ1_indexOf_4cfef_4 (by decide) (fun c4 => ?_) (fun c4 => ?_)
  · rw [if_neg c4] at h
    refine lv_iload_n C.1 C.2.1 dJ1_indexOf_4cfef_9 rfl (lv_at hl 2 rfl) ?_
    refine lv_iconst (v := 0) C.1 C.2.1 dJ1_indexOf_4cfef_10 (by decide) ?_
    refine va_mmax C.1 C.2.1 (C.2.2.1.trans hl.1.symm) C.2.2.2.2.1 (C.2.2.2.2.2.1 _ mJ1_indexOf_4cfef_ab3_0) (C.2.2.2.2.2.1 _ mJ1_indexOf_4cfef_ab3_1) (C.2.2.2.2.2.1 _ mJ1_indexOf_4cfef_ab3_2) (C.2.2.2.2.2.1 _ mJ1_indexOf_4cfef_ab3_3) (Nat.le_of_ble_eq_true rfl) (Nat.le_of_ble_eq_true rfl) (Nat.zero_le _) (Nat.zero_le _) dJ1_indexOf_4cfef_11 ?_
    refine lv_topi (fun v4 hv5 => ?_)
    replace h := lt_e hv5 h
    try dsimp only at h
    refine lv_istore_n (lv' := [(2, .int v4), (0, .ref (st 13)), (1, .int x1), (3, .int x3)]) C.1 C.2.1 dJ1_indexOf_4cfef_14 rfl hl (by decide) rfl (fun ls hl => ?_)
    replace hl := lv_sub (l' := [(0, .ref (st 13)), (1, .int x1), (2, .int v4), (3, .int x3)]) hl [1, 2, 0, 3] rfl
    refine lv_iload_n C.1 C.2.1 dJ1_indexOf_4cfef_15 rfl (lv_at hl 3 rfl) ?_
    refine lv_aload_n C.1 C.2.1 dJ1_indexOf_4cfef_16 rfl (lv_at hl 0 rfl) ?_
    refine va_tlen (v := 0) C.1 C.2.1 (hK.2.2.2.2.2 3 (by decide)).2.2.2 (Zx_S hK.2.2.2 A0_ge hS) rfl dJ1_indexOf_4cfef_17 ?_
    refine va_mmin C.1 C.2.1 (C.2.2.1.trans hl.1.symm) C.2.2.2.2.1 (C.2.2.2.2.2.1 _ mJ1_indexOf_4cfef_ab3_4) (C.2.2.2.2.2.1 _ mJ1_indexOf_4cfef_ab3_5) (C.2.2.2.2.2.1 _ mJ1_indexOf_4cfef_ab3_2) (C.2.2.2.2.2.1 _ mJ1_indexOf_4cfef_ab3_6) (Nat.le_of_ble_eq_true rfl) (Nat.le_of_ble_eq_true rfl) (Nat.zero_le _) (Nat.zero_le _) dJ1_indexOf_4cfef_18 ?_
    refine lv_topi (fun v6 hv7 => ?_)
    replace h := lt_e hv7 h
    try dsimp only at h
    refine lv_istore_n (lv' := [(3, .int v6), (0, .ref (st 13)), (1, .int x1), (2, .int v4)]) C.1 C.2.1 dJ1_indexOf_4cfef_21 rfl hl (by decide) rfl (fun ls hl => ?_)
    replace hl := lv_sub (l' := [(0, .ref (st 13)), (1, .int x1), (2, .int v4), (3, .int v6)]) hl [1, 2, 3, 0] rfl
    refine lv_iload_n C.1 C.2.1 dJ1_indexOf_4cfef_22 rfl (lv_at hl 2 rfl) ?_
    refine lv_iload_n C.1 C.2.1 dJ1_indexOf_4cfef_23 rfl (lv_at hl 3 rfl) ?_
    refine lv_icmp_lt (tgt := 29) C.1 C.2.1 dJ1_indexOf_4cfef_24 (by decide) (fun c24 => ?_) (fun c24 => ?_)
    · rw [if_pos c24] at h
      refine lv_aload_n C.1 C.2.1 dJ1_indexOf_4cfef_29 rfl (lv_at hl 0 rfl) ?_
      refine lv_iload_n C.1 C.2.1 dJ1_indexOf_4cfef_30 rfl (lv_at hl 1 rfl) ?_
      refine lv_iload_n C.1 C.2.1 dJ1_indexOf_4cfef_31 rfl (lv_at hl 2 rfl) ?_
      refine lv_iload_n C.1 C.2.1 dJ1_indexOf_4cfef_32 rfl (lv_at hl 3 rfl) ?_
      obtain ⟨r8, hc10, h⟩ := bd_some h
      refine cs_i (As := [.ref (st 13), .int x1, .int v4, .int v6]) (rest := []) A0_ge C hK hP hS (metJ1_indexOfChar_4cfef_ab3 l D cy st _ x1 v4 v6 hc10) (va_cwS 4 C.2.2.2.2.2.1 gJ1_indexOf_4cfef_J1_indexOfChar_4cfef rfl rfl rfl (by decide +kernel) ⟨(Nat.le_of_ble_eq_true rfl), (Nat.le_of_ble_eq_true rfl)⟩) rfl hl.1 rfl (Nat.le_of_ble_eq_true rfl) dJ1_indexOf_4cfef_33 ⟨Nat.zero_le _, Nat.zero_le _⟩ (fun H locs hP hS => ?_)
      cases h
      exact rt_i C hP hS dJ1_indexOf_4cfef_36
    · rw [if_neg c24] at h
      refine lv_iconst (v := (-1)) C.1 C.2.1 dJ1_indexOf_4cfef_27 (by decide) ?_
      cases h
      exact rt_i C hP hS dJ1_indexOf_4cfef_28
  · rw [if_pos c4] at h
    refine lv_iconst (v := (-1)) C.1 C.2.1 dJ1_indexOf_4cfef_7 (by decide) ?_
    cases h
    exact rt_i C hP hS dJ1_indexOf_4cfef_8
theorem metJ1_indexOf_4cfef_ab3 (l : Launch) (D : va_G) (cy : Nat → ClassId) (st : Nat → Nat) (sz : Nat) (x1 : Int32) (x2 : Int32) (x3 : Int32) {r : Int32} (h : fJ1_indexOf_4cfef_ab3 x1 x2 x3 = some r) : Met l yJ1_indexOf_4cfef wsJ1_indexOf_4cfef rmJ1_indexOf_4cfef_ab3 (va_Pc [.ref (st 13), .int x1, .int x2, .int x3] (Px D [(cy 0, .int), (cy 1, .long), (cy 2, .boolean), (cy 3, .byte), (cy 4, .object "HissHorn$Text")] st V0 sz u00)) (Qi D V0 A0 sz r u00) 0 0 (Ax A0 sz) := by
  refine Met.ofW (cc := cJ1_indexOf_4cfef) (maxL := 4) (ret := (some .int)) (by decide) rfl ?_
  intro p e s m args below meth c s₁ B hml hv
  obtain ⟨rfl, hsz, hP, hK⟩ := hv
  subst hsz
  have C : Cx RJ1 cJ1_indexOf_4cfef 4 (some .int) wsJ1_indexOf_4cfef p s m _ meth c := ⟨B.exec, B.bytes, hml, B.returns, findClass_of_methodNamed B.named, atoms_spec (ws := wsJ1_indexOf_4cfef) B.pre, B.notSynchronized⟩
  have hl := lv_entry ([.ref (st 13), .int x1, .int x2, .int x3]) (n := 4) (Nat.le_of_ble_eq_true rfl)
  rw [lg_entry_eq]
  exact wJ1_indexOf_4cfef_ab3 C hK x1 x2 x3 h hP va_S.rf hl

/-- java/lang/String.indexOf(II)I of cell s3 -/
def rmJ0_indexOf_7cf53_s3 : Room := { frames := 2, cells := 0, slots := 0, locals := 48 }
theorem mJ0_indexOf_7cf53_s3_0 : Cond.fieldLink RJ0 9 "java/lang/String" "value" "[B" ∈ wsJ0_indexOf_7cf53 := (List.mem_cons_of_mem _ (List.mem_append_left _ (List.mem_of_getElem? (i := 0) rfl)))
def fJ0_indexOf_7cf53_s3 (x1 : Int32) (x2 : Int32) : Option Int32 := ((fJ0_isLatin1_aae02_s3 ).bind fun r1 => (if r1 = 0 then ((fJ0_length_8abf5_s3 ).bind fun r4 => none) else ((fJ0_length_8abf5_s3 ).bind fun r7 => ((fJ1_indexOf_4cfef_ab3 x1 x2 r7).bind fun r10 => (some r10)))))
set_option maxHeartbeats 4000000 in
set_option maxRecDepth 100000 in
theorem wJ0_indexOf_7cf53_s3 {p : Program} {l : Launch} {e : Env} {s : State} {m : MethodId} {args : Array Value} {below : List Frame} {meth : Method} {c : Code} {D : va_G} {cy : Nat → ClassId} {st : Nat → Nat} (C : Cx RJ0 cJ0_indexOf_7cf53 3 (some .int) wsJ0_indexOf_7cf53 p s m args meth c) (hK : Ky D [(cy 0, .int), (cy 1, .long), (cy 2, .boolean), (cy 3, .byte), (cy 4, .object "HissHorn$Text")] st s) (x1 : Int32) (x2 : Int32) {r : Int32} {H : Heap} {locs : List Loc} {ls : Array Slot} (h : fJ0_indexOf_7cf53_s3 x1 x2 = some r) (hP : va_P D vwCl (V0 u00) H) (hS : va_S (Ax (A0) s.heap.size) s.heap H locs) (hl : lv_has ls 3 [(0, .ref (st 3)), (1, .int x1), (2, .int x2)]) : W p l e rmJ0_indexOf_7cf53_s3 s m args below meth c H locs 0 0 (MQ below (Qi D (V0) (A0) s.heap.size r u00) args s 0 0 (Ax (A0) s.heap.size)) (F0 m 0 ls []) := by
  unfold fJ0_indexOf_7cf53_s3 at h
  refine lv_aload_n C.1 C.2.1 dJ0_indexOf_7cf53_0 rfl (lv_at hl 0 rfl) ?_
  obtain ⟨r1, hc3, h⟩ := bd_some h
  refine cz_i (kz := 3) (by decide) (As := []) (rest := []) A0_ge C hK hP hS (metJ0_isLatin1_aae02_s3 l D cy st _  hc3) (cwV 0 C.2.2.2.2.2.1 gJ0_indexOf_7cf53_J0_isLatin1_aae02 rfl rfl rfl (by decide +kernel) ⟨(Nat.le_of_ble_eq_true rfl), (Nat.le_of_ble_eq_true rfl)⟩) rfl hl.1 rfl (Nat.le_of_ble_eq_true rfl) dJ0_indexOf_7cf53_1 ⟨Nat.zero_le _, Nat.zero_le _⟩ (fun H locs hP hS => ?_)
  refine lv_if_eq (tgt := 23) C.1 C.2.1 dJ0_indexOf_7cf53_4 (by decide) (fun c4 => ?_) (fun c4 => ?_)
  · rw [if_pos c4] at h
    refine lv_aload_n C.1 C.2.1 dJ0_indexOf_7cf53_23 rfl (lv_at hl 0 rfl) ?_
    refine vk_getf C.1 C.2.1 (hK.2.2.2.2.2 3 (by decide)).2.2.1 (Zx_S hK.2.2.2 A0_ge hS) C.2.2.2.2.1 (C.2.2.2.2.2.1 _ mJ0_indexOf_7cf53_s3_0) (fun _ h => h) dJ0_indexOf_7cf53_24 ?_
    refine lv_iload_n C.1 C.2.1 dJ0_indexOf_7cf53_27 rfl (lv_at hl 1 rfl) ?_
    refine lv_iload_n C.1 C.2.1 dJ0_indexOf_7cf53_28 rfl (lv_at hl 2 rfl) ?_
    refine lv_aload_n C.1 C.2.1 dJ0_indexOf_7cf53_29 rfl (lv_at hl 0 rfl) ?_
    obtain ⟨r4, hc6, h⟩ := bd_some h
    refine cz_i (kz := 3) (by decide) (As := []) (rest := [.int x2, .int x1, .ref (st 13)]) A0_ge C hK hP hS (metJ0_length_8abf5_s3 l D cy st _  hc6) (cwV 0 C.2.2.2.2.2.1 gJ0_indexOf_7cf53_J0_length_8abf5 rfl rfl rfl (by decide +kernel) ⟨(Nat.le_of_ble_eq_true rfl), (Nat.le_of_ble_eq_true rfl)⟩) rfl hl.1 rfl (Nat.le_of_ble_eq_true rfl) dJ0_indexOf_7cf53_30 ⟨Nat.zero_le _, Nat.zero_le _⟩ (fun H locs hP hS => ?_)
    exact absurd h (by intro q; cases q)
  · rw [if_neg c4] at h
    refine lv_aload_n C.1 C.2.1 dJ0_indexOf_7cf53_7 rfl (lv_at hl 0 rfl) ?_
    refine vk_getf C.1 C.2.1 (hK.2.2.2.2.2 3 (by decide)).2.2.1 (Zx_S hK.2.2.2 A0_ge hS) C.2.2.2.2.1 (C.2.2.2.2.2.1 _ mJ0_indexOf_7cf53_s3_0) (fun _ h => h) dJ0_indexOf_7cf53_8 ?_
    refine lv_iload_n C.1 C.2.1 dJ0_indexOf_7cf53_11 rfl (lv_at hl 1 rfl) ?_
    refine lv_iload_n C.1 C.2.1 dJ0_indexOf_7cf53_12 rfl (lv_at hl 2 rfl) ?_
    refine lv_aload_n C.1 C.2.1 dJ0_indexOf_7cf53_13 rfl (lv_at hl 0 rfl) ?_
    obtain ⟨r7, hc9, h⟩ := bd_some h
    refine cz_i (kz := 3) (by decide) (As := []) (rest := [.int x2, .int x1, .ref (st 13)]) A0_ge C hK hP hS (metJ0_length_8abf5_s3 l D cy st _  hc9) (cwV 0 C.2.2.2.2.2.1 gJ0_indexOf_7cf53_J0_length_8abf5 rfl rfl rfl (by decide +kernel) ⟨(Nat.le_of_ble_eq_true rfl), (Nat.le_of_ble_eq_true rfl)⟩) rfl hl.1 rfl (Nat.le_of_ble_eq_true rfl) dJ0_indexOf_7cf53_14 ⟨Nat.zero_le _, Nat.zero_le _⟩ (fun H locs hP hS => ?_)
    obtain ⟨r10, hc12, h⟩ := bd_some h
    refine cs_i (As := [.ref (st 13), .int x1, .int x2, .int r7]) (rest := []) A0_ge C hK hP hS (metJ1_indexOf_4cfef_ab3 l D cy st _ x1 x2 r7 hc12) (va_cwS 4 C.2.2.2.2.2.1 gJ0_indexOf_7cf53_J1_indexOf_4cfef rfl rfl rfl (by decide +kernel) ⟨(Nat.le_of_ble_eq_true rfl), (Nat.le_of_ble_eq_true rfl)⟩) rfl hl.1 rfl (Nat.le_of_ble_eq_true rfl) dJ0_indexOf_7cf53_17 ⟨Nat.zero_le _, Nat.zero_le _⟩ (fun H locs hP hS => ?_)
    refine lv_goto (tgt := 36) C.1 C.2.1 dJ0_indexOf_7cf53_20 (by decide) ?_
    cases h
    exact rt_i C hP hS dJ0_indexOf_7cf53_36
theorem metJ0_indexOf_7cf53_s3 (l : Launch) (D : va_G) (cy : Nat → ClassId) (st : Nat → Nat) (sz : Nat) (x1 : Int32) (x2 : Int32) {r : Int32} (h : fJ0_indexOf_7cf53_s3 x1 x2 = some r) : Met l yJ0_indexOf_7cf53 wsJ0_indexOf_7cf53 rmJ0_indexOf_7cf53_s3 (va_Pc [.ref (st 3), .int x1, .int x2] (Px D [(cy 0, .int), (cy 1, .long), (cy 2, .boolean), (cy 3, .byte), (cy 4, .object "HissHorn$Text")] st V0 sz u00)) (Qi D V0 A0 sz r u00) 0 0 (Ax A0 sz) := by
  refine Met.ofW (cc := cJ0_indexOf_7cf53) (maxL := 3) (ret := (some .int)) (by decide) rfl ?_
  intro p e s m args below meth c s₁ B hml hv
  obtain ⟨rfl, hsz, hP, hK⟩ := hv
  subst hsz
  have C : Cx RJ0 cJ0_indexOf_7cf53 3 (some .int) wsJ0_indexOf_7cf53 p s m _ meth c := ⟨B.exec, B.bytes, hml, B.returns, findClass_of_methodNamed B.named, atoms_spec (ws := wsJ0_indexOf_7cf53) B.pre, B.notSynchronized⟩
  have hl := lv_entry ([.ref (st 3), .int x1, .int x2]) (n := 3) (Nat.le_of_ble_eq_true rfl)
  rw [lg_entry_eq]
  exact wJ0_indexOf_7cf53_s3 C hK x1 x2 h hP va_S.rf hl

/-- java/lang/String.indexOf(I)I of cell s3 -/
def rmJ0_indexOf_0f7a4_s3 : Room := { frames := 3, cells := 0, slots := 0, locals := 70 }
def fJ0_indexOf_0f7a4_s3 (x1 : Int32) : Option Int32 := ((fJ0_indexOf_7cf53_s3 x1 0).bind fun r1 => (some r1))
set_option maxHeartbeats 4000000 in
set_option maxRecDepth 100000 in
theorem wJ0_indexOf_0f7a4_s3 {p : Program} {l : Launch} {e : Env} {s : State} {m : MethodId} {args : Array Value} {below : List Frame} {meth : Method} {c : Code} {D : va_G} {cy : Nat → ClassId} {st : Nat → Nat} (C : Cx RJ0 cJ0_indexOf_0f7a4 2 (some .int) wsJ0_indexOf_0f7a4 p s m args meth c) (hK : Ky D [(cy 0, .int), (cy 1, .long), (cy 2, .boolean), (cy 3, .byte), (cy 4, .object "HissHorn$Text")] st s) (x1 : Int32) {r : Int32} {H : Heap} {locs : List Loc} {ls : Array Slot} (h : fJ0_indexOf_0f7a4_s3 x1 = some r) (hP : va_P D vwCl (V0 u00) H) (hS : va_S (Ax (A0) s.heap.size) s.heap H locs) (hl : lv_has ls 2 [(0, .ref (st 3)), (1, .int x1)]) : W p l e rmJ0_indexOf_0f7a4_s3 s m args below meth c H locs 0 0 (MQ below (Qi D (V0) (A0) s.heap.size r u00) args s 0 0 (Ax (A0) s.heap.size)) (F0 m 0 ls []) := by
  unfold fJ0_indexOf_0f7a4_s3 at h
  refine lv_aload_n C.1 C.2.1 dJ0_indexOf_0f7a4_0 rfl (lv_at hl 0 rfl) ?_
  refine lv_iload_n C.1 C.2.1 dJ0_indexOf_0f7a4_1 rfl (lv_at hl 1 rfl) ?_
  refine lv_iconst (v := 0) C.1 C.2.1 dJ0_indexOf_0f7a4_2 (by decide) ?_
  obtain ⟨r1, hc3, h⟩ := bd_some h
  refine cz_i (kz := 3) (by decide) (As := [.int x1, .int 0]) (rest := []) A0_ge C hK hP hS (metJ0_indexOf_7cf53_s3 l D cy st _ x1 0 hc3) (cwV 2 C.2.2.2.2.2.1 gJ0_indexOf_0f7a4_J0_indexOf_7cf53 rfl rfl rfl (by decide +kernel) ⟨(Nat.le_of_ble_eq_true rfl), (Nat.le_of_ble_eq_true rfl)⟩) rfl hl.1 rfl (Nat.le_of_ble_eq_true rfl) dJ0_indexOf_0f7a4_3 ⟨Nat.zero_le _, Nat.zero_le _⟩ (fun H locs hP hS => ?_)
  cases h
  exact rt_i C hP hS dJ0_indexOf_0f7a4_6
theorem metJ0_indexOf_0f7a4_s3 (l : Launch) (D : va_G) (cy : Nat → ClassId) (st : Nat → Nat) (sz : Nat) (x1 : Int32) {r : Int32} (h : fJ0_indexOf_0f7a4_s3 x1 = some r) : Met l yJ0_indexOf_0f7a4 wsJ0_indexOf_0f7a4 rmJ0_indexOf_0f7a4_s3 (va_Pc [.ref (st 3), .int x1] (Px D [(cy 0, .int), (cy 1, .long), (cy 2, .boolean), (cy 3, .byte), (cy 4, .object "HissHorn$Text")] st V0 sz u00)) (Qi D V0 A0 sz r u00) 0 0 (Ax A0 sz) := by
  refine Met.ofW (cc := cJ0_indexOf_0f7a4) (maxL := 2) (ret := (some .int)) (by decide) rfl ?_
  intro p e s m args below meth c s₁ B hml hv
  obtain ⟨rfl, hsz, hP, hK⟩ := hv
  subst hsz
  have C : Cx RJ0 cJ0_indexOf_0f7a4 2 (some .int) wsJ0_indexOf_0f7a4 p s m _ meth c := ⟨B.exec, B.bytes, hml, B.returns, findClass_of_methodNamed B.named, atoms_spec (ws := wsJ0_indexOf_0f7a4) B.pre, B.notSynchronized⟩
  have hl := lv_entry ([.ref (st 3), .int x1]) (n := 2) (Nat.le_of_ble_eq_true rfl)
  rw [lg_entry_eq]
  exact wJ0_indexOf_0f7a4_s3 C hK x1 h hP va_S.rf hl
