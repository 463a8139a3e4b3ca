theorem zdX12_isIn_0 : (and (and (and (and (zk cX12_isIn 0 (.iload_n 0) 1) (zk cX12_isIn 1 (.iload_n 1) 1)) (zk cX12_isIn 2 (.if_icmp .lt 12) 3)) (and (zk cX12_isIn 14 (.iconst 0) 1) (zk cX12_isIn 15 (.ireturn) 1))) (and (and (and (zk cX12_isIn 5 (.iload_n 0) 1) (zk cX12_isIn 6 (.iload_n 2) 1)) (zk cX12_isIn 7 (.if_icmp .gt 7) 3)) (and (zk cX12_isIn 10 (.iconst 1) 1) (zk cX12_isIn 11 (.goto 4) 3)))) = true := by decide +kernel
theorem dX12_isIn_0 : decode cX12_isIn 0 = .ok (.iload_n 0, 1) := zk_of (zk_l (zk_l (zk_l (zk_l zdX12_isIn_0))))
theorem dX12_isIn_1 : decode cX12_isIn 1 = .ok (.iload_n 1, 1) := zk_of (zk_r (zk_l (zk_l (zk_l zdX12_isIn_0))))
theorem dX12_isIn_2 : decode cX12_isIn 2 = .ok (.if_icmp .lt 12, 3) := zk_of (zk_r (zk_l (zk_l zdX12_isIn_0)))
theorem dX12_isIn_14 : decode cX12_isIn 14 = .ok (.iconst 0, 1) := zk_of (zk_l (zk_r (zk_l zdX12_isIn_0)))
theorem dX12_isIn_15 : decode cX12_isIn 15 = .ok (.ireturn, 1) := zk_of (zk_r (zk_r (zk_l zdX12_isIn_0)))
theorem dX12_isIn_5 : decode cX12_isIn 5 = .ok (.iload_n 0, 1) := zk_of (zk_l (zk_l (zk_l (zk_r zdX12_isIn_0))))
theorem dX12_isIn_6 : decode cX12_isIn 6 = .ok (.iload_n 2, 1) := zk_of (zk_r (zk_l (zk_l (zk_r zdX12_isIn_0))))
theorem dX12_isIn_7 : decode cX12_isIn 7 = .ok (.if_icmp .gt 7, 3) := zk_of (zk_r (zk_l (zk_r zdX12_isIn_0)))
theorem dX12_isIn_10 : decode cX12_isIn 10 = .ok (.iconst 1, 1) := zk_of (zk_l (zk_r (zk_r zdX12_isIn_0)))
theorem dX12_isIn_11 : decode cX12_isIn 11 = .ok (.goto 4, 3) := zk_of (zk_r (zk_r (zk_r zdX12_isIn_0)))
/-- HissHornModel.isIn(III)Z -/
def rmX12_isIn : Room := { frames := 0, cells := 0, slots := 0, locals := 0 }
def fX12_isIn (x0 : Int32) (x1 : Int32) (x2 : Int32) : Option Int32 := (if x0 < x1 then (gd (isB 0) (some 0)) else (if x2 < x0 then (gd (isB 0) (some 0)) else (gd (isB 1) (some 1))))
set_option maxHeartbeats 4000000 in
set_option maxRecDepth 100000 in
theorem wX12_isIn {p : Program} {l : Launch} {e : Env} {s : State} {m : MethodId} {args : Array Value} {below : List Frame} {meth : Method} {c : Code} {D : va_G} {cy : Nat → ClassId} {st : Nat → Nat} (C : Cx RX12 cX12_isIn 3 (some .boolean) wsX12_isIn p s m args meth c) (hK : Ky D [(cy 0, .int), (cy 1, .long), (cy 2, .boolean), (cy 3, .byte), (cy 4, .object "HissHorn$Text")] st s) (x0 : Int32) (x1 : Int32) (x2 : Int32) {r : Int32} {H : Heap} {locs : List Loc} {ls : Array Slot} (h : fX12_isIn x0 x1 x2 = some r) (hP : va_P D vwCl (V0 u00) H) (hS : va_S (Ax (A0) s.heap.size) s.heap H locs) (hl : lv_has ls 3 [(0, .int x0), (1, .int x1), (2, .int x2)]) : W p l e rmX12_isIn s m args below meth c H locs 0 0 (MQ below (Qi D (V0) (A0) s.heap.size r u00) args s 0 0 (Ax (A0) s.heap.size)) (F0 m 0 ls []) := by
  unfold fX12_isIn at h
  refine lv_iload_n C.1 C.2.1 dX12_isIn_0 rfl (lv_at hl 0 rfl) ?_
  refine lv_iload_n C.1 C.2.1 dX12_isIn_1 rfl (lv_at hl 1 rfl) ?_
  refine lv_icmp_lt (tgt := 14) C.1 C.2.1 dX12_isIn_2 (by decide) (fun c2 => ?_) (fun c2 => ?_)
  · rw [if_pos c2] at h
    refine lv_iconst (v := 0) C.1 C.2.1 dX12_isIn_14 (by decide) ?_
    obtain ⟨hg1, h⟩ := gd_some h
    cases h
    exact rt_z hg1 C hP hS dX12_isIn_15
  · rw [if_neg c2] at h
    refine lv_iload_n C.1 C.2.1 dX12_isIn_5 rfl (lv_at hl 0 rfl) ?_
    refine lv_iload_n C.1 C.2.1 dX12_isIn_6 rfl (lv_at hl 2 rfl) ?_
    refine lv_icmp_gt (tgt := 14) C.1 C.2.1 dX12_isIn_7 (by decide) (fun c7 => ?_) (fun c7 => ?_)
    · rw [if_pos c7] at h
      refine lv_iconst (v := 0) C.1 C.2.1 dX12_isIn_14 (by decide) ?_
      obtain ⟨hg2, h⟩ := gd_some h
      cases h
      exact rt_z hg2 C hP hS dX12_isIn_15
    · rw [if_neg c7] at h
      refine lv_iconst (v := 1) C.1 C.2.1 dX12_isIn_10 (by decide) ?_
      refine lv_goto (tgt := 15) C.1 C.2.1 dX12_isIn_11 (by decide) ?_
      obtain ⟨hg3, h⟩ := gd_some h
      cases h
      exact rt_z hg3 C hP hS dX12_isIn_15
theorem metX12_isIn (l : Launch) (D : va_G) (cy : Nat → ClassId) (st : Nat → Nat) (sz : Nat) (x0 : Int32) (x1 : Int32) (x2 : Int32) {r : Int32} (h : fX12_isIn x0 x1 x2 = some r) : Met l yX12_isIn wsX12_isIn rmX12_isIn (va_Pc [.int x0, .int x1, .int x2] (Px D [(cy 0, .int), (cy 1, .long), (cy 2, .boolean), (cy 3, .byte), (cy 4, .object "HissHorn$Text")] st V0 sz u00)) (Qi D V0 A0 sz r u00) 0 0 (Ax A0 sz) := by
  refine Met.ofW (cc := cX12_isIn) (maxL := 3) (ret := (some .boolean)) (by decide) rfl ?_
  intro p e s m args below meth c s₁ B hml hv
  obtain ⟨rfl, hsz, hP, hK⟩ := hv
  subst hsz
  have C : Cx RX12 cX12_isIn 3 (some .boolean) wsX12_isIn p s m _ meth c := ⟨B.exec, B.bytes, hml, B.returns, findClass_of_methodNamed B.named, atoms_spec (ws := wsX12_isIn) B.pre, B.notSynchronized⟩
  have hl := lv_entry ([.int x0, .int x1, .int x2]) (n := 3) (Nat.le_of_ble_eq_true rfl)
  rw [lg_entry_eq]
  exact wX12_isIn C hK x0 x1 x2 h hP va_S.rf hl

theorem zdX12_days_0 : (and (and (and (and (and (zk cX12_days 0 (.aload_n 0) 1) (zk cX12_days 1 (.iconst 0) 1)) (and (zk cX12_days 2 (.putfield 151) 3) (zk cX12_days 5 (.iload_n 1) 1))) (and (and (zk cX12_days 6 (.iconst 0) 1) (zk cX12_days 7 (.bipush 60) 2)) (zk cX12_days 9 (.invokestatic 155) 3))) (and (and (and (zk cX12_days 12 (.ifCond .eq 14) 3) (zk cX12_days 26 (.iconst (-1)) 1)) (zk cX12_days 27 (.ireturn) 1)) (and (and (zk cX12_days 15 (.aload_n 0) 1) (zk cX12_days 16 (.getfield 159) 3)) (zk cX12_days 19 (.iload_n 1) 1)))) (and (and (and (and (zk cX12_days 20 (.iadd) 1) (zk cX12_days 21 (.bipush 120) 2)) (zk cX12_days 23 (.if_icmp .le 5) 3)) (and (and (zk cX12_days 28 (.aload_n 0) 1) (zk cX12_days 29 (.dup) 1)) (zk cX12_days 30 (.getfield 159) 3))) (and (and (and (zk cX12_days 33 (.iload_n 1) 1) (zk cX12_days 34 (.iadd) 1)) (zk cX12_days 35 (.putfield 159) 3)) (and (and (zk cX12_days 38 (.aload_n 0) 1) (zk cX12_days 39 (.getfield 159) 3)) (zk cX12_days 42 (.ireturn) 1))))) = true := by decide +kernel
theorem dX12_days_0 : decode cX12_days 0 = .ok (.aload_n 0, 1) := zk_of (zk_l (zk_l (zk_l (zk_l (zk_l zdX12_days_0)))))
theorem dX12_days_1 : decode cX12_days 1 = .ok (.iconst 0, 1) := zk_of (zk_r (zk_l (zk_l (zk_l (zk_l zdX12_days_0)))))
theorem dX12_days_2 : decode cX12_days 2 = .ok (.putfield 151, 3) := zk_of (zk_l (zk_r (zk_l (zk_l (zk_l zdX12_days_0)))))
theorem dX12_days_5 : decode cX12_days 5 = .ok (.iload_n 1, 1) := zk_of (zk_r (zk_r (zk_l (zk_l (zk_l zdX12_days_0)))))
theorem dX12_days_6 : decode cX12_days 6 = .ok (.iconst 0, 1) := zk_of (zk_l (zk_l (zk_r (zk_l (zk_l zdX12_days_0)))))
theorem dX12_days_7 : decode cX12_days 7 = .ok (.bipush 60, 2) := zk_of (zk_r (zk_l (zk_r (zk_l (zk_l zdX12_days_0)))))
theorem dX12_days_9 : decode cX12_days 9 = .ok (.invokestatic 155, 3) := zk_of (zk_r (zk_r (zk_l (zk_l zdX12_days_0))))
theorem dX12_days_12 : decode cX12_days 12 = .ok (.ifCond .eq 14, 3) := zk_of (zk_l (zk_l (zk_l (zk_r (zk_l zdX12_days_0)))))
theorem dX12_days_26 : decode cX12_days 26 = .ok (.iconst (-1), 1) := zk_of (zk_r (zk_l (zk_l (zk_r (zk_l zdX12_days_0)))))
theorem dX12_days_27 : decode cX12_days 27 = .ok (.ireturn, 1) := zk_of (zk_r (zk_l (zk_r (zk_l zdX12_days_0))))
theorem dX12_days_15 : decode cX12_days 15 = .ok (.aload_n 0, 1) := zk_of (zk_l (zk_l (zk_r (zk_r (zk_l zdX12_days_0)))))
theorem dX12_days_16 : decode cX12_days 16 = .ok (.getfield 159, 3) := zk_of (zk_r (zk_l (zk_r (zk_r (zk_l zdX12_days_0)))))
theorem dX12_days_19 : decode cX12_days 19 = .ok (.iload_n 1, 1) := zk_of (zk_r (zk_r (zk_r (zk_l zdX12_days_0))))
theorem dX12_days_20 : decode cX12_days 20 = .ok (.iadd, 1) := zk_of (zk_l (zk_l (zk_l (zk_l (zk_r zdX12_days_0)))))
theorem dX12_days_21 : decode cX12_days 21 = .ok (.bipush 120, 2) := zk_of (zk_r (zk_l (zk_l (zk_l (zk_r zdX12_days_0)))))
theorem dX12_days_23 : decode cX12_days 23 = .ok (.if_icmp .le 5, 3) := zk_of (zk_r (zk_l (zk_l (zk_r zdX12_days_0))))
theorem dX12_days_28 : decode cX12_days 28 = .ok (.aload_n 0, 1) := zk_of (zk_l (zk_l (zk_r (zk_l (zk_r zdX12_days_0)))))
theorem dX12_days_29 : decode cX12_days 29 = .ok (.dup, 1) := zk_of (zk_r (zk_l (zk_r (zk_l (zk_r zdX12_days_0)))))
theorem dX12_days_30 : decode cX12_days 30 = .ok (.getfield 159, 3) := zk_of (zk_r (zk_r (zk_l (zk_r zdX12_days_0))))
theorem dX12_days_33 : decode cX12_days 33 = .ok (.iload_n 1, 1) := zk_of (zk_l (zk_l (zk_l (zk_r (zk_r zdX12_days_0)))))
theorem dX12_days_34 : decode cX12_days 34 = .ok (.iadd, 1) := zk_of (zk_r (zk_l (zk_l (zk_r (zk_r zdX12_days_0)))))
theorem dX12_days_35 : decode cX12_days 35 = .ok (.putfield 159, 3) := zk_of (zk_r (zk_l (zk_r (zk_r zdX12_days_0))))
theorem dX12_days_38 : decode cX12_days 38 = .ok (.aload_n 0, 1) := zk_of (zk_l (zk_l (zk_r (zk_r (zk_r zdX12_days_0)))))
theorem dX12_days_39 : decode cX12_days 39 = .ok (.getfield 159, 3) := zk_of (zk_r (zk_l (zk_r (zk_r (zk_r zdX12_days_0)))))
theorem dX12_days_42 : decode cX12_days 42 = .ok (.ireturn, 1) := zk_of (zk_r (zk_r (zk_r (zk_r zdX12_days_0))))
set_option maxRecDepth 20000 in
theorem ggX12_days_X12_isIn : GoodIn wsX12_days wsX12_isIn := ggi (fun w h => List.mem_cons_of_mem _ (List.mem_append_left _ (List.mem_append_right _ h))) gs_X12_isIn
set_option maxRecDepth 20000 in
theorem gX12_days_X12_isIn : GoodIn wsX12_days (va_wsS RX12 155 yX12_isIn wsX12_isIn) := goodIn_app (goodIn_of _ (by decide +kernel)) ggX12_days_X12_isIn
/-- HissHornModel.days(I)I of cell 0 -/
def rmX12_days_0 : Room := { frames := 1, cells := 0, slots := 0, locals := 22 }
theorem hX12_days_0_X12 : ∀ w ∈ u_ws RX12 TX12 69, w ∈ wsX12_days := fun w h => (List.mem_cons_of_mem _ (List.mem_append_right _ h))
theorem mX12_days_0_1 : Cond.fieldLink RX12 151 "HissHornModel" "thrown" "I" ∈ wsX12_days := (List.mem_cons_of_mem _ (List.mem_append_left _ (List.mem_append_left _ (List.mem_of_getElem? (i := 3) rfl))))
theorem mX12_days_0_2 : Cond.fieldLink RX12 159 "HissHornModel" "now" "I" ∈ wsX12_days := (List.mem_cons_of_mem _ (List.mem_append_left _ (List.mem_append_left _ (List.mem_of_getElem? (i := 4) rfl))))
def fX12_days_0 (x1 : Int32) (u : SX) : Option (Int32 × SX) := (lt (sI u 0 0) fun u1 => ((fX12_isIn x1 0 60).bind fun r3 => (if r3 = 0 then (some ((-1), u1)) else (if ((u1.1 1) + x1) ≤ 120 then (lt (sI u1 1 ((u1.1 1) + x1)) fun u6 => (some (u6.1 1, u6))) else (some ((-1), u1))))))
set_option maxHeartbeats 4000000 in
set_option maxRecDepth 100000 in
theorem wX12_days_0 {p : Program} {l : Launch} {e : Env} {s : State} {m : MethodId} {args : Array Value} {below : List Frame} {meth : Method} {c : Code} {D : va_G} {cy : Nat → ClassId} {ad st : Nat → Nat} (C : Cx RX12 cX12_days 2 (some .int) wsX12_days p s m args meth c) (hK : Ky D [(cy 0, .int), (cy 1, .long), (cy 2, .boolean), (cy 3, .byte), (cy 4, .object "HissHorn$Text")] st s) (hJ : JM ad st) (x1 : Int32) {u : SX} {r : Int32} {u' : SX} {H : Heap} {locs : List Loc} {ls : Array Slot} (h : fX12_days_0 x1 u = some (r, u')) (hP : va_P D vwCl (VM cy ad st u) H) (hS : va_S (Ax (AM ad) s.heap.size) s.heap H locs) (hl : lv_has ls 2 [(0, .ref (ad 0)), (1, .int x1)]) : W p l e rmX12_days_0 s m args below meth c H locs 0 0 (MQ below (Qi D (VM cy ad st) (AM ad) s.heap.size r u') args s 0 0 (Ax (AM ad) s.heap.size)) (F0 m 0 ls []) := by
  unfold fX12_days_0 at h
  refine lv_aload_n C.1 C.2.1 dX12_days_0 rfl (lv_at hl 0 rfl) ?_
  refine lv_iconst (v := 0) C.1 C.2.1 dX12_days_1 (by decide) ?_
  refine pM_0_thrown C hX12_days_0_X12 hK hP hJ hS mX12_days_0_1 dX12_days_2 (fun H locs hP hS => ?_)
  obtain ⟨u1, hu2, h⟩ := lt_some h
  rw [← hu2] at hP
  refine lv_iload_n C.1 C.2.1 dX12_days_5 rfl (lv_at hl 1 rfl) ?_
  refine lv_iconst (v := 0) C.1 C.2.1 dX12_days_6 (by decide) ?_
  refine lv_bipush (v := 60) C.1 C.2.1 dX12_days_7 (by decide) ?_
  obtain ⟨r3, hc5, h⟩ := bd_some h
  refine cs_i (As := [.int x1, .int 0, .int 60]) (rest := []) (AM_ge hJ) C hK hP hS (metX12_isIn l D cy st _ x1 0 60 hc5) (va_cwS 3 C.2.2.2.2.2.1 gX12_days_X12_isIn rfl rfl rfl (by decide +kernel) ⟨(Nat.le_of_ble_eq_true rfl), (Nat.le_of_ble_eq_true rfl)⟩) rfl hl.1 rfl (Nat.le_of_ble_eq_true rfl) dX12_days_9 ⟨Nat.zero_le _, Nat.zero_le _⟩ (fun H locs hP hS => ?_)
  refine lv_if_eq (tgt := 26) C.1 C.2.1 dX12_days_12 (by decide) (fun c12 => ?_) (fun c12 => ?_)
  · rw [if_pos c12] at h
    refine lv_iconst (v := (-1)) C.1 C.2.1 dX12_days_26 (by decide) ?_
    cases h
    exact rt_i C hP hS dX12_days_27
  · rw [if_neg c12] at h
    refine lv_aload_n C.1 C.2.1 dX12_days_15 rfl (lv_at hl 0 rfl) ?_
    refine gM_0_now C hX12_days_0_X12 hK hP mX12_days_0_2 dX12_days_16 ?_
    refine lv_iload_n C.1 C.2.1 dX12_days_19 rfl (lv_at hl 1 rfl) ?_
    refine lv_iadd C.1 C.2.1 dX12_days_20 ?_
    refine lv_bipush (v := 120) C.1 C.2.1 dX12_days_21 (by decide) ?_
    refine lv_icmp_le (tgt := 28) C.1 C.2.1 dX12_days_23 (by decide) (fun c23 => ?_) (fun c23 => ?_)
    · rw [if_pos c23] at h
      refine lv_aload_n C.1 C.2.1 dX12_days_28 rfl (lv_at hl 0 rfl) ?_
      refine lv_dup C.1 C.2.1 dX12_days_29 rfl ?_
      refine gM_0_now C hX12_days_0_X12 hK hP mX12_days_0_2 dX12_days_30 ?_
      refine lv_iload_n C.1 C.2.1 dX12_days_33 rfl (lv_at hl 1 rfl) ?_
      refine lv_iadd C.1 C.2.1 dX12_days_34 ?_
      refine pM_0_now C hX12_days_0_X12 hK hP hJ hS mX12_days_0_2 dX12_days_35 (fun H locs hP hS => ?_)
      obtain ⟨u6, hu7, h⟩ := lt_some h
      rw [← hu7] at hP
      refine lv_aload_n C.1 C.2.1 dX12_days_38 rfl (lv_at hl 0 rfl) ?_
      refine gM_0_now C hX12_days_0_X12 hK hP mX12_days_0_2 dX12_days_39 ?_
      cases h
      exact rt_i C hP hS dX12_days_42
    · rw [if_neg c23] at h
      refine lv_iconst (v := (-1)) C.1 C.2.1 dX12_days_26 (by decide) ?_
      cases h
      exact rt_i C hP hS dX12_days_27
theorem metX12_days_0 (l : Launch) (D : va_G) (cy : Nat → ClassId) (ad st : Nat → Nat) (hJ : JM ad st) (sz : Nat) (x1 : Int32) {u : SX} {r : Int32} {u' : SX} (h : fX12_days_0 x1 u = some (r, u')) : Met l yX12_days wsX12_days rmX12_days_0 (va_Pc [.ref (ad 0), .int x1] (Px D [(cy 0, .int), (cy 1, .long), (cy 2, .boolean), (cy 3, .byte), (cy 4, .object "HissHorn$Text")] st (VM cy ad st) sz u)) (Qi D (VM cy ad st) (AM ad) sz r u') 0 0 (Ax (AM ad) sz) := by
  refine Met.ofW (cc := cX12_days) (maxL := 2) (ret := (some .int)) (by decide) rfl ?_
  intro p e s m args below meth c s₁ B hml hv
  obtain ⟨rfl, hsz, hP, hK⟩ := hv
  subst hsz
  have C : Cx RX12 cX12_days 2 (some .int) wsX12_days p s m _ meth c := ⟨B.exec, B.bytes, hml, B.returns, findClass_of_methodNamed B.named, atoms_spec (ws := wsX12_days) B.pre, B.notSynchronized⟩
  have hl := lv_entry ([.ref (ad 0), .int x1]) (n := 2) (Nat.le_of_ble_eq_true rfl)
  rw [lg_entry_eq]
  exact wX12_days_0 C hK hJ x1 h hP va_S.rf hl

theorem zdX12_season_0 : (and (and (and (zk cX12_season 0 (.iload_n 0) 1) (zk cX12_season 1 (.bipush 30) 2)) (zk cX12_season 3 (.idiv) 1)) (and (and (zk cX12_season 4 (.iconst 4) 1) (zk cX12_season 5 (.irem) 1)) (zk cX12_season 6 (.ireturn) 1))) = true := by decide +kernel
theorem dX12_season_0 : decode cX12_season 0 = .ok (.iload_n 0, 1) := zk_of (zk_l (zk_l (zk_l zdX12_season_0)))
theorem dX12_season_1 : decode cX12_season 1 = .ok (.bipush 30, 2) := zk_of (zk_r (zk_l (zk_l zdX12_season_0)))
theorem dX12_season_3 : decode cX12_season 3 = .ok (.idiv, 1) := zk_of (zk_r (zk_l zdX12_season_0))
theorem dX12_season_4 : decode cX12_season 4 = .ok (.iconst 4, 1) := zk_of (zk_l (zk_l (zk_r zdX12_season_0)))
theorem dX12_season_5 : decode cX12_season 5 = .ok (.irem, 1) := zk_of (zk_r (zk_l (zk_r zdX12_season_0)))
theorem dX12_season_6 : decode cX12_season 6 = .ok (.ireturn, 1) := zk_of (zk_r (zk_r zdX12_season_0))
/-- HissHornModel.season(I)I -/
def rmX12_season : Room := { frames := 0, cells := 0, slots := 0, locals := 0 }
def fX12_season (x0 : Int32) : Option Int32 := (gd (nz 30) (gd (nz 4) (some ((x0 / 30) - (x0 / 30) / 4 * 4))))
set_option maxHeartbeats 4000000 in
set_option maxRecDepth 100000 in
theorem wX12_season {p : Program} {l : Launch} {e : Env} {s : State} {m : MethodId} {args : Array Value} {below : List Frame} {meth : Method} {c : Code} {D : va_G} {cy : Nat → ClassId} {st : Nat → Nat} (C : Cx RX12 cX12_season 1 (some .int) wsX12_season p s m args meth c) (hK : Ky D [(cy 0, .int), (cy 1, .long), (cy 2, .boolean), (cy 3, .byte), (cy 4, .object "HissHorn$Text")] st s) (x0 : Int32) {r : Int32} {H : Heap} {locs : List Loc} {ls : Array Slot} (h : fX12_season x0 = some r) (hP : va_P D vwCl (V0 u00) H) (hS : va_S (Ax (A0) s.heap.size) s.heap H locs) (hl : lv_has ls 1 [(0, .int x0)]) : W p l e rmX12_season s m args below meth c H locs 0 0 (MQ below (Qi D (V0) (A0) s.heap.size r u00) args s 0 0 (Ax (A0) s.heap.size)) (F0 m 0 ls []) := by
  unfold fX12_season at h
  refine lv_iload_n C.1 C.2.1 dX12_season_0 rfl (lv_at hl 0 rfl) ?_
  refine lv_bipush (v := 30) C.1 C.2.1 dX12_season_1 (by decide) ?_
  obtain ⟨hg1, h⟩ := gd_some h
  refine lv_idiv C.1 C.2.1 dX12_season_3 (nz_n hg1) ?_
  refine lv_iconst (v := 4) C.1 C.2.1 dX12_season_4 (by decide) ?_
  obtain ⟨hg2, h⟩ := gd_some h
  refine lv_irem C.1 C.2.1 dX12_season_5 (nz_n hg2) ?_
  cases h
  exact rt_i C hP hS dX12_season_6
theorem metX12_season (l : Launch) (D : va_G) (cy : Nat → ClassId) (st : Nat → Nat) (sz : Nat) (x0 : Int32) {r : Int32} (h : fX12_season x0 = some r) : Met l yX12_season wsX12_season rmX12_season (va_Pc [.int x0] (Px D [(cy 0, .int), (cy 1, .long), (cy 2, .boolean), (cy 3, .byte), (cy 4, .object "HissHorn$Text")] st V0 sz u00)) (Qi D V0 A0 sz r u00) 0 0 (Ax A0 sz) := by
  refine Met.ofW (cc := cX12_season) (maxL := 1) (ret := (some .int)) (by decide) rfl ?_
  intro p e s m args below meth c s₁ B hml hv
  obtain ⟨rfl, hsz, hP, hK⟩ := hv
  subst hsz
  have C : Cx RX12 cX12_season 1 (some .int) wsX12_season p s m _ meth c := ⟨B.exec, B.bytes, hml, B.returns, findClass_of_methodNamed B.named, atoms_spec (ws := wsX12_season) B.pre, B.notSynchronized⟩
  have hl := lv_entry ([.int x0]) (n := 1) (Nat.le_of_ble_eq_true rfl)
  rw [lg_entry_eq]
  exact wX12_season C hK x0 h hP va_S.rf hl

theorem zdX12_bytesIn_25 : (and (and (and (and (and (zk cX12_bytesIn 25 (.iadd) 1) (zk cX12_bytesIn 26 (.istore_n 1) 1)) (zk cX12_bytesIn 27 (.iinc 2 (-8)) 3)) (and (and (zk cX12_bytesIn 30 (.goto (-25)) 3) (zk cX12_bytesIn 5 (.iload_n 2) 1)) (zk cX12_bytesIn 6 (.ifCond .lt 27) 3))) (and (and (and (zk cX12_bytesIn 33 (.iload_n 1) 1) (zk cX12_bytesIn 34 (.ireturn) 1)) (zk cX12_bytesIn 9 (.iload_n 1) 1)) (and (zk cX12_bytesIn 10 (.iload_n 0) 1) (zk cX12_bytesIn 11 (.iload_n 2) 1)))) (and (and (and (and (zk cX12_bytesIn 12 (.ishr) 1) (zk cX12_bytesIn 13 (.sipush 255) 3)) (zk cX12_bytesIn 16 (.iand) 1)) (and (and (zk cX12_bytesIn 17 (.ifCond .eq 7) 3) (zk cX12_bytesIn 24 (.iconst 0) 1)) (zk cX12_bytesIn 20 (.iconst 1) 1))) (and (and (and (zk cX12_bytesIn 21 (.goto 4) 3) (zk cX12_bytesIn 0 (.iconst 0) 1)) (zk cX12_bytesIn 1 (.istore_n 1) 1)) (and (zk cX12_bytesIn 2 (.bipush 24) 2) (zk cX12_bytesIn 4 (.istore_n 2) 1))))) = true := by decide +kernel
theorem dX12_bytesIn_25 : decode cX12_bytesIn 25 = .ok (.iadd, 1) := zk_of (zk_l (zk_l (zk_l (zk_l (zk_l zdX12_bytesIn_25)))))
theorem dX12_bytesIn_26 : decode cX12_bytesIn 26 = .ok (.istore_n 1, 1) := zk_of (zk_r (zk_l (zk_l (zk_l (zk_l zdX12_bytesIn_25)))))
theorem dX12_bytesIn_27 : decode cX12_bytesIn 27 = .ok (.iinc 2 (-8), 3) := zk_of (zk_r (zk_l (zk_l (zk_l zdX12_bytesIn_25))))
theorem dX12_bytesIn_30 : decode cX12_bytesIn 30 = .ok (.goto (-25), 3) := zk_of (zk_l (zk_l (zk_r (zk_l (zk_l zdX12_bytesIn_25)))))
theorem dX12_bytesIn_5 : decode cX12_bytesIn 5 = .ok (.iload_n 2, 1) := zk_of (zk_r (zk_l (zk_r (zk_l (zk_l zdX12_bytesIn_25)))))
theorem dX12_bytesIn_6 : decode cX12_bytesIn 6 = .ok (.ifCond .lt 27, 3) := zk_of (zk_r (zk_r (zk_l (zk_l zdX12_bytesIn_25))))
theorem dX12_bytesIn_33 : decode cX12_bytesIn 33 = .ok (.iload_n 1, 1) := zk_of (zk_l (zk_l (zk_l (zk_r (zk_l zdX12_bytesIn_25)))))
theorem dX12_bytesIn_34 : decode cX12_bytesIn 34 = .ok (.ireturn, 1) := zk_of (zk_r (zk_l (zk_l (zk_r (zk_l zdX12_bytesIn_25)))))
theorem dX12_bytesIn_9 : decode cX12_bytesIn 9 = .ok (.iload_n 1, 1) := zk_of (zk_r (zk_l (zk_r (zk_l zdX12_bytesIn_25))))
theorem dX12_bytesIn_10 : decode cX12_bytesIn 10 = .ok (.iload_n 0, 1) := zk_of (zk_l (zk_r (zk_r (zk_l zdX12_bytesIn_25))))
theorem dX12_bytesIn_11 : decode cX12_bytesIn 11 = .ok (.iload_n 2, 1) := zk_of (zk_r (zk_r (zk_r (zk_l zdX12_bytesIn_25))))
theorem dX12_bytesIn_12 : decode cX12_bytesIn 12 = .ok (.ishr, 1) := zk_of (zk_l (zk_l (zk_l (zk_l (zk_r zdX12_bytesIn_25)))))
theorem dX12_bytesIn_13 : decode cX12_bytesIn 13 = .ok (.sipush 255, 3) := zk_of (zk_r (zk_l (zk_l (zk_l (zk_r zdX12_bytesIn_25)))))
theorem dX12_bytesIn_16 : decode cX12_bytesIn 16 = .ok (.iand, 1) := zk_of (zk_r (zk_l (zk_l (zk_r zdX12_bytesIn_25))))
theorem dX12_bytesIn_17 : decode cX12_bytesIn 17 = .ok (.ifCond .eq 7, 3) := zk_of (zk_l (zk_l (zk_r (zk_l (zk_r zdX12_bytesIn_25)))))
theorem dX12_bytesIn_24 : decode cX12_bytesIn 24 = .ok (.iconst 0, 1) := zk_of (zk_r (zk_l (zk_r (zk_l (zk_r zdX12_bytesIn_25)))))
theorem dX12_bytesIn_20 : decode cX12_bytesIn 20 = .ok (.iconst 1, 1) := zk_of (zk_r (zk_r (zk_l (zk_r zdX12_bytesIn_25))))
theorem dX12_bytesIn_21 : decode cX12_bytesIn 21 = .ok (.goto 4, 3) := zk_of (zk_l (zk_l (zk_l (zk_r (zk_r zdX12_bytesIn_25)))))
theorem dX12_bytesIn_0 : decode cX12_bytesIn 0 = .ok (.iconst 0, 1) := zk_of (zk_r (zk_l (zk_l (zk_r (zk_r zdX12_bytesIn_25)))))
theorem dX12_bytesIn_1 : decode cX12_bytesIn 1 = .ok (.istore_n 1, 1) := zk_of (zk_r (zk_l (zk_r (zk_r zdX12_bytesIn_25))))
theorem dX12_bytesIn_2 : decode cX12_bytesIn 2 = .ok (.bipush 24, 2) := zk_of (zk_l (zk_r (zk_r (zk_r zdX12_bytesIn_25))))
theorem dX12_bytesIn_4 : decode cX12_bytesIn 4 = .ok (.istore_n 2, 1) := zk_of (zk_r (zk_r (zk_r (zk_r zdX12_bytesIn_25))))
/-- HissHornModel.bytesIn(I)I -/
def rmX12_bytesIn : Room := { frames := 0, cells := 0, slots := 0, locals := 0 }
def GX12_bytesIn_25 (k5 : Int32 → Int32 → Int32 → Option Int32) (z0 : Int32) (z2 : Int32) (y0 : Int32) (y1 : Int32) : Option Int32 := (lt (y1 + y0) fun v1 => (k5 z0 v1 (z2 + (-8))))
def LX12_bytesIn_5  : Nat → Int32 → Int32 → Int32 → Option Int32
  | 0, _, _, _ => none
  | n + 1, z0, z1, z2 => (if z2 < 0 then (some z1) else (if ((z0 >>> (z2 &&& 31)) &&& 255) = 0 then (GX12_bytesIn_25 (LX12_bytesIn_5 n) z0 z2 0 z1) else (GX12_bytesIn_25 (LX12_bytesIn_5 n) z0 z2 1 z1)))
def fX12_bytesIn (x0 : Int32) : Option Int32 := (LX12_bytesIn_5  5000 x0 0 24)
set_option maxHeartbeats 4000000 in
set_option maxRecDepth 100000 in
theorem wGX12_bytesIn_25 {p : Program} {l : Launch} {e : Env} {s : State} {m : MethodId} {args : Array Value} {below : List Frame} {meth : Method} {c : Code} {D : va_G} {cy : Nat → ClassId} {st : Nat → Nat} (C : Cx RX12 cX12_bytesIn 3 (some .int) wsX12_bytesIn p s m args meth c) (hK : Ky D [(cy 0, .int), (cy 1, .long), (cy 2, .boolean), (cy 3, .byte), (cy 4, .object "HissHorn$Text")] st s) {r : Int32} {k5 : Int32 → Int32 → Int32 → Option Int32} (hk5 : ∀ (z0 : Int32) (z1 : Int32) (z2 : Int32) (H : Heap) (locs : List Loc) (ls : Array Slot), k5 z0 z1 z2 = some r → va_P D vwCl (V0 u00) H → va_S (Ax (A0) s.heap.size) s.heap H locs → lv_has ls 3 [(0, .int z0), (1, .int z1), (2, .int z2)] → W p l e rmX12_bytesIn s m args below meth c H locs 0 0 (MQ below (Qi D (V0) (A0) s.heap.size r u00) args s 0 0 (Ax (A0) s.heap.size)) (F0 m 5 ls [])) (z0 : Int32) (z2 : Int32) (y0 : Int32) (y1 : Int32) (H : Heap) (locs : List Loc) (ls : Array Slot) (h : GX12_bytesIn_25 k5 z0 z2 y0 y1 = some r) (hP : va_P D vwCl (V0 u00) H) (hS : va_S (Ax (A0) s.heap.size) s.heap H locs) (hl : lv_has ls 3 [(0, .int z0), (2, .int z2)]) : W p l e rmX12_bytesIn s m args below meth c H locs 0 0 (MQ below (Qi D (V0) (A0) s.heap.size r u00) args s 0 0 (Ax (A0) s.heap.size)) (F0 m 25 ls [.int y0, .int y1]) := by
  unfold GX12_bytesIn_25 at h
  refine lv_iadd C.1 C.2.1 dX12_bytesIn_25 ?_
  refine lv_topi (fun v1 hv2 => ?_)
  replace h := lt_e hv2 h
  try dsimp only at h
  refine lv_istore_n (lv' := [(1, .int v1), (0, .int z0), (2, .int z2)]) C.1 C.2.1 dX12_bytesIn_26 rfl hl (by decide) rfl (fun ls hl => ?_)
  replace hl := lv_sub (l' := [(0, .int z0), (1, .int v1), (2, .int z2)]) hl [1, 0, 2] rfl
  refine lv_iinc (v := z2 + (-8)) (lv' := [(2, .int (z2 + (-8))), (0, .int z0), (1, .int v1)]) C.1 C.2.1 dX12_bytesIn_27 hl (k := 2) rfl rfl (by decide) rfl (fun ls hl => ?_)
  replace hl := lv_sub (l' := [(0, .int z0), (1, .int v1), (2, .int (z2 + (-8)))]) hl [1, 2, 0] rfl
  refine lv_goto (tgt := 5) C.1 C.2.1 dX12_bytesIn_30 (by decide) ?_
  exact hk5 _ _ _ _ _ _ h hP hS hl
set_option maxHeartbeats 4000000 in
set_option maxRecDepth 100000 in
theorem wLX12_bytesIn_5 {p : Program} {l : Launch} {e : Env} {s : State} {m : MethodId} {args : Array Value} {below : List Frame} {meth : Method} {c : Code} {D : va_G} {cy : Nat → ClassId} {st : Nat → Nat} (C : Cx RX12 cX12_bytesIn 3 (some .int) wsX12_bytesIn p s m args meth c) (hK : Ky D [(cy 0, .int), (cy 1, .long), (cy 2, .boolean), (cy 3, .byte), (cy 4, .object "HissHorn$Text")] st s) {r : Int32}   : ∀ (n : Nat) (z0 : Int32) (z1 : Int32) (z2 : Int32) (H : Heap) (locs : List Loc) (ls : Array Slot), LX12_bytesIn_5  n z0 z1 z2 = some r → va_P D vwCl (V0 u00) H → va_S (Ax (A0) s.heap.size) s.heap H locs → lv_has ls 3 [(0, .int z0), (1, .int z1), (2, .int z2)] → W p l e rmX12_bytesIn s m args below meth c H locs 0 0 (MQ below (Qi D (V0) (A0) s.heap.size r u00) args s 0 0 (Ax (A0) s.heap.size)) (F0 m 5 ls []) := by
  intro n
  induction n with
  | zero =>
    intro z0 z1 z2 H locs ls h
    exact absurd h (by intro q; cases q)
  | succ n ih =>
    intro z0 z1 z2 H locs ls h hP hS hl
    rw [LX12_bytesIn_5] at h
    refine lv_iload_n C.1 C.2.1 dX12_bytesIn_5 rfl (lv_at hl 2 rfl) ?_
    refine lv_if_lt (tgt := 33) C.1 C.2.1 dX12_bytesIn_6 (by decide) (fun c6 => ?_) (fun c6 => ?_)
    · rw [if_pos c6] at h
      refine lv_iload_n C.1 C.2.1 dX12_bytesIn_33 rfl (lv_at hl 1 rfl) ?_
      cases h
      exact rt_i C hP hS dX12_bytesIn_34
    · rw [if_neg c6] at h
      refine lv_iload_n C.1 C.2.1 dX12_bytesIn_9 rfl (lv_at hl 1 rfl) ?_
      refine lv_iload_n C.1 C.2.1 dX12_bytesIn_10 rfl (lv_at hl 0 rfl) ?_
      refine lv_iload_n C.1 C.2.1 dX12_bytesIn_11 rfl (lv_at hl 2 rfl) ?_
      refine lv_ishr C.1 C.2.1 dX12_bytesIn_12 ?_
      refine lv_sipush (v := 255) C.1 C.2.1 dX12_bytesIn_13 (by decide) ?_
      refine lv_iand C.1 C.2.1 dX12_bytesIn_16 ?_
      refine lv_if_eq (tgt := 24) C.1 C.2.1 dX12_bytesIn_17 (by decide) (fun c17 => ?_) (fun c17 => ?_)
      · rw [if_pos c17] at h
        refine lv_iconst (v := 0) C.1 C.2.1 dX12_bytesIn_24 (by decide) ?_
        exact wGX12_bytesIn_25 C hK ih _ _ _ _ _ _ _ h hP hS (lv_sub hl [0, 2] rfl)
      · rw [if_neg c17] at h
        refine lv_iconst (v := 1) C.1 C.2.1 dX12_bytesIn_20 (by decide) ?_
        refine lv_goto (tgt := 25) C.1 C.2.1 dX12_bytesIn_21 (by decide) ?_
        exact wGX12_bytesIn_25 C hK ih _ _ _ _ _ _ _ h hP hS (lv_sub hl [0, 2] rfl)
set_option maxHeartbeats 4000000 in
set_option maxRecDepth 100000 in
theorem wX12_bytesIn {p : Program} {l : Launch} {e : Env} {s : State} {m : MethodId} {args : Array Value} {below : List Frame} {meth : Method} {c : Code} {D : va_G} {cy : Nat → ClassId} {st : Nat → Nat} (C : Cx RX12 cX12_bytesIn 3 (some .int) wsX12_bytesIn p s m args meth c) (hK : Ky D [(cy 0, .int), (cy 1, .long), (cy 2, .boolean), (cy 3, .byte), (cy 4, .object "HissHorn$Text")] st s) (x0 : Int32) {r : Int32} {H : Heap} {locs : List Loc} {ls : Array Slot} (h : fX12_bytesIn x0 = some r) (hP : va_P D vwCl (V0 u00) H) (hS : va_S (Ax (A0) s.heap.size) s.heap H locs) (hl : lv_has ls 3 [(0, .int x0)]) : W p l e rmX12_bytesIn s m args below meth c H locs 0 0 (MQ below (Qi D (V0) (A0) s.heap.size r u00) args s 0 0 (Ax (A0) s.heap.size)) (F0 m 0 ls []) := by
  unfold fX12_bytesIn at h
  refine lv_iconst (v := 0) C.1 C.2.1 dX12_bytesIn_0 (by decide) ?_
  refine lv_istore_n (lv' := [(1, .int 0), (0, .int x0)]) C.1 C.2.1 dX12_bytesIn_1 rfl hl (by decide) rfl (fun ls hl => ?_)
  replace hl := lv_sub (l' := [(0, .int x0), (1, .int 0)]) hl [1, 0] rfl
  refine lv_bipush (v := 24) C.1 C.2.1 dX12_bytesIn_2 (by decide) ?_
  refine lv_istore_n (lv' := [(2, .int 24), (0, .int x0), (1, .int 0)]) C.1 C.2.1 dX12_bytesIn_4 rfl hl (by decide) rfl (fun ls hl => ?_)
  replace hl := lv_sub (l' := [(0, .int x0), (1, .int 0), (2, .int 24)]) hl [1, 2, 0] rfl
  exact wLX12_bytesIn_5 C hK  5000 _ _ _ _ _ _ h hP hS hl
theorem metX12_bytesIn (l : Launch) (D : va_G) (cy : Nat → ClassId) (st : Nat → Nat) (sz : Nat) (x0 : Int32) {r : Int32} (h : fX12_bytesIn x0 = some r) : Met l yX12_bytesIn wsX12_bytesIn rmX12_bytesIn (va_Pc [.int x0] (Px D [(cy 0, .int), (cy 1, .long), (cy 2, .boolean), (cy 3, .byte), (cy 4, .object "HissHorn$Text")] st V0 sz u00)) (Qi D V0 A0 sz r u00) 0 0 (Ax A0 sz) := by
  refine Met.ofW (cc := cX12_bytesIn) (maxL := 3) (ret := (some .int)) (by decide) rfl ?_
  intro p e s m args below meth c s₁ B hml hv
  obtain ⟨rfl, hsz, hP, hK⟩ := hv
  subst hsz
  have C : Cx RX12 cX12_bytesIn 3 (some .int) wsX12_bytesIn p s m _ meth c := ⟨B.exec, B.bytes, hml, B.returns, findClass_of_methodNamed B.named, atoms_spec (ws := wsX12_bytesIn) B.pre, B.notSynchronized⟩
  have hl := lv_entry ([.int x0]) (n := 3) (Nat.le_of_ble_eq_true rfl)
  rw [lg_entry_eq]
  exact wX12_bytesIn C hK x0 h hP va_S.rf hl

theorem zdX12_put_43 : (and (and (and (and (and (zk cX12_put 43 (.iinc 2 (-8)) 3) (zk cX12_put 46 (.goto (-43)) 3)) (and (zk cX12_put 3 (.iload_n 2) 1) (zk cX12_put 4 (.ifCond .lt 45) 3))) (and (and (zk cX12_put 49 (.return_) 1) (zk cX12_put 7 (.iload_n 1) 1)) (and (zk cX12_put 8 (.iload_n 2) 1) (zk cX12_put 9 (.ishr) 1)))) (and (and (and (zk cX12_put 10 (.sipush 255) 3) (zk cX12_put 13 (.iand) 1)) (and (zk cX12_put 14 (.ifCond .ne 6) 3) (zk cX12_put 20 (.aload_n 0) 1))) (and (and (zk cX12_put 21 (.getfield 9) 3) (zk cX12_put 24 (.aload_n 0) 1)) (zk cX12_put 25 (.getfield 162) 3)))) (and (and (and (and (zk cX12_put 28 (.iload_n 1) 1) (zk cX12_put 29 (.iload_n 2) 1)) (and (zk cX12_put 30 (.ishr) 1) (zk cX12_put 31 (.i2b) 1))) (and (and (zk cX12_put 32 (.bastore) 1) (zk cX12_put 33 (.aload_n 0) 1)) (zk cX12_put 34 (.dup) 1))) (and (and (and (zk cX12_put 35 (.getfield 162) 3) (zk cX12_put 38 (.iconst 1) 1)) (and (zk cX12_put 39 (.iadd) 1) (zk cX12_put 40 (.putfield 162) 3))) (and (and (zk cX12_put 17 (.goto 26) 3) (zk cX12_put 0 (.bipush 24) 2)) (zk cX12_put 2 (.istore_n 2) 1))))) = true := by decide +kernel
theorem dX12_put_43 : decode cX12_put 43 = .ok (.iinc 2 (-8), 3) := zk_of (zk_l (zk_l (zk_l (zk_l (zk_l zdX12_put_43)))))
theorem dX12_put_46 : decode cX12_put 46 = .ok (.goto (-43), 3) := zk_of (zk_r (zk_l (zk_l (zk_l (zk_l zdX12_put_43)))))
theorem dX12_put_3 : decode cX12_put 3 = .ok (.iload_n 2, 1) := zk_of (zk_l (zk_r (zk_l (zk_l (zk_l zdX12_put_43)))))
theorem dX12_put_4 : decode cX12_put 4 = .ok (.ifCond .lt 45, 3) := zk_of (zk_r (zk_r (zk_l (zk_l (zk_l zdX12_put_43)))))
theorem dX12_put_49 : decode cX12_put 49 = .ok (.return_, 1) := zk_of (zk_l (zk_l (zk_r (zk_l (zk_l zdX12_put_43)))))
theorem dX12_put_7 : decode cX12_put 7 = .ok (.iload_n 1, 1) := zk_of (zk_r (zk_l (zk_r (zk_l (zk_l zdX12_put_43)))))
theorem dX12_put_8 : decode cX12_put 8 = .ok (.iload_n 2, 1) := zk_of (zk_l (zk_r (zk_r (zk_l (zk_l zdX12_put_43)))))
theorem dX12_put_9 : decode cX12_put 9 = .ok (.ishr, 1) := zk_of (zk_r (zk_r (zk_r (zk_l (zk_l zdX12_put_43)))))
theorem dX12_put_10 : decode cX12_put 10 = .ok (.sipush 255, 3) := zk_of (zk_l (zk_l (zk_l (zk_r (zk_l zdX12_put_43)))))
theorem dX12_put_13 : decode cX12_put 13 = .ok (.iand, 1) := zk_of (zk_r (zk_l (zk_l (zk_r (zk_l zdX12_put_43)))))
theorem dX12_put_14 : decode cX12_put 14 = .ok (.ifCond .ne 6, 3) := zk_of (zk_l (zk_r (zk_l (zk_r (zk_l zdX12_put_43)))))
theorem dX12_put_20 : decode cX12_put 20 = .ok (.aload_n 0, 1) := zk_of (zk_r (zk_r (zk_l (zk_r (zk_l zdX12_put_43)))))
theorem dX12_put_21 : decode cX12_put 21 = .ok (.getfield 9, 3) := zk_of (zk_l (zk_l (zk_r (zk_r (zk_l zdX12_put_43)))))
theorem dX12_put_24 : decode cX12_put 24 = .ok (.aload_n 0, 1) := zk_of (zk_r (zk_l (zk_r (zk_r (zk_l zdX12_put_43)))))
theorem dX12_put_25 : decode cX12_put 25 = .ok (.getfield 162, 3) := zk_of (zk_r (zk_r (zk_r (zk_l zdX12_put_43))))
theorem dX12_put_28 : decode cX12_put 28 = .ok (.iload_n 1, 1) := zk_of (zk_l (zk_l (zk_l (zk_l (zk_r zdX12_put_43)))))
theorem dX12_put_29 : decode cX12_put 29 = .ok (.iload_n 2, 1) := zk_of (zk_r (zk_l (zk_l (zk_l (zk_r zdX12_put_43)))))
theorem dX12_put_30 : decode cX12_put 30 = .ok (.ishr, 1) := zk_of (zk_l (zk_r (zk_l (zk_l (zk_r zdX12_put_43)))))
theorem dX12_put_31 : decode cX12_put 31 = .ok (.i2b, 1) := zk_of (zk_r (zk_r (zk_l (zk_l (zk_r zdX12_put_43)))))
theorem dX12_put_32 : decode cX12_put 32 = .ok (.bastore, 1) := zk_of (zk_l (zk_l (zk_r (zk_l (zk_r zdX12_put_43)))))
theorem dX12_put_33 : decode cX12_put 33 = .ok (.aload_n 0, 1) := zk_of (zk_r (zk_l (zk_r (zk_l (zk_r zdX12_put_43)))))
theorem dX12_put_34 : decode cX12_put 34 = .ok (.dup, 1) := zk_of (zk_r (zk_r (zk_l (zk_r zdX12_put_43))))
theorem dX12_put_35 : decode cX12_put 35 = .ok (.getfield 162, 3) := zk_of (zk_l (zk_l (zk_l (zk_r (zk_r zdX12_put_43)))))
theorem dX12_put_38 : decode cX12_put 38 = .ok (.iconst 1, 1) := zk_of (zk_r (zk_l (zk_l (zk_r (zk_r zdX12_put_43)))))
theorem dX12_put_39 : decode cX12_put 39 = .ok (.iadd, 1) := zk_of (zk_l (zk_r (zk_l (zk_r (zk_r zdX12_put_43)))))
theorem dX12_put_40 : decode cX12_put 40 = .ok (.putfield 162, 3) := zk_of (zk_r (zk_r (zk_l (zk_r (zk_r zdX12_put_43)))))
theorem dX12_put_17 : decode cX12_put 17 = .ok (.goto 26, 3) := zk_of (zk_l (zk_l (zk_r (zk_r (zk_r zdX12_put_43)))))
theorem dX12_put_0 : decode cX12_put 0 = .ok (.bipush 24, 2) := zk_of (zk_r (zk_l (zk_r (zk_r (zk_r zdX12_put_43)))))
theorem dX12_put_2 : decode cX12_put 2 = .ok (.istore_n 2, 1) := zk_of (zk_r (zk_r (zk_r (zk_r zdX12_put_43))))
/-- HissHornModel.put(I)V of cell 0 -/
def rmX12_put_0 : Room := { frames := 0, cells := 0, slots := 0, locals := 0 }
theorem hX12_put_0_X12 : ∀ w ∈ u_ws RX12 TX12 69, w ∈ wsX12_put := fun w h => (List.mem_cons_of_mem _ (List.mem_append_right _ h))
theorem mX12_put_0_1 : Cond.fieldLink RX12 9 "HissHornModel" "tape" "[B" ∈ wsX12_put := (List.mem_cons_of_mem _ (List.mem_append_left _ (List.mem_of_getElem? (i := 0) rfl)))
theorem mX12_put_0_2 : Cond.fieldLink RX12 162 "HissHornModel" "length" "I" ∈ wsX12_put := (List.mem_cons_of_mem _ (List.mem_append_left _ (List.mem_of_getElem? (i := 1) rfl)))
def GX12_put_0_43 (k3 : Int32 → Int32 → SX → Option (Int32 × SX)) (z1 : Int32) (z2 : Int32) (u : SX) : Option (Int32 × SX) := (k3 z1 (z2 + (-8)) u)
def LX12_put_0_3  : Nat → Int32 → Int32 → SX → Option (Int32 × SX)
  | 0, _, _, _ => none
  | n + 1, z1, z2, u => (if z2 < 0 then (some (0, u)) else (if ((z1 >>> (z2 &&& 31)) &&& 255) = 0 then (GX12_put_0_43 (LX12_put_0_3 n) z1 z2 u) else (gd (inb (u.1 3) 120) (lt (sA u 1 (upd (u.2.1 1) (u.1 3).toNatClampNeg (vp_nar .byte ((z1 >>> (z2 &&& 31)).toInt8.toInt32)))) fun u2 => (lt (sI u2 3 ((u2.1 3) + 1)) fun u4 => (GX12_put_0_43 (LX12_put_0_3 n) z1 z2 u4))))))
def fX12_put_0 (x1 : Int32) (u : SX) : Option (Int32 × SX) := (LX12_put_0_3  5000 x1 24 u)
set_option maxHeartbeats 4000000 in
set_option maxRecDepth 100000 in
theorem wGX12_put_0_43 {p : Program} {l : Launch} {e : Env} {s : State} {m : MethodId} {args : Array Value} {below : List Frame} {meth : Method} {c : Code} {D : va_G} {cy : Nat → ClassId} {ad st : Nat → Nat} (C : Cx RX12 cX12_put 3 none wsX12_put p s m args meth c) (hK : Ky D [(cy 0, .int), (cy 1, .long), (cy 2, .boolean), (cy 3, .byte), (cy 4, .object "HissHorn$Text")] st s) (hJ : JM ad st) {r : Int32} {u' : SX} {k3 : Int32 → Int32 → SX → Option (Int32 × SX)} (hk3 : ∀ (z1 : Int32) (z2 : Int32) (u : SX) (H : Heap) (locs : List Loc) (ls : Array Slot), k3 z1 z2 u = some (r, u') → va_P D vwCl (VM cy ad st u) H → va_S (Ax (AM ad) s.heap.size) s.heap H locs → lv_has ls 3 [(0, .ref (ad 0)), (1, .int z1), (2, .int z2)] → W p l e rmX12_put_0 s m args below meth c H locs 0 0 (MQ below (Qv D (VM cy ad st) (AM ad) s.heap.size r u') args s 0 0 (Ax (AM ad) s.heap.size)) (F0 m 3 ls [])) (z1 : Int32) (z2 : Int32) (u : SX) (H : Heap) (locs : List Loc) (ls : Array Slot) (h : GX12_put_0_43 k3 z1 z2 u = some (r, u')) (hP : va_P D vwCl (VM cy ad st u) H) (hS : va_S (Ax (AM ad) s.heap.size) s.heap H locs) (hl : lv_has ls 3 [(0, .ref (ad 0)), (1, .int z1), (2, .int z2)]) : W p l e rmX12_put_0 s m args below meth c H locs 0 0 (MQ below (Qv D (VM cy ad st) (AM ad) s.heap.size r u') args s 0 0 (Ax (AM ad) s.heap.size)) (F0 m 43 ls []) := by
  unfold GX12_put_0_43 at h
  refine lv_iinc (v := z2 + (-8)) (lv' := [(2, .int (z2 + (-8))), (0, .ref (ad 0)), (1, .int z1)]) C.1 C.2.1 dX12_put_43 hl (k := 2) rfl rfl (by decide) rfl (fun ls hl => ?_)
  replace hl := lv_sub (l' := [(0, .ref (ad 0)), (1, .int z1), (2, .int (z2 + (-8)))]) hl [1, 2, 0] rfl
  refine lv_goto (tgt := 3) C.1 C.2.1 dX12_put_46 (by decide) ?_
  exact hk3 _ _ _ _ _ _ h hP hS hl
set_option maxHeartbeats 4000000 in
set_option maxRecDepth 100000 in
theorem wLX12_put_0_3 {p : Program} {l : Launch} {e : Env} {s : State} {m : MethodId} {args : Array Value} {below : List Frame} {meth : Method} {c : Code} {D : va_G} {cy : Nat → ClassId} {ad st : Nat → Nat} (C : Cx RX12 cX12_put 3 none wsX12_put p s m args meth c) (hK : Ky D [(cy 0, .int), (cy 1, .long), (cy 2, .boolean), (cy 3, .byte), (cy 4, .object "HissHorn$Text")] st s) (hJ : JM ad st) {r : Int32} {u' : SX}   : ∀ (n : Nat) (z1 : Int32) (z2 : Int32) (u : SX) (H : Heap) (locs : List Loc) (ls : Array Slot), LX12_put_0_3  n z1 z2 u = some (r, u') → va_P D vwCl (VM cy ad st u) H → va_S (Ax (AM ad) s.heap.size) s.heap H locs → lv_has ls 3 [(0, .ref (ad 0)), (1, .int z1), (2, .int z2)] → W p l e rmX12_put_0 s m args below meth c H locs 0 0 (MQ below (Qv D (VM cy ad st) (AM ad) s.heap.size r u') args s 0 0 (Ax (AM ad) s.heap.size)) (F0 m 3 ls []) := by
  intro n
  induction n with
  | zero =>
    intro z1 z2 u H locs ls h
    exact absurd h (by intro q; cases q)
  | succ n ih =>
    intro z1 z2 u H locs ls h hP hS hl
    rw [LX12_put_0_3] at h
    refine lv_iload_n C.1 C.2.1 dX12_put_3 rfl (lv_at hl 2 rfl) ?_
    refine lv_if_lt (tgt := 49) C.1 C.2.1 dX12_put_4 (by decide) (fun c4 => ?_) (fun c4 => ?_)
    · rw [if_pos c4] at h
      cases h
      exact rt_v C hP hS dX12_put_49
    · rw [if_neg c4] at h
      refine lv_iload_n C.1 C.2.1 dX12_put_7 rfl (lv_at hl 1 rfl) ?_
      refine lv_iload_n C.1 C.2.1 dX12_put_8 rfl (lv_at hl 2 rfl) ?_
      refine lv_ishr C.1 C.2.1 dX12_put_9 ?_
      refine lv_sipush (v := 255) C.1 C.2.1 dX12_put_10 (by decide) ?_
      refine lv_iand C.1 C.2.1 dX12_put_13 ?_
      refine lv_if_ne (tgt := 20) C.1 C.2.1 dX12_put_14 (by decide) (fun c14 => ?_) (fun c14 => ?_)
      · rw [if_neg c14] at h
        refine lv_aload_n C.1 C.2.1 dX12_put_20 rfl (lv_at hl 0 rfl) ?_
        refine gM_0_tape C hX12_put_0_X12 hK hP mX12_put_0_1 dX12_put_21 ?_
        refine lv_aload_n C.1 C.2.1 dX12_put_24 rfl (lv_at hl 0 rfl) ?_
        refine gM_0_length C hX12_put_0_X12 hK hP mX12_put_0_2 dX12_put_25 ?_
        refine lv_iload_n C.1 C.2.1 dX12_put_28 rfl (lv_at hl 1 rfl) ?_
        refine lv_iload_n C.1 C.2.1 dX12_put_29 rfl (lv_at hl 2 rfl) ?_
        refine lv_ishr C.1 C.2.1 dX12_put_30 ?_
        refine lv_i2b (v := (z1 >>> (z2 &&& 31)).toInt8.toInt32) C.1 C.2.1 dX12_put_31 rfl ?_
        obtain ⟨hg1, h⟩ := gd_some h
        refine tM_1 C hK hP hJ hS hg1 dX12_put_32 (fun H locs hP hS => ?_)
        obtain ⟨u2, hu3, h⟩ := lt_some h
        rw [← hu3] at hP
        refine lv_aload_n C.1 C.2.1 dX12_put_33 rfl (lv_at hl 0 rfl) ?_
        refine lv_dup C.1 C.2.1 dX12_put_34 rfl ?_
        refine gM_0_length C hX12_put_0_X12 hK hP mX12_put_0_2 dX12_put_35 ?_
        refine lv_iconst (v := 1) C.1 C.2.1 dX12_put_38 (by decide) ?_
        refine lv_iadd C.1 C.2.1 dX12_put_39 ?_
        refine pM_0_length C hX12_put_0_X12 hK hP hJ hS mX12_put_0_2 dX12_put_40 (fun H locs hP hS => ?_)
        obtain ⟨u4, hu5, h⟩ := lt_some h
        rw [← hu5] at hP
        exact wGX12_put_0_43 C hK hJ ih _ _ _ _ _ _ h hP hS hl
      · rw [if_pos c14] at h
        refine lv_goto (tgt := 43) C.1 C.2.1 dX12_put_17 (by decide) ?_
        exact wGX12_put_0_43 C hK hJ ih _ _ _ _ _ _ h hP hS hl
set_option maxHeartbeats 4000000 in
set_option maxRecDepth 100000 in
theorem wX12_put_0 {p : Program} {l : Launch} {e : Env} {s : State} {m : MethodId} {args : Array Value} {below : List Frame} {meth : Method} {c : Code} {D : va_G} {cy : Nat → ClassId} {ad st : Nat → Nat} (C : Cx RX12 cX12_put 3 none wsX12_put p s m args meth c) (hK : Ky D [(cy 0, .int), (cy 1, .long), (cy 2, .boolean), (cy 3, .byte), (cy 4, .object "HissHorn$Text")] st s) (hJ : JM ad st) (x1 : Int32) {u : SX} {r : Int32} {u' : SX} {H : Heap} {locs : List Loc} {ls : Array Slot} (h : fX12_put_0 x1 u = some (r, u')) (hP : va_P D vwCl (VM cy ad st u) H) (hS : va_S (Ax (AM ad) s.heap.size) s.heap H locs) (hl : lv_has ls 3 [(0, .ref (ad 0)), (1, .int x1)]) : W p l e rmX12_put_0 s m args below meth c H locs 0 0 (MQ below (Qv D (VM cy ad st) (AM ad) s.heap.size r u') args s 0 0 (Ax (AM ad) s.heap.size)) (F0 m 0 ls []) := by
  unfold fX12_put_0 at h
  refine lv_bipush (v := 24) C.1 C.2.1 dX12_put_0 (by decide) ?_
  refine lv_istore_n (lv' := [(2, .int 24), (0, .ref (ad 0)), (1, .int x1)]) C.1 C.2.1 dX12_put_2 rfl hl (by decide) rfl (fun ls hl => ?_)
  replace hl := lv_sub (l' := [(0, .ref (ad 0)), (1, .int x1), (2, .int 24)]) hl [1, 2, 0] rfl
  exact wLX12_put_0_3 C hK hJ  5000 _ _ _ _ _ _ h hP hS hl
theorem metX12_put_0 (l : Launch) (D : va_G) (cy : Nat → ClassId) (ad st : Nat → Nat) (hJ : JM ad st) (sz : Nat) (x1 : Int32) {u : SX} {r : Int32} {u' : SX} (h : fX12_put_0 x1 u = some (r, u')) : Met l yX12_put wsX12_put rmX12_put_0 (va_Pc [.ref (ad 0), .int x1] (Px D [(cy 0, .int), (cy 1, .long), (cy 2, .boolean), (cy 3, .byte), (cy 4, .object "HissHorn$Text")] st (VM cy ad st) sz u)) (Qv D (VM cy ad st) (AM ad) sz r u') 0 0 (Ax (AM ad) sz) := by
  refine Met.ofW (cc := cX12_put) (maxL := 3) (ret := none) (by decide) rfl ?_
  intro p e s m args below meth c s₁ B hml hv
  obtain ⟨rfl, hsz, hP, hK⟩ := hv
  subst hsz
  have C : Cx RX12 cX12_put 3 none wsX12_put p s m _ meth c := ⟨B.exec, B.bytes, hml, B.returns, findClass_of_methodNamed B.named, atoms_spec (ws := wsX12_put) B.pre, B.notSynchronized⟩
  have hl := lv_entry ([.ref (ad 0), .int x1]) (n := 3) (Nat.le_of_ble_eq_true rfl)
  rw [lg_entry_eq]
  exact wX12_put_0 C hK hJ x1 h hP va_S.rf hl

theorem zdX12_feed_0 : (and (and (and (and (and (zk cX12_feed 0 (.aload_n 0) 1) (zk cX12_feed 1 (.iconst 0) 1)) (and (zk cX12_feed 2 (.putfield 151) 3) (zk cX12_feed 5 (.aload_n 0) 1))) (and (and (zk cX12_feed 6 (.getfield 162) 3) (zk cX12_feed 9 (.iload_n 1) 1)) (and (zk cX12_feed 10 (.invokestatic 165) 3) (zk cX12_feed 13 (.iadd) 1)))) (and (and (and (zk cX12_feed 14 (.iload_n 2) 1) (zk cX12_feed 15 (.invokestatic 165) 3)) (and (zk cX12_feed 18 (.iadd) 1) (zk cX12_feed 19 (.iload_n 3) 1))) (and (and (zk cX12_feed 20 (.invokestatic 165) 3) (zk cX12_feed 23 (.iadd) 1)) (and (zk cX12_feed 24 (.iload 4) 2) (zk cX12_feed 26 (.invokestatic 165) 3))))) (and (and (and (and (zk cX12_feed 29 (.iadd) 1) (zk cX12_feed 30 (.iload 5) 2)) (and (zk cX12_feed 32 (.invokestatic 165) 3) (zk cX12_feed 35 (.iadd) 1))) (and (and (zk cX12_feed 36 (.bipush 120) 2) (zk cX12_feed 38 (.if_icmp .le 5) 3)) (and (zk cX12_feed 43 (.aload_n 0) 1) (zk cX12_feed 44 (.iload_n 1) 1)))) (and (and (and (zk cX12_feed 45 (.invokevirtual 169) 3) (zk cX12_feed 48 (.aload_n 0) 1)) (and (zk cX12_feed 49 (.iload_n 2) 1) (zk cX12_feed 50 (.invokevirtual 169) 3))) (and (and (zk cX12_feed 53 (.aload_n 0) 1) (zk cX12_feed 54 (.iload_n 3) 1)) (and (zk cX12_feed 55 (.invokevirtual 169) 3) (zk cX12_feed 58 (.aload_n 0) 1)))))) = true := by decide +kernel
theorem dX12_feed_0 : decode cX12_feed 0 = .ok (.aload_n 0, 1) := zk_of (zk_l (zk_l (zk_l (zk_l (zk_l zdX12_feed_0)))))
theorem dX12_feed_1 : decode cX12_feed 1 = .ok (.iconst 0, 1) := zk_of (zk_r (zk_l (zk_l (zk_l (zk_l zdX12_feed_0)))))
theorem dX12_feed_2 : decode cX12_feed 2 = .ok (.putfield 151, 3) := zk_of (zk_l (zk_r (zk_l (zk_l (zk_l zdX12_feed_0)))))
theorem dX12_feed_5 : decode cX12_feed 5 = .ok (.aload_n 0, 1) := zk_of (zk_r (zk_r (zk_l (zk_l (zk_l zdX12_feed_0)))))
theorem dX12_feed_6 : decode cX12_feed 6 = .ok (.getfield 162, 3) := zk_of (zk_l (zk_l (zk_r (zk_l (zk_l zdX12_feed_0)))))
theorem dX12_feed_9 : decode cX12_feed 9 = .ok (.iload_n 1, 1) := zk_of (zk_r (zk_l (zk_r (zk_l (zk_l zdX12_feed_0)))))
theorem dX12_feed_10 : decode cX12_feed 10 = .ok (.invokestatic 165, 3) := zk_of (zk_l (zk_r (zk_r (zk_l (zk_l zdX12_feed_0)))))
theorem dX12_feed_13 : decode cX12_feed 13 = .ok (.iadd, 1) := zk_of (zk_r (zk_r (zk_r (zk_l (zk_l zdX12_feed_0)))))
theorem dX12_feed_14 : decode cX12_feed 14 = .ok (.iload_n 2, 1) := zk_of (zk_l (zk_l (zk_l (zk_r (zk_l zdX12_feed_0)))))
theorem dX12_feed_15 : decode cX12_feed 15 = .ok (.invokestatic 165, 3) := zk_of (zk_r (zk_l (zk_l (zk_r (zk_l zdX12_feed_0)))))
theorem dX12_feed_18 : decode cX12_feed 18 = .ok (.iadd, 1) := zk_of (zk_l (zk_r (zk_l (zk_r (zk_l zdX12_feed_0)))))
theorem dX12_feed_19 : decode cX12_feed 19 = .ok (.iload_n 3, 1) := zk_of (zk_r (zk_r (zk_l (zk_r (zk_l zdX12_feed_0)))))
theorem dX12_feed_20 : decode cX12_feed 20 = .ok (.invokestatic 165, 3) := zk_of (zk_l (zk_l (zk_r (zk_r (zk_l zdX12_feed_0)))))
theorem dX12_feed_23 : decode cX12_feed 23 = .ok (.iadd, 1) := zk_of (zk_r (zk_l (zk_r (zk_r (zk_l zdX12_feed_0)))))
theorem dX12_feed_24 : decode cX12_feed 24 = .ok (.iload 4, 2) := zk_of (zk_l (zk_r (zk_r (zk_r (zk_l zdX12_feed_0)))))
theorem dX12_feed_26 : decode cX12_feed 26 = .ok (.invokestatic 165, 3) := zk_of (zk_r (zk_r (zk_r (zk_r (zk_l zdX12_feed_0)))))
theorem dX12_feed_29 : decode cX12_feed 29 = .ok (.iadd, 1) := zk_of (zk_l (zk_l (zk_l (zk_l (zk_r zdX12_feed_0)))))
theorem dX12_feed_30 : decode cX12_feed 30 = .ok (.iload 5, 2) := zk_of (zk_r (zk_l (zk_l (zk_l (zk_r zdX12_feed_0)))))
theorem dX12_feed_32 : decode cX12_feed 32 = .ok (.invokestatic 165, 3) := zk_of (zk_l (zk_r (zk_l (zk_l (zk_r zdX12_feed_0)))))
theorem dX12_feed_35 : decode cX12_feed 35 = .ok (.iadd, 1) := zk_of (zk_r (zk_r (zk_l (zk_l (zk_r zdX12_feed_0)))))
theorem dX12_feed_36 : decode cX12_feed 36 = .ok (.bipush 120, 2) := zk_of (zk_l (zk_l (zk_r (zk_l (zk_r zdX12_feed_0)))))
theorem dX12_feed_38 : decode cX12_feed 38 = .ok (.if_icmp .le 5, 3) := zk_of (zk_r (zk_l (zk_r (zk_l (zk_r zdX12_feed_0)))))
theorem dX12_feed_43 : decode cX12_feed 43 = .ok (.aload_n 0, 1) := zk_of (zk_l (zk_r (zk_r (zk_l (zk_r zdX12_feed_0)))))
theorem dX12_feed_44 : decode cX12_feed 44 = .ok (.iload_n 1, 1) := zk_of (zk_r (zk_r (zk_r (zk_l (zk_r zdX12_feed_0)))))
theorem dX12_feed_45 : decode cX12_feed 45 = .ok (.invokevirtual 169, 3) := zk_of (zk_l (zk_l (zk_l (zk_r (zk_r zdX12_feed_0)))))
theorem dX12_feed_48 : decode cX12_feed 48 = .ok (.aload_n 0, 1) := zk_of (zk_r (zk_l (zk_l (zk_r (zk_r zdX12_feed_0)))))
theorem dX12_feed_49 : decode cX12_feed 49 = .ok (.iload_n 2, 1) := zk_of (zk_l (zk_r (zk_l (zk_r (zk_r zdX12_feed_0)))))
theorem dX12_feed_50 : decode cX12_feed 50 = .ok (.invokevirtual 169, 3) := zk_of (zk_r (zk_r (zk_l (zk_r (zk_r zdX12_feed_0)))))
theorem dX12_feed_53 : decode cX12_feed 53 = .ok (.aload_n 0, 1) := zk_of (zk_l (zk_l (zk_r (zk_r (zk_r zdX12_feed_0)))))
theorem dX12_feed_54 : decode cX12_feed 54 = .ok (.iload_n 3, 1) := zk_of (zk_r (zk_l (zk_r (zk_r (zk_r zdX12_feed_0)))))
theorem dX12_feed_55 : decode cX12_feed 55 = .ok (.invokevirtual 169, 3) := zk_of (zk_l (zk_r (zk_r (zk_r (zk_r zdX12_feed_0)))))
theorem dX12_feed_58 : decode cX12_feed 58 = .ok (.aload_n 0, 1) := zk_of (zk_r (zk_r (zk_r (zk_r (zk_r zdX12_feed_0)))))
set_option maxRecDepth 20000 in
theorem ggX12_feed_X12_bytesIn : GoodIn wsX12_feed wsX12_bytesIn := ggi (fun w h => List.mem_cons_of_mem _ (List.mem_append_left _ (List.mem_append_right _ (List.mem_append_left _ h)))) gs_X12_bytesIn
set_option maxRecDepth 20000 in
theorem gX12_feed_X12_bytesIn : GoodIn wsX12_feed (va_wsS RX12 165 yX12_bytesIn wsX12_bytesIn) := goodIn_app (goodIn_of _ (by decide +kernel)) ggX12_feed_X12_bytesIn
set_option maxRecDepth 20000 in
theorem ggX12_feed_X12_put : GoodIn wsX12_feed wsX12_put := ggi (fun w h => List.mem_cons_of_mem _ (List.mem_append_left _ (List.mem_append_right _ (List.mem_append_right _ h)))) gs_X12_put
set_option maxRecDepth 20000 in
theorem gX12_feed_X12_put : GoodIn wsX12_feed (wsV RX12 169 RX12 yX12_put wsX12_put) := goodIn_app (goodIn_of _ (by decide +kernel)) ggX12_feed_X12_put
theorem zdX12_feed_59 : (and (and (and (and (zk cX12_feed 59 (.iload 4) 2) (zk cX12_feed 61 (.invokevirtual 169) 3)) (zk cX12_feed 64 (.aload_n 0) 1)) (and (zk cX12_feed 65 (.iload 5) 2) (zk cX12_feed 67 (.invokevirtual 169) 3))) (and (and (and (zk cX12_feed 70 (.aload_n 0) 1) (zk cX12_feed 71 (.getfield 162) 3)) (zk cX12_feed 74 (.ireturn) 1)) (and (zk cX12_feed 41 (.iconst (-1)) 1) (zk cX12_feed 42 (.ireturn) 1)))) = true := by decide +kernel
theorem dX12_feed_59 : decode cX12_feed 59 = .ok (.iload 4, 2) := zk_of (zk_l (zk_l (zk_l (zk_l zdX12_feed_59))))
theorem dX12_feed_61 : decode cX12_feed 61 = .ok (.invokevirtual 169, 3) := zk_of (zk_r (zk_l (zk_l (zk_l zdX12_feed_59))))
theorem dX12_feed_64 : decode cX12_feed 64 = .ok (.aload_n 0, 1) := zk_of (zk_r (zk_l (zk_l zdX12_feed_59)))
theorem dX12_feed_65 : decode cX12_feed 65 = .ok (.iload 5, 2) := zk_of (zk_l (zk_r (zk_l zdX12_feed_59)))
theorem dX12_feed_67 : decode cX12_feed 67 = .ok (.invokevirtual 169, 3) := zk_of (zk_r (zk_r (zk_l zdX12_feed_59)))
theorem dX12_feed_70 : decode cX12_feed 70 = .ok (.aload_n 0, 1) := zk_of (zk_l (zk_l (zk_l (zk_r zdX12_feed_59))))
theorem dX12_feed_71 : decode cX12_feed 71 = .ok (.getfield 162, 3) := zk_of (zk_r (zk_l (zk_l (zk_r zdX12_feed_59))))
theorem dX12_feed_74 : decode cX12_feed 74 = .ok (.ireturn, 1) := zk_of (zk_r (zk_l (zk_r zdX12_feed_59)))
theorem dX12_feed_41 : decode cX12_feed 41 = .ok (.iconst (-1), 1) := zk_of (zk_l (zk_r (zk_r zdX12_feed_59)))
theorem dX12_feed_42 : decode cX12_feed 42 = .ok (.ireturn, 1) := zk_of (zk_r (zk_r (zk_r zdX12_feed_59)))
/-- HissHornModel.feed(IIIII)I of cell 0 -/
def rmX12_feed_0 : Room := { frames := 1, cells := 0, slots := 0, locals := 22 }
theorem hX12_feed_0_X12 : ∀ w ∈ u_ws RX12 TX12 69, w ∈ wsX12_feed := fun w h => (List.mem_cons_of_mem _ (List.mem_append_right _ h))
theorem mX12_feed_0_1 : Cond.fieldLink RX12 151 "HissHornModel" "thrown" "I" ∈ wsX12_feed := (List.mem_cons_of_mem _ (List.mem_append_left _ (List.mem_append_left _ (List.mem_of_getElem? (i := 6) rfl))))
theorem mX12_feed_0_2 : Cond.fieldLink RX12 162 "HissHornModel" "length" "I" ∈ wsX12_feed := (List.mem_cons_of_mem _ (List.mem_append_left _ (List.mem_append_left _ (List.mem_of_getElem? (i := 7) rfl))))
def fX12_feed_0 (x1 : Int32) (x2 : Int32) (x3 : Int32) (x4 : Int32) (x5 : Int32) (u : SX) : Option (Int32 × SX) := (lt (sI u 0 0) fun u1 => ((fX12_bytesIn x1).bind fun r3 => ((fX12_bytesIn x2).bind fun r6 => ((fX12_bytesIn x3).bind fun r9 => ((fX12_bytesIn x4).bind fun r12 => ((fX12_bytesIn x5).bind fun r15 => (if ((((((u1.1 3) + r3) + r6) + r9) + r12) + r15) ≤ 120 then ((fX12_put_0 x1 u1).bind fun q => match q with | (r18, u19) => ((fX12_put_0 x2 u19).bind fun q => match q with | (r21, u22) => ((fX12_put_0 x3 u22).bind fun q => match q with | (r24, u25) => ((fX12_put_0 x4 u25).bind fun q => match q with | (r27, u28) => ((fX12_put_0 x5 u28).bind fun q => match q with | (r30, u31) => (some (u31.1 3, u31))))))) else (some ((-1), u1)))))))))
set_option maxHeartbeats 4000000 in
set_option maxRecDepth 100000 in
theorem wX12_feed_0 {p : Program} {l : Launch} {e : Env} {s : State} {m : MethodId} {args : Array Value} {below : List Frame} {meth : Method} {c : Code} {D : va_G} {cy : Nat → ClassId} {ad st : Nat → Nat} (C : Cx RX12 cX12_feed 6 (some .int) wsX12_feed p s m args meth c) (hK : Ky D [(cy 0, .int), (cy 1, .long), (cy 2, .boolean), (cy 3, .byte), (cy 4, .object "HissHorn$Text")] st s) (hJ : JM ad st) (x1 : Int32) (x2 : Int32) (x3 : Int32) (x4 : Int32) (x5 : Int32) {u : SX} {r : Int32} {u' : SX} {H : Heap} {locs : List Loc} {ls : Array Slot} (h : fX12_feed_0 x1 x2 x3 x4 x5 u = some (r, u')) (hP : va_P D vwCl (VM cy ad st u) H) (hS : va_S (Ax (AM ad) s.heap.size) s.heap H locs) (hl : lv_has ls 6 [(0, .ref (ad 0)), (1, .int x1), (2, .int x2), (3, .int x3), (4, .int x4), (5, .int x5)]) : W p l e rmX12_feed_0 s m args below meth c H locs 0 0 (MQ below (Qi D (VM cy ad st) (AM ad) s.heap.size r u') args s 0 0 (Ax (AM ad) s.heap.size)) (F0 m 0 ls []) := by
  unfold fX12_feed_0 at h
  refine lv_aload_n C.1 C.2.1 dX12_feed_0 rfl (lv_at hl 0 rfl) ?_
  refine lv_iconst (v := 0) C.1 C.2.1 dX12_feed_1 (by decide) ?_
  refine pM_0_thrown C hX12_feed_0_X12 hK hP hJ hS mX12_feed_0_1 dX12_feed_2 (fun H locs hP hS => ?_)
  obtain ⟨u1, hu2, h⟩ := lt_some h
  rw [← hu2] at hP
  refine lv_aload_n C.1 C.2.1 dX12_feed_5 rfl (lv_at hl 0 rfl) ?_
  refine gM_0_length C hX12_feed_0_X12 hK hP mX12_feed_0_2 dX12_feed_6 ?_
  refine lv_iload_n C.1 C.2.1 dX12_feed_9 rfl (lv_at hl 1 rfl) ?_
  obtain ⟨r3, hc5, h⟩ := bd_some h
  refine cs_i (As := [.int x1]) (rest := [.int (u1.1 3)]) (AM_ge hJ) C hK hP hS (metX12_bytesIn l D cy st _ x1 hc5) (va_cwS 1 C.2.2.2.2.2.1 gX12_feed_X12_bytesIn rfl rfl rfl (by decide +kernel) ⟨(Nat.le_of_ble_eq_true rfl), (Nat.le_of_ble_eq_true rfl)⟩) rfl hl.1 rfl (Nat.le_of_ble_eq_true rfl) dX12_feed_10 ⟨Nat.zero_le _, Nat.zero_le _⟩ (fun H locs hP hS => ?_)
  refine lv_iadd C.1 C.2.1 dX12_feed_13 ?_
  refine lv_iload_n C.1 C.2.1 dX12_feed_14 rfl (lv_at hl 2 rfl) ?_
  obtain ⟨r6, hc8, h⟩ := bd_some h
  refine cs_i (As := [.int x2]) (rest := [.int ((u1.1 3) + r3)]) (AM_ge hJ) C hK hP hS (metX12_bytesIn l D cy st _ x2 hc8) (va_cwS 1 C.2.2.2.2.2.1 gX12_feed_X12_bytesIn rfl rfl rfl (by decide +kernel) ⟨(Nat.le_of_ble_eq_true rfl), (Nat.le_of_ble_eq_true rfl)⟩) rfl hl.1 rfl (Nat.le_of_ble_eq_true rfl) dX12_feed_15 ⟨Nat.zero_le _, Nat.zero_le _⟩ (fun H locs hP hS => ?_)
  refine lv_iadd C.1 C.2.1 dX12_feed_18 ?_
  refine lv_iload_n C.1 C.2.1 dX12_feed_19 rfl (lv_at hl 3 rfl) ?_
  obtain ⟨r9, hc11, h⟩ := bd_some h
  refine cs_i (As := [.int x3]) (rest := [.int (((u1.1 3) + r3) + r6)]) (AM_ge hJ) C hK hP hS (metX12_bytesIn l D cy st _ x3 hc11) (va_cwS 1 C.2.2.2.2.2.1 gX12_feed_X12_bytesIn rfl rfl rfl (by decide +kernel) ⟨(Nat.le_of_ble_eq_true rfl), (Nat.le_of_ble_eq_true rfl)⟩) rfl hl.1 rfl (Nat.le_of_ble_eq_true rfl) dX12_feed_20 ⟨Nat.zero_le _, Nat.zero_le _⟩ (fun H locs hP hS => ?_)
  refine lv_iadd C.1 C.2.1 dX12_feed_23 ?_
  refine lv_iload C.1 C.2.1 dX12_feed_24 (lv_at hl 4 rfl) ?_
  obtain ⟨r12, hc14, h⟩ := bd_some h
  refine cs_i (As := [.int x4]) (rest := [.int ((((u1.1 3) + r3) + r6) + r9)]) (AM_ge hJ) C hK hP hS (metX12_bytesIn l D cy st _ x4 hc14) (va_cwS 1 C.2.2.2.2.2.1 gX12_feed_X12_bytesIn rfl rfl rfl (by decide +kernel) ⟨(Nat.le_of_ble_eq_true rfl), (Nat.le_of_ble_eq_true rfl)⟩) rfl hl.1 rfl (Nat.le_of_ble_eq_true rfl) dX12_feed_26 ⟨Nat.zero_le _, Nat.zero_le _⟩ (fun H locs hP hS => ?_)
  refine lv_iadd C.1 C.2.1 dX12_feed_29 ?_
  refine lv_iload C.1 C.2.1 dX12_feed_30 (lv_at hl 5 rfl) ?_
  obtain ⟨r15, hc17, h⟩ := bd_some h
  refine cs_i (As := [.int x5]) (rest := [.int (((((u1.1 3) + r3) + r6) + r9) + r12)]) (AM_ge hJ) C hK hP hS (metX12_bytesIn l D cy st _ x5 hc17) (va_cwS 1 C.2.2.2.2.2.1 gX12_feed_X12_bytesIn rfl rfl rfl (by decide +kernel) ⟨(Nat.le_of_ble_eq_true rfl), (Nat.le_of_ble_eq_true rfl)⟩) rfl hl.1 rfl (Nat.le_of_ble_eq_true rfl) dX12_feed_32 ⟨Nat.zero_le _, Nat.zero_le _⟩ (fun H locs hP hS => ?_)
  refine lv_iadd C.1 C.2.1 dX12_feed_35 ?_
  refine lv_bipush (v := 120) C.1 C.2.1 dX12_feed_36 (by decide) ?_
  refine lv_icmp_le (tgt := 43) C.1 C.2.1 dX12_feed_38 (by decide) (fun c38 => ?_) (fun c38 => ?_)
  · rw [if_pos c38] at h
    refine lv_aload_n C.1 C.2.1 dX12_feed_43 rfl (lv_at hl 0 rfl) ?_
    refine lv_iload_n C.1 C.2.1 dX12_feed_44 rfl (lv_at hl 1 rfl) ?_
    obtain ⟨⟨r18, u19⟩, hc20, h⟩ := bd_some h
    try dsimp only at h
    refine cg_v (As := [.int x1]) (rest := []) (AM_ge hJ) C hK hP hS (metX12_put_0 l D cy ad st hJ _ x1 hc20) (cwV 1 C.2.2.2.2.2.1 gX12_feed_X12_put rfl rfl rfl (by decide +kernel) ⟨(Nat.le_of_ble_eq_true rfl), (Nat.le_of_ble_eq_true rfl)⟩) 0 12 rfl rfl rfl hl.1 rfl (Nat.le_of_ble_eq_true rfl) dX12_feed_45 ⟨Nat.zero_le _, Nat.zero_le _⟩ (fun H locs hP hS => ?_)
    refine lv_aload_n C.1 C.2.1 dX12_feed_48 rfl (lv_at hl 0 rfl) ?_
    refine lv_iload_n C.1 C.2.1 dX12_feed_49 rfl (lv_at hl 2 rfl) ?_
    obtain ⟨⟨r21, u22⟩, hc23, h⟩ := bd_some h
    try dsimp only at h
    refine cg_v (As := [.int x2]) (rest := []) (AM_ge hJ) C hK hP hS (metX12_put_0 l D cy ad st hJ _ x2 hc23) (cwV 1 C.2.2.2.2.2.1 gX12_feed_X12_put rfl rfl rfl (by decide +kernel) ⟨(Nat.le_of_ble_eq_true rfl), (Nat.le_of_ble_eq_true rfl)⟩) 0 12 rfl rfl rfl hl.1 rfl (Nat.le_of_ble_eq_true rfl) dX12_feed_50 ⟨Nat.zero_le _, Nat.zero_le _⟩ (fun H locs hP hS => ?_)
    refine lv_aload_n C.1 C.2.1 dX12_feed_53 rfl (lv_at hl 0 rfl) ?_
    refine lv_iload_n C.1 C.2.1 dX12_feed_54 rfl (lv_at hl 3 rfl) ?_
    obtain ⟨⟨r24, u25⟩, hc26, h⟩ := bd_some h
    try dsimp only at h
    refine cg_v (As := [.int x3]) (rest := []) (AM_ge hJ) C hK hP hS (metX12_put_0 l D cy ad st hJ _ x3 hc26) (cwV 1 C.2.2.2.2.2.1 gX12_feed_X12_put rfl rfl rfl (by decide +kernel) ⟨(Nat.le_of_ble_eq_true rfl), (Nat.le_of_ble_eq_true rfl)⟩) 0 12 rfl rfl rfl hl.1 rfl (Nat.le_of_ble_eq_true rfl) dX12_feed_55 ⟨Nat.zero_le _, Nat.zero_le _⟩ (fun H locs hP hS => ?_)
    refine lv_aload_n C.1 C.2.1 dX12_feed_58 rfl (lv_at hl 0 rfl) ?_
    refine lv_iload C.1 C.2.1 dX12_feed_59 (lv_at hl 4 rfl) ?_
    obtain ⟨⟨r27, u28⟩, hc29, h⟩ := bd_some h
    try dsimp only at h
    refine cg_v (As := [.int x4]) (rest := []) (AM_ge hJ) C hK hP hS (metX12_put_0 l D cy ad st hJ _ x4 hc29) (cwV 1 C.2.2.2.2.2.1 gX12_feed_X12_put rfl rfl rfl (by decide +kernel) ⟨(Nat.le_of_ble_eq_true rfl), (Nat.le_of_ble_eq_true rfl)⟩) 0 12 rfl rfl rfl hl.1 rfl (Nat.le_of_ble_eq_true rfl) dX12_feed_61 ⟨Nat.zero_le _, Nat.zero_le _⟩ (fun H locs hP hS => ?_)
    refine lv_aload_n C.1 C.2.1 dX12_feed_64 rfl (lv_at hl 0 rfl) ?_
    refine lv_iload C.1 C.2.1 dX12_feed_65 (lv_at hl 5 rfl) ?_
    obtain ⟨⟨r30, u31⟩, hc32, h⟩ := bd_some h
    try dsimp only at h
    refine cg_v (As := [.int x5]) (rest := []) (AM_ge hJ) C hK hP hS (metX12_put_0 l D cy ad st hJ _ x5 hc32) (cwV 1 C.2.2.2.2.2.1 gX12_feed_X12_put rfl rfl rfl (by decide +kernel) ⟨(Nat.le_of_ble_eq_true rfl), (Nat.le_of_ble_eq_true rfl)⟩) 0 12 rfl rfl rfl hl.1 rfl (Nat.le_of_ble_eq_true rfl) dX12_feed_67 ⟨Nat.zero_le _, Nat.zero_le _⟩ (fun H locs hP hS => ?_)
    refine lv_aload_n C.1 C.2.1 dX12_feed_70 rfl (lv_at hl 0 rfl) ?_
    refine gM_0_length C hX12_feed_0_X12 hK hP mX12_feed_0_2 dX12_feed_71 ?_
    cases h
    exact rt_i C hP hS dX12_feed_74
  · rw [if_neg c38] at h
    refine lv_iconst (v := (-1)) C.1 C.2.1 dX12_feed_41 (by decide) ?_
    cases h
    exact rt_i C hP hS dX12_feed_42
theorem metX12_feed_0 (l : Launch) (D : va_G) (cy : Nat → ClassId) (ad st : Nat → Nat) (hJ : JM ad st) (sz : Nat) (x1 : Int32) (x2 : Int32) (x3 : Int32) (x4 : Int32) (x5 : Int32) {u : SX} {r : Int32} {u' : SX} (h : fX12_feed_0 x1 x2 x3 x4 x5 u = some (r, u')) : Met l yX12_feed wsX12_feed rmX12_feed_0 (va_Pc [.ref (ad 0), .int x1, .int x2, .int x3, .int x4, .int x5] (Px D [(cy 0, .int), (cy 1, .long), (cy 2, .boolean), (cy 3, .byte), (cy 4, .object "HissHorn$Text")] st (VM cy ad st) sz u)) (Qi D (VM cy ad st) (AM ad) sz r u') 0 0 (Ax (AM ad) sz) := by
  refine Met.ofW (cc := cX12_feed) (maxL := 6) (ret := (some .int)) (by decide) rfl ?_
  intro p e s m args below meth c s₁ B hml hv
  obtain ⟨rfl, hsz, hP, hK⟩ := hv
  subst hsz
  have C : Cx RX12 cX12_feed 6 (some .int) wsX12_feed p s m _ meth c := ⟨B.exec, B.bytes, hml, B.returns, findClass_of_methodNamed B.named, atoms_spec (ws := wsX12_feed) B.pre, B.notSynchronized⟩
  have hl := lv_entry ([.ref (ad 0), .int x1, .int x2, .int x3, .int x4, .int x5]) (n := 6) (Nat.le_of_ble_eq_true rfl)
  rw [lg_entry_eq]
  exact wX12_feed_0 C hK hJ x1 x2 x3 x4 x5 h hP va_S.rf hl

theorem zdX12_end_0 : (and (and (and (and (zk cX12_end 0 (.aload_n 0) 1) (zk cX12_end 1 (.iconst 0) 1)) (and (zk cX12_end 2 (.putfield 151) 3) (zk cX12_end 5 (.iload_n 1) 1))) (and (and (zk cX12_end 6 (.ifCond .lt 11) 3) (zk cX12_end 17 (.iconst 0) 1)) (and (zk cX12_end 18 (.ireturn) 1) (zk cX12_end 9 (.iload_n 1) 1)))) (and (and (and (zk cX12_end 10 (.aload_n 0) 1) (zk cX12_end 11 (.getfield 162) 3)) (and (zk cX12_end 14 (.if_icmp .le 5) 3) (zk cX12_end 19 (.aload_n 0) 1))) (and (and (zk cX12_end 20 (.iload_n 1) 1) (zk cX12_end 21 (.putfield 162) 3)) (and (zk cX12_end 24 (.iconst 1) 1) (zk cX12_end 25 (.ireturn) 1))))) = true := by decide +kernel
theorem dX12_end_0 : decode cX12_end 0 = .ok (.aload_n 0, 1) := zk_of (zk_l (zk_l (zk_l (zk_l zdX12_end_0))))
theorem dX12_end_1 : decode cX12_end 1 = .ok (.iconst 0, 1) := zk_of (zk_r (zk_l (zk_l (zk_l zdX12_end_0))))
theorem dX12_end_2 : decode cX12_end 2 = .ok (.putfield 151, 3) := zk_of (zk_l (zk_r (zk_l (zk_l zdX12_end_0))))
theorem dX12_end_5 : decode cX12_end 5 = .ok (.iload_n 1, 1) := zk_of (zk_r (zk_r (zk_l (zk_l zdX12_end_0))))
theorem dX12_end_6 : decode cX12_end 6 = .ok (.ifCond .lt 11, 3) := zk_of (zk_l (zk_l (zk_r (zk_l zdX12_end_0))))
theorem dX12_end_17 : decode cX12_end 17 = .ok (.iconst 0, 1) := zk_of (zk_r (zk_l (zk_r (zk_l zdX12_end_0))))
theorem dX12_end_18 : decode cX12_end 18 = .ok (.ireturn, 1) := zk_of (zk_l (zk_r (zk_r (zk_l zdX12_end_0))))
theorem dX12_end_9 : decode cX12_end 9 = .ok (.iload_n 1, 1) := zk_of (zk_r (zk_r (zk_r (zk_l zdX12_end_0))))
theorem dX12_end_10 : decode cX12_end 10 = .ok (.aload_n 0, 1) := zk_of (zk_l (zk_l (zk_l (zk_r zdX12_end_0))))
theorem dX12_end_11 : decode cX12_end 11 = .ok (.getfield 162, 3) := zk_of (zk_r (zk_l (zk_l (zk_r zdX12_end_0))))
theorem dX12_end_14 : decode cX12_end 14 = .ok (.if_icmp .le 5, 3) := zk_of (zk_l (zk_r (zk_l (zk_r zdX12_end_0))))
theorem dX12_end_19 : decode cX12_end 19 = .ok (.aload_n 0, 1) := zk_of (zk_r (zk_r (zk_l (zk_r zdX12_end_0))))
theorem dX12_end_20 : decode cX12_end 20 = .ok (.iload_n 1, 1) := zk_of (zk_l (zk_l (zk_r (zk_r zdX12_end_0))))
theorem dX12_end_21 : decode cX12_end 21 = .ok (.putfield 162, 3) := zk_of (zk_r (zk_l (zk_r (zk_r zdX12_end_0))))
theorem dX12_end_24 : decode cX12_end 24 = .ok (.iconst 1, 1) := zk_of (zk_l (zk_r (zk_r (zk_r zdX12_end_0))))
theorem dX12_end_25 : decode cX12_end 25 = .ok (.ireturn, 1) := zk_of (zk_r (zk_r (zk_r (zk_r zdX12_end_0))))
/-- HissHornModel.end(I)Z of cell 0 -/
def rmX12_end_0 : Room := { frames := 0, cells := 0, slots := 0, locals := 0 }
theorem hX12_end_0_X12 : ∀ w ∈ u_ws RX12 TX12 69, w ∈ wsX12_end := fun w h => (List.mem_cons_of_mem _ (List.mem_append_right _ h))
theorem mX12_end_0_1 : Cond.fieldLink RX12 151 "HissHornModel" "thrown" "I" ∈ wsX12_end := (List.mem_cons_of_mem _ (List.mem_append_left _ (List.mem_of_getElem? (i := 0) rfl)))
theorem mX12_end_0_2 : Cond.fieldLink RX12 162 "HissHornModel" "length" "I" ∈ wsX12_end := (List.mem_cons_of_mem _ (List.mem_append_left _ (List.mem_of_getElem? (i := 1) rfl)))
def fX12_end_0 (x1 : Int32) (u : SX) : Option (Int32 × SX) := (lt (sI u 0 0) fun u1 => (if x1 < 0 then (gd (isB 0) (some (0, u1))) else (if x1 ≤ (u1.1 3) then (lt (sI u1 3 x1) fun u4 => (gd (isB 1) (some (1, u4)))) else (gd (isB 0) (some (0, u1))))))
set_option maxHeartbeats 4000000 in
set_option maxRecDepth 100000 in
theorem wX12_end_0 {p : Program} {l : Launch} {e : Env} {s : State} {m : MethodId} {args : Array Value} {below : List Frame} {meth : Method} {c : Code} {D : va_G} {cy : Nat → ClassId} {ad st : Nat → Nat} (C : Cx RX12 cX12_end 2 (some .boolean) wsX12_end p s m args meth c) (hK : Ky D [(cy 0, .int), (cy 1, .long), (cy 2, .boolean), (cy 3, .byte), (cy 4, .object "HissHorn$Text")] st s) (hJ : JM ad st) (x1 : Int32) {u : SX} {r : Int32} {u' : SX} {H : Heap} {locs : List Loc} {ls : Array Slot} (h : fX12_end_0 x1 u = some (r, u')) (hP : va_P D vwCl (VM cy ad st u) H) (hS : va_S (Ax (AM ad) s.heap.size) s.heap H locs) (hl : lv_has ls 2 [(0, .ref (ad 0)), (1, .int x1)]) : W p l e rmX12_end_0 s m args below meth c H locs 0 0 (MQ below (Qi D (VM cy ad st) (AM ad) s.heap.size r u') args s 0 0 (Ax (AM ad) s.heap.size)) (F0 m 0 ls []) := by
  unfold fX12_end_0 at h
  refine lv_aload_n C.1 C.2.1 dX12_end_0 rfl (lv_at hl 0 rfl) ?_
  refine lv_iconst (v := 0) C.1 C.2.1 dX12_end_1 (by decide) ?_
  refine pM_0_thrown C hX12_end_0_X12 hK hP hJ hS mX12_end_0_1 dX12_end_2 (fun H locs hP hS => ?_)
  obtain ⟨u1, hu2, h⟩ := lt_some h
  rw [← hu2] at hP
  refine lv_iload_n C.1 C.2.1 dX12_end_5 rfl (lv_at hl 1 rfl) ?_
  refine lv_if_lt (tgt := 17) C.1 C.2.1 dX12_end_6 (by decide) (fun c6 => ?_) (fun c6 => ?_)
  · rw [if_pos c6] at h
    refine lv_iconst (v := 0) C.1 C.2.1 dX12_end_17 (by decide) ?_
    obtain ⟨hg3, h⟩ := gd_some h
    cases h
    exact rt_z hg3 C hP hS dX12_end_18
  · rw [if_neg c6] at h
    refine lv_iload_n C.1 C.2.1 dX12_end_9 rfl (lv_at hl 1 rfl) ?_
    refine lv_aload_n C.1 C.2.1 dX12_end_10 rfl (lv_at hl 0 rfl) ?_
    refine gM_0_length C hX12_end_0_X12 hK hP mX12_end_0_2 dX12_end_11 ?_
    refine lv_icmp_le (tgt := 19) C.1 C.2.1 dX12_end_14 (by decide) (fun c14 => ?_) (fun c14 => ?_)
    · rw [if_pos c14] at h
      refine lv_aload_n C.1 C.2.1 dX12_end_19 rfl (lv_at hl 0 rfl) ?_
      refine lv_iload_n C.1 C.2.1 dX12_end_20 rfl (lv_at hl 1 rfl) ?_
      refine pM_0_length C hX12_end_0_X12 hK hP hJ hS mX12_end_0_2 dX12_end_21 (fun H locs hP hS => ?_)
      obtain ⟨u4, hu5, h⟩ := lt_some h
      rw [← hu5] at hP
      refine lv_iconst (v := 1) C.1 C.2.1 dX12_end_24 (by decide) ?_
      obtain ⟨hg6, h⟩ := gd_some h
      cases h
      exact rt_z hg6 C hP hS dX12_end_25
    · rw [if_neg c14] at h
      refine lv_iconst (v := 0) C.1 C.2.1 dX12_end_17 (by decide) ?_
      obtain ⟨hg7, h⟩ := gd_some h
      cases h
      exact rt_z hg7 C hP hS dX12_end_18
theorem metX12_end_0 (l : Launch) (D : va_G) (cy : Nat → ClassId) (ad st : Nat → Nat) (hJ : JM ad st) (sz : Nat) (x1 : Int32) {u : SX} {r : Int32} {u' : SX} (h : fX12_end_0 x1 u = some (r, u')) : Met l yX12_end wsX12_end rmX12_end_0 (va_Pc [.ref (ad 0), .int x1] (Px D [(cy 0, .int), (cy 1, .long), (cy 2, .boolean), (cy 3, .byte), (cy 4, .object "HissHorn$Text")] st (VM cy ad st) sz u)) (Qi D (VM cy ad st) (AM ad) sz r u') 0 0 (Ax (AM ad) sz) := by
  refine Met.ofW (cc := cX12_end) (maxL := 2) (ret := (some .boolean)) (by decide) rfl ?_
  intro p e s m args below meth c s₁ B hml hv
  obtain ⟨rfl, hsz, hP, hK⟩ := hv
  subst hsz
  have C : Cx RX12 cX12_end 2 (some .boolean) wsX12_end p s m _ meth c := ⟨B.exec, B.bytes, hml, B.returns, findClass_of_methodNamed B.named, atoms_spec (ws := wsX12_end) B.pre, B.notSynchronized⟩
  have hl := lv_entry ([.ref (ad 0), .int x1]) (n := 2) (Nat.le_of_ble_eq_true rfl)
  rw [lg_entry_eq]
  exact wX12_end_0 C hK hJ x1 h hP va_S.rf hl

theorem zdX12_look_0 : (and (and (and (and (and (zk cX12_look 0 (.aload_n 0) 1) (zk cX12_look 1 (.getfield 173) 3)) (and (zk cX12_look 4 (.aload_n 0) 1) (zk cX12_look 5 (.getfield 176) 3))) (and (and (zk cX12_look 8 (.if_icmp .ge 35) 3) (zk cX12_look 11 (.aload_n 0) 1)) (and (zk cX12_look 12 (.getfield 26) 3) (zk cX12_look 15 (.aload_n 0) 1)))) (and (and (and (zk cX12_look 16 (.getfield 179) 3) (zk cX12_look 19 (.aload_n 0) 1)) (and (zk cX12_look 20 (.getfield 173) 3) (zk cX12_look 23 (.iadd) 1))) (and (and (zk cX12_look 24 (.baload) 1) (zk cX12_look 25 (.bipush 32) 2)) (and (zk cX12_look 27 (.if_icmp .ne 16) 3) (zk cX12_look 30 (.aload_n 0) 1))))) (and (and (and (and (zk cX12_look 31 (.dup) 1) (zk cX12_look 32 (.getfield 173) 3)) (and (zk cX12_look 35 (.iconst 1) 1) (zk cX12_look 36 (.iadd) 1))) (and (and (zk cX12_look 37 (.putfield 173) 3) (zk cX12_look 40 (.goto (-40)) 3)) (and (zk cX12_look 43 (.aload_n 0) 1) (zk cX12_look 44 (.getfield 173) 3)))) (and (and (and (zk cX12_look 47 (.aload_n 0) 1) (zk cX12_look 48 (.getfield 176) 3)) (and (zk cX12_look 51 (.if_icmp .ge 24) 3) (zk cX12_look 75 (.iconst (-1)) 1))) (and (and (zk cX12_look 76 (.ireturn) 1) (zk cX12_look 54 (.aload_n 0) 1)) (and (zk cX12_look 55 (.getfield 26) 3) (zk cX12_look 58 (.aload_n 0) 1)))))) = true := by decide +kernel
theorem dX12_look_0 : decode cX12_look 0 = .ok (.aload_n 0, 1) := zk_of (zk_l (zk_l (zk_l (zk_l (zk_l zdX12_look_0)))))
theorem dX12_look_1 : decode cX12_look 1 = .ok (.getfield 173, 3) := zk_of (zk_r (zk_l (zk_l (zk_l (zk_l zdX12_look_0)))))
theorem dX12_look_4 : decode cX12_look 4 = .ok (.aload_n 0, 1) := zk_of (zk_l (zk_r (zk_l (zk_l (zk_l zdX12_look_0)))))
theorem dX12_look_5 : decode cX12_look 5 = .ok (.getfield 176, 3) := zk_of (zk_r (zk_r (zk_l (zk_l (zk_l zdX12_look_0)))))
theorem dX12_look_8 : decode cX12_look 8 = .ok (.if_icmp .ge 35, 3) := zk_of (zk_l (zk_l (zk_r (zk_l (zk_l zdX12_look_0)))))
theorem dX12_look_11 : decode cX12_look 11 = .ok (.aload_n 0, 1) := zk_of (zk_r (zk_l (zk_r (zk_l (zk_l zdX12_look_0)))))
theorem dX12_look_12 : decode cX12_look 12 = .ok (.getfield 26, 3) := zk_of (zk_l (zk_r (zk_r (zk_l (zk_l zdX12_look_0)))))
theorem dX12_look_15 : decode cX12_look 15 = .ok (.aload_n 0, 1) := zk_of (zk_r (zk_r (zk_r (zk_l (zk_l zdX12_look_0)))))
theorem dX12_look_16 : decode cX12_look 16 = .ok (.getfield 179, 3) := zk_of (zk_l (zk_l (zk_l (zk_r (zk_l zdX12_look_0)))))
theorem dX12_look_19 : decode cX12_look 19 = .ok (.aload_n 0, 1) := zk_of (zk_r (zk_l (zk_l (zk_r (zk_l zdX12_look_0)))))
theorem dX12_look_20 : decode cX12_look 20 = .ok (.getfield 173, 3) := zk_of (zk_l (zk_r (zk_l (zk_r (zk_l zdX12_look_0)))))
theorem dX12_look_23 : decode cX12_look 23 = .ok (.iadd, 1) := zk_of (zk_r (zk_r (zk_l (zk_r (zk_l zdX12_look_0)))))
theorem dX12_look_24 : decode cX12_look 24 = .ok (.baload, 1) := zk_of (zk_l (zk_l (zk_r (zk_r (zk_l zdX12_look_0)))))
theorem dX12_look_25 : decode cX12_look 25 = .ok (.bipush 32, 2) := zk_of (zk_r (zk_l (zk_r (zk_r (zk_l zdX12_look_0)))))
theorem dX12_look_27 : decode cX12_look 27 = .ok (.if_icmp .ne 16, 3) := zk_of (zk_l (zk_r (zk_r (zk_r (zk_l zdX12_look_0)))))
theorem dX12_look_30 : decode cX12_look 30 = .ok (.aload_n 0, 1) := zk_of (zk_r (zk_r (zk_r (zk_r (zk_l zdX12_look_0)))))
theorem dX12_look_31 : decode cX12_look 31 = .ok (.dup, 1) := zk_of (zk_l (zk_l (zk_l (zk_l (zk_r zdX12_look_0)))))
theorem dX12_look_32 : decode cX12_look 32 = .ok (.getfield 173, 3) := zk_of (zk_r (zk_l (zk_l (zk_l (zk_r zdX12_look_0)))))
theorem dX12_look_35 : decode cX12_look 35 = .ok (.iconst 1, 1) := zk_of (zk_l (zk_r (zk_l (zk_l (zk_r zdX12_look_0)))))
theorem dX12_look_36 : decode cX12_look 36 = .ok (.iadd, 1) := zk_of (zk_r (zk_r (zk_l (zk_l (zk_r zdX12_look_0)))))
theorem dX12_look_37 : decode cX12_look 37 = .ok (.putfield 173, 3) := zk_of (zk_l (zk_l (zk_r (zk_l (zk_r zdX12_look_0)))))
theorem dX12_look_40 : decode cX12_look 40 = .ok (.goto (-40), 3) := zk_of (zk_r (zk_l (zk_r (zk_l (zk_r zdX12_look_0)))))
theorem dX12_look_43 : decode cX12_look 43 = .ok (.aload_n 0, 1) := zk_of (zk_l (zk_r (zk_r (zk_l (zk_r zdX12_look_0)))))
theorem dX12_look_44 : decode cX12_look 44 = .ok (.getfield 173, 3) := zk_of (zk_r (zk_r (zk_r (zk_l (zk_r zdX12_look_0)))))
theorem dX12_look_47 : decode cX12_look 47 = .ok (.aload_n 0, 1) := zk_of (zk_l (zk_l (zk_l (zk_r (zk_r zdX12_look_0)))))
theorem dX12_look_48 : decode cX12_look 48 = .ok (.getfield 176, 3) := zk_of (zk_r (zk_l (zk_l (zk_r (zk_r zdX12_look_0)))))
theorem dX12_look_51 : decode cX12_look 51 = .ok (.if_icmp .ge 24, 3) := zk_of (zk_l (zk_r (zk_l (zk_r (zk_r zdX12_look_0)))))
theorem dX12_look_75 : decode cX12_look 75 = .ok (.iconst (-1), 1) := zk_of (zk_r (zk_r (zk_l (zk_r (zk_r zdX12_look_0)))))
theorem dX12_look_76 : decode cX12_look 76 = .ok (.ireturn, 1) := zk_of (zk_l (zk_l (zk_r (zk_r (zk_r zdX12_look_0)))))
theorem dX12_look_54 : decode cX12_look 54 = .ok (.aload_n 0, 1) := zk_of (zk_r (zk_l (zk_r (zk_r (zk_r zdX12_look_0)))))
theorem dX12_look_55 : decode cX12_look 55 = .ok (.getfield 26, 3) := zk_of (zk_l (zk_r (zk_r (zk_r (zk_r zdX12_look_0)))))
theorem dX12_look_58 : decode cX12_look 58 = .ok (.aload_n 0, 1) := zk_of (zk_r (zk_r (zk_r (zk_r (zk_r zdX12_look_0)))))
theorem zdX12_look_59 : (and (and (and (zk cX12_look 59 (.getfield 179) 3) (zk cX12_look 62 (.aload_n 0) 1)) (and (zk cX12_look 63 (.getfield 173) 3) (zk cX12_look 66 (.iadd) 1))) (and (and (zk cX12_look 67 (.baload) 1) (zk cX12_look 68 (.sipush 255) 3)) (and (zk cX12_look 71 (.iand) 1) (zk cX12_look 72 (.goto 4) 3)))) = true := by decide +kernel
theorem dX12_look_59 : decode cX12_look 59 = .ok (.getfield 179, 3) := zk_of (zk_l (zk_l (zk_l zdX12_look_59)))
theorem dX12_look_62 : decode cX12_look 62 = .ok (.aload_n 0, 1) := zk_of (zk_r (zk_l (zk_l zdX12_look_59)))
theorem dX12_look_63 : decode cX12_look 63 = .ok (.getfield 173, 3) := zk_of (zk_l (zk_r (zk_l zdX12_look_59)))
theorem dX12_look_66 : decode cX12_look 66 = .ok (.iadd, 1) := zk_of (zk_r (zk_r (zk_l zdX12_look_59)))
theorem dX12_look_67 : decode cX12_look 67 = .ok (.baload, 1) := zk_of (zk_l (zk_l (zk_r zdX12_look_59)))
theorem dX12_look_68 : decode cX12_look 68 = .ok (.sipush 255, 3) := zk_of (zk_r (zk_l (zk_r zdX12_look_59)))
theorem dX12_look_71 : decode cX12_look 71 = .ok (.iand, 1) := zk_of (zk_l (zk_r (zk_r zdX12_look_59)))
theorem dX12_look_72 : decode cX12_look 72 = .ok (.goto 4, 3) := zk_of (zk_r (zk_r (zk_r zdX12_look_59)))
/-- HissHornModel.look()I of cell 0 -/
def rmX12_look_0 : Room := { frames := 0, cells := 0, slots := 0, locals := 0 }
theorem hX12_look_0_X12 : ∀ w ∈ u_ws RX12 TX12 69, w ∈ wsX12_look := fun w h => (List.mem_cons_of_mem _ (List.mem_append_right _ h))
theorem mX12_look_0_1 : Cond.fieldLink RX12 173 "HissHornModel" "at" "I" ∈ wsX12_look := (List.mem_cons_of_mem _ (List.mem_append_left _ (List.mem_of_getElem? (i := 0) rfl)))
theorem mX12_look_0_2 : Cond.fieldLink RX12 176 "HissHornModel" "ends" "I" ∈ wsX12_look := (List.mem_cons_of_mem _ (List.mem_append_left _ (List.mem_of_getElem? (i := 1) rfl)))
theorem mX12_look_0_3 : Cond.fieldLink RX12 26 "HissHornModel" "text" "[B" ∈ wsX12_look := (List.mem_cons_of_mem _ (List.mem_append_left _ (List.mem_of_getElem? (i := 2) rfl)))
theorem mX12_look_0_4 : Cond.fieldLink RX12 179 "HissHornModel" "begins" "I" ∈ wsX12_look := (List.mem_cons_of_mem _ (List.mem_append_left _ (List.mem_of_getElem? (i := 3) rfl)))
def LX12_look_0_0 (k43 : SX → Option (Int32 × SX)) : Nat → SX → Option (Int32 × SX)
  | 0, _ => none
  | n + 1, u => (if (u.1 5) ≤ (u.1 6) then (k43 u) else (if u.1 2 = 2 then (gd (inb ((u.1 4) + (u.1 6)) 120) (if (u.2.1 1 ((u.1 4) + (u.1 6)).toNatClampNeg) = 32 then (lt (sI u 6 ((u.1 6) + 1)) fun u2 => ((LX12_look_0_0 k43 n) u2)) else (k43 u))) else (if u.1 2 = 3 then (gd (inb ((u.1 4) + (u.1 6)) 4320) (if (u.2.1 2 ((u.1 4) + (u.1 6)).toNatClampNeg) = 32 then (lt (sI u 6 ((u.1 6) + 1)) fun u5 => ((LX12_look_0_0 k43 n) u5)) else (k43 u))) else none)))
def GX12_look_0_43  (u : SX) : Option (Int32 × SX) := (if (u.1 5) ≤ (u.1 6) then (some ((-1), u)) else (if u.1 2 = 2 then (gd (inb ((u.1 4) + (u.1 6)) 120) (some ((u.2.1 1 ((u.1 4) + (u.1 6)).toNatClampNeg) &&& 255, u))) else (if u.1 2 = 3 then (gd (inb ((u.1 4) + (u.1 6)) 4320) (some ((u.2.1 2 ((u.1 4) + (u.1 6)).toNatClampNeg) &&& 255, u))) else none)))
def fX12_look_0  (u : SX) : Option (Int32 × SX) := (LX12_look_0_0 GX12_look_0_43 5000 u)
set_option maxHeartbeats 4000000 in
set_option maxRecDepth 100000 in
theorem wLX12_look_0_0 {p : Program} {l : Launch} {e : Env} {s : State} {m : MethodId} {args : Array Value} {below : List Frame} {meth : Method} {c : Code} {D : va_G} {cy : Nat → ClassId} {ad st : Nat → Nat} (C : Cx RX12 cX12_look 1 (some .int) wsX12_look p s m args meth c) (hK : Ky D [(cy 0, .int), (cy 1, .long), (cy 2, .boolean), (cy 3, .byte), (cy 4, .object "HissHorn$Text")] st s) (hJ : JM ad st) {r : Int32} {u' : SX} {k43 : SX → Option (Int32 × SX)} (hk43 : ∀  (u : SX) (H : Heap) (locs : List Loc) (ls : Array Slot), k43 u = some (r, u') → va_P D vwCl (VM cy ad st u) H → va_S (Ax (AM ad) s.heap.size) s.heap H locs → lv_has ls 1 [(0, .ref (ad 0))] → W p l e rmX12_look_0 s m args below meth c H locs 0 0 (MQ below (Qi D (VM cy ad st) (AM ad) s.heap.size r u') args s 0 0 (Ax (AM ad) s.heap.size)) (F0 m 43 ls [])) : ∀ (n : Nat) (u : SX) (H : Heap) (locs : List Loc) (ls : Array Slot), LX12_look_0_0 k43 n u = some (r, u') → va_P D vwCl (VM cy ad st u) H → va_S (Ax (AM ad) s.heap.size) s.heap H locs → lv_has ls 1 [(0, .ref (ad 0))] → W p l e rmX12_look_0 s m args below meth c H locs 0 0 (MQ below (Qi D (VM cy ad st) (AM ad) s.heap.size r u') args s 0 0 (Ax (AM ad) s.heap.size)) (F0 m 0 ls []) := by
  intro n
  induction n with
  | zero =>
    intro u H locs ls h
    exact absurd h (by intro q; cases q)
  | succ n ih =>
    intro u H locs ls h hP hS hl
    rw [LX12_look_0_0] at h
    refine lv_aload_n C.1 C.2.1 dX12_look_0 rfl (lv_at hl 0 rfl) ?_
    refine gM_0_at C hX12_look_0_X12 hK hP mX12_look_0_1 dX12_look_1 ?_
    refine lv_aload_n C.1 C.2.1 dX12_look_4 rfl (lv_at hl 0 rfl) ?_
    refine gM_0_ends C hX12_look_0_X12 hK hP mX12_look_0_2 dX12_look_5 ?_
    refine lv_icmp_ge (tgt := 43) C.1 C.2.1 dX12_look_8 (by decide) (fun c8 => ?_) (fun c8 => ?_)
    · rw [if_pos c8] at h
      exact hk43 _ _ _ _ h hP hS hl
    · rw [if_neg c8] at h
      refine lv_aload_n C.1 C.2.1 dX12_look_11 rfl (lv_at hl 0 rfl) ?_
      refine gM_0_text C hX12_look_0_X12 hK hP mX12_look_0_3 dX12_look_12 ?_
      by_cases c12_1 : u.1 2 = 2
      · rw [if_pos c12_1] at h
        refine W.eq (g2 := F0 m 15 ls [.ref (ad 1)]) (by rw [c12_1]; rfl) ?_
        refine lv_aload_n C.1 C.2.1 dX12_look_15 rfl (lv_at hl 0 rfl) ?_
        refine gM_0_begins C hX12_look_0_X12 hK hP mX12_look_0_4 dX12_look_16 ?_
        refine lv_aload_n C.1 C.2.1 dX12_look_19 rfl (lv_at hl 0 rfl) ?_
        refine gM_0_at C hX12_look_0_X12 hK hP mX12_look_0_1 dX12_look_20 ?_
        refine lv_iadd C.1 C.2.1 dX12_look_23 ?_
        obtain ⟨hg1, h⟩ := gd_some h
        refine lM_1 C hK hP hg1 dX12_look_24 ?_
        refine lv_bipush (v := 32) C.1 C.2.1 dX12_look_25 (by decide) ?_
        refine lv_icmp_ne (tgt := 43) C.1 C.2.1 dX12_look_27 (by decide) (fun c27 => ?_) (fun c27 => ?_)
        · rw [if_neg c27] at h
          exact hk43 _ _ _ _ h hP hS hl
        · rw [if_pos c27] at h
          refine lv_aload_n C.1 C.2.1 dX12_look_30 rfl (lv_at hl 0 rfl) ?_
          refine lv_dup C.1 C.2.1 dX12_look_31 rfl ?_
          refine gM_0_at C hX12_look_0_X12 hK hP mX12_look_0_1 dX12_look_32 ?_
          refine lv_iconst (v := 1) C.1 C.2.1 dX12_look_35 (by decide) ?_
          refine lv_iadd C.1 C.2.1 dX12_look_36 ?_
          refine pM_0_at C hX12_look_0_X12 hK hP hJ hS mX12_look_0_1 dX12_look_37 (fun H locs hP hS => ?_)
          obtain ⟨u2, hu3, h⟩ := lt_some h
          rw [← hu3] at hP
          refine lv_goto (tgt := 0) C.1 C.2.1 dX12_look_40 (by decide) ?_
          exact ih _ _ _ _ h hP hS hl
      · rw [if_neg c12_1] at h
        by_cases c12_2 : u.1 2 = 3
        · rw [if_pos c12_2] at h
          refine W.eq (g2 := F0 m 15 ls [.ref (ad 2)]) (by rw [c12_2]; rfl) ?_
          refine lv_aload_n C.1 C.2.1 dX12_look_15 rfl (lv_at hl 0 rfl) ?_
          refine gM_0_begins C hX12_look_0_X12 hK hP mX12_look_0_4 dX12_look_16 ?_
          refine lv_aload_n C.1 C.2.1 dX12_look_19 rfl (lv_at hl 0 rfl) ?_
          refine gM_0_at C hX12_look_0_X12 hK hP mX12_look_0_1 dX12_look_20 ?_
          refine lv_iadd C.1 C.2.1 dX12_look_23 ?_
          obtain ⟨hg4, h⟩ := gd_some h
          refine lM_2 C hK hP hg4 dX12_look_24 ?_
          refine lv_bipush (v := 32) C.1 C.2.1 dX12_look_25 (by decide) ?_
          refine lv_icmp_ne (tgt := 43) C.1 C.2.1 dX12_look_27 (by decide) (fun c27 => ?_) (fun c27 => ?_)
          · rw [if_neg c27] at h
            exact hk43 _ _ _ _ h hP hS hl
          · rw [if_pos c27] at h
            refine lv_aload_n C.1 C.2.1 dX12_look_30 rfl (lv_at hl 0 rfl) ?_
            refine lv_dup C.1 C.2.1 dX12_look_31 rfl ?_
            refine gM_0_at C hX12_look_0_X12 hK hP mX12_look_0_1 dX12_look_32 ?_
            refine lv_iconst (v := 1) C.1 C.2.1 dX12_look_35 (by decide) ?_
            refine lv_iadd C.1 C.2.1 dX12_look_36 ?_
            refine pM_0_at C hX12_look_0_X12 hK hP hJ hS mX12_look_0_1 dX12_look_37 (fun H locs hP hS => ?_)
            obtain ⟨u5, hu6, h⟩ := lt_some h
            rw [← hu6] at hP
            refine lv_goto (tgt := 0) C.1 C.2.1 dX12_look_40 (by decide) ?_
            exact ih _ _ _ _ h hP hS hl
        · rw [if_neg c12_2] at h
          exact absurd h (by intro q; cases q)
set_option maxHeartbeats 4000000 in
set_option maxRecDepth 100000 in
theorem wGX12_look_0_43 {p : Program} {l : Launch} {e : Env} {s : State} {m : MethodId} {args : Array Value} {below : List Frame} {meth : Method} {c : Code} {D : va_G} {cy : Nat → ClassId} {ad st : Nat → Nat} (C : Cx RX12 cX12_look 1 (some .int) wsX12_look p s m args meth c) (hK : Ky D [(cy 0, .int), (cy 1, .long), (cy 2, .boolean), (cy 3, .byte), (cy 4, .object "HissHorn$Text")] st s) (hJ : JM ad st) {r : Int32} {u' : SX}   (u : SX) (H : Heap) (locs : List Loc) (ls : Array Slot) (h : GX12_look_0_43  u = some (r, u')) (hP : va_P D vwCl (VM cy ad st u) H) (hS : va_S (Ax (AM ad) s.heap.size) s.heap H locs) (hl : lv_has ls 1 [(0, .ref (ad 0))]) : W p l e rmX12_look_0 s m args below meth c H locs 0 0 (MQ below (Qi D (VM cy ad st) (AM ad) s.heap.size r u') args s 0 0 (Ax (AM ad) s.heap.size)) (F0 m 43 ls []) := by
  unfold GX12_look_0_43 at h
  refine lv_aload_n C.1 C.2.1 dX12_look_43 rfl (lv_at hl 0 rfl) ?_
  refine gM_0_at C hX12_look_0_X12 hK hP mX12_look_0_1 dX12_look_44 ?_
  refine lv_aload_n C.1 C.2.1 dX12_look_47 rfl (lv_at hl 0 rfl) ?_
  refine gM_0_ends C hX12_look_0_X12 hK hP mX12_look_0_2 dX12_look_48 ?_
  refine lv_icmp_ge (tgt := 75) C.1 C.2.1 dX12_look_51 (by decide) (fun c51 => ?_) (fun c51 => ?_)
  · rw [if_pos c51] at h
    refine lv_iconst (v := (-1)) C.1 C.2.1 dX12_look_75 (by decide) ?_
    cases h
    exact rt_i C hP hS dX12_look_76
  · rw [if_neg c51] at h
    refine lv_aload_n C.1 C.2.1 dX12_look_54 rfl (lv_at hl 0 rfl) ?_
    refine gM_0_text C hX12_look_0_X12 hK hP mX12_look_0_3 dX12_look_55 ?_
    by_cases c55_1 : u.1 2 = 2
    · rw [if_pos c55_1] at h
      refine W.eq (g2 := F0 m 58 ls [.ref (ad 1)]) (by rw [c55_1]; rfl) ?_
      refine lv_aload_n C.1 C.2.1 dX12_look_58 rfl (lv_at hl 0 rfl) ?_
      refine gM_0_begins C hX12_look_0_X12 hK hP mX12_look_0_4 dX12_look_59 ?_
      refine lv_aload_n C.1 C.2.1 dX12_look_62 rfl (lv_at hl 0 rfl) ?_
      refine gM_0_at C hX12_look_0_X12 hK hP mX12_look_0_1 dX12_look_63 ?_
      refine lv_iadd C.1 C.2.1 dX12_look_66 ?_
      obtain ⟨hg7, h⟩ := gd_some h
      refine lM_1 C hK hP hg7 dX12_look_67 ?_
      refine lv_sipush (v := 255) C.1 C.2.1 dX12_look_68 (by decide) ?_
      refine lv_iand C.1 C.2.1 dX12_look_71 ?_
      refine lv_goto (tgt := 76) C.1 C.2.1 dX12_look_72 (by decide) ?_
      cases h
      exact rt_i C hP hS dX12_look_76
    · rw [if_neg c55_1] at h
      by_cases c55_2 : u.1 2 = 3
      · rw [if_pos c55_2] at h
        refine W.eq (g2 := F0 m 58 ls [.ref (ad 2)]) (by rw [c55_2]; rfl) ?_
        refine lv_aload_n C.1 C.2.1 dX12_look_58 rfl (lv_at hl 0 rfl) ?_
        refine gM_0_begins C hX12_look_0_X12 hK hP mX12_look_0_4 dX12_look_59 ?_
        refine lv_aload_n C.1 C.2.1 dX12_look_62 rfl (lv_at hl 0 rfl) ?_
        refine gM_0_at C hX12_look_0_X12 hK hP mX12_look_0_1 dX12_look_63 ?_
        refine lv_iadd C.1 C.2.1 dX12_look_66 ?_
        obtain ⟨hg8, h⟩ := gd_some h
        refine lM_2 C hK hP hg8 dX12_look_67 ?_
        refine lv_sipush (v := 255) C.1 C.2.1 dX12_look_68 (by decide) ?_
        refine lv_iand C.1 C.2.1 dX12_look_71 ?_
        refine lv_goto (tgt := 76) C.1 C.2.1 dX12_look_72 (by decide) ?_
        cases h
        exact rt_i C hP hS dX12_look_76
      · rw [if_neg c55_2] at h
        exact absurd h (by intro q; cases q)
set_option maxHeartbeats 4000000 in
set_option maxRecDepth 100000 in
theorem wX12_look_0 {p : Program} {l : Launch} {e : Env} {s : State} {m : MethodId} {args : Array Value} {below : List Frame} {meth : Method} {c : Code} {D : va_G} {cy : Nat → ClassId} {ad st : Nat → Nat} (C : Cx RX12 cX12_look 1 (some .int) wsX12_look p s m args meth c) (hK : Ky D [(cy 0, .int), (cy 1, .long), (cy 2, .boolean), (cy 3, .byte), (cy 4, .object "HissHorn$Text")] st s) (hJ : JM ad st)  {u : SX} {r : Int32} {u' : SX} {H : Heap} {locs : List Loc} {ls : Array Slot} (h : fX12_look_0  u = some (r, u')) (hP : va_P D vwCl (VM cy ad st u) H) (hS : va_S (Ax (AM ad) s.heap.size) s.heap H locs) (hl : lv_has ls 1 [(0, .ref (ad 0))]) : W p l e rmX12_look_0 s m args below meth c H locs 0 0 (MQ below (Qi D (VM cy ad st) (AM ad) s.heap.size r u') args s 0 0 (Ax (AM ad) s.heap.size)) (F0 m 0 ls []) := by
  unfold fX12_look_0 at h
  exact wLX12_look_0_0 C hK hJ (wGX12_look_0_43 C hK hJ ) 5000 _ _ _ _ h hP hS hl
theorem metX12_look_0 (l : Launch) (D : va_G) (cy : Nat → ClassId) (ad st : Nat → Nat) (hJ : JM ad st) (sz : Nat)  {u : SX} {r : Int32} {u' : SX} (h : fX12_look_0  u = some (r, u')) : Met l yX12_look wsX12_look rmX12_look_0 (va_Pc [.ref (ad 0)] (Px D [(cy 0, .int), (cy 1, .long), (cy 2, .boolean), (cy 3, .byte), (cy 4, .object "HissHorn$Text")] st (VM cy ad st) sz u)) (Qi D (VM cy ad st) (AM ad) sz r u') 0 0 (Ax (AM ad) sz) := by
  refine Met.ofW (cc := cX12_look) (maxL := 1) (ret := (some .int)) (by decide) rfl ?_
  intro p e s m args below meth c s₁ B hml hv
  obtain ⟨rfl, hsz, hP, hK⟩ := hv
  subst hsz
  have C : Cx RX12 cX12_look 1 (some .int) wsX12_look p s m _ meth c := ⟨B.exec, B.bytes, hml, B.returns, findClass_of_methodNamed B.named, atoms_spec (ws := wsX12_look) B.pre, B.notSynchronized⟩
  have hl := lv_entry ([.ref (ad 0)]) (n := 1) (Nat.le_of_ble_eq_true rfl)
  rw [lg_entry_eq]
  exact wX12_look_0 C hK hJ h hP va_S.rf hl

theorem zdX12_fails_0 : (and (and (and (and (zk cX12_fails 0 (.aload_n 0) 1) (zk cX12_fails 1 (.getfield 182) 3)) (zk cX12_fails 4 (.iconst (-1)) 1)) (and (zk cX12_fails 5 (.if_icmp .ne 11) 3) (zk cX12_fails 16 (.iconst 0) 1))) (and (and (and (zk cX12_fails 17 (.ireturn) 1) (zk cX12_fails 8 (.aload_n 0) 1)) (zk cX12_fails 9 (.aload_n 0) 1)) (and (zk cX12_fails 10 (.getfield 173) 3) (zk cX12_fails 13 (.putfield 182) 3)))) = true := by decide +kernel
theorem dX12_fails_0 : decode cX12_fails 0 = .ok (.aload_n 0, 1) := zk_of (zk_l (zk_l (zk_l (zk_l zdX12_fails_0))))
theorem dX12_fails_1 : decode cX12_fails 1 = .ok (.getfield 182, 3) := zk_of (zk_r (zk_l (zk_l (zk_l zdX12_fails_0))))
theorem dX12_fails_4 : decode cX12_fails 4 = .ok (.iconst (-1), 1) := zk_of (zk_r (zk_l (zk_l zdX12_fails_0)))
theorem dX12_fails_5 : decode cX12_fails 5 = .ok (.if_icmp .ne 11, 3) := zk_of (zk_l (zk_r (zk_l zdX12_fails_0)))
theorem dX12_fails_16 : decode cX12_fails 16 = .ok (.iconst 0, 1) := zk_of (zk_r (zk_r (zk_l zdX12_fails_0)))
theorem dX12_fails_17 : decode cX12_fails 17 = .ok (.ireturn, 1) := zk_of (zk_l (zk_l (zk_l (zk_r zdX12_fails_0))))
theorem dX12_fails_8 : decode cX12_fails 8 = .ok (.aload_n 0, 1) := zk_of (zk_r (zk_l (zk_l (zk_r zdX12_fails_0))))
theorem dX12_fails_9 : decode cX12_fails 9 = .ok (.aload_n 0, 1) := zk_of (zk_r (zk_l (zk_r zdX12_fails_0)))
theorem dX12_fails_10 : decode cX12_fails 10 = .ok (.getfield 173, 3) := zk_of (zk_l (zk_r (zk_r zdX12_fails_0)))
theorem dX12_fails_13 : decode cX12_fails 13 = .ok (.putfield 182, 3) := zk_of (zk_r (zk_r (zk_r zdX12_fails_0)))
/-- HissHornModel.fails()Z of cell 0 -/
def rmX12_fails_0 : Room := { frames := 0, cells := 0, slots := 0, locals := 0 }
theorem hX12_fails_0_X12 : ∀ w ∈ u_ws RX12 TX12 69, w ∈ wsX12_fails := fun w h => (List.mem_cons_of_mem _ (List.mem_append_right _ h))
theorem mX12_fails_0_1 : Cond.fieldLink RX12 182 "HissHornModel" "fault" "I" ∈ wsX12_fails := (List.mem_cons_of_mem _ (List.mem_append_left _ (List.mem_of_getElem? (i := 0) rfl)))
theorem mX12_fails_0_2 : Cond.fieldLink RX12 173 "HissHornModel" "at" "I" ∈ wsX12_fails := (List.mem_cons_of_mem _ (List.mem_append_left _ (List.mem_of_getElem? (i := 1) rfl)))
def fX12_fails_0  (u : SX) : Option (Int32 × SX) := (if (u.1 7) = (-1) then (lt (sI u 7 (u.1 6)) fun u2 => (gd (isB 0) (some (0, u2)))) else (gd (isB 0) (some (0, u))))
set_option maxHeartbeats 4000000 in
set_option maxRecDepth 100000 in
theorem wX12_fails_0 {p : Program} {l : Launch} {e : Env} {s : State} {m : MethodId} {args : Array Value} {below : List Frame} {meth : Method} {c : Code} {D : va_G} {cy : Nat → ClassId} {ad st : Nat → Nat} (C : Cx RX12 cX12_fails 1 (some .boolean) wsX12_fails p s m args meth c) (hK : Ky D [(cy 0, .int), (cy 1, .long), (cy 2, .boolean), (cy 3, .byte), (cy 4, .object "HissHorn$Text")] st s) (hJ : JM ad st)  {u : SX} {r : Int32} {u' : SX} {H : Heap} {locs : List Loc} {ls : Array Slot} (h : fX12_fails_0  u = some (r, u')) (hP : va_P D vwCl (VM cy ad st u) H) (hS : va_S (Ax (AM ad) s.heap.size) s.heap H locs) (hl : lv_has ls 1 [(0, .ref (ad 0))]) : W p l e rmX12_fails_0 s m args below meth c H locs 0 0 (MQ below (Qi D (VM cy ad st) (AM ad) s.heap.size r u') args s 0 0 (Ax (AM ad) s.heap.size)) (F0 m 0 ls []) := by
  unfold fX12_fails_0 at h
  refine lv_aload_n C.1 C.2.1 dX12_fails_0 rfl (lv_at hl 0 rfl) ?_
  refine gM_0_fault C hX12_fails_0_X12 hK hP mX12_fails_0_1 dX12_fails_1 ?_
  refine lv_iconst (v := (-1)) C.1 C.2.1 dX12_fails_4 (by decide) ?_
  refine lv_icmp_ne (tgt := 16) C.1 C.2.1 dX12_fails_5 (by decide) (fun c5 => ?_) (fun c5 => ?_)
  · rw [if_neg c5] at h
    refine lv_iconst (v := 0) C.1 C.2.1 dX12_fails_16 (by decide) ?_
    obtain ⟨hg1, h⟩ := gd_some h
    cases h
    exact rt_z hg1 C hP hS dX12_fails_17
  · rw [if_pos c5] at h
    refine lv_aload_n C.1 C.2.1 dX12_fails_8 rfl (lv_at hl 0 rfl) ?_
    refine lv_aload_n C.1 C.2.1 dX12_fails_9 rfl (lv_at hl 0 rfl) ?_
    refine gM_0_at C hX12_fails_0_X12 hK hP mX12_fails_0_2 dX12_fails_10 ?_
    refine pM_0_fault C hX12_fails_0_X12 hK hP hJ hS mX12_fails_0_1 dX12_fails_13 (fun H locs hP hS => ?_)
    obtain ⟨u2, hu3, h⟩ := lt_some h
    rw [← hu3] at hP
    refine lv_iconst (v := 0) C.1 C.2.1 dX12_fails_16 (by decide) ?_
    obtain ⟨hg4, h⟩ := gd_some h
    cases h
    exact rt_z hg4 C hP hS dX12_fails_17
theorem metX12_fails_0 (l : Launch) (D : va_G) (cy : Nat → ClassId) (ad st : Nat → Nat) (hJ : JM ad st) (sz : Nat)  {u : SX} {r : Int32} {u' : SX} (h : fX12_fails_0  u = some (r, u')) : Met l yX12_fails wsX12_fails rmX12_fails_0 (va_Pc [.ref (ad 0)] (Px D [(cy 0, .int), (cy 1, .long), (cy 2, .boolean), (cy 3, .byte), (cy 4, .object "HissHorn$Text")] st (VM cy ad st) sz u)) (Qi D (VM cy ad st) (AM ad) sz r u') 0 0 (Ax (AM ad) sz) := by
  refine Met.ofW (cc := cX12_fails) (maxL := 1) (ret := (some .boolean)) (by decide) rfl ?_
  intro p e s m args below meth c s₁ B hml hv
  obtain ⟨rfl, hsz, hP, hK⟩ := hv
  subst hsz
  have C : Cx RX12 cX12_fails 1 (some .boolean) wsX12_fails p s m _ meth c := ⟨B.exec, B.bytes, hml, B.returns, findClass_of_methodNamed B.named, atoms_spec (ws := wsX12_fails) B.pre, B.notSynchronized⟩
  have hl := lv_entry ([.ref (ad 0)]) (n := 1) (Nat.le_of_ble_eq_true rfl)
  rw [lg_entry_eq]
  exact wX12_fails_0 C hK hJ h hP va_S.rf hl

theorem zdX12_goesIn_0 : (and (and (and (and (and (zk cX12_goesIn 0 (.aload_n 0) 1) (zk cX12_goesIn 1 (.getfield 185) 3)) (zk cX12_goesIn 4 (.bipush 6) 2)) (and (and (zk cX12_goesIn 6 (.if_icmp .ne 8) 3) (zk cX12_goesIn 14 (.aload_n 0) 1)) (zk cX12_goesIn 15 (.dup) 1))) (and (and (and (zk cX12_goesIn 16 (.getfield 185) 3) (zk cX12_goesIn 19 (.iconst 1) 1)) (zk cX12_goesIn 20 (.iadd) 1)) (and (zk cX12_goesIn 21 (.putfield 185) 3) (zk cX12_goesIn 24 (.aload_n 0) 1)))) (and (and (and (and (zk cX12_goesIn 25 (.dup) 1) (zk cX12_goesIn 26 (.getfield 173) 3)) (zk cX12_goesIn 29 (.iconst 1) 1)) (and (zk cX12_goesIn 30 (.iadd) 1) (zk cX12_goesIn 31 (.putfield 173) 3))) (and (and (and (zk cX12_goesIn 34 (.iconst 1) 1) (zk cX12_goesIn 35 (.ireturn) 1)) (zk cX12_goesIn 9 (.aload_n 0) 1)) (and (zk cX12_goesIn 10 (.invokevirtual 188) 3) (zk cX12_goesIn 13 (.ireturn) 1))))) = true := by decide +kernel
theorem dX12_goesIn_0 : decode cX12_goesIn 0 = .ok (.aload_n 0, 1) := zk_of (zk_l (zk_l (zk_l (zk_l (zk_l zdX12_goesIn_0)))))
theorem dX12_goesIn_1 : decode cX12_goesIn 1 = .ok (.getfield 185, 3) := zk_of (zk_r (zk_l (zk_l (zk_l (zk_l zdX12_goesIn_0)))))
theorem dX12_goesIn_4 : decode cX12_goesIn 4 = .ok (.bipush 6, 2) := zk_of (zk_r (zk_l (zk_l (zk_l zdX12_goesIn_0))))
theorem dX12_goesIn_6 : decode cX12_goesIn 6 = .ok (.if_icmp .ne 8, 3) := zk_of (zk_l (zk_l (zk_r (zk_l (zk_l zdX12_goesIn_0)))))
theorem dX12_goesIn_14 : decode cX12_goesIn 14 = .ok (.aload_n 0, 1) := zk_of (zk_r (zk_l (zk_r (zk_l (zk_l zdX12_goesIn_0)))))
theorem dX12_goesIn_15 : decode cX12_goesIn 15 = .ok (.dup, 1) := zk_of (zk_r (zk_r (zk_l (zk_l zdX12_goesIn_0))))
theorem dX12_goesIn_16 : decode cX12_goesIn 16 = .ok (.getfield 185, 3) := zk_of (zk_l (zk_l (zk_l (zk_r (zk_l zdX12_goesIn_0)))))
theorem dX12_goesIn_19 : decode cX12_goesIn 19 = .ok (.iconst 1, 1) := zk_of (zk_r (zk_l (zk_l (zk_r (zk_l zdX12_goesIn_0)))))
theorem dX12_goesIn_20 : decode cX12_goesIn 20 = .ok (.iadd, 1) := zk_of (zk_r (zk_l (zk_r (zk_l zdX12_goesIn_0))))
theorem dX12_goesIn_21 : decode cX12_goesIn 21 = .ok (.putfield 185, 3) := zk_of (zk_l (zk_r (zk_r (zk_l zdX12_goesIn_0))))
theorem dX12_goesIn_24 : decode cX12_goesIn 24 = .ok (.aload_n 0, 1) := zk_of (zk_r (zk_r (zk_r (zk_l zdX12_goesIn_0))))
theorem dX12_goesIn_25 : decode cX12_goesIn 25 = .ok (.dup, 1) := zk_of (zk_l (zk_l (zk_l (zk_l (zk_r zdX12_goesIn_0)))))
theorem dX12_goesIn_26 : decode cX12_goesIn 26 = .ok (.getfield 173, 3) := zk_of (zk_r (zk_l (zk_l (zk_l (zk_r zdX12_goesIn_0)))))
theorem dX12_goesIn_29 : decode cX12_goesIn 29 = .ok (.iconst 1, 1) := zk_of (zk_r (zk_l (zk_l (zk_r zdX12_goesIn_0))))
theorem dX12_goesIn_30 : decode cX12_goesIn 30 = .ok (.iadd, 1) := zk_of (zk_l (zk_r (zk_l (zk_r zdX12_goesIn_0))))
theorem dX12_goesIn_31 : decode cX12_goesIn 31 = .ok (.putfield 173, 3) := zk_of (zk_r (zk_r (zk_l (zk_r zdX12_goesIn_0))))
theorem dX12_goesIn_34 : decode cX12_goesIn 34 = .ok (.iconst 1, 1) := zk_of (zk_l (zk_l (zk_l (zk_r (zk_r zdX12_goesIn_0)))))
theorem dX12_goesIn_35 : decode cX12_goesIn 35 = .ok (.ireturn, 1) := zk_of (zk_r (zk_l (zk_l (zk_r (zk_r zdX12_goesIn_0)))))
theorem dX12_goesIn_9 : decode cX12_goesIn 9 = .ok (.aload_n 0, 1) := zk_of (zk_r (zk_l (zk_r (zk_r zdX12_goesIn_0))))
theorem dX12_goesIn_10 : decode cX12_goesIn 10 = .ok (.invokevirtual 188, 3) := zk_of (zk_l (zk_r (zk_r (zk_r zdX12_goesIn_0))))
theorem dX12_goesIn_13 : decode cX12_goesIn 13 = .ok (.ireturn, 1) := zk_of (zk_r (zk_r (zk_r (zk_r zdX12_goesIn_0))))
set_option maxRecDepth 20000 in
theorem ggX12_goesIn_X12_fails : GoodIn wsX12_goesIn wsX12_fails := goodIn_r _ [7, 8, 2, 9, 10, 11, 12, 13, 14, 15, 16, 17, 18, 19, 20, 21, 22, 23, 24, 25, 26, 27, 28, 29, 30, 31, 32, 33, 34, 35, 36, 37, 38, 39, 40, 41, 42, 43, 44, 45, 46, 47, 48, 49, 50, 51, 52, 53, 54, 55, 56, 57, 58, 59, 60, 61, 62, 63, 64, 65, 66, 67, 68, 69, 70, 71, 72, 73, 74, 75, 76, 77] rfl (by decide +kernel)
set_option maxRecDepth 20000 in
theorem gX12_goesIn_X12_fails : GoodIn wsX12_goesIn (wsV RX12 188 RX12 yX12_fails wsX12_fails) := goodIn_app (goodIn_of _ (by decide +kernel)) ggX12_goesIn_X12_fails
/-- HissHornModel.goesIn()Z of cell 0 -/
def rmX12_goesIn_0 : Room := { frames := 1, cells := 0, slots := 0, locals := 20 }
theorem hX12_goesIn_0_X12 : ∀ w ∈ u_ws RX12 TX12 69, w ∈ wsX12_goesIn := fun w h => (List.mem_cons_of_mem _ (List.mem_append_right _ h))
theorem mX12_goesIn_0_1 : Cond.fieldLink RX12 185 "HissHornModel" "deep" "I" ∈ wsX12_goesIn := (List.mem_cons_of_mem _ (List.mem_append_left _ (List.mem_of_getElem? (i := 0) rfl)))
theorem mX12_goesIn_0_2 : Cond.fieldLink RX12 173 "HissHornModel" "at" "I" ∈ wsX12_goesIn := (List.mem_cons_of_mem _ (List.mem_append_left _ (List.mem_of_getElem? (i := 1) rfl)))
def fX12_goesIn_0  (u : SX) : Option (Int32 × SX) := (if (u.1 8) = 6 then ((fX12_fails_0  u).bind fun q => match q with | (r6, u7) => (gd (isB r6) (some (r6, u7)))) else (lt (sI u 8 ((u.1 8) + 1)) fun u1 => (lt (sI u1 6 ((u1.1 6) + 1)) fun u3 => (gd (isB 1) (some (1, u3))))))
set_option maxHeartbeats 4000000 in
set_option maxRecDepth 100000 in
theorem wX12_goesIn_0 {p : Program} {l : Launch} {e : Env} {s : State} {m : MethodId} {args : Array Value} {below : List Frame} {meth : Method} {c : Code} {D : va_G} {cy : Nat → ClassId} {ad st : Nat → Nat} (C : Cx RX12 cX12_goesIn 1 (some .boolean) wsX12_goesIn p s m args meth c) (hK : Ky D [(cy 0, .int), (cy 1, .long), (cy 2, .boolean), (cy 3, .byte), (cy 4, .object "HissHorn$Text")] st s) (hJ : JM ad st)  {u : SX} {r : Int32} {u' : SX} {H : Heap} {locs : List Loc} {ls : Array Slot} (h : fX12_goesIn_0  u = some (r, u')) (hP : va_P D vwCl (VM cy ad st u) H) (hS : va_S (Ax (AM ad) s.heap.size) s.heap H locs) (hl : lv_has ls 1 [(0, .ref (ad 0))]) : W p l e rmX12_goesIn_0 s m args below meth c H locs 0 0 (MQ below (Qi D (VM cy ad st) (AM ad) s.heap.size r u') args s 0 0 (Ax (AM ad) s.heap.size)) (F0 m 0 ls []) := by
  unfold fX12_goesIn_0 at h
  refine lv_aload_n C.1 C.2.1 dX12_goesIn_0 rfl (lv_at hl 0 rfl) ?_
  refine gM_0_deep C hX12_goesIn_0_X12 hK hP mX12_goesIn_0_1 dX12_goesIn_1 ?_
  refine lv_bipush (v := 6) C.1 C.2.1 dX12_goesIn_4 (by decide) ?_
  refine lv_icmp_ne (tgt := 14) C.1 C.2.1 dX12_goesIn_6 (by decide) (fun c6 => ?_) (fun c6 => ?_)
  · rw [if_neg c6] at h
    refine lv_aload_n C.1 C.2.1 dX12_goesIn_14 rfl (lv_at hl 0 rfl) ?_
    refine lv_dup C.1 C.2.1 dX12_goesIn_15 rfl ?_
    refine gM_0_deep C hX12_goesIn_0_X12 hK hP mX12_goesIn_0_1 dX12_goesIn_16 ?_
    refine lv_iconst (v := 1) C.1 C.2.1 dX12_goesIn_19 (by decide) ?_
    refine lv_iadd C.1 C.2.1 dX12_goesIn_20 ?_
    refine pM_0_deep C hX12_goesIn_0_X12 hK hP hJ hS mX12_goesIn_0_1 dX12_goesIn_21 (fun H locs hP hS => ?_)
    obtain ⟨u1, hu2, h⟩ := lt_some h
    rw [← hu2] at hP
    refine lv_aload_n C.1 C.2.1 dX12_goesIn_24 rfl (lv_at hl 0 rfl) ?_
    refine lv_dup C.1 C.2.1 dX12_goesIn_25 rfl ?_
    refine gM_0_at C hX12_goesIn_0_X12 hK hP mX12_goesIn_0_2 dX12_goesIn_26 ?_
    refine lv_iconst (v := 1) C.1 C.2.1 dX12_goesIn_29 (by decide) ?_
    refine lv_iadd C.1 C.2.1 dX12_goesIn_30 ?_
    refine pM_0_at C hX12_goesIn_0_X12 hK hP hJ hS mX12_goesIn_0_2 dX12_goesIn_31 (fun H locs hP hS => ?_)
    obtain ⟨u3, hu4, h⟩ := lt_some h
    rw [← hu4] at hP
    refine lv_iconst (v := 1) C.1 C.2.1 dX12_goesIn_34 (by decide) ?_
    obtain ⟨hg5, h⟩ := gd_some h
    cases h
    exact rt_z hg5 C hP hS dX12_goesIn_35
  · rw [if_pos c6] at h
    refine lv_aload_n C.1 C.2.1 dX12_goesIn_9 rfl (lv_at hl 0 rfl) ?_
    obtain ⟨⟨r6, u7⟩, hc8, h⟩ := bd_some h
    try dsimp only at h
    refine cg_i (As := []) (rest := []) (AM_ge hJ) C hK hP hS (metX12_fails_0 l D cy ad st hJ _  hc8) (cwV 0 C.2.2.2.2.2.1 gX12_goesIn_X12_fails rfl rfl rfl (by decide +kernel) ⟨(Nat.le_of_ble_eq_true rfl), (Nat.le_of_ble_eq_true rfl)⟩) 0 12 rfl rfl rfl hl.1 rfl (Nat.le_of_ble_eq_true rfl) dX12_goesIn_10 ⟨Nat.zero_le _, Nat.zero_le _⟩ (fun H locs hP hS => ?_)
    obtain ⟨hg9, h⟩ := gd_some h
    cases h
    exact rt_z hg9 C hP hS dX12_goesIn_13
theorem metX12_goesIn_0 (l : Launch) (D : va_G) (cy : Nat → ClassId) (ad st : Nat → Nat) (hJ : JM ad st) (sz : Nat)  {u : SX} {r : Int32} {u' : SX} (h : fX12_goesIn_0  u = some (r, u')) : Met l yX12_goesIn wsX12_goesIn rmX12_goesIn_0 (va_Pc [.ref (ad 0)] (Px D [(cy 0, .int), (cy 1, .long), (cy 2, .boolean), (cy 3, .byte), (cy 4, .object "HissHorn$Text")] st (VM cy ad st) sz u)) (Qi D (VM cy ad st) (AM ad) sz r u') 0 0 (Ax (AM ad) sz) := by
  refine Met.ofW (cc := cX12_goesIn) (maxL := 1) (ret := (some .boolean)) (by decide) rfl ?_
  intro p e s m args below meth c s₁ B hml hv
  obtain ⟨rfl, hsz, hP, hK⟩ := hv
  subst hsz
  have C : Cx RX12 cX12_goesIn 1 (some .boolean) wsX12_goesIn p s m _ meth c := ⟨B.exec, B.bytes, hml, B.returns, findClass_of_methodNamed B.named, atoms_spec (ws := wsX12_goesIn) B.pre, B.notSynchronized⟩
  have hl := lv_entry ([.ref (ad 0)]) (n := 1) (Nat.le_of_ble_eq_true rfl)
  rw [lg_entry_eq]
  exact wX12_goesIn_0 C hK hJ h hP va_S.rf hl

theorem zdX12_takes_16 : (and (and (and (and (and (zk cX12_takes 16 (.aload_n 0) 1) (zk cX12_takes 17 (.invokevirtual 188) 3)) (zk cX12_takes 20 (.ireturn) 1)) (and (zk cX12_takes 0 (.aload_n 0) 1) (zk cX12_takes 1 (.getfield 182) 3))) (and (and (and (zk cX12_takes 4 (.iconst (-1)) 1) (zk cX12_takes 5 (.if_icmp .ne 11) 3)) (zk cX12_takes 8 (.aload_n 0) 1)) (and (zk cX12_takes 9 (.invokevirtual 192) 3) (zk cX12_takes 12 (.iload_n 1) 1)))) (and (and (and (and (zk cX12_takes 13 (.if_icmp .eq 8) 3) (zk cX12_takes 21 (.aload_n 0) 1)) (zk cX12_takes 22 (.dup) 1)) (and (zk cX12_takes 23 (.getfield 173) 3) (zk cX12_takes 26 (.iconst 1) 1))) (and (and (zk cX12_takes 27 (.iadd) 1) (zk cX12_takes 28 (.putfield 173) 3)) (and (zk cX12_takes 31 (.iconst 1) 1) (zk cX12_takes 32 (.ireturn) 1))))) = true := by decide +kernel
theorem dX12_takes_16 : decode cX12_takes 16 = .ok (.aload_n 0, 1) := zk_of (zk_l (zk_l (zk_l (zk_l (zk_l zdX12_takes_16)))))
theorem dX12_takes_17 : decode cX12_takes 17 = .ok (.invokevirtual 188, 3) := zk_of (zk_r (zk_l (zk_l (zk_l (zk_l zdX12_takes_16)))))
theorem dX12_takes_20 : decode cX12_takes 20 = .ok (.ireturn, 1) := zk_of (zk_r (zk_l (zk_l (zk_l zdX12_takes_16))))
theorem dX12_takes_0 : decode cX12_takes 0 = .ok (.aload_n 0, 1) := zk_of (zk_l (zk_r (zk_l (zk_l zdX12_takes_16))))
theorem dX12_takes_1 : decode cX12_takes 1 = .ok (.getfield 182, 3) := zk_of (zk_r (zk_r (zk_l (zk_l zdX12_takes_16))))
theorem dX12_takes_4 : decode cX12_takes 4 = .ok (.iconst (-1), 1) := zk_of (zk_l (zk_l (zk_l (zk_r (zk_l zdX12_takes_16)))))
theorem dX12_takes_5 : decode cX12_takes 5 = .ok (.if_icmp .ne 11, 3) := zk_of (zk_r (zk_l (zk_l (zk_r (zk_l zdX12_takes_16)))))
theorem dX12_takes_8 : decode cX12_takes 8 = .ok (.aload_n 0, 1) := zk_of (zk_r (zk_l (zk_r (zk_l zdX12_takes_16))))
theorem dX12_takes_9 : decode cX12_takes 9 = .ok (.invokevirtual 192, 3) := zk_of (zk_l (zk_r (zk_r (zk_l zdX12_takes_16))))
theorem dX12_takes_12 : decode cX12_takes 12 = .ok (.iload_n 1, 1) := zk_of (zk_r (zk_r (zk_r (zk_l zdX12_takes_16))))
theorem dX12_takes_13 : decode cX12_takes 13 = .ok (.if_icmp .eq 8, 3) := zk_of (zk_l (zk_l (zk_l (zk_l (zk_r zdX12_takes_16)))))
theorem dX12_takes_21 : decode cX12_takes 21 = .ok (.aload_n 0, 1) := zk_of (zk_r (zk_l (zk_l (zk_l (zk_r zdX12_takes_16)))))
theorem dX12_takes_22 : decode cX12_takes 22 = .ok (.dup, 1) := zk_of (zk_r (zk_l (zk_l (zk_r zdX12_takes_16))))
theorem dX12_takes_23 : decode cX12_takes 23 = .ok (.getfield 173, 3) := zk_of (zk_l (zk_r (zk_l (zk_r zdX12_takes_16))))
theorem dX12_takes_26 : decode cX12_takes 26 = .ok (.iconst 1, 1) := zk_of (zk_r (zk_r (zk_l (zk_r zdX12_takes_16))))
theorem dX12_takes_27 : decode cX12_takes 27 = .ok (.iadd, 1) := zk_of (zk_l (zk_l (zk_r (zk_r zdX12_takes_16))))
theorem dX12_takes_28 : decode cX12_takes 28 = .ok (.putfield 173, 3) := zk_of (zk_r (zk_l (zk_r (zk_r zdX12_takes_16))))
theorem dX12_takes_31 : decode cX12_takes 31 = .ok (.iconst 1, 1) := zk_of (zk_l (zk_r (zk_r (zk_r zdX12_takes_16))))
theorem dX12_takes_32 : decode cX12_takes 32 = .ok (.ireturn, 1) := zk_of (zk_r (zk_r (zk_r (zk_r zdX12_takes_16))))
set_option maxRecDepth 20000 in
theorem ggX12_takes_X12_fails : GoodIn wsX12_takes wsX12_fails := goodIn_r _ [14, 1, 2, 15, 16, 17, 18, 19, 20, 21, 22, 23, 24, 25, 26, 27, 28, 29, 30, 31, 32, 33, 34, 35, 36, 37, 38, 39, 40, 41, 42, 43, 44, 45, 46, 47, 48, 49, 50, 51, 52, 53, 54, 55, 56, 57, 58, 59, 60, 61, 62, 63, 64, 65, 66, 67, 68, 69, 70, 71, 72, 73, 74, 75, 76, 77, 78, 79, 80, 81, 82, 83] rfl (by decide +kernel)
set_option maxRecDepth 20000 in
theorem gX12_takes_X12_fails : GoodIn wsX12_takes (wsV RX12 188 RX12 yX12_fails wsX12_fails) := goodIn_app (goodIn_of _ (by decide +kernel)) ggX12_takes_X12_fails
set_option maxRecDepth 20000 in
theorem ggX12_takes_X12_look : GoodIn wsX12_takes wsX12_look := goodIn_r _ [7, 2, 8, 9, 10, 15, 16, 17, 18, 19, 20, 21, 22, 23, 24, 25, 26, 27, 28, 29, 30, 31, 32, 33, 34, 35, 36, 37, 38, 39, 40, 41, 42, 43, 44, 45, 46, 47, 48, 49, 50, 51, 52, 53, 54, 55, 56, 57, 58, 59, 60, 61, 62, 63, 64, 65, 66, 67, 68, 69, 70, 71, 72, 73, 74, 75, 76, 77, 78, 79, 80, 81, 82, 83] rfl (by decide +kernel)
set_option maxRecDepth 20000 in
theorem gX12_takes_X12_look : GoodIn wsX12_takes (wsV RX12 192 RX12 yX12_look wsX12_look) := goodIn_app (goodIn_of _ (by decide +kernel)) ggX12_takes_X12_look
/-- HissHornModel.takes(I)Z of cell 0 -/
def rmX12_takes_0 : Room := { frames := 1, cells := 0, slots := 0, locals := 20 }
theorem hX12_takes_0_X12 : ∀ w ∈ u_ws RX12 TX12 69, w ∈ wsX12_takes := fun w h => (List.mem_cons_of_mem _ (List.mem_append_right _ h))
theorem mX12_takes_0_1 : Cond.fieldLink RX12 182 "HissHornModel" "fault" "I" ∈ wsX12_takes := (List.mem_cons_of_mem _ (List.mem_append_left _ (List.mem_of_getElem? (i := 0) rfl)))
def GX12_takes_0_16  (u : SX) : Option (Int32 × SX) := ((fX12_fails_0  u).bind fun q => match q with | (r1, u2) => (gd (isB r1) (some (r1, u2))))
theorem mX12_takes_0_2 : Cond.fieldLink RX12 173 "HissHornModel" "at" "I" ∈ wsX12_takes := (List.mem_cons_of_mem _ (List.mem_append_left _ (List.mem_of_getElem? (i := 1) rfl)))
def fX12_takes_0 (x1 : Int32) (u : SX) : Option (Int32 × SX) := (if (u.1 7) = (-1) then ((fX12_look_0  u).bind fun q => match q with | (r5, u6) => (if r5 = x1 then (lt (sI u6 6 ((u6.1 6) + 1)) fun u8 => (gd (isB 1) (some (1, u8)))) else (GX12_takes_0_16 u6))) else (GX12_takes_0_16 u))
set_option maxHeartbeats 4000000 in
set_option maxRecDepth 100000 in
theorem wGX12_takes_0_16 {p : Program} {l : Launch} {e : Env} {s : State} {m : MethodId} {args : Array Value} {below : List Frame} {meth : Method} {c : Code} {D : va_G} {cy : Nat → ClassId} {ad st : Nat → Nat} (C : Cx RX12 cX12_takes 2 (some .boolean) wsX12_takes p s m args meth c) (hK : Ky D [(cy 0, .int), (cy 1, .long), (cy 2, .boolean), (cy 3, .byte), (cy 4, .object "HissHorn$Text")] st s) (hJ : JM ad st) {r : Int32} {u' : SX}   (u : SX) (H : Heap) (locs : List Loc) (ls : Array Slot) (h : GX12_takes_0_16  u = some (r, u')) (hP : va_P D vwCl (VM cy ad st u) H) (hS : va_S (Ax (AM ad) s.heap.size) s.heap H locs) (hl : lv_has ls 2 [(0, .ref (ad 0))]) : W p l e rmX12_takes_0 s m args below meth c H locs 0 0 (MQ below (Qi D (VM cy ad st) (AM ad) s.heap.size r u') args s 0 0 (Ax (AM ad) s.heap.size)) (F0 m 16 ls []) := by
  unfold GX12_takes_0_16 at h
  refine lv_aload_n C.1 C.2.1 dX12_takes_16 rfl (lv_at hl 0 rfl) ?_
  obtain ⟨⟨r1, u2⟩, hc3, h⟩ := bd_some h
  try dsimp only at h
  refine cg_i (As := []) (rest := []) (AM_ge hJ) C hK hP hS (metX12_fails_0 l D cy ad st hJ _  hc3) (cwV 0 C.2.2.2.2.2.1 gX12_takes_X12_fails rfl rfl rfl (by decide +kernel) ⟨(Nat.le_of_ble_eq_true rfl), (Nat.le_of_ble_eq_true rfl)⟩) 0 12 rfl rfl rfl hl.1 rfl (Nat.le_of_ble_eq_true rfl) dX12_takes_17 ⟨Nat.zero_le _, Nat.zero_le _⟩ (fun H locs hP hS => ?_)
  obtain ⟨hg4, h⟩ := gd_some h
  cases h
  exact rt_z hg4 C hP hS dX12_takes_20
set_option maxHeartbeats 4000000 in
set_option maxRecDepth 100000 in
theorem wX12_takes_0 {p : Program} {l : Launch} {e : Env} {s : State} {m : MethodId} {args : Array Value} {below : List Frame} {meth : Method} {c : Code} {D : va_G} {cy : Nat → ClassId} {ad st : Nat → Nat} (C : Cx RX12 cX12_takes 2 (some .boolean) wsX12_takes p s m args meth c) (hK : Ky D [(cy 0, .int), (cy 1, .long), (cy 2, .boolean), (cy 3, .byte), (cy 4, .object "HissHorn$Text")] st s) (hJ : JM ad st) (x1 : Int32) {u : SX} {r : Int32} {u' : SX} {H : Heap} {locs : List Loc} {ls : Array Slot} (h : fX12_takes_0 x1 u = some (r, u')) (hP : va_P D vwCl (VM cy ad st u) H) (hS : va_S (Ax (AM ad) s.heap.size) s.heap H locs) (hl : lv_has ls 2 [(0, .ref (ad 0)), (1, .int x1)]) : W p l e rmX12_takes_0 s m args below meth c H locs 0 0 (MQ below (Qi D (VM cy ad st) (AM ad) s.heap.size r u') args s 0 0 (Ax (AM ad) s.heap.size)) (F0 m 0 ls []) := by
  unfold fX12_takes_0 at h
  refine lv_aload_n C.1 C.2.1 dX12_takes_0 rfl (lv_at hl 0 rfl) ?_
  refine gM_0_fault C hX12_takes_0_X12 hK hP mX12_takes_0_1 dX12_takes_1 ?_
  refine lv_iconst (v := (-1)) C.1 C.2.1 dX12_takes_4 (by decide) ?_
  refine lv_icmp_ne (tgt := 16) C.1 C.2.1 dX12_takes_5 (by decide) (fun c5 => ?_) (fun c5 => ?_)
  · rw [if_neg c5] at h
    exact wGX12_takes_0_16 C hK hJ _ _ _ _ h hP hS (lv_sub hl [0] rfl)
  · rw [if_pos c5] at h
    refine lv_aload_n C.1 C.2.1 dX12_takes_8 rfl (lv_at hl 0 rfl) ?_
    obtain ⟨⟨r5, u6⟩, hc7, h⟩ := bd_some h
    try dsimp only at h
    refine cg_i (As := []) (rest := []) (AM_ge hJ) C hK hP hS (metX12_look_0 l D cy ad st hJ _  hc7) (cwV 0 C.2.2.2.2.2.1 gX12_takes_X12_look rfl rfl rfl (by decide +kernel) ⟨(Nat.le_of_ble_eq_true rfl), (Nat.le_of_ble_eq_true rfl)⟩) 0 12 rfl rfl rfl hl.1 rfl (Nat.le_of_ble_eq_true rfl) dX12_takes_9 ⟨Nat.zero_le _, Nat.zero_le _⟩ (fun H locs hP hS => ?_)
    refine lv_iload_n C.1 C.2.1 dX12_takes_12 rfl (lv_at hl 1 rfl) ?_
    refine lv_icmp_eq (tgt := 21) C.1 C.2.1 dX12_takes_13 (by decide) (fun c13 => ?_) (fun c13 => ?_)
    · rw [if_pos c13] at h
      refine lv_aload_n C.1 C.2.1 dX12_takes_21 rfl (lv_at hl 0 rfl) ?_
      refine lv_dup C.1 C.2.1 dX12_takes_22 rfl ?_
      refine gM_0_at C hX12_takes_0_X12 hK hP mX12_takes_0_2 dX12_takes_23 ?_
      refine lv_iconst (v := 1) C.1 C.2.1 dX12_takes_26 (by decide) ?_
      refine lv_iadd C.1 C.2.1 dX12_takes_27 ?_
      refine pM_0_at C hX12_takes_0_X12 hK hP hJ hS mX12_takes_0_2 dX12_takes_28 (fun H locs hP hS => ?_)
      obtain ⟨u8, hu9, h⟩ := lt_some h
      rw [← hu9] at hP
      refine lv_iconst (v := 1) C.1 C.2.1 dX12_takes_31 (by decide) ?_
      obtain ⟨hg10, h⟩ := gd_some h
      cases h
      exact rt_z hg10 C hP hS dX12_takes_32
    · rw [if_neg c13] at h
      exact wGX12_takes_0_16 C hK hJ _ _ _ _ h hP hS (lv_sub hl [0] rfl)
theorem metX12_takes_0 (l : Launch) (D : va_G) (cy : Nat → ClassId) (ad st : Nat → Nat) (hJ : JM ad st) (sz : Nat) (x1 : Int32) {u : SX} {r : Int32} {u' : SX} (h : fX12_takes_0 x1 u = some (r, u')) : Met l yX12_takes wsX12_takes rmX12_takes_0 (va_Pc [.ref (ad 0), .int x1] (Px D [(cy 0, .int), (cy 1, .long), (cy 2, .boolean), (cy 3, .byte), (cy 4, .object "HissHorn$Text")] st (VM cy ad st) sz u)) (Qi D (VM cy ad st) (AM ad) sz r u') 0 0 (Ax (AM ad) sz) := by
  refine Met.ofW (cc := cX12_takes) (maxL := 2) (ret := (some .boolean)) (by decide) rfl ?_
  intro p e s m args below meth c s₁ B hml hv
  obtain ⟨rfl, hsz, hP, hK⟩ := hv
  subst hsz
  have C : Cx RX12 cX12_takes 2 (some .boolean) wsX12_takes p s m _ meth c := ⟨B.exec, B.bytes, hml, B.returns, findClass_of_methodNamed B.named, atoms_spec (ws := wsX12_takes) B.pre, B.notSynchronized⟩
  have hl := lv_entry ([.ref (ad 0), .int x1]) (n := 2) (Nat.le_of_ble_eq_true rfl)
  rw [lg_entry_eq]
  exact wX12_takes_0 C hK hJ x1 h hP va_S.rf hl

theorem zdX12_isDigit_0 : (and (and (and (and (and (zk cX12_isDigit 0 (.aload_n 0) 1) (zk cX12_isDigit 1 (.getfield 173) 3)) (and (zk cX12_isDigit 4 (.aload_n 0) 1) (zk cX12_isDigit 5 (.getfield 176) 3))) (and (and (zk cX12_isDigit 8 (.if_icmp .ge 45) 3) (zk cX12_isDigit 53 (.iconst 0) 1)) (and (zk cX12_isDigit 54 (.ireturn) 1) (zk cX12_isDigit 11 (.aload_n 0) 1)))) (and (and (and (zk cX12_isDigit 12 (.getfield 26) 3) (zk cX12_isDigit 15 (.aload_n 0) 1)) (and (zk cX12_isDigit 16 (.getfield 179) 3) (zk cX12_isDigit 19 (.aload_n 0) 1))) (and (and (zk cX12_isDigit 20 (.getfield 173) 3) (zk cX12_isDigit 23 (.iadd) 1)) (zk cX12_isDigit 24 (.baload) 1)))) (and (and (and (and (zk cX12_isDigit 25 (.bipush 48) 2) (zk cX12_isDigit 27 (.if_icmp .lt 26) 3)) (and (zk cX12_isDigit 30 (.aload_n 0) 1) (zk cX12_isDigit 31 (.getfield 26) 3))) (and (and (zk cX12_isDigit 34 (.aload_n 0) 1) (zk cX12_isDigit 35 (.getfield 179) 3)) (zk cX12_isDigit 38 (.aload_n 0) 1))) (and (and (and (zk cX12_isDigit 39 (.getfield 173) 3) (zk cX12_isDigit 42 (.iadd) 1)) (and (zk cX12_isDigit 43 (.baload) 1) (zk cX12_isDigit 44 (.bipush 57) 2))) (and (and (zk cX12_isDigit 46 (.if_icmp .gt 7) 3) (zk cX12_isDigit 49 (.iconst 1) 1)) (zk cX12_isDigit 50 (.goto 4) 3))))) = true := by decide +kernel
theorem dX12_isDigit_0 : decode cX12_isDigit 0 = .ok (.aload_n 0, 1) := zk_of (zk_l (zk_l (zk_l (zk_l (zk_l zdX12_isDigit_0)))))
theorem dX12_isDigit_1 : decode cX12_isDigit 1 = .ok (.getfield 173, 3) := zk_of (zk_r (zk_l (zk_l (zk_l (zk_l zdX12_isDigit_0)))))
theorem dX12_isDigit_4 : decode cX12_isDigit 4 = .ok (.aload_n 0, 1) := zk_of (zk_l (zk_r (zk_l (zk_l (zk_l zdX12_isDigit_0)))))
theorem dX12_isDigit_5 : decode cX12_isDigit 5 = .ok (.getfield 176, 3) := zk_of (zk_r (zk_r (zk_l (zk_l (zk_l zdX12_isDigit_0)))))
theorem dX12_isDigit_8 : decode cX12_isDigit 8 = .ok (.if_icmp .ge 45, 3) := zk_of (zk_l (zk_l (zk_r (zk_l (zk_l zdX12_isDigit_0)))))
theorem dX12_isDigit_53 : decode cX12_isDigit 53 = .ok (.iconst 0, 1) := zk_of (zk_r (zk_l (zk_r (zk_l (zk_l zdX12_isDigit_0)))))
theorem dX12_isDigit_54 : decode cX12_isDigit 54 = .ok (.ireturn, 1) := zk_of (zk_l (zk_r (zk_r (zk_l (zk_l zdX12_isDigit_0)))))
theorem dX12_isDigit_11 : decode cX12_isDigit 11 = .ok (.aload_n 0, 1) := zk_of (zk_r (zk_r (zk_r (zk_l (zk_l zdX12_isDigit_0)))))
theorem dX12_isDigit_12 : decode cX12_isDigit 12 = .ok (.getfield 26, 3) := zk_of (zk_l (zk_l (zk_l (zk_r (zk_l zdX12_isDigit_0)))))
theorem dX12_isDigit_15 : decode cX12_isDigit 15 = .ok (.aload_n 0, 1) := zk_of (zk_r (zk_l (zk_l (zk_r (zk_l zdX12_isDigit_0)))))
theorem dX12_isDigit_16 : decode cX12_isDigit 16 = .ok (.getfield 179, 3) := zk_of (zk_l (zk_r (zk_l (zk_r (zk_l zdX12_isDigit_0)))))
theorem dX12_isDigit_19 : decode cX12_isDigit 19 = .ok (.aload_n 0, 1) := zk_of (zk_r (zk_r (zk_l (zk_r (zk_l zdX12_isDigit_0)))))
theorem dX12_isDigit_20 : decode cX12_isDigit 20 = .ok (.getfield 173, 3) := zk_of (zk_l (zk_l (zk_r (zk_r (zk_l zdX12_isDigit_0)))))
theorem dX12_isDigit_23 : decode cX12_isDigit 23 = .ok (.iadd, 1) := zk_of (zk_r (zk_l (zk_r (zk_r (zk_l zdX12_isDigit_0)))))
theorem dX12_isDigit_24 : decode cX12_isDigit 24 = .ok (.baload, 1) := zk_of (zk_r (zk_r (zk_r (zk_l zdX12_isDigit_0))))
theorem dX12_isDigit_25 : decode cX12_isDigit 25 = .ok (.bipush 48, 2) := zk_of (zk_l (zk_l (zk_l (zk_l (zk_r zdX12_isDigit_0)))))
theorem dX12_isDigit_27 : decode cX12_isDigit 27 = .ok (.if_icmp .lt 26, 3) := zk_of (zk_r (zk_l (zk_l (zk_l (zk_r zdX12_isDigit_0)))))
theorem dX12_isDigit_30 : decode cX12_isDigit 30 = .ok (.aload_n 0, 1) := zk_of (zk_l (zk_r (zk_l (zk_l (zk_r zdX12_isDigit_0)))))
theorem dX12_isDigit_31 : decode cX12_isDigit 31 = .ok (.getfield 26, 3) := zk_of (zk_r (zk_r (zk_l (zk_l (zk_r zdX12_isDigit_0)))))
theorem dX12_isDigit_34 : decode cX12_isDigit 34 = .ok (.aload_n 0, 1) := zk_of (zk_l (zk_l (zk_r (zk_l (zk_r zdX12_isDigit_0)))))
theorem dX12_isDigit_35 : decode cX12_isDigit 35 = .ok (.getfield 179, 3) := zk_of (zk_r (zk_l (zk_r (zk_l (zk_r zdX12_isDigit_0)))))
theorem dX12_isDigit_38 : decode cX12_isDigit 38 = .ok (.aload_n 0, 1) := zk_of (zk_r (zk_r (zk_l (zk_r zdX12_isDigit_0))))
theorem dX12_isDigit_39 : decode cX12_isDigit 39 = .ok (.getfield 173, 3) := zk_of (zk_l (zk_l (zk_l (zk_r (zk_r zdX12_isDigit_0)))))
theorem dX12_isDigit_42 : decode cX12_isDigit 42 = .ok (.iadd, 1) := zk_of (zk_r (zk_l (zk_l (zk_r (zk_r zdX12_isDigit_0)))))
theorem dX12_isDigit_43 : decode cX12_isDigit 43 = .ok (.baload, 1) := zk_of (zk_l (zk_r (zk_l (zk_r (zk_r zdX12_isDigit_0)))))
theorem dX12_isDigit_44 : decode cX12_isDigit 44 = .ok (.bipush 57, 2) := zk_of (zk_r (zk_r (zk_l (zk_r (zk_r zdX12_isDigit_0)))))
theorem dX12_isDigit_46 : decode cX12_isDigit 46 = .ok (.if_icmp .gt 7, 3) := zk_of (zk_l (zk_l (zk_r (zk_r (zk_r zdX12_isDigit_0)))))
theorem dX12_isDigit_49 : decode cX12_isDigit 49 = .ok (.iconst 1, 1) := zk_of (zk_r (zk_l (zk_r (zk_r (zk_r zdX12_isDigit_0)))))
theorem dX12_isDigit_50 : decode cX12_isDigit 50 = .ok (.goto 4, 3) := zk_of (zk_r (zk_r (zk_r (zk_r zdX12_isDigit_0))))
/-- HissHornModel.isDigit()Z of cell 0 -/
def rmX12_isDigit_0 : Room := { frames := 0, cells := 0, slots := 0, locals := 0 }
theorem hX12_isDigit_0_X12 : ∀ w ∈ u_ws RX12 TX12 69, w ∈ wsX12_isDigit := fun w h => (List.mem_cons_of_mem _ (List.mem_append_right _ h))
theorem mX12_isDigit_0_1 : Cond.fieldLink RX12 173 "HissHornModel" "at" "I" ∈ wsX12_isDigit := (List.mem_cons_of_mem _ (List.mem_append_left _ (List.mem_of_getElem? (i := 0) rfl)))
theorem mX12_isDigit_0_2 : Cond.fieldLink RX12 176 "HissHornModel" "ends" "I" ∈ wsX12_isDigit := (List.mem_cons_of_mem _ (List.mem_append_left _ (List.mem_of_getElem? (i := 1) rfl)))
theorem mX12_isDigit_0_3 : Cond.fieldLink RX12 26 "HissHornModel" "text" "[B" ∈ wsX12_isDigit := (List.mem_cons_of_mem _ (List.mem_append_left _ (List.mem_of_getElem? (i := 2) rfl)))
theorem mX12_isDigit_0_4 : Cond.fieldLink RX12 179 "HissHornModel" "begins" "I" ∈ wsX12_isDigit := (List.mem_cons_of_mem _ (List.mem_append_left _ (List.mem_of_getElem? (i := 3) rfl)))
def fX12_isDigit_0  (u : SX) : Option (Int32 × SX) := (if (u.1 5) ≤ (u.1 6) then (gd (isB 0) (some (0, u))) else (if u.1 2 = 2 then (gd (inb ((u.1 4) + (u.1 6)) 120) (if (u.2.1 1 ((u.1 4) + (u.1 6)).toNatClampNeg) < 48 then (gd (isB 0) (some (0, u))) else (if u.1 2 = 2 then (gd (inb ((u.1 4) + (u.1 6)) 120) (if 57 < (u.2.1 1 ((u.1 4) + (u.1 6)).toNatClampNeg) then (gd (isB 0) (some (0, u))) else (gd (isB 1) (some (1, u))))) else (if u.1 2 = 3 then (gd (inb ((u.1 4) + (u.1 6)) 4320) (if 57 < (u.2.1 2 ((u.1 4) + (u.1 6)).toNatClampNeg) then (gd (isB 0) (some (0, u))) else (gd (isB 1) (some (1, u))))) else none)))) else (if u.1 2 = 3 then (gd (inb ((u.1 4) + (u.1 6)) 4320) (if (u.2.1 2 ((u.1 4) + (u.1 6)).toNatClampNeg) < 48 then (gd (isB 0) (some (0, u))) else (if u.1 2 = 2 then (gd (inb ((u.1 4) + (u.1 6)) 120) (if 57 < (u.2.1 1 ((u.1 4) + (u.1 6)).toNatClampNeg) then (gd (isB 0) (some (0, u))) else (gd (isB 1) (some (1, u))))) else (if u.1 2 = 3 then (gd (inb ((u.1 4) + (u.1 6)) 4320) (if 57 < (u.2.1 2 ((u.1 4) + (u.1 6)).toNatClampNeg) then (gd (isB 0) (some (0, u))) else (gd (isB 1) (some (1, u))))) else none)))) else none)))
set_option maxHeartbeats 4000000 in
set_option maxRecDepth 100000 in
theorem wX12_isDigit_0 {p : Program} {l : Launch} {e : Env} {s : State} {m : MethodId} {args : Array Value} {below : List Frame} {meth : Method} {c : Code} {D : va_G} {cy : Nat → ClassId} {ad st : Nat → Nat} (C : Cx RX12 cX12_isDigit 1 (some .boolean) wsX12_isDigit p s m args meth c) (hK : Ky D [(cy 0, .int), (cy 1, .long), (cy 2, .boolean), (cy 3, .byte), (cy 4, .object "HissHorn$Text")] st s) (hJ : JM ad st)  {u : SX} {r : Int32} {u' : SX} {H : Heap} {locs : List Loc} {ls : Array Slot} (h : fX12_isDigit_0  u = some (r, u')) (hP : va_P D vwCl (VM cy ad st u) H) (hS : va_S (Ax (AM ad) s.heap.size) s.heap H locs) (hl : lv_has ls 1 [(0, .ref (ad 0))]) : W p l e rmX12_isDigit_0 s m args below meth c H locs 0 0 (MQ below (Qi D (VM cy ad st) (AM ad) s.heap.size r u') args s 0 0 (Ax (AM ad) s.heap.size)) (F0 m 0 ls []) := by
  unfold fX12_isDigit_0 at h
  refine lv_aload_n C.1 C.2.1 dX12_isDigit_0 rfl (lv_at hl 0 rfl) ?_
  refine gM_0_at C hX12_isDigit_0_X12 hK hP mX12_isDigit_0_1 dX12_isDigit_1 ?_
  refine lv_aload_n C.1 C.2.1 dX12_isDigit_4 rfl (lv_at hl 0 rfl) ?_
  refine gM_0_ends C hX12_isDigit_0_X12 hK hP mX12_isDigit_0_2 dX12_isDigit_5 ?_
  refine lv_icmp_ge (tgt := 53) C.1 C.2.1 dX12_isDigit_8 (by decide) (fun c8 => ?_) (fun c8 => ?_)
  · rw [if_pos c8] at h
    refine lv_iconst (v := 0) C.1 C.2.1 dX12_isDigit_53 (by decide) ?_
    obtain ⟨hg1, h⟩ := gd_some h
    cases h
    exact rt_z hg1 C hP hS dX12_isDigit_54
  · rw [if_neg c8] at h
    refine lv_aload_n C.1 C.2.1 dX12_isDigit_11 rfl (lv_at hl 0 rfl) ?_
    refine gM_0_text C hX12_isDigit_0_X12 hK hP mX12_isDigit_0_3 dX12_isDigit_12 ?_
    by_cases c12_1 : u.1 2 = 2
    · rw [if_pos c12_1] at h
      refine W.eq (g2 := F0 m 15 ls [.ref (ad 1)]) (by rw [c12_1]; rfl) ?_
      refine lv_aload_n C.1 C.2.1 dX12_isDigit_15 rfl (lv_at hl 0 rfl) ?_
      refine gM_0_begins C hX12_isDigit_0_X12 hK hP mX12_isDigit_0_4 dX12_isDigit_16 ?_
      refine lv_aload_n C.1 C.2.1 dX12_isDigit_19 rfl (lv_at hl 0 rfl) ?_
      refine gM_0_at C hX12_isDigit_0_X12 hK hP mX12_isDigit_0_1 dX12_isDigit_20 ?_
      refine lv_iadd C.1 C.2.1 dX12_isDigit_23 ?_
      obtain ⟨hg2, h⟩ := gd_some h
      refine lM_1 C hK hP hg2 dX12_isDigit_24 ?_
      refine lv_bipush (v := 48) C.1 C.2.1 dX12_isDigit_25 (by decide) ?_
      refine lv_icmp_lt (tgt := 53) C.1 C.2.1 dX12_isDigit_27 (by decide) (fun c27 => ?_) (fun c27 => ?_)
      · rw [if_pos c27] at h
        refine lv_iconst (v := 0) C.1 C.2.1 dX12_isDigit_53 (by decide) ?_
        obtain ⟨hg3, h⟩ := gd_some h
        cases h
        exact rt_z hg3 C hP hS dX12_isDigit_54
      · rw [if_neg c27] at h
        refine lv_aload_n C.1 C.2.1 dX12_isDigit_30 rfl (lv_at hl 0 rfl) ?_
        refine gM_0_text C hX12_isDigit_0_X12 hK hP mX12_isDigit_0_3 dX12_isDigit_31 ?_
        by_cases c31_1 : u.1 2 = 2
        · rw [if_pos c31_1] at h
          refine W.eq (g2 := F0 m 34 ls [.ref (ad 1)]) (by rw [c31_1]; rfl) ?_
          refine lv_aload_n C.1 C.2.1 dX12_isDigit_34 rfl (lv_at hl 0 rfl) ?_
          refine gM_0_begins C hX12_isDigit_0_X12 hK hP mX12_isDigit_0_4 dX12_isDigit_35 ?_
          refine lv_aload_n C.1 C.2.1 dX12_isDigit_38 rfl (lv_at hl 0 rfl) ?_
          refine gM_0_at C hX12_isDigit_0_X12 hK hP mX12_isDigit_0_1 dX12_isDigit_39 ?_
          refine lv_iadd C.1 C.2.1 dX12_isDigit_42 ?_
          obtain ⟨hg4, h⟩ := gd_some h
          refine lM_1 C hK hP hg4 dX12_isDigit_43 ?_
          refine lv_bipush (v := 57) C.1 C.2.1 dX12_isDigit_44 (by decide) ?_
          refine lv_icmp_gt (tgt := 53) C.1 C.2.1 dX12_isDigit_46 (by decide) (fun c46 => ?_) (fun c46 => ?_)
          · rw [if_pos c46] at h
            refine lv_iconst (v := 0) C.1 C.2.1 dX12_isDigit_53 (by decide) ?_
            obtain ⟨hg5, h⟩ := gd_some h
            cases h
            exact rt_z hg5 C hP hS dX12_isDigit_54
          · rw [if_neg c46] at h
            refine lv_iconst (v := 1) C.1 C.2.1 dX12_isDigit_49 (by decide) ?_
            refine lv_goto (tgt := 54) C.1 C.2.1 dX12_isDigit_50 (by decide) ?_
            obtain ⟨hg6, h⟩ := gd_some h
            cases h
            exact rt_z hg6 C hP hS dX12_isDigit_54
        · rw [if_neg c31_1] at h
          by_cases c31_2 : u.1 2 = 3
          · rw [if_pos c31_2] at h
            refine W.eq (g2 := F0 m 34 ls [.ref (ad 2)]) (by rw [c31_2]; rfl) ?_
            refine lv_aload_n C.1 C.2.1 dX12_isDigit_34 rfl (lv_at hl 0 rfl) ?_
            refine gM_0_begins C hX12_isDigit_0_X12 hK hP mX12_isDigit_0_4 dX12_isDigit_35 ?_
            refine lv_aload_n C.1 C.2.1 dX12_isDigit_38 rfl (lv_at hl 0 rfl) ?_
            refine gM_0_at C hX12_isDigit_0_X12 hK hP mX12_isDigit_0_1 dX12_isDigit_39 ?_
            refine lv_iadd C.1 C.2.1 dX12_isDigit_42 ?_
            obtain ⟨hg7, h⟩ := gd_some h
            refine lM_2 C hK hP hg7 dX12_isDigit_43 ?_
            refine lv_bipush (v := 57) C.1 C.2.1 dX12_isDigit_44 (by decide) ?_
            refine lv_icmp_gt (tgt := 53) C.1 C.2.1 dX12_isDigit_46 (by decide) (fun c46 => ?_) (fun c46 => ?_)
            · rw [if_pos c46] at h
              refine lv_iconst (v := 0) C.1 C.2.1 dX12_isDigit_53 (by decide) ?_
              obtain ⟨hg8, h⟩ := gd_some h
              cases h
              exact rt_z hg8 C hP hS dX12_isDigit_54
            · rw [if_neg c46] at h
              refine lv_iconst (v := 1) C.1 C.2.1 dX12_isDigit_49 (by decide) ?_
              refine lv_goto (tgt := 54) C.1 C.2.1 dX12_isDigit_50 (by decide) ?_
              obtain ⟨hg9, h⟩ := gd_some h
              cases h
              exact rt_z hg9 C hP hS dX12_isDigit_54
          · rw [if_neg c31_2] at h
            exact absurd h (by intro q; cases q)
    · rw [if_neg c12_1] at h
      by_cases c12_2 : u.1 2 = 3
      · rw [if_pos c12_2] at h
        refine W.eq (g2 := F0 m 15 ls [.ref (ad 2)]) (by rw [c12_2]; rfl) ?_
        refine lv_aload_n C.1 C.2.1 dX12_isDigit_15 rfl (lv_at hl 0 rfl) ?_
        refine gM_0_begins C hX12_isDigit_0_X12 hK hP mX12_isDigit_0_4 dX12_isDigit_16 ?_
        refine lv_aload_n C.1 C.2.1 dX12_isDigit_19 rfl (lv_at hl 0 rfl) ?_
        refine gM_0_at C hX12_isDigit_0_X12 hK hP mX12_isDigit_0_1 dX12_isDigit_20 ?_
        refine lv_iadd C.1 C.2.1 dX12_isDigit_23 ?_
        obtain ⟨hg10, h⟩ := gd_some h
        refine lM_2 C hK hP hg10 dX12_isDigit_24 ?_
        refine lv_bipush (v := 48) C.1 C.2.1 dX12_isDigit_25 (by decide) ?_
        refine lv_icmp_lt (tgt := 53) C.1 C.2.1 dX12_isDigit_27 (by decide) (fun c27 => ?_) (fun c27 => ?_)
        · rw [if_pos c27] at h
          refine lv_iconst (v := 0) C.1 C.2.1 dX12_isDigit_53 (by decide) ?_
          obtain ⟨hg11, h⟩ := gd_some h
          cases h
          exact rt_z hg11 C hP hS dX12_isDigit_54
        · rw [if_neg c27] at h
          refine lv_aload_n C.1 C.2.1 dX12_isDigit_30 rfl (lv_at hl 0 rfl) ?_
          refine gM_0_text C hX12_isDigit_0_X12 hK hP mX12_isDigit_0_3 dX12_isDigit_31 ?_
          by_cases c31_1 : u.1 2 = 2
          · rw [if_pos c31_1] at h
            refine W.eq (g2 := F0 m 34 ls [.ref (ad 1)]) (by rw [c31_1]; rfl) ?_
            refine lv_aload_n C.1 C.2.1 dX12_isDigit_34 rfl (lv_at hl 0 rfl) ?_
            refine gM_0_begins C hX12_isDigit_0_X12 hK hP mX12_isDigit_0_4 dX12_isDigit_35 ?_
            refine lv_aload_n C.1 C.2.1 dX12_isDigit_38 rfl (lv_at hl 0 rfl) ?_
            refine gM_0_at C hX12_isDigit_0_X12 hK hP mX12_isDigit_0_1 dX12_isDigit_39 ?_
            refine lv_iadd C.1 C.2.1 dX12_isDigit_42 ?_
            obtain ⟨hg12, h⟩ := gd_some h
            refine lM_1 C hK hP hg12 dX12_isDigit_43 ?_
            refine lv_bipush (v := 57) C.1 C.2.1 dX12_isDigit_44 (by decide) ?_
            refine lv_icmp_gt (tgt := 53) C.1 C.2.1 dX12_isDigit_46 (by decide) (fun c46 => ?_) (fun c46 => ?_)
            · rw [if_pos c46] at h
              refine lv_iconst (v := 0) C.1 C.2.1 dX12_isDigit_53 (by decide) ?_
              obtain ⟨hg13, h⟩ := gd_some h
              cases h
              exact rt_z hg13 C hP hS dX12_isDigit_54
            · rw [if_neg c46] at h
              refine lv_iconst (v := 1) C.1 C.2.1 dX12_isDigit_49 (by decide) ?_
              refine lv_goto (tgt := 54) C.1 C.2.1 dX12_isDigit_50 (by decide) ?_
              obtain ⟨hg14, h⟩ := gd_some h
              cases h
              exact rt_z hg14 C hP hS dX12_isDigit_54
          · rw [if_neg c31_1] at h
            by_cases c31_2 : u.1 2 = 3
            · rw [if_pos c31_2] at h
              refine W.eq (g2 := F0 m 34 ls [.ref (ad 2)]) (by rw [c31_2]; rfl) ?_
              refine lv_aload_n C.1 C.2.1 dX12_isDigit_34 rfl (lv_at hl 0 rfl) ?_
              refine gM_0_begins C hX12_isDigit_0_X12 hK hP mX12_isDigit_0_4 dX12_isDigit_35 ?_
              refine lv_aload_n C.1 C.2.1 dX12_isDigit_38 rfl (lv_at hl 0 rfl) ?_
              refine gM_0_at C hX12_isDigit_0_X12 hK hP mX12_isDigit_0_1 dX12_isDigit_39 ?_
              refine lv_iadd C.1 C.2.1 dX12_isDigit_42 ?_
              obtain ⟨hg15, h⟩ := gd_some h
              refine lM_2 C hK hP hg15 dX12_isDigit_43 ?_
              refine lv_bipush (v := 57) C.1 C.2.1 dX12_isDigit_44 (by decide) ?_
              refine lv_icmp_gt (tgt := 53) C.1 C.2.1 dX12_isDigit_46 (by decide) (fun c46 => ?_) (fun c46 => ?_)
              · rw [if_pos c46] at h
                refine lv_iconst (v := 0) C.1 C.2.1 dX12_isDigit_53 (by decide) ?_
                obtain ⟨hg16, h⟩ := gd_some h
                cases h
                exact rt_z hg16 C hP hS dX12_isDigit_54
              · rw [if_neg c46] at h
                refine lv_iconst (v := 1) C.1 C.2.1 dX12_isDigit_49 (by decide) ?_
                refine lv_goto (tgt := 54) C.1 C.2.1 dX12_isDigit_50 (by decide) ?_
                obtain ⟨hg17, h⟩ := gd_some h
                cases h
                exact rt_z hg17 C hP hS dX12_isDigit_54
            · rw [if_neg c31_2] at h
              exact absurd h (by intro q; cases q)
      · rw [if_neg c12_2] at h
        exact absurd h (by intro q; cases q)
theorem metX12_isDigit_0 (l : Launch) (D : va_G) (cy : Nat → ClassId) (ad st : Nat → Nat) (hJ : JM ad st) (sz : Nat)  {u : SX} {r : Int32} {u' : SX} (h : fX12_isDigit_0  u = some (r, u')) : Met l yX12_isDigit wsX12_isDigit rmX12_isDigit_0 (va_Pc [.ref (ad 0)] (Px D [(cy 0, .int), (cy 1, .long), (cy 2, .boolean), (cy 3, .byte), (cy 4, .object "HissHorn$Text")] st (VM cy ad st) sz u)) (Qi D (VM cy ad st) (AM ad) sz r u') 0 0 (Ax (AM ad) sz) := by
  refine Met.ofW (cc := cX12_isDigit) (maxL := 1) (ret := (some .boolean)) (by decide) rfl ?_
  intro p e s m args below meth c s₁ B hml hv
  obtain ⟨rfl, hsz, hP, hK⟩ := hv
  subst hsz
  have C : Cx RX12 cX12_isDigit 1 (some .boolean) wsX12_isDigit p s m _ meth c := ⟨B.exec, B.bytes, hml, B.returns, findClass_of_methodNamed B.named, atoms_spec (ws := wsX12_isDigit) B.pre, B.notSynchronized⟩
  have hl := lv_entry ([.ref (ad 0)]) (n := 1) (Nat.le_of_ble_eq_true rfl)
  rw [lg_entry_eq]
  exact wX12_isDigit_0 C hK hJ h hP va_S.rf hl

theorem zdX12_within_0 : (and (and (and (zk cX12_within 0 (.ldc2_w 196) 3) (zk cX12_within 3 (.ldc2_w 198) 3)) (and (zk cX12_within 6 (.lload_n 0) 1) (zk cX12_within 7 (.invokestatic 200) 3))) (and (and (zk cX12_within 10 (.invokestatic 206) 3) (zk cX12_within 13 (.l2i) 1)) (zk cX12_within 14 (.ireturn) 1))) = true := by decide +kernel
theorem dX12_within_0 : decode cX12_within 0 = .ok (.ldc2_w 196, 3) := zk_of (zk_l (zk_l (zk_l zdX12_within_0)))
theorem dX12_within_3 : decode cX12_within 3 = .ok (.ldc2_w 198, 3) := zk_of (zk_r (zk_l (zk_l zdX12_within_0)))
theorem dX12_within_6 : decode cX12_within 6 = .ok (.lload_n 0, 1) := zk_of (zk_l (zk_r (zk_l zdX12_within_0)))
theorem dX12_within_7 : decode cX12_within 7 = .ok (.invokestatic 200, 3) := zk_of (zk_r (zk_r (zk_l zdX12_within_0)))
theorem dX12_within_10 : decode cX12_within 10 = .ok (.invokestatic 206, 3) := zk_of (zk_l (zk_l (zk_r zdX12_within_0)))
theorem dX12_within_13 : decode cX12_within 13 = .ok (.l2i, 1) := zk_of (zk_r (zk_l (zk_r zdX12_within_0)))
theorem dX12_within_14 : decode cX12_within 14 = .ok (.ireturn, 1) := zk_of (zk_r (zk_r zdX12_within_0))
/-- HissHornModel.within(J)I -/
def rmX12_within : Room := { frames := 1, cells := 0, slots := 0, locals := 17 }
theorem mX12_within_0 : Cond.constantLong RX12 196 (-1000000) ∈ wsX12_within := (List.mem_cons_of_mem _ (List.mem_of_getElem? (i := 0) rfl))
theorem mX12_within_1 : Cond.constantLong RX12 198 (1000000) ∈ wsX12_within := (List.mem_cons_of_mem _ (List.mem_of_getElem? (i := 1) rfl))
theorem mX12_within_2 : Cond.methodLink RX12 200 Lib.MathLoose.min_long.x ∈ wsX12_within := (List.mem_cons_of_mem _ (List.mem_of_getElem? (i := 2) rfl))
theorem mX12_within_3 : Cond.static Lib.MathLoose.min_long.x ∈ wsX12_within := (List.mem_cons_of_mem _ (List.mem_of_getElem? (i := 3) rfl))
theorem mX12_within_4 : Cond.initialized "java/lang/Math" ∈ wsX12_within := (List.mem_cons_of_mem _ (List.mem_of_getElem? (i := 4) rfl))
theorem mX12_within_5 : Cond.code Lib.MathLoose.min_long.x Lib.MathLoose.min_long.code 4 (some .long) ∈ wsX12_within := (List.mem_cons_of_mem _ (List.mem_of_getElem? (i := 5) rfl))
theorem mX12_within_6 : Cond.methodLink RX12 206 Lib.MathLoose.max_long.x ∈ wsX12_within := (List.mem_cons_of_mem _ (List.mem_of_getElem? (i := 6) rfl))
theorem mX12_within_7 : Cond.static Lib.MathLoose.max_long.x ∈ wsX12_within := (List.mem_cons_of_mem _ (List.mem_of_getElem? (i := 7) rfl))
theorem mX12_within_8 : Cond.code Lib.MathLoose.max_long.x Lib.MathLoose.max_long.code 4 (some .long) ∈ wsX12_within := (List.mem_cons_of_mem _ (List.mem_of_getElem? (i := 8) rfl))
def fX12_within (x0 : Int64) : Option Int32 := (some ((if (if x0 < 1000000 then x0 else 1000000) < (-1000000) then (-1000000) else (if x0 < 1000000 then x0 else 1000000)).toInt32))
set_option maxHeartbeats 4000000 in
set_option maxRecDepth 100000 in
theorem wX12_within {p : Program} {l : Launch} {e : Env} {s : State} {m : MethodId} {args : Array Value} {below : List Frame} {meth : Method} {c : Code} {D : va_G} {cy : Nat → ClassId} {st : Nat → Nat} (C : Cx RX12 cX12_within 2 (some .int) wsX12_within p s m args meth c) (hK : Ky D [(cy 0, .int), (cy 1, .long), (cy 2, .boolean), (cy 3, .byte), (cy 4, .object "HissHorn$Text")] st s) (x0 : Int64) {r : Int32} {H : Heap} {locs : List Loc} {ls : Array Slot} (h : fX12_within x0 = some r) (hP : va_P D vwCl (V0 u00) H) (hS : va_S (Ax (A0) s.heap.size) s.heap H locs) (hl : lv_has ls 2 [(0, .long x0)]) : W p l e rmX12_within s m args below meth c H locs 0 0 (MQ below (Qi D (V0) (A0) s.heap.size r u00) args s 0 0 (Ax (A0) s.heap.size)) (F0 m 0 ls []) := by
  unfold fX12_within at h
  refine lv_ldc2 C.1 C.2.1 C.2.2.2.2.1 (C.2.2.2.2.2.1 _ mX12_within_0) dX12_within_0 ?_
  refine lv_ldc2 C.1 C.2.1 C.2.2.2.2.1 (C.2.2.2.2.2.1 _ mX12_within_1) dX12_within_3 ?_
  refine lv_lload_n C.1 C.2.1 dX12_within_6 rfl (lv_at hl 0 rfl) ?_
  refine va_mmin_long C.1 C.2.1 (C.2.2.1.trans hl.1.symm) C.2.2.2.2.1 (C.2.2.2.2.2.1 _ mX12_within_2) (C.2.2.2.2.2.1 _ mX12_within_3) (C.2.2.2.2.2.1 _ mX12_within_4) (C.2.2.2.2.2.1 _ mX12_within_5) (Nat.le_of_ble_eq_true rfl) (Nat.le_of_ble_eq_true rfl) (Nat.zero_le _) (Nat.zero_le _) dX12_within_7 ?_
  refine va_mmax_long C.1 C.2.1 (C.2.2.1.trans hl.1.symm) C.2.2.2.2.1 (C.2.2.2.2.2.1 _ mX12_within_6) (C.2.2.2.2.2.1 _ mX12_within_7) (C.2.2.2.2.2.1 _ mX12_within_4) (C.2.2.2.2.2.1 _ mX12_within_8) (Nat.le_of_ble_eq_true rfl) (Nat.le_of_ble_eq_true rfl) (Nat.zero_le _) (Nat.zero_le _) dX12_within_10 ?_
  refine lv_l2i (v := (if (if x0 < 1000000 then x0 else 1000000) < (-1000000) then (-1000000) else (if x0 < 1000000 then x0 else 1000000)).toInt32) C.1 C.2.1 dX12_within_13 rfl ?_
  cases h
  exact rt_i C hP hS dX12_within_14
theorem metX12_within (l : Launch) (D : va_G) (cy : Nat → ClassId) (st : Nat → Nat) (sz : Nat) (x0 : Int64) {r : Int32} (h : fX12_within x0 = some r) : Met l yX12_within wsX12_within rmX12_within (va_Pc [.long x0] (Px D [(cy 0, .int), (cy 1, .long), (cy 2, .boolean), (cy 3, .byte), (cy 4, .object "HissHorn$Text")] st V0 sz u00)) (Qi D V0 A0 sz r u00) 0 0 (Ax A0 sz) := by
  refine Met.ofW (cc := cX12_within) (maxL := 2) (ret := (some .int)) (by decide) rfl ?_
  intro p e s m args below meth c s₁ B hml hv
  obtain ⟨rfl, hsz, hP, hK⟩ := hv
  subst hsz
  have C : Cx RX12 cX12_within 2 (some .int) wsX12_within p s m _ meth c := ⟨B.exec, B.bytes, hml, B.returns, findClass_of_methodNamed B.named, atoms_spec (ws := wsX12_within) B.pre, B.notSynchronized⟩
  have hl := lv_entry ([.long x0]) (n := 2) (Nat.le_of_ble_eq_true rfl)
  rw [lg_entry_eq]
  exact wX12_within C hK x0 h hP va_S.rf hl

theorem zdX12_isSign_0 : (and (and (and (and (zk cX12_isSign 0 (.iload_n 0) 1) (zk cX12_isSign 1 (.bipush 61) 2)) (and (zk cX12_isSign 3 (.if_icmp .eq 15) 3) (zk cX12_isSign 18 (.iconst 1) 1))) (and (and (zk cX12_isSign 19 (.goto 4) 3) (zk cX12_isSign 23 (.ireturn) 1)) (zk cX12_isSign 6 (.iload_n 0) 1))) (and (and (and (zk cX12_isSign 7 (.bipush 60) 2) (zk cX12_isSign 9 (.if_icmp .eq 9) 3)) (zk cX12_isSign 12 (.iload_n 0) 1)) (and (and (zk cX12_isSign 13 (.bipush 62) 2) (zk cX12_isSign 15 (.if_icmp .ne 7) 3)) (zk cX12_isSign 22 (.iconst 0) 1)))) = true := by decide +kernel
theorem dX12_isSign_0 : decode cX12_isSign 0 = .ok (.iload_n 0, 1) := zk_of (zk_l (zk_l (zk_l (zk_l zdX12_isSign_0))))
theorem dX12_isSign_1 : decode cX12_isSign 1 = .ok (.bipush 61, 2) := zk_of (zk_r (zk_l (zk_l (zk_l zdX12_isSign_0))))
theorem dX12_isSign_3 : decode cX12_isSign 3 = .ok (.if_icmp .eq 15, 3) := zk_of (zk_l (zk_r (zk_l (zk_l zdX12_isSign_0))))
theorem dX12_isSign_18 : decode cX12_isSign 18 = .ok (.iconst 1, 1) := zk_of (zk_r (zk_r (zk_l (zk_l zdX12_isSign_0))))
theorem dX12_isSign_19 : decode cX12_isSign 19 = .ok (.goto 4, 3) := zk_of (zk_l (zk_l (zk_r (zk_l zdX12_isSign_0))))
theorem dX12_isSign_23 : decode cX12_isSign 23 = .ok (.ireturn, 1) := zk_of (zk_r (zk_l (zk_r (zk_l zdX12_isSign_0))))
theorem dX12_isSign_6 : decode cX12_isSign 6 = .ok (.iload_n 0, 1) := zk_of (zk_r (zk_r (zk_l zdX12_isSign_0)))
theorem dX12_isSign_7 : decode cX12_isSign 7 = .ok (.bipush 60, 2) := zk_of (zk_l (zk_l (zk_l (zk_r zdX12_isSign_0))))
theorem dX12_isSign_9 : decode cX12_isSign 9 = .ok (.if_icmp .eq 9, 3) := zk_of (zk_r (zk_l (zk_l (zk_r zdX12_isSign_0))))
theorem dX12_isSign_12 : decode cX12_isSign 12 = .ok (.iload_n 0, 1) := zk_of (zk_r (zk_l (zk_r zdX12_isSign_0)))
theorem dX12_isSign_13 : decode cX12_isSign 13 = .ok (.bipush 62, 2) := zk_of (zk_l (zk_l (zk_r (zk_r zdX12_isSign_0))))
theorem dX12_isSign_15 : decode cX12_isSign 15 = .ok (.if_icmp .ne 7, 3) := zk_of (zk_r (zk_l (zk_r (zk_r zdX12_isSign_0))))
theorem dX12_isSign_22 : decode cX12_isSign 22 = .ok (.iconst 0, 1) := zk_of (zk_r (zk_r (zk_r zdX12_isSign_0)))
/-- HissHornModel.isSign(I)Z -/
def rmX12_isSign : Room := { frames := 0, cells := 0, slots := 0, locals := 0 }
def fX12_isSign (x0 : Int32) : Option Int32 := (if x0 = 61 then (gd (isB 1) (some 1)) else (if x0 = 60 then (gd (isB 1) (some 1)) else (if x0 = 62 then (gd (isB 1) (some 1)) else (gd (isB 0) (some 0)))))
set_option maxHeartbeats 4000000 in
set_option maxRecDepth 100000 in
theorem wX12_isSign {p : Program} {l : Launch} {e : Env} {s : State} {m : MethodId} {args : Array Value} {below : List Frame} {meth : Method} {c : Code} {D : va_G} {cy : Nat → ClassId} {st : Nat → Nat} (C : Cx RX12 cX12_isSign 1 (some .boolean) wsX12_isSign p s m args meth c) (hK : Ky D [(cy 0, .int), (cy 1, .long), (cy 2, .boolean), (cy 3, .byte), (cy 4, .object "HissHorn$Text")] st s) (x0 : Int32) {r : Int32} {H : Heap} {locs : List Loc} {ls : Array Slot} (h : fX12_isSign x0 = some r) (hP : va_P D vwCl (V0 u00) H) (hS : va_S (Ax (A0) s.heap.size) s.heap H locs) (hl : lv_has ls 1 [(0, .int x0)]) : W p l e rmX12_isSign s m args below meth c H locs 0 0 (MQ below (Qi D (V0) (A0) s.heap.size r u00) args s 0 0 (Ax (A0) s.heap.size)) (F0 m 0 ls []) := by
  unfold fX12_isSign at h
  refine lv_iload_n C.1 C.2.1 dX12_isSign_0 rfl (lv_at hl 0 rfl) ?_
  refine lv_bipush (v := 61) C.1 C.2.1 dX12_isSign_1 (by decide) ?_
  refine lv_icmp_eq (tgt := 18) C.1 C.2.1 dX12_isSign_3 (by decide) (fun c3 => ?_) (fun c3 => ?_)
  · rw [if_pos c3] at h
    refine lv_iconst (v := 1) C.1 C.2.1 dX12_isSign_18 (by decide) ?_
    refine lv_goto (tgt := 23) C.1 C.2.1 dX12_isSign_19 (by decide) ?_
    obtain ⟨hg1, h⟩ := gd_some h
    cases h
    exact rt_z hg1 C hP hS dX12_isSign_23
  · rw [if_neg c3] at h
    refine lv_iload_n C.1 C.2.1 dX12_isSign_6 rfl (lv_at hl 0 rfl) ?_
    refine lv_bipush (v := 60) C.1 C.2.1 dX12_isSign_7 (by decide) ?_
    refine lv_icmp_eq (tgt := 18) C.1 C.2.1 dX12_isSign_9 (by decide) (fun c9 => ?_) (fun c9 => ?_)
    · rw [if_pos c9] at h
      refine lv_iconst (v := 1) C.1 C.2.1 dX12_isSign_18 (by decide) ?_
      refine lv_goto (tgt := 23) C.1 C.2.1 dX12_isSign_19 (by decide) ?_
      obtain ⟨hg2, h⟩ := gd_some h
      cases h
      exact rt_z hg2 C hP hS dX12_isSign_23
    · rw [if_neg c9] at h
      refine lv_iload_n C.1 C.2.1 dX12_isSign_12 rfl (lv_at hl 0 rfl) ?_
      refine lv_bipush (v := 62) C.1 C.2.1 dX12_isSign_13 (by decide) ?_
      refine lv_icmp_ne (tgt := 22) C.1 C.2.1 dX12_isSign_15 (by decide) (fun c15 => ?_) (fun c15 => ?_)
      · rw [if_neg c15] at h
        refine lv_iconst (v := 0) C.1 C.2.1 dX12_isSign_22 (by decide) ?_
        obtain ⟨hg3, h⟩ := gd_some h
        cases h
        exact rt_z hg3 C hP hS dX12_isSign_23
      · rw [if_pos c15] at h
        refine lv_iconst (v := 1) C.1 C.2.1 dX12_isSign_18 (by decide) ?_
        refine lv_goto (tgt := 23) C.1 C.2.1 dX12_isSign_19 (by decide) ?_
        obtain ⟨hg4, h⟩ := gd_some h
        cases h
        exact rt_z hg4 C hP hS dX12_isSign_23
theorem metX12_isSign (l : Launch) (D : va_G) (cy : Nat → ClassId) (st : Nat → Nat) (sz : Nat) (x0 : Int32) {r : Int32} (h : fX12_isSign x0 = some r) : Met l yX12_isSign wsX12_isSign rmX12_isSign (va_Pc [.int x0] (Px D [(cy 0, .int), (cy 1, .long), (cy 2, .boolean), (cy 3, .byte), (cy 4, .object "HissHorn$Text")] st V0 sz u00)) (Qi D V0 A0 sz r u00) 0 0 (Ax A0 sz) := by
  refine Met.ofW (cc := cX12_isSign) (maxL := 1) (ret := (some .boolean)) (by decide) rfl ?_
  intro p e s m args below meth c s₁ B hml hv
  obtain ⟨rfl, hsz, hP, hK⟩ := hv
  subst hsz
  have C : Cx RX12 cX12_isSign 1 (some .boolean) wsX12_isSign p s m _ meth c := ⟨B.exec, B.bytes, hml, B.returns, findClass_of_methodNamed B.named, atoms_spec (ws := wsX12_isSign) B.pre, B.notSynchronized⟩
  have hl := lv_entry ([.int x0]) (n := 1) (Nat.le_of_ble_eq_true rfl)
  rw [lg_entry_eq]
  exact wX12_isSign C hK x0 h hP va_S.rf hl

/-- java/lang/String.isLatin1()Z of cell s4 -/
def rmJ0_isLatin1_aae02_s4 : Room := { frames := 0, cells := 0, slots := 0, locals := 0 }
theorem mJ0_isLatin1_aae02_s4_0 : Cond.fieldLink RJ0 38 "java/lang/String" "COMPACT_STRINGS" "Z" ∈ wsJ0_isLatin1_aae02 := (List.mem_cons_of_mem _ (List.mem_of_getElem? (i := 0) rfl))
theorem mJ0_isLatin1_aae02_s4_1 : Cond.fieldLink RJ0 15 "java/lang/String" "coder" "B" ∈ wsJ0_isLatin1_aae02 := (List.mem_cons_of_mem _ (List.mem_of_getElem? (i := 1) rfl))
def fJ0_isLatin1_aae02_s4  : Option Int32 := (gd (isB 1) (some 1))
set_option maxHeartbeats 4000000 in
set_option maxRecDepth 100000 in
theorem wJ0_isLatin1_aae02_s4 {p : Program} {l : Launch} {e : Env} {s : State} {m : MethodId} {args : Array Value} {below : List Frame} {meth : Method} {c : Code} {D : va_G} {cy : Nat → ClassId} {st : Nat → Nat} (C : Cx RJ0 cJ0_isLatin1_aae02 1 (some .boolean) wsJ0_isLatin1_aae02 p s m args meth c) (hK : Ky D [(cy 0, .int), (cy 1, .long), (cy 2, .boolean), (cy 3, .byte), (cy 4, .object "HissHorn$Text")] st s)  {r : Int32} {H : Heap} {locs : List Loc} {ls : Array Slot} (h : fJ0_isLatin1_aae02_s4  = some r) (hP : va_P D vwCl (V0 u00) H) (hS : va_S (Ax (A0) s.heap.size) s.heap H locs) (hl : lv_has ls 1 [(0, .ref (st 4))]) : W p l e rmJ0_isLatin1_aae02_s4 s m args below meth c H locs 0 0 (MQ below (Qi D (V0) (A0) s.heap.size r u00) args s 0 0 (Ax (A0) s.heap.size)) (F0 m 0 ls []) := by
  unfold fJ0_isLatin1_aae02_s4 at h
  refine va_gets C.1 C.2.1 hK.2.2.2.2.1 (Zx_S hK.2.2.2 A0_ge hS) C.2.2.2.2.1 (C.2.2.2.2.2.1 _ mJ0_isLatin1_aae02_s4_0) (fun _ h => h) dJ0_isLatin1_aae02_0 ?_
  refine lv_if_eq (tgt := 17) C.1 C.2.1 dJ0_isLatin1_aae02_3 (by decide) (fun c => absurd c (by decide)) (fun _ => ?_)
  refine lv_aload_n C.1 C.2.1 dJ0_isLatin1_aae02_6 rfl (lv_at hl 0 rfl) ?_
  refine vk_getf C.1 C.2.1 (hK.2.2.2.2.2 4 (by decide)).2.1 (Zx_S hK.2.2.2 A0_ge hS) C.2.2.2.2.1 (C.2.2.2.2.2.1 _ mJ0_isLatin1_aae02_s4_1) (fun _ h => h) dJ0_isLatin1_aae02_7 ?_
  refine lv_if_ne (tgt := 17) C.1 C.2.1 dJ0_isLatin1_aae02_10 (by decide) (fun c => absurd c (by decide)) (fun _ => ?_)
  refine lv_iconst (v := 1) C.1 C.2.1 dJ0_isLatin1_aae02_13 (by decide) ?_
  refine lv_goto (tgt := 18) C.1 C.2.1 dJ0_isLatin1_aae02_14 (by decide) ?_
  obtain ⟨hg1, h⟩ := gd_some h
  cases h
  exact rt_z hg1 C hP hS dJ0_isLatin1_aae02_18
theorem metJ0_isLatin1_aae02_s4 (l : Launch) (D : va_G) (cy : Nat → ClassId) (st : Nat → Nat) (sz : Nat)  {r : Int32} (h : fJ0_isLatin1_aae02_s4  = some r) : Met l yJ0_isLatin1_aae02 wsJ0_isLatin1_aae02 rmJ0_isLatin1_aae02_s4 (va_Pc [.ref (st 4)] (Px D [(cy 0, .int), (cy 1, .long), (cy 2, .boolean), (cy 3, .byte), (cy 4, .object "HissHorn$Text")] st V0 sz u00)) (Qi D V0 A0 sz r u00) 0 0 (Ax A0 sz) := by
  refine Met.ofW (cc := cJ0_isLatin1_aae02) (maxL := 1) (ret := (some .boolean)) (by decide) rfl ?_
  intro p e s m args below meth c s₁ B hml hv
  obtain ⟨rfl, hsz, hP, hK⟩ := hv
  subst hsz
  have C : Cx RJ0 cJ0_isLatin1_aae02 1 (some .boolean) wsJ0_isLatin1_aae02 p s m _ meth c := ⟨B.exec, B.bytes, hml, B.returns, findClass_of_methodNamed B.named, atoms_spec (ws := wsJ0_isLatin1_aae02) B.pre, B.notSynchronized⟩
  have hl := lv_entry ([.ref (st 4)]) (n := 1) (Nat.le_of_ble_eq_true rfl)
  rw [lg_entry_eq]
  exact wJ0_isLatin1_aae02_s4 C hK h hP va_S.rf hl

/-- java/lang/String.coder()B of cell s4 -/
def rmJ0_coder_7d493_s4 : Room := { frames := 0, cells := 0, slots := 0, locals := 0 }
theorem mJ0_coder_7d493_s4_0 : Cond.fieldLink RJ0 38 "java/lang/String" "COMPACT_STRINGS" "Z" ∈ wsJ0_coder_7d493 := (List.mem_cons_of_mem _ (List.mem_of_getElem? (i := 0) rfl))
theorem mJ0_coder_7d493_s4_1 : Cond.fieldLink RJ0 15 "java/lang/String" "coder" "B" ∈ wsJ0_coder_7d493 := (List.mem_cons_of_mem _ (List.mem_of_getElem? (i := 1) rfl))
def fJ0_coder_7d493_s4  : Option Int32 := (some 0)
set_option maxHeartbeats 4000000 in
set_option maxRecDepth 100000 in
theorem wJ0_coder_7d493_s4 {p : Program} {l : Launch} {e : Env} {s : State} {m : MethodId} {args : Array Value} {below : List Frame} {meth : Method} {c : Code} {D : va_G} {cy : Nat → ClassId} {st : Nat → Nat} (C : Cx RJ0 cJ0_coder_7d493 1 (some .byte) wsJ0_coder_7d493 p s m args meth c) (hK : Ky D [(cy 0, .int), (cy 1, .long), (cy 2, .boolean), (cy 3, .byte), (cy 4, .object "HissHorn$Text")] st s)  {r : Int32} {H : Heap} {locs : List Loc} {ls : Array Slot} (h : fJ0_coder_7d493_s4  = some r) (hP : va_P D vwCl (V0 u00) H) (hS : va_S (Ax (A0) s.heap.size) s.heap H locs) (hl : lv_has ls 1 [(0, .ref (st 4))]) : W p l e rmJ0_coder_7d493_s4 s m args below meth c H locs 0 0 (MQ below (Qi D (V0) (A0) s.heap.size r u00) args s 0 0 (Ax (A0) s.heap.size)) (F0 m 0 ls []) := by
  unfold fJ0_coder_7d493_s4 at h
  refine va_gets C.1 C.2.1 hK.2.2.2.2.1 (Zx_S hK.2.2.2 A0_ge hS) C.2.2.2.2.1 (C.2.2.2.2.2.1 _ mJ0_coder_7d493_s4_0) (fun _ h => h) dJ0_coder_7d493_0 ?_
  refine lv_if_eq (tgt := 13) C.1 C.2.1 dJ0_coder_7d493_3 (by decide) (fun c => absurd c (by decide)) (fun _ => ?_)
  refine lv_aload_n C.1 C.2.1 dJ0_coder_7d493_6 rfl (lv_at hl 0 rfl) ?_
  refine vk_getf C.1 C.2.1 (hK.2.2.2.2.2 4 (by decide)).2.1 (Zx_S hK.2.2.2 A0_ge hS) C.2.2.2.2.1 (C.2.2.2.2.2.1 _ mJ0_coder_7d493_s4_1) (fun _ h => h) dJ0_coder_7d493_7 ?_
  refine lv_goto (tgt := 14) C.1 C.2.1 dJ0_coder_7d493_10 (by decide) ?_
  cases h
  exact rt_b rfl C hP hS dJ0_coder_7d493_14
theorem metJ0_coder_7d493_s4 (l : Launch) (D : va_G) (cy : Nat → ClassId) (st : Nat → Nat) (sz : Nat)  {r : Int32} (h : fJ0_coder_7d493_s4  = some r) : Met l yJ0_coder_7d493 wsJ0_coder_7d493 rmJ0_coder_7d493_s4 (va_Pc [.ref (st 4)] (Px D [(cy 0, .int), (cy 1, .long), (cy 2, .boolean), (cy 3, .byte), (cy 4, .object "HissHorn$Text")] st V0 sz u00)) (Qi D V0 A0 sz r u00) 0 0 (Ax A0 sz) := by
  refine Met.ofW (cc := cJ0_coder_7d493) (maxL := 1) (ret := (some .byte)) (by decide) rfl ?_
  intro p e s m args below meth c s₁ B hml hv
  obtain ⟨rfl, hsz, hP, hK⟩ := hv
  subst hsz
  have C : Cx RJ0 cJ0_coder_7d493 1 (some .byte) wsJ0_coder_7d493 p s m _ meth c := ⟨B.exec, B.bytes, hml, B.returns, findClass_of_methodNamed B.named, atoms_spec (ws := wsJ0_coder_7d493) B.pre, B.notSynchronized⟩
  have hl := lv_entry ([.ref (st 4)]) (n := 1) (Nat.le_of_ble_eq_true rfl)
  rw [lg_entry_eq]
  exact wJ0_coder_7d493_s4 C hK h hP va_S.rf hl

/-- java/lang/String.length()I of cell s4 -/
def rmJ0_length_8abf5_s4 : Room := { frames := 1, cells := 0, slots := 0, locals := 20 }
theorem mJ0_length_8abf5_s4_0 : Cond.fieldLink RJ0 9 "java/lang/String" "value" "[B" ∈ wsJ0_length_8abf5 := (List.mem_cons_of_mem _ (List.mem_of_getElem? (i := 0) rfl))
def fJ0_length_8abf5_s4  : Option Int32 := ((fJ0_coder_7d493_s4 ).bind fun r1 => (some (6 >>> (r1 &&& 31))))
set_option maxHeartbeats 4000000 in
set_option maxRecDepth 100000 in
theorem wJ0_length_8abf5_s4 {p : Program} {l : Launch} {e : Env} {s : State} {m : MethodId} {args : Array Value} {below : List Frame} {meth : Method} {c : Code} {D : va_G} {cy : Nat → ClassId} {st : Nat → Nat} (C : Cx RJ0 cJ0_length_8abf5 1 (some .int) wsJ0_length_8abf5 p s m args meth c) (hK : Ky D [(cy 0, .int), (cy 1, .long), (cy 2, .boolean), (cy 3, .byte), (cy 4, .object "HissHorn$Text")] st s)  {r : Int32} {H : Heap} {locs : List Loc} {ls : Array Slot} (h : fJ0_length_8abf5_s4  = some r) (hP : va_P D vwCl (V0 u00) H) (hS : va_S (Ax (A0) s.heap.size) s.heap H locs) (hl : lv_has ls 1 [(0, .ref (st 4))]) : W p l e rmJ0_length_8abf5_s4 s m args below meth c H locs 0 0 (MQ below (Qi D (V0) (A0) s.heap.size r u00) args s 0 0 (Ax (A0) s.heap.size)) (F0 m 0 ls []) := by
  unfold fJ0_length_8abf5_s4 at h
  refine lv_aload_n C.1 C.2.1 dJ0_length_8abf5_0 rfl (lv_at hl 0 rfl) ?_
  refine vk_getf C.1 C.2.1 (hK.2.2.2.2.2 4 (by decide)).2.2.1 (Zx_S hK.2.2.2 A0_ge hS) C.2.2.2.2.1 (C.2.2.2.2.2.1 _ mJ0_length_8abf5_s4_0) (fun _ h => h) dJ0_length_8abf5_1 ?_
  refine va_tlen (v := 6) C.1 C.2.1 (hK.2.2.2.2.2 4 (by decide)).2.2.2 (Zx_S hK.2.2.2 A0_ge hS) rfl dJ0_length_8abf5_4 ?_
  refine lv_aload_n C.1 C.2.1 dJ0_length_8abf5_5 rfl (lv_at hl 0 rfl) ?_
  obtain ⟨r1, hc3, h⟩ := bd_some h
  refine cz_i (kz := 4) (by decide) (As := []) (rest := [.int 6]) A0_ge C hK hP hS (metJ0_coder_7d493_s4 l D cy st _  hc3) (cwV 0 C.2.2.2.2.2.1 gJ0_length_8abf5_J0_coder_7d493 rfl rfl rfl (by decide +kernel) ⟨(Nat.le_of_ble_eq_true rfl), (Nat.le_of_ble_eq_true rfl)⟩) rfl hl.1 rfl (Nat.le_of_ble_eq_true rfl) dJ0_length_8abf5_6 ⟨Nat.zero_le _, Nat.zero_le _⟩ (fun H locs hP hS => ?_)
  refine lv_ishr C.1 C.2.1 dJ0_length_8abf5_9 ?_
  cases h
  exact rt_i C hP hS dJ0_length_8abf5_10
theorem metJ0_length_8abf5_s4 (l : Launch) (D : va_G) (cy : Nat → ClassId) (st : Nat → Nat) (sz : Nat)  {r : Int32} (h : fJ0_length_8abf5_s4  = some r) : Met l yJ0_length_8abf5 wsJ0_length_8abf5 rmJ0_length_8abf5_s4 (va_Pc [.ref (st 4)] (Px D [(cy 0, .int), (cy 1, .long), (cy 2, .boolean), (cy 3, .byte), (cy 4, .object "HissHorn$Text")] st V0 sz u00)) (Qi D V0 A0 sz r u00) 0 0 (Ax A0 sz) := by
  refine Met.ofW (cc := cJ0_length_8abf5) (maxL := 1) (ret := (some .int)) (by decide) rfl ?_
  intro p e s m args below meth c s₁ B hml hv
  obtain ⟨rfl, hsz, hP, hK⟩ := hv
  subst hsz
  have C : Cx RJ0 cJ0_length_8abf5 1 (some .int) wsJ0_length_8abf5 p s m _ meth c := ⟨B.exec, B.bytes, hml, B.returns, findClass_of_methodNamed B.named, atoms_spec (ws := wsJ0_length_8abf5) B.pre, B.notSynchronized⟩
  have hl := lv_entry ([.ref (st 4)]) (n := 1) (Nat.le_of_ble_eq_true rfl)
  rw [lg_entry_eq]
  exact wJ0_length_8abf5_s4 C hK h hP va_S.rf hl

/-- java/lang/StringLatin1.indexOfChar([BIII)I -/
def rmJ1_indexOfChar_4cfef_ab4 : Room := { frames := 0, cells := 0, slots := 0, locals := 0 }
def LJ1_indexOfChar_4cfef_ab4_7  : Nat → Int32 → Int32 → Int32 → Option Int32
  | 0, _, _, _ => none
  | n + 1, z3, z4, z5 => (if z3 ≤ z5 then (some (-1)) else (gd (inb z5 6) (if (zB 4 z5.toNatClampNeg) = z4 then (some z5) else ((LJ1_indexOfChar_4cfef_ab4_7 n) z3 z4 (z5 + 1)))))
def fJ1_indexOfChar_4cfef_ab4 (x1 : Int32) (x2 : Int32) (x3 : Int32) : Option Int32 := (lt (x1.toInt8.toInt32) fun v1 => (LJ1_indexOfChar_4cfef_ab4_7  5000 x3 v1 x2))
set_option maxHeartbeats 4000000 in
set_option maxRecDepth 100000 in
theorem wLJ1_indexOfChar_4cfef_ab4_7 {p : Program} {l : Launch} {e : Env} {s : State} {m : MethodId} {args : Array Value} {below : List Frame} {meth : Method} {c : Code} {D : va_G} {cy : Nat → ClassId} {st : Nat → Nat} (C : Cx RJ1 cJ1_indexOfChar_4cfef 6 (some .int) wsJ1_indexOfChar_4cfef p s m args meth c) (hK : Ky D [(cy 0, .int), (cy 1, .long), (cy 2, .boolean), (cy 3, .byte), (cy 4, .object "HissHorn$Text")] st s) {r : Int32}   : ∀ (n : Nat) (z3 : Int32) (z4 : Int32) (z5 : Int32) (H : Heap) (locs : List Loc) (ls : Array Slot), LJ1_indexOfChar_4cfef_ab4_7  n z3 z4 z5 = some r → va_P D vwCl (V0 u00) H → va_S (Ax (A0) s.heap.size) s.heap H locs → lv_has ls 6 [(0, .ref (st 14)), (3, .int z3), (4, .int z4), (5, .int z5)] → W p l e rmJ1_indexOfChar_4cfef_ab4 s m args below meth c H locs 0 0 (MQ below (Qi D (V0) (A0) s.heap.size r u00) args s 0 0 (Ax (A0) s.heap.size)) (F0 m 7 ls []) := by
  intro n
  induction n with
  | zero =>
    intro z3 z4 z5 H locs ls h
    exact absurd h (by intro q; cases q)
  | succ n ih =>
    intro z3 z4 z5 H locs ls h hP hS hl
    rw [LJ1_indexOfChar_4cfef_ab4_7] at h
    refine lv_iload C.1 C.2.1 dJ1_indexOfChar_4cfef_7 (lv_at hl 3 rfl) ?_
    refine lv_iload_n C.1 C.2.1 dJ1_indexOfChar_4cfef_9 rfl (lv_at hl 1 rfl) ?_
    refine lv_icmp_ge (tgt := 31) C.1 C.2.1 dJ1_indexOfChar_4cfef_10 (by decide) (fun c10 => ?_) (fun c10 => ?_)
    · rw [if_pos c10] at h
      refine lv_iconst (v := (-1)) C.1 C.2.1 dJ1_indexOfChar_4cfef_31 (by decide) ?_
      cases h
      exact rt_i C hP hS dJ1_indexOfChar_4cfef_32
    · rw [if_neg c10] at h
      refine lv_aload_n C.1 C.2.1 dJ1_indexOfChar_4cfef_13 rfl (lv_at hl 0 rfl) ?_
      refine lv_iload C.1 C.2.1 dJ1_indexOfChar_4cfef_14 (lv_at hl 3 rfl) ?_
      obtain ⟨hg3, h⟩ := gd_some h
      refine va_tb (v := .int (zB 4 z5.toNatClampNeg)) C.1 C.2.1 (hK.2.2.2.2.2 4 (by decide)).2.2.2 (Zx_S hK.2.2.2 A0_ge hS) (inb_in hg3) rfl dJ1_indexOfChar_4cfef_16 ?_
      refine lv_iload C.1 C.2.1 dJ1_indexOfChar_4cfef_17 (lv_at hl 2 rfl) ?_
      refine lv_icmp_ne (tgt := 25) C.1 C.2.1 dJ1_indexOfChar_4cfef_19 (by decide) (fun c19 => ?_) (fun c19 => ?_)
      · rw [if_neg c19] at h
        refine lv_iinc (v := z5 + 1) (lv' := [(5, .int (z5 + 1)), (0, .ref (st 14)), (3, .int z3), (4, .int z4)]) C.1 C.2.1 dJ1_indexOfChar_4cfef_25 hl (k := 3) rfl rfl (by decide) rfl (fun ls hl => ?_)
        replace hl := lv_sub (l' := [(0, .ref (st 14)), (3, .int z3), (4, .int z4), (5, .int (z5 + 1))]) hl [1, 2, 3, 0] rfl
        refine lv_goto (tgt := 7) C.1 C.2.1 dJ1_indexOfChar_4cfef_28 (by decide) ?_
        exact ih _ _ _ _ _ _ h hP hS hl
      · rw [if_pos c19] at h
        refine lv_iload C.1 C.2.1 dJ1_indexOfChar_4cfef_22 (lv_at hl 3 rfl) ?_
        cases h
        exact rt_i C hP hS dJ1_indexOfChar_4cfef_24
set_option maxHeartbeats 4000000 in
set_option maxRecDepth 100000 in
theorem wJ1_indexOfChar_4cfef_ab4 {p : Program} {l : Launch} {e : Env} {s : State} {m : MethodId} {args : Array Value} {below : List Frame} {meth : Method} {c : Code} {D : va_G} {cy : Nat → ClassId} {st : Nat → Nat} (C : Cx RJ1 cJ1_indexOfChar_4cfef 6 (some .int) wsJ1_indexOfChar_4cfef p s m args meth c) (hK : Ky D [(cy 0, .int), (cy 1, .long), (cy 2, .boolean), (cy 3, .byte), (cy 4, .object "HissHorn$Text")] st s) (x1 : Int32) (x2 : Int32) (x3 : Int32) {r : Int32} {H : Heap} {locs : List Loc} {ls : Array Slot} (h : fJ1_indexOfChar_4cfef_ab4 x1 x2 x3 = some r) (hP : va_P D vwCl (V0 u00) H) (hS : va_S (Ax (A0) s.heap.size) s.heap H locs) (hl : lv_has ls 6 [(0, .ref (st 14)), (1, .int x1), (2, .int x2), (3, .int x3)]) : W p l e rmJ1_indexOfChar_4cfef_ab4 s m args below meth c H locs 0 0 (MQ below (Qi D (V0) (A0) s.heap.size r u00) args s 0 0 (Ax (A0) s.heap.size)) (F0 m 0 ls []) := by
  unfold fJ1_indexOfChar_4cfef_ab4 at h
  refine lv_iload_n C.1 C.2.1 dJ1_indexOfChar_4cfef_0 rfl (lv_at hl 1 rfl) ?_
  refine lv_i2b (v := x1.toInt8.toInt32) C.1 C.2.1 dJ1_indexOfChar_4cfef_1 rfl ?_
  refine lv_topi (fun v1 hv2 => ?_)
  replace h := lt_e hv2 h
  try dsimp only at h
  refine lv_istore (lv' := [(4, .int v1), (0, .ref (st 14)), (1, .int x1), (2, .int x2), (3, .int x3)]) C.1 C.2.1 dJ1_indexOfChar_4cfef_2 hl (by decide) rfl (fun ls hl => ?_)
  replace hl := lv_sub (l' := [(0, .ref (st 14)), (1, .int x1), (2, .int x2), (3, .int x3), (4, .int v1)]) hl [1, 2, 3, 4, 0] rfl
  refine lv_iload_n C.1 C.2.1 dJ1_indexOfChar_4cfef_4 rfl (lv_at hl 2 rfl) ?_
  refine lv_istore (lv' := [(5, .int x2), (0, .ref (st 14)), (1, .int x1), (2, .int x2), (3, .int x3), (4, .int v1)]) C.1 C.2.1 dJ1_indexOfChar_4cfef_5 hl (by decide) rfl (fun ls hl => ?_)
  replace hl := lv_sub (l' := [(0, .ref (st 14)), (1, .int x1), (2, .int x2), (3, .int x3), (4, .int v1), (5, .int x2)]) hl [1, 2, 3, 4, 5, 0] rfl
  exact wLJ1_indexOfChar_4cfef_ab4_7 C hK  5000 _ _ _ _ _ _ h hP hS (lv_sub hl [0, 3, 4, 5] rfl)
theorem metJ1_indexOfChar_4cfef_ab4 (l : Launch) (D : va_G) (cy : Nat → ClassId) (st : Nat → Nat) (sz : Nat) (x1 : Int32) (x2 : Int32) (x3 : Int32) {r : Int32} (h : fJ1_indexOfChar_4cfef_ab4 x1 x2 x3 = some r) : Met l yJ1_indexOfChar_4cfef wsJ1_indexOfChar_4cfef rmJ1_indexOfChar_4cfef_ab4 (va_Pc [.ref (st 14), .int x1, .int x2, .int x3] (Px D [(cy 0, .int), (cy 1, .long), (cy 2, .boolean), (cy 3, .byte), (cy 4, .object "HissHorn$Text")] st V0 sz u00)) (Qi D V0 A0 sz r u00) 0 0 (Ax A0 sz) := by
  refine Met.ofW (cc := cJ1_indexOfChar_4cfef) (maxL := 6) (ret := (some .int)) (by decide) rfl ?_
  intro p e s m args below meth c s₁ B hml hv
  obtain ⟨rfl, hsz, hP, hK⟩ := hv
  subst hsz
  have C : Cx RJ1 cJ1_indexOfChar_4cfef 6 (some .int) wsJ1_indexOfChar_4cfef p s m _ meth c := ⟨B.exec, B.bytes, hml, B.returns, findClass_of_methodNamed B.named, atoms_spec (ws := wsJ1_indexOfChar_4cfef) B.pre, B.notSynchronized⟩
  have hl := lv_entry ([.ref (st 14), .int x1, .int x2, .int x3]) (n := 6) (Nat.le_of_ble_eq_true rfl)
  rw [lg_entry_eq]
  exact wJ1_indexOfChar_4cfef_ab4 C hK x1 x2 x3 h hP va_S.rf hl

/-- java/lang/StringLatin1.indexOf([BIII)I -/
def rmJ1_indexOf_4cfef_ab4 : Room := { frames := 1, cells := 0, slots := 0, locals := 25 }
theorem mJ1_indexOf_4cfef_ab4_0 : Cond.methodLink RJ1 92 Lib.Math.max.name ∈ wsJ1_indexOf_4cfef := (List.mem_cons_of_mem _ (List.mem_of_getElem? (i := 0) rfl))
theorem mJ1_indexOf_4cfef_ab4_1 : Cond.static Lib.Math.max.name ∈ wsJ1_indexOf_4cfef := (List.mem_cons_of_mem _ (List.mem_of_getElem? (i := 1) rfl))
theorem mJ1_indexOf_4cfef_ab4_2 : Cond.initialized "java/lang/Math" ∈ wsJ1_indexOf_4cfef := (List.mem_cons_of_mem _ (List.mem_of_getElem? (i := 2) rfl))
theorem mJ1_indexOf_4cfef_ab4_3 : Cond.code Lib.Math.max.name Lib.Math.max.code 2 (some .int) ∈ wsJ1_indexOf_4cfef := (List.mem_cons_of_mem _ (List.mem_of_getElem? (i := 3) rfl))
theorem mJ1_indexOf_4cfef_ab4_4 : Cond.methodLink RJ1 38 Lib.Math.min.name ∈ wsJ1_indexOf_4cfef := (List.mem_cons_of_mem _ (List.mem_of_getElem? (i := 4) rfl))
theorem mJ1_indexOf_4cfef_ab4_5 : Cond.static Lib.Math.min.name ∈ wsJ1_indexOf_4cfef := (List.mem_cons_of_mem _ (List.mem_of_getElem? (i := 5) rfl))
theorem mJ1_indexOf_4cfef_ab4_6 : Cond.code Lib.Math.min.name Lib.Math.min.code 2 (some .int) ∈ wsJ1_indexOf_4cfef := (List.mem_cons_of_mem _ (List.mem_of_getElem? (i := 6) rfl))
def fJ1_indexOf_4cfef_ab4 (x1 : Int32) (x2 : Int32) (x3 : Int32) : Option Int32 := ((fJ1_canEncode_9a6ad x1).bind fun r1 => (if r1 = 0 then (some (-1)) else (lt (if x2 < 0 then 0 else x2) fun v4 => (lt (if 6 < x3 then 6 else x3) fun v6 => (if v4 < v6 then ((fJ1_indexOfChar_4cfef_ab4 x1 v4 v6).bind fun r8 => (some r8)) else (some (-1)))))))
set_option maxHeartbeats 4000000 in
set_option maxRecDepth 100000 in
theorem wJ1_indexOf_4cfef_ab4 {p : Program} {l : Launch} {e : Env} {s : State} {m : MethodId} {args : Array Value} {below : List Frame} {meth : Method} {c : Code} {D : va_G} {cy : Nat → ClassId} {st : Nat → Nat} (C : Cx RJ1 cJ1_indexOf_4cfef 4 (some .int) wsJ1_indexOf_4cfef p s m args meth c) (hK : Ky D [(cy 0, .int), (cy 1, .long), (cy 2, .boolean), (cy 3, .byte), (cy 4, .object "HissHorn$Text")] st s) (x1 : Int32) (x2 : Int32) (x3 : Int32) {r : Int32} {H : Heap} {locs : List Loc} {ls : Array Slot} (h : fJ1_indexOf_4cfef_ab4 x1 x2 x3 = some r) (hP : va_P D vwCl (V0 u00) H) (hS : va_S (Ax (A0) s.heap.size) s.heap H locs) (hl : lv_has ls 4 [(0, .ref (st 14)), (1, .int x1), (2, .int x2), (3, .int x3)]) : W p l e rmJ1_indexOf_4cfef_ab4 s m args below meth c H locs 0 0 (MQ below (Qi D (V0) (A0) s.heap.size r u00) args s 0 0 (Ax (A0) s.heap.size)) (F0 m 0 ls []) := by
  unfold fJ1_indexOf_4cfef_ab4 at h
  refine lv_iload_n C.1 C.2.1 dJ1_indexOf_4cfef_0 rfl (lv_at hl 1 rfl) ?_
  obtain ⟨r1, hc3, h⟩ := bd_some h
  refine cs_i (As := [.int x1]) (rest := []) A0_ge C hK hP hS (metJ1_canEncode_9a6ad l D cy st _ x1 hc3) (va_cwS 1 C.2.2.2.2.2.1 gJ1_indexOf_4cfef_J1_canEncode_9a6ad rfl rfl rfl (by decide +kernel) ⟨(Nat.le_of_ble_eq_true rfl), (Nat.le_of_ble_eq_true rfl)⟩) rfl hl.1 rfl (Nat.le_of_ble_eq_true rfl) dJ1_indexOf_4cfef_1 ⟨Nat.zero_le _, Nat.zero_le _⟩ (fun H locs hP hS => ?_)
  refine lv_if_ne (tgt := 9) C.1 C.2.1 dJ1_indexOf_4cfef_4 (by decide) (fun c4 => ?_) (fun c4 => ?_)
  · rw [if_neg c4] at h
    refine lv_iload_n C.1 C.2.1 dJ1_indexOf_4cfef_9 rfl (lv_at hl 2 rfl) ?_
    refine lv_iconst (v := 0) C.1 C.2.1 dJ1_indexOf_4cfef_10 (by decide) ?_
    refine va_mmax C.1 C.2.1 (C.2.2.1.trans hl.1.symm) C.2.2.2.2.1 (C.2.2.2.2.2.1 _ mJ1_indexOf_4cfef_ab4_0) (C.2.2.2.2.2.1 _ mJ1_indexOf_4cfef_ab4_1) (C.2.2.2.2.2.1 _ mJ1_indexOf_4cfef_ab4_2) (C.2.2.2.2.2.1 _ mJ1_indexOf_4cfef_ab4_3) (Nat.le_of_ble_eq_true rfl) (Nat.le_of_ble_eq_true rfl) (Nat.zero_le _) (Nat.zero_le _) dJ1_indexOf_4cfef_11 ?_
    refine lv_topi (fun v4 hv5 => ?_)
    replace h := lt_e hv5 h
    try dsimp only at h
    refine lv_istore_n (lv' := [(2, .int v4), (0, .ref (st 14)), (1, .int x1), (3, .int x3)]) C.1 C.2.1 dJ1_indexOf_4cfef_14 rfl hl (by decide) rfl (fun ls hl => ?_)
    replace hl := lv_sub (l' := [(0, .ref (st 14)), (1, .int x1), (2, .int v4), (3, .int x3)]) hl [1, 2, 0, 3] rfl
    refine lv_iload_n C.1 C.2.1 dJ1_indexOf_4cfef_15 rfl (lv_at hl 3 rfl) ?_
    refine lv_aload_n C.1 C.2.1 dJ1_indexOf_4cfef_16 rfl (lv_at hl 0 rfl) ?_
    refine va_tlen (v := 6) C.1 C.2.1 (hK.2.2.2.2.2 4 (by decide)).2.2.2 (Zx_S hK.2.2.2 A0_ge hS) rfl dJ1_indexOf_4cfef_17 ?_
    refine va_mmin C.1 C.2.1 (C.2.2.1.trans hl.1.symm) C.2.2.2.2.1 (C.2.2.2.2.2.1 _ mJ1_indexOf_4cfef_ab4_4) (C.2.2.2.2.2.1 _ mJ1_indexOf_4cfef_ab4_5) (C.2.2.2.2.2.1 _ mJ1_indexOf_4cfef_ab4_2) (C.2.2.2.2.2.1 _ mJ1_indexOf_4cfef_ab4_6) (Nat.le_of_ble_eq_true rfl) (Nat.le_of_ble_eq_true rfl) (Nat.zero_le _) (Nat.zero_le _) dJ1_indexOf_4cfef_18 ?_
    refine lv_topi (fun v6 hv7 => ?_)
    replace h := lt_e hv7 h
    try dsimp only at h
    refine lv_istore_n (lv' := [(3, .int v6), (0, .ref (st 14)), (1, .int x1), (2, .int v4)]) C.1 C.2.1 dJ1_indexOf_4cfef_21 rfl hl (by decide) rfl (fun ls hl => ?_)
    replace hl := lv_sub (l' := [(0, .ref (st 14)), (1, .int x1), (2, .int v4), (3, .int v6)]) hl [1, 2, 3, 0] rfl
    refine lv_iload_n C.1 C.2.1 dJ1_indexOf_4cfef_22 rfl (lv_at hl 2 rfl) ?_
    refine lv_iload_n C.1 C.2.1 dJ1_indexOf_4cfef_23 rfl (lv_at hl 3 rfl) ?_
    refine lv_icmp_lt (tgt := 29) C.1 C.2.1 dJ1_indexOf_4cfef_24 (by decide) (fun c24 => ?_) (fun c24 => ?_)
    · rw [if_pos c24] at h
      refine lv_aload_n C.1 C.2.1 dJ1_indexOf_4cfef_29 rfl (lv_at hl 0 rfl) ?_
      refine lv_iload_n C.1 C.2.1 dJ1_indexOf_4cfef_30 rfl (lv_at hl 1 rfl) ?_
      refine lv_iload_n C.1 C.2.1 dJ1_indexOf_4cfef_31 rfl (lv_at hl 2 rfl) ?_
      refine lv_iload_n C.1 C.2.1 dJ1_indexOf_4cfef_32 rfl (lv_at hl 3 rfl) ?_
      obtain ⟨r8, hc10, h⟩ := bd_some h
      refine cs_i (As := [.ref (st 14), .int x1, .int v4, .int v6]) (rest := []) A0_ge C hK hP hS (metJ1_indexOfChar_4cfef_ab4 l D cy st _ x1 v4 v6 hc10) (va_cwS 4 C.2.2.2.2.2.1 gJ1_indexOf_4cfef_J1_indexOfChar_4cfef rfl rfl rfl (by decide +kernel) ⟨(Nat.le_of_ble_eq_true rfl), (Nat.le_of_ble_eq_true rfl)⟩) rfl hl.1 rfl (Nat.le_of_ble_eq_true rfl) dJ1_indexOf_4cfef_33 ⟨Nat.zero_le _, Nat.zero_le _⟩ (fun H locs hP hS => ?_)
      cases h
      exact rt_i C hP hS dJ1_indexOf_4cfef_36
    · rw [if_neg c24] at h
      refine lv_iconst (v := (-1)) C.1 C.2.1 dJ1_indexOf_4cfef_27 (by decide) ?_
      cases h
      exact rt_i C hP hS dJ1_indexOf_4cfef_28
  · rw [if_pos c4] at h
    refine lv_iconst (v := (-1)) C.1 C.2.1 dJ1_indexOf_4cfef_7 (by decide) ?_
    cases h
    exact rt_i C hP hS dJ1_indexOf_4cfef_8
theorem metJ1_indexOf_4cfef_ab4 (l : Launch) (D : va_G) (cy : Nat → ClassId) (st : Nat → Nat) (sz : Nat) (x1 : Int32) (x2 : Int32) (x3 : Int32) {r : Int32} (h : fJ1_indexOf_4cfef_ab4 x1 x2 x3 = some r) : Met l yJ1_indexOf_4cfef wsJ1_indexOf_4cfef rmJ1_indexOf_4cfef_ab4 (va_Pc [.ref (st 14), .int x1, .int x2, .int x3] (Px D [(cy 0, .int), (cy 1, .long), (cy 2, .boolean), (cy 3, .byte), (cy 4, .object "HissHorn$Text")] st V0 sz u00)) (Qi D V0 A0 sz r u00) 0 0 (Ax A0 sz) := by
  refine Met.ofW (cc := cJ1_indexOf_4cfef) (maxL := 4) (ret := (some .int)) (by decide) rfl ?_
  intro p e s m args below meth c s₁ B hml hv
  obtain ⟨rfl, hsz, hP, hK⟩ := hv
  subst hsz
  have C : Cx RJ1 cJ1_indexOf_4cfef 4 (some .int) wsJ1_indexOf_4cfef p s m _ meth c := ⟨B.exec, B.bytes, hml, B.returns, findClass_of_methodNamed B.named, atoms_spec (ws := wsJ1_indexOf_4cfef) B.pre, B.notSynchronized⟩
  have hl := lv_entry ([.ref (st 14), .int x1, .int x2, .int x3]) (n := 4) (Nat.le_of_ble_eq_true rfl)
  rw [lg_entry_eq]
  exact wJ1_indexOf_4cfef_ab4 C hK x1 x2 x3 h hP va_S.rf hl

/-- java/lang/String.indexOf(II)I of cell s4 -/
def rmJ0_indexOf_7cf53_s4 : Room := { frames := 2, cells := 0, slots := 0, locals := 48 }
theorem mJ0_indexOf_7cf53_s4_0 : Cond.fieldLink RJ0 9 "java/lang/String" "value" "[B" ∈ wsJ0_indexOf_7cf53 := (List.mem_cons_of_mem _ (List.mem_append_left _ (List.mem_of_getElem? (i := 0) rfl)))
def fJ0_indexOf_7cf53_s4 (x1 : Int32) (x2 : Int32) : Option Int32 := ((fJ0_isLatin1_aae02_s4 ).bind fun r1 => (if r1 = 0 then ((fJ0_length_8abf5_s4 ).bind fun r4 => none) else ((fJ0_length_8abf5_s4 ).bind fun r7 => ((fJ1_indexOf_4cfef_ab4 x1 x2 r7).bind fun r10 => (some r10)))))
set_option maxHeartbeats 4000000 in
set_option maxRecDepth 100000 in
theorem wJ0_indexOf_7cf53_s4 {p : Program} {l : Launch} {e : Env} {s : State} {m : MethodId} {args : Array Value} {below : List Frame} {meth : Method} {c : Code} {D : va_G} {cy : Nat → ClassId} {st : Nat → Nat} (C : Cx RJ0 cJ0_indexOf_7cf53 3 (some .int) wsJ0_indexOf_7cf53 p s m args meth c) (hK : Ky D [(cy 0, .int), (cy 1, .long), (cy 2, .boolean), (cy 3, .byte), (cy 4, .object "HissHorn$Text")] st s) (x1 : Int32) (x2 : Int32) {r : Int32} {H : Heap} {locs : List Loc} {ls : Array Slot} (h : fJ0_indexOf_7cf53_s4 x1 x2 = some r) (hP : va_P D vwCl (V0 u00) H) (hS : va_S (Ax (A0) s.heap.size) s.heap H locs) (hl : lv_has ls 3 [(0, .ref (st 4)), (1, .int x1), (2, .int x2)]) : W p l e rmJ0_indexOf_7cf53_s4 s m args below meth c H locs 0 0 (MQ below (Qi D (V0) (A0) s.heap.size r u00) args s 0 0 (Ax (A0) s.heap.size)) (F0 m 0 ls []) := by
  unfold fJ0_indexOf_7cf53_s4 at h
  refine lv_aload_n C.1 C.2.1 dJ0_indexOf_7cf53_0 rfl (lv_at hl 0 rfl) ?_
  obtain ⟨r1, hc3, h⟩ := bd_some h
  refine cz_i (kz := 4) (by decide) (As := []) (rest := []) A0_ge C hK hP hS (metJ0_isLatin1_aae02_s4 l D cy st _  hc3) (cwV 0 C.2.2.2.2.2.1 gJ0_indexOf_7cf53_J0_isLatin1_aae02 rfl rfl rfl (by decide +kernel) ⟨(Nat.le_of_ble_eq_true rfl), (Nat.le_of_ble_eq_true rfl)⟩) rfl hl.1 rfl (Nat.le_of_ble_eq_true rfl) dJ0_indexOf_7cf53_1 ⟨Nat.zero_le _, Nat.zero_le _⟩ (fun H locs hP hS => ?_)
  refine lv_if_eq (tgt := 23) C.1 C.2.1 dJ0_indexOf_7cf53_4 (by decide) (fun c4 => ?_) (fun c4 => ?_)
  · rw [if_pos c4] at h
    refine lv_aload_n C.1 C.2.1 dJ0_indexOf_7cf53_23 rfl (lv_at hl 0 rfl) ?_
    refine vk_getf C.1 C.2.1 (hK.2.2.2.2.2 4 (by decide)).2.2.1 (Zx_S hK.2.2.2 A0_ge hS) C.2.2.2.2.1 (C.2.2.2.2.2.1 _ mJ0_indexOf_7cf53_s4_0) (fun _ h => h) dJ0_indexOf_7cf53_24 ?_
    refine lv_iload_n C.1 C.2.1 dJ0_indexOf_7cf53_27 rfl (lv_at hl 1 rfl) ?_
    refine lv_iload_n C.1 C.2.1 dJ0_indexOf_7cf53_28 rfl (lv_at hl 2 rfl) ?_
    refine lv_aload_n C.1 C.2.1 dJ0_indexOf_7cf53_29 rfl (lv_at hl 0 rfl) ?_
    obtain ⟨r4, hc6, h⟩ := bd_some h
    refine cz_i (kz := 4) (by decide) (As := []) (rest := [.int x2, .int x1, .ref (st 14)]) A0_ge C hK hP hS (metJ0_length_8abf5_s4 l D cy st _  hc6) (cwV 0 C.2.2.2.2.2.1 gJ0_indexOf_7cf53_J0_length_8abf5 rfl rfl rfl (by decide +kernel) ⟨(Nat.le_of_ble_eq_true rfl), (Nat.le_of_ble_eq_true rfl)⟩) rfl hl.1 rfl (Nat.le_of_ble_eq_true rfl) dJ0_indexOf_7cf53_30 ⟨Nat.zero_le _, Nat.zero_le _⟩ (fun H locs hP hS => ?_)
    exact absurd h (by intro q; cases q)
  · rw [if_neg c4] at h
    refine lv_aload_n C.1 C.2.1 dJ0_indexOf_7cf53_7 rfl (lv_at hl 0 rfl) ?_
    refine vk_getf C.1 C.2.1 (hK.2.2.2.2.2 4 (by decide)).2.2.1 (Zx_S hK.2.2.2 A0_ge hS) C.2.2.2.2.1 (C.2.2.2.2.2.1 _ mJ0_indexOf_7cf53_s4_0) (fun _ h => h) dJ0_indexOf_7cf53_8 ?_
    refine lv_iload_n C.1 C.2.1 dJ0_indexOf_7cf53_11 rfl (lv_at hl 1 rfl) ?_
    refine lv_iload_n C.1 C.2.1 dJ0_indexOf_7cf53_12 rfl (lv_at hl 2 rfl) ?_
    refine lv_aload_n C.1 C.2.1 dJ0_indexOf_7cf53_13 rfl (lv_at hl 0 rfl) ?_
    obtain ⟨r7, hc9, h⟩ := bd_some h
    refine cz_i (kz := 4) (by decide) (As := []) (rest := [.int x2, .int x1, .ref (st 14)]) A0_ge C hK hP hS (metJ0_length_8abf5_s4 l D cy st _  hc9) (cwV 0 C.2.2.2.2.2.1 gJ0_indexOf_7cf53_J0_length_8abf5 rfl rfl rfl (by decide +kernel) ⟨(Nat.le_of_ble_eq_true rfl), (Nat.le_of_ble_eq_true rfl)⟩) rfl hl.1 rfl (Nat.le_of_ble_eq_true rfl) dJ0_indexOf_7cf53_14 ⟨Nat.zero_le _, Nat.zero_le _⟩ (fun H locs hP hS => ?_)
    obtain ⟨r10, hc12, h⟩ := bd_some h
    refine cs_i (As := [.ref (st 14), .int x1, .int x2, .int r7]) (rest := []) A0_ge C hK hP hS (metJ1_indexOf_4cfef_ab4 l D cy st _ x1 x2 r7 hc12) (va_cwS 4 C.2.2.2.2.2.1 gJ0_indexOf_7cf53_J1_indexOf_4cfef rfl rfl rfl (by decide +kernel) ⟨(Nat.le_of_ble_eq_true rfl), (Nat.le_of_ble_eq_true rfl)⟩) rfl hl.1 rfl (Nat.le_of_ble_eq_true rfl) dJ0_indexOf_7cf53_17 ⟨Nat.zero_le _, Nat.zero_le _⟩ (fun H locs hP hS => ?_)
    refine lv_goto (tgt := 36) C.1 C.2.1 dJ0_indexOf_7cf53_20 (by decide) ?_
    cases h
    exact rt_i C hP hS dJ0_indexOf_7cf53_36
theorem metJ0_indexOf_7cf53_s4 (l : Launch) (D : va_G) (cy : Nat → ClassId) (st : Nat → Nat) (sz : Nat) (x1 : Int32) (x2 : Int32) {r : Int32} (h : fJ0_indexOf_7cf53_s4 x1 x2 = some r) : Met l yJ0_indexOf_7cf53 wsJ0_indexOf_7cf53 rmJ0_indexOf_7cf53_s4 (va_Pc [.ref (st 4), .int x1, .int x2] (Px D [(cy 0, .int), (cy 1, .long), (cy 2, .boolean), (cy 3, .byte), (cy 4, .object "HissHorn$Text")] st V0 sz u00)) (Qi D V0 A0 sz r u00) 0 0 (Ax A0 sz) := by
  refine Met.ofW (cc := cJ0_indexOf_7cf53) (maxL := 3) (ret := (some .int)) (by decide) rfl ?_
  intro p e s m args below meth c s₁ B hml hv
  obtain ⟨rfl, hsz, hP, hK⟩ := hv
  subst hsz
  have C : Cx RJ0 cJ0_indexOf_7cf53 3 (some .int) wsJ0_indexOf_7cf53 p s m _ meth c := ⟨B.exec, B.bytes, hml, B.returns, findClass_of_methodNamed B.named, atoms_spec (ws := wsJ0_indexOf_7cf53) B.pre, B.notSynchronized⟩
  have hl := lv_entry ([.ref (st 4), .int x1, .int x2]) (n := 3) (Nat.le_of_ble_eq_true rfl)
  rw [lg_entry_eq]
  exact wJ0_indexOf_7cf53_s4 C hK x1 x2 h hP va_S.rf hl

/-- java/lang/String.indexOf(I)I of cell s4 -/
def rmJ0_indexOf_0f7a4_s4 : Room := { frames := 3, cells := 0, slots := 0, locals := 70 }
def fJ0_indexOf_0f7a4_s4 (x1 : Int32) : Option Int32 := ((fJ0_indexOf_7cf53_s4 x1 0).bind fun r1 => (some r1))
set_option maxHeartbeats 4000000 in
set_option maxRecDepth 100000 in
theorem wJ0_indexOf_0f7a4_s4 {p : Program} {l : Launch} {e : Env} {s : State} {m : MethodId} {args : Array Value} {below : List Frame} {meth : Method} {c : Code} {D : va_G} {cy : Nat → ClassId} {st : Nat → Nat} (C : Cx RJ0 cJ0_indexOf_0f7a4 2 (some .int) wsJ0_indexOf_0f7a4 p s m args meth c) (hK : Ky D [(cy 0, .int), (cy 1, .long), (cy 2, .boolean), (cy 3, .byte), (cy 4, .object "HissHorn$Text")] st s) (x1 : Int32) {r : Int32} {H : Heap} {locs : List Loc} {ls : Array Slot} (h : fJ0_indexOf_0f7a4_s4 x1 = some r) (hP : va_P D vwCl (V0 u00) H) (hS : va_S (Ax (A0) s.heap.size) s.heap H locs) (hl : lv_has ls 2 [(0, .ref (st 4)), (1, .int x1)]) : W p l e rmJ0_indexOf_0f7a4_s4 s m args below meth c H locs 0 0 (MQ below (Qi D (V0) (A0) s.heap.size r u00) args s 0 0 (Ax (A0) s.heap.size)) (F0 m 0 ls []) := by
  unfold fJ0_indexOf_0f7a4_s4 at h
  refine lv_aload_n C.1 C.2.1 dJ0_indexOf_0f7a4_0 rfl (lv_at hl 0 rfl) ?_
  refine lv_iload_n C.1 C.2.1 dJ0_indexOf_0f7a4_1 rfl (lv_at hl 1 rfl) ?_
  refine lv_iconst (v := 0) C.1 C.2.1 dJ0_indexOf_0f7a4_2 (by decide) ?_
  obtain ⟨r1, hc3, h⟩ := bd_some h
  refine cz_i (kz := 4) (by decide) (As := [.int x1, .int 0]) (rest := []) A0_ge C hK hP hS (metJ0_indexOf_7cf53_s4 l D cy st _ x1 0 hc3) (cwV 2 C.2.2.2.2.2.1 gJ0_indexOf_0f7a4_J0_indexOf_7cf53 rfl rfl rfl (by decide +kernel) ⟨(Nat.le_of_ble_eq_true rfl), (Nat.le_of_ble_eq_true rfl)⟩) rfl hl.1 rfl (Nat.le_of_ble_eq_true rfl) dJ0_indexOf_0f7a4_3 ⟨Nat.zero_le _, Nat.zero_le _⟩ (fun H locs hP hS => ?_)
  cases h
  exact rt_i C hP hS dJ0_indexOf_0f7a4_6
theorem metJ0_indexOf_0f7a4_s4 (l : Launch) (D : va_G) (cy : Nat → ClassId) (st : Nat → Nat) (sz : Nat) (x1 : Int32) {r : Int32} (h : fJ0_indexOf_0f7a4_s4 x1 = some r) : Met l yJ0_indexOf_0f7a4 wsJ0_indexOf_0f7a4 rmJ0_indexOf_0f7a4_s4 (va_Pc [.ref (st 4), .int x1] (Px D [(cy 0, .int), (cy 1, .long), (cy 2, .boolean), (cy 3, .byte), (cy 4, .object "HissHorn$Text")] st V0 sz u00)) (Qi D V0 A0 sz r u00) 0 0 (Ax A0 sz) := by
  refine Met.ofW (cc := cJ0_indexOf_0f7a4) (maxL := 2) (ret := (some .int)) (by decide) rfl ?_
  intro p e s m args below meth c s₁ B hml hv
  obtain ⟨rfl, hsz, hP, hK⟩ := hv
  subst hsz
  have C : Cx RJ0 cJ0_indexOf_0f7a4 2 (some .int) wsJ0_indexOf_0f7a4 p s m _ meth c := ⟨B.exec, B.bytes, hml, B.returns, findClass_of_methodNamed B.named, atoms_spec (ws := wsJ0_indexOf_0f7a4) B.pre, B.notSynchronized⟩
  have hl := lv_entry ([.ref (st 4), .int x1]) (n := 2) (Nat.le_of_ble_eq_true rfl)
  rw [lg_entry_eq]
  exact wJ0_indexOf_0f7a4_s4 C hK x1 h hP va_S.rf hl

/-- java/lang/String.isLatin1()Z of cell s5 -/
def rmJ0_isLatin1_aae02_s5 : Room := { frames := 0, cells := 0, slots := 0, locals := 0 }
theorem mJ0_isLatin1_aae02_s5_0 : Cond.fieldLink RJ0 38 "java/lang/String" "COMPACT_STRINGS" "Z" ∈ wsJ0_isLatin1_aae02 := (List.mem_cons_of_mem _ (List.mem_of_getElem? (i := 0) rfl))
theorem mJ0_isLatin1_aae02_s5_1 : Cond.fieldLink RJ0 15 "java/lang/String" "coder" "B" ∈ wsJ0_isLatin1_aae02 := (List.mem_cons_of_mem _ (List.mem_of_getElem? (i := 1) rfl))
def fJ0_isLatin1_aae02_s5  : Option Int32 := (gd (isB 1) (some 1))
set_option maxHeartbeats 4000000 in
set_option maxRecDepth 100000 in
theorem wJ0_isLatin1_aae02_s5 {p : Program} {l : Launch} {e : Env} {s : State} {m : MethodId} {args : Array Value} {below : List Frame} {meth : Method} {c : Code} {D : va_G} {cy : Nat → ClassId} {st : Nat → Nat} (C : Cx RJ0 cJ0_isLatin1_aae02 1 (some .boolean) wsJ0_isLatin1_aae02 p s m args meth c) (hK : Ky D [(cy 0, .int), (cy 1, .long), (cy 2, .boolean), (cy 3, .byte), (cy 4, .object "HissHorn$Text")] st s)  {r : Int32} {H : Heap} {locs : List Loc} {ls : Array Slot} (h : fJ0_isLatin1_aae02_s5  = some r) (hP : va_P D vwCl (V0 u00) H) (hS : va_S (Ax (A0) s.heap.size) s.heap H locs) (hl : lv_has ls 1 [(0, .ref (st 5))]) : W p l e rmJ0_isLatin1_aae02_s5 s m args below meth c H locs 0 0 (MQ below (Qi D (V0) (A0) s.heap.size r u00) args s 0 0 (Ax (A0) s.heap.size)) (F0 m 0 ls []) := by
  unfold fJ0_isLatin1_aae02_s5 at h
  refine va_gets C.1 C.2.1 hK.2.2.2.2.1 (Zx_S hK.2.2.2 A0_ge hS) C.2.2.2.2.1 (C.2.2.2.2.2.1 _ mJ0_isLatin1_aae02_s5_0) (fun _ h => h) dJ0_isLatin1_aae02_0 ?_
  refine lv_if_eq (tgt := 17) C.1 C.2.1 dJ0_isLatin1_aae02_3 (by decide) (fun c => absurd c (by decide)) (fun _ => ?_)
  refine lv_aload_n C.1 C.2.1 dJ0_isLatin1_aae02_6 rfl (lv_at hl 0 rfl) ?_
  refine vk_getf C.1 C.2.1 (hK.2.2.2.2.2 5 (by decide)).2.1 (Zx_S hK.2.2.2 A0_ge hS) C.2.2.2.2.1 (C.2.2.2.2.2.1 _ mJ0_isLatin1_aae02_s5_1) (fun _ h => h) dJ0_isLatin1_aae02_7 ?_
  refine lv_if_ne (tgt := 17) C.1 C.2.1 dJ0_isLatin1_aae02_10 (by decide) (fun c => absurd c (by decide)) (fun _ => ?_)
  refine lv_iconst (v := 1) C.1 C.2.1 dJ0_isLatin1_aae02_13 (by decide) ?_
  refine lv_goto (tgt := 18) C.1 C.2.1 dJ0_isLatin1_aae02_14 (by decide) ?_
  obtain ⟨hg1, h⟩ := gd_some h
  cases h
  exact rt_z hg1 C hP hS dJ0_isLatin1_aae02_18
theorem metJ0_isLatin1_aae02_s5 (l : Launch) (D : va_G) (cy : Nat → ClassId) (st : Nat → Nat) (sz : Nat)  {r : Int32} (h : fJ0_isLatin1_aae02_s5  = some r) : Met l yJ0_isLatin1_aae02 wsJ0_isLatin1_aae02 rmJ0_isLatin1_aae02_s5 (va_Pc [.ref (st 5)] (Px D [(cy 0, .int), (cy 1, .long), (cy 2, .boolean), (cy 3, .byte), (cy 4, .object "HissHorn$Text")] st V0 sz u00)) (Qi D V0 A0 sz r u00) 0 0 (Ax A0 sz) := by
  refine Met.ofW (cc := cJ0_isLatin1_aae02) (maxL := 1) (ret := (some .boolean)) (by decide) rfl ?_
  intro p e s m args below meth c s₁ B hml hv
  obtain ⟨rfl, hsz, hP, hK⟩ := hv
  subst hsz
  have C : Cx RJ0 cJ0_isLatin1_aae02 1 (some .boolean) wsJ0_isLatin1_aae02 p s m _ meth c := ⟨B.exec, B.bytes, hml, B.returns, findClass_of_methodNamed B.named, atoms_spec (ws := wsJ0_isLatin1_aae02) B.pre, B.notSynchronized⟩
  have hl := lv_entry ([.ref (st 5)]) (n := 1) (Nat.le_of_ble_eq_true rfl)
  rw [lg_entry_eq]
  exact wJ0_isLatin1_aae02_s5 C hK h hP va_S.rf hl

/-- java/lang/String.coder()B of cell s5 -/
def rmJ0_coder_7d493_s5 : Room := { frames := 0, cells := 0, slots := 0, locals := 0 }
theorem mJ0_coder_7d493_s5_0 : Cond.fieldLink RJ0 38 "java/lang/String" "COMPACT_STRINGS" "Z" ∈ wsJ0_coder_7d493 := (List.mem_cons_of_mem _ (List.mem_of_getElem? (i := 0) rfl))
theorem mJ0_coder_7d493_s5_1 : Cond.fieldLink RJ0 15 "java/lang/String" "coder" "B" ∈ wsJ0_coder_7d493 := (List.mem_cons_of_mem _ (List.mem_of_getElem? (i := 1) rfl))
def fJ0_coder_7d493_s5  : Option Int32 := (some 0)
set_option maxHeartbeats 4000000 in
set_option maxRecDepth 100000 in
theorem wJ0_coder_7d493_s5 {p : Program} {l : Launch} {e : Env} {s : State} {m : MethodId} {args : Array Value} {below : List Frame} {meth : Method} {c : Code} {D : va_G} {cy : Nat → ClassId} {st : Nat → Nat} (C : Cx RJ0 cJ0_coder_7d493 1 (some .byte) wsJ0_coder_7d493 p s m args meth c) (hK : Ky D [(cy 0, .int), (cy 1, .long), (cy 2, .boolean), (cy 3, .byte), (cy 4, .object "HissHorn$Text")] st s)  {r : Int32} {H : Heap} {locs : List Loc} {ls : Array Slot} (h : fJ0_coder_7d493_s5  = some r) (hP : va_P D vwCl (V0 u00) H) (hS : va_S (Ax (A0) s.heap.size) s.heap H locs) (hl : lv_has ls 1 [(0, .ref (st 5))]) : W p l e rmJ0_coder_7d493_s5 s m args below meth c H locs 0 0 (MQ below (Qi D (V0) (A0) s.heap.size r u00) args s 0 0 (Ax (A0) s.heap.size)) (F0 m 0 ls []) := by
  unfold fJ0_coder_7d493_s5 at h
  refine va_gets C.1 C.2.1 hK.2.2.2.2.1 (Zx_S hK.2.2.2 A0_ge hS) C.2.2.2.2.1 (C.2.2.2.2.2.1 _ mJ0_coder_7d493_s5_0) (fun _ h => h) dJ0_coder_7d493_0 ?_
  refine lv_if_eq (tgt := 13) C.1 C.2.1 dJ0_coder_7d493_3 (by decide) (fun c => absurd c (by decide)) (fun _ => ?_)
  refine lv_aload_n C.1 C.2.1 dJ0_coder_7d493_6 rfl (lv_at hl 0 rfl) ?_
  refine vk_getf C.1 C.2.1 (hK.2.2.2.2.2 5 (by decide)).2.1 (Zx_S hK.2.2.2 A0_ge hS) C.2.2.2.2.1 (C.2.2.2.2.2.1 _ mJ0_coder_7d493_s5_1) (fun _ h => h) dJ0_coder_7d493_7 ?_
  refine lv_goto (tgt := 14) C.1 C.2.1 dJ0_coder_7d493_10 (by decide) ?_
  cases h
  exact rt_b rfl C hP hS dJ0_coder_7d493_14
theorem metJ0_coder_7d493_s5 (l : Launch) (D : va_G) (cy : Nat → ClassId) (st : Nat → Nat) (sz : Nat)  {r : Int32} (h : fJ0_coder_7d493_s5  = some r) : Met l yJ0_coder_7d493 wsJ0_coder_7d493 rmJ0_coder_7d493_s5 (va_Pc [.ref (st 5)] (Px D [(cy 0, .int), (cy 1, .long), (cy 2, .boolean), (cy 3, .byte), (cy 4, .object "HissHorn$Text")] st V0 sz u00)) (Qi D V0 A0 sz r u00) 0 0 (Ax A0 sz) := by
  refine Met.ofW (cc := cJ0_coder_7d493) (maxL := 1) (ret := (some .byte)) (by decide) rfl ?_
  intro p e s m args below meth c s₁ B hml hv
  obtain ⟨rfl, hsz, hP, hK⟩ := hv
  subst hsz
  have C : Cx RJ0 cJ0_coder_7d493 1 (some .byte) wsJ0_coder_7d493 p s m _ meth c := ⟨B.exec, B.bytes, hml, B.returns, findClass_of_methodNamed B.named, atoms_spec (ws := wsJ0_coder_7d493) B.pre, B.notSynchronized⟩
  have hl := lv_entry ([.ref (st 5)]) (n := 1) (Nat.le_of_ble_eq_true rfl)
  rw [lg_entry_eq]
  exact wJ0_coder_7d493_s5 C hK h hP va_S.rf hl

/-- java/lang/String.length()I of cell s5 -/
def rmJ0_length_8abf5_s5 : Room := { frames := 1, cells := 0, slots := 0, locals := 20 }
theorem mJ0_length_8abf5_s5_0 : Cond.fieldLink RJ0 9 "java/lang/String" "value" "[B" ∈ wsJ0_length_8abf5 := (List.mem_cons_of_mem _ (List.mem_of_getElem? (i := 0) rfl))
def fJ0_length_8abf5_s5  : Option Int32 := ((fJ0_coder_7d493_s5 ).bind fun r1 => (some (2 >>> (r1 &&& 31))))
set_option maxHeartbeats 4000000 in
set_option maxRecDepth 100000 in
theorem wJ0_length_8abf5_s5 {p : Program} {l : Launch} {e : Env} {s : State} {m : MethodId} {args : Array Value} {below : List Frame} {meth : Method} {c : Code} {D : va_G} {cy : Nat → ClassId} {st : Nat → Nat} (C : Cx RJ0 cJ0_length_8abf5 1 (some .int) wsJ0_length_8abf5 p s m args meth c) (hK : Ky D [(cy 0, .int), (cy 1, .long), (cy 2, .boolean), (cy 3, .byte), (cy 4, .object "HissHorn$Text")] st s)  {r : Int32} {H : Heap} {locs : List Loc} {ls : Array Slot} (h : fJ0_length_8abf5_s5  = some r) (hP : va_P D vwCl (V0 u00) H) (hS : va_S (Ax (A0) s.heap.size) s.heap H locs) (hl : lv_has ls 1 [(0, .ref (st 5))]) : W p l e rmJ0_length_8abf5_s5 s m args below meth c H locs 0 0 (MQ below (Qi D (V0) (A0) s.heap.size r u00) args s 0 0 (Ax (A0) s.heap.size)) (F0 m 0 ls []) := by
  unfold fJ0_length_8abf5_s5 at h
  refine lv_aload_n C.1 C.2.1 dJ0_length_8abf5_0 rfl (lv_at hl 0 rfl) ?_
  refine vk_getf C.1 C.2.1 (hK.2.2.2.2.2 5 (by decide)).2.2.1 (Zx_S hK.2.2.2 A0_ge hS) C.2.2.2.2.1 (C.2.2.2.2.2.1 _ mJ0_length_8abf5_s5_0) (fun _ h => h) dJ0_length_8abf5_1 ?_
  refine va_tlen (v := 2) C.1 C.2.1 (hK.2.2.2.2.2 5 (by decide)).2.2.2 (Zx_S hK.2.2.2 A0_ge hS) rfl dJ0_length_8abf5_4 ?_
  refine lv_aload_n C.1 C.2.1 dJ0_length_8abf5_5 rfl (lv_at hl 0 rfl) ?_
  obtain ⟨r1, hc3, h⟩ := bd_some h
  refine cz_i (kz := 5) (by decide) (As := []) (rest := [.int 2]) A0_ge C hK hP hS (metJ0_coder_7d493_s5 l D cy st _  hc3) (cwV 0 C.2.2.2.2.2.1 gJ0_length_8abf5_J0_coder_7d493 rfl rfl rfl (by decide +kernel) ⟨(Nat.le_of_ble_eq_true rfl), (Nat.le_of_ble_eq_true rfl)⟩) rfl hl.1 rfl (Nat.le_of_ble_eq_true rfl) dJ0_length_8abf5_6 ⟨Nat.zero_le _, Nat.zero_le _⟩ (fun H locs hP hS => ?_)
  refine lv_ishr C.1 C.2.1 dJ0_length_8abf5_9 ?_
  cases h
  exact rt_i C hP hS dJ0_length_8abf5_10
theorem metJ0_length_8abf5_s5 (l : Launch) (D : va_G) (cy : Nat → ClassId) (st : Nat → Nat) (sz : Nat)  {r : Int32} (h : fJ0_length_8abf5_s5  = some r) : Met l yJ0_length_8abf5 wsJ0_length_8abf5 rmJ0_length_8abf5_s5 (va_Pc [.ref (st 5)] (Px D [(cy 0, .int), (cy 1, .long), (cy 2, .boolean), (cy 3, .byte), (cy 4, .object "HissHorn$Text")] st V0 sz u00)) (Qi D V0 A0 sz r u00) 0 0 (Ax A0 sz) := by
  refine Met.ofW (cc := cJ0_length_8abf5) (maxL := 1) (ret := (some .int)) (by decide) rfl ?_
  intro p e s m args below meth c s₁ B hml hv
  obtain ⟨rfl, hsz, hP, hK⟩ := hv
  subst hsz
  have C : Cx RJ0 cJ0_length_8abf5 1 (some .int) wsJ0_length_8abf5 p s m _ meth c := ⟨B.exec, B.bytes, hml, B.returns, findClass_of_methodNamed B.named, atoms_spec (ws := wsJ0_length_8abf5) B.pre, B.notSynchronized⟩
  have hl := lv_entry ([.ref (st 5)]) (n := 1) (Nat.le_of_ble_eq_true rfl)
  rw [lg_entry_eq]
  exact wJ0_length_8abf5_s5 C hK h hP va_S.rf hl

/-- java/lang/StringLatin1.indexOfChar([BIII)I -/
def rmJ1_indexOfChar_4cfef_ab5 : Room := { frames := 0, cells := 0, slots := 0, locals := 0 }
def LJ1_indexOfChar_4cfef_ab5_7  : Nat → Int32 → Int32 → Int32 → Option Int32
  | 0, _, _, _ => none
  | n + 1, z3, z4, z5 => (if z3 ≤ z5 then (some (-1)) else (gd (inb z5 2) (if (zB 5 z5.toNatClampNeg) = z4 then (some z5) else ((LJ1_indexOfChar_4cfef_ab5_7 n) z3 z4 (z5 + 1)))))
def fJ1_indexOfChar_4cfef_ab5 (x1 : Int32) (x2 : Int32) (x3 : Int32) : Option Int32 := (lt (x1.toInt8.toInt32) fun v1 => (LJ1_indexOfChar_4cfef_ab5_7  5000 x3 v1 x2))
set_option maxHeartbeats 4000000 in
set_option maxRecDepth 100000 in
theorem wLJ1_indexOfChar_4cfef_ab5_7 {p : Program} {l : Launch} {e : Env} {s : State} {m : MethodId} {args : Array Value} {below : List Frame} {meth : Method} {c : Code} {D : va_G} {cy : Nat → ClassId} {st : Nat → Nat} (C : Cx RJ1 cJ1_indexOfChar_4cfef 6 (some .int) wsJ1_indexOfChar_4cfef p s m args meth c) (hK : Ky D [(cy 0, .int), (cy 1, .long), (cy 2, .boolean), (cy 3, .byte), (cy 4, .object "HissHorn$Text")] st s) {r : Int32}   : ∀ (n : Nat) (z3 : Int32) (z4 : Int32) (z5 : Int32) (H : Heap) (locs : List Loc) (ls : Array Slot), LJ1_indexOfChar_4cfef_ab5_7  n z3 z4 z5 = some r → va_P D vwCl (V0 u00) H → va_S (Ax (A0) s.heap.size) s.heap H locs → lv_has ls 6 [(0, .ref (st 15)), (3, .int z3), (4, .int z4), (5, .int z5)] → W p l e rmJ1_indexOfChar_4cfef_ab5 s m args below meth c H locs 0 0 (MQ below (Qi D (V0) (A0) s.heap.size r u00) args s 0 0 (Ax (A0) s.heap.size)) (F0 m 7 ls []) := by
  intro n
  induction n with
  | zero =>
    intro z3 z4 z5 H locs ls h
    exact absurd h (by intro q; cases q)
  | succ n ih =>
    intro z3 z4 z5 H locs ls h hP hS hl
    rw [LJ1_indexOfChar_4cfef_ab5_7] at h
    refine lv_iload C.1 C.2.1 dJ1_indexOfChar_4cfef_7 (lv_at hl 3 rfl) ?_
    refine lv_iload_n C.1 C.2.1 dJ1_indexOfChar_4cfef_9 rfl (lv_at hl 1 rfl) ?_
    refine lv_icmp_ge (tgt := 31) C.1 C.2.1 dJ1_indexOfChar_4cfef_10 (by decide) (fun c10 => ?_) (fun c10 => ?_)
    · rw [if_pos c10] at h
      refine lv_iconst (v := (-1)) C.1 C.2.1 dJ1_indexOfChar_4cfef_31 (by decide) ?_
      cases h
      exact rt_i C hP hS dJ1_indexOfChar_4cfef_32
    · rw [if_neg c10] at h
      refine lv_aload_n C.1 C.2.1 dJ1_indexOfChar_4cfef_13 rfl (lv_at hl 0 rfl) ?_
      refine lv_iload C.1 C.2.1 dJ1_indexOfChar_4cfef_14 (lv_at hl 3 rfl) ?_
      obtain ⟨hg3, h⟩ := gd_some h
      refine va_tb (v := .int (zB 5 z5.toNatClampNeg)) C.1 C.2.1 (hK.2.2.2.2.2 5 (by decide)).2.2.2 (Zx_S hK.2.2.2 A0_ge hS) (inb_in hg3) rfl dJ1_indexOfChar_4cfef_16 ?_
      refine lv_iload C.1 C.2.1 dJ1_indexOfChar_4cfef_17 (lv_at hl 2 rfl) ?_
      refine lv_icmp_ne (tgt := 25) C.1 C.2.1 dJ1_indexOfChar_4cfef_19 (by decide) (fun c19 => ?_) (fun c19 => ?_)
      · rw [if_neg c19] at h
        refine lv_iinc (v := z5 + 1) (lv' := [(5, .int (z5 + 1)), (0, .ref (st 15)), (3, .int z3), (4, .int z4)]) C.1 C.2.1 dJ1_indexOfChar_4cfef_25 hl (k := 3) rfl rfl (by decide) rfl (fun ls hl => ?_)
        replace hl := lv_sub (l' := [(0, .ref (st 15)), (3, .int z3), (4, .int z4), (5, .int (z5 + 1))]) hl [1, 2, 3, 0] rfl
        refine lv_goto (tgt := 7) C.1 C.2.1 dJ1_indexOfChar_4cfef_28 (by decide) ?_
        exact ih _ _ _ _ _ _ h hP hS hl
      · rw [if_pos c19] at h
        refine lv_iload C.1 C.2.1 dJ1_indexOfChar_4cfef_22 (lv_at hl 3 rfl) ?_
        cases h
        exact rt_i C hP hS dJ1_indexOfChar_4cfef_24
set_option maxHeartbeats 4000000 in
set_option maxRecDepth 100000 in
theorem wJ1_indexOfChar_4cfef_ab5 {p : Program} {l : Launch} {e : Env} {s : State} {m : MethodId} {args : Array Value} {below : List Frame} {meth : Method} {c : Code} {D : va_G} {cy : Nat → ClassId} {st : Nat → Nat} (C : Cx RJ1 cJ1_indexOfChar_4cfef 6 (some .int) wsJ1_indexOfChar_4cfef p s m args meth c) (hK : Ky D [(cy 0, .int), (cy 1, .long), (cy 2, .boolean), (cy 3, .byte), (cy 4, .object "HissHorn$Text")] st s) (x1 : Int32) (x2 : Int32) (x3 : Int32) {r : Int32} {H : Heap} {locs : List Loc} {ls : Array Slot} (h : fJ1_indexOfChar_4cfef_ab5 x1 x2 x3 = some r) (hP : va_P D vwCl (V0 u00) H) (hS : va_S (Ax (A0) s.heap.size) s.heap H locs) (hl : lv_has ls 6 [(0, .ref (st 15)), (1, .int x1), (2, .int x2), (3, .int x3)]) : W p l e rmJ1_indexOfChar_4cfef_ab5 s m args below meth c H locs 0 0 (MQ below (Qi D (V0) (A0) s.heap.size r u00) args s 0 0 (Ax (A0) s.heap.size)) (F0 m 0 ls []) := by
  unfold fJ1_indexOfChar_4cfef_ab5 at h
  refine lv_iload_n C.1 C.2.1 dJ1_indexOfChar_4cfef_0 rfl (lv_at hl 1 rfl) ?_
  refine lv_i2b (v := x1.toInt8.toInt32) C.1 C.2.1 dJ1_indexOfChar_4cfef_1 rfl ?_
  refine lv_topi (fun v1 hv2 => ?_)
  replace h := lt_e hv2 h
  try dsimp only at h
  refine lv_istore (lv' := [(4, .int v1), (0, .ref (st 15)), (1, .int x1), (2, .int x2), (3, .int x3)]) C.1 C.2.1 dJ1_indexOfChar_4cfef_2 hl (by decide) rfl (fun ls hl => ?_)
  replace hl := lv_sub (l' := [(0, .ref (st 15)), (1, .int x1), (2, .int x2), (3, .int x3), (4, .int v1)]) hl [1, 2, 3, 4, 0] rfl
  refine lv_iload_n C.1 C.2.1 dJ1_indexOfChar_4cfef_4 rfl (lv_at hl 2 rfl) ?_
  refine lv_istore (lv' := [(5, .int x2), (0, .ref (st 15)), (1, .int x1), (2, .int x2), (3, .int x3), (4, .int v1)]) C.1 C.2.1 dJ1_indexOfChar_4cfef_5 hl (by decide) rfl (fun ls hl => ?_)
  replace hl := lv_sub (l' := [(0, .ref (st 15)), (1, .int x1), (2, .int x2), (3, .int x3), (4, .int v1), (5, .int x2)]) hl [1, 2, 3, 4, 5, 0] rfl
  exact wLJ1_indexOfChar_4cfef_ab5_7 C hK  5000 _ _ _ _ _ _ h hP hS (lv_sub hl [0, 3, 4, 5] rfl)
theorem metJ1_indexOfChar_4cfef_ab5 (l : Launch) (D : va_G) (cy : Nat → ClassId) (st : Nat → Nat) (sz : Nat) (x1 : Int32) (x2 : Int32) (x3 : Int32) {r : Int32} (h : fJ1_indexOfChar_4cfef_ab5 x1 x2 x3 = some r) : Met l yJ1_indexOfChar_4cfef wsJ1_indexOfChar_4cfef rmJ1_indexOfChar_4cfef_ab5 (va_Pc [.ref (st 15), .int x1, .int x2, .int x3] (Px D [(cy 0, .int), (cy 1, .long), (cy 2, .boolean), (cy 3, .byte), (cy 4, .object "HissHorn$Text")] st V0 sz u00)) (Qi D V0 A0 sz r u00) 0 0 (Ax A0 sz) := by
  refine Met.ofW (cc := cJ1_indexOfChar_4cfef) (maxL := 6) (ret := (some .int)) (by decide) rfl ?_
  intro p e s m args below meth c s₁ B hml hv
  obtain ⟨rfl, hsz, hP, hK⟩ := hv
  subst hsz
  have C : Cx RJ1 cJ1_indexOfChar_4cfef 6 (some .int) wsJ1_indexOfChar_4cfef p s m _ meth c := ⟨B.exec, B.bytes, hml, B.returns, findClass_of_methodNamed B.named, atoms_spec (ws := wsJ1_indexOfChar_4cfef) B.pre, B.notSynchronized⟩
  have hl := lv_entry ([.ref (st 15), .int x1, .int x2, .int x3]) (n := 6) (Nat.le_of_ble_eq_true rfl)
  rw [lg_entry_eq]
  exact wJ1_indexOfChar_4cfef_ab5 C hK x1 x2 x3 h hP va_S.rf hl

/-- java/lang/StringLatin1.indexOf([BIII)I -/
def rmJ1_indexOf_4cfef_ab5 : Room := { frames := 1, cells := 0, slots := 0, locals := 25 }
theorem mJ1_indexOf_4cfef_ab5_0 : Cond.methodLink RJ1 92 Lib.Math.max.name ∈ wsJ1_indexOf_4cfef := (List.mem_cons_of_mem _ (List.mem_of_getElem? (i := 0) rfl))
theorem mJ1_indexOf_4cfef_ab5_1 : Cond.static Lib.Math.max.name ∈ wsJ1_indexOf_4cfef := (List.mem_cons_of_mem _ (List.mem_of_getElem? (i := 1) rfl))
theorem mJ1_indexOf_4cfef_ab5_2 : Cond.initialized "java/lang/Math" ∈ wsJ1_indexOf_4cfef := (List.mem_cons_of_mem _ (List.mem_of_getElem? (i := 2) rfl))
theorem mJ1_indexOf_4cfef_ab5_3 : Cond.code Lib.Math.max.name Lib.Math.max.code 2 (some .int) ∈ wsJ1_indexOf_4cfef := (List.mem_cons_of_mem _ (List.mem_of_getElem? (i := 3) rfl))
theorem mJ1_indexOf_4cfef_ab5_4 : Cond.methodLink RJ1 38 Lib.Math.min.name ∈ wsJ1_indexOf_4cfef := (List.mem_cons_of_mem _ (List.mem_of_getElem? (i := 4) rfl))
theorem mJ1_indexOf_4cfef_ab5_5 : Cond.static Lib.Math.min.name ∈ wsJ1_indexOf_4cfef := (List.mem_cons_of_mem _ (List.mem_of_getElem? (i := 5) rfl))
theorem mJ1_indexOf_4cfef_ab5_6 : Cond.code Lib.Math.min.name Lib.Math.min.code 2 (some .int) ∈ wsJ1_indexOf_4cfef := (List.mem_cons_of_mem _ (List.mem_of_getElem? (i := 6) rfl))
def fJ1_indexOf_4cfef_ab5 (x1 : Int32) (x2 : Int32) (x3 : Int32) : Option Int32 := ((fJ1_canEncode_9a6ad x1).bind fun r1 => (if r1 = 0 then (some (-1)) else (lt (if x2 < 0 then 0 else x2) fun v4 => (lt (if 2 < x3 then 2 else x3) fun v6 => (if v4 < v6 then ((fJ1_indexOfChar_4cfef_ab5 x1 v4 v6).bind fun r8 => (some r8)) else (some (-1)))))))
set_option maxHeartbeats 4000000 in
set_option maxRecDepth 100000 in
theorem wJ1_indexOf_4cfef_ab5 {p : Program} {l : Launch} {e : Env} {s : State} {m : MethodId} {args : Array Value} {below : List Frame} {meth : Method} {c : Code} {D : va_G} {cy : Nat → ClassId} {st : Nat → Nat} (C : Cx RJ1 cJ1_indexOf_4cfef 4 (some .int) wsJ1_indexOf_4cfef p s m args meth c) (hK : Ky D [(cy 0, .int), (cy 1, .long), (cy 2, .boolean), (cy 3, .byte), (cy 4, .object "HissHorn$Text")] st s) (x1 : Int32) (x2 : Int32) (x3 : Int32) {r : Int32} {H : Heap} {locs : List Loc} {ls : Array Slot} (h : fJ1_indexOf_4cfef_ab5 x1 x2 x3 = some r) (hP : va_P D vwCl (V0 u00) H) (hS : va_S (Ax (A0) s.heap.size) s.heap H locs) (hl : lv_has ls 4 [(0, .ref (st 15)), (1, .int x1), (2, .int x2), (3, .int x3)]) : W p l e rmJ1_indexOf_4cfef_ab5 s m args below meth c H locs 0 0 (MQ below (Qi D (V0) (A0) s.heap.size r u00) args s 0 0 (Ax (A0) s.heap.size)) (F0 m 0 ls []) := by
  unfold fJ1_indexOf_4cfef_ab5 at h
  refine lv_iload_n C.1 C.2.1 dJ1_indexOf_4cfef_0 rfl (lv_at hl 1 rfl) ?_
  obtain ⟨r1, hc3, h⟩ := bd_some h
  refine cs_i (As := [.int x1]) (rest := []) A0_ge C hK hP hS (metJ1_canEncode_9a6ad l D cy st _ x1 hc3) (va_cwS 1 C.2.2.2.2.2.1 gJ1_indexOf_4cfef_J1_canEncode_9a6ad rfl rfl rfl (by decide +kernel) ⟨(Nat.le_of_ble_eq_true rfl), (Nat.le_of_ble_eq_true rfl)⟩) rfl hl.1 rfl (Nat.le_of_ble_eq_true rfl) dJ1_indexOf_4cfef_1 ⟨Nat.zero_le _, Nat.zero_le _⟩ (fun H locs hP hS => ?_)
  refine lv_if_ne (tgt := 9) C.1 C.2.1 dJ1_indexOf_4cfef_4 (by decide) (fun c4 => ?_) (fun c4 => ?_)
  · rw [if_neg c4] at h
    refine lv_iload_n C.1 C.2.1 dJ1_indexOf_4cfef_9 rfl (lv_at hl 2 rfl) ?_
    refine lv_iconst (v := 0) C.1 C.2.1 dJ1_indexOf_4cfef_10 (by decide) ?_
    refine va_mmax C.1 C.2.1 (C.2.2.1.trans hl.1.symm) C.2.2.2.2.1 (C.2.2.2.2.2.1 _ mJ1_indexOf_4cfef_ab5_0) (C.2.2.2.2.2.1 _ mJ1_indexOf_4cfef_ab5_1) (C.2.2.2.2.2.1 _ mJ1_indexOf_4cfef_ab5_2) (C.2.2.2.2.2.1 _ mJ1_indexOf_4cfef_ab5_3) (Nat.le_of_ble_eq_true rfl) (Nat.le_of_ble_eq_true rfl) (Nat.zero_le _) (Nat.zero_le _) dJ1_indexOf_4cfef_11 ?_
    refine lv_topi (fun v4 hv5 => ?_)
    replace h := lt_e hv5 h
    try dsimp only at h
    refine lv_istore_n (lv' := [(2, .int v4), (0, .ref (st 15)), (1, .int x1), (3, .int x3)]) C.1 C.2.1 dJ1_indexOf_4cfef_14 rfl hl (by decide) rfl (fun ls hl => ?_)
    replace hl := lv_sub (l' := [(0, .ref (st 15)), (1, .int x1), (2, .int v4), (3, .int x3)]) hl [1, 2, 0, 3] rfl
    refine lv_iload_n C.1 C.2.1 dJ1_indexOf_4cfef_15 rfl (lv_at hl 3 rfl) ?_
    refine lv_aload_n C.1 C.2.1 dJ1_indexOf_4cfef_16 rfl (lv_at hl 0 rfl) ?_
    refine va_tlen (v := 2) C.1 C.2.1 (hK.2.2.2.2.2 5 (by decide)).2.2.2 (Zx_S hK.2.2.2 A0_ge hS) rfl dJ1_indexOf_4cfef_17 ?_
    refine va_mmin C.1 C.2.1 (C.2.2.1.trans hl.1.symm) C.2.2.2.2.1 (C.2.2.2.2.2.1 _ mJ1_indexOf_4cfef_ab5_4) (C.2.2.2.2.2.1 _ mJ1_indexOf_4cfef_ab5_5) (C.2.2.2.2.2.1 _ mJ1_indexOf_4cfef_ab5_2) (C.2.2.2.2.2.1 _ mJ1_indexOf_4cfef_ab5_6) (Nat.le_of_ble_eq_true rfl) (Nat.le_of_ble_eq_true rfl) (Nat.zero_le _) (Nat.zero_le _) dJ1_indexOf_4cfef_18 ?_
    refine lv_topi (fun v6 hv7 => ?_)
    replace h := lt_e hv7 h
    try dsimp only at h
    refine lv_istore_n (lv' := [(3, .int v6), (0, .ref (st 15)), (1, .int x1), (2, .int v4)]) C.1 C.2.1 dJ1_indexOf_4cfef_21 rfl hl (by decide) rfl (fun ls hl => ?_)
    replace hl := lv_sub (l' := [(0, .ref (st 15)), (1, .int x1), (2, .int v4), (3, .int v6)]) hl [1, 2, 3, 0] rfl
    refine lv_iload_n C.1 C.2.1 dJ1_indexOf_4cfef_22 rfl (lv_at hl 2 rfl) ?_
    refine lv_iload_n C.1 C.2.1 dJ1_indexOf_4cfef_23 rfl (lv_at hl 3 rfl) ?_
    refine lv_icmp_lt (tgt := 29) C.1 C.2.1 dJ1_indexOf_4cfef_24 (by decide) (fun c24 => ?_) (fun c24 => ?_)
    · rw [if_pos c24] at h
      refine lv_aload_n C.1 C.2.1 dJ1_indexOf_4cfef_29 rfl (lv_at hl 0 rfl) ?_
      refine lv_iload_n C.1 C.2.1 dJ1_indexOf_4cfef_30 rfl (lv_at hl 1 rfl) ?_
      refine lv_iload_n C.1 C.2.1 dJ1_indexOf_4cfef_31 rfl (lv_at hl 2 rfl) ?_
      refine lv_iload_n C.1 C.2.1 dJ1_indexOf_4cfef_32 rfl (lv_at hl 3 rfl) ?_
      obtain ⟨r8, hc10, h⟩ := bd_some h
      refine cs_i (As := [.ref (st 15), .int x1, .int v4, .int v6]) (rest := []) A0_ge C hK hP hS (metJ1_indexOfChar_4cfef_ab5 l D cy st _ x1 v4 v6 hc10) (va_cwS 4 C.2.2.2.2.2.1 gJ1_indexOf_4cfef_J1_indexOfChar_4cfef rfl rfl rfl (by decide +kernel) ⟨(Nat.le_of_ble_eq_true rfl), (Nat.le_of_ble_eq_true rfl)⟩) rfl hl.1 rfl (Nat.le_of_ble_eq_true rfl) dJ1_indexOf_4cfef_33 ⟨Nat.zero_le _, Nat.zero_le _⟩ (fun H locs hP hS => ?_)
      cases h
      exact rt_i C hP hS dJ1_indexOf_4cfef_36
    · rw [if_neg c24] at h
      refine lv_iconst (v := (-1)) C.1 C.2.1 dJ1_indexOf_4cfef_27 (by decide) ?_
      cases h
      exact rt_i C hP hS dJ1_indexOf_4cfef_28
  · rw [if_pos c4] at h
    refine lv_iconst (v := (-1)) C.1 C.2.1 dJ1_indexOf_4cfef_7 (by decide) ?_
    cases h
    exact rt_i C hP hS dJ1_indexOf_4cfef_8
theorem metJ1_indexOf_4cfef_ab5 (l : Launch) (D : va_G) (cy : Nat → ClassId) (st : Nat → Nat) (sz : Nat) (x1 : Int32) (x2 : Int32) (x3 : Int32) {r : Int32} (h : fJ1_indexOf_4cfef_ab5 x1 x2 x3 = some r) : Met l yJ1_indexOf_4cfef wsJ1_indexOf_4cfef rmJ1_indexOf_4cfef_ab5 (va_Pc [.ref (st 15), .int x1, .int x2, .int x3] (Px D [(cy 0, .int), (cy 1, .long), (cy 2, .boolean), (cy 3, .byte), (cy 4, .object "HissHorn$Text")] st V0 sz u00)) (Qi D V0 A0 sz r u00) 0 0 (Ax A0 sz) := by
  refine Met.ofW (cc := cJ1_indexOf_4cfef) (maxL := 4) (ret := (some .int)) (by decide) rfl ?_
  intro p e s m args below meth c s₁ B hml hv
  obtain ⟨rfl, hsz, hP, hK⟩ := hv
  subst hsz
  have C : Cx RJ1 cJ1_indexOf_4cfef 4 (some .int) wsJ1_indexOf_4cfef p s m _ meth c := ⟨B.exec, B.bytes, hml, B.returns, findClass_of_methodNamed B.named, atoms_spec (ws := wsJ1_indexOf_4cfef) B.pre, B.notSynchronized⟩
  have hl := lv_entry ([.ref (st 15), .int x1, .int x2, .int x3]) (n := 4) (Nat.le_of_ble_eq_true rfl)
  rw [lg_entry_eq]
  exact wJ1_indexOf_4cfef_ab5 C hK x1 x2 x3 h hP va_S.rf hl

/-- java/lang/String.indexOf(II)I of cell s5 -/
def rmJ0_indexOf_7cf53_s5 : Room := { frames := 2, cells := 0, slots := 0, locals := 48 }
theorem mJ0_indexOf_7cf53_s5_0 : Cond.fieldLink RJ0 9 "java/lang/String" "value" "[B" ∈ wsJ0_indexOf_7cf53 := (List.mem_cons_of_mem _ (List.mem_append_left _ (List.mem_of_getElem? (i := 0) rfl)))
def fJ0_indexOf_7cf53_s5 (x1 : Int32) (x2 : Int32) : Option Int32 := ((fJ0_isLatin1_aae02_s5 ).bind fun r1 => (if r1 = 0 then ((fJ0_length_8abf5_s5 ).bind fun r4 => none) else ((fJ0_length_8abf5_s5 ).bind fun r7 => ((fJ1_indexOf_4cfef_ab5 x1 x2 r7).bind fun r10 => (some r10)))))
set_option maxHeartbeats 4000000 in
set_option maxRecDepth 100000 in
theorem wJ0_indexOf_7cf53_s5 {p : Program} {l : Launch} {e : Env} {s : State} {m : MethodId} {args : Array Value} {below : List Frame} {meth : Method} {c : Code} {D : va_G} {cy : Nat → ClassId} {st : Nat → Nat} (C : Cx RJ0 cJ0_indexOf_7cf53 3 (some .int) wsJ0_indexOf_7cf53 p s m args meth c) (hK : Ky D [(cy 0, .int), (cy 1, .long), (cy 2, .boolean), (cy 3, .byte), (cy 4, .object "HissHorn$Text")] st s) (x1 : Int32) (x2 : Int32) {r : Int32} {H : Heap} {locs : List Loc} {ls : Array Slot} (h : fJ0_indexOf_7cf53_s5 x1 x2 = some r) (hP : va_P D vwCl (V0 u00) H) (hS : va_S (Ax (A0) s.heap.size) s.heap H locs) (hl : lv_has ls 3 [(0, .ref (st 5)), (1, .int x1), (2, .int x2)]) : W p l e rmJ0_indexOf_7cf53_s5 s m args below meth c H locs 0 0 (MQ below (Qi D (V0) (A0) s.heap.size r u00) args s 0 0 (Ax (A0) s.heap.size)) (F0 m 0 ls []) := by
  unfold fJ0_indexOf_7cf53_s5 at h
  refine lv_aload_n C.1 C.2.1 dJ0_indexOf_7cf53_0 rfl (lv_at hl 0 rfl) ?_
  obtain ⟨r1, hc3, h⟩ := bd_some h
  refine cz_i (kz := 5) (by decide) (As := []) (rest := []) A0_ge C hK hP hS (metJ0_isLatin1_aae02_s5 l D cy st _  hc3) (cwV 0 C.2.2.2.2.2.1 gJ0_indexOf_7cf53_J0_isLatin1_aae02 rfl rfl rfl (by decide +kernel) ⟨(Nat.le_of_ble_eq_true rfl), (Nat.le_of_ble_eq_true rfl)⟩) rfl hl.1 rfl (Nat.le_of_ble_eq_true rfl) dJ0_indexOf_7cf53_1 ⟨Nat.zero_le _, Nat.zero_le _⟩ (fun H locs hP hS => ?_)
  refine lv_if_eq (tgt := 23) C.1 C.2.1 dJ0_indexOf_7cf53_4 (by decide) (fun c4 => ?_) (fun c4 => ?_)
  · rw [if_pos c4] at h
    refine lv_aload_n C.1 C.2.1 dJ0_indexOf_7cf53_23 rfl (lv_at hl 0 rfl) ?_
    refine vk_getf C.1 C.2.1 (hK.2.2.2.2.2 5 (by decide)).2.2.1 (Zx_S hK.2.2.2 A0_ge hS) C.2.2.2.2.1 (C.2.2.2.2.2.1 _ mJ0_indexOf_7cf53_s5_0) (fun _ h => h) dJ0_indexOf_7cf53_24 ?_
    refine lv_iload_n C.1 C.2.1 dJ0_indexOf_7cf53_27 rfl (lv_at hl 1 rfl) ?_
    refine lv_iload_n C.1 C.2.1 dJ0_indexOf_7cf53_28 rfl (lv_at hl 2 rfl) ?_
    refine lv_aload_n C.1 C.2.1 dJ0_indexOf_7cf53_29 rfl (lv_at hl 0 rfl) ?_
    obtain ⟨r4, hc6, h⟩ := bd_some h
    refine cz_i (kz := 5) (by decide) (As := []) (rest := [.int x2, .int x1, .ref (st 15)]) A0_ge C hK hP hS (metJ0_length_8abf5_s5 l D cy st _  hc6) (cwV 0 C.2.2.2.2.2.1 gJ0_indexOf_7cf53_J0_length_8abf5 rfl rfl rfl (by decide +kernel) ⟨(Nat.le_of_ble_eq_true rfl), (Nat.le_of_ble_eq_true rfl)⟩) rfl hl.1 rfl (Nat.le_of_ble_eq_true rfl) dJ0_indexOf_7cf53_30 ⟨Nat.zero_le _, Nat.zero_le _⟩ (fun H locs hP hS => ?_)
    exact absurd h (by intro q; cases q)
  · rw [if_neg c4] at h
    refine lv_aload_n C.1 C.2.1 dJ0_indexOf_7cf53_7 rfl (lv_at hl 0 rfl) ?_
    refine vk_getf C.1 C.2.1 (hK.2.2.2.2.2 5 (by decide)).2.2.1 (Zx_S hK.2.2.2 A0_ge hS) C.2.2.2.2.1 (C.2.2.2.2.2.1 _ mJ0_indexOf_7cf53_s5_0) (fun _ h => h) dJ0_indexOf_7cf53_8 ?_
    refine lv_iload_n C.1 C.2.1 dJ0_indexOf_7cf53_11 rfl (lv_at hl 1 rfl) ?_
    refine lv_iload_n C.1 C.2.1 dJ0_indexOf_7cf53_12 rfl (lv_at hl 2 rfl) ?_
    refine lv_aload_n C.1 C.2.1 dJ0_indexOf_7cf53_13 rfl (lv_at hl 0 rfl) ?_
    obtain ⟨r7, hc9, h⟩ := bd_some h
    refine cz_i (kz := 5) (by decide) (As := []) (rest := [.int x2, .int x1, .ref (st 15)]) A0_ge C hK hP hS (metJ0_length_8abf5_s5 l D cy st _  hc9) (cwV 0 C.2.2.2.2.2.1 gJ0_indexOf_7cf53_J0_length_8abf5 rfl rfl rfl (by decide +kernel) ⟨(Nat.le_of_ble_eq_true rfl), (Nat.le_of_ble_eq_true rfl)⟩) rfl hl.1 rfl (Nat.le_of_ble_eq_true rfl) dJ0_indexOf_7cf53_14 ⟨Nat.zero_le _, Nat.zero_le _⟩ (fun H locs hP hS => ?_)
    obtain ⟨r10, hc12, h⟩ := bd_some h
    refine cs_i (As := [.ref (st 15), .int x1, .int x2, .int r7]) (rest := []) A0_ge C hK hP hS (metJ1_indexOf_4cfef_ab5 l D cy st _ x1 x2 r7 hc12) (va_cwS 4 C.2.2.2.2.2.1 gJ0_indexOf_7cf53_J1_indexOf_4cfef rfl rfl rfl (by decide +kernel) ⟨(Nat.le_of_ble_eq_true rfl), (Nat.le_of_ble_eq_true rfl)⟩) rfl hl.1 rfl (Nat.le_of_ble_eq_true rfl) dJ0_indexOf_7cf53_17 ⟨Nat.zero_le _, Nat.zero_le _⟩ (fun H locs hP hS => ?_)
    refine lv_goto (tgt := 36) C.1 C.2.1 dJ0_indexOf_7cf53_20 (by decide) ?_
    cases h
    exact rt_i C hP hS dJ0_indexOf_7cf53_36
theorem metJ0_indexOf_7cf53_s5 (l : Launch) (D : va_G) (cy : Nat → ClassId) (st : Nat → Nat) (sz : Nat) (x1 : Int32) (x2 : Int32) {r : Int32} (h : fJ0_indexOf_7cf53_s5 x1 x2 = some r) : Met l yJ0_indexOf_7cf53 wsJ0_indexOf_7cf53 rmJ0_indexOf_7cf53_s5 (va_Pc [.ref (st 5), .int x1, .int x2] (Px D [(cy 0, .int), (cy 1, .long), (cy 2, .boolean), (cy 3, .byte), (cy 4, .object "HissHorn$Text")] st V0 sz u00)) (Qi D V0 A0 sz r u00) 0 0 (Ax A0 sz) := by
  refine Met.ofW (cc := cJ0_indexOf_7cf53) (maxL := 3) (ret := (some .int)) (by decide) rfl ?_
  intro p e s m args below meth c s₁ B hml hv
  obtain ⟨rfl, hsz, hP, hK⟩ := hv
  subst hsz
  have C : Cx RJ0 cJ0_indexOf_7cf53 3 (some .int) wsJ0_indexOf_7cf53 p s m _ meth c := ⟨B.exec, B.bytes, hml, B.returns, findClass_of_methodNamed B.named, atoms_spec (ws := wsJ0_indexOf_7cf53) B.pre, B.notSynchronized⟩
  have hl := lv_entry ([.ref (st 5), .int x1, .int x2]) (n := 3) (Nat.le_of_ble_eq_true rfl)
  rw [lg_entry_eq]
  exact wJ0_indexOf_7cf53_s5 C hK x1 x2 h hP va_S.rf hl

/-- java/lang/String.indexOf(I)I of cell s5 -/
def rmJ0_indexOf_0f7a4_s5 : Room := { frames := 3, cells := 0, slots := 0, locals := 70 }
def fJ0_indexOf_0f7a4_s5 (x1 : Int32) : Option Int32 := ((fJ0_indexOf_7cf53_s5 x1 0).bind fun r1 => (some r1))
set_option maxHeartbeats 4000000 in
set_option maxRecDepth 100000 in
theorem wJ0_indexOf_0f7a4_s5 {p : Program} {l : Launch} {e : Env} {s : State} {m : MethodId} {args : Array Value} {below : List Frame} {meth : Method} {c : Code} {D : va_G} {cy : Nat → ClassId} {st : Nat → Nat} (C : Cx RJ0 cJ0_indexOf_0f7a4 2 (some .int) wsJ0_indexOf_0f7a4 p s m args meth c) (hK : Ky D [(cy 0, .int), (cy 1, .long), (cy 2, .boolean), (cy 3, .byte), (cy 4, .object "HissHorn$Text")] st s) (x1 : Int32) {r : Int32} {H : Heap} {locs : List Loc} {ls : Array Slot} (h : fJ0_indexOf_0f7a4_s5 x1 = some r) (hP : va_P D vwCl (V0 u00) H) (hS : va_S (Ax (A0) s.heap.size) s.heap H locs) (hl : lv_has ls 2 [(0, .ref (st 5)), (1, .int x1)]) : W p l e rmJ0_indexOf_0f7a4_s5 s m args below meth c H locs 0 0 (MQ below (Qi D (V0) (A0) s.heap.size r u00) args s 0 0 (Ax (A0) s.heap.size)) (F0 m 0 ls []) := by
  unfold fJ0_indexOf_0f7a4_s5 at h
  refine lv_aload_n C.1 C.2.1 dJ0_indexOf_0f7a4_0 rfl (lv_at hl 0 rfl) ?_
  refine lv_iload_n C.1 C.2.1 dJ0_indexOf_0f7a4_1 rfl (lv_at hl 1 rfl) ?_
  refine lv_iconst (v := 0) C.1 C.2.1 dJ0_indexOf_0f7a4_2 (by decide) ?_
  obtain ⟨r1, hc3, h⟩ := bd_some h
  refine cz_i (kz := 5) (by decide) (As := [.int x1, .int 0]) (rest := []) A0_ge C hK hP hS (metJ0_indexOf_7cf53_s5 l D cy st _ x1 0 hc3) (cwV 2 C.2.2.2.2.2.1 gJ0_indexOf_0f7a4_J0_indexOf_7cf53 rfl rfl rfl (by decide +kernel) ⟨(Nat.le_of_ble_eq_true rfl), (Nat.le_of_ble_eq_true rfl)⟩) rfl hl.1 rfl (Nat.le_of_ble_eq_true rfl) dJ0_indexOf_0f7a4_3 ⟨Nat.zero_le _, Nat.zero_le _⟩ (fun H locs hP hS => ?_)
  cases h
  exact rt_i C hP hS dJ0_indexOf_0f7a4_6
theorem metJ0_indexOf_0f7a4_s5 (l : Launch) (D : va_G) (cy : Nat → ClassId) (st : Nat → Nat) (sz : Nat) (x1 : Int32) {r : Int32} (h : fJ0_indexOf_0f7a4_s5 x1 = some r) : Met l yJ0_indexOf_0f7a4 wsJ0_indexOf_0f7a4 rmJ0_indexOf_0f7a4_s5 (va_Pc [.ref (st 5), .int x1] (Px D [(cy 0, .int), (cy 1, .long), (cy 2, .boolean), (cy 3, .byte), (cy 4, .object "HissHorn$Text")] st V0 sz u00)) (Qi D V0 A0 sz r u00) 0 0 (Ax A0 sz) := by
  refine Met.ofW (cc := cJ0_indexOf_0f7a4) (maxL := 2) (ret := (some .int)) (by decide) rfl ?_
  intro p e s m args below meth c s₁ B hml hv
  obtain ⟨rfl, hsz, hP, hK⟩ := hv
  subst hsz
  have C : Cx RJ0 cJ0_indexOf_0f7a4 2 (some .int) wsJ0_indexOf_0f7a4 p s m _ meth c := ⟨B.exec, B.bytes, hml, B.returns, findClass_of_methodNamed B.named, atoms_spec (ws := wsJ0_indexOf_0f7a4) B.pre, B.notSynchronized⟩
  have hl := lv_entry ([.ref (st 5), .int x1]) (n := 2) (Nat.le_of_ble_eq_true rfl)
  rw [lg_entry_eq]
  exact wJ0_indexOf_0f7a4_s5 C hK x1 h hP va_S.rf hl

/-- java/lang/String.isLatin1()Z of cell s6 -/
def rmJ0_isLatin1_aae02_s6 : Room := { frames := 0, cells := 0, slots := 0, locals := 0 }
theorem mJ0_isLatin1_aae02_s6_0 : Cond.fieldLink RJ0 38 "java/lang/String" "COMPACT_STRINGS" "Z" ∈ wsJ0_isLatin1_aae02 := (List.mem_cons_of_mem _ (List.mem_of_getElem? (i := 0) rfl))
theorem mJ0_isLatin1_aae02_s6_1 : Cond.fieldLink RJ0 15 "java/lang/String" "coder" "B" ∈ wsJ0_isLatin1_aae02 := (List.mem_cons_of_mem _ (List.mem_of_getElem? (i := 1) rfl))
def fJ0_isLatin1_aae02_s6  : Option Int32 := (gd (isB 1) (some 1))
set_option maxHeartbeats 4000000 in
set_option maxRecDepth 100000 in
theorem wJ0_isLatin1_aae02_s6 {p : Program} {l : Launch} {e : Env} {s : State} {m : MethodId} {args : Array Value} {below : List Frame} {meth : Method} {c : Code} {D : va_G} {cy : Nat → ClassId} {st : Nat → Nat} (C : Cx RJ0 cJ0_isLatin1_aae02 1 (some .boolean) wsJ0_isLatin1_aae02 p s m args meth c) (hK : Ky D [(cy 0, .int), (cy 1, .long), (cy 2, .boolean), (cy 3, .byte), (cy 4, .object "HissHorn$Text")] st s)  {r : Int32} {H : Heap} {locs : List Loc} {ls : Array Slot} (h : fJ0_isLatin1_aae02_s6  = some r) (hP : va_P D vwCl (V0 u00) H) (hS : va_S (Ax (A0) s.heap.size) s.heap H locs) (hl : lv_has ls 1 [(0, .ref (st 6))]) : W p l e rmJ0_isLatin1_aae02_s6 s m args below meth c H locs 0 0 (MQ below (Qi D (V0) (A0) s.heap.size r u00) args s 0 0 (Ax (A0) s.heap.size)) (F0 m 0 ls []) := by
  unfold fJ0_isLatin1_aae02_s6 at h
  refine va_gets C.1 C.2.1 hK.2.2.2.2.1 (Zx_S hK.2.2.2 A0_ge hS) C.2.2.2.2.1 (C.2.2.2.2.2.1 _ mJ0_isLatin1_aae02_s6_0) (fun _ h => h) dJ0_isLatin1_aae02_0 ?_
  refine lv_if_eq (tgt := 17) C.1 C.2.1 dJ0_isLatin1_aae02_3 (by decide) (fun c => absurd c (by decide)) (fun _ => ?_)
  refine lv_aload_n C.1 C.2.1 dJ0_isLatin1_aae02_6 rfl (lv_at hl 0 rfl) ?_
  refine vk_getf C.1 C.2.1 (hK.2.2.2.2.2 6 (by decide)).2.1 (Zx_S hK.2.2.2 A0_ge hS) C.2.2.2.2.1 (C.2.2.2.2.2.1 _ mJ0_isLatin1_aae02_s6_1) (fun _ h => h) dJ0_isLatin1_aae02_7 ?_
  refine lv_if_ne (tgt := 17) C.1 C.2.1 dJ0_isLatin1_aae02_10 (by decide) (fun c => absurd c (by decide)) (fun _ => ?_)
  refine lv_iconst (v := 1) C.1 C.2.1 dJ0_isLatin1_aae02_13 (by decide) ?_
  refine lv_goto (tgt := 18) C.1 C.2.1 dJ0_isLatin1_aae02_14 (by decide) ?_
  obtain ⟨hg1, h⟩ := gd_some h
  cases h
  exact rt_z hg1 C hP hS dJ0_isLatin1_aae02_18
theorem metJ0_isLatin1_aae02_s6 (l : Launch) (D : va_G) (cy : Nat → ClassId) (st : Nat → Nat) (sz : Nat)  {r : Int32} (h : fJ0_isLatin1_aae02_s6  = some r) : Met l yJ0_isLatin1_aae02 wsJ0_isLatin1_aae02 rmJ0_isLatin1_aae02_s6 (va_Pc [.ref (st 6)] (Px D [(cy 0, .int), (cy 1, .long), (cy 2, .boolean), (cy 3, .byte), (cy 4, .object "HissHorn$Text")] st V0 sz u00)) (Qi D V0 A0 sz r u00) 0 0 (Ax A0 sz) := by
  refine Met.ofW (cc := cJ0_isLatin1_aae02) (maxL := 1) (ret := (some .boolean)) (by decide) rfl ?_
  intro p e s m args below meth c s₁ B hml hv
  obtain ⟨rfl, hsz, hP, hK⟩ := hv
  subst hsz
  have C : Cx RJ0 cJ0_isLatin1_aae02 1 (some .boolean) wsJ0_isLatin1_aae02 p s m _ meth c := ⟨B.exec, B.bytes, hml, B.returns, findClass_of_methodNamed B.named, atoms_spec (ws := wsJ0_isLatin1_aae02) B.pre, B.notSynchronized⟩
  have hl := lv_entry ([.ref (st 6)]) (n := 1) (Nat.le_of_ble_eq_true rfl)
  rw [lg_entry_eq]
  exact wJ0_isLatin1_aae02_s6 C hK h hP va_S.rf hl

/-- java/lang/String.coder()B of cell s6 -/
def rmJ0_coder_7d493_s6 : Room := { frames := 0, cells := 0, slots := 0, locals := 0 }
theorem mJ0_coder_7d493_s6_0 : Cond.fieldLink RJ0 38 "java/lang/String" "COMPACT_STRINGS" "Z" ∈ wsJ0_coder_7d493 := (List.mem_cons_of_mem _ (List.mem_of_getElem? (i := 0) rfl))
theorem mJ0_coder_7d493_s6_1 : Cond.fieldLink RJ0 15 "java/lang/String" "coder" "B" ∈ wsJ0_coder_7d493 := (List.mem_cons_of_mem _ (List.mem_of_getElem? (i := 1) rfl))
def fJ0_coder_7d493_s6  : Option Int32 := (some 0)
set_option maxHeartbeats 4000000 in
set_option maxRecDepth 100000 in
theorem wJ0_coder_7d493_s6 {p : Program} {l : Launch} {e : Env} {s : State} {m : MethodId} {args : Array Value} {below : List Frame} {meth : Method} {c : Code} {D : va_G} {cy : Nat → ClassId} {st : Nat → Nat} (C : Cx RJ0 cJ0_coder_7d493 1 (some .byte) wsJ0_coder_7d493 p s m args meth c) (hK : Ky D [(cy 0, .int), (cy 1, .long), (cy 2, .boolean), (cy 3, .byte), (cy 4, .object "HissHorn$Text")] st s)  {r : Int32} {H : Heap} {locs : List Loc} {ls : Array Slot} (h : fJ0_coder_7d493_s6  = some r) (hP : va_P D vwCl (V0 u00) H) (hS : va_S (Ax (A0) s.heap.size) s.heap H locs) (hl : lv_has ls 1 [(0, .ref (st 6))]) : W p l e rmJ0_coder_7d493_s6 s m args below meth c H locs 0 0 (MQ below (Qi D (V0) (A0) s.heap.size r u00) args s 0 0 (Ax (A0) s.heap.size)) (F0 m 0 ls []) := by
  unfold fJ0_coder_7d493_s6 at h
  refine va_gets C.1 C.2.1 hK.2.2.2.2.1 (Zx_S hK.2.2.2 A0_ge hS) C.2.2.2.2.1 (C.2.2.2.2.2.1 _ mJ0_coder_7d493_s6_0) (fun _ h => h) dJ0_coder_7d493_0 ?_
  refine lv_if_eq (tgt := 13) C.1 C.2.1 dJ0_coder_7d493_3 (by decide) (fun c => absurd c (by decide)) (fun _ => ?_)
  refine lv_aload_n C.1 C.2.1 dJ0_coder_7d493_6 rfl (lv_at hl 0 rfl) ?_
  refine vk_getf C.1 C.2.1 (hK.2.2.2.2.2 6 (by decide)).2.1 (Zx_S hK.2.2.2 A0_ge hS) C.2.2.2.2.1 (C.2.2.2.2.2.1 _ mJ0_coder_7d493_s6_1) (fun _ h => h) dJ0_coder_7d493_7 ?_
  refine lv_goto (tgt := 14) C.1 C.2.1 dJ0_coder_7d493_10 (by decide) ?_
  cases h
  exact rt_b rfl C hP hS dJ0_coder_7d493_14
theorem metJ0_coder_7d493_s6 (l : Launch) (D : va_G) (cy : Nat → ClassId) (st : Nat → Nat) (sz : Nat)  {r : Int32} (h : fJ0_coder_7d493_s6  = some r) : Met l yJ0_coder_7d493 wsJ0_coder_7d493 rmJ0_coder_7d493_s6 (va_Pc [.ref (st 6)] (Px D [(cy 0, .int), (cy 1, .long), (cy 2, .boolean), (cy 3, .byte), (cy 4, .object "HissHorn$Text")] st V0 sz u00)) (Qi D V0 A0 sz r u00) 0 0 (Ax A0 sz) := by
  refine Met.ofW (cc := cJ0_coder_7d493) (maxL := 1) (ret := (some .byte)) (by decide) rfl ?_
  intro p e s m args below meth c s₁ B hml hv
  obtain ⟨rfl, hsz, hP, hK⟩ := hv
  subst hsz
  have C : Cx RJ0 cJ0_coder_7d493 1 (some .byte) wsJ0_coder_7d493 p s m _ meth c := ⟨B.exec, B.bytes, hml, B.returns, findClass_of_methodNamed B.named, atoms_spec (ws := wsJ0_coder_7d493) B.pre, B.notSynchronized⟩
  have hl := lv_entry ([.ref (st 6)]) (n := 1) (Nat.le_of_ble_eq_true rfl)
  rw [lg_entry_eq]
  exact wJ0_coder_7d493_s6 C hK h hP va_S.rf hl

/-- java/lang/String.length()I of cell s6 -/
def rmJ0_length_8abf5_s6 : Room := { frames := 1, cells := 0, slots := 0, locals := 20 }
theorem mJ0_length_8abf5_s6_0 : Cond.fieldLink RJ0 9 "java/lang/String" "value" "[B" ∈ wsJ0_length_8abf5 := (List.mem_cons_of_mem _ (List.mem_of_getElem? (i := 0) rfl))
def fJ0_length_8abf5_s6  : Option Int32 := ((fJ0_coder_7d493_s6 ).bind fun r1 => (some (5 >>> (r1 &&& 31))))
set_option maxHeartbeats 4000000 in
set_option maxRecDepth 100000 in
theorem wJ0_length_8abf5_s6 {p : Program} {l : Launch} {e : Env} {s : State} {m : MethodId} {args : Array Value} {below : List Frame} {meth : Method} {c : Code} {D : va_G} {cy : Nat → ClassId} {st : Nat → Nat} (C : Cx RJ0 cJ0_length_8abf5 1 (some .int) wsJ0_length_8abf5 p s m args meth c) (hK : Ky D [(cy 0, .int), (cy 1, .long), (cy 2, .boolean), (cy 3, .byte), (cy 4, .object "HissHorn$Text")] st s)  {r : Int32} {H : Heap} {locs : List Loc} {ls : Array Slot} (h : fJ0_length_8abf5_s6  = some r) (hP : va_P D vwCl (V0 u00) H) (hS : va_S (Ax (A0) s.heap.size) s.heap H locs) (hl : lv_has ls 1 [(0, .ref (st 6))]) : W p l e rmJ0_length_8abf5_s6 s m args below meth c H locs 0 0 (MQ below (Qi D (V0) (A0) s.heap.size r u00) args s 0 0 (Ax (A0) s.heap.size)) (F0 m 0 ls []) := by
  unfold fJ0_length_8abf5_s6 at h
  refine lv_aload_n C.1 C.2.1 dJ0_length_8abf5_0 rfl (lv_at hl 0 rfl) ?_
  refine vk_getf C.1 C.2.1 (hK.2.2.2.2.2 6 (by decide)).2.2.1 (Zx_S hK.2.2.2 A0_ge hS) C.2.2.2.2.1 (C.2.2.2.2.2.1 _ mJ0_length_8abf5_s6_0) (fun _ h => h) dJ0_length_8abf5_1 ?_
  refine va_tlen (v := 5) C.1 C.2.1 (hK.2.2.2.2.2 6 (by decide)).2.2.2 (Zx_S hK.2.2.2 A0_ge hS) rfl dJ0_length_8abf5_4 ?_
  refine lv_aload_n C.1 C.2.1 dJ0_length_8abf5_5 rfl (lv_at hl 0 rfl) ?_
  obtain ⟨r1, hc3, h⟩ := bd_some h
  refine cz_i (kz := 6) (by decide) (As := []) (rest := [.int 5]) A0_ge C hK hP hS (metJ0_coder_7d493_s6 l D cy st _  hc3) (cwV 0 C.2.2.2.2.2.1 gJ0_length_8abf5_J0_coder_7d493 rfl rfl rfl (by decide +kernel) ⟨(Nat.le_of_ble_eq_true rfl), (Nat.le_of_ble_eq_true rfl)⟩) rfl hl.1 rfl (Nat.le_of_ble_eq_true rfl) dJ0_length_8abf5_6 ⟨Nat.zero_le _, Nat.zero_le _⟩ (fun H locs hP hS => ?_)
  refine lv_ishr C.1 C.2.1 dJ0_length_8abf5_9 ?_
  cases h
  exact rt_i C hP hS dJ0_length_8abf5_10
theorem metJ0_length_8abf5_s6 (l : Launch) (D : va_G) (cy : Nat → ClassId) (st : Nat → Nat) (sz : Nat)  {r : Int32} (h : fJ0_length_8abf5_s6  = some r) : Met l yJ0_length_8abf5 wsJ0_length_8abf5 rmJ0_length_8abf5_s6 (va_Pc [.ref (st 6)] (Px D [(cy 0, .int), (cy 1, .long), (cy 2, .boolean), (cy 3, .byte), (cy 4, .object "HissHorn$Text")] st V0 sz u00)) (Qi D V0 A0 sz r u00) 0 0 (Ax A0 sz) := by
  refine Met.ofW (cc := cJ0_length_8abf5) (maxL := 1) (ret := (some .int)) (by decide) rfl ?_
  intro p e s m args below meth c s₁ B hml hv
  obtain ⟨rfl, hsz, hP, hK⟩ := hv
  subst hsz
  have C : Cx RJ0 cJ0_length_8abf5 1 (some .int) wsJ0_length_8abf5 p s m _ meth c := ⟨B.exec, B.bytes, hml, B.returns, findClass_of_methodNamed B.named, atoms_spec (ws := wsJ0_length_8abf5) B.pre, B.notSynchronized⟩
  have hl := lv_entry ([.ref (st 6)]) (n := 1) (Nat.le_of_ble_eq_true rfl)
  rw [lg_entry_eq]
  exact wJ0_length_8abf5_s6 C hK h hP va_S.rf hl

/-- java/lang/StringLatin1.indexOfChar([BIII)I -/
def rmJ1_indexOfChar_4cfef_ab6 : Room := { frames := 0, cells := 0, slots := 0, locals := 0 }
def LJ1_indexOfChar_4cfef_ab6_7  : Nat → Int32 → Int32 → Int32 → Option Int32
  | 0, _, _, _ => none
  | n + 1, z3, z4, z5 => (if z3 ≤ z5 then (some (-1)) else (gd (inb z5 5) (if (zB 6 z5.toNatClampNeg) = z4 then (some z5) else ((LJ1_indexOfChar_4cfef_ab6_7 n) z3 z4 (z5 + 1)))))
def fJ1_indexOfChar_4cfef_ab6 (x1 : Int32) (x2 : Int32) (x3 : Int32) : Option Int32 := (lt (x1.toInt8.toInt32) fun v1 => (LJ1_indexOfChar_4cfef_ab6_7  5000 x3 v1 x2))
set_option maxHeartbeats 4000000 in
set_option maxRecDepth 100000 in
theorem wLJ1_indexOfChar_4cfef_ab6_7 {p : Program} {l : Launch} {e : Env} {s : State} {m : MethodId} {args : Array Value} {below : List Frame} {meth : Method} {c : Code} {D : va_G} {cy : Nat → ClassId} {st : Nat → Nat} (C : Cx RJ1 cJ1_indexOfChar_4cfef 6 (some .int) wsJ1_indexOfChar_4cfef p s m args meth c) (hK : Ky D [(cy 0, .int), (cy 1, .long), (cy 2, .boolean), (cy 3, .byte), (cy 4, .object "HissHorn$Text")] st s) {r : Int32}   : ∀ (n : Nat) (z3 : Int32) (z4 : Int32) (z5 : Int32) (H : Heap) (locs : List Loc) (ls : Array Slot), LJ1_indexOfChar_4cfef_ab6_7  n z3 z4 z5 = some r → va_P D vwCl (V0 u00) H → va_S (Ax (A0) s.heap.size) s.heap H locs → lv_has ls 6 [(0, .ref (st 16)), (3, .int z3), (4, .int z4), (5, .int z5)] → W p l e rmJ1_indexOfChar_4cfef_ab6 s m args below meth c H locs 0 0 (MQ below (Qi D (V0) (A0) s.heap.size r u00) args s 0 0 (Ax (A0) s.heap.size)) (F0 m 7 ls []) := by
  intro n
  induction n with
  | zero =>
    intro z3 z4 z5 H locs ls h
    exact absurd h (by intro q; cases q)
  | succ n ih =>
    intro z3 z4 z5 H locs ls h hP hS hl
    rw [LJ1_indexOfChar_4cfef_ab6_7] at h
    refine lv_iload C.1 C.2.1 dJ1_indexOfChar_4cfef_7 (lv_at hl 3 rfl) ?_
    refine lv_iload_n C.1 C.2.1 dJ1_indexOfChar_4cfef_9 rfl (lv_at hl 1 rfl) ?_
    refine lv_icmp_ge (tgt := 31) C.1 C.2.1 dJ1_indexOfChar_4cfef_10 (by decide) (fun c10 => ?_) (fun c10 => ?_)
    · rw [if_pos c10] at h
      refine lv_iconst (v := (-1)) C.1 C.2.1 dJ1_indexOfChar_4cfef_31 (by decide) ?_
      cases h
      exact rt_i C hP hS dJ1_indexOfChar_4cfef_32
    · rw [if_neg c10] at h
      refine lv_aload_n C.1 C.2.1 dJ1_indexOfChar_4cfef_13 rfl (lv_at hl 0 rfl) ?_
      refine lv_iload C.1 C.2.1 dJ1_indexOfChar_4cfef_14 (lv_at hl 3 rfl) ?_
      obtain ⟨hg3, h⟩ := gd_some h
      refine va_tb (v := .int (zB 6 z5.toNatClampNeg)) C.1 C.2.1 (hK.2.2.2.2.2 6 (by decide)).2.2.2 (Zx_S hK.2.2.2 A0_ge hS) (inb_in hg3) rfl dJ1_indexOfChar_4cfef_16 ?_
      refine lv_iload C.1 C.2.1 dJ1_indexOfChar_4cfef_17 (lv_at hl 2 rfl) ?_
      refine lv_icmp_ne (tgt := 25) C.1 C.2.1 dJ1_indexOfChar_4cfef_19 (by decide) (fun c19 => ?_) (fun c19 => ?_)
      · rw [if_neg c19] at h
        refine lv_iinc (v := z5 + 1) (lv' := [(5, .int (z5 + 1)), (0, .ref (st 16)), (3, .int z3), (4, .int z4)]) C.1 C.2.1 dJ1_indexOfChar_4cfef_25 hl (k := 3) rfl rfl (by decide) rfl (fun ls hl => ?_)
        replace hl := lv_sub (l' := [(0, .ref (st 16)), (3, .int z3), (4, .int z4), (5, .int (z5 + 1))]) hl [1, 2, 3, 0] rfl
        refine lv_goto (tgt := 7) C.1 C.2.1 dJ1_indexOfChar_4cfef_28 (by decide) ?_
        exact ih _ _ _ _ _ _ h hP hS hl
      · rw [if_pos c19] at h
        refine lv_iload C.1 C.2.1 dJ1_indexOfChar_4cfef_22 (lv_at hl 3 rfl) ?_
        cases h
        exact rt_i C hP hS dJ1_indexOfChar_4cfef_24
set_option maxHeartbeats 4000000 in
set_option maxRecDepth 100000 in
theorem wJ1_indexOfChar_4cfef_ab6 {p : Program} {l : Launch} {e : Env} {s : State} {m : MethodId} {args : Array Value} {below : List Frame} {meth : Method} {c : Code} {D : va_G} {cy : Nat → ClassId} {st : Nat → Nat} (C : Cx RJ1 cJ1_indexOfChar_4cfef 6 (some .int) wsJ1_indexOfChar_4cfef p s m args meth c) (hK : Ky D [(cy 0, .int), (cy 1, .long), (cy 2, .boolean), (cy 3, .byte), (cy 4, .object "HissHorn$Text")] st s) (x1 : Int32) (x2 : Int32) (x3 : Int32) {r : Int32} {H : Heap} {locs : List Loc} {ls : Array Slot} (h : fJ1_indexOfChar_4cfef_ab6 x1 x2 x3 = some r) (hP : va_P D vwCl (V0 u00) H) (hS : va_S (Ax (A0) s.heap.size) s.heap H locs) (hl : lv_has ls 6 [(0, .ref (st 16)), (1, .int x1), (2, .int x2), (3, .int x3)]) : W p l e rmJ1_indexOfChar_4cfef_ab6 s m args below meth c H locs 0 0 (MQ below (Qi D (V0) (A0) s.heap.size r u00) args s 0 0 (Ax (A0) s.heap.size)) (F0 m 0 ls []) := by
  unfold fJ1_indexOfChar_4cfef_ab6 at h
  refine lv_iload_n C.1 C.2.1 dJ1_indexOfChar_4cfef_0 rfl (lv_at hl 1 rfl) ?_
  refine lv_i2b (v := x1.toInt8.toInt32) C.1 C.2.1 dJ1_indexOfChar_4cfef_1 rfl ?_
  refine lv_topi (fun v1 hv2 => ?_)
  replace h := lt_e hv2 h
  try dsimp only at h
  refine lv_istore (lv' := [(4, .int v1), (0, .ref (st 16)), (1, .int x1), (2, .int x2), (3, .int x3)]) C.1 C.2.1 dJ1_indexOfChar_4cfef_2 hl (by decide) rfl (fun ls hl => ?_)
  replace hl := lv_sub (l' := [(0, .ref (st 16)), (1, .int x1), (2, .int x2), (3, .int x3), (4, .int v1)]) hl [1, 2, 3, 4, 0] rfl
  refine lv_iload_n C.1 C.2.1 dJ1_indexOfChar_4cfef_4 rfl (lv_at hl 2 rfl) ?_
  refine lv_istore (lv' := [(5, .int x2), (0, .ref (st 16)), (1, .int x1), (2, .int x2), (3, .int x3), (4, .int v1)]) C.1 C.2.1 dJ1_indexOfChar_4cfef_5 hl (by decide) rfl (fun ls hl => ?_)
  replace hl := lv_sub (l' := [(0, .ref (st 16)), (1, .int x1), (2, .int x2), (3, .int x3), (4, .int v1), (5, .int x2)]) hl [1, 2, 3, 4, 5, 0] rfl
  exact wLJ1_indexOfChar_4cfef_ab6_7 C hK  5000 _ _ _ _ _ _ h hP hS (lv_sub hl [0, 3, 4, 5] rfl)
theorem metJ1_indexOfChar_4cfef_ab6 (l : Launch) (D : va_G) (cy : Nat → ClassId) (st : Nat → Nat) (sz : Nat) (x1 : Int32) (x2 : Int32) (x3 : Int32) {r : Int32} (h : fJ1_indexOfChar_4cfef_ab6 x1 x2 x3 = some r) : Met l yJ1_indexOfChar_4cfef wsJ1_indexOfChar_4cfef rmJ1_indexOfChar_4cfef_ab6 (va_Pc [.ref (st 16), .int x1, .int x2, .int x3] (Px D [(cy 0, .int), (cy 1, .long), (cy 2, .boolean), (cy 3, .byte), (cy 4, .object "HissHorn$Text")] st V0 sz u00)) (Qi D V0 A0 sz r u00) 0 0 (Ax A0 sz) := by
  refine Met.ofW (cc := cJ1_indexOfChar_4cfef) (maxL := 6) (ret := (some .int)) (by decide) rfl ?_
  intro p e s m args below meth c s₁ B hml hv
  obtain ⟨rfl, hsz, hP, hK⟩ := hv
  subst hsz
  have C : Cx RJ1 cJ1_indexOfChar_4cfef 6 (some .int) wsJ1_indexOfChar_4cfef p s m _ meth c := ⟨B.exec, B.bytes, hml, B.returns, findClass_of_methodNamed B.named, atoms_spec (ws := wsJ1_indexOfChar_4cfef) B.pre, B.notSynchronized⟩
  have hl := lv_entry ([.ref (st 16), .int x1, .int x2, .int x3]) (n := 6) (Nat.le_of_ble_eq_true rfl)
  rw [lg_entry_eq]
  exact wJ1_indexOfChar_4cfef_ab6 C hK x1 x2 x3 h hP va_S.rf hl

/-- java/lang/StringLatin1.indexOf([BIII)I -/
def rmJ1_indexOf_4cfef_ab6 : Room := { frames := 1, cells := 0, slots := 0, locals := 25 }
theorem mJ1_indexOf_4cfef_ab6_0 : Cond.methodLink RJ1 92 Lib.Math.max.name ∈ wsJ1_indexOf_4cfef := (List.mem_cons_of_mem _ (List.mem_of_getElem? (i := 0) rfl))
theorem mJ1_indexOf_4cfef_ab6_1 : Cond.static Lib.Math.max.name ∈ wsJ1_indexOf_4cfef := (List.mem_cons_of_mem _ (List.mem_of_getElem? (i := 1) rfl))
theorem mJ1_indexOf_4cfef_ab6_2 : Cond.initialized "java/lang/Math" ∈ wsJ1_indexOf_4cfef := (List.mem_cons_of_mem _ (List.mem_of_getElem? (i := 2) rfl))
theorem mJ1_indexOf_4cfef_ab6_3 : Cond.code Lib.Math.max.name Lib.Math.max.code 2 (some .int) ∈ wsJ1_indexOf_4cfef := (List.mem_cons_of_mem _ (List.mem_of_getElem? (i := 3) rfl))
theorem mJ1_indexOf_4cfef_ab6_4 : Cond.methodLink RJ1 38 Lib.Math.min.name ∈ wsJ1_indexOf_4cfef := (List.mem_cons_of_mem _ (List.mem_of_getElem? (i := 4) rfl))
theorem mJ1_indexOf_4cfef_ab6_5 : Cond.static Lib.Math.min.name ∈ wsJ1_indexOf_4cfef := (List.mem_cons_of_mem _ (List.mem_of_getElem? (i := 5) rfl))
theorem mJ1_indexOf_4cfef_ab6_6 : Cond.code Lib.Math.min.name Lib.Math.min.code 2 (some .int) ∈ wsJ1_indexOf_4cfef := (List.mem_cons_of_mem _ (List.mem_of_getElem? (i := 6) rfl))
def fJ1_indexOf_4cfef_ab6 (x1 : Int32) (x2 : Int32) (x3 : Int32) : Option Int32 := ((fJ1_canEncode_9a6ad x1).bind fun r1 => (if r1 = 0 then (some (-1)) else (lt (if x2 < 0 then 0 else x2) fun v4 => (lt (if 5 < x3 then 5 else x3) fun v6 => (if v4 < v6 then ((fJ1_indexOfChar_4cfef_ab6 x1 v4 v6).bind fun r8 => (some r8)) else (some (-1)))))))
set_option maxHeartbeats 4000000 in
set_option maxRecDepth 100000 in
theorem wJ1_indexOf_4cfef_ab6 {p : Program} {l : Launch} {e : Env} {s : State} {m : MethodId} {args : Array Value} {below : List Frame} {meth : Method} {c : Code} {D : va_G} {cy : Nat → ClassId} {st : Nat → Nat} (C : Cx RJ1 cJ1_indexOf_4cfef 4 (some .int) wsJ1_indexOf_4cfef p s m args meth c) (hK : Ky D [(cy 0, .int), (cy 1, .long), (cy 2, .boolean), (cy 3, .byte), (cy 4, .object "HissHorn$Text")] st s) (x1 : Int32) (x2 : Int32) (x3 : Int32) {r : Int32} {H : Heap} {locs : List Loc} {ls : Array Slot} (h : fJ1_indexOf_4cfef_ab6 x1 x2 x3 = some r) (hP : va_P D vwCl (V0 u00) H) (hS : va_S (Ax (A0) s.heap.size) s.heap H locs) (hl : lv_has ls 4 [(0, .ref (st 16)), (1, .int x1), (2, .int x2), (3, .int x3)]) : W p l e rmJ1_indexOf_4cfef_ab6 s m args below meth c H locs 0 0 (MQ below (Qi D (V0) (A0) s.heap.size r u00) args s 0 0 (Ax (A0) s.heap.size)) (F0 m 0 ls []) := by
  unfold fJ1_indexOf_4cfef_ab6 at h
  refine lv_iload_n C.1 C.2.1 dJ1_indexOf_4cfef_0 rfl (lv_at hl 1 rfl) ?_
  obtain ⟨r1, hc3, h⟩ := bd_some h
  refine cs_i (As := [.int x1]) (rest := []) A0_ge C hK hP hS (metJ1_canEncode_9a6ad l D cy st _ x1 hc3) (va_cwS 1 C.2.2.2.2.2.1 gJ1_indexOf_4cfef_J1_canEncode_9a6ad rfl rfl rfl (by decide +kernel) ⟨(Nat.le_of_ble_eq_true rfl), (Nat.le_of_ble_eq_true rfl)⟩) rfl hl.1 rfl (Nat.le_of_ble_eq_true rfl) dJ1_indexOf_4cfef_1 ⟨Nat.zero_le _, Nat.zero_le _⟩ (fun H locs hP hS => ?_)
  refine lv_if_ne (tgt := 9) C.1 C.2.1 dJ1_indexOf_4cfef_4 (by decide) (fun c4 => ?_) (fun c4 => ?_)
  · rw [if_neg c4] at h
    refine lv_iload_n C.1 C.2.1 dJ1_indexOf_4cfef_9 rfl (lv_at hl 2 rfl) ?_
    refine lv_iconst (v := 0) C.1 C.2.1 dJ1_indexOf_4cfef_10 (by decide) ?_
    refine va_mmax C.1 C.2.1 (C.2.2.1.trans hl.1.symm) C.2.2.2.2.1 (C.2.2.2.2.2.1 _ mJ1_indexOf_4cfef_ab6_0) (C.2.2.2.2.2.1 _ mJ1_indexOf_4cfef_ab6_1) (C.2.2.2.2.2.1 _ mJ1_indexOf_4cfef_ab6_2) (C.2.2.2.2.2.1 _ mJ1_indexOf_4cfef_ab6_3) (Nat.le_of_ble_eq_true rfl) (Nat.le_of_ble_eq_true rfl) (Nat.zero_le _) (Nat.zero_le _) dJ1_indexOf_4cfef_11 ?_
    refine lv_topi (fun v4 hv5 => ?_)
    replace h := lt_e hv5 h
    try dsimp only at h
    refine lv_istore_n (lv' := [(2, .int v4), (0, .ref (st 16)), (1, .int x1), (3, .int x3)]) C.1 C.2.1 dJ1_indexOf_4cfef_14 rfl hl (by decide) rfl (fun ls hl => ?_)
    replace hl := lv_sub (l' := [(0, .ref (st 16)), (1, .int x1), (2, .int v4), (3, .int x3)]) hl [1, 2, 0, 3] rfl
    refine lv_iload_n C.1 C.2.1 dJ1_indexOf_4cfef_15 rfl (lv_at hl 3 rfl) ?_
    refine lv_aload_n C.1 C.2.1 dJ1_indexOf_4cfef_16 rfl (lv_at hl 0 rfl) ?_
    refine va_tlen (v := 5) C.1 C.2.1 (hK.2.2.2.2.2 6 (by decide)).2.2.2 (Zx_S hK.2.2.2 A0_ge hS) rfl dJ1_indexOf_4cfef_17 ?_
    refine va_mmin C.1 C.2.1 (C.2.2.1.trans hl.1.symm) C.2.2.2.2.1 (C.2.2.2.2.2.1 _ mJ1_indexOf_4cfef_ab6_4) (C.2.2.2.2.2.1 _ mJ1_indexOf_4cfef_ab6_5) (C.2.2.2.2.2.1 _ mJ1_indexOf_4cfef_ab6_2) (C.2.2.2.2.2.1 _ mJ1_indexOf_4cfef_ab6_6) (Nat.le_of_ble_eq_true rfl) (Nat.le_of_ble_eq_true rfl) (Nat.zero_le _) (Nat.zero_le _) dJ1_indexOf_4cfef_18 ?_
    refine lv_topi (fun v6 hv7 => ?_)
    replace h := lt_e hv7 h
    try dsimp only at h
    refine lv_istore_n (lv' := [(3, .int v6), (0, .ref (st 16)), (1, .int x1), (2, .int v4)]) C.1 C.2.1 dJ1_indexOf_4cfef_21 rfl hl (by decide) rfl (fun ls hl => ?_)
    replace hl := lv_sub (l' := [(0, .ref (st 16)), (1, .int x1), (2, .int v4), (3, .int v6)]) hl [1, 2, 3, 0] rfl
    refine lv_iload_n C.1 C.2.1 dJ1_indexOf_4cfef_22 rfl (lv_at hl 2 rfl) ?_
    refine lv_iload_n C.1 C.2.1 dJ1_indexOf_4cfef_23 rfl (lv_at hl 3 rfl) ?_
    refine lv_icmp_lt (tgt := 29) C.1 C.2.1 dJ1_indexOf_4cfef_24 (by decide) (fun c24 => ?_) (fun c24 => ?_)
    · rw [if_pos c24] at h
      refine lv_aload_n C.1 C.2.1 dJ1_indexOf_4cfef_29 rfl (lv_at hl 0 rfl) ?_
      refine lv_iload_n C.1 C.2.1 dJ1_indexOf_4cfef_30 rfl (lv_at hl 1 rfl) ?_
      refine lv_iload_n C.1 C.2.1 dJ1_indexOf_4cfef_31 rfl (lv_at hl 2 rfl) ?_
      refine lv_iload_n C.1 C.2.1 dJ1_indexOf_4cfef_32 rfl (lv_at hl 3 rfl) ?_
      obtain ⟨r8, hc10, h⟩ := bd_some h
      refine cs_i (As := [.ref (st 16), .int x1, .int v4, .int v6]) (rest := []) A0_ge C hK hP hS (metJ1_indexOfChar_4cfef_ab6 l D cy st _ x1 v4 v6 hc10) (va_cwS 4 C.2.2.2.2.2.1 gJ1_indexOf_4cfef_J1_indexOfChar_4cfef rfl rfl rfl (by decide +kernel) ⟨(Nat.le_of_ble_eq_true rfl), (Nat.le_of_ble_eq_true rfl)⟩) rfl hl.1 rfl (Nat.le_of_ble_eq_true rfl) dJ1_indexOf_4cfef_33 ⟨Nat.zero_le _, Nat.zero_le _⟩ (fun H locs hP hS => ?_)
      cases h
      exact rt_i C hP hS dJ1_indexOf_4cfef_36
    · rw [if_neg c24] at h
      refine lv_iconst (v := (-1)) C.1 C.2.1 dJ1_indexOf_4cfef_27 (by decide) ?_
      cases h
      exact rt_i C hP hS dJ1_indexOf_4cfef_28
  · rw [if_pos c4] at h
    refine lv_iconst (v := (-1)) C.1 C.2.1 dJ1_indexOf_4cfef_7 (by decide) ?_
    cases h
    exact rt_i C hP hS dJ1_indexOf_4cfef_8
theorem metJ1_indexOf_4cfef_ab6 (l : Launch) (D : va_G) (cy : Nat → ClassId) (st : Nat → Nat) (sz : Nat) (x1 : Int32) (x2 : Int32) (x3 : Int32) {r : Int32} (h : fJ1_indexOf_4cfef_ab6 x1 x2 x3 = some r) : Met l yJ1_indexOf_4cfef wsJ1_indexOf_4cfef rmJ1_indexOf_4cfef_ab6 (va_Pc [.ref (st 16), .int x1, .int x2, .int x3] (Px D [(cy 0, .int), (cy 1, .long), (cy 2, .boolean), (cy 3, .byte), (cy 4, .object "HissHorn$Text")] st V0 sz u00)) (Qi D V0 A0 sz r u00) 0 0 (Ax A0 sz) := by
  refine Met.ofW (cc := cJ1_indexOf_4cfef) (maxL := 4) (ret := (some .int)) (by decide) rfl ?_
  intro p e s m args below meth c s₁ B hml hv
  obtain ⟨rfl, hsz, hP, hK⟩ := hv
  subst hsz
  have C : Cx RJ1 cJ1_indexOf_4cfef 4 (some .int) wsJ1_indexOf_4cfef p s m _ meth c := ⟨B.exec, B.bytes, hml, B.returns, findClass_of_methodNamed B.named, atoms_spec (ws := wsJ1_indexOf_4cfef) B.pre, B.notSynchronized⟩
  have hl := lv_entry ([.ref (st 16), .int x1, .int x2, .int x3]) (n := 4) (Nat.le_of_ble_eq_true rfl)
  rw [lg_entry_eq]
  exact wJ1_indexOf_4cfef_ab6 C hK x1 x2 x3 h hP va_S.rf hl

/-- java/lang/String.indexOf(II)I of cell s6 -/
def rmJ0_indexOf_7cf53_s6 : Room := { frames := 2, cells := 0, slots := 0, locals := 48 }
theorem mJ0_indexOf_7cf53_s6_0 : Cond.fieldLink RJ0 9 "java/lang/String" "value" "[B" ∈ wsJ0_indexOf_7cf53 := (List.mem_cons_of_mem _ (List.mem_append_left _ (List.mem_of_getElem? (i := 0) rfl)))
def fJ0_indexOf_7cf53_s6 (x1 : Int32) (x2 : Int32) : Option Int32 := ((fJ0_isLatin1_aae02_s6 ).bind fun r1 => (if r1 = 0 then ((fJ0_length_8abf5_s6 ).bind fun r4 => none) else ((fJ0_length_8abf5_s6 ).bind fun r7 => ((fJ1_indexOf_4cfef_ab6 x1 x2 r7).bind fun r10 => (some r10)))))
set_option maxHeartbeats 4000000 in
set_option maxRecDepth 100000 in
theorem wJ0_indexOf_7cf53_s6 {p : Program} {l : Launch} {e : Env} {s : State} {m : MethodId} {args : Array Value} {below : List Frame} {meth : Method} {c : Code} {D : va_G} {cy : Nat → ClassId} {st : Nat → Nat} (C : Cx RJ0 cJ0_indexOf_7cf53 3 (some .int) wsJ0_indexOf_7cf53 p s m args meth c) (hK : Ky D [(cy 0, .int), (cy 1, .long), (cy 2, .boolean), (cy 3, .byte), (cy 4, .object "HissHorn$Text")] st s) (x1 : Int32) (x2 : Int32) {r : Int32} {H : Heap} {locs : List Loc} {ls : Array Slot} (h : fJ0_indexOf_7cf53_s6 x1 x2 = some r) (hP : va_P D vwCl (V0 u00) H) (hS : va_S (Ax (A0) s.heap.size) s.heap H locs) (hl : lv_has ls 3 [(0, .ref (st 6)), (1, .int x1), (2, .int x2)]) : W p l e rmJ0_indexOf_7cf53_s6 s m args below meth c H locs 0 0 (MQ below (Qi D (V0) (A0) s.heap.size r u00) args s 0 0 (Ax (A0) s.heap.size)) (F0 m 0 ls []) := by
  unfold fJ0_indexOf_7cf53_s6 at h
  refine lv_aload_n C.1 C.2.1 dJ0_indexOf_7cf53_0 rfl (lv_at hl 0 rfl) ?_
  obtain ⟨r1, hc3, h⟩ := bd_some h
  refine cz_i (kz := 6) (by decide) (As := []) (rest := []) A0_ge C hK hP hS (metJ0_isLatin1_aae02_s6 l D cy st _  hc3) (cwV 0 C.2.2.2.2.2.1 gJ0_indexOf_7cf53_J0_isLatin1_aae02 rfl rfl rfl (by decide +kernel) ⟨(Nat.le_of_ble_eq_true rfl), (Nat.le_of_ble_eq_true rfl)⟩) rfl hl.1 rfl (Nat.le_of_ble_eq_true rfl) dJ0_indexOf_7cf53_1 ⟨Nat.zero_le _, Nat.zero_le _⟩ (fun H locs hP hS => ?_)
  refine lv_if_eq (tgt := 23) C.1 C.2.1 dJ0_indexOf_7cf53_4 (by decide) (fun c4 => ?_) (fun c4 => ?_)
  · rw [if_pos c4] at h
    refine lv_aload_n C.1 C.2.1 dJ0_indexOf_7cf53_23 rfl (lv_at hl 0 rfl) ?_
    refine vk_getf C.1 C.2.1 (hK.2.2.2.2.2 6 (by decide)).2.2.1 (Zx_S hK.2.2.2 A0_ge hS) C.2.2.2.2.1 (C.2.2.2.2.2.1 _ mJ0_indexOf_7cf53_s6_0) (fun _ h => h) dJ0_indexOf_7cf53_24 ?_
    refine lv_iload_n C.1 C.2.1 dJ0_indexOf_7cf53_27 rfl (lv_at hl 1 rfl) ?_
    refine lv_iload_n C.1 C.2.1 dJ0_indexOf_7cf53_28 rfl (lv_at hl 2 rfl) ?_
    refine lv_aload_n C.1 C.2.1 dJ0_indexOf_7cf53_29 rfl (lv_at hl 0 rfl) ?_
    obtain ⟨r4, hc6, h⟩ := bd_some h
    refine cz_i (kz := 6) (by decide) (As := []) (rest := [.int x2, .int x1, .ref (st 16)]) A0_ge C hK hP hS (metJ0_length_8abf5_s6 l D cy st _  hc6) (cwV 0 C.2.2.2.2.2.1 gJ0_indexOf_7cf53_J0_length_8abf5 rfl rfl rfl (by decide +kernel) ⟨(Nat.le_of_ble_eq_true rfl), (Nat.le_of_ble_eq_true rfl)⟩) rfl hl.1 rfl (Nat.le_of_ble_eq_true rfl) dJ0_indexOf_7cf53_30 ⟨Nat.zero_le _, Nat.zero_le _⟩ (fun H locs hP hS => ?_)
    exact absurd h (by intro q; cases q)
  · rw [if_neg c4] at h
    refine lv_aload_n C.1 C.2.1 dJ0_indexOf_7cf53_7 rfl (lv_at hl 0 rfl) ?_
    refine vk_getf C.1 C.2.1 (hK.2.2.2.2.2 6 (by decide)).2.2.1 (Zx_S hK.2.2.2 A0_ge hS) C.2.2.2.2.1 (C.2.2.2.2.2.1 _ mJ0_indexOf_7cf53_s6_0) (fun _ h => h) dJ0_indexOf_7cf53_8 ?_
    refine lv_iload_n C.1 C.2.1 dJ0_indexOf_7cf53_11 rfl (lv_at hl 1 rfl) ?_
    refine lv_iload_n C.1 C.2.1 dJ0_indexOf_7cf53_12 rfl (lv_at hl 2 rfl) ?_
    refine lv_aload_n C.1 C.2.1 dJ0_indexOf_7cf53_13 rfl (lv_at hl 0 rfl) ?_
    obtain ⟨r7, hc9, h⟩ := bd_some h
    refine cz_i (kz := 6) (by decide) (As := []) (rest := [.int x2, .int x1, .ref (st 16)]) A0_ge C hK hP hS (metJ0_length_8abf5_s6 l D cy st _  hc9) (cwV 0 C.2.2.2.2.2.1 gJ0_indexOf_7cf53_J0_length_8abf5 rfl rfl rfl (by decide +kernel) ⟨(Nat.le_of_ble_eq_true rfl), (Nat.le_of_ble_eq_true rfl)⟩) rfl hl.1 rfl (Nat.le_of_ble_eq_true rfl) dJ0_indexOf_7cf53_14 ⟨Nat.zero_le _, Nat.zero_le _⟩ (fun H locs hP hS => ?_)
    obtain ⟨r10, hc12, h⟩ := bd_some h
    refine cs_i (As := [.ref (st 16), .int x1, .int x2, .int r7]) (rest := []) A0_ge C hK hP hS (metJ1_indexOf_4cfef_ab6 l D cy st _ x1 x2 r7 hc12) (va_cwS 4 C.2.2.2.2.2.1 gJ0_indexOf_7cf53_J1_indexOf_4cfef rfl rfl rfl (by decide +kernel) ⟨(Nat.le_of_ble_eq_true rfl), (Nat.le_of_ble_eq_true rfl)⟩) rfl hl.1 rfl (Nat.le_of_ble_eq_true rfl) dJ0_indexOf_7cf53_17 ⟨Nat.zero_le _, Nat.zero_le _⟩ (fun H locs hP hS => ?_)
    refine lv_goto (tgt := 36) C.1 C.2.1 dJ0_indexOf_7cf53_20 (by decide) ?_
    cases h
    exact rt_i C hP hS dJ0_indexOf_7cf53_36
theorem metJ0_indexOf_7cf53_s6 (l : Launch) (D : va_G) (cy : Nat → ClassId) (st : Nat → Nat) (sz : Nat) (x1 : Int32) (x2 : Int32) {r : Int32} (h : fJ0_indexOf_7cf53_s6 x1 x2 = some r) : Met l yJ0_indexOf_7cf53 wsJ0_indexOf_7cf53 rmJ0_indexOf_7cf53_s6 (va_Pc [.ref (st 6), .int x1, .int x2] (Px D [(cy 0, .int), (cy 1, .long), (cy 2, .boolean), (cy 3, .byte), (cy 4, .object "HissHorn$Text")] st V0 sz u00)) (Qi D V0 A0 sz r u00) 0 0 (Ax A0 sz) := by
  refine Met.ofW (cc := cJ0_indexOf_7cf53) (maxL := 3) (ret := (some .int)) (by decide) rfl ?_
  intro p e s m args below meth c s₁ B hml hv
  obtain ⟨rfl, hsz, hP, hK⟩ := hv
  subst hsz
  have C : Cx RJ0 cJ0_indexOf_7cf53 3 (some .int) wsJ0_indexOf_7cf53 p s m _ meth c := ⟨B.exec, B.bytes, hml, B.returns, findClass_of_methodNamed B.named, atoms_spec (ws := wsJ0_indexOf_7cf53) B.pre, B.notSynchronized⟩
  have hl := lv_entry ([.ref (st 6), .int x1, .int x2]) (n := 3) (Nat.le_of_ble_eq_true rfl)
  rw [lg_entry_eq]
  exact wJ0_indexOf_7cf53_s6 C hK x1 x2 h hP va_S.rf hl

/-- java/lang/String.indexOf(I)I of cell s6 -/
def rmJ0_indexOf_0f7a4_s6 : Room := { frames := 3, cells := 0, slots := 0, locals := 70 }
def fJ0_indexOf_0f7a4_s6 (x1 : Int32) : Option Int32 := ((fJ0_indexOf_7cf53_s6 x1 0).bind fun r1 => (some r1))
set_option maxHeartbeats 4000000 in
set_option maxRecDepth 100000 in
theorem wJ0_indexOf_0f7a4_s6 {p : Program} {l : Launch} {e : Env} {s : State} {m : MethodId} {args : Array Value} {below : List Frame} {meth : Method} {c : Code} {D : va_G} {cy : Nat → ClassId} {st : Nat → Nat} (C : Cx RJ0 cJ0_indexOf_0f7a4 2 (some .int) wsJ0_indexOf_0f7a4 p s m args meth c) (hK : Ky D [(cy 0, .int), (cy 1, .long), (cy 2, .boolean), (cy 3, .byte), (cy 4, .object "HissHorn$Text")] st s) (x1 : Int32) {r : Int32} {H : Heap} {locs : List Loc} {ls : Array Slot} (h : fJ0_indexOf_0f7a4_s6 x1 = some r) (hP : va_P D vwCl (V0 u00) H) (hS : va_S (Ax (A0) s.heap.size) s.heap H locs) (hl : lv_has ls 2 [(0, .ref (st 6)), (1, .int x1)]) : W p l e rmJ0_indexOf_0f7a4_s6 s m args below meth c H locs 0 0 (MQ below (Qi D (V0) (A0) s.heap.size r u00) args s 0 0 (Ax (A0) s.heap.size)) (F0 m 0 ls []) := by
  unfold fJ0_indexOf_0f7a4_s6 at h
  refine lv_aload_n C.1 C.2.1 dJ0_indexOf_0f7a4_0 rfl (lv_at hl 0 rfl) ?_
  refine lv_iload_n C.1 C.2.1 dJ0_indexOf_0f7a4_1 rfl (lv_at hl 1 rfl) ?_
  refine lv_iconst (v := 0) C.1 C.2.1 dJ0_indexOf_0f7a4_2 (by decide) ?_
  obtain ⟨r1, hc3, h⟩ := bd_some h
  refine cz_i (kz := 6) (by decide) (As := [.int x1, .int 0]) (rest := []) A0_ge C hK hP hS (metJ0_indexOf_7cf53_s6 l D cy st _ x1 0 hc3) (cwV 2 C.2.2.2.2.2.1 gJ0_indexOf_0f7a4_J0_indexOf_7cf53 rfl rfl rfl (by decide +kernel) ⟨(Nat.le_of_ble_eq_true rfl), (Nat.le_of_ble_eq_true rfl)⟩) rfl hl.1 rfl (Nat.le_of_ble_eq_true rfl) dJ0_indexOf_0f7a4_3 ⟨Nat.zero_le _, Nat.zero_le _⟩ (fun H locs hP hS => ?_)
  cases h
  exact rt_i C hP hS dJ0_indexOf_0f7a4_6
theorem metJ0_indexOf_0f7a4_s6 (l : Launch) (D : va_G) (cy : Nat → ClassId) (st : Nat → Nat) (sz : Nat) (x1 : Int32) {r : Int32} (h : fJ0_indexOf_0f7a4_s6 x1 = some r) : Met l yJ0_indexOf_0f7a4 wsJ0_indexOf_0f7a4 rmJ0_indexOf_0f7a4_s6 (va_Pc [.ref (st 6), .int x1] (Px D [(cy 0, .int), (cy 1, .long), (cy 2, .boolean), (cy 3, .byte), (cy 4, .object "HissHorn$Text")] st V0 sz u00)) (Qi D V0 A0 sz r u00) 0 0 (Ax A0 sz) := by
  refine Met.ofW (cc := cJ0_indexOf_0f7a4) (maxL := 2) (ret := (some .int)) (by decide) rfl ?_
  intro p e s m args below meth c s₁ B hml hv
  obtain ⟨rfl, hsz, hP, hK⟩ := hv
  subst hsz
  have C : Cx RJ0 cJ0_indexOf_0f7a4 2 (some .int) wsJ0_indexOf_0f7a4 p s m _ meth c := ⟨B.exec, B.bytes, hml, B.returns, findClass_of_methodNamed B.named, atoms_spec (ws := wsJ0_indexOf_0f7a4) B.pre, B.notSynchronized⟩
  have hl := lv_entry ([.ref (st 6), .int x1]) (n := 2) (Nat.le_of_ble_eq_true rfl)
  rw [lg_entry_eq]
  exact wJ0_indexOf_0f7a4_s6 C hK x1 h hP va_S.rf hl

/-- room of a recursion by its depth -/
def rmX12sumg (d : Nat) : Room := { frames := 4 + d, cells := 0, slots := 0, locals := 91 + 64 * d }
theorem rmX12sumg_f (d : Nat) : 4 ≤ (rmX12sumg d).frames := Nat.le_add_right _ _
theorem rmX12sumg_l (d : Nat) : 91 ≤ (rmX12sumg d).locals := Nat.le_add_right _ _
theorem rmX12sumg_sf (d : Nat) : (rmX12sumg d).frames + 1 ≤ (rmX12sumg (d + 1)).frames := Nat.le_refl _
theorem rmX12sumg_sl (d : Nat) {k : Nat} (h : k ≤ 64) : k + (rmX12sumg d).locals ≤ (rmX12sumg (d + 1)).locals := by show k + (91 + 64 * d) ≤ 91 + 64 * (d + 1); omega
def hRX12sumg (l : Launch) (D : va_G) (cy : Nat → ClassId) (ad st : Nat → Nat) (rc : Nat → Int32 → SX → Option (Int32 × SX)) (dd : Nat) : Prop := (∀ (sz : Nat)  (u : SX) (r : Int32) (u' : SX), rc 0  0 u = some (r, u') → Met l yX12_sum wsX12_sum (rmX12sumg dd) (va_Pc [.ref (ad 0)] (Px D [(cy 0, .int), (cy 1, .long), (cy 2, .boolean), (cy 3, .byte), (cy 4, .object "HissHorn$Text")] st (VM cy ad st) sz u)) (Qi D (VM cy ad st) (AM ad) sz r u') 0 0 (Ax (AM ad) sz)) ∧ (∀ (sz : Nat)  (u : SX) (r : Int32) (u' : SX), rc 1  0 u = some (r, u') → Met l yX12_term wsX12_term (rmX12sumg dd) (va_Pc [.ref (ad 0)] (Px D [(cy 0, .int), (cy 1, .long), (cy 2, .boolean), (cy 3, .byte), (cy 4, .object "HissHorn$Text")] st (VM cy ad st) sz u)) (Qi D (VM cy ad st) (AM ad) sz r u') 0 0 (Ax (AM ad) sz)) ∧ (∀ (sz : Nat)  (u : SX) (r : Int32) (u' : SX), rc 2  0 u = some (r, u') → Met l yX12_atom wsX12_atom (rmX12sumg dd) (va_Pc [.ref (ad 0)] (Px D [(cy 0, .int), (cy 1, .long), (cy 2, .boolean), (cy 3, .byte), (cy 4, .object "HissHorn$Text")] st (VM cy ad st) sz u)) (Qi D (VM cy ad st) (AM ad) sz r u') 0 0 (Ax (AM ad) sz))
