theorem dX11_within_0 : decode cX11_within 0 = .ok (.iload_n 0, 1) := by decide +kernel
theorem dX11_within_1 : decode cX11_within 1 = .ok (.iload_n 1, 1) := by decide +kernel
theorem dX11_within_2 : decode cX11_within 2 = .ok (.if_icmp .lt 12, 3) := by decide +kernel
theorem dX11_within_14 : decode cX11_within 14 = .ok (.iconst 0, 1) := by decide +kernel
theorem dX11_within_15 : decode cX11_within 15 = .ok (.ireturn, 1) := by decide +kernel
theorem dX11_within_5 : decode cX11_within 5 = .ok (.iload_n 0, 1) := by decide +kernel
theorem dX11_within_6 : decode cX11_within 6 = .ok (.iload_n 2, 1) := by decide +kernel
theorem dX11_within_7 : decode cX11_within 7 = .ok (.if_icmp .gt 7, 3) := by decide +kernel
theorem dX11_within_10 : decode cX11_within 10 = .ok (.iconst 1, 1) := by decide +kernel
theorem dX11_within_11 : decode cX11_within 11 = .ok (.goto 4, 3) := by decide +kernel
/-- HissHorn.within(III)Z -/
def rmX11_within : Room := { frames := 0, cells := 0, slots := 0, locals := 0 }
def fX11_within (x0 : Int32) (x1 : Int32) (x2 : Int32) : Option Int32 := (if x0 < x1 then (gd (isB 0) (some 0)) else (if x2 < x0 then (gd (isB 0) (some 0)) else (gd (isB 1) (some 1))))
set_option maxHeartbeats 4000000 in
set_option maxRecDepth 100000 in
theorem wX11_within {p : Program} {l : Launch} {e : Env} {s : State} {m : MethodId} {args : Array Value} {below : List Frame} {meth : Method} {c : Code} {D : va_G} {cy : Nat → ClassId} {st : Nat → Nat} (C : Cx RX11 cX11_within 3 (some .boolean) wsX11_within p s m args meth c) (hK : Kx D [(cy 0, .int), (cy 1, .long), (cy 2, .boolean), (cy 3, .byte), (cy 4, .object "HissHorn$Text")] st s) (x0 : Int32) (x1 : Int32) (x2 : Int32) {r : Int32} {H : Heap} {locs : List Loc} {ls : Array Slot} (h : fX11_within x0 x1 x2 = some r) (hP : va_P D vwCl (V0 u00) H) (hS : va_S (Ax (A0) s.heap.size) s.heap H locs) (hl : lv_has ls 3 [(0, .int x0), (1, .int x1), (2, .int x2)]) : W p l e rmX11_within s m args below meth c H locs 0 0 (MQ below (Qi D (V0) (A0) s.heap.size r u00) args s 0 0 (Ax (A0) s.heap.size)) (F0 m 0 ls []) := by
  unfold fX11_within at h
  refine lv_iload_n C.1 C.2.1 dX11_within_0 rfl (lv_at hl 0 rfl) ?_
  refine lv_iload_n C.1 C.2.1 dX11_within_1 rfl (lv_at hl 1 rfl) ?_
  refine lv_icmp_lt (tgt := 14) C.1 C.2.1 dX11_within_2 (by decide) (fun c2 => ?_) (fun c2 => ?_)
  · rw [if_pos c2] at h
    refine lv_iconst (v := 0) C.1 C.2.1 dX11_within_14 (by decide) ?_
    obtain ⟨hg1, h⟩ := gd_some h
    cases h
    exact rt_z hg1 C hP hS dX11_within_15
  · rw [if_neg c2] at h
    refine lv_iload_n C.1 C.2.1 dX11_within_5 rfl (lv_at hl 0 rfl) ?_
    refine lv_iload_n C.1 C.2.1 dX11_within_6 rfl (lv_at hl 2 rfl) ?_
    refine lv_icmp_gt (tgt := 14) C.1 C.2.1 dX11_within_7 (by decide) (fun c7 => ?_) (fun c7 => ?_)
    · rw [if_pos c7] at h
      refine lv_iconst (v := 0) C.1 C.2.1 dX11_within_14 (by decide) ?_
      obtain ⟨hg2, h⟩ := gd_some h
      cases h
      exact rt_z hg2 C hP hS dX11_within_15
    · rw [if_neg c7] at h
      refine lv_iconst (v := 1) C.1 C.2.1 dX11_within_10 (by decide) ?_
      refine lv_goto (tgt := 15) C.1 C.2.1 dX11_within_11 (by decide) ?_
      obtain ⟨hg3, h⟩ := gd_some h
      cases h
      exact rt_z hg3 C hP hS dX11_within_15
theorem metX11_within (l : Launch) (D : va_G) (cy : Nat → ClassId) (st : Nat → Nat) (sz : Nat) (x0 : Int32) (x1 : Int32) (x2 : Int32) {r : Int32} (h : fX11_within x0 x1 x2 = some r) : Met l yX11_within wsX11_within rmX11_within (va_Pc [.int x0, .int x1, .int x2] (Px D [(cy 0, .int), (cy 1, .long), (cy 2, .boolean), (cy 3, .byte), (cy 4, .object "HissHorn$Text")] st V0 sz u00)) (Qi D V0 A0 sz r u00) 0 0 (Ax A0 sz) := by
  refine Met.ofW (cc := cX11_within) (maxL := 3) (ret := (some .boolean)) (by decide) rfl ?_
  intro p e s m args below meth c s₁ B hml hv
  obtain ⟨rfl, hsz, hP, hK⟩ := hv
  subst hsz
  have C : Cx RX11 cX11_within 3 (some .boolean) wsX11_within p s m _ meth c := ⟨B.exec, B.bytes, hml, B.returns, findClass_of_methodNamed B.named, atoms_spec (ws := wsX11_within) B.pre, B.notSynchronized⟩
  have hl := lv_entry ([.int x0, .int x1, .int x2]) (n := 3) (Nat.le_of_ble_eq_true rfl)
  rw [lg_entry_eq]
  exact wX11_within C hK x0 x1 x2 h hP va_S.rf hl

theorem dX11_days_0 : decode cX11_days 0 = .ok (.iload_n 1, 1) := by decide +kernel
theorem dX11_days_1 : decode cX11_days 1 = .ok (.iconst 0, 1) := by decide +kernel
theorem dX11_days_2 : decode cX11_days 2 = .ok (.bipush 60, 2) := by decide +kernel
set_option maxRecDepth 20000 in
theorem ggX11_days_X11_within : GoodIn wsX11_days wsX11_within := goodIn_r _ [5] (by decide +kernel) (by decide +kernel)
set_option maxRecDepth 20000 in
theorem gX11_days_X11_within : GoodIn wsX11_days (va_wsS RX11 107 yX11_within wsX11_within) := goodIn_app (goodIn_of _ (by decide +kernel)) ggX11_days_X11_within
theorem dX11_days_4 : decode cX11_days 4 = .ok (.invokestatic 107, 3) := by decide +kernel
theorem dX11_days_7 : decode cX11_days 7 = .ok (.ifCond .eq 14, 3) := by decide +kernel
theorem dX11_days_21 : decode cX11_days 21 = .ok (.iconst (-1), 1) := by decide +kernel
theorem dX11_days_22 : decode cX11_days 22 = .ok (.ireturn, 1) := by decide +kernel
theorem dX11_days_10 : decode cX11_days 10 = .ok (.aload_n 0, 1) := by decide +kernel
theorem dX11_days_11 : decode cX11_days 11 = .ok (.getfield 103, 3) := by decide +kernel
theorem dX11_days_14 : decode cX11_days 14 = .ok (.iload_n 1, 1) := by decide +kernel
theorem dX11_days_15 : decode cX11_days 15 = .ok (.iadd, 1) := by decide +kernel
theorem dX11_days_16 : decode cX11_days 16 = .ok (.bipush 120, 2) := by decide +kernel
theorem dX11_days_18 : decode cX11_days 18 = .ok (.if_icmp .le 5, 3) := by decide +kernel
theorem dX11_days_23 : decode cX11_days 23 = .ok (.aload_n 0, 1) := by decide +kernel
theorem dX11_days_24 : decode cX11_days 24 = .ok (.dup, 1) := by decide +kernel
theorem dX11_days_25 : decode cX11_days 25 = .ok (.getfield 103, 3) := by decide +kernel
theorem dX11_days_28 : decode cX11_days 28 = .ok (.iload_n 1, 1) := by decide +kernel
theorem dX11_days_29 : decode cX11_days 29 = .ok (.iadd, 1) := by decide +kernel
theorem dX11_days_30 : decode cX11_days 30 = .ok (.putfield 103, 3) := by decide +kernel
theorem dX11_days_33 : decode cX11_days 33 = .ok (.aload_n 0, 1) := by decide +kernel
theorem dX11_days_34 : decode cX11_days 34 = .ok (.getfield 103, 3) := by decide +kernel
theorem dX11_days_37 : decode cX11_days 37 = .ok (.ireturn, 1) := by decide +kernel
/-- HissHorn.days(I)I of cell 0 -/
def rmX11_days_0 : Room := { frames := 1, cells := 0, slots := 0, locals := 22 }
theorem hX11_days_0_X11 : ∀ w ∈ u_ws RX11 TX11 13, w ∈ wsX11_days := fun w h => (List.mem_cons_of_mem _ (List.mem_append_right _ h))
theorem mX11_days_0_1 : Cond.fieldLink RX11 103 "HissHorn" "now" "I" ∈ wsX11_days := (List.mem_cons_of_mem _ (List.mem_append_left _ (List.mem_of_getElem? (i := 0) rfl)))
def fX11_days_0 (x1 : Int32) (u : SX) : Option (Int32 × SX) := ((fX11_within x1 0 60).bind fun r1 => (if r1 = 0 then (some ((-1), u)) else (if ((u.1 0) + x1) ≤ 120 then (lt (sI u 0 ((u.1 0) + x1)) fun u4 => (some (u4.1 0, u4))) else (some ((-1), u)))))
set_option maxHeartbeats 4000000 in
set_option maxRecDepth 100000 in
theorem wX11_days_0 {p : Program} {l : Launch} {e : Env} {s : State} {m : MethodId} {args : Array Value} {below : List Frame} {meth : Method} {c : Code} {D : va_G} {cy : Nat → ClassId} {ad st : Nat → Nat} (C : Cx RX11 cX11_days 2 (some .int) wsX11_days p s m args meth c) (hK : Kx D [(cy 0, .int), (cy 1, .long), (cy 2, .boolean), (cy 3, .byte), (cy 4, .object "HissHorn$Text")] st s) (hJ : JX ad) (x1 : Int32) {u : SX} {r : Int32} {u' : SX} {H : Heap} {locs : List Loc} {ls : Array Slot} (h : fX11_days_0 x1 u = some (r, u')) (hP : va_P D vwCl (VX cy ad st u) H) (hS : va_S (Ax (AX ad) s.heap.size) s.heap H locs) (hl : lv_has ls 2 [(0, .ref (ad 0)), (1, .int x1)]) : W p l e rmX11_days_0 s m args below meth c H locs 0 0 (MQ below (Qi D (VX cy ad st) (AX ad) s.heap.size r u') args s 0 0 (Ax (AX ad) s.heap.size)) (F0 m 0 ls []) := by
  unfold fX11_days_0 at h
  refine lv_iload_n C.1 C.2.1 dX11_days_0 rfl (lv_at hl 1 rfl) ?_
  refine lv_iconst (v := 0) C.1 C.2.1 dX11_days_1 (by decide) ?_
  refine lv_bipush (v := 60) C.1 C.2.1 dX11_days_2 (by decide) ?_
  obtain ⟨r1, hc3, h⟩ := bd_some h
  refine cs_i (As := [.int x1, .int 0, .int 60]) (rest := []) C hK hP hS (metX11_within l D cy st _ x1 0 60 hc3) (va_cwS 3 C.2.2.2.2.2.1 gX11_days_X11_within rfl rfl rfl (by decide +kernel) ⟨(Nat.le_of_ble_eq_true rfl), (Nat.le_of_ble_eq_true rfl)⟩) rfl hl.1 rfl (Nat.le_of_ble_eq_true rfl) dX11_days_4 ⟨Nat.zero_le _, Nat.zero_le _⟩ (fun H locs hP hS => ?_)
  refine lv_if_eq (tgt := 21) C.1 C.2.1 dX11_days_7 (by decide) (fun c7 => ?_) (fun c7 => ?_)
  · rw [if_pos c7] at h
    refine lv_iconst (v := (-1)) C.1 C.2.1 dX11_days_21 (by decide) ?_
    cases h
    exact rt_i C hP hS dX11_days_22
  · rw [if_neg c7] at h
    refine lv_aload_n C.1 C.2.1 dX11_days_10 rfl (lv_at hl 0 rfl) ?_
    refine gX_0_now C hX11_days_0_X11 hK hP mX11_days_0_1 dX11_days_11 ?_
    refine lv_iload_n C.1 C.2.1 dX11_days_14 rfl (lv_at hl 1 rfl) ?_
    refine lv_iadd C.1 C.2.1 dX11_days_15 ?_
    refine lv_bipush (v := 120) C.1 C.2.1 dX11_days_16 (by decide) ?_
    refine lv_icmp_le (tgt := 23) C.1 C.2.1 dX11_days_18 (by decide) (fun c18 => ?_) (fun c18 => ?_)
    · rw [if_pos c18] at h
      refine lv_aload_n C.1 C.2.1 dX11_days_23 rfl (lv_at hl 0 rfl) ?_
      refine lv_dup C.1 C.2.1 dX11_days_24 rfl ?_
      refine gX_0_now C hX11_days_0_X11 hK hP mX11_days_0_1 dX11_days_25 ?_
      refine lv_iload_n C.1 C.2.1 dX11_days_28 rfl (lv_at hl 1 rfl) ?_
      refine lv_iadd C.1 C.2.1 dX11_days_29 ?_
      refine pX_0_now C hX11_days_0_X11 hK hP hJ hS mX11_days_0_1 dX11_days_30 (fun H locs hP hS => ?_)
      obtain ⟨u4, hu5, h⟩ := lt_some h
      rw [← hu5] at hP
      refine lv_aload_n C.1 C.2.1 dX11_days_33 rfl (lv_at hl 0 rfl) ?_
      refine gX_0_now C hX11_days_0_X11 hK hP mX11_days_0_1 dX11_days_34 ?_
      cases h
      exact rt_i C hP hS dX11_days_37
    · rw [if_neg c18] at h
      refine lv_iconst (v := (-1)) C.1 C.2.1 dX11_days_21 (by decide) ?_
      cases h
      exact rt_i C hP hS dX11_days_22
theorem metX11_days_0 (l : Launch) (D : va_G) (cy : Nat → ClassId) (ad st : Nat → Nat) (hJ : JX ad) (sz : Nat) (x1 : Int32) {u : SX} {r : Int32} {u' : SX} (h : fX11_days_0 x1 u = some (r, u')) : Met l yX11_days wsX11_days rmX11_days_0 (va_Pc [.ref (ad 0), .int x1] (Px D [(cy 0, .int), (cy 1, .long), (cy 2, .boolean), (cy 3, .byte), (cy 4, .object "HissHorn$Text")] st (VX cy ad st) sz u)) (Qi D (VX cy ad st) (AX ad) sz r u') 0 0 (Ax (AX ad) sz) := by
  refine Met.ofW (cc := cX11_days) (maxL := 2) (ret := (some .int)) (by decide) rfl ?_
  intro p e s m args below meth c s₁ B hml hv
  obtain ⟨rfl, hsz, hP, hK⟩ := hv
  subst hsz
  have C : Cx RX11 cX11_days 2 (some .int) wsX11_days p s m _ meth c := ⟨B.exec, B.bytes, hml, B.returns, findClass_of_methodNamed B.named, atoms_spec (ws := wsX11_days) B.pre, B.notSynchronized⟩
  have hl := lv_entry ([.ref (ad 0), .int x1]) (n := 2) (Nat.le_of_ble_eq_true rfl)
  rw [lg_entry_eq]
  exact wX11_days_0 C hK hJ x1 h hP va_S.rf hl

theorem dX9_bytesOf_22 : decode cX9_bytesOf 22 = .ok (.iinc 2 (-8), 3) := by decide +kernel
theorem dX9_bytesOf_25 : decode cX9_bytesOf 25 = .ok (.goto (-20), 3) := by decide +kernel
theorem dX9_bytesOf_5 : decode cX9_bytesOf 5 = .ok (.iload_n 2, 1) := by decide +kernel
theorem dX9_bytesOf_6 : decode cX9_bytesOf 6 = .ok (.ifCond .lt 22, 3) := by decide +kernel
theorem dX9_bytesOf_28 : decode cX9_bytesOf 28 = .ok (.iload_n 1, 1) := by decide +kernel
theorem dX9_bytesOf_29 : decode cX9_bytesOf 29 = .ok (.ireturn, 1) := by decide +kernel
theorem dX9_bytesOf_9 : decode cX9_bytesOf 9 = .ok (.iload_n 0, 1) := by decide +kernel
theorem dX9_bytesOf_10 : decode cX9_bytesOf 10 = .ok (.iload_n 2, 1) := by decide +kernel
theorem dX9_bytesOf_11 : decode cX9_bytesOf 11 = .ok (.iushr, 1) := by decide +kernel
theorem dX9_bytesOf_12 : decode cX9_bytesOf 12 = .ok (.sipush 255, 3) := by decide +kernel
theorem dX9_bytesOf_15 : decode cX9_bytesOf 15 = .ok (.iand, 1) := by decide +kernel
theorem dX9_bytesOf_16 : decode cX9_bytesOf 16 = .ok (.ifCond .eq 6, 3) := by decide +kernel
theorem dX9_bytesOf_19 : decode cX9_bytesOf 19 = .ok (.iinc 1 1, 3) := by decide +kernel
theorem dX9_bytesOf_0 : decode cX9_bytesOf 0 = .ok (.iconst 0, 1) := by decide +kernel
theorem dX9_bytesOf_1 : decode cX9_bytesOf 1 = .ok (.istore_n 1, 1) := by decide +kernel
theorem dX9_bytesOf_2 : decode cX9_bytesOf 2 = .ok (.bipush 24, 2) := by decide +kernel
theorem dX9_bytesOf_4 : decode cX9_bytesOf 4 = .ok (.istore_n 2, 1) := by decide +kernel
/-- HissHorn$Tape.bytesOf(I)I -/
def rmX9_bytesOf : Room := { frames := 0, cells := 0, slots := 0, locals := 0 }
def GX9_bytesOf_22 (k5 : Int32 → Int32 → Int32 → Option Int32) (z0 : Int32) (z1 : Int32) (z2 : Int32) : Option Int32 := (k5 z0 z1 (z2 + (-8)))
def LX9_bytesOf_5  : Nat → Int32 → Int32 → Int32 → Option Int32
  | 0, _, _, _ => none
  | n + 1, z0, z1, z2 => (if z2 < 0 then (some z1) else (if (((z0.toUInt32 >>> (z2.toUInt32 &&& Int32.toUInt32 31)).toInt32) &&& 255) = 0 then (GX9_bytesOf_22 (LX9_bytesOf_5 n) z0 z1 z2) else (GX9_bytesOf_22 (LX9_bytesOf_5 n) z0 (z1 + 1) z2)))
def fX9_bytesOf (x0 : Int32) : Option Int32 := (LX9_bytesOf_5  5000 x0 0 24)
set_option maxHeartbeats 4000000 in
set_option maxRecDepth 100000 in
theorem wGX9_bytesOf_22 {p : Program} {l : Launch} {e : Env} {s : State} {m : MethodId} {args : Array Value} {below : List Frame} {meth : Method} {c : Code} {D : va_G} {cy : Nat → ClassId} {st : Nat → Nat} (C : Cx RX9 cX9_bytesOf 3 (some .int) wsX9_bytesOf p s m args meth c) (hK : Kx D [(cy 0, .int), (cy 1, .long), (cy 2, .boolean), (cy 3, .byte), (cy 4, .object "HissHorn$Text")] st s) {r : Int32} {k5 : Int32 → Int32 → Int32 → Option Int32} (hk5 : ∀ (z0 : Int32) (z1 : Int32) (z2 : Int32) (H : Heap) (locs : List Loc) (ls : Array Slot), k5 z0 z1 z2 = some r → va_P D vwCl (V0 u00) H → va_S (Ax (A0) s.heap.size) s.heap H locs → lv_has ls 3 [(0, .int z0), (1, .int z1), (2, .int z2)] → W p l e rmX9_bytesOf s m args below meth c H locs 0 0 (MQ below (Qi D (V0) (A0) s.heap.size r u00) args s 0 0 (Ax (A0) s.heap.size)) (F0 m 5 ls [])) (z0 : Int32) (z1 : Int32) (z2 : Int32) (H : Heap) (locs : List Loc) (ls : Array Slot) (h : GX9_bytesOf_22 k5 z0 z1 z2 = some r) (hP : va_P D vwCl (V0 u00) H) (hS : va_S (Ax (A0) s.heap.size) s.heap H locs) (hl : lv_has ls 3 [(0, .int z0), (1, .int z1), (2, .int z2)]) : W p l e rmX9_bytesOf s m args below meth c H locs 0 0 (MQ below (Qi D (V0) (A0) s.heap.size r u00) args s 0 0 (Ax (A0) s.heap.size)) (F0 m 22 ls []) := by
  unfold GX9_bytesOf_22 at h
  refine lv_iinc (v := z2 + (-8)) (lv' := [(2, .int (z2 + (-8))), (0, .int z0), (1, .int z1)]) C.1 C.2.1 dX9_bytesOf_22 hl (k := 2) rfl rfl (by decide) rfl (fun ls hl => ?_)
  replace hl := lv_sub (l' := [(0, .int z0), (1, .int z1), (2, .int (z2 + (-8)))]) hl [1, 2, 0] rfl
  refine lv_goto (tgt := 5) C.1 C.2.1 dX9_bytesOf_25 (by decide) ?_
  exact hk5 _ _ _ _ _ _ h hP hS hl
set_option maxHeartbeats 4000000 in
set_option maxRecDepth 100000 in
theorem wLX9_bytesOf_5 {p : Program} {l : Launch} {e : Env} {s : State} {m : MethodId} {args : Array Value} {below : List Frame} {meth : Method} {c : Code} {D : va_G} {cy : Nat → ClassId} {st : Nat → Nat} (C : Cx RX9 cX9_bytesOf 3 (some .int) wsX9_bytesOf p s m args meth c) (hK : Kx D [(cy 0, .int), (cy 1, .long), (cy 2, .boolean), (cy 3, .byte), (cy 4, .object "HissHorn$Text")] st s) {r : Int32}   : ∀ (n : Nat) (z0 : Int32) (z1 : Int32) (z2 : Int32) (H : Heap) (locs : List Loc) (ls : Array Slot), LX9_bytesOf_5  n z0 z1 z2 = some r → va_P D vwCl (V0 u00) H → va_S (Ax (A0) s.heap.size) s.heap H locs → lv_has ls 3 [(0, .int z0), (1, .int z1), (2, .int z2)] → W p l e rmX9_bytesOf s m args below meth c H locs 0 0 (MQ below (Qi D (V0) (A0) s.heap.size r u00) args s 0 0 (Ax (A0) s.heap.size)) (F0 m 5 ls []) := by
  intro n
  induction n with
  | zero =>
    intro z0 z1 z2 H locs ls h
    exact absurd h (by intro q; cases q)
  | succ n ih =>
    intro z0 z1 z2 H locs ls h hP hS hl
    rw [LX9_bytesOf_5] at h
    refine lv_iload_n C.1 C.2.1 dX9_bytesOf_5 rfl (lv_at hl 2 rfl) ?_
    refine lv_if_lt (tgt := 28) C.1 C.2.1 dX9_bytesOf_6 (by decide) (fun c6 => ?_) (fun c6 => ?_)
    · rw [if_pos c6] at h
      refine lv_iload_n C.1 C.2.1 dX9_bytesOf_28 rfl (lv_at hl 1 rfl) ?_
      cases h
      exact rt_i C hP hS dX9_bytesOf_29
    · rw [if_neg c6] at h
      refine lv_iload_n C.1 C.2.1 dX9_bytesOf_9 rfl (lv_at hl 0 rfl) ?_
      refine lv_iload_n C.1 C.2.1 dX9_bytesOf_10 rfl (lv_at hl 2 rfl) ?_
      refine lv_iushr (v := (z0.toUInt32 >>> (z2.toUInt32 &&& Int32.toUInt32 31)).toInt32) C.1 C.2.1 dX9_bytesOf_11 rfl ?_
      refine lv_sipush (v := 255) C.1 C.2.1 dX9_bytesOf_12 (by decide) ?_
      refine lv_iand C.1 C.2.1 dX9_bytesOf_15 ?_
      refine lv_if_eq (tgt := 22) C.1 C.2.1 dX9_bytesOf_16 (by decide) (fun c16 => ?_) (fun c16 => ?_)
      · rw [if_pos c16] at h
        exact wGX9_bytesOf_22 C hK ih _ _ _ _ _ _ h hP hS hl
      · rw [if_neg c16] at h
        refine lv_iinc (v := z1 + 1) (lv' := [(1, .int (z1 + 1)), (0, .int z0), (2, .int z2)]) C.1 C.2.1 dX9_bytesOf_19 hl (k := 1) rfl rfl (by decide) rfl (fun ls hl => ?_)
        replace hl := lv_sub (l' := [(0, .int z0), (1, .int (z1 + 1)), (2, .int z2)]) hl [1, 0, 2] rfl
        exact wGX9_bytesOf_22 C hK ih _ _ _ _ _ _ h hP hS hl
set_option maxHeartbeats 4000000 in
set_option maxRecDepth 100000 in
theorem wX9_bytesOf {p : Program} {l : Launch} {e : Env} {s : State} {m : MethodId} {args : Array Value} {below : List Frame} {meth : Method} {c : Code} {D : va_G} {cy : Nat → ClassId} {st : Nat → Nat} (C : Cx RX9 cX9_bytesOf 3 (some .int) wsX9_bytesOf p s m args meth c) (hK : Kx D [(cy 0, .int), (cy 1, .long), (cy 2, .boolean), (cy 3, .byte), (cy 4, .object "HissHorn$Text")] st s) (x0 : Int32) {r : Int32} {H : Heap} {locs : List Loc} {ls : Array Slot} (h : fX9_bytesOf x0 = some r) (hP : va_P D vwCl (V0 u00) H) (hS : va_S (Ax (A0) s.heap.size) s.heap H locs) (hl : lv_has ls 3 [(0, .int x0)]) : W p l e rmX9_bytesOf s m args below meth c H locs 0 0 (MQ below (Qi D (V0) (A0) s.heap.size r u00) args s 0 0 (Ax (A0) s.heap.size)) (F0 m 0 ls []) := by
  unfold fX9_bytesOf at h
  refine lv_iconst (v := 0) C.1 C.2.1 dX9_bytesOf_0 (by decide) ?_
  refine lv_istore_n (lv' := [(1, .int 0), (0, .int x0)]) C.1 C.2.1 dX9_bytesOf_1 rfl hl (by decide) rfl (fun ls hl => ?_)
  replace hl := lv_sub (l' := [(0, .int x0), (1, .int 0)]) hl [1, 0] rfl
  refine lv_bipush (v := 24) C.1 C.2.1 dX9_bytesOf_2 (by decide) ?_
  refine lv_istore_n (lv' := [(2, .int 24), (0, .int x0), (1, .int 0)]) C.1 C.2.1 dX9_bytesOf_4 rfl hl (by decide) rfl (fun ls hl => ?_)
  replace hl := lv_sub (l' := [(0, .int x0), (1, .int 0), (2, .int 24)]) hl [1, 2, 0] rfl
  exact wLX9_bytesOf_5 C hK  5000 _ _ _ _ _ _ h hP hS hl
theorem metX9_bytesOf (l : Launch) (D : va_G) (cy : Nat → ClassId) (st : Nat → Nat) (sz : Nat) (x0 : Int32) {r : Int32} (h : fX9_bytesOf x0 = some r) : Met l yX9_bytesOf wsX9_bytesOf rmX9_bytesOf (va_Pc [.int x0] (Px D [(cy 0, .int), (cy 1, .long), (cy 2, .boolean), (cy 3, .byte), (cy 4, .object "HissHorn$Text")] st V0 sz u00)) (Qi D V0 A0 sz r u00) 0 0 (Ax A0 sz) := by
  refine Met.ofW (cc := cX9_bytesOf) (maxL := 3) (ret := (some .int)) (by decide) rfl ?_
  intro p e s m args below meth c s₁ B hml hv
  obtain ⟨rfl, hsz, hP, hK⟩ := hv
  subst hsz
  have C : Cx RX9 cX9_bytesOf 3 (some .int) wsX9_bytesOf p s m _ meth c := ⟨B.exec, B.bytes, hml, B.returns, findClass_of_methodNamed B.named, atoms_spec (ws := wsX9_bytesOf) B.pre, B.notSynchronized⟩
  have hl := lv_entry ([.int x0]) (n := 3) (Nat.le_of_ble_eq_true rfl)
  rw [lg_entry_eq]
  exact wX9_bytesOf C hK x0 h hP va_S.rf hl

theorem dX9_append_48 : decode cX9_append 48 = .ok (.iinc 2 (-8), 3) := by decide +kernel
theorem dX9_append_51 : decode cX9_append 51 = .ok (.goto (-48), 3) := by decide +kernel
theorem dX9_append_3 : decode cX9_append 3 = .ok (.iload_n 2, 1) := by decide +kernel
theorem dX9_append_4 : decode cX9_append 4 = .ok (.ifCond .lt 50, 3) := by decide +kernel
theorem dX9_append_54 : decode cX9_append 54 = .ok (.return_, 1) := by decide +kernel
theorem dX9_append_7 : decode cX9_append 7 = .ok (.iload_n 1, 1) := by decide +kernel
theorem dX9_append_8 : decode cX9_append 8 = .ok (.iload_n 2, 1) := by decide +kernel
theorem dX9_append_9 : decode cX9_append 9 = .ok (.iushr, 1) := by decide +kernel
theorem dX9_append_10 : decode cX9_append 10 = .ok (.sipush 255, 3) := by decide +kernel
theorem dX9_append_13 : decode cX9_append 13 = .ok (.iand, 1) := by decide +kernel
theorem dX9_append_14 : decode cX9_append 14 = .ok (.istore_n 3, 1) := by decide +kernel
theorem dX9_append_15 : decode cX9_append 15 = .ok (.iload_n 3, 1) := by decide +kernel
theorem dX9_append_16 : decode cX9_append 16 = .ok (.ifCond .eq 32, 3) := by decide +kernel
theorem dX9_append_19 : decode cX9_append 19 = .ok (.aload_n 0, 1) := by decide +kernel
theorem dX9_append_20 : decode cX9_append 20 = .ok (.getfield 13, 3) := by decide +kernel
theorem dX9_append_23 : decode cX9_append 23 = .ok (.bipush 120, 2) := by decide +kernel
theorem dX9_append_25 : decode cX9_append 25 = .ok (.if_icmp .ge 23, 3) := by decide +kernel
theorem dX9_append_28 : decode cX9_append 28 = .ok (.aload_n 0, 1) := by decide +kernel
theorem dX9_append_29 : decode cX9_append 29 = .ok (.getfield 9, 3) := by decide +kernel
theorem dX9_append_32 : decode cX9_append 32 = .ok (.aload_n 0, 1) := by decide +kernel
theorem dX9_append_33 : decode cX9_append 33 = .ok (.getfield 13, 3) := by decide +kernel
theorem dX9_append_36 : decode cX9_append 36 = .ok (.iload_n 3, 1) := by decide +kernel
theorem dX9_append_37 : decode cX9_append 37 = .ok (.iastore, 1) := by decide +kernel
theorem dX9_append_38 : decode cX9_append 38 = .ok (.aload_n 0, 1) := by decide +kernel
theorem dX9_append_39 : decode cX9_append 39 = .ok (.dup, 1) := by decide +kernel
theorem dX9_append_40 : decode cX9_append 40 = .ok (.getfield 13, 3) := by decide +kernel
theorem dX9_append_43 : decode cX9_append 43 = .ok (.iconst 1, 1) := by decide +kernel
theorem dX9_append_44 : decode cX9_append 44 = .ok (.iadd, 1) := by decide +kernel
theorem dX9_append_45 : decode cX9_append 45 = .ok (.putfield 13, 3) := by decide +kernel
theorem dX9_append_0 : decode cX9_append 0 = .ok (.bipush 24, 2) := by decide +kernel
theorem dX9_append_2 : decode cX9_append 2 = .ok (.istore_n 2, 1) := by decide +kernel
/-- HissHorn$Tape.append(I)V of cell 1 -/
def rmX9_append_1 : Room := { frames := 0, cells := 0, slots := 0, locals := 0 }
def GX9_append_1_48 (k3 : Int32 → Int32 → SX → Option (Int32 × SX)) (z1 : Int32) (z2 : Int32) (u : SX) : Option (Int32 × SX) := (k3 z1 (z2 + (-8)) u)
theorem hX9_append_1_X9 : ∀ w ∈ u_ws RX9 TX9 2, w ∈ wsX9_append := fun w h => (List.mem_cons_of_mem _ (List.mem_append_right _ h))
theorem mX9_append_1_1 : Cond.fieldLink RX9 13 "HissHorn$Tape" "length" "I" ∈ wsX9_append := (List.mem_cons_of_mem _ (List.mem_append_left _ (List.mem_of_getElem? (i := 0) rfl)))
theorem mX9_append_1_2 : Cond.fieldLink RX9 9 "HissHorn$Tape" "bytes" "[I" ∈ wsX9_append := (List.mem_cons_of_mem _ (List.mem_append_left _ (List.mem_of_getElem? (i := 1) rfl)))
def LX9_append_1_3  : Nat → Int32 → Int32 → SX → Option (Int32 × SX)
  | 0, _, _, _ => none
  | n + 1, z1, z2, u => (if z2 < 0 then (some (0, u)) else (lt (((z1.toUInt32 >>> (z2.toUInt32 &&& Int32.toUInt32 31)).toInt32) &&& 255) fun v1 => (if v1 = 0 then (GX9_append_1_48 (LX9_append_1_3 n) z1 z2 u) else (if 120 ≤ (u.1 1) then (GX9_append_1_48 (LX9_append_1_3 n) z1 z2 u) else (gd (inb (u.1 1) 120) (lt (sA u 13 (upd (u.2.1 13) (u.1 1).toNatClampNeg v1)) fun u4 => (lt (sI u4 1 ((u4.1 1) + 1)) fun u6 => (GX9_append_1_48 (LX9_append_1_3 n) z1 z2 u6))))))))
def fX9_append_1 (x1 : Int32) (u : SX) : Option (Int32 × SX) := (LX9_append_1_3  5000 x1 24 u)
set_option maxHeartbeats 4000000 in
set_option maxRecDepth 100000 in
theorem wGX9_append_1_48 {p : Program} {l : Launch} {e : Env} {s : State} {m : MethodId} {args : Array Value} {below : List Frame} {meth : Method} {c : Code} {D : va_G} {cy : Nat → ClassId} {ad st : Nat → Nat} (C : Cx RX9 cX9_append 4 none wsX9_append p s m args meth c) (hK : Kx D [(cy 0, .int), (cy 1, .long), (cy 2, .boolean), (cy 3, .byte), (cy 4, .object "HissHorn$Text")] st s) (hJ : JX ad) {r : Int32} {u' : SX} {k3 : Int32 → Int32 → SX → Option (Int32 × SX)} (hk3 : ∀ (z1 : Int32) (z2 : Int32) (u : SX) (H : Heap) (locs : List Loc) (ls : Array Slot), k3 z1 z2 u = some (r, u') → va_P D vwCl (VX cy ad st u) H → va_S (Ax (AX ad) s.heap.size) s.heap H locs → lv_has ls 4 [(0, .ref (ad 1)), (1, .int z1), (2, .int z2)] → W p l e rmX9_append_1 s m args below meth c H locs 0 0 (MQ below (Qv D (VX cy ad st) (AX ad) s.heap.size r u') args s 0 0 (Ax (AX ad) s.heap.size)) (F0 m 3 ls [])) (z1 : Int32) (z2 : Int32) (u : SX) (H : Heap) (locs : List Loc) (ls : Array Slot) (h : GX9_append_1_48 k3 z1 z2 u = some (r, u')) (hP : va_P D vwCl (VX cy ad st u) H) (hS : va_S (Ax (AX ad) s.heap.size) s.heap H locs) (hl : lv_has ls 4 [(0, .ref (ad 1)), (1, .int z1), (2, .int z2)]) : W p l e rmX9_append_1 s m args below meth c H locs 0 0 (MQ below (Qv D (VX cy ad st) (AX ad) s.heap.size r u') args s 0 0 (Ax (AX ad) s.heap.size)) (F0 m 48 ls []) := by
  unfold GX9_append_1_48 at h
  refine lv_iinc (v := z2 + (-8)) (lv' := [(2, .int (z2 + (-8))), (0, .ref (ad 1)), (1, .int z1)]) C.1 C.2.1 dX9_append_48 hl (k := 2) rfl rfl (by decide) rfl (fun ls hl => ?_)
  replace hl := lv_sub (l' := [(0, .ref (ad 1)), (1, .int z1), (2, .int (z2 + (-8)))]) hl [1, 2, 0] rfl
  refine lv_goto (tgt := 3) C.1 C.2.1 dX9_append_51 (by decide) ?_
  exact hk3 _ _ _ _ _ _ h hP hS hl
set_option maxHeartbeats 4000000 in
set_option maxRecDepth 100000 in
theorem wLX9_append_1_3 {p : Program} {l : Launch} {e : Env} {s : State} {m : MethodId} {args : Array Value} {below : List Frame} {meth : Method} {c : Code} {D : va_G} {cy : Nat → ClassId} {ad st : Nat → Nat} (C : Cx RX9 cX9_append 4 none wsX9_append p s m args meth c) (hK : Kx D [(cy 0, .int), (cy 1, .long), (cy 2, .boolean), (cy 3, .byte), (cy 4, .object "HissHorn$Text")] st s) (hJ : JX ad) {r : Int32} {u' : SX}   : ∀ (n : Nat) (z1 : Int32) (z2 : Int32) (u : SX) (H : Heap) (locs : List Loc) (ls : Array Slot), LX9_append_1_3  n z1 z2 u = some (r, u') → va_P D vwCl (VX cy ad st u) H → va_S (Ax (AX ad) s.heap.size) s.heap H locs → lv_has ls 4 [(0, .ref (ad 1)), (1, .int z1), (2, .int z2)] → W p l e rmX9_append_1 s m args below meth c H locs 0 0 (MQ below (Qv D (VX cy ad st) (AX ad) s.heap.size r u') args s 0 0 (Ax (AX ad) s.heap.size)) (F0 m 3 ls []) := by
  intro n
  induction n with
  | zero =>
    intro z1 z2 u H locs ls h
    exact absurd h (by intro q; cases q)
  | succ n ih =>
    intro z1 z2 u H locs ls h hP hS hl
    rw [LX9_append_1_3] at h
    refine lv_iload_n C.1 C.2.1 dX9_append_3 rfl (lv_at hl 2 rfl) ?_
    refine lv_if_lt (tgt := 54) C.1 C.2.1 dX9_append_4 (by decide) (fun c4 => ?_) (fun c4 => ?_)
    · rw [if_pos c4] at h
      cases h
      exact rt_v C hP hS dX9_append_54
    · rw [if_neg c4] at h
      refine lv_iload_n C.1 C.2.1 dX9_append_7 rfl (lv_at hl 1 rfl) ?_
      refine lv_iload_n C.1 C.2.1 dX9_append_8 rfl (lv_at hl 2 rfl) ?_
      refine lv_iushr (v := (z1.toUInt32 >>> (z2.toUInt32 &&& Int32.toUInt32 31)).toInt32) C.1 C.2.1 dX9_append_9 rfl ?_
      refine lv_sipush (v := 255) C.1 C.2.1 dX9_append_10 (by decide) ?_
      refine lv_iand C.1 C.2.1 dX9_append_13 ?_
      refine lv_topi (fun v1 hv2 => ?_)
      replace h := lt_e hv2 h
      try dsimp only at h
      refine lv_istore_n (lv' := [(3, .int v1), (0, .ref (ad 1)), (1, .int z1), (2, .int z2)]) C.1 C.2.1 dX9_append_14 rfl hl (by decide) rfl (fun ls hl => ?_)
      replace hl := lv_sub (l' := [(0, .ref (ad 1)), (1, .int z1), (2, .int z2), (3, .int v1)]) hl [1, 2, 3, 0] rfl
      refine lv_iload_n C.1 C.2.1 dX9_append_15 rfl (lv_at hl 3 rfl) ?_
      refine lv_if_eq (tgt := 48) C.1 C.2.1 dX9_append_16 (by decide) (fun c16 => ?_) (fun c16 => ?_)
      · rw [if_pos c16] at h
        exact wGX9_append_1_48 C hK hJ ih _ _ _ _ _ _ h hP hS (lv_sub hl [0, 1, 2] rfl)
      · rw [if_neg c16] at h
        refine lv_aload_n C.1 C.2.1 dX9_append_19 rfl (lv_at hl 0 rfl) ?_
        refine gX_1_length C hX9_append_1_X9 hK hP mX9_append_1_1 dX9_append_20 ?_
        refine lv_bipush (v := 120) C.1 C.2.1 dX9_append_23 (by decide) ?_
        refine lv_icmp_ge (tgt := 48) C.1 C.2.1 dX9_append_25 (by decide) (fun c25 => ?_) (fun c25 => ?_)
        · rw [if_pos c25] at h
          exact wGX9_append_1_48 C hK hJ ih _ _ _ _ _ _ h hP hS (lv_sub hl [0, 1, 2] rfl)
        · rw [if_neg c25] at h
          refine lv_aload_n C.1 C.2.1 dX9_append_28 rfl (lv_at hl 0 rfl) ?_
          refine gX_1_bytes C hX9_append_1_X9 hK hP mX9_append_1_2 dX9_append_29 ?_
          refine lv_aload_n C.1 C.2.1 dX9_append_32 rfl (lv_at hl 0 rfl) ?_
          refine gX_1_length C hX9_append_1_X9 hK hP mX9_append_1_1 dX9_append_33 ?_
          refine lv_iload_n C.1 C.2.1 dX9_append_36 rfl (lv_at hl 3 rfl) ?_
          obtain ⟨hg3, h⟩ := gd_some h
          refine tX_13 C hK hP hJ hS hg3 dX9_append_37 (fun H locs hP hS => ?_)
          obtain ⟨u4, hu5, h⟩ := lt_some h
          rw [← hu5] at hP
          refine lv_aload_n C.1 C.2.1 dX9_append_38 rfl (lv_at hl 0 rfl) ?_
          refine lv_dup C.1 C.2.1 dX9_append_39 rfl ?_
          refine gX_1_length C hX9_append_1_X9 hK hP mX9_append_1_1 dX9_append_40 ?_
          refine lv_iconst (v := 1) C.1 C.2.1 dX9_append_43 (by decide) ?_
          refine lv_iadd C.1 C.2.1 dX9_append_44 ?_
          refine pX_1_length C hX9_append_1_X9 hK hP hJ hS mX9_append_1_1 dX9_append_45 (fun H locs hP hS => ?_)
          obtain ⟨u6, hu7, h⟩ := lt_some h
          rw [← hu7] at hP
          exact wGX9_append_1_48 C hK hJ ih _ _ _ _ _ _ h hP hS (lv_sub hl [0, 1, 2] rfl)
set_option maxHeartbeats 4000000 in
set_option maxRecDepth 100000 in
theorem wX9_append_1 {p : Program} {l : Launch} {e : Env} {s : State} {m : MethodId} {args : Array Value} {below : List Frame} {meth : Method} {c : Code} {D : va_G} {cy : Nat → ClassId} {ad st : Nat → Nat} (C : Cx RX9 cX9_append 4 none wsX9_append p s m args meth c) (hK : Kx D [(cy 0, .int), (cy 1, .long), (cy 2, .boolean), (cy 3, .byte), (cy 4, .object "HissHorn$Text")] st s) (hJ : JX ad) (x1 : Int32) {u : SX} {r : Int32} {u' : SX} {H : Heap} {locs : List Loc} {ls : Array Slot} (h : fX9_append_1 x1 u = some (r, u')) (hP : va_P D vwCl (VX cy ad st u) H) (hS : va_S (Ax (AX ad) s.heap.size) s.heap H locs) (hl : lv_has ls 4 [(0, .ref (ad 1)), (1, .int x1)]) : W p l e rmX9_append_1 s m args below meth c H locs 0 0 (MQ below (Qv D (VX cy ad st) (AX ad) s.heap.size r u') args s 0 0 (Ax (AX ad) s.heap.size)) (F0 m 0 ls []) := by
  unfold fX9_append_1 at h
  refine lv_bipush (v := 24) C.1 C.2.1 dX9_append_0 (by decide) ?_
  refine lv_istore_n (lv' := [(2, .int 24), (0, .ref (ad 1)), (1, .int x1)]) C.1 C.2.1 dX9_append_2 rfl hl (by decide) rfl (fun ls hl => ?_)
  replace hl := lv_sub (l' := [(0, .ref (ad 1)), (1, .int x1), (2, .int 24)]) hl [1, 2, 0] rfl
  exact wLX9_append_1_3 C hK hJ  5000 _ _ _ _ _ _ h hP hS hl
theorem metX9_append_1 (l : Launch) (D : va_G) (cy : Nat → ClassId) (ad st : Nat → Nat) (hJ : JX ad) (sz : Nat) (x1 : Int32) {u : SX} {r : Int32} {u' : SX} (h : fX9_append_1 x1 u = some (r, u')) : Met l yX9_append wsX9_append rmX9_append_1 (va_Pc [.ref (ad 1), .int x1] (Px D [(cy 0, .int), (cy 1, .long), (cy 2, .boolean), (cy 3, .byte), (cy 4, .object "HissHorn$Text")] st (VX cy ad st) sz u)) (Qv D (VX cy ad st) (AX ad) sz r u') 0 0 (Ax (AX ad) sz) := by
  refine Met.ofW (cc := cX9_append) (maxL := 4) (ret := none) (by decide) rfl ?_
  intro p e s m args below meth c s₁ B hml hv
  obtain ⟨rfl, hsz, hP, hK⟩ := hv
  subst hsz
  have C : Cx RX9 cX9_append 4 none wsX9_append p s m _ meth c := ⟨B.exec, B.bytes, hml, B.returns, findClass_of_methodNamed B.named, atoms_spec (ws := wsX9_append) B.pre, B.notSynchronized⟩
  have hl := lv_entry ([.ref (ad 1), .int x1]) (n := 4) (Nat.le_of_ble_eq_true rfl)
  rw [lg_entry_eq]
  exact wX9_append_1 C hK hJ x1 h hP va_S.rf hl

theorem dX11_feed_0 : decode cX11_feed 0 = .ok (.iload_n 1, 1) := by decide +kernel
set_option maxRecDepth 20000 in
theorem ggX11_feed_X9_bytesOf : GoodIn wsX11_feed wsX9_bytesOf := goodIn_r _ [6] (by decide +kernel) (by decide +kernel)
set_option maxRecDepth 20000 in
theorem gX11_feed_X9_bytesOf : GoodIn wsX11_feed (va_wsS RX11 111 yX9_bytesOf wsX9_bytesOf) := goodIn_app (goodIn_of _ (by decide +kernel)) ggX11_feed_X9_bytesOf
theorem dX11_feed_1 : decode cX11_feed 1 = .ok (.invokestatic 111, 3) := by decide +kernel
theorem dX11_feed_4 : decode cX11_feed 4 = .ok (.iload_n 2, 1) := by decide +kernel
theorem dX11_feed_5 : decode cX11_feed 5 = .ok (.invokestatic 111, 3) := by decide +kernel
theorem dX11_feed_8 : decode cX11_feed 8 = .ok (.iadd, 1) := by decide +kernel
theorem dX11_feed_9 : decode cX11_feed 9 = .ok (.iload_n 3, 1) := by decide +kernel
theorem dX11_feed_10 : decode cX11_feed 10 = .ok (.invokestatic 111, 3) := by decide +kernel
theorem dX11_feed_13 : decode cX11_feed 13 = .ok (.iadd, 1) := by decide +kernel
theorem dX11_feed_14 : decode cX11_feed 14 = .ok (.iload 4, 2) := by decide +kernel
theorem dX11_feed_16 : decode cX11_feed 16 = .ok (.invokestatic 111, 3) := by decide +kernel
theorem dX11_feed_19 : decode cX11_feed 19 = .ok (.iadd, 1) := by decide +kernel
theorem dX11_feed_20 : decode cX11_feed 20 = .ok (.iload 5, 2) := by decide +kernel
theorem dX11_feed_22 : decode cX11_feed 22 = .ok (.invokestatic 111, 3) := by decide +kernel
theorem dX11_feed_25 : decode cX11_feed 25 = .ok (.iadd, 1) := by decide +kernel
theorem dX11_feed_26 : decode cX11_feed 26 = .ok (.istore 6, 2) := by decide +kernel
theorem dX11_feed_28 : decode cX11_feed 28 = .ok (.aload_n 0, 1) := by decide +kernel
theorem dX11_feed_29 : decode cX11_feed 29 = .ok (.getfield 10, 3) := by decide +kernel
theorem dX11_feed_32 : decode cX11_feed 32 = .ok (.getfield 115, 3) := by decide +kernel
theorem dX11_feed_35 : decode cX11_feed 35 = .ok (.iload 6, 2) := by decide +kernel
theorem dX11_feed_37 : decode cX11_feed 37 = .ok (.iadd, 1) := by decide +kernel
theorem dX11_feed_38 : decode cX11_feed 38 = .ok (.bipush 120, 2) := by decide +kernel
theorem dX11_feed_40 : decode cX11_feed 40 = .ok (.if_icmp .le 5, 3) := by decide +kernel
theorem dX11_feed_45 : decode cX11_feed 45 = .ok (.aload_n 0, 1) := by decide +kernel
theorem dX11_feed_46 : decode cX11_feed 46 = .ok (.getfield 10, 3) := by decide +kernel
theorem dX11_feed_49 : decode cX11_feed 49 = .ok (.iload_n 1, 1) := by decide +kernel
set_option maxRecDepth 20000 in
theorem ggX11_feed_X9_append : GoodIn wsX11_feed wsX9_append := goodIn_r _ [10, 11, 12, 26, 27] (by decide +kernel) (by decide +kernel)
set_option maxRecDepth 20000 in
theorem gX11_feed_X9_append : GoodIn wsX11_feed (wsV RX11 118 RX9 yX9_append wsX9_append) := goodIn_app (goodIn_of _ (by decide +kernel)) ggX11_feed_X9_append
theorem dX11_feed_50 : decode cX11_feed 50 = .ok (.invokevirtual 118, 3) := by decide +kernel
theorem dX11_feed_53 : decode cX11_feed 53 = .ok (.aload_n 0, 1) := by decide +kernel
theorem dX11_feed_54 : decode cX11_feed 54 = .ok (.getfield 10, 3) := by decide +kernel
theorem dX11_feed_57 : decode cX11_feed 57 = .ok (.iload_n 2, 1) := by decide +kernel
theorem dX11_feed_58 : decode cX11_feed 58 = .ok (.invokevirtual 118, 3) := by decide +kernel
theorem dX11_feed_61 : decode cX11_feed 61 = .ok (.aload_n 0, 1) := by decide +kernel
theorem dX11_feed_62 : decode cX11_feed 62 = .ok (.getfield 10, 3) := by decide +kernel
theorem dX11_feed_65 : decode cX11_feed 65 = .ok (.iload_n 3, 1) := by decide +kernel
theorem dX11_feed_66 : decode cX11_feed 66 = .ok (.invokevirtual 118, 3) := by decide +kernel
theorem dX11_feed_69 : decode cX11_feed 69 = .ok (.aload_n 0, 1) := by decide +kernel
theorem dX11_feed_70 : decode cX11_feed 70 = .ok (.getfield 10, 3) := by decide +kernel
theorem dX11_feed_73 : decode cX11_feed 73 = .ok (.iload 4, 2) := by decide +kernel
theorem dX11_feed_75 : decode cX11_feed 75 = .ok (.invokevirtual 118, 3) := by decide +kernel
theorem dX11_feed_78 : decode cX11_feed 78 = .ok (.aload_n 0, 1) := by decide +kernel
theorem dX11_feed_79 : decode cX11_feed 79 = .ok (.getfield 10, 3) := by decide +kernel
theorem dX11_feed_82 : decode cX11_feed 82 = .ok (.iload 5, 2) := by decide +kernel
theorem dX11_feed_84 : decode cX11_feed 84 = .ok (.invokevirtual 118, 3) := by decide +kernel
theorem dX11_feed_87 : decode cX11_feed 87 = .ok (.aload_n 0, 1) := by decide +kernel
theorem dX11_feed_88 : decode cX11_feed 88 = .ok (.getfield 10, 3) := by decide +kernel
theorem dX11_feed_91 : decode cX11_feed 91 = .ok (.getfield 115, 3) := by decide +kernel
theorem dX11_feed_94 : decode cX11_feed 94 = .ok (.ireturn, 1) := by decide +kernel
theorem dX11_feed_43 : decode cX11_feed 43 = .ok (.iconst (-1), 1) := by decide +kernel
theorem dX11_feed_44 : decode cX11_feed 44 = .ok (.ireturn, 1) := by decide +kernel
/-- HissHorn.feed(IIIII)I of cell 0 -/
def rmX11_feed_0 : Room := { frames := 1, cells := 0, slots := 0, locals := 23 }
theorem hX11_feed_0_X11 : ∀ w ∈ u_ws RX11 TX11 13, w ∈ wsX11_feed := fun w h => (List.mem_cons_of_mem _ (List.mem_append_left _ (List.mem_append_right _ h)))
theorem mX11_feed_0_1 : Cond.fieldLink RX11 10 "HissHorn" "tape" "LHissHorn$Tape;" ∈ wsX11_feed := (List.mem_cons_of_mem _ (List.mem_append_left _ (List.mem_append_left _ (List.mem_of_getElem? (i := 0) rfl))))
theorem hX11_feed_0_X9 : ∀ w ∈ u_ws RX9 TX9 2, w ∈ wsX11_feed := fun w h => (List.mem_cons_of_mem _ (List.mem_append_right _ h))
theorem mX11_feed_0_3 : Cond.fieldLink RX11 115 "HissHorn$Tape" "length" "I" ∈ wsX11_feed := (List.mem_cons_of_mem _ (List.mem_append_left _ (List.mem_append_left _ (List.mem_of_getElem? (i := 1) rfl))))
def fX11_feed_0 (x1 : Int32) (x2 : Int32) (x3 : Int32) (x4 : Int32) (x5 : Int32) (u : SX) : Option (Int32 × SX) := ((fX9_bytesOf x1).bind fun r1 => ((fX9_bytesOf x2).bind fun r4 => ((fX9_bytesOf x3).bind fun r7 => ((fX9_bytesOf x4).bind fun r10 => ((fX9_bytesOf x5).bind fun r13 => (lt ((((r1 + r4) + r7) + r10) + r13) fun v16 => (if ((u.1 1) + v16) ≤ 120 then ((fX9_append_1 x1 u).bind fun q => match q with | (r18, u19) => ((fX9_append_1 x2 u19).bind fun q => match q with | (r21, u22) => ((fX9_append_1 x3 u22).bind fun q => match q with | (r24, u25) => ((fX9_append_1 x4 u25).bind fun q => match q with | (r27, u28) => ((fX9_append_1 x5 u28).bind fun q => match q with | (r30, u31) => (some (u31.1 1, u31))))))) else (some ((-1), u)))))))))
set_option maxHeartbeats 4000000 in
set_option maxRecDepth 100000 in
theorem wX11_feed_0 {p : Program} {l : Launch} {e : Env} {s : State} {m : MethodId} {args : Array Value} {below : List Frame} {meth : Method} {c : Code} {D : va_G} {cy : Nat → ClassId} {ad st : Nat → Nat} (C : Cx RX11 cX11_feed 7 (some .int) wsX11_feed p s m args meth c) (hK : Kx D [(cy 0, .int), (cy 1, .long), (cy 2, .boolean), (cy 3, .byte), (cy 4, .object "HissHorn$Text")] st s) (hJ : JX ad) (x1 : Int32) (x2 : Int32) (x3 : Int32) (x4 : Int32) (x5 : Int32) {u : SX} {r : Int32} {u' : SX} {H : Heap} {locs : List Loc} {ls : Array Slot} (h : fX11_feed_0 x1 x2 x3 x4 x5 u = some (r, u')) (hP : va_P D vwCl (VX cy ad st u) H) (hS : va_S (Ax (AX ad) s.heap.size) s.heap H locs) (hl : lv_has ls 7 [(0, .ref (ad 0)), (1, .int x1), (2, .int x2), (3, .int x3), (4, .int x4), (5, .int x5)]) : W p l e rmX11_feed_0 s m args below meth c H locs 0 0 (MQ below (Qi D (VX cy ad st) (AX ad) s.heap.size r u') args s 0 0 (Ax (AX ad) s.heap.size)) (F0 m 0 ls []) := by
  unfold fX11_feed_0 at h
  refine lv_iload_n C.1 C.2.1 dX11_feed_0 rfl (lv_at hl 1 rfl) ?_
  obtain ⟨r1, hc3, h⟩ := bd_some h
  refine cs_i (As := [.int x1]) (rest := []) C hK hP hS (metX9_bytesOf l D cy st _ x1 hc3) (va_cwS 1 C.2.2.2.2.2.1 gX11_feed_X9_bytesOf rfl rfl rfl (by decide +kernel) ⟨(Nat.le_of_ble_eq_true rfl), (Nat.le_of_ble_eq_true rfl)⟩) rfl hl.1 rfl (Nat.le_of_ble_eq_true rfl) dX11_feed_1 ⟨Nat.zero_le _, Nat.zero_le _⟩ (fun H locs hP hS => ?_)
  refine lv_iload_n C.1 C.2.1 dX11_feed_4 rfl (lv_at hl 2 rfl) ?_
  obtain ⟨r4, hc6, h⟩ := bd_some h
  refine cs_i (As := [.int x2]) (rest := [.int r1]) C hK hP hS (metX9_bytesOf l D cy st _ x2 hc6) (va_cwS 1 C.2.2.2.2.2.1 gX11_feed_X9_bytesOf rfl rfl rfl (by decide +kernel) ⟨(Nat.le_of_ble_eq_true rfl), (Nat.le_of_ble_eq_true rfl)⟩) rfl hl.1 rfl (Nat.le_of_ble_eq_true rfl) dX11_feed_5 ⟨Nat.zero_le _, Nat.zero_le _⟩ (fun H locs hP hS => ?_)
  refine lv_iadd C.1 C.2.1 dX11_feed_8 ?_
  refine lv_iload_n C.1 C.2.1 dX11_feed_9 rfl (lv_at hl 3 rfl) ?_
  obtain ⟨r7, hc9, h⟩ := bd_some h
  refine cs_i (As := [.int x3]) (rest := [.int (r1 + r4)]) C hK hP hS (metX9_bytesOf l D cy st _ x3 hc9) (va_cwS 1 C.2.2.2.2.2.1 gX11_feed_X9_bytesOf rfl rfl rfl (by decide +kernel) ⟨(Nat.le_of_ble_eq_true rfl), (Nat.le_of_ble_eq_true rfl)⟩) rfl hl.1 rfl (Nat.le_of_ble_eq_true rfl) dX11_feed_10 ⟨Nat.zero_le _, Nat.zero_le _⟩ (fun H locs hP hS => ?_)
  refine lv_iadd C.1 C.2.1 dX11_feed_13 ?_
  refine lv_iload C.1 C.2.1 dX11_feed_14 (lv_at hl 4 rfl) ?_
  obtain ⟨r10, hc12, h⟩ := bd_some h
  refine cs_i (As := [.int x4]) (rest := [.int ((r1 + r4) + r7)]) C hK hP hS (metX9_bytesOf l D cy st _ x4 hc12) (va_cwS 1 C.2.2.2.2.2.1 gX11_feed_X9_bytesOf rfl rfl rfl (by decide +kernel) ⟨(Nat.le_of_ble_eq_true rfl), (Nat.le_of_ble_eq_true rfl)⟩) rfl hl.1 rfl (Nat.le_of_ble_eq_true rfl) dX11_feed_16 ⟨Nat.zero_le _, Nat.zero_le _⟩ (fun H locs hP hS => ?_)
  refine lv_iadd C.1 C.2.1 dX11_feed_19 ?_
  refine lv_iload C.1 C.2.1 dX11_feed_20 (lv_at hl 5 rfl) ?_
  obtain ⟨r13, hc15, h⟩ := bd_some h
  refine cs_i (As := [.int x5]) (rest := [.int (((r1 + r4) + r7) + r10)]) C hK hP hS (metX9_bytesOf l D cy st _ x5 hc15) (va_cwS 1 C.2.2.2.2.2.1 gX11_feed_X9_bytesOf rfl rfl rfl (by decide +kernel) ⟨(Nat.le_of_ble_eq_true rfl), (Nat.le_of_ble_eq_true rfl)⟩) rfl hl.1 rfl (Nat.le_of_ble_eq_true rfl) dX11_feed_22 ⟨Nat.zero_le _, Nat.zero_le _⟩ (fun H locs hP hS => ?_)
  refine lv_iadd C.1 C.2.1 dX11_feed_25 ?_
  refine lv_topi (fun v16 hv17 => ?_)
  replace h := lt_e hv17 h
  try dsimp only at h
  refine lv_istore (lv' := [(6, .int v16), (0, .ref (ad 0)), (1, .int x1), (2, .int x2), (3, .int x3), (4, .int x4), (5, .int x5)]) C.1 C.2.1 dX11_feed_26 hl (by decide) rfl (fun ls hl => ?_)
  replace hl := lv_sub (l' := [(0, .ref (ad 0)), (1, .int x1), (2, .int x2), (3, .int x3), (4, .int x4), (5, .int x5), (6, .int v16)]) hl [1, 2, 3, 4, 5, 6, 0] rfl
  refine lv_aload_n C.1 C.2.1 dX11_feed_28 rfl (lv_at hl 0 rfl) ?_
  refine gX_0_tape C hX11_feed_0_X11 hK hP mX11_feed_0_1 dX11_feed_29 ?_
  refine gX_1_length C hX11_feed_0_X9 hK hP mX11_feed_0_3 dX11_feed_32 ?_
  refine lv_iload C.1 C.2.1 dX11_feed_35 (lv_at hl 6 rfl) ?_
  refine lv_iadd C.1 C.2.1 dX11_feed_37 ?_
  refine lv_bipush (v := 120) C.1 C.2.1 dX11_feed_38 (by decide) ?_
  refine lv_icmp_le (tgt := 45) C.1 C.2.1 dX11_feed_40 (by decide) (fun c40 => ?_) (fun c40 => ?_)
  · rw [if_pos c40] at h
    refine lv_aload_n C.1 C.2.1 dX11_feed_45 rfl (lv_at hl 0 rfl) ?_
    refine gX_0_tape C hX11_feed_0_X11 hK hP mX11_feed_0_1 dX11_feed_46 ?_
    refine lv_iload_n C.1 C.2.1 dX11_feed_49 rfl (lv_at hl 1 rfl) ?_
    obtain ⟨⟨r18, u19⟩, hc20, h⟩ := bd_some h
    try dsimp only at h
    refine cg_v (As := [.int x1]) (rest := []) C hK hP hS (metX9_append_1 l D cy ad st hJ _ x1 hc20) (cwV 1 C.2.2.2.2.2.1 gX11_feed_X9_append rfl rfl rfl (by decide +kernel) ⟨(Nat.le_of_ble_eq_true rfl), (Nat.le_of_ble_eq_true rfl)⟩) 1 9 rfl rfl rfl hl.1 rfl (Nat.le_of_ble_eq_true rfl) dX11_feed_50 ⟨Nat.zero_le _, Nat.zero_le _⟩ (fun H locs hP hS => ?_)
    refine lv_aload_n C.1 C.2.1 dX11_feed_53 rfl (lv_at hl 0 rfl) ?_
    refine gX_0_tape C hX11_feed_0_X11 hK hP mX11_feed_0_1 dX11_feed_54 ?_
    refine lv_iload_n C.1 C.2.1 dX11_feed_57 rfl (lv_at hl 2 rfl) ?_
    obtain ⟨⟨r21, u22⟩, hc23, h⟩ := bd_some h
    try dsimp only at h
    refine cg_v (As := [.int x2]) (rest := []) C hK hP hS (metX9_append_1 l D cy ad st hJ _ x2 hc23) (cwV 1 C.2.2.2.2.2.1 gX11_feed_X9_append rfl rfl rfl (by decide +kernel) ⟨(Nat.le_of_ble_eq_true rfl), (Nat.le_of_ble_eq_true rfl)⟩) 1 9 rfl rfl rfl hl.1 rfl (Nat.le_of_ble_eq_true rfl) dX11_feed_58 ⟨Nat.zero_le _, Nat.zero_le _⟩ (fun H locs hP hS => ?_)
    refine lv_aload_n C.1 C.2.1 dX11_feed_61 rfl (lv_at hl 0 rfl) ?_
    refine gX_0_tape C hX11_feed_0_X11 hK hP mX11_feed_0_1 dX11_feed_62 ?_
    refine lv_iload_n C.1 C.2.1 dX11_feed_65 rfl (lv_at hl 3 rfl) ?_
    obtain ⟨⟨r24, u25⟩, hc26, h⟩ := bd_some h
    try dsimp only at h
    refine cg_v (As := [.int x3]) (rest := []) C hK hP hS (metX9_append_1 l D cy ad st hJ _ x3 hc26) (cwV 1 C.2.2.2.2.2.1 gX11_feed_X9_append rfl rfl rfl (by decide +kernel) ⟨(Nat.le_of_ble_eq_true rfl), (Nat.le_of_ble_eq_true rfl)⟩) 1 9 rfl rfl rfl hl.1 rfl (Nat.le_of_ble_eq_true rfl) dX11_feed_66 ⟨Nat.zero_le _, Nat.zero_le _⟩ (fun H locs hP hS => ?_)
    refine lv_aload_n C.1 C.2.1 dX11_feed_69 rfl (lv_at hl 0 rfl) ?_
    refine gX_0_tape C hX11_feed_0_X11 hK hP mX11_feed_0_1 dX11_feed_70 ?_
    refine lv_iload C.1 C.2.1 dX11_feed_73 (lv_at hl 4 rfl) ?_
    obtain ⟨⟨r27, u28⟩, hc29, h⟩ := bd_some h
    try dsimp only at h
    refine cg_v (As := [.int x4]) (rest := []) C hK hP hS (metX9_append_1 l D cy ad st hJ _ x4 hc29) (cwV 1 C.2.2.2.2.2.1 gX11_feed_X9_append rfl rfl rfl (by decide +kernel) ⟨(Nat.le_of_ble_eq_true rfl), (Nat.le_of_ble_eq_true rfl)⟩) 1 9 rfl rfl rfl hl.1 rfl (Nat.le_of_ble_eq_true rfl) dX11_feed_75 ⟨Nat.zero_le _, Nat.zero_le _⟩ (fun H locs hP hS => ?_)
    refine lv_aload_n C.1 C.2.1 dX11_feed_78 rfl (lv_at hl 0 rfl) ?_
    refine gX_0_tape C hX11_feed_0_X11 hK hP mX11_feed_0_1 dX11_feed_79 ?_
    refine lv_iload C.1 C.2.1 dX11_feed_82 (lv_at hl 5 rfl) ?_
    obtain ⟨⟨r30, u31⟩, hc32, h⟩ := bd_some h
    try dsimp only at h
    refine cg_v (As := [.int x5]) (rest := []) C hK hP hS (metX9_append_1 l D cy ad st hJ _ x5 hc32) (cwV 1 C.2.2.2.2.2.1 gX11_feed_X9_append rfl rfl rfl (by decide +kernel) ⟨(Nat.le_of_ble_eq_true rfl), (Nat.le_of_ble_eq_true rfl)⟩) 1 9 rfl rfl rfl hl.1 rfl (Nat.le_of_ble_eq_true rfl) dX11_feed_84 ⟨Nat.zero_le _, Nat.zero_le _⟩ (fun H locs hP hS => ?_)
    refine lv_aload_n C.1 C.2.1 dX11_feed_87 rfl (lv_at hl 0 rfl) ?_
    refine gX_0_tape C hX11_feed_0_X11 hK hP mX11_feed_0_1 dX11_feed_88 ?_
    refine gX_1_length C hX11_feed_0_X9 hK hP mX11_feed_0_3 dX11_feed_91 ?_
    cases h
    exact rt_i C hP hS dX11_feed_94
  · rw [if_neg c40] at h
    refine lv_iconst (v := (-1)) C.1 C.2.1 dX11_feed_43 (by decide) ?_
    cases h
    exact rt_i C hP hS dX11_feed_44
theorem metX11_feed_0 (l : Launch) (D : va_G) (cy : Nat → ClassId) (ad st : Nat → Nat) (hJ : JX ad) (sz : Nat) (x1 : Int32) (x2 : Int32) (x3 : Int32) (x4 : Int32) (x5 : Int32) {u : SX} {r : Int32} {u' : SX} (h : fX11_feed_0 x1 x2 x3 x4 x5 u = some (r, u')) : Met l yX11_feed wsX11_feed rmX11_feed_0 (va_Pc [.ref (ad 0), .int x1, .int x2, .int x3, .int x4, .int x5] (Px D [(cy 0, .int), (cy 1, .long), (cy 2, .boolean), (cy 3, .byte), (cy 4, .object "HissHorn$Text")] st (VX cy ad st) sz u)) (Qi D (VX cy ad st) (AX ad) sz r u') 0 0 (Ax (AX ad) sz) := by
  refine Met.ofW (cc := cX11_feed) (maxL := 7) (ret := (some .int)) (by decide) rfl ?_
  intro p e s m args below meth c s₁ B hml hv
  obtain ⟨rfl, hsz, hP, hK⟩ := hv
  subst hsz
  have C : Cx RX11 cX11_feed 7 (some .int) wsX11_feed p s m _ meth c := ⟨B.exec, B.bytes, hml, B.returns, findClass_of_methodNamed B.named, atoms_spec (ws := wsX11_feed) B.pre, B.notSynchronized⟩
  have hl := lv_entry ([.ref (ad 0), .int x1, .int x2, .int x3, .int x4, .int x5]) (n := 7) (Nat.le_of_ble_eq_true rfl)
  rw [lg_entry_eq]
  exact wX11_feed_0 C hK hJ x1 x2 x3 x4 x5 h hP va_S.rf hl

theorem dX11_end_0 : decode cX11_end 0 = .ok (.iload_n 1, 1) := by decide +kernel
theorem dX11_end_1 : decode cX11_end 1 = .ok (.iconst 0, 1) := by decide +kernel
theorem dX11_end_2 : decode cX11_end 2 = .ok (.aload_n 0, 1) := by decide +kernel
theorem dX11_end_3 : decode cX11_end 3 = .ok (.getfield 10, 3) := by decide +kernel
theorem dX11_end_6 : decode cX11_end 6 = .ok (.getfield 115, 3) := by decide +kernel
set_option maxRecDepth 20000 in
theorem ggX11_end_X11_within : GoodIn wsX11_end wsX11_within := goodIn_r _ [6] (by decide +kernel) (by decide +kernel)
set_option maxRecDepth 20000 in
theorem gX11_end_X11_within : GoodIn wsX11_end (va_wsS RX11 107 yX11_within wsX11_within) := goodIn_app (goodIn_of _ (by decide +kernel)) ggX11_end_X11_within
theorem dX11_end_9 : decode cX11_end 9 = .ok (.invokestatic 107, 3) := by decide +kernel
theorem dX11_end_12 : decode cX11_end 12 = .ok (.ifCond .ne 5, 3) := by decide +kernel
theorem dX11_end_17 : decode cX11_end 17 = .ok (.aload_n 0, 1) := by decide +kernel
theorem dX11_end_18 : decode cX11_end 18 = .ok (.getfield 10, 3) := by decide +kernel
theorem dX11_end_21 : decode cX11_end 21 = .ok (.iload_n 1, 1) := by decide +kernel
theorem dX11_end_22 : decode cX11_end 22 = .ok (.putfield 115, 3) := by decide +kernel
theorem dX11_end_25 : decode cX11_end 25 = .ok (.iconst 1, 1) := by decide +kernel
theorem dX11_end_26 : decode cX11_end 26 = .ok (.ireturn, 1) := by decide +kernel
theorem dX11_end_15 : decode cX11_end 15 = .ok (.iconst 0, 1) := by decide +kernel
theorem dX11_end_16 : decode cX11_end 16 = .ok (.ireturn, 1) := by decide +kernel
/-- HissHorn.end(I)Z of cell 0 -/
def rmX11_end_0 : Room := { frames := 1, cells := 0, slots := 0, locals := 22 }
theorem hX11_end_0_X11 : ∀ w ∈ u_ws RX11 TX11 13, w ∈ wsX11_end := fun w h => (List.mem_cons_of_mem _ (List.mem_append_left _ (List.mem_append_right _ h)))
theorem mX11_end_0_1 : Cond.fieldLink RX11 10 "HissHorn" "tape" "LHissHorn$Tape;" ∈ wsX11_end := (List.mem_cons_of_mem _ (List.mem_append_left _ (List.mem_append_left _ (List.mem_of_getElem? (i := 0) rfl))))
theorem hX11_end_0_X9 : ∀ w ∈ u_ws RX9 TX9 2, w ∈ wsX11_end := fun w h => (List.mem_cons_of_mem _ (List.mem_append_right _ h))
theorem mX11_end_0_3 : Cond.fieldLink RX11 115 "HissHorn$Tape" "length" "I" ∈ wsX11_end := (List.mem_cons_of_mem _ (List.mem_append_left _ (List.mem_append_left _ (List.mem_of_getElem? (i := 1) rfl))))
def fX11_end_0 (x1 : Int32) (u : SX) : Option (Int32 × SX) := ((fX11_within x1 0 (u.1 1)).bind fun r1 => (if r1 = 0 then (gd (isB 0) (some (0, u))) else (lt (sI u 1 x1) fun u4 => (gd (isB 1) (some (1, u4))))))
set_option maxHeartbeats 4000000 in
set_option maxRecDepth 100000 in
theorem wX11_end_0 {p : Program} {l : Launch} {e : Env} {s : State} {m : MethodId} {args : Array Value} {below : List Frame} {meth : Method} {c : Code} {D : va_G} {cy : Nat → ClassId} {ad st : Nat → Nat} (C : Cx RX11 cX11_end 2 (some .boolean) wsX11_end p s m args meth c) (hK : Kx D [(cy 0, .int), (cy 1, .long), (cy 2, .boolean), (cy 3, .byte), (cy 4, .object "HissHorn$Text")] st s) (hJ : JX ad) (x1 : Int32) {u : SX} {r : Int32} {u' : SX} {H : Heap} {locs : List Loc} {ls : Array Slot} (h : fX11_end_0 x1 u = some (r, u')) (hP : va_P D vwCl (VX cy ad st u) H) (hS : va_S (Ax (AX ad) s.heap.size) s.heap H locs) (hl : lv_has ls 2 [(0, .ref (ad 0)), (1, .int x1)]) : W p l e rmX11_end_0 s m args below meth c H locs 0 0 (MQ below (Qi D (VX cy ad st) (AX ad) s.heap.size r u') args s 0 0 (Ax (AX ad) s.heap.size)) (F0 m 0 ls []) := by
  unfold fX11_end_0 at h
  refine lv_iload_n C.1 C.2.1 dX11_end_0 rfl (lv_at hl 1 rfl) ?_
  refine lv_iconst (v := 0) C.1 C.2.1 dX11_end_1 (by decide) ?_
  refine lv_aload_n C.1 C.2.1 dX11_end_2 rfl (lv_at hl 0 rfl) ?_
  refine gX_0_tape C hX11_end_0_X11 hK hP mX11_end_0_1 dX11_end_3 ?_
  refine gX_1_length C hX11_end_0_X9 hK hP mX11_end_0_3 dX11_end_6 ?_
  obtain ⟨r1, hc3, h⟩ := bd_some h
  refine cs_i (As := [.int x1, .int 0, .int (u.1 1)]) (rest := []) C hK hP hS (metX11_within l D cy st _ x1 0 (u.1 1) hc3) (va_cwS 3 C.2.2.2.2.2.1 gX11_end_X11_within rfl rfl rfl (by decide +kernel) ⟨(Nat.le_of_ble_eq_true rfl), (Nat.le_of_ble_eq_true rfl)⟩) rfl hl.1 rfl (Nat.le_of_ble_eq_true rfl) dX11_end_9 ⟨Nat.zero_le _, Nat.zero_le _⟩ (fun H locs hP hS => ?_)
  refine lv_if_ne (tgt := 17) C.1 C.2.1 dX11_end_12 (by decide) (fun c12 => ?_) (fun c12 => ?_)
  · rw [if_neg c12] at h
    refine lv_aload_n C.1 C.2.1 dX11_end_17 rfl (lv_at hl 0 rfl) ?_
    refine gX_0_tape C hX11_end_0_X11 hK hP mX11_end_0_1 dX11_end_18 ?_
    refine lv_iload_n C.1 C.2.1 dX11_end_21 rfl (lv_at hl 1 rfl) ?_
    refine pX_1_length C hX11_end_0_X9 hK hP hJ hS mX11_end_0_3 dX11_end_22 (fun H locs hP hS => ?_)
    obtain ⟨u4, hu5, h⟩ := lt_some h
    rw [← hu5] at hP
    refine lv_iconst (v := 1) C.1 C.2.1 dX11_end_25 (by decide) ?_
    obtain ⟨hg6, h⟩ := gd_some h
    cases h
    exact rt_z hg6 C hP hS dX11_end_26
  · rw [if_pos c12] at h
    refine lv_iconst (v := 0) C.1 C.2.1 dX11_end_15 (by decide) ?_
    obtain ⟨hg7, h⟩ := gd_some h
    cases h
    exact rt_z hg7 C hP hS dX11_end_16
theorem metX11_end_0 (l : Launch) (D : va_G) (cy : Nat → ClassId) (ad st : Nat → Nat) (hJ : JX ad) (sz : Nat) (x1 : Int32) {u : SX} {r : Int32} {u' : SX} (h : fX11_end_0 x1 u = some (r, u')) : Met l yX11_end wsX11_end rmX11_end_0 (va_Pc [.ref (ad 0), .int x1] (Px D [(cy 0, .int), (cy 1, .long), (cy 2, .boolean), (cy 3, .byte), (cy 4, .object "HissHorn$Text")] st (VX cy ad st) sz u)) (Qi D (VX cy ad st) (AX ad) sz r u') 0 0 (Ax (AX ad) sz) := by
  refine Met.ofW (cc := cX11_end) (maxL := 2) (ret := (some .boolean)) (by decide) rfl ?_
  intro p e s m args below meth c s₁ B hml hv
  obtain ⟨rfl, hsz, hP, hK⟩ := hv
  subst hsz
  have C : Cx RX11 cX11_end 2 (some .boolean) wsX11_end p s m _ meth c := ⟨B.exec, B.bytes, hml, B.returns, findClass_of_methodNamed B.named, atoms_spec (ws := wsX11_end) B.pre, B.notSynchronized⟩
  have hl := lv_entry ([.ref (ad 0), .int x1]) (n := 2) (Nat.le_of_ble_eq_true rfl)
  rw [lg_entry_eq]
  exact wX11_end_0 C hK hJ x1 h hP va_S.rf hl

theorem dX11_shelfOf_0 : decode cX11_shelfOf 0 = .ok (.iload_n 1, 1) := by decide +kernel
theorem dX11_shelfOf_1 : decode cX11_shelfOf 1 = .ok (.tableswitch 42 0 2 #[27, 32, 37], 27) := by decide +kernel
theorem dX11_shelfOf_28 : decode cX11_shelfOf 28 = .ok (.aload_n 0, 1) := by decide +kernel
theorem dX11_shelfOf_29 : decode cX11_shelfOf 29 = .ok (.getfield 32, 3) := by decide +kernel
theorem dX11_shelfOf_32 : decode cX11_shelfOf 32 = .ok (.areturn, 1) := by decide +kernel
theorem dX11_shelfOf_33 : decode cX11_shelfOf 33 = .ok (.aload_n 0, 1) := by decide +kernel
theorem dX11_shelfOf_34 : decode cX11_shelfOf 34 = .ok (.getfield 38, 3) := by decide +kernel
theorem dX11_shelfOf_37 : decode cX11_shelfOf 37 = .ok (.areturn, 1) := by decide +kernel
theorem dX11_shelfOf_38 : decode cX11_shelfOf 38 = .ok (.aload_n 0, 1) := by decide +kernel
theorem dX11_shelfOf_39 : decode cX11_shelfOf 39 = .ok (.getfield 43, 3) := by decide +kernel
theorem dX11_shelfOf_42 : decode cX11_shelfOf 42 = .ok (.areturn, 1) := by decide +kernel
theorem dX11_shelfOf_43 : decode cX11_shelfOf 43 = .ok (.aconst_null, 1) := by decide +kernel
theorem dX11_shelfOf_44 : decode cX11_shelfOf 44 = .ok (.areturn, 1) := by decide +kernel
/-- HissHorn.shelfOf(I)LHissHorn$Shelf; of cell 0 -/
def rmX11_shelfOf_0 : Room := { frames := 0, cells := 0, slots := 0, locals := 0 }
theorem hX11_shelfOf_0_X11 : ∀ w ∈ u_ws RX11 TX11 13, w ∈ wsX11_shelfOf := fun w h => (List.mem_cons_of_mem _ (List.mem_append_right _ h))
theorem mX11_shelfOf_0_1 : Cond.fieldLink RX11 32 "HissHorn" "laws" "LHissHorn$Shelf;" ∈ wsX11_shelfOf := (List.mem_cons_of_mem _ (List.mem_append_left _ (List.mem_of_getElem? (i := 0) rfl)))
theorem mX11_shelfOf_0_2 : Cond.fieldLink RX11 38 "HissHorn" "guesses" "LHissHorn$Shelf;" ∈ wsX11_shelfOf := (List.mem_cons_of_mem _ (List.mem_append_left _ (List.mem_of_getElem? (i := 1) rfl)))
theorem mX11_shelfOf_0_3 : Cond.fieldLink RX11 43 "HissHorn" "rules" "LHissHorn$Shelf;" ∈ wsX11_shelfOf := (List.mem_cons_of_mem _ (List.mem_append_left _ (List.mem_of_getElem? (i := 2) rfl)))
def fX11_shelfOf_0 (x1 : Int32) (u : SX) : Option (Nat × SX) := (if x1 = 0 then (some (4, u)) else (if x1 = 1 then (some (5, u)) else (if x1 = 2 then (some (6, u)) else (some (0, u)))))
set_option maxHeartbeats 4000000 in
set_option maxRecDepth 100000 in
theorem wX11_shelfOf_0 {p : Program} {l : Launch} {e : Env} {s : State} {m : MethodId} {args : Array Value} {below : List Frame} {meth : Method} {c : Code} {D : va_G} {cy : Nat → ClassId} {ad st : Nat → Nat} (C : Cx RX11 cX11_shelfOf 2 (some (.object "HissHorn$Shelf")) wsX11_shelfOf p s m args meth c) (hK : Kx D [(cy 0, .int), (cy 1, .long), (cy 2, .boolean), (cy 3, .byte), (cy 4, .object "HissHorn$Text")] st s) (hJ : JX ad) (x1 : Int32) {u : SX} {r : Nat} {u' : SX} {H : Heap} {locs : List Loc} {ls : Array Slot} (h : fX11_shelfOf_0 x1 u = some (r, u')) (hP : va_P D vwCl (VX cy ad st u) H) (hS : va_S (Ax (AX ad) s.heap.size) s.heap H locs) (hl : lv_has ls 2 [(0, .ref (ad 0)), (1, .int x1)]) : W p l e rmX11_shelfOf_0 s m args below meth c H locs 0 0 (MQ below (Qq ad D (VX cy ad st) (AX ad) s.heap.size r u') args s 0 0 (Ax (AX ad) s.heap.size)) (F0 m 0 ls []) := by
  unfold fX11_shelfOf_0 at h
  refine lv_iload_n C.1 C.2.1 dX11_shelfOf_0 rfl (lv_at hl 1 rfl) ?_
  by_cases c1_0 : x1 = 0
  · rw [if_pos c1_0] at h
    rw [c1_0]
    refine lv_tableIn (off := 27) (tgt := 28) C.1 C.2.1 dX11_shelfOf_1 (by decide) (by decide) (by decide) (by decide) ?_
    refine lv_aload_n C.1 C.2.1 dX11_shelfOf_28 rfl (lv_at hl 0 rfl) ?_
    refine gX_0_laws C hX11_shelfOf_0_X11 hK hP mX11_shelfOf_0_1 dX11_shelfOf_29 ?_
    cases h
    exact rt_q C (Or.inl ⟨_, rfl⟩) (k := 4) hP hS dX11_shelfOf_32
  · rw [if_neg c1_0] at h
    by_cases c1_1 : x1 = 1
    · rw [if_pos c1_1] at h
      rw [c1_1]
      refine lv_tableIn (off := 32) (tgt := 33) C.1 C.2.1 dX11_shelfOf_1 (by decide) (by decide) (by decide) (by decide) ?_
      refine lv_aload_n C.1 C.2.1 dX11_shelfOf_33 rfl (lv_at hl 0 rfl) ?_
      refine gX_0_guesses C hX11_shelfOf_0_X11 hK hP mX11_shelfOf_0_2 dX11_shelfOf_34 ?_
      cases h
      exact rt_q C (Or.inl ⟨_, rfl⟩) (k := 5) hP hS dX11_shelfOf_37
    · rw [if_neg c1_1] at h
      by_cases c1_2 : x1 = 2
      · rw [if_pos c1_2] at h
        rw [c1_2]
        refine lv_tableIn (off := 37) (tgt := 38) C.1 C.2.1 dX11_shelfOf_1 (by decide) (by decide) (by decide) (by decide) ?_
        refine lv_aload_n C.1 C.2.1 dX11_shelfOf_38 rfl (lv_at hl 0 rfl) ?_
        refine gX_0_rules C hX11_shelfOf_0_X11 hK hP mX11_shelfOf_0_3 dX11_shelfOf_39 ?_
        cases h
        exact rt_q C (Or.inl ⟨_, rfl⟩) (k := 6) hP hS dX11_shelfOf_42
      · rw [if_neg c1_2] at h
        have e1_0 := lv_neT c1_0 (show (0 : Int32).toInt = 0 from by decide)
        have e1_1 := lv_neT c1_1 (show (1 : Int32).toInt = 1 from by decide)
        have e1_2 := lv_neT c1_2 (show (2 : Int32).toInt = 2 from by decide)
        refine lv_tableOut (tgt := 43) C.1 C.2.1 dX11_shelfOf_1 (by omega) (by decide) ?_
        refine lv_null C.1 C.2.1 dX11_shelfOf_43 ?_
        cases h
        exact rt_q C (Or.inl ⟨_, rfl⟩) (k := 0) hP hS dX11_shelfOf_44
theorem metX11_shelfOf_0 (l : Launch) (D : va_G) (cy : Nat → ClassId) (ad st : Nat → Nat) (hJ : JX ad) (sz : Nat) (x1 : Int32) {u : SX} {r : Nat} {u' : SX} (h : fX11_shelfOf_0 x1 u = some (r, u')) : Met l yX11_shelfOf wsX11_shelfOf rmX11_shelfOf_0 (va_Pc [.ref (ad 0), .int x1] (Px D [(cy 0, .int), (cy 1, .long), (cy 2, .boolean), (cy 3, .byte), (cy 4, .object "HissHorn$Text")] st (VX cy ad st) sz u)) (Qq ad D (VX cy ad st) (AX ad) sz r u') 0 0 (Ax (AX ad) sz) := by
  refine Met.ofW (cc := cX11_shelfOf) (maxL := 2) (ret := (some (.object "HissHorn$Shelf"))) (by decide) rfl ?_
  intro p e s m args below meth c s₁ B hml hv
  obtain ⟨rfl, hsz, hP, hK⟩ := hv
  subst hsz
  have C : Cx RX11 cX11_shelfOf 2 (some (.object "HissHorn$Shelf")) wsX11_shelfOf p s m _ meth c := ⟨B.exec, B.bytes, hml, B.returns, findClass_of_methodNamed B.named, atoms_spec (ws := wsX11_shelfOf) B.pre, B.notSynchronized⟩
  have hl := lv_entry ([.ref (ad 0), .int x1]) (n := 2) (Nat.le_of_ble_eq_true rfl)
  rw [lg_entry_eq]
  exact wX11_shelfOf_0 C hK hJ x1 h hP va_S.rf hl

theorem dX5_peek_0 : decode cX5_peek 0 = .ok (.aload_n 0, 1) := by decide +kernel
theorem dX5_peek_1 : decode cX5_peek 1 = .ok (.getfield 27, 3) := by decide +kernel
theorem dX5_peek_4 : decode cX5_peek 4 = .ok (.aload_n 0, 1) := by decide +kernel
theorem dX5_peek_5 : decode cX5_peek 5 = .ok (.getfield 23, 3) := by decide +kernel
theorem dX5_peek_8 : decode cX5_peek 8 = .ok (.getfield 34, 3) := by decide +kernel
theorem dX5_peek_11 : decode cX5_peek 11 = .ok (.if_icmp .ge 33, 3) := by decide +kernel
theorem dX5_peek_14 : decode cX5_peek 14 = .ok (.aload_n 0, 1) := by decide +kernel
theorem dX5_peek_15 : decode cX5_peek 15 = .ok (.getfield 23, 3) := by decide +kernel
theorem dX5_peek_18 : decode cX5_peek 18 = .ok (.getfield 90, 3) := by decide +kernel
theorem dX5_peek_21 : decode cX5_peek 21 = .ok (.aload_n 0, 1) := by decide +kernel
theorem dX5_peek_22 : decode cX5_peek 22 = .ok (.getfield 27, 3) := by decide +kernel
theorem dX5_peek_25 : decode cX5_peek 25 = .ok (.iaload, 1) := by decide +kernel
theorem dX5_peek_26 : decode cX5_peek 26 = .ok (.bipush 32, 2) := by decide +kernel
theorem dX5_peek_28 : decode cX5_peek 28 = .ok (.if_icmp .ne 16, 3) := by decide +kernel
theorem dX5_peek_31 : decode cX5_peek 31 = .ok (.aload_n 0, 1) := by decide +kernel
theorem dX5_peek_32 : decode cX5_peek 32 = .ok (.dup, 1) := by decide +kernel
theorem dX5_peek_33 : decode cX5_peek 33 = .ok (.getfield 27, 3) := by decide +kernel
theorem dX5_peek_36 : decode cX5_peek 36 = .ok (.iconst 1, 1) := by decide +kernel
theorem dX5_peek_37 : decode cX5_peek 37 = .ok (.iadd, 1) := by decide +kernel
theorem dX5_peek_38 : decode cX5_peek 38 = .ok (.putfield 27, 3) := by decide +kernel
theorem dX5_peek_41 : decode cX5_peek 41 = .ok (.goto (-41), 3) := by decide +kernel
theorem dX5_peek_44 : decode cX5_peek 44 = .ok (.aload_n 0, 1) := by decide +kernel
theorem dX5_peek_45 : decode cX5_peek 45 = .ok (.getfield 27, 3) := by decide +kernel
theorem dX5_peek_48 : decode cX5_peek 48 = .ok (.aload_n 0, 1) := by decide +kernel
theorem dX5_peek_49 : decode cX5_peek 49 = .ok (.getfield 23, 3) := by decide +kernel
theorem dX5_peek_52 : decode cX5_peek 52 = .ok (.getfield 34, 3) := by decide +kernel
theorem dX5_peek_55 : decode cX5_peek 55 = .ok (.if_icmp .ge 18, 3) := by decide +kernel
theorem dX5_peek_73 : decode cX5_peek 73 = .ok (.iconst 0, 1) := by decide +kernel
theorem dX5_peek_74 : decode cX5_peek 74 = .ok (.ireturn, 1) := by decide +kernel
theorem dX5_peek_58 : decode cX5_peek 58 = .ok (.aload_n 0, 1) := by decide +kernel
theorem dX5_peek_59 : decode cX5_peek 59 = .ok (.getfield 23, 3) := by decide +kernel
theorem dX5_peek_62 : decode cX5_peek 62 = .ok (.getfield 90, 3) := by decide +kernel
theorem dX5_peek_65 : decode cX5_peek 65 = .ok (.aload_n 0, 1) := by decide +kernel
theorem dX5_peek_66 : decode cX5_peek 66 = .ok (.getfield 27, 3) := by decide +kernel
theorem dX5_peek_69 : decode cX5_peek 69 = .ok (.iaload, 1) := by decide +kernel
theorem dX5_peek_70 : decode cX5_peek 70 = .ok (.goto 4, 3) := by decide +kernel
/-- HissHorn$Parser.peek()I of cell 2 -/
def rmX5_peek_2 : Room := { frames := 0, cells := 0, slots := 0, locals := 0 }
theorem hX5_peek_2_X5 : ∀ w ∈ u_ws RX5 TX5 5, w ∈ wsX5_peek := fun w h => (List.mem_cons_of_mem _ (List.mem_append_left _ (List.mem_append_right _ h)))
theorem mX5_peek_2_1 : Cond.fieldLink RX5 27 "HissHorn$Parser" "at" "I" ∈ wsX5_peek := (List.mem_cons_of_mem _ (List.mem_append_left _ (List.mem_append_left _ (List.mem_of_getElem? (i := 0) rfl))))
theorem mX5_peek_2_2 : Cond.fieldLink RX5 23 "HissHorn$Parser" "tape" "LHissHorn$Tape;" ∈ wsX5_peek := (List.mem_cons_of_mem _ (List.mem_append_left _ (List.mem_append_left _ (List.mem_of_getElem? (i := 1) rfl))))
theorem hX5_peek_2_X9 : ∀ w ∈ u_ws RX9 TX9 2, w ∈ wsX5_peek := fun w h => (List.mem_cons_of_mem _ (List.mem_append_right _ h))
theorem mX5_peek_2_4 : Cond.fieldLink RX5 34 "HissHorn$Tape" "length" "I" ∈ wsX5_peek := (List.mem_cons_of_mem _ (List.mem_append_left _ (List.mem_append_left _ (List.mem_of_getElem? (i := 2) rfl))))
theorem mX5_peek_2_5 : Cond.fieldLink RX5 90 "HissHorn$Tape" "bytes" "[I" ∈ wsX5_peek := (List.mem_cons_of_mem _ (List.mem_append_left _ (List.mem_append_left _ (List.mem_of_getElem? (i := 3) rfl))))
def LX5_peek_2_0 (k44 : SX → Option (Int32 × SX)) : Nat → SX → Option (Int32 × SX)
  | 0, _ => none
  | n + 1, u => (if (u.1 1) ≤ (u.1 4) then (k44 u) else (gd (inb (u.1 4) 120) (if (u.2.1 13 (u.1 4).toNatClampNeg) = 32 then (lt (sI u 4 ((u.1 4) + 1)) fun u2 => ((LX5_peek_2_0 k44 n) u2)) else (k44 u))))
def GX5_peek_2_44  (u : SX) : Option (Int32 × SX) := (if (u.1 1) ≤ (u.1 4) then (some (0, u)) else (gd (inb (u.1 4) 120) (some (u.2.1 13 (u.1 4).toNatClampNeg, u))))
def fX5_peek_2  (u : SX) : Option (Int32 × SX) := (LX5_peek_2_0 GX5_peek_2_44 5000 u)
set_option maxHeartbeats 4000000 in
set_option maxRecDepth 100000 in
theorem wLX5_peek_2_0 {p : Program} {l : Launch} {e : Env} {s : State} {m : MethodId} {args : Array Value} {below : List Frame} {meth : Method} {c : Code} {D : va_G} {cy : Nat → ClassId} {ad st : Nat → Nat} (C : Cx RX5 cX5_peek 1 (some .int) wsX5_peek p s m args meth c) (hK : Kx D [(cy 0, .int), (cy 1, .long), (cy 2, .boolean), (cy 3, .byte), (cy 4, .object "HissHorn$Text")] st s) (hJ : JX ad) {r : Int32} {u' : SX} {k44 : SX → Option (Int32 × SX)} (hk44 : ∀  (u : SX) (H : Heap) (locs : List Loc) (ls : Array Slot), k44 u = some (r, u') → va_P D vwCl (VX cy ad st u) H → va_S (Ax (AX ad) s.heap.size) s.heap H locs → lv_has ls 1 [(0, .ref (ad 2))] → W p l e rmX5_peek_2 s m args below meth c H locs 0 0 (MQ below (Qi D (VX cy ad st) (AX ad) s.heap.size r u') args s 0 0 (Ax (AX ad) s.heap.size)) (F0 m 44 ls [])) : ∀ (n : Nat) (u : SX) (H : Heap) (locs : List Loc) (ls : Array Slot), LX5_peek_2_0 k44 n u = some (r, u') → va_P D vwCl (VX cy ad st u) H → va_S (Ax (AX ad) s.heap.size) s.heap H locs → lv_has ls 1 [(0, .ref (ad 2))] → W p l e rmX5_peek_2 s m args below meth c H locs 0 0 (MQ below (Qi D (VX cy ad st) (AX ad) s.heap.size r u') args s 0 0 (Ax (AX ad) s.heap.size)) (F0 m 0 ls []) := by
  intro n
  induction n with
  | zero =>
    intro u H locs ls h
    exact absurd h (by intro q; cases q)
  | succ n ih =>
    intro u H locs ls h hP hS hl
    rw [LX5_peek_2_0] at h
    refine lv_aload_n C.1 C.2.1 dX5_peek_0 rfl (lv_at hl 0 rfl) ?_
    refine gX_2_at C hX5_peek_2_X5 hK hP mX5_peek_2_1 dX5_peek_1 ?_
    refine lv_aload_n C.1 C.2.1 dX5_peek_4 rfl (lv_at hl 0 rfl) ?_
    refine gX_2_tape C hX5_peek_2_X5 hK hP mX5_peek_2_2 dX5_peek_5 ?_
    refine gX_1_length C hX5_peek_2_X9 hK hP mX5_peek_2_4 dX5_peek_8 ?_
    refine lv_icmp_ge (tgt := 44) C.1 C.2.1 dX5_peek_11 (by decide) (fun c11 => ?_) (fun c11 => ?_)
    · rw [if_pos c11] at h
      exact hk44 _ _ _ _ h hP hS hl
    · rw [if_neg c11] at h
      refine lv_aload_n C.1 C.2.1 dX5_peek_14 rfl (lv_at hl 0 rfl) ?_
      refine gX_2_tape C hX5_peek_2_X5 hK hP mX5_peek_2_2 dX5_peek_15 ?_
      refine gX_1_bytes C hX5_peek_2_X9 hK hP mX5_peek_2_5 dX5_peek_18 ?_
      refine lv_aload_n C.1 C.2.1 dX5_peek_21 rfl (lv_at hl 0 rfl) ?_
      refine gX_2_at C hX5_peek_2_X5 hK hP mX5_peek_2_1 dX5_peek_22 ?_
      obtain ⟨hg1, h⟩ := gd_some h
      refine lX_13 C hK hP hg1 dX5_peek_25 ?_
      refine lv_bipush (v := 32) C.1 C.2.1 dX5_peek_26 (by decide) ?_
      refine lv_icmp_ne (tgt := 44) C.1 C.2.1 dX5_peek_28 (by decide) (fun c28 => ?_) (fun c28 => ?_)
      · rw [if_neg c28] at h
        exact hk44 _ _ _ _ h hP hS hl
      · rw [if_pos c28] at h
        refine lv_aload_n C.1 C.2.1 dX5_peek_31 rfl (lv_at hl 0 rfl) ?_
        refine lv_dup C.1 C.2.1 dX5_peek_32 rfl ?_
        refine gX_2_at C hX5_peek_2_X5 hK hP mX5_peek_2_1 dX5_peek_33 ?_
        refine lv_iconst (v := 1) C.1 C.2.1 dX5_peek_36 (by decide) ?_
        refine lv_iadd C.1 C.2.1 dX5_peek_37 ?_
        refine pX_2_at C hX5_peek_2_X5 hK hP hJ hS mX5_peek_2_1 dX5_peek_38 (fun H locs hP hS => ?_)
        obtain ⟨u2, hu3, h⟩ := lt_some h
        rw [← hu3] at hP
        refine lv_goto (tgt := 0) C.1 C.2.1 dX5_peek_41 (by decide) ?_
        exact ih _ _ _ _ h hP hS hl
set_option maxHeartbeats 4000000 in
set_option maxRecDepth 100000 in
theorem wGX5_peek_2_44 {p : Program} {l : Launch} {e : Env} {s : State} {m : MethodId} {args : Array Value} {below : List Frame} {meth : Method} {c : Code} {D : va_G} {cy : Nat → ClassId} {ad st : Nat → Nat} (C : Cx RX5 cX5_peek 1 (some .int) wsX5_peek p s m args meth c) (hK : Kx D [(cy 0, .int), (cy 1, .long), (cy 2, .boolean), (cy 3, .byte), (cy 4, .object "HissHorn$Text")] st s) (hJ : JX ad) {r : Int32} {u' : SX}   (u : SX) (H : Heap) (locs : List Loc) (ls : Array Slot) (h : GX5_peek_2_44  u = some (r, u')) (hP : va_P D vwCl (VX cy ad st u) H) (hS : va_S (Ax (AX ad) s.heap.size) s.heap H locs) (hl : lv_has ls 1 [(0, .ref (ad 2))]) : W p l e rmX5_peek_2 s m args below meth c H locs 0 0 (MQ below (Qi D (VX cy ad st) (AX ad) s.heap.size r u') args s 0 0 (Ax (AX ad) s.heap.size)) (F0 m 44 ls []) := by
  unfold GX5_peek_2_44 at h
  refine lv_aload_n C.1 C.2.1 dX5_peek_44 rfl (lv_at hl 0 rfl) ?_
  refine gX_2_at C hX5_peek_2_X5 hK hP mX5_peek_2_1 dX5_peek_45 ?_
  refine lv_aload_n C.1 C.2.1 dX5_peek_48 rfl (lv_at hl 0 rfl) ?_
  refine gX_2_tape C hX5_peek_2_X5 hK hP mX5_peek_2_2 dX5_peek_49 ?_
  refine gX_1_length C hX5_peek_2_X9 hK hP mX5_peek_2_4 dX5_peek_52 ?_
  refine lv_icmp_ge (tgt := 73) C.1 C.2.1 dX5_peek_55 (by decide) (fun c55 => ?_) (fun c55 => ?_)
  · rw [if_pos c55] at h
    refine lv_iconst (v := 0) C.1 C.2.1 dX5_peek_73 (by decide) ?_
    cases h
    exact rt_i C hP hS dX5_peek_74
  · rw [if_neg c55] at h
    refine lv_aload_n C.1 C.2.1 dX5_peek_58 rfl (lv_at hl 0 rfl) ?_
    refine gX_2_tape C hX5_peek_2_X5 hK hP mX5_peek_2_2 dX5_peek_59 ?_
    refine gX_1_bytes C hX5_peek_2_X9 hK hP mX5_peek_2_5 dX5_peek_62 ?_
    refine lv_aload_n C.1 C.2.1 dX5_peek_65 rfl (lv_at hl 0 rfl) ?_
    refine gX_2_at C hX5_peek_2_X5 hK hP mX5_peek_2_1 dX5_peek_66 ?_
    obtain ⟨hg4, h⟩ := gd_some h
    refine lX_13 C hK hP hg4 dX5_peek_69 ?_
    refine lv_goto (tgt := 74) C.1 C.2.1 dX5_peek_70 (by decide) ?_
    cases h
    exact rt_i C hP hS dX5_peek_74
set_option maxHeartbeats 4000000 in
set_option maxRecDepth 100000 in
theorem wX5_peek_2 {p : Program} {l : Launch} {e : Env} {s : State} {m : MethodId} {args : Array Value} {below : List Frame} {meth : Method} {c : Code} {D : va_G} {cy : Nat → ClassId} {ad st : Nat → Nat} (C : Cx RX5 cX5_peek 1 (some .int) wsX5_peek p s m args meth c) (hK : Kx D [(cy 0, .int), (cy 1, .long), (cy 2, .boolean), (cy 3, .byte), (cy 4, .object "HissHorn$Text")] st s) (hJ : JX ad)  {u : SX} {r : Int32} {u' : SX} {H : Heap} {locs : List Loc} {ls : Array Slot} (h : fX5_peek_2  u = some (r, u')) (hP : va_P D vwCl (VX cy ad st u) H) (hS : va_S (Ax (AX ad) s.heap.size) s.heap H locs) (hl : lv_has ls 1 [(0, .ref (ad 2))]) : W p l e rmX5_peek_2 s m args below meth c H locs 0 0 (MQ below (Qi D (VX cy ad st) (AX ad) s.heap.size r u') args s 0 0 (Ax (AX ad) s.heap.size)) (F0 m 0 ls []) := by
  unfold fX5_peek_2 at h
  exact wLX5_peek_2_0 C hK hJ (wGX5_peek_2_44 C hK hJ ) 5000 _ _ _ _ h hP hS hl
theorem metX5_peek_2 (l : Launch) (D : va_G) (cy : Nat → ClassId) (ad st : Nat → Nat) (hJ : JX ad) (sz : Nat)  {u : SX} {r : Int32} {u' : SX} (h : fX5_peek_2  u = some (r, u')) : Met l yX5_peek wsX5_peek rmX5_peek_2 (va_Pc [.ref (ad 2)] (Px D [(cy 0, .int), (cy 1, .long), (cy 2, .boolean), (cy 3, .byte), (cy 4, .object "HissHorn$Text")] st (VX cy ad st) sz u)) (Qi D (VX cy ad st) (AX ad) sz r u') 0 0 (Ax (AX ad) sz) := by
  refine Met.ofW (cc := cX5_peek) (maxL := 1) (ret := (some .int)) (by decide) rfl ?_
  intro p e s m args below meth c s₁ B hml hv
  obtain ⟨rfl, hsz, hP, hK⟩ := hv
  subst hsz
  have C : Cx RX5 cX5_peek 1 (some .int) wsX5_peek p s m _ meth c := ⟨B.exec, B.bytes, hml, B.returns, findClass_of_methodNamed B.named, atoms_spec (ws := wsX5_peek) B.pre, B.notSynchronized⟩
  have hl := lv_entry ([.ref (ad 2)]) (n := 1) (Nat.le_of_ble_eq_true rfl)
  rw [lg_entry_eq]
  exact wX5_peek_2 C hK hJ h hP va_S.rf hl

theorem dX5_takes_0 : decode cX5_takes 0 = .ok (.aload_n 0, 1) := by decide +kernel
set_option maxRecDepth 20000 in
theorem ggX5_takes_X5_peek : GoodIn wsX5_takes wsX5_peek := goodIn_r _ [6, 1, 7, 8, 9, 10, 11, 12, 13, 14, 15, 16] (by decide +kernel) (by decide +kernel)
set_option maxRecDepth 20000 in
theorem gX5_takes_X5_peek : GoodIn wsX5_takes (wsV RX5 45 RX5 yX5_peek wsX5_peek) := goodIn_app (goodIn_of _ (by decide +kernel)) ggX5_takes_X5_peek
theorem dX5_takes_1 : decode cX5_takes 1 = .ok (.invokevirtual 45, 3) := by decide +kernel
theorem dX5_takes_4 : decode cX5_takes 4 = .ok (.iload_n 1, 1) := by decide +kernel
theorem dX5_takes_5 : decode cX5_takes 5 = .ok (.if_icmp .eq 5, 3) := by decide +kernel
theorem dX5_takes_10 : decode cX5_takes 10 = .ok (.aload_n 0, 1) := by decide +kernel
theorem dX5_takes_11 : decode cX5_takes 11 = .ok (.dup, 1) := by decide +kernel
theorem dX5_takes_12 : decode cX5_takes 12 = .ok (.getfield 27, 3) := by decide +kernel
theorem dX5_takes_15 : decode cX5_takes 15 = .ok (.iconst 1, 1) := by decide +kernel
theorem dX5_takes_16 : decode cX5_takes 16 = .ok (.iadd, 1) := by decide +kernel
theorem dX5_takes_17 : decode cX5_takes 17 = .ok (.putfield 27, 3) := by decide +kernel
theorem dX5_takes_20 : decode cX5_takes 20 = .ok (.iconst 1, 1) := by decide +kernel
theorem dX5_takes_21 : decode cX5_takes 21 = .ok (.ireturn, 1) := by decide +kernel
theorem dX5_takes_8 : decode cX5_takes 8 = .ok (.iconst 0, 1) := by decide +kernel
theorem dX5_takes_9 : decode cX5_takes 9 = .ok (.ireturn, 1) := by decide +kernel
/-- HissHorn$Parser.takes(C)Z of cell 2 -/
def rmX5_takes_2 : Room := { frames := 1, cells := 0, slots := 0, locals := 20 }
theorem hX5_takes_2_X5 : ∀ w ∈ u_ws RX5 TX5 5, w ∈ wsX5_takes := fun w h => (List.mem_cons_of_mem _ (List.mem_append_left _ (List.mem_append_right _ h)))
theorem mX5_takes_2_1 : Cond.fieldLink RX5 27 "HissHorn$Parser" "at" "I" ∈ wsX5_takes := (List.mem_cons_of_mem _ (List.mem_append_left _ (List.mem_append_left _ (List.mem_of_getElem? (i := 0) rfl))))
def fX5_takes_2 (x1 : Int32) (u : SX) : Option (Int32 × SX) := ((fX5_peek_2  u).bind fun q => match q with | (r1, u2) => (if r1 = x1 then (lt (sI u2 4 ((u2.1 4) + 1)) fun u4 => (gd (isB 1) (some (1, u4)))) else (gd (isB 0) (some (0, u2)))))
set_option maxHeartbeats 4000000 in
set_option maxRecDepth 100000 in
theorem wX5_takes_2 {p : Program} {l : Launch} {e : Env} {s : State} {m : MethodId} {args : Array Value} {below : List Frame} {meth : Method} {c : Code} {D : va_G} {cy : Nat → ClassId} {ad st : Nat → Nat} (C : Cx RX5 cX5_takes 2 (some .boolean) wsX5_takes p s m args meth c) (hK : Kx D [(cy 0, .int), (cy 1, .long), (cy 2, .boolean), (cy 3, .byte), (cy 4, .object "HissHorn$Text")] st s) (hJ : JX ad) (x1 : Int32) {u : SX} {r : Int32} {u' : SX} {H : Heap} {locs : List Loc} {ls : Array Slot} (h : fX5_takes_2 x1 u = some (r, u')) (hP : va_P D vwCl (VX cy ad st u) H) (hS : va_S (Ax (AX ad) s.heap.size) s.heap H locs) (hl : lv_has ls 2 [(0, .ref (ad 2)), (1, .int x1)]) : W p l e rmX5_takes_2 s m args below meth c H locs 0 0 (MQ below (Qi D (VX cy ad st) (AX ad) s.heap.size r u') args s 0 0 (Ax (AX ad) s.heap.size)) (F0 m 0 ls []) := by
  unfold fX5_takes_2 at h
  refine lv_aload_n C.1 C.2.1 dX5_takes_0 rfl (lv_at hl 0 rfl) ?_
  obtain ⟨⟨r1, u2⟩, hc3, h⟩ := bd_some h
  try dsimp only at h
  refine cg_i (As := []) (rest := []) C hK hP hS (metX5_peek_2 l D cy ad st hJ _  hc3) (cwV 0 C.2.2.2.2.2.1 gX5_takes_X5_peek rfl rfl rfl (by decide +kernel) ⟨(Nat.le_of_ble_eq_true rfl), (Nat.le_of_ble_eq_true rfl)⟩) 2 5 rfl rfl rfl hl.1 rfl (Nat.le_of_ble_eq_true rfl) dX5_takes_1 ⟨Nat.zero_le _, Nat.zero_le _⟩ (fun H locs hP hS => ?_)
  refine lv_iload_n C.1 C.2.1 dX5_takes_4 rfl (lv_at hl 1 rfl) ?_
  refine lv_icmp_eq (tgt := 10) C.1 C.2.1 dX5_takes_5 (by decide) (fun c5 => ?_) (fun c5 => ?_)
  · rw [if_pos c5] at h
    refine lv_aload_n C.1 C.2.1 dX5_takes_10 rfl (lv_at hl 0 rfl) ?_
    refine lv_dup C.1 C.2.1 dX5_takes_11 rfl ?_
    refine gX_2_at C hX5_takes_2_X5 hK hP mX5_takes_2_1 dX5_takes_12 ?_
    refine lv_iconst (v := 1) C.1 C.2.1 dX5_takes_15 (by decide) ?_
    refine lv_iadd C.1 C.2.1 dX5_takes_16 ?_
    refine pX_2_at C hX5_takes_2_X5 hK hP hJ hS mX5_takes_2_1 dX5_takes_17 (fun H locs hP hS => ?_)
    obtain ⟨u4, hu5, h⟩ := lt_some h
    rw [← hu5] at hP
    refine lv_iconst (v := 1) C.1 C.2.1 dX5_takes_20 (by decide) ?_
    obtain ⟨hg6, h⟩ := gd_some h
    cases h
    exact rt_z hg6 C hP hS dX5_takes_21
  · rw [if_neg c5] at h
    refine lv_iconst (v := 0) C.1 C.2.1 dX5_takes_8 (by decide) ?_
    obtain ⟨hg7, h⟩ := gd_some h
    cases h
    exact rt_z hg7 C hP hS dX5_takes_9
theorem metX5_takes_2 (l : Launch) (D : va_G) (cy : Nat → ClassId) (ad st : Nat → Nat) (hJ : JX ad) (sz : Nat) (x1 : Int32) {u : SX} {r : Int32} {u' : SX} (h : fX5_takes_2 x1 u = some (r, u')) : Met l yX5_takes wsX5_takes rmX5_takes_2 (va_Pc [.ref (ad 2), .int x1] (Px D [(cy 0, .int), (cy 1, .long), (cy 2, .boolean), (cy 3, .byte), (cy 4, .object "HissHorn$Text")] st (VX cy ad st) sz u)) (Qi D (VX cy ad st) (AX ad) sz r u') 0 0 (Ax (AX ad) sz) := by
  refine Met.ofW (cc := cX5_takes) (maxL := 2) (ret := (some .boolean)) (by decide) rfl ?_
  intro p e s m args below meth c s₁ B hml hv
  obtain ⟨rfl, hsz, hP, hK⟩ := hv
  subst hsz
  have C : Cx RX5 cX5_takes 2 (some .boolean) wsX5_takes p s m _ meth c := ⟨B.exec, B.bytes, hml, B.returns, findClass_of_methodNamed B.named, atoms_spec (ws := wsX5_takes) B.pre, B.notSynchronized⟩
  have hl := lv_entry ([.ref (ad 2), .int x1]) (n := 2) (Nat.le_of_ble_eq_true rfl)
  rw [lg_entry_eq]
  exact wX5_takes_2 C hK hJ x1 h hP va_S.rf hl

theorem dX5_emit_0 : decode cX5_emit 0 = .ok (.iload_n 1, 1) := by decide +kernel
theorem dX5_emit_1 : decode cX5_emit 1 = .ok (.ifCond .eq 40, 3) := by decide +kernel
theorem dX5_emit_41 : decode cX5_emit 41 = .ok (.return_, 1) := by decide +kernel
theorem dX5_emit_4 : decode cX5_emit 4 = .ok (.aload_n 0, 1) := by decide +kernel
theorem dX5_emit_5 : decode cX5_emit 5 = .ok (.getfield 31, 3) := by decide +kernel
theorem dX5_emit_8 : decode cX5_emit 8 = .ok (.aload_n 0, 1) := by decide +kernel
theorem dX5_emit_9 : decode cX5_emit 9 = .ok (.getfield 11, 3) := by decide +kernel
theorem dX5_emit_12 : decode cX5_emit 12 = .ok (.arraylength, 1) := by decide +kernel
theorem dX5_emit_13 : decode cX5_emit 13 = .ok (.if_icmp .ge 28, 3) := by decide +kernel
theorem dX5_emit_16 : decode cX5_emit 16 = .ok (.aload_n 0, 1) := by decide +kernel
theorem dX5_emit_17 : decode cX5_emit 17 = .ok (.getfield 11, 3) := by decide +kernel
theorem dX5_emit_20 : decode cX5_emit 20 = .ok (.aload_n 0, 1) := by decide +kernel
theorem dX5_emit_21 : decode cX5_emit 21 = .ok (.getfield 31, 3) := by decide +kernel
theorem dX5_emit_24 : decode cX5_emit 24 = .ok (.iload_n 2, 1) := by decide +kernel
theorem dX5_emit_25 : decode cX5_emit 25 = .ok (.bipush 8, 2) := by decide +kernel
theorem dX5_emit_27 : decode cX5_emit 27 = .ok (.ishl, 1) := by decide +kernel
theorem dX5_emit_28 : decode cX5_emit 28 = .ok (.iload_n 1, 1) := by decide +kernel
theorem dX5_emit_29 : decode cX5_emit 29 = .ok (.ior, 1) := by decide +kernel
theorem dX5_emit_30 : decode cX5_emit 30 = .ok (.iastore, 1) := by decide +kernel
theorem dX5_emit_31 : decode cX5_emit 31 = .ok (.aload_n 0, 1) := by decide +kernel
theorem dX5_emit_32 : decode cX5_emit 32 = .ok (.dup, 1) := by decide +kernel
theorem dX5_emit_33 : decode cX5_emit 33 = .ok (.getfield 31, 3) := by decide +kernel
theorem dX5_emit_36 : decode cX5_emit 36 = .ok (.iconst 1, 1) := by decide +kernel
theorem dX5_emit_37 : decode cX5_emit 37 = .ok (.iadd, 1) := by decide +kernel
theorem dX5_emit_38 : decode cX5_emit 38 = .ok (.putfield 31, 3) := by decide +kernel
/-- HissHorn$Parser.emit(II)V of cell 2 -/
def rmX5_emit_2 : Room := { frames := 0, cells := 0, slots := 0, locals := 0 }
theorem hX5_emit_2_X5 : ∀ w ∈ u_ws RX5 TX5 5, w ∈ wsX5_emit := fun w h => (List.mem_cons_of_mem _ (List.mem_append_right _ h))
theorem mX5_emit_2_1 : Cond.fieldLink RX5 31 "HissHorn$Parser" "size" "I" ∈ wsX5_emit := (List.mem_cons_of_mem _ (List.mem_append_left _ (List.mem_of_getElem? (i := 0) rfl)))
theorem mX5_emit_2_2 : Cond.fieldLink RX5 11 "HissHorn$Parser" "code" "[I" ∈ wsX5_emit := (List.mem_cons_of_mem _ (List.mem_append_left _ (List.mem_of_getElem? (i := 1) rfl)))
def fX5_emit_2 (x1 : Int32) (x2 : Int32) (u : SX) : Option (Int32 × SX) := (if x1 = 0 then (some (0, u)) else (if 121 ≤ (u.1 2) then (some (0, u)) else (gd (inb (u.1 2) 121) (lt (sA u 14 (upd (u.2.1 14) (u.1 2).toNatClampNeg ((x2 <<< (8 &&& 31)) ||| x1))) fun u2 => (lt (sI u2 2 ((u2.1 2) + 1)) fun u4 => (some (0, u4)))))))
set_option maxHeartbeats 4000000 in
set_option maxRecDepth 100000 in
theorem wX5_emit_2 {p : Program} {l : Launch} {e : Env} {s : State} {m : MethodId} {args : Array Value} {below : List Frame} {meth : Method} {c : Code} {D : va_G} {cy : Nat → ClassId} {ad st : Nat → Nat} (C : Cx RX5 cX5_emit 3 none wsX5_emit p s m args meth c) (hK : Kx D [(cy 0, .int), (cy 1, .long), (cy 2, .boolean), (cy 3, .byte), (cy 4, .object "HissHorn$Text")] st s) (hJ : JX ad) (x1 : Int32) (x2 : Int32) {u : SX} {r : Int32} {u' : SX} {H : Heap} {locs : List Loc} {ls : Array Slot} (h : fX5_emit_2 x1 x2 u = some (r, u')) (hP : va_P D vwCl (VX cy ad st u) H) (hS : va_S (Ax (AX ad) s.heap.size) s.heap H locs) (hl : lv_has ls 3 [(0, .ref (ad 2)), (1, .int x1), (2, .int x2)]) : W p l e rmX5_emit_2 s m args below meth c H locs 0 0 (MQ below (Qv D (VX cy ad st) (AX ad) s.heap.size r u') args s 0 0 (Ax (AX ad) s.heap.size)) (F0 m 0 ls []) := by
  unfold fX5_emit_2 at h
  refine lv_iload_n C.1 C.2.1 dX5_emit_0 rfl (lv_at hl 1 rfl) ?_
  refine lv_if_eq (tgt := 41) C.1 C.2.1 dX5_emit_1 (by decide) (fun c1 => ?_) (fun c1 => ?_)
  · rw [if_pos c1] at h
    cases h
    exact rt_v C hP hS dX5_emit_41
  · rw [if_neg c1] at h
    refine lv_aload_n C.1 C.2.1 dX5_emit_4 rfl (lv_at hl 0 rfl) ?_
    refine gX_2_size C hX5_emit_2_X5 hK hP mX5_emit_2_1 dX5_emit_5 ?_
    refine lv_aload_n C.1 C.2.1 dX5_emit_8 rfl (lv_at hl 0 rfl) ?_
    refine gX_2_code C hX5_emit_2_X5 hK hP mX5_emit_2_2 dX5_emit_9 ?_
    refine va_alen (v := 121) C.1 C.2.1 hK.1 hP 14 0 rfl rfl rfl dX5_emit_12 ?_
    refine lv_icmp_ge (tgt := 41) C.1 C.2.1 dX5_emit_13 (by decide) (fun c13 => ?_) (fun c13 => ?_)
    · rw [if_pos c13] at h
      cases h
      exact rt_v C hP hS dX5_emit_41
    · rw [if_neg c13] at h
      refine lv_aload_n C.1 C.2.1 dX5_emit_16 rfl (lv_at hl 0 rfl) ?_
      refine gX_2_code C hX5_emit_2_X5 hK hP mX5_emit_2_2 dX5_emit_17 ?_
      refine lv_aload_n C.1 C.2.1 dX5_emit_20 rfl (lv_at hl 0 rfl) ?_
      refine gX_2_size C hX5_emit_2_X5 hK hP mX5_emit_2_1 dX5_emit_21 ?_
      refine lv_iload_n C.1 C.2.1 dX5_emit_24 rfl (lv_at hl 2 rfl) ?_
      refine lv_bipush (v := 8) C.1 C.2.1 dX5_emit_25 (by decide) ?_
      refine lv_ishl C.1 C.2.1 dX5_emit_27 ?_
      refine lv_iload_n C.1 C.2.1 dX5_emit_28 rfl (lv_at hl 1 rfl) ?_
      refine lv_ior C.1 C.2.1 dX5_emit_29 ?_
      obtain ⟨hg1, h⟩ := gd_some h
      refine tX_14 C hK hP hJ hS hg1 dX5_emit_30 (fun H locs hP hS => ?_)
      obtain ⟨u2, hu3, h⟩ := lt_some h
      rw [← hu3] at hP
      refine lv_aload_n C.1 C.2.1 dX5_emit_31 rfl (lv_at hl 0 rfl) ?_
      refine lv_dup C.1 C.2.1 dX5_emit_32 rfl ?_
      refine gX_2_size C hX5_emit_2_X5 hK hP mX5_emit_2_1 dX5_emit_33 ?_
      refine lv_iconst (v := 1) C.1 C.2.1 dX5_emit_36 (by decide) ?_
      refine lv_iadd C.1 C.2.1 dX5_emit_37 ?_
      refine pX_2_size C hX5_emit_2_X5 hK hP hJ hS mX5_emit_2_1 dX5_emit_38 (fun H locs hP hS => ?_)
      obtain ⟨u4, hu5, h⟩ := lt_some h
      rw [← hu5] at hP
      cases h
      exact rt_v C hP hS dX5_emit_41
theorem metX5_emit_2 (l : Launch) (D : va_G) (cy : Nat → ClassId) (ad st : Nat → Nat) (hJ : JX ad) (sz : Nat) (x1 : Int32) (x2 : Int32) {u : SX} {r : Int32} {u' : SX} (h : fX5_emit_2 x1 x2 u = some (r, u')) : Met l yX5_emit wsX5_emit rmX5_emit_2 (va_Pc [.ref (ad 2), .int x1, .int x2] (Px D [(cy 0, .int), (cy 1, .long), (cy 2, .boolean), (cy 3, .byte), (cy 4, .object "HissHorn$Text")] st (VX cy ad st) sz u)) (Qv D (VX cy ad st) (AX ad) sz r u') 0 0 (Ax (AX ad) sz) := by
  refine Met.ofW (cc := cX5_emit) (maxL := 3) (ret := none) (by decide) rfl ?_
  intro p e s m args below meth c s₁ B hml hv
  obtain ⟨rfl, hsz, hP, hK⟩ := hv
  subst hsz
  have C : Cx RX5 cX5_emit 3 none wsX5_emit p s m _ meth c := ⟨B.exec, B.bytes, hml, B.returns, findClass_of_methodNamed B.named, atoms_spec (ws := wsX5_emit) B.pre, B.notSynchronized⟩
  have hl := lv_entry ([.ref (ad 2), .int x1, .int x2]) (n := 3) (Nat.le_of_ble_eq_true rfl)
  rw [lg_entry_eq]
  exact wX5_emit_2 C hK hJ x1 x2 h hP va_S.rf hl

theorem dX5_compares_0 : decode cX5_compares 0 = .ok (.iload_n 0, 1) := by decide +kernel
theorem dX5_compares_1 : decode cX5_compares 1 = .ok (.bipush 61, 2) := by decide +kernel
theorem dX5_compares_3 : decode cX5_compares 3 = .ok (.if_icmp .eq 15, 3) := by decide +kernel
theorem dX5_compares_18 : decode cX5_compares 18 = .ok (.iconst 1, 1) := by decide +kernel
theorem dX5_compares_19 : decode cX5_compares 19 = .ok (.goto 4, 3) := by decide +kernel
theorem dX5_compares_23 : decode cX5_compares 23 = .ok (.ireturn, 1) := by decide +kernel
theorem dX5_compares_6 : decode cX5_compares 6 = .ok (.iload_n 0, 1) := by decide +kernel
theorem dX5_compares_7 : decode cX5_compares 7 = .ok (.bipush 60, 2) := by decide +kernel
theorem dX5_compares_9 : decode cX5_compares 9 = .ok (.if_icmp .eq 9, 3) := by decide +kernel
theorem dX5_compares_12 : decode cX5_compares 12 = .ok (.iload_n 0, 1) := by decide +kernel
theorem dX5_compares_13 : decode cX5_compares 13 = .ok (.bipush 62, 2) := by decide +kernel
theorem dX5_compares_15 : decode cX5_compares 15 = .ok (.if_icmp .ne 7, 3) := by decide +kernel
theorem dX5_compares_22 : decode cX5_compares 22 = .ok (.iconst 0, 1) := by decide +kernel
/-- HissHorn$Parser.compares(I)Z -/
def rmX5_compares : Room := { frames := 0, cells := 0, slots := 0, locals := 0 }
def fX5_compares (x0 : Int32) : Option Int32 := (if x0 = 61 then (gd (isB 1) (some 1)) else (if x0 = 60 then (gd (isB 1) (some 1)) else (if x0 = 62 then (gd (isB 1) (some 1)) else (gd (isB 0) (some 0)))))
set_option maxHeartbeats 4000000 in
set_option maxRecDepth 100000 in
theorem wX5_compares {p : Program} {l : Launch} {e : Env} {s : State} {m : MethodId} {args : Array Value} {below : List Frame} {meth : Method} {c : Code} {D : va_G} {cy : Nat → ClassId} {st : Nat → Nat} (C : Cx RX5 cX5_compares 1 (some .boolean) wsX5_compares p s m args meth c) (hK : Kx D [(cy 0, .int), (cy 1, .long), (cy 2, .boolean), (cy 3, .byte), (cy 4, .object "HissHorn$Text")] st s) (x0 : Int32) {r : Int32} {H : Heap} {locs : List Loc} {ls : Array Slot} (h : fX5_compares x0 = some r) (hP : va_P D vwCl (V0 u00) H) (hS : va_S (Ax (A0) s.heap.size) s.heap H locs) (hl : lv_has ls 1 [(0, .int x0)]) : W p l e rmX5_compares s m args below meth c H locs 0 0 (MQ below (Qi D (V0) (A0) s.heap.size r u00) args s 0 0 (Ax (A0) s.heap.size)) (F0 m 0 ls []) := by
  unfold fX5_compares at h
  refine lv_iload_n C.1 C.2.1 dX5_compares_0 rfl (lv_at hl 0 rfl) ?_
  refine lv_bipush (v := 61) C.1 C.2.1 dX5_compares_1 (by decide) ?_
  refine lv_icmp_eq (tgt := 18) C.1 C.2.1 dX5_compares_3 (by decide) (fun c3 => ?_) (fun c3 => ?_)
  · rw [if_pos c3] at h
    refine lv_iconst (v := 1) C.1 C.2.1 dX5_compares_18 (by decide) ?_
    refine lv_goto (tgt := 23) C.1 C.2.1 dX5_compares_19 (by decide) ?_
    obtain ⟨hg1, h⟩ := gd_some h
    cases h
    exact rt_z hg1 C hP hS dX5_compares_23
  · rw [if_neg c3] at h
    refine lv_iload_n C.1 C.2.1 dX5_compares_6 rfl (lv_at hl 0 rfl) ?_
    refine lv_bipush (v := 60) C.1 C.2.1 dX5_compares_7 (by decide) ?_
    refine lv_icmp_eq (tgt := 18) C.1 C.2.1 dX5_compares_9 (by decide) (fun c9 => ?_) (fun c9 => ?_)
    · rw [if_pos c9] at h
      refine lv_iconst (v := 1) C.1 C.2.1 dX5_compares_18 (by decide) ?_
      refine lv_goto (tgt := 23) C.1 C.2.1 dX5_compares_19 (by decide) ?_
      obtain ⟨hg2, h⟩ := gd_some h
      cases h
      exact rt_z hg2 C hP hS dX5_compares_23
    · rw [if_neg c9] at h
      refine lv_iload_n C.1 C.2.1 dX5_compares_12 rfl (lv_at hl 0 rfl) ?_
      refine lv_bipush (v := 62) C.1 C.2.1 dX5_compares_13 (by decide) ?_
      refine lv_icmp_ne (tgt := 22) C.1 C.2.1 dX5_compares_15 (by decide) (fun c15 => ?_) (fun c15 => ?_)
      · rw [if_neg c15] at h
        refine lv_iconst (v := 0) C.1 C.2.1 dX5_compares_22 (by decide) ?_
        obtain ⟨hg3, h⟩ := gd_some h
        cases h
        exact rt_z hg3 C hP hS dX5_compares_23
      · rw [if_pos c15] at h
        refine lv_iconst (v := 1) C.1 C.2.1 dX5_compares_18 (by decide) ?_
        refine lv_goto (tgt := 23) C.1 C.2.1 dX5_compares_19 (by decide) ?_
        obtain ⟨hg4, h⟩ := gd_some h
        cases h
        exact rt_z hg4 C hP hS dX5_compares_23
theorem metX5_compares (l : Launch) (D : va_G) (cy : Nat → ClassId) (st : Nat → Nat) (sz : Nat) (x0 : Int32) {r : Int32} (h : fX5_compares x0 = some r) : Met l yX5_compares wsX5_compares rmX5_compares (va_Pc [.int x0] (Px D [(cy 0, .int), (cy 1, .long), (cy 2, .boolean), (cy 3, .byte), (cy 4, .object "HissHorn$Text")] st V0 sz u00)) (Qi D V0 A0 sz r u00) 0 0 (Ax A0 sz) := by
  refine Met.ofW (cc := cX5_compares) (maxL := 1) (ret := (some .boolean)) (by decide) rfl ?_
  intro p e s m args below meth c s₁ B hml hv
  obtain ⟨rfl, hsz, hP, hK⟩ := hv
  subst hsz
  have C : Cx RX5 cX5_compares 1 (some .boolean) wsX5_compares p s m _ meth c := ⟨B.exec, B.bytes, hml, B.returns, findClass_of_methodNamed B.named, atoms_spec (ws := wsX5_compares) B.pre, B.notSynchronized⟩
  have hl := lv_entry ([.int x0]) (n := 1) (Nat.le_of_ble_eq_true rfl)
  rw [lg_entry_eq]
  exact wX5_compares C hK x0 h hP va_S.rf hl

theorem dX5_number_39 : decode cX5_number 39 = .ok (.istore_n 3, 1) := by decide +kernel
theorem dX5_number_40 : decode cX5_number 40 = .ok (.iload_n 3, 1) := by decide +kernel
theorem dX5_number_41 : decode cX5_number 41 = .ok (.bipush 48, 2) := by decide +kernel
theorem dX5_number_43 : decode cX5_number 43 = .ok (.if_icmp .lt 9, 3) := by decide +kernel
theorem dX5_number_52 : decode cX5_number 52 = .ok (.iload_n 1, 1) := by decide +kernel
theorem dX5_number_53 : decode cX5_number 53 = .ok (.ireturn, 1) := by decide +kernel
theorem dX5_number_46 : decode cX5_number 46 = .ok (.iload_n 3, 1) := by decide +kernel
theorem dX5_number_47 : decode cX5_number 47 = .ok (.bipush 57, 2) := by decide +kernel
theorem dX5_number_49 : decode cX5_number 49 = .ok (.if_icmp .le 5, 3) := by decide +kernel
theorem dX5_number_54 : decode cX5_number 54 = .ok (.iload_n 2, 1) := by decide +kernel
theorem dX5_number_55 : decode cX5_number 55 = .ok (.iconst 4, 1) := by decide +kernel
theorem dX5_number_56 : decode cX5_number 56 = .ok (.if_icmp .ne 5, 3) := by decide +kernel
theorem dX5_number_61 : decode cX5_number 61 = .ok (.iload_n 1, 1) := by decide +kernel
theorem dX5_number_62 : decode cX5_number 62 = .ok (.bipush 10, 2) := by decide +kernel
theorem dX5_number_64 : decode cX5_number 64 = .ok (.imul, 1) := by decide +kernel
theorem dX5_number_65 : decode cX5_number 65 = .ok (.iload_n 3, 1) := by decide +kernel
theorem dX5_number_66 : decode cX5_number 66 = .ok (.iadd, 1) := by decide +kernel
theorem dX5_number_67 : decode cX5_number 67 = .ok (.bipush 48, 2) := by decide +kernel
theorem dX5_number_69 : decode cX5_number 69 = .ok (.isub, 1) := by decide +kernel
theorem dX5_number_70 : decode cX5_number 70 = .ok (.istore_n 1, 1) := by decide +kernel
theorem dX5_number_71 : decode cX5_number 71 = .ok (.aload_n 0, 1) := by decide +kernel
theorem dX5_number_72 : decode cX5_number 72 = .ok (.dup, 1) := by decide +kernel
theorem dX5_number_73 : decode cX5_number 73 = .ok (.getfield 27, 3) := by decide +kernel
theorem dX5_number_76 : decode cX5_number 76 = .ok (.iconst 1, 1) := by decide +kernel
theorem dX5_number_77 : decode cX5_number 77 = .ok (.iadd, 1) := by decide +kernel
theorem dX5_number_78 : decode cX5_number 78 = .ok (.putfield 27, 3) := by decide +kernel
theorem dX5_number_81 : decode cX5_number 81 = .ok (.iinc 2 1, 3) := by decide +kernel
theorem dX5_number_84 : decode cX5_number 84 = .ok (.goto (-80), 3) := by decide +kernel
theorem dX5_number_59 : decode cX5_number 59 = .ok (.iconst (-1), 1) := by decide +kernel
theorem dX5_number_60 : decode cX5_number 60 = .ok (.ireturn, 1) := by decide +kernel
theorem dX5_number_4 : decode cX5_number 4 = .ok (.iload_n 2, 1) := by decide +kernel
theorem dX5_number_5 : decode cX5_number 5 = .ok (.iconst 4, 1) := by decide +kernel
theorem dX5_number_6 : decode cX5_number 6 = .ok (.if_icmp .gt 81, 3) := by decide +kernel
theorem dX5_number_87 : decode cX5_number 87 = .ok (.iconst (-1), 1) := by decide +kernel
theorem dX5_number_88 : decode cX5_number 88 = .ok (.ireturn, 1) := by decide +kernel
theorem dX5_number_9 : decode cX5_number 9 = .ok (.aload_n 0, 1) := by decide +kernel
theorem dX5_number_10 : decode cX5_number 10 = .ok (.getfield 27, 3) := by decide +kernel
theorem dX5_number_13 : decode cX5_number 13 = .ok (.aload_n 0, 1) := by decide +kernel
theorem dX5_number_14 : decode cX5_number 14 = .ok (.getfield 23, 3) := by decide +kernel
theorem dX5_number_17 : decode cX5_number 17 = .ok (.getfield 34, 3) := by decide +kernel
theorem dX5_number_20 : decode cX5_number 20 = .ok (.if_icmp .ge 18, 3) := by decide +kernel
theorem dX5_number_38 : decode cX5_number 38 = .ok (.iconst 0, 1) := by decide +kernel
theorem dX5_number_23 : decode cX5_number 23 = .ok (.aload_n 0, 1) := by decide +kernel
theorem dX5_number_24 : decode cX5_number 24 = .ok (.getfield 23, 3) := by decide +kernel
theorem dX5_number_27 : decode cX5_number 27 = .ok (.getfield 90, 3) := by decide +kernel
theorem dX5_number_30 : decode cX5_number 30 = .ok (.aload_n 0, 1) := by decide +kernel
theorem dX5_number_31 : decode cX5_number 31 = .ok (.getfield 27, 3) := by decide +kernel
theorem dX5_number_34 : decode cX5_number 34 = .ok (.iaload, 1) := by decide +kernel
theorem dX5_number_35 : decode cX5_number 35 = .ok (.goto 4, 3) := by decide +kernel
theorem dX5_number_0 : decode cX5_number 0 = .ok (.iconst 0, 1) := by decide +kernel
theorem dX5_number_1 : decode cX5_number 1 = .ok (.istore_n 1, 1) := by decide +kernel
theorem dX5_number_2 : decode cX5_number 2 = .ok (.iconst 0, 1) := by decide +kernel
theorem dX5_number_3 : decode cX5_number 3 = .ok (.istore_n 2, 1) := by decide +kernel
/-- HissHorn$Parser.number()I of cell 2 -/
def rmX5_number_2 : Room := { frames := 0, cells := 0, slots := 0, locals := 0 }
theorem hX5_number_2_X5 : ∀ w ∈ u_ws RX5 TX5 5, w ∈ wsX5_number := fun w h => (List.mem_cons_of_mem _ (List.mem_append_left _ (List.mem_append_right _ h)))
theorem mX5_number_2_1 : Cond.fieldLink RX5 27 "HissHorn$Parser" "at" "I" ∈ wsX5_number := (List.mem_cons_of_mem _ (List.mem_append_left _ (List.mem_append_left _ (List.mem_of_getElem? (i := 0) rfl))))
theorem mX5_number_2_2 : Cond.fieldLink RX5 23 "HissHorn$Parser" "tape" "LHissHorn$Tape;" ∈ wsX5_number := (List.mem_cons_of_mem _ (List.mem_append_left _ (List.mem_append_left _ (List.mem_of_getElem? (i := 1) rfl))))
theorem hX5_number_2_X9 : ∀ w ∈ u_ws RX9 TX9 2, w ∈ wsX5_number := fun w h => (List.mem_cons_of_mem _ (List.mem_append_right _ h))
theorem mX5_number_2_4 : Cond.fieldLink RX5 34 "HissHorn$Tape" "length" "I" ∈ wsX5_number := (List.mem_cons_of_mem _ (List.mem_append_left _ (List.mem_append_left _ (List.mem_of_getElem? (i := 2) rfl))))
def GX5_number_2_39 (k4 : Int32 → Int32 → SX → Option (Int32 × SX)) (z1 : Int32) (z2 : Int32) (y0 : Int32) (u : SX) : Option (Int32 × SX) := (if y0 < 48 then (some (z1, u)) else (if y0 ≤ 57 then (if z2 = 4 then (some ((-1), u)) else (lt (((z1 * 10) + y0) - 48) fun v1 => (lt (sI u 4 ((u.1 4) + 1)) fun u3 => (k4 v1 (z2 + 1) u3)))) else (some (z1, u))))
theorem mX5_number_2_5 : Cond.fieldLink RX5 90 "HissHorn$Tape" "bytes" "[I" ∈ wsX5_number := (List.mem_cons_of_mem _ (List.mem_append_left _ (List.mem_append_left _ (List.mem_of_getElem? (i := 3) rfl))))
def LX5_number_2_4  : Nat → Int32 → Int32 → SX → Option (Int32 × SX)
  | 0, _, _, _ => none
  | n + 1, z1, z2, u => (if 4 < z2 then (some ((-1), u)) else (if (u.1 1) ≤ (u.1 4) then (GX5_number_2_39 (LX5_number_2_4 n) z1 z2 0 u) else (gd (inb (u.1 4) 120) (GX5_number_2_39 (LX5_number_2_4 n) z1 z2 (u.2.1 13 (u.1 4).toNatClampNeg) u))))
def fX5_number_2  (u : SX) : Option (Int32 × SX) := (LX5_number_2_4  5000 0 0 u)
set_option maxHeartbeats 4000000 in
set_option maxRecDepth 100000 in
theorem wGX5_number_2_39 {p : Program} {l : Launch} {e : Env} {s : State} {m : MethodId} {args : Array Value} {below : List Frame} {meth : Method} {c : Code} {D : va_G} {cy : Nat → ClassId} {ad st : Nat → Nat} (C : Cx RX5 cX5_number 4 (some .int) wsX5_number p s m args meth c) (hK : Kx D [(cy 0, .int), (cy 1, .long), (cy 2, .boolean), (cy 3, .byte), (cy 4, .object "HissHorn$Text")] st s) (hJ : JX ad) {r : Int32} {u' : SX} {k4 : Int32 → Int32 → SX → Option (Int32 × SX)} (hk4 : ∀ (z1 : Int32) (z2 : Int32) (u : SX) (H : Heap) (locs : List Loc) (ls : Array Slot), k4 z1 z2 u = some (r, u') → va_P D vwCl (VX cy ad st u) H → va_S (Ax (AX ad) s.heap.size) s.heap H locs → lv_has ls 4 [(0, .ref (ad 2)), (1, .int z1), (2, .int z2)] → W p l e rmX5_number_2 s m args below meth c H locs 0 0 (MQ below (Qi D (VX cy ad st) (AX ad) s.heap.size r u') args s 0 0 (Ax (AX ad) s.heap.size)) (F0 m 4 ls [])) (z1 : Int32) (z2 : Int32) (y0 : Int32) (u : SX) (H : Heap) (locs : List Loc) (ls : Array Slot) (h : GX5_number_2_39 k4 z1 z2 y0 u = some (r, u')) (hP : va_P D vwCl (VX cy ad st u) H) (hS : va_S (Ax (AX ad) s.heap.size) s.heap H locs) (hl : lv_has ls 4 [(0, .ref (ad 2)), (1, .int z1), (2, .int z2)]) : W p l e rmX5_number_2 s m args below meth c H locs 0 0 (MQ below (Qi D (VX cy ad st) (AX ad) s.heap.size r u') args s 0 0 (Ax (AX ad) s.heap.size)) (F0 m 39 ls [.int y0]) := by
  unfold GX5_number_2_39 at h
  refine lv_istore_n (lv' := [(3, .int y0), (0, .ref (ad 2)), (1, .int z1), (2, .int z2)]) C.1 C.2.1 dX5_number_39 rfl hl (by decide) rfl (fun ls hl => ?_)
  replace hl := lv_sub (l' := [(0, .ref (ad 2)), (1, .int z1), (2, .int z2), (3, .int y0)]) hl [1, 2, 3, 0] rfl
  refine lv_iload_n C.1 C.2.1 dX5_number_40 rfl (lv_at hl 3 rfl) ?_
  refine lv_bipush (v := 48) C.1 C.2.1 dX5_number_41 (by decide) ?_
  refine lv_icmp_lt (tgt := 52) C.1 C.2.1 dX5_number_43 (by decide) (fun c43 => ?_) (fun c43 => ?_)
  · rw [if_pos c43] at h
    refine lv_iload_n C.1 C.2.1 dX5_number_52 rfl (lv_at hl 1 rfl) ?_
    cases h
    exact rt_i C hP hS dX5_number_53
  · rw [if_neg c43] at h
    refine lv_iload_n C.1 C.2.1 dX5_number_46 rfl (lv_at hl 3 rfl) ?_
    refine lv_bipush (v := 57) C.1 C.2.1 dX5_number_47 (by decide) ?_
    refine lv_icmp_le (tgt := 54) C.1 C.2.1 dX5_number_49 (by decide) (fun c49 => ?_) (fun c49 => ?_)
    · rw [if_pos c49] at h
      refine lv_iload_n C.1 C.2.1 dX5_number_54 rfl (lv_at hl 2 rfl) ?_
      refine lv_iconst (v := 4) C.1 C.2.1 dX5_number_55 (by decide) ?_
      refine lv_icmp_ne (tgt := 61) C.1 C.2.1 dX5_number_56 (by decide) (fun c56 => ?_) (fun c56 => ?_)
      · rw [if_neg c56] at h
        refine lv_iload_n C.1 C.2.1 dX5_number_61 rfl (lv_at hl 1 rfl) ?_
        refine lv_bipush (v := 10) C.1 C.2.1 dX5_number_62 (by decide) ?_
        refine lv_imul C.1 C.2.1 dX5_number_64 ?_
        refine lv_iload_n C.1 C.2.1 dX5_number_65 rfl (lv_at hl 3 rfl) ?_
        refine lv_iadd C.1 C.2.1 dX5_number_66 ?_
        refine lv_bipush (v := 48) C.1 C.2.1 dX5_number_67 (by decide) ?_
        refine lv_isub C.1 C.2.1 dX5_number_69 ?_
        refine lv_topi (fun v1 hv2 => ?_)
        replace h := lt_e hv2 h
        try dsimp only at h
        refine lv_istore_n (lv' := [(1, .int v1), (0, .ref (ad 2)), (2, .int z2), (3, .int y0)]) C.1 C.2.1 dX5_number_70 rfl hl (by decide) rfl (fun ls hl => ?_)
        replace hl := lv_sub (l' := [(0, .ref (ad 2)), (1, .int v1), (2, .int z2), (3, .int y0)]) hl [1, 0, 2, 3] rfl
        refine lv_aload_n C.1 C.2.1 dX5_number_71 rfl (lv_at hl 0 rfl) ?_
        refine lv_dup C.1 C.2.1 dX5_number_72 rfl ?_
        refine gX_2_at C hX5_number_2_X5 hK hP mX5_number_2_1 dX5_number_73 ?_
        refine lv_iconst (v := 1) C.1 C.2.1 dX5_number_76 (by decide) ?_
        refine lv_iadd C.1 C.2.1 dX5_number_77 ?_
        refine pX_2_at C hX5_number_2_X5 hK hP hJ hS mX5_number_2_1 dX5_number_78 (fun H locs hP hS => ?_)
        obtain ⟨u3, hu4, h⟩ := lt_some h
        rw [← hu4] at hP
        refine lv_iinc (v := z2 + 1) (lv' := [(2, .int (z2 + 1)), (0, .ref (ad 2)), (1, .int v1), (3, .int y0)]) C.1 C.2.1 dX5_number_81 hl (k := 2) rfl rfl (by decide) rfl (fun ls hl => ?_)
        replace hl := lv_sub (l' := [(0, .ref (ad 2)), (1, .int v1), (2, .int (z2 + 1)), (3, .int y0)]) hl [1, 2, 0, 3] rfl
        refine lv_goto (tgt := 4) C.1 C.2.1 dX5_number_84 (by decide) ?_
        exact hk4 _ _ _ _ _ _ h hP hS (lv_sub hl [0, 1, 2] rfl)
      · rw [if_pos c56] at h
        refine lv_iconst (v := (-1)) C.1 C.2.1 dX5_number_59 (by decide) ?_
        cases h
        exact rt_i C hP hS dX5_number_60
    · rw [if_neg c49] at h
      refine lv_iload_n C.1 C.2.1 dX5_number_52 rfl (lv_at hl 1 rfl) ?_
      cases h
      exact rt_i C hP hS dX5_number_53
set_option maxHeartbeats 4000000 in
set_option maxRecDepth 100000 in
theorem wLX5_number_2_4 {p : Program} {l : Launch} {e : Env} {s : State} {m : MethodId} {args : Array Value} {below : List Frame} {meth : Method} {c : Code} {D : va_G} {cy : Nat → ClassId} {ad st : Nat → Nat} (C : Cx RX5 cX5_number 4 (some .int) wsX5_number p s m args meth c) (hK : Kx D [(cy 0, .int), (cy 1, .long), (cy 2, .boolean), (cy 3, .byte), (cy 4, .object "HissHorn$Text")] st s) (hJ : JX ad) {r : Int32} {u' : SX}   : ∀ (n : Nat) (z1 : Int32) (z2 : Int32) (u : SX) (H : Heap) (locs : List Loc) (ls : Array Slot), LX5_number_2_4  n z1 z2 u = some (r, u') → va_P D vwCl (VX cy ad st u) H → va_S (Ax (AX ad) s.heap.size) s.heap H locs → lv_has ls 4 [(0, .ref (ad 2)), (1, .int z1), (2, .int z2)] → W p l e rmX5_number_2 s m args below meth c H locs 0 0 (MQ below (Qi D (VX cy ad st) (AX ad) s.heap.size r u') args s 0 0 (Ax (AX ad) s.heap.size)) (F0 m 4 ls []) := by
  intro n
  induction n with
  | zero =>
    intro z1 z2 u H locs ls h
    exact absurd h (by intro q; cases q)
  | succ n ih =>
    intro z1 z2 u H locs ls h hP hS hl
    rw [LX5_number_2_4] at h
    refine lv_iload_n C.1 C.2.1 dX5_number_4 rfl (lv_at hl 2 rfl) ?_
    refine lv_iconst (v := 4) C.1 C.2.1 dX5_number_5 (by decide) ?_
    refine lv_icmp_gt (tgt := 87) C.1 C.2.1 dX5_number_6 (by decide) (fun c6 => ?_) (fun c6 => ?_)
    · rw [if_pos c6] at h
      refine lv_iconst (v := (-1)) C.1 C.2.1 dX5_number_87 (by decide) ?_
      cases h
      exact rt_i C hP hS dX5_number_88
    · rw [if_neg c6] at h
      refine lv_aload_n C.1 C.2.1 dX5_number_9 rfl (lv_at hl 0 rfl) ?_
      refine gX_2_at C hX5_number_2_X5 hK hP mX5_number_2_1 dX5_number_10 ?_
      refine lv_aload_n C.1 C.2.1 dX5_number_13 rfl (lv_at hl 0 rfl) ?_
      refine gX_2_tape C hX5_number_2_X5 hK hP mX5_number_2_2 dX5_number_14 ?_
      refine gX_1_length C hX5_number_2_X9 hK hP mX5_number_2_4 dX5_number_17 ?_
      refine lv_icmp_ge (tgt := 38) C.1 C.2.1 dX5_number_20 (by decide) (fun c20 => ?_) (fun c20 => ?_)
      · rw [if_pos c20] at h
        refine lv_iconst (v := 0) C.1 C.2.1 dX5_number_38 (by decide) ?_
        exact wGX5_number_2_39 C hK hJ ih _ _ _ _ _ _ _ h hP hS hl
      · rw [if_neg c20] at h
        refine lv_aload_n C.1 C.2.1 dX5_number_23 rfl (lv_at hl 0 rfl) ?_
        refine gX_2_tape C hX5_number_2_X5 hK hP mX5_number_2_2 dX5_number_24 ?_
        refine gX_1_bytes C hX5_number_2_X9 hK hP mX5_number_2_5 dX5_number_27 ?_
        refine lv_aload_n C.1 C.2.1 dX5_number_30 rfl (lv_at hl 0 rfl) ?_
        refine gX_2_at C hX5_number_2_X5 hK hP mX5_number_2_1 dX5_number_31 ?_
        obtain ⟨hg5, h⟩ := gd_some h
        refine lX_13 C hK hP hg5 dX5_number_34 ?_
        refine lv_goto (tgt := 39) C.1 C.2.1 dX5_number_35 (by decide) ?_
        exact wGX5_number_2_39 C hK hJ ih _ _ _ _ _ _ _ h hP hS hl
set_option maxHeartbeats 4000000 in
set_option maxRecDepth 100000 in
theorem wX5_number_2 {p : Program} {l : Launch} {e : Env} {s : State} {m : MethodId} {args : Array Value} {below : List Frame} {meth : Method} {c : Code} {D : va_G} {cy : Nat → ClassId} {ad st : Nat → Nat} (C : Cx RX5 cX5_number 4 (some .int) wsX5_number p s m args meth c) (hK : Kx D [(cy 0, .int), (cy 1, .long), (cy 2, .boolean), (cy 3, .byte), (cy 4, .object "HissHorn$Text")] st s) (hJ : JX ad)  {u : SX} {r : Int32} {u' : SX} {H : Heap} {locs : List Loc} {ls : Array Slot} (h : fX5_number_2  u = some (r, u')) (hP : va_P D vwCl (VX cy ad st u) H) (hS : va_S (Ax (AX ad) s.heap.size) s.heap H locs) (hl : lv_has ls 4 [(0, .ref (ad 2))]) : W p l e rmX5_number_2 s m args below meth c H locs 0 0 (MQ below (Qi D (VX cy ad st) (AX ad) s.heap.size r u') args s 0 0 (Ax (AX ad) s.heap.size)) (F0 m 0 ls []) := by
  unfold fX5_number_2 at h
  refine lv_iconst (v := 0) C.1 C.2.1 dX5_number_0 (by decide) ?_
  refine lv_istore_n (lv' := [(1, .int 0), (0, .ref (ad 2))]) C.1 C.2.1 dX5_number_1 rfl hl (by decide) rfl (fun ls hl => ?_)
  replace hl := lv_sub (l' := [(0, .ref (ad 2)), (1, .int 0)]) hl [1, 0] rfl
  refine lv_iconst (v := 0) C.1 C.2.1 dX5_number_2 (by decide) ?_
  refine lv_istore_n (lv' := [(2, .int 0), (0, .ref (ad 2)), (1, .int 0)]) C.1 C.2.1 dX5_number_3 rfl hl (by decide) rfl (fun ls hl => ?_)
  replace hl := lv_sub (l' := [(0, .ref (ad 2)), (1, .int 0), (2, .int 0)]) hl [1, 2, 0] rfl
  exact wLX5_number_2_4 C hK hJ  5000 _ _ _ _ _ _ h hP hS hl
theorem metX5_number_2 (l : Launch) (D : va_G) (cy : Nat → ClassId) (ad st : Nat → Nat) (hJ : JX ad) (sz : Nat)  {u : SX} {r : Int32} {u' : SX} (h : fX5_number_2  u = some (r, u')) : Met l yX5_number wsX5_number rmX5_number_2 (va_Pc [.ref (ad 2)] (Px D [(cy 0, .int), (cy 1, .long), (cy 2, .boolean), (cy 3, .byte), (cy 4, .object "HissHorn$Text")] st (VX cy ad st) sz u)) (Qi D (VX cy ad st) (AX ad) sz r u') 0 0 (Ax (AX ad) sz) := by
  refine Met.ofW (cc := cX5_number) (maxL := 4) (ret := (some .int)) (by decide) rfl ?_
  intro p e s m args below meth c s₁ B hml hv
  obtain ⟨rfl, hsz, hP, hK⟩ := hv
  subst hsz
  have C : Cx RX5 cX5_number 4 (some .int) wsX5_number p s m _ meth c := ⟨B.exec, B.bytes, hml, B.returns, findClass_of_methodNamed B.named, atoms_spec (ws := wsX5_number) B.pre, B.notSynchronized⟩
  have hl := lv_entry ([.ref (ad 2)]) (n := 4) (Nat.le_of_ble_eq_true rfl)
  rw [lg_entry_eq]
  exact wX5_number_2 C hK hJ h hP va_S.rf hl

/-- room of a recursion by its depth -/
def rmX5conditiong (d : Nat) : Room := { frames := 2 + d, cells := 0, slots := 0, locals := 41 + 64 * d }
theorem rmX5conditiong_f (d : Nat) : 2 ≤ (rmX5conditiong d).frames := Nat.le_add_right _ _
theorem rmX5conditiong_l (d : Nat) : 41 ≤ (rmX5conditiong d).locals := Nat.le_add_right _ _
theorem rmX5conditiong_sf (d : Nat) : (rmX5conditiong d).frames + 1 ≤ (rmX5conditiong (d + 1)).frames := Nat.le_refl _
theorem rmX5conditiong_sl (d : Nat) {k : Nat} (h : k ≤ 64) : k + (rmX5conditiong d).locals ≤ (rmX5conditiong (d + 1)).locals := by show k + (41 + 64 * d) ≤ 41 + 64 * (d + 1); omega
def hRX5conditiong (l : Launch) (D : va_G) (cy : Nat → ClassId) (ad st : Nat → Nat) (rc : Nat → Int32 → Int32 → SX → Option (Int32 × SX)) (dd : Nat) : Prop := (∀ (sz : Nat) (x1 : Int32) (x2 : Int32) (u : SX) (r : Int32) (u' : SX), rc 0 x1 x2 u = some (r, u') → Met l yX5_condition wsX5_condition (rmX5conditiong dd) (va_Pc [.ref (ad 2), .int x1, .int x2] (Px D [(cy 0, .int), (cy 1, .long), (cy 2, .boolean), (cy 3, .byte), (cy 4, .object "HissHorn$Text")] st (VX cy ad st) sz u)) (Qi D (VX cy ad st) (AX ad) sz r u') 0 0 (Ax (AX ad) sz)) ∧ (∀ (sz : Nat) (x1 : Int32) (x2 : Int32) (u : SX) (r : Int32) (u' : SX), rc 1 x1 x2 u = some (r, u') → Met l yX5_unit wsX5_unit (rmX5conditiong dd) (va_Pc [.ref (ad 2), .int x1, .int x2] (Px D [(cy 0, .int), (cy 1, .long), (cy 2, .boolean), (cy 3, .byte), (cy 4, .object "HissHorn$Text")] st (VX cy ad st) sz u)) (Qi D (VX cy ad st) (AX ad) sz r u') 0 0 (Ax (AX ad) sz)) ∧ (∀ (sz : Nat) (x1 : Int32) (u : SX) (r : Int32) (u' : SX), rc 2 x1 0 u = some (r, u') → Met l yX5_total wsX5_total (rmX5conditiong dd) (va_Pc [.ref (ad 2), .int x1] (Px D [(cy 0, .int), (cy 1, .long), (cy 2, .boolean), (cy 3, .byte), (cy 4, .object "HissHorn$Text")] st (VX cy ad st) sz u)) (Qi D (VX cy ad st) (AX ad) sz r u') 0 0 (Ax (AX ad) sz)) ∧ (∀ (sz : Nat) (x1 : Int32) (u : SX) (r : Int32) (u' : SX), rc 3 x1 0 u = some (r, u') → Met l yX5_atom wsX5_atom (rmX5conditiong dd) (va_Pc [.ref (ad 2), .int x1] (Px D [(cy 0, .int), (cy 1, .long), (cy 2, .boolean), (cy 3, .byte), (cy 4, .object "HissHorn$Text")] st (VX cy ad st) sz u)) (Qi D (VX cy ad st) (AX ad) sz r u') 0 0 (Ax (AX ad) sz))

theorem dX5_condition_103 : decode cX5_condition 103 = .ok (.aload_n 0, 1) := by decide +kernel
theorem dX5_condition_104 : decode cX5_condition 104 = .ok (.dup, 1) := by decide +kernel
theorem dX5_condition_105 : decode cX5_condition 105 = .ok (.getfield 27, 3) := by decide +kernel
theorem dX5_condition_108 : decode cX5_condition 108 = .ok (.iconst 1, 1) := by decide +kernel
theorem dX5_condition_109 : decode cX5_condition 109 = .ok (.iadd, 1) := by decide +kernel
theorem dX5_condition_110 : decode cX5_condition 110 = .ok (.putfield 27, 3) := by decide +kernel
theorem dX5_condition_113 : decode cX5_condition 113 = .ok (.iinc 5 1, 3) := by decide +kernel
theorem dX5_condition_116 : decode cX5_condition 116 = .ok (.goto (-108), 3) := by decide +kernel
theorem dX5_condition_96 : decode cX5_condition 96 = .ok (.istore_n 3, 1) := by decide +kernel
theorem dX5_condition_97 : decode cX5_condition 97 = .ok (.iload_n 3, 1) := by decide +kernel
theorem dX5_condition_98 : decode cX5_condition 98 = .ok (.ifCond .ne 5, 3) := by decide +kernel
theorem dX5_condition_101 : decode cX5_condition 101 = .ok (.iconst 1, 1) := by decide +kernel
theorem dX5_condition_102 : decode cX5_condition 102 = .ok (.ireturn, 1) := by decide +kernel
theorem dX5_condition_70 : decode cX5_condition 70 = .ok (.istore 4, 2) := by decide +kernel
theorem dX5_condition_72 : decode cX5_condition 72 = .ok (.iload 4, 2) := by decide +kernel
theorem dX5_condition_74 : decode cX5_condition 74 = .ok (.ifCond .ne 29, 3) := by decide +kernel
theorem dX5_condition_77 : decode cX5_condition 77 = .ok (.aload_n 0, 1) := by decide +kernel
theorem dX5_condition_78 : decode cX5_condition 78 = .ok (.iload_n 3, 1) := by decide +kernel
theorem dX5_condition_79 : decode cX5_condition 79 = .ok (.iconst 0, 1) := by decide +kernel
set_option maxRecDepth 20000 in
theorem ggX5_condition_X5_emit : GoodIn wsX5_condition wsX5_emit := goodIn_r _ [11, 12, 13, 132, 133, 134, 135, 136] (by decide +kernel) (by decide +kernel)
set_option maxRecDepth 20000 in
theorem gX5_condition_X5_emit : GoodIn wsX5_condition (wsV RX5 67 RX5 yX5_emit wsX5_emit) := goodIn_app (goodIn_of _ (by decide +kernel)) ggX5_condition_X5_emit
theorem dX5_condition_80 : decode cX5_condition 80 = .ok (.invokevirtual 67, 3) := by decide +kernel
theorem dX5_condition_83 : decode cX5_condition 83 = .ok (.iload 6, 2) := by decide +kernel
theorem dX5_condition_85 : decode cX5_condition 85 = .ok (.bipush 124, 2) := by decide +kernel
theorem dX5_condition_87 : decode cX5_condition 87 = .ok (.if_icmp .ne 8, 3) := by decide +kernel
theorem dX5_condition_95 : decode cX5_condition 95 = .ok (.iconst 0, 1) := by decide +kernel
theorem dX5_condition_90 : decode cX5_condition 90 = .ok (.iload 6, 2) := by decide +kernel
theorem dX5_condition_92 : decode cX5_condition 92 = .ok (.goto 4, 3) := by decide +kernel
set_option maxRecDepth 20000 in
theorem ggX5_condition_X5_unit : GoodIn wsX5_condition wsX5_unit := goodIn_r _ [19, 3, 14, 15, 16, 7, 17, 1, 2, 18, 4, 5, 6, 8, 9, 10, 11, 12, 13, 20, 21, 22, 23, 24, 25, 26, 27, 28, 29, 30, 31, 32, 33, 34, 35, 36, 37, 38, 39, 40, 41, 42, 43, 44, 45, 46, 47, 48, 49, 50, 51, 52, 53, 54, 55, 56, 57, 58, 59, 60, 61, 62, 63, 64, 65, 66, 67, 68, 69, 70, 71, 72, 73, 74, 75, 76, 77, 78, 79, 80, 81, 82, 83, 84, 85, 86, 87, 88, 89, 90, 91, 92, 93, 94, 95, 96, 97, 98, 99, 100, 101, 102, 103, 104, 105, 106, 107, 108, 109, 110, 111, 112, 113, 114, 115, 116, 117, 118, 119, 120, 121, 122, 123, 124, 125, 126, 127, 128, 129, 130, 131, 0, 132, 133, 134, 135, 136, 137, 138] (by decide +kernel) (by decide +kernel)
set_option maxRecDepth 20000 in
theorem gX5_condition_X5_unit : GoodIn wsX5_condition (wsV RX5 75 RX5 yX5_unit wsX5_unit) := goodIn_app (goodIn_of _ (by decide +kernel)) ggX5_condition_X5_unit
theorem dX5_condition_36 : decode cX5_condition 36 = .ok (.invokevirtual 75, 3) := by decide +kernel
theorem dX5_condition_39 : decode cX5_condition 39 = .ok (.ifCond .ne 5, 3) := by decide +kernel
theorem dX5_condition_44 : decode cX5_condition 44 = .ok (.aload_n 0, 1) := by decide +kernel
theorem dX5_condition_45 : decode cX5_condition 45 = .ok (.iload 4, 2) := by decide +kernel
theorem dX5_condition_47 : decode cX5_condition 47 = .ok (.iconst 0, 1) := by decide +kernel
theorem dX5_condition_48 : decode cX5_condition 48 = .ok (.invokevirtual 67, 3) := by decide +kernel
theorem dX5_condition_51 : decode cX5_condition 51 = .ok (.aload_n 0, 1) := by decide +kernel
set_option maxRecDepth 20000 in
theorem ggX5_condition_X5_peek : GoodIn wsX5_condition wsX5_peek := goodIn_r _ [17, 3, 1, 2, 18, 132, 133, 134, 135, 136, 137, 138] (by decide +kernel) (by decide +kernel)
set_option maxRecDepth 20000 in
theorem gX5_condition_X5_peek : GoodIn wsX5_condition (wsV RX5 45 RX5 yX5_peek wsX5_peek) := goodIn_app (goodIn_of _ (by decide +kernel)) ggX5_condition_X5_peek
theorem dX5_condition_52 : decode cX5_condition 52 = .ok (.invokevirtual 45, 3) := by decide +kernel
theorem dX5_condition_55 : decode cX5_condition 55 = .ok (.istore 6, 2) := by decide +kernel
theorem dX5_condition_57 : decode cX5_condition 57 = .ok (.iload 6, 2) := by decide +kernel
theorem dX5_condition_59 : decode cX5_condition 59 = .ok (.bipush 38, 2) := by decide +kernel
theorem dX5_condition_61 : decode cX5_condition 61 = .ok (.if_icmp .ne 8, 3) := by decide +kernel
theorem dX5_condition_69 : decode cX5_condition 69 = .ok (.iconst 0, 1) := by decide +kernel
theorem dX5_condition_64 : decode cX5_condition 64 = .ok (.iload 6, 2) := by decide +kernel
theorem dX5_condition_66 : decode cX5_condition 66 = .ok (.goto 4, 3) := by decide +kernel
theorem dX5_condition_42 : decode cX5_condition 42 = .ok (.iconst 0, 1) := by decide +kernel
theorem dX5_condition_43 : decode cX5_condition 43 = .ok (.ireturn, 1) := by decide +kernel
theorem dX5_condition_35 : decode cX5_condition 35 = .ok (.iconst 0, 1) := by decide +kernel
theorem dX5_condition_8 : decode cX5_condition 8 = .ok (.iload 5, 2) := by decide +kernel
theorem dX5_condition_10 : decode cX5_condition 10 = .ok (.aload_n 0, 1) := by decide +kernel
theorem dX5_condition_11 : decode cX5_condition 11 = .ok (.getfield 23, 3) := by decide +kernel
theorem dX5_condition_14 : decode cX5_condition 14 = .ok (.getfield 34, 3) := by decide +kernel
theorem dX5_condition_17 : decode cX5_condition 17 = .ok (.if_icmp .gt 102, 3) := by decide +kernel
theorem dX5_condition_119 : decode cX5_condition 119 = .ok (.iconst 0, 1) := by decide +kernel
theorem dX5_condition_120 : decode cX5_condition 120 = .ok (.ireturn, 1) := by decide +kernel
theorem dX5_condition_20 : decode cX5_condition 20 = .ok (.aload_n 0, 1) := by decide +kernel
theorem dX5_condition_21 : decode cX5_condition 21 = .ok (.iload_n 1, 1) := by decide +kernel
theorem dX5_condition_22 : decode cX5_condition 22 = .ok (.iload_n 2, 1) := by decide +kernel
theorem dX5_condition_23 : decode cX5_condition 23 = .ok (.ifCond .eq 12, 3) := by decide +kernel
theorem dX5_condition_26 : decode cX5_condition 26 = .ok (.iload 5, 2) := by decide +kernel
theorem dX5_condition_28 : decode cX5_condition 28 = .ok (.ifCond .ne 7, 3) := by decide +kernel
theorem dX5_condition_31 : decode cX5_condition 31 = .ok (.iconst 1, 1) := by decide +kernel
theorem dX5_condition_32 : decode cX5_condition 32 = .ok (.goto 4, 3) := by decide +kernel
theorem dX5_condition_0 : decode cX5_condition 0 = .ok (.iconst 0, 1) := by decide +kernel
theorem dX5_condition_1 : decode cX5_condition 1 = .ok (.istore_n 3, 1) := by decide +kernel
theorem dX5_condition_2 : decode cX5_condition 2 = .ok (.iconst 0, 1) := by decide +kernel
theorem dX5_condition_3 : decode cX5_condition 3 = .ok (.istore 4, 2) := by decide +kernel
theorem dX5_condition_5 : decode cX5_condition 5 = .ok (.iconst 0, 1) := by decide +kernel
theorem dX5_condition_6 : decode cX5_condition 6 = .ok (.istore 5, 2) := by decide +kernel
/-- HissHorn$Parser.condition(IZ)Z of cell 2 -/
theorem hX5_condition_2_X5 : ∀ w ∈ u_ws RX5 TX5 5, w ∈ wsX5_condition := fun w h => (List.mem_cons_of_mem _ (List.mem_append_left _ (List.mem_append_right _ h)))
theorem mX5_condition_2_1 : Cond.fieldLink RX5 23 "HissHorn$Parser" "tape" "LHissHorn$Tape;" ∈ wsX5_condition := (List.mem_cons_of_mem _ (List.mem_append_left _ (List.mem_append_left _ (List.mem_append_left _ (List.mem_of_getElem? (i := 0) rfl)))))
theorem hX5_condition_2_X9 : ∀ w ∈ u_ws RX9 TX9 2, w ∈ wsX5_condition := fun w h => (List.mem_cons_of_mem _ (List.mem_append_right _ h))
theorem mX5_condition_2_3 : Cond.fieldLink RX5 34 "HissHorn$Tape" "length" "I" ∈ wsX5_condition := (List.mem_cons_of_mem _ (List.mem_append_left _ (List.mem_append_left _ (List.mem_append_left _ (List.mem_of_getElem? (i := 1) rfl)))))
theorem mX5_condition_2_4 : Cond.fieldLink RX5 27 "HissHorn$Parser" "at" "I" ∈ wsX5_condition := (List.mem_cons_of_mem _ (List.mem_append_left _ (List.mem_append_left _ (List.mem_append_left _ (List.mem_of_getElem? (i := 2) rfl)))))
def GX5_condition_2_103 (rc : Nat → Int32 → Int32 → SX → Option (Int32 × SX)) (k8 : Int32 → Int32 → Int32 → Int32 → Int32 → SX → Option (Int32 × SX)) (z1 : Int32) (z2 : Int32) (z3 : Int32) (z4 : Int32) (z5 : Int32) (u : SX) : Option (Int32 × SX) := (lt (sI u 4 ((u.1 4) + 1)) fun u11 => (k8 z1 z2 z3 z4 (z5 + 1) u11))
def GX5_condition_2_96 (rc : Nat → Int32 → Int32 → SX → Option (Int32 × SX)) (k8 : Int32 → Int32 → Int32 → Int32 → Int32 → SX → Option (Int32 × SX)) (z1 : Int32) (z2 : Int32) (z4 : Int32) (z5 : Int32) (y0 : Int32) (u : SX) : Option (Int32 × SX) := (if y0 = 0 then (gd (isB 1) (some (1, u))) else (GX5_condition_2_103 rc k8 z1 z2 y0 z4 z5 u))
def GX5_condition_2_70 (rc : Nat → Int32 → Int32 → SX → Option (Int32 × SX)) (k8 : Int32 → Int32 → Int32 → Int32 → Int32 → SX → Option (Int32 × SX)) (z1 : Int32) (z2 : Int32) (z3 : Int32) (z5 : Int32) (z6 : Int32) (y0 : Int32) (u : SX) : Option (Int32 × SX) := (if y0 = 0 then ((fX5_emit_2 z3 0 u).bind fun q => match q with | (r13, u14) => (if z6 = 124 then (GX5_condition_2_96 rc k8 z1 z2 y0 z5 z6 u14) else (GX5_condition_2_96 rc k8 z1 z2 y0 z5 0 u14))) else (GX5_condition_2_103 rc k8 z1 z2 z3 y0 z5 u))
def GX5_condition_2_36 (rc : Nat → Int32 → Int32 → SX → Option (Int32 × SX)) (k8 : Int32 → Int32 → Int32 → Int32 → Int32 → SX → Option (Int32 × SX)) (z1 : Int32) (z2 : Int32) (z3 : Int32) (z4 : Int32) (z5 : Int32) (y0 : Int32) (y1 : Int32) (u : SX) : Option (Int32 × SX) := ((rc 1 y1 y0 u).bind fun q => match q with | (r2, u3) => (if r2 = 0 then (gd (isB 0) (some (0, u3))) else ((fX5_emit_2 z4 0 u3).bind fun q => match q with | (r5, u6) => ((fX5_peek_2  u6).bind fun q => match q with | (r8, u9) => (if r8 = 38 then (GX5_condition_2_70 rc k8 z1 z2 z3 z5 r8 r8 u9) else (GX5_condition_2_70 rc k8 z1 z2 z3 z5 r8 0 u9))))))
def GX5_condition_2_35 (rc : Nat → Int32 → Int32 → SX → Option (Int32 × SX)) (k8 : Int32 → Int32 → Int32 → Int32 → Int32 → SX → Option (Int32 × SX)) (z1 : Int32) (z2 : Int32) (z3 : Int32) (z4 : Int32) (z5 : Int32) (y0 : Int32) (u : SX) : Option (Int32 × SX) := (GX5_condition_2_36 rc k8 z1 z2 z3 z4 z5 0 y0 u)
def LX5_condition_2_8 (rc : Nat → Int32 → Int32 → SX → Option (Int32 × SX))  : Nat → Int32 → Int32 → Int32 → Int32 → Int32 → SX → Option (Int32 × SX)
  | 0, _, _, _, _, _, _ => none
  | n + 1, z1, z2, z3, z4, z5, u => (if (u.1 1) < z5 then (gd (isB 0) (some (0, u))) else (if z2 = 0 then (GX5_condition_2_35 rc (LX5_condition_2_8 rc n) z1 z2 z3 z4 z5 z1 u) else (if z5 = 0 then (GX5_condition_2_36 rc (LX5_condition_2_8 rc n) z1 z2 z3 z4 z5 1 z1 u) else (GX5_condition_2_35 rc (LX5_condition_2_8 rc n) z1 z2 z3 z4 z5 z1 u))))
def fX5_condition_2 (rc : Nat → Int32 → Int32 → SX → Option (Int32 × SX)) (x1 : Int32) (x2 : Int32) (u : SX) : Option (Int32 × SX) := (LX5_condition_2_8 rc  5000 x1 x2 0 0 0 u)
set_option maxHeartbeats 4000000 in
set_option maxRecDepth 100000 in
theorem wGX5_condition_2_103 {p : Program} {l : Launch} {e : Env} {s : State} {m : MethodId} {args : Array Value} {below : List Frame} {meth : Method} {c : Code} {D : va_G} {cy : Nat → ClassId} {ad st : Nat → Nat} (C : Cx RX5 cX5_condition 7 (some .boolean) wsX5_condition p s m args meth c) (hK : Kx D [(cy 0, .int), (cy 1, .long), (cy 2, .boolean), (cy 3, .byte), (cy 4, .object "HissHorn$Text")] st s) (hJ : JX ad) {rc : Nat → Int32 → Int32 → SX → Option (Int32 × SX)} {dd : Nat} (hrc : hRX5conditiong l D cy ad st rc dd) {r : Int32} {u' : SX} {k8 : Int32 → Int32 → Int32 → Int32 → Int32 → SX → Option (Int32 × SX)} (hk8 : ∀ (z1 : Int32) (z2 : Int32) (z3 : Int32) (z4 : Int32) (z5 : Int32) (u : SX) (H : Heap) (locs : List Loc) (ls : Array Slot), k8 z1 z2 z3 z4 z5 u = some (r, u') → va_P D vwCl (VX cy ad st u) H → va_S (Ax (AX ad) s.heap.size) s.heap H locs → lv_has ls 7 [(0, .ref (ad 2)), (1, .int z1), (2, .int z2), (3, .int z3), (4, .int z4), (5, .int z5)] → W p l e (rmX5conditiong (dd + 1)) s m args below meth c H locs 0 0 (MQ below (Qi D (VX cy ad st) (AX ad) s.heap.size r u') args s 0 0 (Ax (AX ad) s.heap.size)) (F0 m 8 ls [])) (z1 : Int32) (z2 : Int32) (z3 : Int32) (z4 : Int32) (z5 : Int32) (u : SX) (H : Heap) (locs : List Loc) (ls : Array Slot) (h : GX5_condition_2_103 rc k8 z1 z2 z3 z4 z5 u = some (r, u')) (hP : va_P D vwCl (VX cy ad st u) H) (hS : va_S (Ax (AX ad) s.heap.size) s.heap H locs) (hl : lv_has ls 7 [(0, .ref (ad 2)), (1, .int z1), (2, .int z2), (3, .int z3), (4, .int z4), (5, .int z5)]) : W p l e (rmX5conditiong (dd + 1)) s m args below meth c H locs 0 0 (MQ below (Qi D (VX cy ad st) (AX ad) s.heap.size r u') args s 0 0 (Ax (AX ad) s.heap.size)) (F0 m 103 ls []) := by
  unfold GX5_condition_2_103 at h
  refine lv_aload_n C.1 C.2.1 dX5_condition_103 rfl (lv_at hl 0 rfl) ?_
  refine lv_dup C.1 C.2.1 dX5_condition_104 rfl ?_
  refine gX_2_at C hX5_condition_2_X5 hK hP mX5_condition_2_4 dX5_condition_105 ?_
  refine lv_iconst (v := 1) C.1 C.2.1 dX5_condition_108 (by decide) ?_
  refine lv_iadd C.1 C.2.1 dX5_condition_109 ?_
  refine pX_2_at C hX5_condition_2_X5 hK hP hJ hS mX5_condition_2_4 dX5_condition_110 (fun H locs hP hS => ?_)
  obtain ⟨u11, hu12, h⟩ := lt_some h
  rw [← hu12] at hP
  refine lv_iinc (v := z5 + 1) (lv' := [(5, .int (z5 + 1)), (0, .ref (ad 2)), (1, .int z1), (2, .int z2), (3, .int z3), (4, .int z4)]) C.1 C.2.1 dX5_condition_113 hl (k := 5) rfl rfl (by decide) rfl (fun ls hl => ?_)
  replace hl := lv_sub (l' := [(0, .ref (ad 2)), (1, .int z1), (2, .int z2), (3, .int z3), (4, .int z4), (5, .int (z5 + 1))]) hl [1, 2, 3, 4, 5, 0] rfl
  refine lv_goto (tgt := 8) C.1 C.2.1 dX5_condition_116 (by decide) ?_
  exact hk8 _ _ _ _ _ _ _ _ _ h hP hS hl
set_option maxHeartbeats 4000000 in
set_option maxRecDepth 100000 in
theorem wGX5_condition_2_96 {p : Program} {l : Launch} {e : Env} {s : State} {m : MethodId} {args : Array Value} {below : List Frame} {meth : Method} {c : Code} {D : va_G} {cy : Nat → ClassId} {ad st : Nat → Nat} (C : Cx RX5 cX5_condition 7 (some .boolean) wsX5_condition p s m args meth c) (hK : Kx D [(cy 0, .int), (cy 1, .long), (cy 2, .boolean), (cy 3, .byte), (cy 4, .object "HissHorn$Text")] st s) (hJ : JX ad) {rc : Nat → Int32 → Int32 → SX → Option (Int32 × SX)} {dd : Nat} (hrc : hRX5conditiong l D cy ad st rc dd) {r : Int32} {u' : SX} {k8 : Int32 → Int32 → Int32 → Int32 → Int32 → SX → Option (Int32 × SX)} (hk8 : ∀ (z1 : Int32) (z2 : Int32) (z3 : Int32) (z4 : Int32) (z5 : Int32) (u : SX) (H : Heap) (locs : List Loc) (ls : Array Slot), k8 z1 z2 z3 z4 z5 u = some (r, u') → va_P D vwCl (VX cy ad st u) H → va_S (Ax (AX ad) s.heap.size) s.heap H locs → lv_has ls 7 [(0, .ref (ad 2)), (1, .int z1), (2, .int z2), (3, .int z3), (4, .int z4), (5, .int z5)] → W p l e (rmX5conditiong (dd + 1)) s m args below meth c H locs 0 0 (MQ below (Qi D (VX cy ad st) (AX ad) s.heap.size r u') args s 0 0 (Ax (AX ad) s.heap.size)) (F0 m 8 ls [])) (z1 : Int32) (z2 : Int32) (z4 : Int32) (z5 : Int32) (y0 : Int32) (u : SX) (H : Heap) (locs : List Loc) (ls : Array Slot) (h : GX5_condition_2_96 rc k8 z1 z2 z4 z5 y0 u = some (r, u')) (hP : va_P D vwCl (VX cy ad st u) H) (hS : va_S (Ax (AX ad) s.heap.size) s.heap H locs) (hl : lv_has ls 7 [(0, .ref (ad 2)), (1, .int z1), (2, .int z2), (4, .int z4), (5, .int z5)]) : W p l e (rmX5conditiong (dd + 1)) s m args below meth c H locs 0 0 (MQ below (Qi D (VX cy ad st) (AX ad) s.heap.size r u') args s 0 0 (Ax (AX ad) s.heap.size)) (F0 m 96 ls [.int y0]) := by
  unfold GX5_condition_2_96 at h
  refine lv_istore_n (lv' := [(3, .int y0), (0, .ref (ad 2)), (1, .int z1), (2, .int z2), (4, .int z4), (5, .int z5)]) C.1 C.2.1 dX5_condition_96 rfl hl (by decide) rfl (fun ls hl => ?_)
  replace hl := lv_sub (l' := [(0, .ref (ad 2)), (1, .int z1), (2, .int z2), (3, .int y0), (4, .int z4), (5, .int z5)]) hl [1, 2, 3, 0, 4, 5] rfl
  refine lv_iload_n C.1 C.2.1 dX5_condition_97 rfl (lv_at hl 3 rfl) ?_
  refine lv_if_ne (tgt := 103) C.1 C.2.1 dX5_condition_98 (by decide) (fun c98 => ?_) (fun c98 => ?_)
  · rw [if_neg c98] at h
    exact wGX5_condition_2_103 C hK hJ hrc hk8 _ _ _ _ _ _ _ _ _ h hP hS hl
  · rw [if_pos c98] at h
    refine lv_iconst (v := 1) C.1 C.2.1 dX5_condition_101 (by decide) ?_
    obtain ⟨hg16, h⟩ := gd_some h
    cases h
    exact rt_z hg16 C hP hS dX5_condition_102
set_option maxHeartbeats 4000000 in
set_option maxRecDepth 100000 in
theorem wGX5_condition_2_70 {p : Program} {l : Launch} {e : Env} {s : State} {m : MethodId} {args : Array Value} {below : List Frame} {meth : Method} {c : Code} {D : va_G} {cy : Nat → ClassId} {ad st : Nat → Nat} (C : Cx RX5 cX5_condition 7 (some .boolean) wsX5_condition p s m args meth c) (hK : Kx D [(cy 0, .int), (cy 1, .long), (cy 2, .boolean), (cy 3, .byte), (cy 4, .object "HissHorn$Text")] st s) (hJ : JX ad) {rc : Nat → Int32 → Int32 → SX → Option (Int32 × SX)} {dd : Nat} (hrc : hRX5conditiong l D cy ad st rc dd) {r : Int32} {u' : SX} {k8 : Int32 → Int32 → Int32 → Int32 → Int32 → SX → Option (Int32 × SX)} (hk8 : ∀ (z1 : Int32) (z2 : Int32) (z3 : Int32) (z4 : Int32) (z5 : Int32) (u : SX) (H : Heap) (locs : List Loc) (ls : Array Slot), k8 z1 z2 z3 z4 z5 u = some (r, u') → va_P D vwCl (VX cy ad st u) H → va_S (Ax (AX ad) s.heap.size) s.heap H locs → lv_has ls 7 [(0, .ref (ad 2)), (1, .int z1), (2, .int z2), (3, .int z3), (4, .int z4), (5, .int z5)] → W p l e (rmX5conditiong (dd + 1)) s m args below meth c H locs 0 0 (MQ below (Qi D (VX cy ad st) (AX ad) s.heap.size r u') args s 0 0 (Ax (AX ad) s.heap.size)) (F0 m 8 ls [])) (z1 : Int32) (z2 : Int32) (z3 : Int32) (z5 : Int32) (z6 : Int32) (y0 : Int32) (u : SX) (H : Heap) (locs : List Loc) (ls : Array Slot) (h : GX5_condition_2_70 rc k8 z1 z2 z3 z5 z6 y0 u = some (r, u')) (hP : va_P D vwCl (VX cy ad st u) H) (hS : va_S (Ax (AX ad) s.heap.size) s.heap H locs) (hl : lv_has ls 7 [(0, .ref (ad 2)), (1, .int z1), (2, .int z2), (3, .int z3), (5, .int z5), (6, .int z6)]) : W p l e (rmX5conditiong (dd + 1)) s m args below meth c H locs 0 0 (MQ below (Qi D (VX cy ad st) (AX ad) s.heap.size r u') args s 0 0 (Ax (AX ad) s.heap.size)) (F0 m 70 ls [.int y0]) := by
  unfold GX5_condition_2_70 at h
  refine lv_istore (lv' := [(4, .int y0), (0, .ref (ad 2)), (1, .int z1), (2, .int z2), (3, .int z3), (5, .int z5), (6, .int z6)]) C.1 C.2.1 dX5_condition_70 hl (by decide) rfl (fun ls hl => ?_)
  replace hl := lv_sub (l' := [(0, .ref (ad 2)), (1, .int z1), (2, .int z2), (3, .int z3), (4, .int y0), (5, .int z5), (6, .int z6)]) hl [1, 2, 3, 4, 0, 5, 6] rfl
  refine lv_iload C.1 C.2.1 dX5_condition_72 (lv_at hl 4 rfl) ?_
  refine lv_if_ne (tgt := 103) C.1 C.2.1 dX5_condition_74 (by decide) (fun c74 => ?_) (fun c74 => ?_)
  · rw [if_neg c74] at h
    exact wGX5_condition_2_103 C hK hJ hrc hk8 _ _ _ _ _ _ _ _ _ h hP hS (lv_sub hl [0, 1, 2, 3, 4, 5] rfl)
  · rw [if_pos c74] at h
    refine lv_aload_n C.1 C.2.1 dX5_condition_77 rfl (lv_at hl 0 rfl) ?_
    refine lv_iload_n C.1 C.2.1 dX5_condition_78 rfl (lv_at hl 3 rfl) ?_
    refine lv_iconst (v := 0) C.1 C.2.1 dX5_condition_79 (by decide) ?_
    obtain ⟨⟨r13, u14⟩, hc15, h⟩ := bd_some h
    try dsimp only at h
    refine cg_v (As := [.int z3, .int 0]) (rest := []) C hK hP hS (metX5_emit_2 l D cy ad st hJ _ z3 0 hc15) (cwV 2 C.2.2.2.2.2.1 gX5_condition_X5_emit rfl rfl rfl (by decide +kernel) ⟨(Nat.le_trans (m := 2) (Nat.le_of_ble_eq_true rfl) (rmX5conditiong_f _)), (Nat.le_trans (m := 41) (Nat.le_of_ble_eq_true rfl) (rmX5conditiong_l _))⟩) 2 5 rfl rfl rfl hl.1 rfl (Nat.le_of_ble_eq_true rfl) dX5_condition_80 ⟨Nat.zero_le _, Nat.zero_le _⟩ (fun H locs hP hS => ?_)
    refine lv_iload C.1 C.2.1 dX5_condition_83 (lv_at hl 6 rfl) ?_
    refine lv_bipush (v := 124) C.1 C.2.1 dX5_condition_85 (by decide) ?_
    refine lv_icmp_ne (tgt := 95) C.1 C.2.1 dX5_condition_87 (by decide) (fun c87 => ?_) (fun c87 => ?_)
    · rw [if_neg c87] at h
      refine lv_iconst (v := 0) C.1 C.2.1 dX5_condition_95 (by decide) ?_
      exact wGX5_condition_2_96 C hK hJ hrc hk8 _ _ _ _ _ _ _ _ _ h hP hS (lv_sub hl [0, 1, 2, 4, 5] rfl)
    · rw [if_pos c87] at h
      refine lv_iload C.1 C.2.1 dX5_condition_90 (lv_at hl 6 rfl) ?_
      refine lv_goto (tgt := 96) C.1 C.2.1 dX5_condition_92 (by decide) ?_
      exact wGX5_condition_2_96 C hK hJ hrc hk8 _ _ _ _ _ _ _ _ _ h hP hS (lv_sub hl [0, 1, 2, 4, 5] rfl)
set_option maxHeartbeats 4000000 in
set_option maxRecDepth 100000 in
theorem wGX5_condition_2_36 {p : Program} {l : Launch} {e : Env} {s : State} {m : MethodId} {args : Array Value} {below : List Frame} {meth : Method} {c : Code} {D : va_G} {cy : Nat → ClassId} {ad st : Nat → Nat} (C : Cx RX5 cX5_condition 7 (some .boolean) wsX5_condition p s m args meth c) (hK : Kx D [(cy 0, .int), (cy 1, .long), (cy 2, .boolean), (cy 3, .byte), (cy 4, .object "HissHorn$Text")] st s) (hJ : JX ad) {rc : Nat → Int32 → Int32 → SX → Option (Int32 × SX)} {dd : Nat} (hrc : hRX5conditiong l D cy ad st rc dd) {r : Int32} {u' : SX} {k8 : Int32 → Int32 → Int32 → Int32 → Int32 → SX → Option (Int32 × SX)} (hk8 : ∀ (z1 : Int32) (z2 : Int32) (z3 : Int32) (z4 : Int32) (z5 : Int32) (u : SX) (H : Heap) (locs : List Loc) (ls : Array Slot), k8 z1 z2 z3 z4 z5 u = some (r, u') → va_P D vwCl (VX cy ad st u) H → va_S (Ax (AX ad) s.heap.size) s.heap H locs → lv_has ls 7 [(0, .ref (ad 2)), (1, .int z1), (2, .int z2), (3, .int z3), (4, .int z4), (5, .int z5)] → W p l e (rmX5conditiong (dd + 1)) s m args below meth c H locs 0 0 (MQ below (Qi D (VX cy ad st) (AX ad) s.heap.size r u') args s 0 0 (Ax (AX ad) s.heap.size)) (F0 m 8 ls [])) (z1 : Int32) (z2 : Int32) (z3 : Int32) (z4 : Int32) (z5 : Int32) (y0 : Int32) (y1 : Int32) (u : SX) (H : Heap) (locs : List Loc) (ls : Array Slot) (h : GX5_condition_2_36 rc k8 z1 z2 z3 z4 z5 y0 y1 u = some (r, u')) (hP : va_P D vwCl (VX cy ad st u) H) (hS : va_S (Ax (AX ad) s.heap.size) s.heap H locs) (hl : lv_has ls 7 [(0, .ref (ad 2)), (1, .int z1), (2, .int z2), (3, .int z3), (4, .int z4), (5, .int z5)]) : W p l e (rmX5conditiong (dd + 1)) s m args below meth c H locs 0 0 (MQ below (Qi D (VX cy ad st) (AX ad) s.heap.size r u') args s 0 0 (Ax (AX ad) s.heap.size)) (F0 m 36 ls [.int y0, .int y1, .ref (ad 2)]) := by
  unfold GX5_condition_2_36 at h
  obtain ⟨⟨r2, u3⟩, hc4, h⟩ := bd_some h
  try dsimp only at h
  refine cg_i (As := [.int y1, .int y0]) (rest := []) C hK hP hS (hrc.2.1 _ y1 y0 _ _ _ hc4) (cwV 2 C.2.2.2.2.2.1 gX5_condition_X5_unit rfl rfl rfl (by decide +kernel) ⟨rmX5conditiong_sf dd, rmX5conditiong_sl dd (k := 8 + (6 + 11)) (Nat.le_of_ble_eq_true rfl)⟩) 2 5 rfl rfl rfl hl.1 rfl (Nat.le_of_ble_eq_true rfl) dX5_condition_36 ⟨Nat.zero_le _, Nat.zero_le _⟩ (fun H locs hP hS => ?_)
  refine lv_if_ne (tgt := 44) C.1 C.2.1 dX5_condition_39 (by decide) (fun c39 => ?_) (fun c39 => ?_)
  · rw [if_neg c39] at h
    refine lv_aload_n C.1 C.2.1 dX5_condition_44 rfl (lv_at hl 0 rfl) ?_
    refine lv_iload C.1 C.2.1 dX5_condition_45 (lv_at hl 4 rfl) ?_
    refine lv_iconst (v := 0) C.1 C.2.1 dX5_condition_47 (by decide) ?_
    obtain ⟨⟨r5, u6⟩, hc7, h⟩ := bd_some h
    try dsimp only at h
    refine cg_v (As := [.int z4, .int 0]) (rest := []) C hK hP hS (metX5_emit_2 l D cy ad st hJ _ z4 0 hc7) (cwV 2 C.2.2.2.2.2.1 gX5_condition_X5_emit rfl rfl rfl (by decide +kernel) ⟨(Nat.le_trans (m := 2) (Nat.le_of_ble_eq_true rfl) (rmX5conditiong_f _)), (Nat.le_trans (m := 41) (Nat.le_of_ble_eq_true rfl) (rmX5conditiong_l _))⟩) 2 5 rfl rfl rfl hl.1 rfl (Nat.le_of_ble_eq_true rfl) dX5_condition_48 ⟨Nat.zero_le _, Nat.zero_le _⟩ (fun H locs hP hS => ?_)
    refine lv_aload_n C.1 C.2.1 dX5_condition_51 rfl (lv_at hl 0 rfl) ?_
    obtain ⟨⟨r8, u9⟩, hc10, h⟩ := bd_some h
    try dsimp only at h
    refine cg_i (As := []) (rest := []) C hK hP hS (metX5_peek_2 l D cy ad st hJ _  hc10) (cwV 0 C.2.2.2.2.2.1 gX5_condition_X5_peek rfl rfl rfl (by decide +kernel) ⟨(Nat.le_trans (m := 2) (Nat.le_of_ble_eq_true rfl) (rmX5conditiong_f _)), (Nat.le_trans (m := 41) (Nat.le_of_ble_eq_true rfl) (rmX5conditiong_l _))⟩) 2 5 rfl rfl rfl hl.1 rfl (Nat.le_of_ble_eq_true rfl) dX5_condition_52 ⟨Nat.zero_le _, Nat.zero_le _⟩ (fun H locs hP hS => ?_)
    refine lv_istore (lv' := [(6, .int r8), (0, .ref (ad 2)), (1, .int z1), (2, .int z2), (3, .int z3), (4, .int z4), (5, .int z5)]) C.1 C.2.1 dX5_condition_55 hl (by decide) rfl (fun ls hl => ?_)
    replace hl := lv_sub (l' := [(0, .ref (ad 2)), (1, .int z1), (2, .int z2), (3, .int z3), (4, .int z4), (5, .int z5), (6, .int r8)]) hl [1, 2, 3, 4, 5, 6, 0] rfl
    refine lv_iload C.1 C.2.1 dX5_condition_57 (lv_at hl 6 rfl) ?_
    refine lv_bipush (v := 38) C.1 C.2.1 dX5_condition_59 (by decide) ?_
    refine lv_icmp_ne (tgt := 69) C.1 C.2.1 dX5_condition_61 (by decide) (fun c61 => ?_) (fun c61 => ?_)
    · rw [if_neg c61] at h
      refine lv_iconst (v := 0) C.1 C.2.1 dX5_condition_69 (by decide) ?_
      exact wGX5_condition_2_70 C hK hJ hrc hk8 _ _ _ _ _ _ _ _ _ _ h hP hS (lv_sub hl [0, 1, 2, 3, 5, 6] rfl)
    · rw [if_pos c61] at h
      refine lv_iload C.1 C.2.1 dX5_condition_64 (lv_at hl 6 rfl) ?_
      refine lv_goto (tgt := 70) C.1 C.2.1 dX5_condition_66 (by decide) ?_
      exact wGX5_condition_2_70 C hK hJ hrc hk8 _ _ _ _ _ _ _ _ _ _ h hP hS (lv_sub hl [0, 1, 2, 3, 5, 6] rfl)
  · rw [if_pos c39] at h
    refine lv_iconst (v := 0) C.1 C.2.1 dX5_condition_42 (by decide) ?_
    obtain ⟨hg17, h⟩ := gd_some h
    cases h
    exact rt_z hg17 C hP hS dX5_condition_43
set_option maxHeartbeats 4000000 in
set_option maxRecDepth 100000 in
theorem wGX5_condition_2_35 {p : Program} {l : Launch} {e : Env} {s : State} {m : MethodId} {args : Array Value} {below : List Frame} {meth : Method} {c : Code} {D : va_G} {cy : Nat → ClassId} {ad st : Nat → Nat} (C : Cx RX5 cX5_condition 7 (some .boolean) wsX5_condition p s m args meth c) (hK : Kx D [(cy 0, .int), (cy 1, .long), (cy 2, .boolean), (cy 3, .byte), (cy 4, .object "HissHorn$Text")] st s) (hJ : JX ad) {rc : Nat → Int32 → Int32 → SX → Option (Int32 × SX)} {dd : Nat} (hrc : hRX5conditiong l D cy ad st rc dd) {r : Int32} {u' : SX} {k8 : Int32 → Int32 → Int32 → Int32 → Int32 → SX → Option (Int32 × SX)} (hk8 : ∀ (z1 : Int32) (z2 : Int32) (z3 : Int32) (z4 : Int32) (z5 : Int32) (u : SX) (H : Heap) (locs : List Loc) (ls : Array Slot), k8 z1 z2 z3 z4 z5 u = some (r, u') → va_P D vwCl (VX cy ad st u) H → va_S (Ax (AX ad) s.heap.size) s.heap H locs → lv_has ls 7 [(0, .ref (ad 2)), (1, .int z1), (2, .int z2), (3, .int z3), (4, .int z4), (5, .int z5)] → W p l e (rmX5conditiong (dd + 1)) s m args below meth c H locs 0 0 (MQ below (Qi D (VX cy ad st) (AX ad) s.heap.size r u') args s 0 0 (Ax (AX ad) s.heap.size)) (F0 m 8 ls [])) (z1 : Int32) (z2 : Int32) (z3 : Int32) (z4 : Int32) (z5 : Int32) (y0 : Int32) (u : SX) (H : Heap) (locs : List Loc) (ls : Array Slot) (h : GX5_condition_2_35 rc k8 z1 z2 z3 z4 z5 y0 u = some (r, u')) (hP : va_P D vwCl (VX cy ad st u) H) (hS : va_S (Ax (AX ad) s.heap.size) s.heap H locs) (hl : lv_has ls 7 [(0, .ref (ad 2)), (1, .int z1), (2, .int z2), (3, .int z3), (4, .int z4), (5, .int z5)]) : W p l e (rmX5conditiong (dd + 1)) s m args below meth c H locs 0 0 (MQ below (Qi D (VX cy ad st) (AX ad) s.heap.size r u') args s 0 0 (Ax (AX ad) s.heap.size)) (F0 m 35 ls [.int y0, .ref (ad 2)]) := by
  unfold GX5_condition_2_35 at h
  refine lv_iconst (v := 0) C.1 C.2.1 dX5_condition_35 (by decide) ?_
  exact wGX5_condition_2_36 C hK hJ hrc hk8 _ _ _ _ _ _ _ _ _ _ _ h hP hS hl
set_option maxHeartbeats 4000000 in
set_option maxRecDepth 100000 in
theorem wLX5_condition_2_8 {p : Program} {l : Launch} {e : Env} {s : State} {m : MethodId} {args : Array Value} {below : List Frame} {meth : Method} {c : Code} {D : va_G} {cy : Nat → ClassId} {ad st : Nat → Nat} (C : Cx RX5 cX5_condition 7 (some .boolean) wsX5_condition p s m args meth c) (hK : Kx D [(cy 0, .int), (cy 1, .long), (cy 2, .boolean), (cy 3, .byte), (cy 4, .object "HissHorn$Text")] st s) (hJ : JX ad) {rc : Nat → Int32 → Int32 → SX → Option (Int32 × SX)} {dd : Nat} (hrc : hRX5conditiong l D cy ad st rc dd) {r : Int32} {u' : SX}   : ∀ (n : Nat) (z1 : Int32) (z2 : Int32) (z3 : Int32) (z4 : Int32) (z5 : Int32) (u : SX) (H : Heap) (locs : List Loc) (ls : Array Slot), LX5_condition_2_8 rc  n z1 z2 z3 z4 z5 u = some (r, u') → va_P D vwCl (VX cy ad st u) H → va_S (Ax (AX ad) s.heap.size) s.heap H locs → lv_has ls 7 [(0, .ref (ad 2)), (1, .int z1), (2, .int z2), (3, .int z3), (4, .int z4), (5, .int z5)] → W p l e (rmX5conditiong (dd + 1)) s m args below meth c H locs 0 0 (MQ below (Qi D (VX cy ad st) (AX ad) s.heap.size r u') args s 0 0 (Ax (AX ad) s.heap.size)) (F0 m 8 ls []) := by
  intro n
  induction n with
  | zero =>
    intro z1 z2 z3 z4 z5 u H locs ls h
    exact absurd h (by intro q; cases q)
  | succ n ih =>
    intro z1 z2 z3 z4 z5 u H locs ls h hP hS hl
    rw [LX5_condition_2_8] at h
    refine lv_iload C.1 C.2.1 dX5_condition_8 (lv_at hl 5 rfl) ?_
    refine lv_aload_n C.1 C.2.1 dX5_condition_10 rfl (lv_at hl 0 rfl) ?_
    refine gX_2_tape C hX5_condition_2_X5 hK hP mX5_condition_2_1 dX5_condition_11 ?_
    refine gX_1_length C hX5_condition_2_X9 hK hP mX5_condition_2_3 dX5_condition_14 ?_
    refine lv_icmp_gt (tgt := 119) C.1 C.2.1 dX5_condition_17 (by decide) (fun c17 => ?_) (fun c17 => ?_)
    · rw [if_pos c17] at h
      refine lv_iconst (v := 0) C.1 C.2.1 dX5_condition_119 (by decide) ?_
      obtain ⟨hg1, h⟩ := gd_some h
      cases h
      exact rt_z hg1 C hP hS dX5_condition_120
    · rw [if_neg c17] at h
      refine lv_aload_n C.1 C.2.1 dX5_condition_20 rfl (lv_at hl 0 rfl) ?_
      refine lv_iload_n C.1 C.2.1 dX5_condition_21 rfl (lv_at hl 1 rfl) ?_
      refine lv_iload_n C.1 C.2.1 dX5_condition_22 rfl (lv_at hl 2 rfl) ?_
      refine lv_if_eq (tgt := 35) C.1 C.2.1 dX5_condition_23 (by decide) (fun c23 => ?_) (fun c23 => ?_)
      · rw [if_pos c23] at h
        exact wGX5_condition_2_35 C hK hJ hrc ih _ _ _ _ _ _ _ _ _ _ h hP hS hl
      · rw [if_neg c23] at h
        refine lv_iload C.1 C.2.1 dX5_condition_26 (lv_at hl 5 rfl) ?_
        refine lv_if_ne (tgt := 35) C.1 C.2.1 dX5_condition_28 (by decide) (fun c28 => ?_) (fun c28 => ?_)
        · rw [if_neg c28] at h
          exact wGX5_condition_2_35 C hK hJ hrc ih _ _ _ _ _ _ _ _ _ _ h hP hS hl
        · rw [if_pos c28] at h
          refine lv_iconst (v := 1) C.1 C.2.1 dX5_condition_31 (by decide) ?_
          refine lv_goto (tgt := 36) C.1 C.2.1 dX5_condition_32 (by decide) ?_
          exact wGX5_condition_2_36 C hK hJ hrc ih _ _ _ _ _ _ _ _ _ _ _ h hP hS hl
set_option maxHeartbeats 4000000 in
set_option maxRecDepth 100000 in
theorem wX5_condition_2 {p : Program} {l : Launch} {e : Env} {s : State} {m : MethodId} {args : Array Value} {below : List Frame} {meth : Method} {c : Code} {D : va_G} {cy : Nat → ClassId} {ad st : Nat → Nat} (C : Cx RX5 cX5_condition 7 (some .boolean) wsX5_condition p s m args meth c) (hK : Kx D [(cy 0, .int), (cy 1, .long), (cy 2, .boolean), (cy 3, .byte), (cy 4, .object "HissHorn$Text")] st s) (hJ : JX ad) {rc : Nat → Int32 → Int32 → SX → Option (Int32 × SX)} {dd : Nat} (hrc : hRX5conditiong l D cy ad st rc dd) (x1 : Int32) (x2 : Int32) {u : SX} {r : Int32} {u' : SX} {H : Heap} {locs : List Loc} {ls : Array Slot} (h : fX5_condition_2 rc x1 x2 u = some (r, u')) (hP : va_P D vwCl (VX cy ad st u) H) (hS : va_S (Ax (AX ad) s.heap.size) s.heap H locs) (hl : lv_has ls 7 [(0, .ref (ad 2)), (1, .int x1), (2, .int x2)]) : W p l e (rmX5conditiong (dd + 1)) s m args below meth c H locs 0 0 (MQ below (Qi D (VX cy ad st) (AX ad) s.heap.size r u') args s 0 0 (Ax (AX ad) s.heap.size)) (F0 m 0 ls []) := by
  unfold fX5_condition_2 at h
  refine lv_iconst (v := 0) C.1 C.2.1 dX5_condition_0 (by decide) ?_
  refine lv_istore_n (lv' := [(3, .int 0), (0, .ref (ad 2)), (1, .int x1), (2, .int x2)]) C.1 C.2.1 dX5_condition_1 rfl hl (by decide) rfl (fun ls hl => ?_)
  replace hl := lv_sub (l' := [(0, .ref (ad 2)), (1, .int x1), (2, .int x2), (3, .int 0)]) hl [1, 2, 3, 0] rfl
  refine lv_iconst (v := 0) C.1 C.2.1 dX5_condition_2 (by decide) ?_
  refine lv_istore (lv' := [(4, .int 0), (0, .ref (ad 2)), (1, .int x1), (2, .int x2), (3, .int 0)]) C.1 C.2.1 dX5_condition_3 hl (by decide) rfl (fun ls hl => ?_)
  replace hl := lv_sub (l' := [(0, .ref (ad 2)), (1, .int x1), (2, .int x2), (3, .int 0), (4, .int 0)]) hl [1, 2, 3, 4, 0] rfl
  refine lv_iconst (v := 0) C.1 C.2.1 dX5_condition_5 (by decide) ?_
  refine lv_istore (lv' := [(5, .int 0), (0, .ref (ad 2)), (1, .int x1), (2, .int x2), (3, .int 0), (4, .int 0)]) C.1 C.2.1 dX5_condition_6 hl (by decide) rfl (fun ls hl => ?_)
  replace hl := lv_sub (l' := [(0, .ref (ad 2)), (1, .int x1), (2, .int x2), (3, .int 0), (4, .int 0), (5, .int 0)]) hl [1, 2, 3, 4, 5, 0] rfl
  exact wLX5_condition_2_8 C hK hJ hrc  5000 _ _ _ _ _ _ _ _ _ h hP hS hl
theorem metX5_condition_2 (l : Launch) (D : va_G) (cy : Nat → ClassId) (ad st : Nat → Nat) (hJ : JX ad) {rc : Nat → Int32 → Int32 → SX → Option (Int32 × SX)} {dd : Nat} (hrc : hRX5conditiong l D cy ad st rc dd) (sz : Nat) (x1 : Int32) (x2 : Int32) {u : SX} {r : Int32} {u' : SX} (h : fX5_condition_2 rc x1 x2 u = some (r, u')) : Met l yX5_condition wsX5_condition (rmX5conditiong (dd + 1)) (va_Pc [.ref (ad 2), .int x1, .int x2] (Px D [(cy 0, .int), (cy 1, .long), (cy 2, .boolean), (cy 3, .byte), (cy 4, .object "HissHorn$Text")] st (VX cy ad st) sz u)) (Qi D (VX cy ad st) (AX ad) sz r u') 0 0 (Ax (AX ad) sz) := by
  refine Met.ofW (cc := cX5_condition) (maxL := 7) (ret := (some .boolean)) (by decide) rfl ?_
  intro p e s m args below meth c s₁ B hml hv
  obtain ⟨rfl, hsz, hP, hK⟩ := hv
  subst hsz
  have C : Cx RX5 cX5_condition 7 (some .boolean) wsX5_condition p s m _ meth c := ⟨B.exec, B.bytes, hml, B.returns, findClass_of_methodNamed B.named, atoms_spec (ws := wsX5_condition) B.pre, B.notSynchronized⟩
  have hl := lv_entry ([.ref (ad 2), .int x1, .int x2]) (n := 7) (Nat.le_of_ble_eq_true rfl)
  rw [lg_entry_eq]
  exact wX5_condition_2 C hK hJ hrc x1 x2 h hP va_S.rf hl

theorem dX5_unit_116 : decode cX5_unit 116 = .ok (.aload_n 0, 1) := by decide +kernel
set_option maxRecDepth 20000 in
theorem ggX5_unit_X5_peek : GoodIn wsX5_unit wsX5_peek := goodIn_r _ [6, 1, 7, 8, 9, 132, 133, 134, 135, 136, 137, 138] (by decide +kernel) (by decide +kernel)
set_option maxRecDepth 20000 in
theorem gX5_unit_X5_peek : GoodIn wsX5_unit (wsV RX5 45 RX5 yX5_peek wsX5_peek) := goodIn_app (goodIn_of _ (by decide +kernel)) ggX5_unit_X5_peek
theorem dX5_unit_117 : decode cX5_unit 117 = .ok (.invokevirtual 45, 3) := by decide +kernel
theorem dX5_unit_120 : decode cX5_unit 120 = .ok (.istore 4, 2) := by decide +kernel
theorem dX5_unit_122 : decode cX5_unit 122 = .ok (.iload 4, 2) := by decide +kernel
set_option maxRecDepth 20000 in
theorem ggX5_unit_X5_compares : GoodIn wsX5_unit wsX5_compares := goodIn_r _ [130] (by decide +kernel) (by decide +kernel)
set_option maxRecDepth 20000 in
theorem gX5_unit_X5_compares : GoodIn wsX5_unit (va_wsS RX5 64 yX5_compares wsX5_compares) := goodIn_app (goodIn_of _ (by decide +kernel)) ggX5_unit_X5_compares
theorem dX5_unit_124 : decode cX5_unit 124 = .ok (.invokestatic 64, 3) := by decide +kernel
theorem dX5_unit_127 : decode cX5_unit 127 = .ok (.ifCond .ne 5, 3) := by decide +kernel
theorem dX5_unit_132 : decode cX5_unit 132 = .ok (.aload_n 0, 1) := by decide +kernel
theorem dX5_unit_133 : decode cX5_unit 133 = .ok (.dup, 1) := by decide +kernel
theorem dX5_unit_134 : decode cX5_unit 134 = .ok (.getfield 27, 3) := by decide +kernel
theorem dX5_unit_137 : decode cX5_unit 137 = .ok (.iconst 1, 1) := by decide +kernel
theorem dX5_unit_138 : decode cX5_unit 138 = .ok (.iadd, 1) := by decide +kernel
theorem dX5_unit_139 : decode cX5_unit 139 = .ok (.putfield 27, 3) := by decide +kernel
theorem dX5_unit_142 : decode cX5_unit 142 = .ok (.aload_n 0, 1) := by decide +kernel
theorem dX5_unit_143 : decode cX5_unit 143 = .ok (.iload_n 1, 1) := by decide +kernel
set_option maxRecDepth 20000 in
theorem ggX5_unit_X5_total : GoodIn wsX5_unit wsX5_total := goodIn_r _ [29, 7, 8, 1, 30, 31, 32, 5, 13, 14, 15, 16, 17, 18, 2, 3, 4, 6, 9, 33, 34, 26, 27, 28, 22, 23, 24, 25, 35, 36, 37, 38, 39, 40, 41, 42, 43, 44, 45, 46, 47, 48, 49, 50, 51, 52, 53, 54, 55, 56, 57, 58, 59, 60, 61, 62, 63, 64, 65, 66, 67, 68, 69, 70, 71, 72, 73, 74, 75, 76, 77, 78, 79, 80, 81, 82, 83, 84, 85, 86, 87, 88, 89, 90, 91, 92, 93, 94, 95, 96, 97, 98, 99, 100, 101, 102, 103, 104, 105, 106, 107, 108, 109, 110, 111, 112, 113, 114, 115, 116, 117, 118, 119, 120, 121, 122, 123, 124, 125, 126, 127, 132, 133, 134, 135, 136, 137, 138] (by decide +kernel) (by decide +kernel)
set_option maxRecDepth 20000 in
theorem gX5_unit_X5_total : GoodIn wsX5_unit (wsV RX5 60 RX5 yX5_total wsX5_total) := goodIn_app (goodIn_of _ (by decide +kernel)) ggX5_unit_X5_total
theorem dX5_unit_144 : decode cX5_unit 144 = .ok (.invokevirtual 60, 3) := by decide +kernel
theorem dX5_unit_147 : decode cX5_unit 147 = .ok (.istore 5, 2) := by decide +kernel
theorem dX5_unit_149 : decode cX5_unit 149 = .ok (.aload_n 0, 1) := by decide +kernel
theorem dX5_unit_150 : decode cX5_unit 150 = .ok (.iload 4, 2) := by decide +kernel
theorem dX5_unit_152 : decode cX5_unit 152 = .ok (.iconst 0, 1) := by decide +kernel
set_option maxRecDepth 20000 in
theorem ggX5_unit_X5_emit : GoodIn wsX5_unit wsX5_emit := goodIn_r _ [16, 17, 18, 132, 133, 134, 135, 136] (by decide +kernel) (by decide +kernel)
set_option maxRecDepth 20000 in
theorem gX5_unit_X5_emit : GoodIn wsX5_unit (wsV RX5 67 RX5 yX5_emit wsX5_emit) := goodIn_app (goodIn_of _ (by decide +kernel)) ggX5_unit_X5_emit
theorem dX5_unit_153 : decode cX5_unit 153 = .ok (.invokevirtual 67, 3) := by decide +kernel
theorem dX5_unit_156 : decode cX5_unit 156 = .ok (.iload 5, 2) := by decide +kernel
theorem dX5_unit_158 : decode cX5_unit 158 = .ok (.ireturn, 1) := by decide +kernel
theorem dX5_unit_130 : decode cX5_unit 130 = .ok (.iconst 0, 1) := by decide +kernel
theorem dX5_unit_131 : decode cX5_unit 131 = .ok (.ireturn, 1) := by decide +kernel
theorem dX5_unit_102 : decode cX5_unit 102 = .ok (.iload_n 2, 1) := by decide +kernel
theorem dX5_unit_103 : decode cX5_unit 103 = .ok (.ifCond .ne 13, 3) := by decide +kernel
theorem dX5_unit_106 : decode cX5_unit 106 = .ok (.aload_n 0, 1) := by decide +kernel
theorem dX5_unit_107 : decode cX5_unit 107 = .ok (.iload_n 1, 1) := by decide +kernel
theorem dX5_unit_108 : decode cX5_unit 108 = .ok (.invokevirtual 60, 3) := by decide +kernel
theorem dX5_unit_111 : decode cX5_unit 111 = .ok (.ifCond .ne 5, 3) := by decide +kernel
theorem dX5_unit_114 : decode cX5_unit 114 = .ok (.iconst 0, 1) := by decide +kernel
theorem dX5_unit_115 : decode cX5_unit 115 = .ok (.ireturn, 1) := by decide +kernel
theorem dX5_unit_50 : decode cX5_unit 50 = .ok (.iload_n 2, 1) := by decide +kernel
theorem dX5_unit_51 : decode cX5_unit 51 = .ok (.ifCond .ne 51, 3) := by decide +kernel
theorem dX5_unit_54 : decode cX5_unit 54 = .ok (.iload_n 1, 1) := by decide +kernel
theorem dX5_unit_55 : decode cX5_unit 55 = .ok (.bipush 6, 2) := by decide +kernel
theorem dX5_unit_57 : decode cX5_unit 57 = .ok (.if_icmp .ge 45, 3) := by decide +kernel
theorem dX5_unit_60 : decode cX5_unit 60 = .ok (.iload_n 3, 1) := by decide +kernel
theorem dX5_unit_61 : decode cX5_unit 61 = .ok (.bipush 40, 2) := by decide +kernel
theorem dX5_unit_63 : decode cX5_unit 63 = .ok (.if_icmp .ne 39, 3) := by decide +kernel
theorem dX5_unit_66 : decode cX5_unit 66 = .ok (.aload_n 0, 1) := by decide +kernel
theorem dX5_unit_67 : decode cX5_unit 67 = .ok (.dup, 1) := by decide +kernel
theorem dX5_unit_68 : decode cX5_unit 68 = .ok (.getfield 27, 3) := by decide +kernel
theorem dX5_unit_71 : decode cX5_unit 71 = .ok (.iconst 1, 1) := by decide +kernel
theorem dX5_unit_72 : decode cX5_unit 72 = .ok (.iadd, 1) := by decide +kernel
theorem dX5_unit_73 : decode cX5_unit 73 = .ok (.putfield 27, 3) := by decide +kernel
theorem dX5_unit_76 : decode cX5_unit 76 = .ok (.aload_n 0, 1) := by decide +kernel
theorem dX5_unit_77 : decode cX5_unit 77 = .ok (.iload_n 1, 1) := by decide +kernel
theorem dX5_unit_78 : decode cX5_unit 78 = .ok (.iconst 1, 1) := by decide +kernel
theorem dX5_unit_79 : decode cX5_unit 79 = .ok (.iadd, 1) := by decide +kernel
theorem dX5_unit_80 : decode cX5_unit 80 = .ok (.iconst 0, 1) := by decide +kernel
set_option maxRecDepth 20000 in
theorem ggX5_unit_X5_condition : GoodIn wsX5_unit wsX5_condition := goodIn_r _ [131, 7, 8, 1, 10, 11, 12, 5, 13, 14, 15, 16, 17, 18, 2, 3, 4, 6, 9, 0, 19, 20, 21, 22, 23, 24, 25, 26, 27, 28, 29, 30, 31, 32, 33, 34, 35, 36, 37, 38, 39, 40, 41, 42, 43, 44, 45, 46, 47, 48, 49, 50, 51, 52, 53, 54, 55, 56, 57, 58, 59, 60, 61, 62, 63, 64, 65, 66, 67, 68, 69, 70, 71, 72, 73, 74, 75, 76, 77, 78, 79, 80, 81, 82, 83, 84, 85, 86, 87, 88, 89, 90, 91, 92, 93, 94, 95, 96, 97, 98, 99, 100, 101, 102, 103, 104, 105, 106, 107, 108, 109, 110, 111, 112, 113, 114, 115, 116, 117, 118, 119, 120, 121, 122, 123, 124, 125, 126, 127, 128, 129, 130, 132, 133, 134, 135, 136, 137, 138] (by decide +kernel) (by decide +kernel)
set_option maxRecDepth 20000 in
theorem gX5_unit_X5_condition : GoodIn wsX5_unit (wsV RX5 71 RX5 yX5_condition wsX5_condition) := goodIn_app (goodIn_of _ (by decide +kernel)) ggX5_unit_X5_condition
theorem dX5_unit_81 : decode cX5_unit 81 = .ok (.invokevirtual 71, 3) := by decide +kernel
theorem dX5_unit_84 : decode cX5_unit 84 = .ok (.ifCond .eq 16, 3) := by decide +kernel
theorem dX5_unit_100 : decode cX5_unit 100 = .ok (.iconst 0, 1) := by decide +kernel
theorem dX5_unit_101 : decode cX5_unit 101 = .ok (.ireturn, 1) := by decide +kernel
theorem dX5_unit_87 : decode cX5_unit 87 = .ok (.aload_n 0, 1) := by decide +kernel
theorem dX5_unit_88 : decode cX5_unit 88 = .ok (.bipush 41, 2) := by decide +kernel
set_option maxRecDepth 20000 in
theorem ggX5_unit_X5_takes : GoodIn wsX5_unit wsX5_takes := goodIn_r _ [25, 1, 2, 3, 4, 5, 6, 7, 8, 9, 132, 133, 134, 135, 136, 137, 138] (by decide +kernel) (by decide +kernel)
set_option maxRecDepth 20000 in
theorem gX5_unit_X5_takes : GoodIn wsX5_unit (wsV RX5 41 RX5 yX5_takes wsX5_takes) := goodIn_app (goodIn_of _ (by decide +kernel)) ggX5_unit_X5_takes
theorem dX5_unit_90 : decode cX5_unit 90 = .ok (.invokevirtual 41, 3) := by decide +kernel
theorem dX5_unit_93 : decode cX5_unit 93 = .ok (.ifCond .eq 7, 3) := by decide +kernel
theorem dX5_unit_96 : decode cX5_unit 96 = .ok (.iconst 1, 1) := by decide +kernel
theorem dX5_unit_97 : decode cX5_unit 97 = .ok (.goto 4, 3) := by decide +kernel
theorem dX5_unit_0 : decode cX5_unit 0 = .ok (.aload_n 0, 1) := by decide +kernel
theorem dX5_unit_1 : decode cX5_unit 1 = .ok (.invokevirtual 45, 3) := by decide +kernel
theorem dX5_unit_4 : decode cX5_unit 4 = .ok (.istore_n 3, 1) := by decide +kernel
theorem dX5_unit_5 : decode cX5_unit 5 = .ok (.iload_n 2, 1) := by decide +kernel
theorem dX5_unit_6 : decode cX5_unit 6 = .ok (.ifCond .ne 44, 3) := by decide +kernel
theorem dX5_unit_9 : decode cX5_unit 9 = .ok (.iload_n 1, 1) := by decide +kernel
theorem dX5_unit_10 : decode cX5_unit 10 = .ok (.bipush 6, 2) := by decide +kernel
theorem dX5_unit_12 : decode cX5_unit 12 = .ok (.if_icmp .ge 38, 3) := by decide +kernel
theorem dX5_unit_15 : decode cX5_unit 15 = .ok (.iload_n 3, 1) := by decide +kernel
theorem dX5_unit_16 : decode cX5_unit 16 = .ok (.bipush 33, 2) := by decide +kernel
theorem dX5_unit_18 : decode cX5_unit 18 = .ok (.if_icmp .ne 32, 3) := by decide +kernel
theorem dX5_unit_21 : decode cX5_unit 21 = .ok (.aload_n 0, 1) := by decide +kernel
theorem dX5_unit_22 : decode cX5_unit 22 = .ok (.dup, 1) := by decide +kernel
theorem dX5_unit_23 : decode cX5_unit 23 = .ok (.getfield 27, 3) := by decide +kernel
theorem dX5_unit_26 : decode cX5_unit 26 = .ok (.iconst 1, 1) := by decide +kernel
theorem dX5_unit_27 : decode cX5_unit 27 = .ok (.iadd, 1) := by decide +kernel
theorem dX5_unit_28 : decode cX5_unit 28 = .ok (.putfield 27, 3) := by decide +kernel
theorem dX5_unit_31 : decode cX5_unit 31 = .ok (.aload_n 0, 1) := by decide +kernel
theorem dX5_unit_32 : decode cX5_unit 32 = .ok (.iload_n 1, 1) := by decide +kernel
theorem dX5_unit_33 : decode cX5_unit 33 = .ok (.iconst 1, 1) := by decide +kernel
theorem dX5_unit_34 : decode cX5_unit 34 = .ok (.iadd, 1) := by decide +kernel
theorem dX5_unit_35 : decode cX5_unit 35 = .ok (.iconst 0, 1) := by decide +kernel
set_option maxRecDepth 20000 in
theorem ggX5_unit_X5_unit : GoodIn wsX5_unit wsX5_unit := goodIn_r _ [0, 1, 2, 3, 4, 5, 6, 7, 8, 9, 10, 11, 12, 13, 14, 15, 16, 17, 18, 19, 20, 21, 22, 23, 24, 25, 26, 27, 28, 29, 30, 31, 32, 33, 34, 35, 36, 37, 38, 39, 40, 41, 42, 43, 44, 45, 46, 47, 48, 49, 50, 51, 52, 53, 54, 55, 56, 57, 58, 59, 60, 61, 62, 63, 64, 65, 66, 67, 68, 69, 70, 71, 72, 73, 74, 75, 76, 77, 78, 79, 80, 81, 82, 83, 84, 85, 86, 87, 88, 89, 90, 91, 92, 93, 94, 95, 96, 97, 98, 99, 100, 101, 102, 103, 104, 105, 106, 107, 108, 109, 110, 111, 112, 113, 114, 115, 116, 117, 118, 119, 120, 121, 122, 123, 124, 125, 126, 127, 128, 129, 130, 131, 132, 133, 134, 135, 136, 137, 138] (by decide +kernel) (by decide +kernel)
set_option maxRecDepth 20000 in
theorem gX5_unit_X5_unit : GoodIn wsX5_unit (wsV RX5 75 RX5 yX5_unit wsX5_unit) := goodIn_app (goodIn_of _ (by decide +kernel)) ggX5_unit_X5_unit
theorem dX5_unit_36 : decode cX5_unit 36 = .ok (.invokevirtual 75, 3) := by decide +kernel
theorem dX5_unit_39 : decode cX5_unit 39 = .ok (.istore 4, 2) := by decide +kernel
theorem dX5_unit_41 : decode cX5_unit 41 = .ok (.aload_n 0, 1) := by decide +kernel
theorem dX5_unit_42 : decode cX5_unit 42 = .ok (.iload_n 3, 1) := by decide +kernel
theorem dX5_unit_43 : decode cX5_unit 43 = .ok (.iconst 0, 1) := by decide +kernel
theorem dX5_unit_44 : decode cX5_unit 44 = .ok (.invokevirtual 67, 3) := by decide +kernel
theorem dX5_unit_47 : decode cX5_unit 47 = .ok (.iload 4, 2) := by decide +kernel
theorem dX5_unit_49 : decode cX5_unit 49 = .ok (.ireturn, 1) := by decide +kernel
/-- HissHorn$Parser.unit(IZ)Z of cell 2 -/
theorem hX5_unit_2_X5 : ∀ w ∈ u_ws RX5 TX5 5, w ∈ wsX5_unit := fun w h => (List.mem_cons_of_mem _ (List.mem_append_left _ (List.mem_append_right _ h)))
theorem mX5_unit_2_1 : Cond.fieldLink RX5 27 "HissHorn$Parser" "at" "I" ∈ wsX5_unit := (List.mem_cons_of_mem _ (List.mem_append_left _ (List.mem_append_left _ (List.mem_append_left _ (List.mem_of_getElem? (i := 0) rfl)))))
def GX5_unit_2_116 (rc : Nat → Int32 → Int32 → SX → Option (Int32 × SX)) (z1 : Int32) (u : SX) : Option (Int32 × SX) := ((fX5_peek_2  u).bind fun q => match q with | (r4, u5) => ((fX5_compares r4).bind fun r7 => (if r7 = 0 then (gd (isB 0) (some (0, u5))) else (lt (sI u5 4 ((u5.1 4) + 1)) fun u10 => ((rc 2 z1 0 u10).bind fun q => match q with | (r12, u13) => ((fX5_emit_2 r4 0 u13).bind fun q => match q with | (r15, u16) => (gd (isB r12) (some (r12, u16)))))))))
def GX5_unit_2_102 (rc : Nat → Int32 → Int32 → SX → Option (Int32 × SX)) (z1 : Int32) (z2 : Int32) (u : SX) : Option (Int32 × SX) := (if z2 = 0 then ((rc 2 z1 0 u).bind fun q => match q with | (r20, u21) => (if r20 = 0 then (gd (isB 0) (some (0, u21))) else (GX5_unit_2_116 rc z1 u21))) else (GX5_unit_2_116 rc z1 u))
def GX5_unit_2_50 (rc : Nat → Int32 → Int32 → SX → Option (Int32 × SX)) (z1 : Int32) (z2 : Int32) (z3 : Int32) (u : SX) : Option (Int32 × SX) := (if z2 = 0 then (if 6 ≤ z1 then (GX5_unit_2_102 rc z1 z2 u) else (if z3 = 40 then (lt (sI u 4 ((u.1 4) + 1)) fun u24 => ((rc 0 (z1 + 1) 0 u24).bind fun q => match q with | (r26, u27) => (if r26 = 0 then (gd (isB 0) (some (0, u27))) else ((fX5_takes_2 41 u27).bind fun q => match q with | (r30, u31) => (if r30 = 0 then (gd (isB 0) (some (0, u31))) else (gd (isB 1) (some (1, u31)))))))) else (GX5_unit_2_102 rc z1 z2 u))) else (GX5_unit_2_102 rc z1 z2 u))
def fX5_unit_2 (rc : Nat → Int32 → Int32 → SX → Option (Int32 × SX)) (x1 : Int32) (x2 : Int32) (u : SX) : Option (Int32 × SX) := ((fX5_peek_2  u).bind fun q => match q with | (r1, u2) => (if x2 = 0 then (if 6 ≤ x1 then (GX5_unit_2_50 rc x1 x2 r1 u2) else (if r1 = 33 then (lt (sI u2 4 ((u2.1 4) + 1)) fun u35 => ((rc 1 (x1 + 1) 0 u35).bind fun q => match q with | (r37, u38) => ((fX5_emit_2 r1 0 u38).bind fun q => match q with | (r40, u41) => (gd (isB r37) (some (r37, u41)))))) else (GX5_unit_2_50 rc x1 x2 r1 u2))) else (GX5_unit_2_50 rc x1 x2 r1 u2)))
set_option maxHeartbeats 4000000 in
set_option maxRecDepth 100000 in
theorem wGX5_unit_2_116 {p : Program} {l : Launch} {e : Env} {s : State} {m : MethodId} {args : Array Value} {below : List Frame} {meth : Method} {c : Code} {D : va_G} {cy : Nat → ClassId} {ad st : Nat → Nat} (C : Cx RX5 cX5_unit 6 (some .boolean) wsX5_unit p s m args meth c) (hK : Kx D [(cy 0, .int), (cy 1, .long), (cy 2, .boolean), (cy 3, .byte), (cy 4, .object "HissHorn$Text")] st s) (hJ : JX ad) {rc : Nat → Int32 → Int32 → SX → Option (Int32 × SX)} {dd : Nat} (hrc : hRX5conditiong l D cy ad st rc dd) {r : Int32} {u' : SX}   (z1 : Int32) (u : SX) (H : Heap) (locs : List Loc) (ls : Array Slot) (h : GX5_unit_2_116 rc z1 u = some (r, u')) (hP : va_P D vwCl (VX cy ad st u) H) (hS : va_S (Ax (AX ad) s.heap.size) s.heap H locs) (hl : lv_has ls 6 [(0, .ref (ad 2)), (1, .int z1)]) : W p l e (rmX5conditiong (dd + 1)) s m args below meth c H locs 0 0 (MQ below (Qi D (VX cy ad st) (AX ad) s.heap.size r u') args s 0 0 (Ax (AX ad) s.heap.size)) (F0 m 116 ls []) := by
  unfold GX5_unit_2_116 at h
  refine lv_aload_n C.1 C.2.1 dX5_unit_116 rfl (lv_at hl 0 rfl) ?_
  obtain ⟨⟨r4, u5⟩, hc6, h⟩ := bd_some h
  try dsimp only at h
  refine cg_i (As := []) (rest := []) C hK hP hS (metX5_peek_2 l D cy ad st hJ _  hc6) (cwV 0 C.2.2.2.2.2.1 gX5_unit_X5_peek rfl rfl rfl (by decide +kernel) ⟨(Nat.le_trans (m := 2) (Nat.le_of_ble_eq_true rfl) (rmX5conditiong_f _)), (Nat.le_trans (m := 41) (Nat.le_of_ble_eq_true rfl) (rmX5conditiong_l _))⟩) 2 5 rfl rfl rfl hl.1 rfl (Nat.le_of_ble_eq_true rfl) dX5_unit_117 ⟨Nat.zero_le _, Nat.zero_le _⟩ (fun H locs hP hS => ?_)
  refine lv_istore (lv' := [(4, .int r4), (0, .ref (ad 2)), (1, .int z1)]) C.1 C.2.1 dX5_unit_120 hl (by decide) rfl (fun ls hl => ?_)
  replace hl := lv_sub (l' := [(0, .ref (ad 2)), (1, .int z1), (4, .int r4)]) hl [1, 2, 0] rfl
  refine lv_iload C.1 C.2.1 dX5_unit_122 (lv_at hl 2 rfl) ?_
  obtain ⟨r7, hc9, h⟩ := bd_some h
  refine cs_i (As := [.int r4]) (rest := []) C hK hP hS (metX5_compares l D cy st _ r4 hc9) (va_cwS 1 C.2.2.2.2.2.1 gX5_unit_X5_compares rfl rfl rfl (by decide +kernel) ⟨(Nat.le_trans (m := 2) (Nat.le_of_ble_eq_true rfl) (rmX5conditiong_f _)), (Nat.le_trans (m := 41) (Nat.le_of_ble_eq_true rfl) (rmX5conditiong_l _))⟩) rfl hl.1 rfl (Nat.le_of_ble_eq_true rfl) dX5_unit_124 ⟨Nat.zero_le _, Nat.zero_le _⟩ (fun H locs hP hS => ?_)
  refine lv_if_ne (tgt := 132) C.1 C.2.1 dX5_unit_127 (by decide) (fun c127 => ?_) (fun c127 => ?_)
  · rw [if_neg c127] at h
    refine lv_aload_n C.1 C.2.1 dX5_unit_132 rfl (lv_at hl 0 rfl) ?_
    refine lv_dup C.1 C.2.1 dX5_unit_133 rfl ?_
    refine gX_2_at C hX5_unit_2_X5 hK hP mX5_unit_2_1 dX5_unit_134 ?_
    refine lv_iconst (v := 1) C.1 C.2.1 dX5_unit_137 (by decide) ?_
    refine lv_iadd C.1 C.2.1 dX5_unit_138 ?_
    refine pX_2_at C hX5_unit_2_X5 hK hP hJ hS mX5_unit_2_1 dX5_unit_139 (fun H locs hP hS => ?_)
    obtain ⟨u10, hu11, h⟩ := lt_some h
    rw [← hu11] at hP
    refine lv_aload_n C.1 C.2.1 dX5_unit_142 rfl (lv_at hl 0 rfl) ?_
    refine lv_iload_n C.1 C.2.1 dX5_unit_143 rfl (lv_at hl 1 rfl) ?_
    obtain ⟨⟨r12, u13⟩, hc14, h⟩ := bd_some h
    try dsimp only at h
    refine cg_i (As := [.int z1]) (rest := []) C hK hP hS (hrc.2.2.1 _ z1 _ _ _ hc14) (cwV 1 C.2.2.2.2.2.1 gX5_unit_X5_total rfl rfl rfl (by decide +kernel) ⟨rmX5conditiong_sf dd, rmX5conditiong_sl dd (k := 8 + (6 + 11)) (Nat.le_of_ble_eq_true rfl)⟩) 2 5 rfl rfl rfl hl.1 rfl (Nat.le_of_ble_eq_true rfl) dX5_unit_144 ⟨Nat.zero_le _, Nat.zero_le _⟩ (fun H locs hP hS => ?_)
    refine lv_istore (lv' := [(5, .int r12), (0, .ref (ad 2)), (1, .int z1), (4, .int r4)]) C.1 C.2.1 dX5_unit_147 hl (by decide) rfl (fun ls hl => ?_)
    replace hl := lv_sub (l' := [(0, .ref (ad 2)), (1, .int z1), (4, .int r4), (5, .int r12)]) hl [1, 2, 3, 0] rfl
    refine lv_aload_n C.1 C.2.1 dX5_unit_149 rfl (lv_at hl 0 rfl) ?_
    refine lv_iload C.1 C.2.1 dX5_unit_150 (lv_at hl 2 rfl) ?_
    refine lv_iconst (v := 0) C.1 C.2.1 dX5_unit_152 (by decide) ?_
    obtain ⟨⟨r15, u16⟩, hc17, h⟩ := bd_some h
    try dsimp only at h
    refine cg_v (As := [.int r4, .int 0]) (rest := []) C hK hP hS (metX5_emit_2 l D cy ad st hJ _ r4 0 hc17) (cwV 2 C.2.2.2.2.2.1 gX5_unit_X5_emit rfl rfl rfl (by decide +kernel) ⟨(Nat.le_trans (m := 2) (Nat.le_of_ble_eq_true rfl) (rmX5conditiong_f _)), (Nat.le_trans (m := 41) (Nat.le_of_ble_eq_true rfl) (rmX5conditiong_l _))⟩) 2 5 rfl rfl rfl hl.1 rfl (Nat.le_of_ble_eq_true rfl) dX5_unit_153 ⟨Nat.zero_le _, Nat.zero_le _⟩ (fun H locs hP hS => ?_)
    refine lv_iload C.1 C.2.1 dX5_unit_156 (lv_at hl 3 rfl) ?_
    obtain ⟨hg18, h⟩ := gd_some h
    cases h
    exact rt_z hg18 C hP hS dX5_unit_158
  · rw [if_pos c127] at h
    refine lv_iconst (v := 0) C.1 C.2.1 dX5_unit_130 (by decide) ?_
    obtain ⟨hg19, h⟩ := gd_some h
    cases h
    exact rt_z hg19 C hP hS dX5_unit_131
set_option maxHeartbeats 4000000 in
set_option maxRecDepth 100000 in
theorem wGX5_unit_2_102 {p : Program} {l : Launch} {e : Env} {s : State} {m : MethodId} {args : Array Value} {below : List Frame} {meth : Method} {c : Code} {D : va_G} {cy : Nat → ClassId} {ad st : Nat → Nat} (C : Cx RX5 cX5_unit 6 (some .boolean) wsX5_unit p s m args meth c) (hK : Kx D [(cy 0, .int), (cy 1, .long), (cy 2, .boolean), (cy 3, .byte), (cy 4, .object "HissHorn$Text")] st s) (hJ : JX ad) {rc : Nat → Int32 → Int32 → SX → Option (Int32 × SX)} {dd : Nat} (hrc : hRX5conditiong l D cy ad st rc dd) {r : Int32} {u' : SX}   (z1 : Int32) (z2 : Int32) (u : SX) (H : Heap) (locs : List Loc) (ls : Array Slot) (h : GX5_unit_2_102 rc z1 z2 u = some (r, u')) (hP : va_P D vwCl (VX cy ad st u) H) (hS : va_S (Ax (AX ad) s.heap.size) s.heap H locs) (hl : lv_has ls 6 [(0, .ref (ad 2)), (1, .int z1), (2, .int z2)]) : W p l e (rmX5conditiong (dd + 1)) s m args below meth c H locs 0 0 (MQ below (Qi D (VX cy ad st) (AX ad) s.heap.size r u') args s 0 0 (Ax (AX ad) s.heap.size)) (F0 m 102 ls []) := by
  unfold GX5_unit_2_102 at h
  refine lv_iload_n C.1 C.2.1 dX5_unit_102 rfl (lv_at hl 2 rfl) ?_
  refine lv_if_ne (tgt := 116) C.1 C.2.1 dX5_unit_103 (by decide) (fun c103 => ?_) (fun c103 => ?_)
  · rw [if_neg c103] at h
    exact wGX5_unit_2_116 C hK hJ hrc _ _ _ _ _ h hP hS (lv_sub hl [0, 1] rfl)
  · rw [if_pos c103] at h
    refine lv_aload_n C.1 C.2.1 dX5_unit_106 rfl (lv_at hl 0 rfl) ?_
    refine lv_iload_n C.1 C.2.1 dX5_unit_107 rfl (lv_at hl 1 rfl) ?_
    obtain ⟨⟨r20, u21⟩, hc22, h⟩ := bd_some h
    try dsimp only at h
    refine cg_i (As := [.int z1]) (rest := []) C hK hP hS (hrc.2.2.1 _ z1 _ _ _ hc22) (cwV 1 C.2.2.2.2.2.1 gX5_unit_X5_total rfl rfl rfl (by decide +kernel) ⟨rmX5conditiong_sf dd, rmX5conditiong_sl dd (k := 8 + (6 + 11)) (Nat.le_of_ble_eq_true rfl)⟩) 2 5 rfl rfl rfl hl.1 rfl (Nat.le_of_ble_eq_true rfl) dX5_unit_108 ⟨Nat.zero_le _, Nat.zero_le _⟩ (fun H locs hP hS => ?_)
    refine lv_if_ne (tgt := 116) C.1 C.2.1 dX5_unit_111 (by decide) (fun c111 => ?_) (fun c111 => ?_)
    · rw [if_neg c111] at h
      exact wGX5_unit_2_116 C hK hJ hrc _ _ _ _ _ h hP hS (lv_sub hl [0, 1] rfl)
    · rw [if_pos c111] at h
      refine lv_iconst (v := 0) C.1 C.2.1 dX5_unit_114 (by decide) ?_
      obtain ⟨hg23, h⟩ := gd_some h
      cases h
      exact rt_z hg23 C hP hS dX5_unit_115
set_option maxHeartbeats 4000000 in
set_option maxRecDepth 100000 in
theorem wGX5_unit_2_50 {p : Program} {l : Launch} {e : Env} {s : State} {m : MethodId} {args : Array Value} {below : List Frame} {meth : Method} {c : Code} {D : va_G} {cy : Nat → ClassId} {ad st : Nat → Nat} (C : Cx RX5 cX5_unit 6 (some .boolean) wsX5_unit p s m args meth c) (hK : Kx D [(cy 0, .int), (cy 1, .long), (cy 2, .boolean), (cy 3, .byte), (cy 4, .object "HissHorn$Text")] st s) (hJ : JX ad) {rc : Nat → Int32 → Int32 → SX → Option (Int32 × SX)} {dd : Nat} (hrc : hRX5conditiong l D cy ad st rc dd) {r : Int32} {u' : SX}   (z1 : Int32) (z2 : Int32) (z3 : Int32) (u : SX) (H : Heap) (locs : List Loc) (ls : Array Slot) (h : GX5_unit_2_50 rc z1 z2 z3 u = some (r, u')) (hP : va_P D vwCl (VX cy ad st u) H) (hS : va_S (Ax (AX ad) s.heap.size) s.heap H locs) (hl : lv_has ls 6 [(0, .ref (ad 2)), (1, .int z1), (2, .int z2), (3, .int z3)]) : W p l e (rmX5conditiong (dd + 1)) s m args below meth c H locs 0 0 (MQ below (Qi D (VX cy ad st) (AX ad) s.heap.size r u') args s 0 0 (Ax (AX ad) s.heap.size)) (F0 m 50 ls []) := by
  unfold GX5_unit_2_50 at h
  refine lv_iload_n C.1 C.2.1 dX5_unit_50 rfl (lv_at hl 2 rfl) ?_
  refine lv_if_ne (tgt := 102) C.1 C.2.1 dX5_unit_51 (by decide) (fun c51 => ?_) (fun c51 => ?_)
  · rw [if_neg c51] at h
    exact wGX5_unit_2_102 C hK hJ hrc _ _ _ _ _ _ h hP hS (lv_sub hl [0, 1, 2] rfl)
  · rw [if_pos c51] at h
    refine lv_iload_n C.1 C.2.1 dX5_unit_54 rfl (lv_at hl 1 rfl) ?_
    refine lv_bipush (v := 6) C.1 C.2.1 dX5_unit_55 (by decide) ?_
    refine lv_icmp_ge (tgt := 102) C.1 C.2.1 dX5_unit_57 (by decide) (fun c57 => ?_) (fun c57 => ?_)
    · rw [if_pos c57] at h
      exact wGX5_unit_2_102 C hK hJ hrc _ _ _ _ _ _ h hP hS (lv_sub hl [0, 1, 2] rfl)
    · rw [if_neg c57] at h
      refine lv_iload_n C.1 C.2.1 dX5_unit_60 rfl (lv_at hl 3 rfl) ?_
      refine lv_bipush (v := 40) C.1 C.2.1 dX5_unit_61 (by decide) ?_
      refine lv_icmp_ne (tgt := 102) C.1 C.2.1 dX5_unit_63 (by decide) (fun c63 => ?_) (fun c63 => ?_)
      · rw [if_neg c63] at h
        exact wGX5_unit_2_102 C hK hJ hrc _ _ _ _ _ _ h hP hS (lv_sub hl [0, 1, 2] rfl)
      · rw [if_pos c63] at h
        refine lv_aload_n C.1 C.2.1 dX5_unit_66 rfl (lv_at hl 0 rfl) ?_
        refine lv_dup C.1 C.2.1 dX5_unit_67 rfl ?_
        refine gX_2_at C hX5_unit_2_X5 hK hP mX5_unit_2_1 dX5_unit_68 ?_
        refine lv_iconst (v := 1) C.1 C.2.1 dX5_unit_71 (by decide) ?_
        refine lv_iadd C.1 C.2.1 dX5_unit_72 ?_
        refine pX_2_at C hX5_unit_2_X5 hK hP hJ hS mX5_unit_2_1 dX5_unit_73 (fun H locs hP hS => ?_)
        obtain ⟨u24, hu25, h⟩ := lt_some h
        rw [← hu25] at hP
        refine lv_aload_n C.1 C.2.1 dX5_unit_76 rfl (lv_at hl 0 rfl) ?_
        refine lv_iload_n C.1 C.2.1 dX5_unit_77 rfl (lv_at hl 1 rfl) ?_
        refine lv_iconst (v := 1) C.1 C.2.1 dX5_unit_78 (by decide) ?_
        refine lv_iadd C.1 C.2.1 dX5_unit_79 ?_
        refine lv_iconst (v := 0) C.1 C.2.1 dX5_unit_80 (by decide) ?_
        obtain ⟨⟨r26, u27⟩, hc28, h⟩ := bd_some h
        try dsimp only at h
        refine cg_i (As := [.int (z1 + 1), .int 0]) (rest := []) C hK hP hS (hrc.1 _ (z1 + 1) 0 _ _ _ hc28) (cwV 2 C.2.2.2.2.2.1 gX5_unit_X5_condition rfl rfl rfl (by decide +kernel) ⟨rmX5conditiong_sf dd, rmX5conditiong_sl dd (k := 8 + (7 + 11)) (Nat.le_of_ble_eq_true rfl)⟩) 2 5 rfl rfl rfl hl.1 rfl (Nat.le_of_ble_eq_true rfl) dX5_unit_81 ⟨Nat.zero_le _, Nat.zero_le _⟩ (fun H locs hP hS => ?_)
        refine lv_if_eq (tgt := 100) C.1 C.2.1 dX5_unit_84 (by decide) (fun c84 => ?_) (fun c84 => ?_)
        · rw [if_pos c84] at h
          refine lv_iconst (v := 0) C.1 C.2.1 dX5_unit_100 (by decide) ?_
          obtain ⟨hg29, h⟩ := gd_some h
          cases h
          exact rt_z hg29 C hP hS dX5_unit_101
        · rw [if_neg c84] at h
          refine lv_aload_n C.1 C.2.1 dX5_unit_87 rfl (lv_at hl 0 rfl) ?_
          refine lv_bipush (v := 41) C.1 C.2.1 dX5_unit_88 (by decide) ?_
          obtain ⟨⟨r30, u31⟩, hc32, h⟩ := bd_some h
          try dsimp only at h
          refine cg_i (As := [.int 41]) (rest := []) C hK hP hS (metX5_takes_2 l D cy ad st hJ _ 41 hc32) (cwV 1 C.2.2.2.2.2.1 gX5_unit_X5_takes rfl rfl rfl (by decide +kernel) ⟨(Nat.le_trans (m := 2) (Nat.le_of_ble_eq_true rfl) (rmX5conditiong_f _)), (Nat.le_trans (m := 41) (Nat.le_of_ble_eq_true rfl) (rmX5conditiong_l _))⟩) 2 5 rfl rfl rfl hl.1 rfl (Nat.le_of_ble_eq_true rfl) dX5_unit_90 ⟨Nat.zero_le _, Nat.zero_le _⟩ (fun H locs hP hS => ?_)
          refine lv_if_eq (tgt := 100) C.1 C.2.1 dX5_unit_93 (by decide) (fun c93 => ?_) (fun c93 => ?_)
          · rw [if_pos c93] at h
            refine lv_iconst (v := 0) C.1 C.2.1 dX5_unit_100 (by decide) ?_
            obtain ⟨hg33, h⟩ := gd_some h
            cases h
            exact rt_z hg33 C hP hS dX5_unit_101
          · rw [if_neg c93] at h
            refine lv_iconst (v := 1) C.1 C.2.1 dX5_unit_96 (by decide) ?_
            refine lv_goto (tgt := 101) C.1 C.2.1 dX5_unit_97 (by decide) ?_
            obtain ⟨hg34, h⟩ := gd_some h
            cases h
            exact rt_z hg34 C hP hS dX5_unit_101
set_option maxHeartbeats 4000000 in
set_option maxRecDepth 100000 in
theorem wX5_unit_2 {p : Program} {l : Launch} {e : Env} {s : State} {m : MethodId} {args : Array Value} {below : List Frame} {meth : Method} {c : Code} {D : va_G} {cy : Nat → ClassId} {ad st : Nat → Nat} (C : Cx RX5 cX5_unit 6 (some .boolean) wsX5_unit p s m args meth c) (hK : Kx D [(cy 0, .int), (cy 1, .long), (cy 2, .boolean), (cy 3, .byte), (cy 4, .object "HissHorn$Text")] st s) (hJ : JX ad) {rc : Nat → Int32 → Int32 → SX → Option (Int32 × SX)} {dd : Nat} (hrc : hRX5conditiong l D cy ad st rc dd) (x1 : Int32) (x2 : Int32) {u : SX} {r : Int32} {u' : SX} {H : Heap} {locs : List Loc} {ls : Array Slot} (h : fX5_unit_2 rc x1 x2 u = some (r, u')) (hP : va_P D vwCl (VX cy ad st u) H) (hS : va_S (Ax (AX ad) s.heap.size) s.heap H locs) (hl : lv_has ls 6 [(0, .ref (ad 2)), (1, .int x1), (2, .int x2)]) : W p l e (rmX5conditiong (dd + 1)) s m args below meth c H locs 0 0 (MQ below (Qi D (VX cy ad st) (AX ad) s.heap.size r u') args s 0 0 (Ax (AX ad) s.heap.size)) (F0 m 0 ls []) := by
  unfold fX5_unit_2 at h
  refine lv_aload_n C.1 C.2.1 dX5_unit_0 rfl (lv_at hl 0 rfl) ?_
  obtain ⟨⟨r1, u2⟩, hc3, h⟩ := bd_some h
  try dsimp only at h
  refine cg_i (As := []) (rest := []) C hK hP hS (metX5_peek_2 l D cy ad st hJ _  hc3) (cwV 0 C.2.2.2.2.2.1 gX5_unit_X5_peek rfl rfl rfl (by decide +kernel) ⟨(Nat.le_trans (m := 2) (Nat.le_of_ble_eq_true rfl) (rmX5conditiong_f _)), (Nat.le_trans (m := 41) (Nat.le_of_ble_eq_true rfl) (rmX5conditiong_l _))⟩) 2 5 rfl rfl rfl hl.1 rfl (Nat.le_of_ble_eq_true rfl) dX5_unit_1 ⟨Nat.zero_le _, Nat.zero_le _⟩ (fun H locs hP hS => ?_)
  refine lv_istore_n (lv' := [(3, .int r1), (0, .ref (ad 2)), (1, .int x1), (2, .int x2)]) C.1 C.2.1 dX5_unit_4 rfl hl (by decide) rfl (fun ls hl => ?_)
  replace hl := lv_sub (l' := [(0, .ref (ad 2)), (1, .int x1), (2, .int x2), (3, .int r1)]) hl [1, 2, 3, 0] rfl
  refine lv_iload_n C.1 C.2.1 dX5_unit_5 rfl (lv_at hl 2 rfl) ?_
  refine lv_if_ne (tgt := 50) C.1 C.2.1 dX5_unit_6 (by decide) (fun c6 => ?_) (fun c6 => ?_)
  · rw [if_neg c6] at h
    exact wGX5_unit_2_50 C hK hJ hrc _ _ _ _ _ _ _ h hP hS hl
  · rw [if_pos c6] at h
    refine lv_iload_n C.1 C.2.1 dX5_unit_9 rfl (lv_at hl 1 rfl) ?_
    refine lv_bipush (v := 6) C.1 C.2.1 dX5_unit_10 (by decide) ?_
    refine lv_icmp_ge (tgt := 50) C.1 C.2.1 dX5_unit_12 (by decide) (fun c12 => ?_) (fun c12 => ?_)
    · rw [if_pos c12] at h
      exact wGX5_unit_2_50 C hK hJ hrc _ _ _ _ _ _ _ h hP hS hl
    · rw [if_neg c12] at h
      refine lv_iload_n C.1 C.2.1 dX5_unit_15 rfl (lv_at hl 3 rfl) ?_
      refine lv_bipush (v := 33) C.1 C.2.1 dX5_unit_16 (by decide) ?_
      refine lv_icmp_ne (tgt := 50) C.1 C.2.1 dX5_unit_18 (by decide) (fun c18 => ?_) (fun c18 => ?_)
      · rw [if_neg c18] at h
        exact wGX5_unit_2_50 C hK hJ hrc _ _ _ _ _ _ _ h hP hS hl
      · rw [if_pos c18] at h
        refine lv_aload_n C.1 C.2.1 dX5_unit_21 rfl (lv_at hl 0 rfl) ?_
        refine lv_dup C.1 C.2.1 dX5_unit_22 rfl ?_
        refine gX_2_at C hX5_unit_2_X5 hK hP mX5_unit_2_1 dX5_unit_23 ?_
        refine lv_iconst (v := 1) C.1 C.2.1 dX5_unit_26 (by decide) ?_
        refine lv_iadd C.1 C.2.1 dX5_unit_27 ?_
        refine pX_2_at C hX5_unit_2_X5 hK hP hJ hS mX5_unit_2_1 dX5_unit_28 (fun H locs hP hS => ?_)
        obtain ⟨u35, hu36, h⟩ := lt_some h
        rw [← hu36] at hP
        refine lv_aload_n C.1 C.2.1 dX5_unit_31 rfl (lv_at hl 0 rfl) ?_
        refine lv_iload_n C.1 C.2.1 dX5_unit_32 rfl (lv_at hl 1 rfl) ?_
        refine lv_iconst (v := 1) C.1 C.2.1 dX5_unit_33 (by decide) ?_
        refine lv_iadd C.1 C.2.1 dX5_unit_34 ?_
        refine lv_iconst (v := 0) C.1 C.2.1 dX5_unit_35 (by decide) ?_
        obtain ⟨⟨r37, u38⟩, hc39, h⟩ := bd_some h
        try dsimp only at h
        refine cg_i (As := [.int (x1 + 1), .int 0]) (rest := []) C hK hP hS (hrc.2.1 _ (x1 + 1) 0 _ _ _ hc39) (cwV 2 C.2.2.2.2.2.1 gX5_unit_X5_unit rfl rfl rfl (by decide +kernel) ⟨rmX5conditiong_sf dd, rmX5conditiong_sl dd (k := 8 + (6 + 11)) (Nat.le_of_ble_eq_true rfl)⟩) 2 5 rfl rfl rfl hl.1 rfl (Nat.le_of_ble_eq_true rfl) dX5_unit_36 ⟨Nat.zero_le _, Nat.zero_le _⟩ (fun H locs hP hS => ?_)
        refine lv_istore (lv' := [(4, .int r37), (0, .ref (ad 2)), (1, .int x1), (2, .int x2), (3, .int r1)]) C.1 C.2.1 dX5_unit_39 hl (by decide) rfl (fun ls hl => ?_)
        replace hl := lv_sub (l' := [(0, .ref (ad 2)), (1, .int x1), (2, .int x2), (3, .int r1), (4, .int r37)]) hl [1, 2, 3, 4, 0] rfl
        refine lv_aload_n C.1 C.2.1 dX5_unit_41 rfl (lv_at hl 0 rfl) ?_
        refine lv_iload_n C.1 C.2.1 dX5_unit_42 rfl (lv_at hl 3 rfl) ?_
        refine lv_iconst (v := 0) C.1 C.2.1 dX5_unit_43 (by decide) ?_
        obtain ⟨⟨r40, u41⟩, hc42, h⟩ := bd_some h
        try dsimp only at h
        refine cg_v (As := [.int r1, .int 0]) (rest := []) C hK hP hS (metX5_emit_2 l D cy ad st hJ _ r1 0 hc42) (cwV 2 C.2.2.2.2.2.1 gX5_unit_X5_emit rfl rfl rfl (by decide +kernel) ⟨(Nat.le_trans (m := 2) (Nat.le_of_ble_eq_true rfl) (rmX5conditiong_f _)), (Nat.le_trans (m := 41) (Nat.le_of_ble_eq_true rfl) (rmX5conditiong_l _))⟩) 2 5 rfl rfl rfl hl.1 rfl (Nat.le_of_ble_eq_true rfl) dX5_unit_44 ⟨Nat.zero_le _, Nat.zero_le _⟩ (fun H locs hP hS => ?_)
        refine lv_iload C.1 C.2.1 dX5_unit_47 (lv_at hl 4 rfl) ?_
        obtain ⟨hg43, h⟩ := gd_some h
        cases h
        exact rt_z hg43 C hP hS dX5_unit_49
theorem metX5_unit_2 (l : Launch) (D : va_G) (cy : Nat → ClassId) (ad st : Nat → Nat) (hJ : JX ad) {rc : Nat → Int32 → Int32 → SX → Option (Int32 × SX)} {dd : Nat} (hrc : hRX5conditiong l D cy ad st rc dd) (sz : Nat) (x1 : Int32) (x2 : Int32) {u : SX} {r : Int32} {u' : SX} (h : fX5_unit_2 rc x1 x2 u = some (r, u')) : Met l yX5_unit wsX5_unit (rmX5conditiong (dd + 1)) (va_Pc [.ref (ad 2), .int x1, .int x2] (Px D [(cy 0, .int), (cy 1, .long), (cy 2, .boolean), (cy 3, .byte), (cy 4, .object "HissHorn$Text")] st (VX cy ad st) sz u)) (Qi D (VX cy ad st) (AX ad) sz r u') 0 0 (Ax (AX ad) sz) := by
  refine Met.ofW (cc := cX5_unit) (maxL := 6) (ret := (some .boolean)) (by decide) rfl ?_
  intro p e s m args below meth c s₁ B hml hv
  obtain ⟨rfl, hsz, hP, hK⟩ := hv
  subst hsz
  have C : Cx RX5 cX5_unit 6 (some .boolean) wsX5_unit p s m _ meth c := ⟨B.exec, B.bytes, hml, B.returns, findClass_of_methodNamed B.named, atoms_spec (ws := wsX5_unit) B.pre, B.notSynchronized⟩
  have hl := lv_entry ([.ref (ad 2), .int x1, .int x2]) (n := 6) (Nat.le_of_ble_eq_true rfl)
  rw [lg_entry_eq]
  exact wX5_unit_2 C hK hJ hrc x1 x2 h hP va_S.rf hl

theorem dX5_total_99 : decode cX5_total 99 = .ok (.aload_n 0, 1) := by decide +kernel
theorem dX5_total_100 : decode cX5_total 100 = .ok (.dup, 1) := by decide +kernel
theorem dX5_total_101 : decode cX5_total 101 = .ok (.getfield 27, 3) := by decide +kernel
theorem dX5_total_104 : decode cX5_total 104 = .ok (.iconst 1, 1) := by decide +kernel
theorem dX5_total_105 : decode cX5_total 105 = .ok (.iadd, 1) := by decide +kernel
theorem dX5_total_106 : decode cX5_total 106 = .ok (.putfield 27, 3) := by decide +kernel
theorem dX5_total_109 : decode cX5_total 109 = .ok (.iinc 4 1, 3) := by decide +kernel
theorem dX5_total_112 : decode cX5_total 112 = .ok (.goto (-105), 3) := by decide +kernel
theorem dX5_total_92 : decode cX5_total 92 = .ok (.istore_n 2, 1) := by decide +kernel
theorem dX5_total_93 : decode cX5_total 93 = .ok (.iload_n 2, 1) := by decide +kernel
theorem dX5_total_94 : decode cX5_total 94 = .ok (.ifCond .ne 5, 3) := by decide +kernel
theorem dX5_total_97 : decode cX5_total 97 = .ok (.iconst 1, 1) := by decide +kernel
theorem dX5_total_98 : decode cX5_total 98 = .ok (.ireturn, 1) := by decide +kernel
theorem dX5_total_86 : decode cX5_total 86 = .ok (.iload 5, 2) := by decide +kernel
theorem dX5_total_88 : decode cX5_total 88 = .ok (.goto 4, 3) := by decide +kernel
theorem dX5_total_61 : decode cX5_total 61 = .ok (.istore_n 3, 1) := by decide +kernel
theorem dX5_total_62 : decode cX5_total 62 = .ok (.iload_n 3, 1) := by decide +kernel
theorem dX5_total_63 : decode cX5_total 63 = .ok (.ifCond .ne 36, 3) := by decide +kernel
theorem dX5_total_66 : decode cX5_total 66 = .ok (.aload_n 0, 1) := by decide +kernel
theorem dX5_total_67 : decode cX5_total 67 = .ok (.iload_n 2, 1) := by decide +kernel
theorem dX5_total_68 : decode cX5_total 68 = .ok (.iconst 0, 1) := by decide +kernel
set_option maxRecDepth 20000 in
theorem ggX5_total_X5_emit : GoodIn wsX5_total wsX5_emit := goodIn_r _ [11, 12, 13, 121, 122, 123, 124, 125] (by decide +kernel) (by decide +kernel)
set_option maxRecDepth 20000 in
theorem gX5_total_X5_emit : GoodIn wsX5_total (wsV RX5 67 RX5 yX5_emit wsX5_emit) := goodIn_app (goodIn_of _ (by decide +kernel)) ggX5_total_X5_emit
theorem dX5_total_69 : decode cX5_total 69 = .ok (.invokevirtual 67, 3) := by decide +kernel
theorem dX5_total_72 : decode cX5_total 72 = .ok (.iload 5, 2) := by decide +kernel
theorem dX5_total_74 : decode cX5_total 74 = .ok (.bipush 43, 2) := by decide +kernel
theorem dX5_total_76 : decode cX5_total 76 = .ok (.if_icmp .eq 10, 3) := by decide +kernel
theorem dX5_total_79 : decode cX5_total 79 = .ok (.iload 5, 2) := by decide +kernel
theorem dX5_total_81 : decode cX5_total 81 = .ok (.bipush 45, 2) := by decide +kernel
theorem dX5_total_83 : decode cX5_total 83 = .ok (.if_icmp .ne 8, 3) := by decide +kernel
theorem dX5_total_91 : decode cX5_total 91 = .ok (.iconst 0, 1) := by decide +kernel
theorem dX5_total_55 : decode cX5_total 55 = .ok (.iload 5, 2) := by decide +kernel
theorem dX5_total_57 : decode cX5_total 57 = .ok (.goto 4, 3) := by decide +kernel
theorem dX5_total_7 : decode cX5_total 7 = .ok (.iload 4, 2) := by decide +kernel
theorem dX5_total_9 : decode cX5_total 9 = .ok (.aload_n 0, 1) := by decide +kernel
theorem dX5_total_10 : decode cX5_total 10 = .ok (.getfield 23, 3) := by decide +kernel
theorem dX5_total_13 : decode cX5_total 13 = .ok (.getfield 34, 3) := by decide +kernel
theorem dX5_total_16 : decode cX5_total 16 = .ok (.if_icmp .gt 99, 3) := by decide +kernel
theorem dX5_total_115 : decode cX5_total 115 = .ok (.iconst 0, 1) := by decide +kernel
theorem dX5_total_116 : decode cX5_total 116 = .ok (.ireturn, 1) := by decide +kernel
theorem dX5_total_19 : decode cX5_total 19 = .ok (.aload_n 0, 1) := by decide +kernel
theorem dX5_total_20 : decode cX5_total 20 = .ok (.iload_n 1, 1) := by decide +kernel
set_option maxRecDepth 20000 in
theorem ggX5_total_X5_atom : GoodIn wsX5_total wsX5_atom := goodIn_r _ [19, 3, 20, 14, 15, 16, 7, 17, 1, 2, 18, 21, 22, 23, 24, 25, 26, 27, 28, 29, 30, 31, 8, 9, 10, 11, 12, 13, 32, 33, 34, 35, 36, 37, 38, 39, 40, 41, 42, 43, 44, 45, 46, 47, 48, 49, 50, 51, 52, 53, 54, 55, 56, 57, 58, 59, 60, 61, 62, 63, 64, 65, 66, 67, 68, 69, 70, 71, 72, 73, 74, 75, 76, 77, 78, 79, 80, 81, 82, 83, 84, 85, 86, 87, 88, 89, 90, 91, 92, 93, 94, 95, 96, 97, 98, 99, 100, 101, 102, 103, 104, 105, 106, 107, 108, 109, 110, 111, 112, 113, 114, 115, 116, 117, 118, 119, 120, 0, 4, 5, 6, 121, 122, 123, 124, 125, 126, 127] (by decide +kernel) (by decide +kernel)
set_option maxRecDepth 20000 in
theorem gX5_total_X5_atom : GoodIn wsX5_total (wsV RX5 78 RX5 yX5_atom wsX5_atom) := goodIn_app (goodIn_of _ (by decide +kernel)) ggX5_total_X5_atom
theorem dX5_total_21 : decode cX5_total 21 = .ok (.invokevirtual 78, 3) := by decide +kernel
theorem dX5_total_24 : decode cX5_total 24 = .ok (.ifCond .ne 5, 3) := by decide +kernel
theorem dX5_total_29 : decode cX5_total 29 = .ok (.aload_n 0, 1) := by decide +kernel
theorem dX5_total_30 : decode cX5_total 30 = .ok (.iload_n 3, 1) := by decide +kernel
theorem dX5_total_31 : decode cX5_total 31 = .ok (.iconst 0, 1) := by decide +kernel
theorem dX5_total_32 : decode cX5_total 32 = .ok (.invokevirtual 67, 3) := by decide +kernel
theorem dX5_total_35 : decode cX5_total 35 = .ok (.aload_n 0, 1) := by decide +kernel
set_option maxRecDepth 20000 in
theorem ggX5_total_X5_peek : GoodIn wsX5_total wsX5_peek := goodIn_r _ [17, 3, 1, 2, 18, 121, 122, 123, 124, 125, 126, 127] (by decide +kernel) (by decide +kernel)
set_option maxRecDepth 20000 in
theorem gX5_total_X5_peek : GoodIn wsX5_total (wsV RX5 45 RX5 yX5_peek wsX5_peek) := goodIn_app (goodIn_of _ (by decide +kernel)) ggX5_total_X5_peek
theorem dX5_total_36 : decode cX5_total 36 = .ok (.invokevirtual 45, 3) := by decide +kernel
theorem dX5_total_39 : decode cX5_total 39 = .ok (.istore 5, 2) := by decide +kernel
theorem dX5_total_41 : decode cX5_total 41 = .ok (.iload 5, 2) := by decide +kernel
theorem dX5_total_43 : decode cX5_total 43 = .ok (.bipush 42, 2) := by decide +kernel
theorem dX5_total_45 : decode cX5_total 45 = .ok (.if_icmp .eq 10, 3) := by decide +kernel
theorem dX5_total_48 : decode cX5_total 48 = .ok (.iload 5, 2) := by decide +kernel
theorem dX5_total_50 : decode cX5_total 50 = .ok (.bipush 47, 2) := by decide +kernel
theorem dX5_total_52 : decode cX5_total 52 = .ok (.if_icmp .ne 8, 3) := by decide +kernel
theorem dX5_total_60 : decode cX5_total 60 = .ok (.iconst 0, 1) := by decide +kernel
theorem dX5_total_27 : decode cX5_total 27 = .ok (.iconst 0, 1) := by decide +kernel
theorem dX5_total_28 : decode cX5_total 28 = .ok (.ireturn, 1) := by decide +kernel
theorem dX5_total_0 : decode cX5_total 0 = .ok (.iconst 0, 1) := by decide +kernel
theorem dX5_total_1 : decode cX5_total 1 = .ok (.istore_n 2, 1) := by decide +kernel
theorem dX5_total_2 : decode cX5_total 2 = .ok (.iconst 0, 1) := by decide +kernel
theorem dX5_total_3 : decode cX5_total 3 = .ok (.istore_n 3, 1) := by decide +kernel
theorem dX5_total_4 : decode cX5_total 4 = .ok (.iconst 0, 1) := by decide +kernel
theorem dX5_total_5 : decode cX5_total 5 = .ok (.istore 4, 2) := by decide +kernel
/-- HissHorn$Parser.total(I)Z of cell 2 -/
theorem hX5_total_2_X5 : ∀ w ∈ u_ws RX5 TX5 5, w ∈ wsX5_total := fun w h => (List.mem_cons_of_mem _ (List.mem_append_left _ (List.mem_append_right _ h)))
theorem mX5_total_2_1 : Cond.fieldLink RX5 23 "HissHorn$Parser" "tape" "LHissHorn$Tape;" ∈ wsX5_total := (List.mem_cons_of_mem _ (List.mem_append_left _ (List.mem_append_left _ (List.mem_append_left _ (List.mem_of_getElem? (i := 0) rfl)))))
theorem hX5_total_2_X9 : ∀ w ∈ u_ws RX9 TX9 2, w ∈ wsX5_total := fun w h => (List.mem_cons_of_mem _ (List.mem_append_right _ h))
theorem mX5_total_2_3 : Cond.fieldLink RX5 34 "HissHorn$Tape" "length" "I" ∈ wsX5_total := (List.mem_cons_of_mem _ (List.mem_append_left _ (List.mem_append_left _ (List.mem_append_left _ (List.mem_of_getElem? (i := 1) rfl)))))
theorem mX5_total_2_4 : Cond.fieldLink RX5 27 "HissHorn$Parser" "at" "I" ∈ wsX5_total := (List.mem_cons_of_mem _ (List.mem_append_left _ (List.mem_append_left _ (List.mem_append_left _ (List.mem_of_getElem? (i := 2) rfl)))))
def GX5_total_2_99 (rc : Nat → Int32 → Int32 → SX → Option (Int32 × SX)) (k7 : Int32 → Int32 → Int32 → Int32 → SX → Option (Int32 × SX)) (z1 : Int32) (z2 : Int32) (z3 : Int32) (z4 : Int32) (u : SX) : Option (Int32 × SX) := (lt (sI u 4 ((u.1 4) + 1)) fun u11 => (k7 z1 z2 z3 (z4 + 1) u11))
def GX5_total_2_92 (rc : Nat → Int32 → Int32 → SX → Option (Int32 × SX)) (k7 : Int32 → Int32 → Int32 → Int32 → SX → Option (Int32 × SX)) (z1 : Int32) (z3 : Int32) (z4 : Int32) (y0 : Int32) (u : SX) : Option (Int32 × SX) := (if y0 = 0 then (gd (isB 1) (some (1, u))) else (GX5_total_2_99 rc k7 z1 y0 z3 z4 u))
def GX5_total_2_86 (rc : Nat → Int32 → Int32 → SX → Option (Int32 × SX)) (k7 : Int32 → Int32 → Int32 → Int32 → SX → Option (Int32 × SX)) (z1 : Int32) (z3 : Int32) (z4 : Int32) (z5 : Int32) (u : SX) : Option (Int32 × SX) := (GX5_total_2_92 rc k7 z1 z3 z4 z5 u)
def GX5_total_2_61 (rc : Nat → Int32 → Int32 → SX → Option (Int32 × SX)) (k7 : Int32 → Int32 → Int32 → Int32 → SX → Option (Int32 × SX)) (z1 : Int32) (z2 : Int32) (z4 : Int32) (z5 : Int32) (y0 : Int32) (u : SX) : Option (Int32 × SX) := (if y0 = 0 then ((fX5_emit_2 z2 0 u).bind fun q => match q with | (r13, u14) => (if z5 = 43 then (GX5_total_2_86 rc k7 z1 y0 z4 z5 u14) else (if z5 = 45 then (GX5_total_2_86 rc k7 z1 y0 z4 z5 u14) else (GX5_total_2_92 rc k7 z1 y0 z4 0 u14)))) else (GX5_total_2_99 rc k7 z1 z2 y0 z4 u))
def GX5_total_2_55 (rc : Nat → Int32 → Int32 → SX → Option (Int32 × SX)) (k7 : Int32 → Int32 → Int32 → Int32 → SX → Option (Int32 × SX)) (z1 : Int32) (z2 : Int32) (z4 : Int32) (z5 : Int32) (u : SX) : Option (Int32 × SX) := (GX5_total_2_61 rc k7 z1 z2 z4 z5 z5 u)
def LX5_total_2_7 (rc : Nat → Int32 → Int32 → SX → Option (Int32 × SX))  : Nat → Int32 → Int32 → Int32 → Int32 → SX → Option (Int32 × SX)
  | 0, _, _, _, _, _ => none
  | n + 1, z1, z2, z3, z4, u => (if (u.1 1) < z4 then (gd (isB 0) (some (0, u))) else ((rc 3 z1 0 u).bind fun q => match q with | (r2, u3) => (if r2 = 0 then (gd (isB 0) (some (0, u3))) else ((fX5_emit_2 z3 0 u3).bind fun q => match q with | (r5, u6) => ((fX5_peek_2  u6).bind fun q => match q with | (r8, u9) => (if r8 = 42 then (GX5_total_2_55 rc (LX5_total_2_7 rc n) z1 z2 z4 r8 u9) else (if r8 = 47 then (GX5_total_2_55 rc (LX5_total_2_7 rc n) z1 z2 z4 r8 u9) else (GX5_total_2_61 rc (LX5_total_2_7 rc n) z1 z2 z4 r8 0 u9))))))))
def fX5_total_2 (rc : Nat → Int32 → Int32 → SX → Option (Int32 × SX)) (x1 : Int32) (u : SX) : Option (Int32 × SX) := (LX5_total_2_7 rc  5000 x1 0 0 0 u)
set_option maxHeartbeats 4000000 in
set_option maxRecDepth 100000 in
theorem wGX5_total_2_99 {p : Program} {l : Launch} {e : Env} {s : State} {m : MethodId} {args : Array Value} {below : List Frame} {meth : Method} {c : Code} {D : va_G} {cy : Nat → ClassId} {ad st : Nat → Nat} (C : Cx RX5 cX5_total 6 (some .boolean) wsX5_total p s m args meth c) (hK : Kx D [(cy 0, .int), (cy 1, .long), (cy 2, .boolean), (cy 3, .byte), (cy 4, .object "HissHorn$Text")] st s) (hJ : JX ad) {rc : Nat → Int32 → Int32 → SX → Option (Int32 × SX)} {dd : Nat} (hrc : hRX5conditiong l D cy ad st rc dd) {r : Int32} {u' : SX} {k7 : Int32 → Int32 → Int32 → Int32 → SX → Option (Int32 × SX)} (hk7 : ∀ (z1 : Int32) (z2 : Int32) (z3 : Int32) (z4 : Int32) (u : SX) (H : Heap) (locs : List Loc) (ls : Array Slot), k7 z1 z2 z3 z4 u = some (r, u') → va_P D vwCl (VX cy ad st u) H → va_S (Ax (AX ad) s.heap.size) s.heap H locs → lv_has ls 6 [(0, .ref (ad 2)), (1, .int z1), (2, .int z2), (3, .int z3), (4, .int z4)] → W p l e (rmX5conditiong (dd + 1)) s m args below meth c H locs 0 0 (MQ below (Qi D (VX cy ad st) (AX ad) s.heap.size r u') args s 0 0 (Ax (AX ad) s.heap.size)) (F0 m 7 ls [])) (z1 : Int32) (z2 : Int32) (z3 : Int32) (z4 : Int32) (u : SX) (H : Heap) (locs : List Loc) (ls : Array Slot) (h : GX5_total_2_99 rc k7 z1 z2 z3 z4 u = some (r, u')) (hP : va_P D vwCl (VX cy ad st u) H) (hS : va_S (Ax (AX ad) s.heap.size) s.heap H locs) (hl : lv_has ls 6 [(0, .ref (ad 2)), (1, .int z1), (2, .int z2), (3, .int z3), (4, .int z4)]) : W p l e (rmX5conditiong (dd + 1)) s m args below meth c H locs 0 0 (MQ below (Qi D (VX cy ad st) (AX ad) s.heap.size r u') args s 0 0 (Ax (AX ad) s.heap.size)) (F0 m 99 ls []) := by
  unfold GX5_total_2_99 at h
  refine lv_aload_n C.1 C.2.1 dX5_total_99 rfl (lv_at hl 0 rfl) ?_
  refine lv_dup C.1 C.2.1 dX5_total_100 rfl ?_
  refine gX_2_at C hX5_total_2_X5 hK hP mX5_total_2_4 dX5_total_101 ?_
  refine lv_iconst (v := 1) C.1 C.2.1 dX5_total_104 (by decide) ?_
  refine lv_iadd C.1 C.2.1 dX5_total_105 ?_
  refine pX_2_at C hX5_total_2_X5 hK hP hJ hS mX5_total_2_4 dX5_total_106 (fun H locs hP hS => ?_)
  obtain ⟨u11, hu12, h⟩ := lt_some h
  rw [← hu12] at hP
  refine lv_iinc (v := z4 + 1) (lv' := [(4, .int (z4 + 1)), (0, .ref (ad 2)), (1, .int z1), (2, .int z2), (3, .int z3)]) C.1 C.2.1 dX5_total_109 hl (k := 4) rfl rfl (by decide) rfl (fun ls hl => ?_)
  replace hl := lv_sub (l' := [(0, .ref (ad 2)), (1, .int z1), (2, .int z2), (3, .int z3), (4, .int (z4 + 1))]) hl [1, 2, 3, 4, 0] rfl
  refine lv_goto (tgt := 7) C.1 C.2.1 dX5_total_112 (by decide) ?_
  exact hk7 _ _ _ _ _ _ _ _ h hP hS hl
set_option maxHeartbeats 4000000 in
set_option maxRecDepth 100000 in
theorem wGX5_total_2_92 {p : Program} {l : Launch} {e : Env} {s : State} {m : MethodId} {args : Array Value} {below : List Frame} {meth : Method} {c : Code} {D : va_G} {cy : Nat → ClassId} {ad st : Nat → Nat} (C : Cx RX5 cX5_total 6 (some .boolean) wsX5_total p s m args meth c) (hK : Kx D [(cy 0, .int), (cy 1, .long), (cy 2, .boolean), (cy 3, .byte), (cy 4, .object "HissHorn$Text")] st s) (hJ : JX ad) {rc : Nat → Int32 → Int32 → SX → Option (Int32 × SX)} {dd : Nat} (hrc : hRX5conditiong l D cy ad st rc dd) {r : Int32} {u' : SX} {k7 : Int32 → Int32 → Int32 → Int32 → SX → Option (Int32 × SX)} (hk7 : ∀ (z1 : Int32) (z2 : Int32) (z3 : Int32) (z4 : Int32) (u : SX) (H : Heap) (locs : List Loc) (ls : Array Slot), k7 z1 z2 z3 z4 u = some (r, u') → va_P D vwCl (VX cy ad st u) H → va_S (Ax (AX ad) s.heap.size) s.heap H locs → lv_has ls 6 [(0, .ref (ad 2)), (1, .int z1), (2, .int z2), (3, .int z3), (4, .int z4)] → W p l e (rmX5conditiong (dd + 1)) s m args below meth c H locs 0 0 (MQ below (Qi D (VX cy ad st) (AX ad) s.heap.size r u') args s 0 0 (Ax (AX ad) s.heap.size)) (F0 m 7 ls [])) (z1 : Int32) (z3 : Int32) (z4 : Int32) (y0 : Int32) (u : SX) (H : Heap) (locs : List Loc) (ls : Array Slot) (h : GX5_total_2_92 rc k7 z1 z3 z4 y0 u = some (r, u')) (hP : va_P D vwCl (VX cy ad st u) H) (hS : va_S (Ax (AX ad) s.heap.size) s.heap H locs) (hl : lv_has ls 6 [(0, .ref (ad 2)), (1, .int z1), (3, .int z3), (4, .int z4)]) : W p l e (rmX5conditiong (dd + 1)) s m args below meth c H locs 0 0 (MQ below (Qi D (VX cy ad st) (AX ad) s.heap.size r u') args s 0 0 (Ax (AX ad) s.heap.size)) (F0 m 92 ls [.int y0]) := by
  unfold GX5_total_2_92 at h
  refine lv_istore_n (lv' := [(2, .int y0), (0, .ref (ad 2)), (1, .int z1), (3, .int z3), (4, .int z4)]) C.1 C.2.1 dX5_total_92 rfl hl (by decide) rfl (fun ls hl => ?_)
  replace hl := lv_sub (l' := [(0, .ref (ad 2)), (1, .int z1), (2, .int y0), (3, .int z3), (4, .int z4)]) hl [1, 2, 0, 3, 4] rfl
  refine lv_iload_n C.1 C.2.1 dX5_total_93 rfl (lv_at hl 2 rfl) ?_
  refine lv_if_ne (tgt := 99) C.1 C.2.1 dX5_total_94 (by decide) (fun c94 => ?_) (fun c94 => ?_)
  · rw [if_neg c94] at h
    exact wGX5_total_2_99 C hK hJ hrc hk7 _ _ _ _ _ _ _ _ h hP hS hl
  · rw [if_pos c94] at h
    refine lv_iconst (v := 1) C.1 C.2.1 dX5_total_97 (by decide) ?_
    obtain ⟨hg16, h⟩ := gd_some h
    cases h
    exact rt_z hg16 C hP hS dX5_total_98
set_option maxHeartbeats 4000000 in
set_option maxRecDepth 100000 in
theorem wGX5_total_2_86 {p : Program} {l : Launch} {e : Env} {s : State} {m : MethodId} {args : Array Value} {below : List Frame} {meth : Method} {c : Code} {D : va_G} {cy : Nat → ClassId} {ad st : Nat → Nat} (C : Cx RX5 cX5_total 6 (some .boolean) wsX5_total p s m args meth c) (hK : Kx D [(cy 0, .int), (cy 1, .long), (cy 2, .boolean), (cy 3, .byte), (cy 4, .object "HissHorn$Text")] st s) (hJ : JX ad) {rc : Nat → Int32 → Int32 → SX → Option (Int32 × SX)} {dd : Nat} (hrc : hRX5conditiong l D cy ad st rc dd) {r : Int32} {u' : SX} {k7 : Int32 → Int32 → Int32 → Int32 → SX → Option (Int32 × SX)} (hk7 : ∀ (z1 : Int32) (z2 : Int32) (z3 : Int32) (z4 : Int32) (u : SX) (H : Heap) (locs : List Loc) (ls : Array Slot), k7 z1 z2 z3 z4 u = some (r, u') → va_P D vwCl (VX cy ad st u) H → va_S (Ax (AX ad) s.heap.size) s.heap H locs → lv_has ls 6 [(0, .ref (ad 2)), (1, .int z1), (2, .int z2), (3, .int z3), (4, .int z4)] → W p l e (rmX5conditiong (dd + 1)) s m args below meth c H locs 0 0 (MQ below (Qi D (VX cy ad st) (AX ad) s.heap.size r u') args s 0 0 (Ax (AX ad) s.heap.size)) (F0 m 7 ls [])) (z1 : Int32) (z3 : Int32) (z4 : Int32) (z5 : Int32) (u : SX) (H : Heap) (locs : List Loc) (ls : Array Slot) (h : GX5_total_2_86 rc k7 z1 z3 z4 z5 u = some (r, u')) (hP : va_P D vwCl (VX cy ad st u) H) (hS : va_S (Ax (AX ad) s.heap.size) s.heap H locs) (hl : lv_has ls 6 [(0, .ref (ad 2)), (1, .int z1), (3, .int z3), (4, .int z4), (5, .int z5)]) : W p l e (rmX5conditiong (dd + 1)) s m args below meth c H locs 0 0 (MQ below (Qi D (VX cy ad st) (AX ad) s.heap.size r u') args s 0 0 (Ax (AX ad) s.heap.size)) (F0 m 86 ls []) := by
  unfold GX5_total_2_86 at h
  refine lv_iload C.1 C.2.1 dX5_total_86 (lv_at hl 4 rfl) ?_
  refine lv_goto (tgt := 92) C.1 C.2.1 dX5_total_88 (by decide) ?_
  exact wGX5_total_2_92 C hK hJ hrc hk7 _ _ _ _ _ _ _ _ h hP hS (lv_sub hl [0, 1, 2, 3] rfl)
set_option maxHeartbeats 4000000 in
set_option maxRecDepth 100000 in
theorem wGX5_total_2_61 {p : Program} {l : Launch} {e : Env} {s : State} {m : MethodId} {args : Array Value} {below : List Frame} {meth : Method} {c : Code} {D : va_G} {cy : Nat → ClassId} {ad st : Nat → Nat} (C : Cx RX5 cX5_total 6 (some .boolean) wsX5_total p s m args meth c) (hK : Kx D [(cy 0, .int), (cy 1, .long), (cy 2, .boolean), (cy 3, .byte), (cy 4, .object "HissHorn$Text")] st s) (hJ : JX ad) {rc : Nat → Int32 → Int32 → SX → Option (Int32 × SX)} {dd : Nat} (hrc : hRX5conditiong l D cy ad st rc dd) {r : Int32} {u' : SX} {k7 : Int32 → Int32 → Int32 → Int32 → SX → Option (Int32 × SX)} (hk7 : ∀ (z1 : Int32) (z2 : Int32) (z3 : Int32) (z4 : Int32) (u : SX) (H : Heap) (locs : List Loc) (ls : Array Slot), k7 z1 z2 z3 z4 u = some (r, u') → va_P D vwCl (VX cy ad st u) H → va_S (Ax (AX ad) s.heap.size) s.heap H locs → lv_has ls 6 [(0, .ref (ad 2)), (1, .int z1), (2, .int z2), (3, .int z3), (4, .int z4)] → W p l e (rmX5conditiong (dd + 1)) s m args below meth c H locs 0 0 (MQ below (Qi D (VX cy ad st) (AX ad) s.heap.size r u') args s 0 0 (Ax (AX ad) s.heap.size)) (F0 m 7 ls [])) (z1 : Int32) (z2 : Int32) (z4 : Int32) (z5 : Int32) (y0 : Int32) (u : SX) (H : Heap) (locs : List Loc) (ls : Array Slot) (h : GX5_total_2_61 rc k7 z1 z2 z4 z5 y0 u = some (r, u')) (hP : va_P D vwCl (VX cy ad st u) H) (hS : va_S (Ax (AX ad) s.heap.size) s.heap H locs) (hl : lv_has ls 6 [(0, .ref (ad 2)), (1, .int z1), (2, .int z2), (4, .int z4), (5, .int z5)]) : W p l e (rmX5conditiong (dd + 1)) s m args below meth c H locs 0 0 (MQ below (Qi D (VX cy ad st) (AX ad) s.heap.size r u') args s 0 0 (Ax (AX ad) s.heap.size)) (F0 m 61 ls [.int y0]) := by
  unfold GX5_total_2_61 at h
  refine lv_istore_n (lv' := [(3, .int y0), (0, .ref (ad 2)), (1, .int z1), (2, .int z2), (4, .int z4), (5, .int z5)]) C.1 C.2.1 dX5_total_61 rfl hl (by decide) rfl (fun ls hl => ?_)
  replace hl := lv_sub (l' := [(0, .ref (ad 2)), (1, .int z1), (2, .int z2), (3, .int y0), (4, .int z4), (5, .int z5)]) hl [1, 2, 3, 0, 4, 5] rfl
  refine lv_iload_n C.1 C.2.1 dX5_total_62 rfl (lv_at hl 3 rfl) ?_
  refine lv_if_ne (tgt := 99) C.1 C.2.1 dX5_total_63 (by decide) (fun c63 => ?_) (fun c63 => ?_)
  · rw [if_neg c63] at h
    exact wGX5_total_2_99 C hK hJ hrc hk7 _ _ _ _ _ _ _ _ h hP hS (lv_sub hl [0, 1, 2, 3, 4] rfl)
  · rw [if_pos c63] at h
    refine lv_aload_n C.1 C.2.1 dX5_total_66 rfl (lv_at hl 0 rfl) ?_
    refine lv_iload_n C.1 C.2.1 dX5_total_67 rfl (lv_at hl 2 rfl) ?_
    refine lv_iconst (v := 0) C.1 C.2.1 dX5_total_68 (by decide) ?_
    obtain ⟨⟨r13, u14⟩, hc15, h⟩ := bd_some h
    try dsimp only at h
    refine cg_v (As := [.int z2, .int 0]) (rest := []) C hK hP hS (metX5_emit_2 l D cy ad st hJ _ z2 0 hc15) (cwV 2 C.2.2.2.2.2.1 gX5_total_X5_emit rfl rfl rfl (by decide +kernel) ⟨(Nat.le_trans (m := 2) (Nat.le_of_ble_eq_true rfl) (rmX5conditiong_f _)), (Nat.le_trans (m := 41) (Nat.le_of_ble_eq_true rfl) (rmX5conditiong_l _))⟩) 2 5 rfl rfl rfl hl.1 rfl (Nat.le_of_ble_eq_true rfl) dX5_total_69 ⟨Nat.zero_le _, Nat.zero_le _⟩ (fun H locs hP hS => ?_)
    refine lv_iload C.1 C.2.1 dX5_total_72 (lv_at hl 5 rfl) ?_
    refine lv_bipush (v := 43) C.1 C.2.1 dX5_total_74 (by decide) ?_
    refine lv_icmp_eq (tgt := 86) C.1 C.2.1 dX5_total_76 (by decide) (fun c76 => ?_) (fun c76 => ?_)
    · rw [if_pos c76] at h
      exact wGX5_total_2_86 C hK hJ hrc hk7 _ _ _ _ _ _ _ _ h hP hS (lv_sub hl [0, 1, 3, 4, 5] rfl)
    · rw [if_neg c76] at h
      refine lv_iload C.1 C.2.1 dX5_total_79 (lv_at hl 5 rfl) ?_
      refine lv_bipush (v := 45) C.1 C.2.1 dX5_total_81 (by decide) ?_
      refine lv_icmp_ne (tgt := 91) C.1 C.2.1 dX5_total_83 (by decide) (fun c83 => ?_) (fun c83 => ?_)
      · rw [if_neg c83] at h
        refine lv_iconst (v := 0) C.1 C.2.1 dX5_total_91 (by decide) ?_
        exact wGX5_total_2_92 C hK hJ hrc hk7 _ _ _ _ _ _ _ _ h hP hS (lv_sub hl [0, 1, 3, 4] rfl)
      · rw [if_pos c83] at h
        exact wGX5_total_2_86 C hK hJ hrc hk7 _ _ _ _ _ _ _ _ h hP hS (lv_sub hl [0, 1, 3, 4, 5] rfl)
set_option maxHeartbeats 4000000 in
set_option maxRecDepth 100000 in
theorem wGX5_total_2_55 {p : Program} {l : Launch} {e : Env} {s : State} {m : MethodId} {args : Array Value} {below : List Frame} {meth : Method} {c : Code} {D : va_G} {cy : Nat → ClassId} {ad st : Nat → Nat} (C : Cx RX5 cX5_total 6 (some .boolean) wsX5_total p s m args meth c) (hK : Kx D [(cy 0, .int), (cy 1, .long), (cy 2, .boolean), (cy 3, .byte), (cy 4, .object "HissHorn$Text")] st s) (hJ : JX ad) {rc : Nat → Int32 → Int32 → SX → Option (Int32 × SX)} {dd : Nat} (hrc : hRX5conditiong l D cy ad st rc dd) {r : Int32} {u' : SX} {k7 : Int32 → Int32 → Int32 → Int32 → SX → Option (Int32 × SX)} (hk7 : ∀ (z1 : Int32) (z2 : Int32) (z3 : Int32) (z4 : Int32) (u : SX) (H : Heap) (locs : List Loc) (ls : Array Slot), k7 z1 z2 z3 z4 u = some (r, u') → va_P D vwCl (VX cy ad st u) H → va_S (Ax (AX ad) s.heap.size) s.heap H locs → lv_has ls 6 [(0, .ref (ad 2)), (1, .int z1), (2, .int z2), (3, .int z3), (4, .int z4)] → W p l e (rmX5conditiong (dd + 1)) s m args below meth c H locs 0 0 (MQ below (Qi D (VX cy ad st) (AX ad) s.heap.size r u') args s 0 0 (Ax (AX ad) s.heap.size)) (F0 m 7 ls [])) (z1 : Int32) (z2 : Int32) (z4 : Int32) (z5 : Int32) (u : SX) (H : Heap) (locs : List Loc) (ls : Array Slot) (h : GX5_total_2_55 rc k7 z1 z2 z4 z5 u = some (r, u')) (hP : va_P D vwCl (VX cy ad st u) H) (hS : va_S (Ax (AX ad) s.heap.size) s.heap H locs) (hl : lv_has ls 6 [(0, .ref (ad 2)), (1, .int z1), (2, .int z2), (4, .int z4), (5, .int z5)]) : W p l e (rmX5conditiong (dd + 1)) s m args below meth c H locs 0 0 (MQ below (Qi D (VX cy ad st) (AX ad) s.heap.size r u') args s 0 0 (Ax (AX ad) s.heap.size)) (F0 m 55 ls []) := by
  unfold GX5_total_2_55 at h
  refine lv_iload C.1 C.2.1 dX5_total_55 (lv_at hl 4 rfl) ?_
  refine lv_goto (tgt := 61) C.1 C.2.1 dX5_total_57 (by decide) ?_
  exact wGX5_total_2_61 C hK hJ hrc hk7 _ _ _ _ _ _ _ _ _ h hP hS hl
set_option maxHeartbeats 4000000 in
set_option maxRecDepth 100000 in
theorem wLX5_total_2_7 {p : Program} {l : Launch} {e : Env} {s : State} {m : MethodId} {args : Array Value} {below : List Frame} {meth : Method} {c : Code} {D : va_G} {cy : Nat → ClassId} {ad st : Nat → Nat} (C : Cx RX5 cX5_total 6 (some .boolean) wsX5_total p s m args meth c) (hK : Kx D [(cy 0, .int), (cy 1, .long), (cy 2, .boolean), (cy 3, .byte), (cy 4, .object "HissHorn$Text")] st s) (hJ : JX ad) {rc : Nat → Int32 → Int32 → SX → Option (Int32 × SX)} {dd : Nat} (hrc : hRX5conditiong l D cy ad st rc dd) {r : Int32} {u' : SX}   : ∀ (n : Nat) (z1 : Int32) (z2 : Int32) (z3 : Int32) (z4 : Int32) (u : SX) (H : Heap) (locs : List Loc) (ls : Array Slot), LX5_total_2_7 rc  n z1 z2 z3 z4 u = some (r, u') → va_P D vwCl (VX cy ad st u) H → va_S (Ax (AX ad) s.heap.size) s.heap H locs → lv_has ls 6 [(0, .ref (ad 2)), (1, .int z1), (2, .int z2), (3, .int z3), (4, .int z4)] → W p l e (rmX5conditiong (dd + 1)) s m args below meth c H locs 0 0 (MQ below (Qi D (VX cy ad st) (AX ad) s.heap.size r u') args s 0 0 (Ax (AX ad) s.heap.size)) (F0 m 7 ls []) := by
  intro n
  induction n with
  | zero =>
    intro z1 z2 z3 z4 u H locs ls h
    exact absurd h (by intro q; cases q)
  | succ n ih =>
    intro z1 z2 z3 z4 u H locs ls h hP hS hl
    rw [LX5_total_2_7] at h
    refine lv_iload C.1 C.2.1 dX5_total_7 (lv_at hl 4 rfl) ?_
    refine lv_aload_n C.1 C.2.1 dX5_total_9 rfl (lv_at hl 0 rfl) ?_
    refine gX_2_tape C hX5_total_2_X5 hK hP mX5_total_2_1 dX5_total_10 ?_
    refine gX_1_length C hX5_total_2_X9 hK hP mX5_total_2_3 dX5_total_13 ?_
    refine lv_icmp_gt (tgt := 115) C.1 C.2.1 dX5_total_16 (by decide) (fun c16 => ?_) (fun c16 => ?_)
    · rw [if_pos c16] at h
      refine lv_iconst (v := 0) C.1 C.2.1 dX5_total_115 (by decide) ?_
      obtain ⟨hg1, h⟩ := gd_some h
      cases h
      exact rt_z hg1 C hP hS dX5_total_116
    · rw [if_neg c16] at h
      refine lv_aload_n C.1 C.2.1 dX5_total_19 rfl (lv_at hl 0 rfl) ?_
      refine lv_iload_n C.1 C.2.1 dX5_total_20 rfl (lv_at hl 1 rfl) ?_
      obtain ⟨⟨r2, u3⟩, hc4, h⟩ := bd_some h
      try dsimp only at h
      refine cg_i (As := [.int z1]) (rest := []) C hK hP hS (hrc.2.2.2 _ z1 _ _ _ hc4) (cwV 1 C.2.2.2.2.2.1 gX5_total_X5_atom rfl rfl rfl (by decide +kernel) ⟨rmX5conditiong_sf dd, rmX5conditiong_sl dd (k := 8 + (4 + 11)) (Nat.le_of_ble_eq_true rfl)⟩) 2 5 rfl rfl rfl hl.1 rfl (Nat.le_of_ble_eq_true rfl) dX5_total_21 ⟨Nat.zero_le _, Nat.zero_le _⟩ (fun H locs hP hS => ?_)
      refine lv_if_ne (tgt := 29) C.1 C.2.1 dX5_total_24 (by decide) (fun c24 => ?_) (fun c24 => ?_)
      · rw [if_neg c24] at h
        refine lv_aload_n C.1 C.2.1 dX5_total_29 rfl (lv_at hl 0 rfl) ?_
        refine lv_iload_n C.1 C.2.1 dX5_total_30 rfl (lv_at hl 3 rfl) ?_
        refine lv_iconst (v := 0) C.1 C.2.1 dX5_total_31 (by decide) ?_
        obtain ⟨⟨r5, u6⟩, hc7, h⟩ := bd_some h
        try dsimp only at h
        refine cg_v (As := [.int z3, .int 0]) (rest := []) C hK hP hS (metX5_emit_2 l D cy ad st hJ _ z3 0 hc7) (cwV 2 C.2.2.2.2.2.1 gX5_total_X5_emit rfl rfl rfl (by decide +kernel) ⟨(Nat.le_trans (m := 2) (Nat.le_of_ble_eq_true rfl) (rmX5conditiong_f _)), (Nat.le_trans (m := 41) (Nat.le_of_ble_eq_true rfl) (rmX5conditiong_l _))⟩) 2 5 rfl rfl rfl hl.1 rfl (Nat.le_of_ble_eq_true rfl) dX5_total_32 ⟨Nat.zero_le _, Nat.zero_le _⟩ (fun H locs hP hS => ?_)
        refine lv_aload_n C.1 C.2.1 dX5_total_35 rfl (lv_at hl 0 rfl) ?_
        obtain ⟨⟨r8, u9⟩, hc10, h⟩ := bd_some h
        try dsimp only at h
        refine cg_i (As := []) (rest := []) C hK hP hS (metX5_peek_2 l D cy ad st hJ _  hc10) (cwV 0 C.2.2.2.2.2.1 gX5_total_X5_peek rfl rfl rfl (by decide +kernel) ⟨(Nat.le_trans (m := 2) (Nat.le_of_ble_eq_true rfl) (rmX5conditiong_f _)), (Nat.le_trans (m := 41) (Nat.le_of_ble_eq_true rfl) (rmX5conditiong_l _))⟩) 2 5 rfl rfl rfl hl.1 rfl (Nat.le_of_ble_eq_true rfl) dX5_total_36 ⟨Nat.zero_le _, Nat.zero_le _⟩ (fun H locs hP hS => ?_)
        refine lv_istore (lv' := [(5, .int r8), (0, .ref (ad 2)), (1, .int z1), (2, .int z2), (3, .int z3), (4, .int z4)]) C.1 C.2.1 dX5_total_39 hl (by decide) rfl (fun ls hl => ?_)
        replace hl := lv_sub (l' := [(0, .ref (ad 2)), (1, .int z1), (2, .int z2), (3, .int z3), (4, .int z4), (5, .int r8)]) hl [1, 2, 3, 4, 5, 0] rfl
        refine lv_iload C.1 C.2.1 dX5_total_41 (lv_at hl 5 rfl) ?_
        refine lv_bipush (v := 42) C.1 C.2.1 dX5_total_43 (by decide) ?_
        refine lv_icmp_eq (tgt := 55) C.1 C.2.1 dX5_total_45 (by decide) (fun c45 => ?_) (fun c45 => ?_)
        · rw [if_pos c45] at h
          exact wGX5_total_2_55 C hK hJ hrc ih _ _ _ _ _ _ _ _ h hP hS (lv_sub hl [0, 1, 2, 4, 5] rfl)
        · rw [if_neg c45] at h
          refine lv_iload C.1 C.2.1 dX5_total_48 (lv_at hl 5 rfl) ?_
          refine lv_bipush (v := 47) C.1 C.2.1 dX5_total_50 (by decide) ?_
          refine lv_icmp_ne (tgt := 60) C.1 C.2.1 dX5_total_52 (by decide) (fun c52 => ?_) (fun c52 => ?_)
          · rw [if_neg c52] at h
            refine lv_iconst (v := 0) C.1 C.2.1 dX5_total_60 (by decide) ?_
            exact wGX5_total_2_61 C hK hJ hrc ih _ _ _ _ _ _ _ _ _ h hP hS (lv_sub hl [0, 1, 2, 4, 5] rfl)
          · rw [if_pos c52] at h
            exact wGX5_total_2_55 C hK hJ hrc ih _ _ _ _ _ _ _ _ h hP hS (lv_sub hl [0, 1, 2, 4, 5] rfl)
      · rw [if_pos c24] at h
        refine lv_iconst (v := 0) C.1 C.2.1 dX5_total_27 (by decide) ?_
        obtain ⟨hg17, h⟩ := gd_some h
        cases h
        exact rt_z hg17 C hP hS dX5_total_28
set_option maxHeartbeats 4000000 in
set_option maxRecDepth 100000 in
theorem wX5_total_2 {p : Program} {l : Launch} {e : Env} {s : State} {m : MethodId} {args : Array Value} {below : List Frame} {meth : Method} {c : Code} {D : va_G} {cy : Nat → ClassId} {ad st : Nat → Nat} (C : Cx RX5 cX5_total 6 (some .boolean) wsX5_total p s m args meth c) (hK : Kx D [(cy 0, .int), (cy 1, .long), (cy 2, .boolean), (cy 3, .byte), (cy 4, .object "HissHorn$Text")] st s) (hJ : JX ad) {rc : Nat → Int32 → Int32 → SX → Option (Int32 × SX)} {dd : Nat} (hrc : hRX5conditiong l D cy ad st rc dd) (x1 : Int32) {u : SX} {r : Int32} {u' : SX} {H : Heap} {locs : List Loc} {ls : Array Slot} (h : fX5_total_2 rc x1 u = some (r, u')) (hP : va_P D vwCl (VX cy ad st u) H) (hS : va_S (Ax (AX ad) s.heap.size) s.heap H locs) (hl : lv_has ls 6 [(0, .ref (ad 2)), (1, .int x1)]) : W p l e (rmX5conditiong (dd + 1)) s m args below meth c H locs 0 0 (MQ below (Qi D (VX cy ad st) (AX ad) s.heap.size r u') args s 0 0 (Ax (AX ad) s.heap.size)) (F0 m 0 ls []) := by
  unfold fX5_total_2 at h
  refine lv_iconst (v := 0) C.1 C.2.1 dX5_total_0 (by decide) ?_
  refine lv_istore_n (lv' := [(2, .int 0), (0, .ref (ad 2)), (1, .int x1)]) C.1 C.2.1 dX5_total_1 rfl hl (by decide) rfl (fun ls hl => ?_)
  replace hl := lv_sub (l' := [(0, .ref (ad 2)), (1, .int x1), (2, .int 0)]) hl [1, 2, 0] rfl
  refine lv_iconst (v := 0) C.1 C.2.1 dX5_total_2 (by decide) ?_
  refine lv_istore_n (lv' := [(3, .int 0), (0, .ref (ad 2)), (1, .int x1), (2, .int 0)]) C.1 C.2.1 dX5_total_3 rfl hl (by decide) rfl (fun ls hl => ?_)
  replace hl := lv_sub (l' := [(0, .ref (ad 2)), (1, .int x1), (2, .int 0), (3, .int 0)]) hl [1, 2, 3, 0] rfl
  refine lv_iconst (v := 0) C.1 C.2.1 dX5_total_4 (by decide) ?_
  refine lv_istore (lv' := [(4, .int 0), (0, .ref (ad 2)), (1, .int x1), (2, .int 0), (3, .int 0)]) C.1 C.2.1 dX5_total_5 hl (by decide) rfl (fun ls hl => ?_)
  replace hl := lv_sub (l' := [(0, .ref (ad 2)), (1, .int x1), (2, .int 0), (3, .int 0), (4, .int 0)]) hl [1, 2, 3, 4, 0] rfl
  exact wLX5_total_2_7 C hK hJ hrc  5000 _ _ _ _ _ _ _ _ h hP hS hl
theorem metX5_total_2 (l : Launch) (D : va_G) (cy : Nat → ClassId) (ad st : Nat → Nat) (hJ : JX ad) {rc : Nat → Int32 → Int32 → SX → Option (Int32 × SX)} {dd : Nat} (hrc : hRX5conditiong l D cy ad st rc dd) (sz : Nat) (x1 : Int32) {u : SX} {r : Int32} {u' : SX} (h : fX5_total_2 rc x1 u = some (r, u')) : Met l yX5_total wsX5_total (rmX5conditiong (dd + 1)) (va_Pc [.ref (ad 2), .int x1] (Px D [(cy 0, .int), (cy 1, .long), (cy 2, .boolean), (cy 3, .byte), (cy 4, .object "HissHorn$Text")] st (VX cy ad st) sz u)) (Qi D (VX cy ad st) (AX ad) sz r u') 0 0 (Ax (AX ad) sz) := by
  refine Met.ofW (cc := cX5_total) (maxL := 6) (ret := (some .boolean)) (by decide) rfl ?_
  intro p e s m args below meth c s₁ B hml hv
  obtain ⟨rfl, hsz, hP, hK⟩ := hv
  subst hsz
  have C : Cx RX5 cX5_total 6 (some .boolean) wsX5_total p s m _ meth c := ⟨B.exec, B.bytes, hml, B.returns, findClass_of_methodNamed B.named, atoms_spec (ws := wsX5_total) B.pre, B.notSynchronized⟩
  have hl := lv_entry ([.ref (ad 2), .int x1]) (n := 6) (Nat.le_of_ble_eq_true rfl)
  rw [lg_entry_eq]
  exact wX5_total_2 C hK hJ hrc x1 h hP va_S.rf hl

theorem dX5_atom_104 : decode cX5_atom 104 = .ok (.istore_n 3, 1) := by decide +kernel
theorem dX5_atom_105 : decode cX5_atom 105 = .ok (.iload_n 3, 1) := by decide +kernel
theorem dX5_atom_106 : decode cX5_atom 106 = .ok (.ifCond .ge 5, 3) := by decide +kernel
theorem dX5_atom_111 : decode cX5_atom 111 = .ok (.aload_n 0, 1) := by decide +kernel
theorem dX5_atom_112 : decode cX5_atom 112 = .ok (.dup, 1) := by decide +kernel
theorem dX5_atom_113 : decode cX5_atom 113 = .ok (.getfield 27, 3) := by decide +kernel
theorem dX5_atom_116 : decode cX5_atom 116 = .ok (.iconst 1, 1) := by decide +kernel
theorem dX5_atom_117 : decode cX5_atom 117 = .ok (.iadd, 1) := by decide +kernel
theorem dX5_atom_118 : decode cX5_atom 118 = .ok (.putfield 27, 3) := by decide +kernel
theorem dX5_atom_121 : decode cX5_atom 121 = .ok (.aload_n 0, 1) := by decide +kernel
theorem dX5_atom_122 : decode cX5_atom 122 = .ok (.bipush 121, 2) := by decide +kernel
theorem dX5_atom_124 : decode cX5_atom 124 = .ok (.iload_n 3, 1) := by decide +kernel
set_option maxRecDepth 20000 in
theorem ggX5_atom_X5_emit : GoodIn wsX5_atom wsX5_emit := goodIn_r _ [25, 26, 27, 121, 122, 123, 124, 125] (by decide +kernel) (by decide +kernel)
set_option maxRecDepth 20000 in
theorem gX5_atom_X5_emit : GoodIn wsX5_atom (wsV RX5 67 RX5 yX5_emit wsX5_emit) := goodIn_app (goodIn_of _ (by decide +kernel)) ggX5_atom_X5_emit
theorem dX5_atom_125 : decode cX5_atom 125 = .ok (.invokevirtual 67, 3) := by decide +kernel
theorem dX5_atom_128 : decode cX5_atom 128 = .ok (.iconst 1, 1) := by decide +kernel
theorem dX5_atom_129 : decode cX5_atom 129 = .ok (.ireturn, 1) := by decide +kernel
theorem dX5_atom_109 : decode cX5_atom 109 = .ok (.iconst 0, 1) := by decide +kernel
theorem dX5_atom_110 : decode cX5_atom 110 = .ok (.ireturn, 1) := by decide +kernel
theorem dX5_atom_87 : decode cX5_atom 87 = .ok (.iload_n 2, 1) := by decide +kernel
theorem dX5_atom_88 : decode cX5_atom 88 = .ok (.ifCond .ne 7, 3) := by decide +kernel
theorem dX5_atom_95 : decode cX5_atom 95 = .ok (.aload_n 0, 1) := by decide +kernel
theorem dX5_atom_96 : decode cX5_atom 96 = .ok (.getfield 19, 3) := by decide +kernel
theorem dX5_atom_99 : decode cX5_atom 99 = .ok (.iload_n 2, 1) := by decide +kernel
theorem dX5_atom_100 : decode cX5_atom 100 = .ok (.i2c, 1) := by decide +kernel
theorem dX5_atom_91 : decode cX5_atom 91 = .ok (.iconst (-1), 1) := by decide +kernel
theorem dX5_atom_92 : decode cX5_atom 92 = .ok (.goto 12, 3) := by decide +kernel
theorem dX5_atom_52 : decode cX5_atom 52 = .ok (.iload_n 2, 1) := by decide +kernel
theorem dX5_atom_53 : decode cX5_atom 53 = .ok (.bipush 48, 2) := by decide +kernel
theorem dX5_atom_55 : decode cX5_atom 55 = .ok (.if_icmp .lt 32, 3) := by decide +kernel
theorem dX5_atom_58 : decode cX5_atom 58 = .ok (.iload_n 2, 1) := by decide +kernel
theorem dX5_atom_59 : decode cX5_atom 59 = .ok (.bipush 57, 2) := by decide +kernel
theorem dX5_atom_61 : decode cX5_atom 61 = .ok (.if_icmp .gt 26, 3) := by decide +kernel
theorem dX5_atom_64 : decode cX5_atom 64 = .ok (.aload_n 0, 1) := by decide +kernel
set_option maxRecDepth 20000 in
theorem ggX5_atom_X5_number : GoodIn wsX5_atom wsX5_number := goodIn_r _ [21, 1, 8, 9, 10, 121, 122, 123, 124, 125, 126, 127] (by decide +kernel) (by decide +kernel)
set_option maxRecDepth 20000 in
theorem gX5_atom_X5_number : GoodIn wsX5_atom (wsV RX5 81 RX5 yX5_number wsX5_number) := goodIn_app (goodIn_of _ (by decide +kernel)) ggX5_atom_X5_number
theorem dX5_atom_65 : decode cX5_atom 65 = .ok (.invokevirtual 81, 3) := by decide +kernel
theorem dX5_atom_68 : decode cX5_atom 68 = .ok (.istore_n 3, 1) := by decide +kernel
theorem dX5_atom_69 : decode cX5_atom 69 = .ok (.aload_n 0, 1) := by decide +kernel
theorem dX5_atom_70 : decode cX5_atom 70 = .ok (.bipush 48, 2) := by decide +kernel
theorem dX5_atom_72 : decode cX5_atom 72 = .ok (.iload_n 3, 1) := by decide +kernel
theorem dX5_atom_73 : decode cX5_atom 73 = .ok (.invokevirtual 67, 3) := by decide +kernel
theorem dX5_atom_76 : decode cX5_atom 76 = .ok (.iload_n 3, 1) := by decide +kernel
theorem dX5_atom_77 : decode cX5_atom 77 = .ok (.iconst (-1), 1) := by decide +kernel
theorem dX5_atom_78 : decode cX5_atom 78 = .ok (.if_icmp .eq 7, 3) := by decide +kernel
theorem dX5_atom_85 : decode cX5_atom 85 = .ok (.iconst 0, 1) := by decide +kernel
theorem dX5_atom_86 : decode cX5_atom 86 = .ok (.ireturn, 1) := by decide +kernel
theorem dX5_atom_81 : decode cX5_atom 81 = .ok (.iconst 1, 1) := by decide +kernel
theorem dX5_atom_82 : decode cX5_atom 82 = .ok (.goto 4, 3) := by decide +kernel
theorem dX5_atom_0 : decode cX5_atom 0 = .ok (.aload_n 0, 1) := by decide +kernel
set_option maxRecDepth 20000 in
theorem ggX5_atom_X5_peek : GoodIn wsX5_atom wsX5_peek := goodIn_r _ [7, 1, 8, 9, 10, 121, 122, 123, 124, 125, 126, 127] (by decide +kernel) (by decide +kernel)
set_option maxRecDepth 20000 in
theorem gX5_atom_X5_peek : GoodIn wsX5_atom (wsV RX5 45 RX5 yX5_peek wsX5_peek) := goodIn_app (goodIn_of _ (by decide +kernel)) ggX5_atom_X5_peek
theorem dX5_atom_1 : decode cX5_atom 1 = .ok (.invokevirtual 45, 3) := by decide +kernel
theorem dX5_atom_4 : decode cX5_atom 4 = .ok (.istore_n 2, 1) := by decide +kernel
theorem dX5_atom_5 : decode cX5_atom 5 = .ok (.iload_n 2, 1) := by decide +kernel
theorem dX5_atom_6 : decode cX5_atom 6 = .ok (.bipush 91, 2) := by decide +kernel
theorem dX5_atom_8 : decode cX5_atom 8 = .ok (.if_icmp .ne 44, 3) := by decide +kernel
theorem dX5_atom_11 : decode cX5_atom 11 = .ok (.iload_n 1, 1) := by decide +kernel
theorem dX5_atom_12 : decode cX5_atom 12 = .ok (.bipush 6, 2) := by decide +kernel
theorem dX5_atom_14 : decode cX5_atom 14 = .ok (.if_icmp .ge 38, 3) := by decide +kernel
theorem dX5_atom_17 : decode cX5_atom 17 = .ok (.aload_n 0, 1) := by decide +kernel
theorem dX5_atom_18 : decode cX5_atom 18 = .ok (.dup, 1) := by decide +kernel
theorem dX5_atom_19 : decode cX5_atom 19 = .ok (.getfield 27, 3) := by decide +kernel
theorem dX5_atom_22 : decode cX5_atom 22 = .ok (.iconst 1, 1) := by decide +kernel
theorem dX5_atom_23 : decode cX5_atom 23 = .ok (.iadd, 1) := by decide +kernel
theorem dX5_atom_24 : decode cX5_atom 24 = .ok (.putfield 27, 3) := by decide +kernel
theorem dX5_atom_27 : decode cX5_atom 27 = .ok (.aload_n 0, 1) := by decide +kernel
theorem dX5_atom_28 : decode cX5_atom 28 = .ok (.iload_n 1, 1) := by decide +kernel
theorem dX5_atom_29 : decode cX5_atom 29 = .ok (.iconst 1, 1) := by decide +kernel
theorem dX5_atom_30 : decode cX5_atom 30 = .ok (.iadd, 1) := by decide +kernel
set_option maxRecDepth 20000 in
theorem ggX5_atom_X5_total : GoodIn wsX5_atom wsX5_total := goodIn_r _ [117, 8, 9, 1, 118, 119, 120, 6, 22, 23, 24, 25, 26, 27, 3, 4, 5, 7, 10, 0, 2, 11, 12, 13, 14, 15, 16, 17, 18, 19, 20, 21, 28, 29, 30, 31, 32, 33, 34, 35, 36, 37, 38, 39, 40, 41, 42, 43, 44, 45, 46, 47, 48, 49, 50, 51, 52, 53, 54, 55, 56, 57, 58, 59, 60, 61, 62, 63, 64, 65, 66, 67, 68, 69, 70, 71, 72, 73, 74, 75, 76, 77, 78, 79, 80, 81, 82, 83, 84, 85, 86, 87, 88, 89, 90, 91, 92, 93, 94, 95, 96, 97, 98, 99, 100, 101, 102, 103, 104, 105, 106, 107, 108, 109, 110, 111, 112, 113, 114, 115, 116, 121, 122, 123, 124, 125, 126, 127] (by decide +kernel) (by decide +kernel)
set_option maxRecDepth 20000 in
theorem gX5_atom_X5_total : GoodIn wsX5_atom (wsV RX5 60 RX5 yX5_total wsX5_total) := goodIn_app (goodIn_of _ (by decide +kernel)) ggX5_atom_X5_total
theorem dX5_atom_31 : decode cX5_atom 31 = .ok (.invokevirtual 60, 3) := by decide +kernel
theorem dX5_atom_34 : decode cX5_atom 34 = .ok (.ifCond .eq 16, 3) := by decide +kernel
theorem dX5_atom_50 : decode cX5_atom 50 = .ok (.iconst 0, 1) := by decide +kernel
theorem dX5_atom_51 : decode cX5_atom 51 = .ok (.ireturn, 1) := by decide +kernel
theorem dX5_atom_37 : decode cX5_atom 37 = .ok (.aload_n 0, 1) := by decide +kernel
theorem dX5_atom_38 : decode cX5_atom 38 = .ok (.bipush 93, 2) := by decide +kernel
set_option maxRecDepth 20000 in
theorem ggX5_atom_X5_takes : GoodIn wsX5_atom wsX5_takes := goodIn_r _ [17, 1, 3, 4, 5, 6, 7, 8, 9, 10, 121, 122, 123, 124, 125, 126, 127] (by decide +kernel) (by decide +kernel)
set_option maxRecDepth 20000 in
theorem gX5_atom_X5_takes : GoodIn wsX5_atom (wsV RX5 41 RX5 yX5_takes wsX5_takes) := goodIn_app (goodIn_of _ (by decide +kernel)) ggX5_atom_X5_takes
theorem dX5_atom_40 : decode cX5_atom 40 = .ok (.invokevirtual 41, 3) := by decide +kernel
theorem dX5_atom_43 : decode cX5_atom 43 = .ok (.ifCond .eq 7, 3) := by decide +kernel
theorem dX5_atom_46 : decode cX5_atom 46 = .ok (.iconst 1, 1) := by decide +kernel
theorem dX5_atom_47 : decode cX5_atom 47 = .ok (.goto 4, 3) := by decide +kernel
/-- HissHorn$Parser.atom(I)Z of cell 2 -/
theorem hX5_atom_2_X5 : ∀ w ∈ u_ws RX5 TX5 5, w ∈ wsX5_atom := fun w h => (List.mem_cons_of_mem _ (List.mem_append_left _ (List.mem_append_right _ h)))
theorem mX5_atom_2_1 : Cond.fieldLink RX5 19 "HissHorn$Parser" "letters" "Ljava/lang/String;" ∈ wsX5_atom := (List.mem_cons_of_mem _ (List.mem_append_left _ (List.mem_append_left _ (List.mem_append_left _ (List.mem_of_getElem? (i := 1) rfl)))))
theorem mX5_atom_2_2 : Cond.fieldLink RX5 27 "HissHorn$Parser" "at" "I" ∈ wsX5_atom := (List.mem_cons_of_mem _ (List.mem_append_left _ (List.mem_append_left _ (List.mem_append_left _ (List.mem_of_getElem? (i := 0) rfl)))))
def GX5_atom_2_104 (rc : Nat → Int32 → Int32 → SX → Option (Int32 × SX)) (y0 : Int32) (u : SX) : Option (Int32 × SX) := (if 0 ≤ y0 then (lt (sI u 4 ((u.1 4) + 1)) fun u4 => ((fX5_emit_2 121 y0 u4).bind fun q => match q with | (r6, u7) => (gd (isB 1) (some (1, u7))))) else (gd (isB 0) (some (0, u))))
def GX5_atom_2_87 (rc : Nat → Int32 → Int32 → SX → Option (Int32 × SX)) (z2 : Int32) (u : SX) : Option (Int32 × SX) := (if z2 = 0 then (GX5_atom_2_104 rc (-1) u) else none)
def GX5_atom_2_52 (rc : Nat → Int32 → Int32 → SX → Option (Int32 × SX)) (z2 : Int32) (u : SX) : Option (Int32 × SX) := (if z2 < 48 then (GX5_atom_2_87 rc z2 u) else (if 57 < z2 then (GX5_atom_2_87 rc z2 u) else ((fX5_number_2  u).bind fun q => match q with | (r11, u12) => ((fX5_emit_2 48 r11 u12).bind fun q => match q with | (r14, u15) => (if r11 = (-1) then (gd (isB 0) (some (0, u15))) else (gd (isB 1) (some (1, u15))))))))
def fX5_atom_2 (rc : Nat → Int32 → Int32 → SX → Option (Int32 × SX)) (x1 : Int32) (u : SX) : Option (Int32 × SX) := ((fX5_peek_2  u).bind fun q => match q with | (r1, u2) => (if r1 = 91 then (if 6 ≤ x1 then (GX5_atom_2_52 rc r1 u2) else (lt (sI u2 4 ((u2.1 4) + 1)) fun u19 => ((rc 2 (x1 + 1) 0 u19).bind fun q => match q with | (r21, u22) => (if r21 = 0 then (gd (isB 0) (some (0, u22))) else ((fX5_takes_2 93 u22).bind fun q => match q with | (r25, u26) => (if r25 = 0 then (gd (isB 0) (some (0, u26))) else (gd (isB 1) (some (1, u26))))))))) else (GX5_atom_2_52 rc r1 u2)))
set_option maxHeartbeats 4000000 in
set_option maxRecDepth 100000 in
theorem wGX5_atom_2_104 {p : Program} {l : Launch} {e : Env} {s : State} {m : MethodId} {args : Array Value} {below : List Frame} {meth : Method} {c : Code} {D : va_G} {cy : Nat → ClassId} {ad st : Nat → Nat} (C : Cx RX5 cX5_atom 4 (some .boolean) wsX5_atom p s m args meth c) (hK : Kx D [(cy 0, .int), (cy 1, .long), (cy 2, .boolean), (cy 3, .byte), (cy 4, .object "HissHorn$Text")] st s) (hJ : JX ad) {rc : Nat → Int32 → Int32 → SX → Option (Int32 × SX)} {dd : Nat} (hrc : hRX5conditiong l D cy ad st rc dd) {r : Int32} {u' : SX}   (y0 : Int32) (u : SX) (H : Heap) (locs : List Loc) (ls : Array Slot) (h : GX5_atom_2_104 rc y0 u = some (r, u')) (hP : va_P D vwCl (VX cy ad st u) H) (hS : va_S (Ax (AX ad) s.heap.size) s.heap H locs) (hl : lv_has ls 4 [(0, .ref (ad 2))]) : W p l e (rmX5conditiong (dd + 1)) s m args below meth c H locs 0 0 (MQ below (Qi D (VX cy ad st) (AX ad) s.heap.size r u') args s 0 0 (Ax (AX ad) s.heap.size)) (F0 m 104 ls [.int y0]) := by
  unfold GX5_atom_2_104 at h
  refine lv_istore_n (lv' := [(3, .int y0), (0, .ref (ad 2))]) C.1 C.2.1 dX5_atom_104 rfl hl (by decide) rfl (fun ls hl => ?_)
  replace hl := lv_sub (l' := [(0, .ref (ad 2)), (3, .int y0)]) hl [1, 0] rfl
  refine lv_iload_n C.1 C.2.1 dX5_atom_105 rfl (lv_at hl 1 rfl) ?_
  refine lv_if_ge (tgt := 111) C.1 C.2.1 dX5_atom_106 (by decide) (fun c106 => ?_) (fun c106 => ?_)
  · rw [if_pos c106] at h
    refine lv_aload_n C.1 C.2.1 dX5_atom_111 rfl (lv_at hl 0 rfl) ?_
    refine lv_dup C.1 C.2.1 dX5_atom_112 rfl ?_
    refine gX_2_at C hX5_atom_2_X5 hK hP mX5_atom_2_2 dX5_atom_113 ?_
    refine lv_iconst (v := 1) C.1 C.2.1 dX5_atom_116 (by decide) ?_
    refine lv_iadd C.1 C.2.1 dX5_atom_117 ?_
    refine pX_2_at C hX5_atom_2_X5 hK hP hJ hS mX5_atom_2_2 dX5_atom_118 (fun H locs hP hS => ?_)
    obtain ⟨u4, hu5, h⟩ := lt_some h
    rw [← hu5] at hP
    refine lv_aload_n C.1 C.2.1 dX5_atom_121 rfl (lv_at hl 0 rfl) ?_
    refine lv_bipush (v := 121) C.1 C.2.1 dX5_atom_122 (by decide) ?_
    refine lv_iload_n C.1 C.2.1 dX5_atom_124 rfl (lv_at hl 1 rfl) ?_
    obtain ⟨⟨r6, u7⟩, hc8, h⟩ := bd_some h
    try dsimp only at h
    refine cg_v (As := [.int 121, .int y0]) (rest := []) C hK hP hS (metX5_emit_2 l D cy ad st hJ _ 121 y0 hc8) (cwV 2 C.2.2.2.2.2.1 gX5_atom_X5_emit rfl rfl rfl (by decide +kernel) ⟨(Nat.le_trans (m := 2) (Nat.le_of_ble_eq_true rfl) (rmX5conditiong_f _)), (Nat.le_trans (m := 41) (Nat.le_of_ble_eq_true rfl) (rmX5conditiong_l _))⟩) 2 5 rfl rfl rfl hl.1 rfl (Nat.le_of_ble_eq_true rfl) dX5_atom_125 ⟨Nat.zero_le _, Nat.zero_le _⟩ (fun H locs hP hS => ?_)
    refine lv_iconst (v := 1) C.1 C.2.1 dX5_atom_128 (by decide) ?_
    obtain ⟨hg9, h⟩ := gd_some h
    cases h
    exact rt_z hg9 C hP hS dX5_atom_129
  · rw [if_neg c106] at h
    refine lv_iconst (v := 0) C.1 C.2.1 dX5_atom_109 (by decide) ?_
    obtain ⟨hg10, h⟩ := gd_some h
    cases h
    exact rt_z hg10 C hP hS dX5_atom_110
set_option maxHeartbeats 4000000 in
set_option maxRecDepth 100000 in
theorem wGX5_atom_2_87 {p : Program} {l : Launch} {e : Env} {s : State} {m : MethodId} {args : Array Value} {below : List Frame} {meth : Method} {c : Code} {D : va_G} {cy : Nat → ClassId} {ad st : Nat → Nat} (C : Cx RX5 cX5_atom 4 (some .boolean) wsX5_atom p s m args meth c) (hK : Kx D [(cy 0, .int), (cy 1, .long), (cy 2, .boolean), (cy 3, .byte), (cy 4, .object "HissHorn$Text")] st s) (hJ : JX ad) {rc : Nat → Int32 → Int32 → SX → Option (Int32 × SX)} {dd : Nat} (hrc : hRX5conditiong l D cy ad st rc dd) {r : Int32} {u' : SX}   (z2 : Int32) (u : SX) (H : Heap) (locs : List Loc) (ls : Array Slot) (h : GX5_atom_2_87 rc z2 u = some (r, u')) (hP : va_P D vwCl (VX cy ad st u) H) (hS : va_S (Ax (AX ad) s.heap.size) s.heap H locs) (hl : lv_has ls 4 [(0, .ref (ad 2)), (2, .int z2)]) : W p l e (rmX5conditiong (dd + 1)) s m args below meth c H locs 0 0 (MQ below (Qi D (VX cy ad st) (AX ad) s.heap.size r u') args s 0 0 (Ax (AX ad) s.heap.size)) (F0 m 87 ls []) := by
  unfold GX5_atom_2_87 at h
  refine lv_iload_n C.1 C.2.1 dX5_atom_87 rfl (lv_at hl 1 rfl) ?_
  refine lv_if_ne (tgt := 95) C.1 C.2.1 dX5_atom_88 (by decide) (fun c88 => ?_) (fun c88 => ?_)
  · rw [if_neg c88] at h
    refine lv_aload_n C.1 C.2.1 dX5_atom_95 rfl (lv_at hl 0 rfl) ?_
    refine gX_2_letters C hX5_atom_2_X5 hK hP mX5_atom_2_1 dX5_atom_96 ?_
    refine lv_iload_n C.1 C.2.1 dX5_atom_99 rfl (lv_at hl 1 rfl) ?_
    refine lv_i2c (v := (z2.toUInt32 % 65536).toInt32) C.1 C.2.1 dX5_atom_100 rfl ?_
    exact absurd h (by intro q; cases q)
  · rw [if_pos c88] at h
    refine lv_iconst (v := (-1)) C.1 C.2.1 dX5_atom_91 (by decide) ?_
    refine lv_goto (tgt := 104) C.1 C.2.1 dX5_atom_92 (by decide) ?_
    exact wGX5_atom_2_104 C hK hJ hrc _ _ _ _ _ h hP hS (lv_sub hl [0] rfl)
set_option maxHeartbeats 4000000 in
set_option maxRecDepth 100000 in
theorem wGX5_atom_2_52 {p : Program} {l : Launch} {e : Env} {s : State} {m : MethodId} {args : Array Value} {below : List Frame} {meth : Method} {c : Code} {D : va_G} {cy : Nat → ClassId} {ad st : Nat → Nat} (C : Cx RX5 cX5_atom 4 (some .boolean) wsX5_atom p s m args meth c) (hK : Kx D [(cy 0, .int), (cy 1, .long), (cy 2, .boolean), (cy 3, .byte), (cy 4, .object "HissHorn$Text")] st s) (hJ : JX ad) {rc : Nat → Int32 → Int32 → SX → Option (Int32 × SX)} {dd : Nat} (hrc : hRX5conditiong l D cy ad st rc dd) {r : Int32} {u' : SX}   (z2 : Int32) (u : SX) (H : Heap) (locs : List Loc) (ls : Array Slot) (h : GX5_atom_2_52 rc z2 u = some (r, u')) (hP : va_P D vwCl (VX cy ad st u) H) (hS : va_S (Ax (AX ad) s.heap.size) s.heap H locs) (hl : lv_has ls 4 [(0, .ref (ad 2)), (2, .int z2)]) : W p l e (rmX5conditiong (dd + 1)) s m args below meth c H locs 0 0 (MQ below (Qi D (VX cy ad st) (AX ad) s.heap.size r u') args s 0 0 (Ax (AX ad) s.heap.size)) (F0 m 52 ls []) := by
  unfold GX5_atom_2_52 at h
  refine lv_iload_n C.1 C.2.1 dX5_atom_52 rfl (lv_at hl 1 rfl) ?_
  refine lv_bipush (v := 48) C.1 C.2.1 dX5_atom_53 (by decide) ?_
  refine lv_icmp_lt (tgt := 87) C.1 C.2.1 dX5_atom_55 (by decide) (fun c55 => ?_) (fun c55 => ?_)
  · rw [if_pos c55] at h
    exact wGX5_atom_2_87 C hK hJ hrc _ _ _ _ _ h hP hS hl
  · rw [if_neg c55] at h
    refine lv_iload_n C.1 C.2.1 dX5_atom_58 rfl (lv_at hl 1 rfl) ?_
    refine lv_bipush (v := 57) C.1 C.2.1 dX5_atom_59 (by decide) ?_
    refine lv_icmp_gt (tgt := 87) C.1 C.2.1 dX5_atom_61 (by decide) (fun c61 => ?_) (fun c61 => ?_)
    · rw [if_pos c61] at h
      exact wGX5_atom_2_87 C hK hJ hrc _ _ _ _ _ h hP hS hl
    · rw [if_neg c61] at h
      refine lv_aload_n C.1 C.2.1 dX5_atom_64 rfl (lv_at hl 0 rfl) ?_
      obtain ⟨⟨r11, u12⟩, hc13, h⟩ := bd_some h
      try dsimp only at h
      refine cg_i (As := []) (rest := []) C hK hP hS (metX5_number_2 l D cy ad st hJ _  hc13) (cwV 0 C.2.2.2.2.2.1 gX5_atom_X5_number rfl rfl rfl (by decide +kernel) ⟨(Nat.le_trans (m := 2) (Nat.le_of_ble_eq_true rfl) (rmX5conditiong_f _)), (Nat.le_trans (m := 41) (Nat.le_of_ble_eq_true rfl) (rmX5conditiong_l _))⟩) 2 5 rfl rfl rfl hl.1 rfl (Nat.le_of_ble_eq_true rfl) dX5_atom_65 ⟨Nat.zero_le _, Nat.zero_le _⟩ (fun H locs hP hS => ?_)
      refine lv_istore_n (lv' := [(3, .int r11), (0, .ref (ad 2)), (2, .int z2)]) C.1 C.2.1 dX5_atom_68 rfl hl (by decide) rfl (fun ls hl => ?_)
      replace hl := lv_sub (l' := [(0, .ref (ad 2)), (2, .int z2), (3, .int r11)]) hl [1, 2, 0] rfl
      refine lv_aload_n C.1 C.2.1 dX5_atom_69 rfl (lv_at hl 0 rfl) ?_
      refine lv_bipush (v := 48) C.1 C.2.1 dX5_atom_70 (by decide) ?_
      refine lv_iload_n C.1 C.2.1 dX5_atom_72 rfl (lv_at hl 2 rfl) ?_
      obtain ⟨⟨r14, u15⟩, hc16, h⟩ := bd_some h
      try dsimp only at h
      refine cg_v (As := [.int 48, .int r11]) (rest := []) C hK hP hS (metX5_emit_2 l D cy ad st hJ _ 48 r11 hc16) (cwV 2 C.2.2.2.2.2.1 gX5_atom_X5_emit rfl rfl rfl (by decide +kernel) ⟨(Nat.le_trans (m := 2) (Nat.le_of_ble_eq_true rfl) (rmX5conditiong_f _)), (Nat.le_trans (m := 41) (Nat.le_of_ble_eq_true rfl) (rmX5conditiong_l _))⟩) 2 5 rfl rfl rfl hl.1 rfl (Nat.le_of_ble_eq_true rfl) dX5_atom_73 ⟨Nat.zero_le _, Nat.zero_le _⟩ (fun H locs hP hS => ?_)
      refine lv_iload_n C.1 C.2.1 dX5_atom_76 rfl (lv_at hl 2 rfl) ?_
      refine lv_iconst (v := (-1)) C.1 C.2.1 dX5_atom_77 (by decide) ?_
      refine lv_icmp_eq (tgt := 85) C.1 C.2.1 dX5_atom_78 (by decide) (fun c78 => ?_) (fun c78 => ?_)
      · rw [if_pos c78] at h
        refine lv_iconst (v := 0) C.1 C.2.1 dX5_atom_85 (by decide) ?_
        obtain ⟨hg17, h⟩ := gd_some h
        cases h
        exact rt_z hg17 C hP hS dX5_atom_86
      · rw [if_neg c78] at h
        refine lv_iconst (v := 1) C.1 C.2.1 dX5_atom_81 (by decide) ?_
        refine lv_goto (tgt := 86) C.1 C.2.1 dX5_atom_82 (by decide) ?_
        obtain ⟨hg18, h⟩ := gd_some h
        cases h
        exact rt_z hg18 C hP hS dX5_atom_86
set_option maxHeartbeats 4000000 in
set_option maxRecDepth 100000 in
theorem wX5_atom_2 {p : Program} {l : Launch} {e : Env} {s : State} {m : MethodId} {args : Array Value} {below : List Frame} {meth : Method} {c : Code} {D : va_G} {cy : Nat → ClassId} {ad st : Nat → Nat} (C : Cx RX5 cX5_atom 4 (some .boolean) wsX5_atom p s m args meth c) (hK : Kx D [(cy 0, .int), (cy 1, .long), (cy 2, .boolean), (cy 3, .byte), (cy 4, .object "HissHorn$Text")] st s) (hJ : JX ad) {rc : Nat → Int32 → Int32 → SX → Option (Int32 × SX)} {dd : Nat} (hrc : hRX5conditiong l D cy ad st rc dd) (x1 : Int32) {u : SX} {r : Int32} {u' : SX} {H : Heap} {locs : List Loc} {ls : Array Slot} (h : fX5_atom_2 rc x1 u = some (r, u')) (hP : va_P D vwCl (VX cy ad st u) H) (hS : va_S (Ax (AX ad) s.heap.size) s.heap H locs) (hl : lv_has ls 4 [(0, .ref (ad 2)), (1, .int x1)]) : W p l e (rmX5conditiong (dd + 1)) s m args below meth c H locs 0 0 (MQ below (Qi D (VX cy ad st) (AX ad) s.heap.size r u') args s 0 0 (Ax (AX ad) s.heap.size)) (F0 m 0 ls []) := by
  unfold fX5_atom_2 at h
  refine lv_aload_n C.1 C.2.1 dX5_atom_0 rfl (lv_at hl 0 rfl) ?_
  obtain ⟨⟨r1, u2⟩, hc3, h⟩ := bd_some h
  try dsimp only at h
  refine cg_i (As := []) (rest := []) C hK hP hS (metX5_peek_2 l D cy ad st hJ _  hc3) (cwV 0 C.2.2.2.2.2.1 gX5_atom_X5_peek rfl rfl rfl (by decide +kernel) ⟨(Nat.le_trans (m := 2) (Nat.le_of_ble_eq_true rfl) (rmX5conditiong_f _)), (Nat.le_trans (m := 41) (Nat.le_of_ble_eq_true rfl) (rmX5conditiong_l _))⟩) 2 5 rfl rfl rfl hl.1 rfl (Nat.le_of_ble_eq_true rfl) dX5_atom_1 ⟨Nat.zero_le _, Nat.zero_le _⟩ (fun H locs hP hS => ?_)
  refine lv_istore_n (lv' := [(2, .int r1), (0, .ref (ad 2)), (1, .int x1)]) C.1 C.2.1 dX5_atom_4 rfl hl (by decide) rfl (fun ls hl => ?_)
  replace hl := lv_sub (l' := [(0, .ref (ad 2)), (1, .int x1), (2, .int r1)]) hl [1, 2, 0] rfl
  refine lv_iload_n C.1 C.2.1 dX5_atom_5 rfl (lv_at hl 2 rfl) ?_
  refine lv_bipush (v := 91) C.1 C.2.1 dX5_atom_6 (by decide) ?_
  refine lv_icmp_ne (tgt := 52) C.1 C.2.1 dX5_atom_8 (by decide) (fun c8 => ?_) (fun c8 => ?_)
  · rw [if_neg c8] at h
    exact wGX5_atom_2_52 C hK hJ hrc _ _ _ _ _ h hP hS (lv_sub hl [0, 2] rfl)
  · rw [if_pos c8] at h
    refine lv_iload_n C.1 C.2.1 dX5_atom_11 rfl (lv_at hl 1 rfl) ?_
    refine lv_bipush (v := 6) C.1 C.2.1 dX5_atom_12 (by decide) ?_
    refine lv_icmp_ge (tgt := 52) C.1 C.2.1 dX5_atom_14 (by decide) (fun c14 => ?_) (fun c14 => ?_)
    · rw [if_pos c14] at h
      exact wGX5_atom_2_52 C hK hJ hrc _ _ _ _ _ h hP hS (lv_sub hl [0, 2] rfl)
    · rw [if_neg c14] at h
      refine lv_aload_n C.1 C.2.1 dX5_atom_17 rfl (lv_at hl 0 rfl) ?_
      refine lv_dup C.1 C.2.1 dX5_atom_18 rfl ?_
      refine gX_2_at C hX5_atom_2_X5 hK hP mX5_atom_2_2 dX5_atom_19 ?_
      refine lv_iconst (v := 1) C.1 C.2.1 dX5_atom_22 (by decide) ?_
      refine lv_iadd C.1 C.2.1 dX5_atom_23 ?_
      refine pX_2_at C hX5_atom_2_X5 hK hP hJ hS mX5_atom_2_2 dX5_atom_24 (fun H locs hP hS => ?_)
      obtain ⟨u19, hu20, h⟩ := lt_some h
      rw [← hu20] at hP
      refine lv_aload_n C.1 C.2.1 dX5_atom_27 rfl (lv_at hl 0 rfl) ?_
      refine lv_iload_n C.1 C.2.1 dX5_atom_28 rfl (lv_at hl 1 rfl) ?_
      refine lv_iconst (v := 1) C.1 C.2.1 dX5_atom_29 (by decide) ?_
      refine lv_iadd C.1 C.2.1 dX5_atom_30 ?_
      obtain ⟨⟨r21, u22⟩, hc23, h⟩ := bd_some h
      try dsimp only at h
      refine cg_i (As := [.int (x1 + 1)]) (rest := []) C hK hP hS (hrc.2.2.1 _ (x1 + 1) _ _ _ hc23) (cwV 1 C.2.2.2.2.2.1 gX5_atom_X5_total rfl rfl rfl (by decide +kernel) ⟨rmX5conditiong_sf dd, rmX5conditiong_sl dd (k := 8 + (6 + 11)) (Nat.le_of_ble_eq_true rfl)⟩) 2 5 rfl rfl rfl hl.1 rfl (Nat.le_of_ble_eq_true rfl) dX5_atom_31 ⟨Nat.zero_le _, Nat.zero_le _⟩ (fun H locs hP hS => ?_)
      refine lv_if_eq (tgt := 50) C.1 C.2.1 dX5_atom_34 (by decide) (fun c34 => ?_) (fun c34 => ?_)
      · rw [if_pos c34] at h
        refine lv_iconst (v := 0) C.1 C.2.1 dX5_atom_50 (by decide) ?_
        obtain ⟨hg24, h⟩ := gd_some h
        cases h
        exact rt_z hg24 C hP hS dX5_atom_51
      · rw [if_neg c34] at h
        refine lv_aload_n C.1 C.2.1 dX5_atom_37 rfl (lv_at hl 0 rfl) ?_
        refine lv_bipush (v := 93) C.1 C.2.1 dX5_atom_38 (by decide) ?_
        obtain ⟨⟨r25, u26⟩, hc27, h⟩ := bd_some h
        try dsimp only at h
        refine cg_i (As := [.int 93]) (rest := []) C hK hP hS (metX5_takes_2 l D cy ad st hJ _ 93 hc27) (cwV 1 C.2.2.2.2.2.1 gX5_atom_X5_takes rfl rfl rfl (by decide +kernel) ⟨(Nat.le_trans (m := 2) (Nat.le_of_ble_eq_true rfl) (rmX5conditiong_f _)), (Nat.le_trans (m := 41) (Nat.le_of_ble_eq_true rfl) (rmX5conditiong_l _))⟩) 2 5 rfl rfl rfl hl.1 rfl (Nat.le_of_ble_eq_true rfl) dX5_atom_40 ⟨Nat.zero_le _, Nat.zero_le _⟩ (fun H locs hP hS => ?_)
        refine lv_if_eq (tgt := 50) C.1 C.2.1 dX5_atom_43 (by decide) (fun c43 => ?_) (fun c43 => ?_)
        · rw [if_pos c43] at h
          refine lv_iconst (v := 0) C.1 C.2.1 dX5_atom_50 (by decide) ?_
          obtain ⟨hg28, h⟩ := gd_some h
          cases h
          exact rt_z hg28 C hP hS dX5_atom_51
        · rw [if_neg c43] at h
          refine lv_iconst (v := 1) C.1 C.2.1 dX5_atom_46 (by decide) ?_
          refine lv_goto (tgt := 51) C.1 C.2.1 dX5_atom_47 (by decide) ?_
          obtain ⟨hg29, h⟩ := gd_some h
          cases h
          exact rt_z hg29 C hP hS dX5_atom_51
theorem metX5_atom_2 (l : Launch) (D : va_G) (cy : Nat → ClassId) (ad st : Nat → Nat) (hJ : JX ad) {rc : Nat → Int32 → Int32 → SX → Option (Int32 × SX)} {dd : Nat} (hrc : hRX5conditiong l D cy ad st rc dd) (sz : Nat) (x1 : Int32) {u : SX} {r : Int32} {u' : SX} (h : fX5_atom_2 rc x1 u = some (r, u')) : Met l yX5_atom wsX5_atom (rmX5conditiong (dd + 1)) (va_Pc [.ref (ad 2), .int x1] (Px D [(cy 0, .int), (cy 1, .long), (cy 2, .boolean), (cy 3, .byte), (cy 4, .object "HissHorn$Text")] st (VX cy ad st) sz u)) (Qi D (VX cy ad st) (AX ad) sz r u') 0 0 (Ax (AX ad) sz) := by
  refine Met.ofW (cc := cX5_atom) (maxL := 4) (ret := (some .boolean)) (by decide) rfl ?_
  intro p e s m args below meth c s₁ B hml hv
  obtain ⟨rfl, hsz, hP, hK⟩ := hv
  subst hsz
  have C : Cx RX5 cX5_atom 4 (some .boolean) wsX5_atom p s m _ meth c := ⟨B.exec, B.bytes, hml, B.returns, findClass_of_methodNamed B.named, atoms_spec (ws := wsX5_atom) B.pre, B.notSynchronized⟩
  have hl := lv_entry ([.ref (ad 2), .int x1]) (n := 4) (Nat.le_of_ble_eq_true rfl)
  rw [lg_entry_eq]
  exact wX5_atom_2 C hK hJ hrc x1 h hP va_S.rf hl

def rX5conditiong : Nat → Nat → Int32 → Int32 → SX → Option (Int32 × SX)
  | 0, _, _, _, _ => none
  | d + 1, t, a0, a1, u => (if t = 0 then fX5_condition_2 (rX5conditiong d) a0 a1 u else (if t = 1 then fX5_unit_2 (rX5conditiong d) a0 a1 u else (if t = 2 then fX5_total_2 (rX5conditiong d) a0 u else (if t = 3 then fX5_atom_2 (rX5conditiong d) a0 u else none))))
theorem hRX5conditiong_all (l : Launch) (D : va_G) (cy : Nat → ClassId) (ad st : Nat → Nat) (hJ : JX ad) : ∀ d, hRX5conditiong l D cy ad st (rX5conditiong d) d := by
  intro d
  induction d with
  | zero =>
    refine ⟨?_, ?_, ?_, ?_⟩
    · intro sz x1 x2 u r u' h
      exact absurd h (by intro q; cases q)
    · intro sz x1 x2 u r u' h
      exact absurd h (by intro q; cases q)
    · intro sz x1 u r u' h
      exact absurd h (by intro q; cases q)
    · intro sz x1 u r u' h
      exact absurd h (by intro q; cases q)
  | succ d ih =>
    refine ⟨?_, ?_, ?_, ?_⟩
    · intro sz x1 x2 u r u' h
      rw [rX5conditiong] at h
      rw [if_pos rfl] at h
      exact metX5_condition_2 l D cy ad st hJ ih sz x1 x2 h
    · intro sz x1 x2 u r u' h
      rw [rX5conditiong] at h
      rw [if_neg (by decide)] at h; rw [if_pos rfl] at h
      exact metX5_unit_2 l D cy ad st hJ ih sz x1 x2 h
    · intro sz x1 u r u' h
      rw [rX5conditiong] at h
      rw [if_neg (by decide)] at h; rw [if_neg (by decide)] at h; rw [if_pos rfl] at h
      exact metX5_total_2 l D cy ad st hJ ih sz x1 h
    · intro sz x1 u r u' h
      rw [rX5conditiong] at h
      rw [if_neg (by decide)] at h; rw [if_neg (by decide)] at h; rw [if_neg (by decide)] at h; rw [if_pos rfl] at h
      exact metX5_atom_2 l D cy ad st hJ ih sz x1 h
