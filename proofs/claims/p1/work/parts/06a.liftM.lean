theorem dX12_thrown_0 : decode cX12_thrown 0 = .ok (.aload_n 0, 1) := by decide +kernel
theorem dX12_thrown_1 : decode cX12_thrown 1 = .ok (.getfield 151, 3) := by decide +kernel
theorem dX12_thrown_4 : decode cX12_thrown 4 = .ok (.ireturn, 1) := by decide +kernel
/-- HissHornModel.thrown()I of cell 0 -/
def rmX12_thrown_0 : Room := { frames := 0, cells := 0, slots := 0, locals := 0 }
theorem hX12_thrown_0_X12 : ∀ w ∈ u_ws RX12 TX12 69, w ∈ wsX12_thrown := fun w h => (List.mem_cons_of_mem _ (List.mem_append_right _ h))
theorem mX12_thrown_0_1 : Cond.fieldLink RX12 151 "HissHornModel" "thrown" "I" ∈ wsX12_thrown := (List.mem_cons_of_mem _ (List.mem_append_left _ (List.mem_of_getElem? (i := 0) rfl)))
def fX12_thrown_0  (u : SX) : Option (Int32 × SX) := (some (u.1 0, u))
set_option maxHeartbeats 4000000 in
set_option maxRecDepth 100000 in
theorem wX12_thrown_0 {p : Program} {l : Launch} {e : Env} {s : State} {m : MethodId} {args : Array Value} {below : List Frame} {meth : Method} {c : Code} {D : va_G} {cy : Nat → ClassId} {ad st : Nat → Nat} (C : Cx RX12 cX12_thrown 1 (some .int) wsX12_thrown p s m args meth c) (hK : Kx D [(cy 0, .int), (cy 1, .long), (cy 2, .boolean), (cy 3, .byte), (cy 4, .object "HissHorn$Text")] st s) (hJ : JM ad)  {u : SX} {r : Int32} {u' : SX} {H : Heap} {locs : List Loc} {ls : Array Slot} (h : fX12_thrown_0  u = some (r, u')) (hP : va_P D vwCl (VM cy ad st u) H) (hS : va_S (Ax (AM ad) s.heap.size) s.heap H locs) (hl : lv_has ls 1 [(0, .ref (ad 0))]) : W p l e rmX12_thrown_0 s m args below meth c H locs 0 0 (MQ below (Qi D (VM cy ad st) (AM ad) s.heap.size r u') args s 0 0 (Ax (AM ad) s.heap.size)) (F0 m 0 ls []) := by
  unfold fX12_thrown_0 at h
  refine lv_aload_n C.1 C.2.1 dX12_thrown_0 rfl (lv_at hl 0 rfl) ?_
  refine gM_0_thrown C hX12_thrown_0_X12 hK hP mX12_thrown_0_1 dX12_thrown_1 ?_
  cases h
  exact rt_i C hP hS dX12_thrown_4
theorem metX12_thrown_0 (l : Launch) (D : va_G) (cy : Nat → ClassId) (ad st : Nat → Nat) (hJ : JM ad) (sz : Nat)  {u : SX} {r : Int32} {u' : SX} (h : fX12_thrown_0  u = some (r, u')) : Met l yX12_thrown wsX12_thrown rmX12_thrown_0 (va_Pc [.ref (ad 0)] (Px D [(cy 0, .int), (cy 1, .long), (cy 2, .boolean), (cy 3, .byte), (cy 4, .object "HissHorn$Text")] st (VM cy ad st) sz u)) (Qi D (VM cy ad st) (AM ad) sz r u') 0 0 (Ax (AM ad) sz) := by
  refine Met.ofW (cc := cX12_thrown) (maxL := 1) (ret := (some .int)) (by decide) rfl ?_
  intro p e s m args below meth c s₁ B hml hv
  obtain ⟨rfl, hsz, hP, hK⟩ := hv
  subst hsz
  have C : Cx RX12 cX12_thrown 1 (some .int) wsX12_thrown p s m _ meth c := ⟨B.exec, B.bytes, hml, B.returns, findClass_of_methodNamed B.named, atoms_spec (ws := wsX12_thrown) B.pre, B.notSynchronized⟩
  have hl := lv_entry ([.ref (ad 0)]) (n := 1) (Nat.le_of_ble_eq_true rfl)
  rw [lg_entry_eq]
  exact wX12_thrown_0 C hK hJ h hP va_S.rf hl

theorem dX12_isIn_0 : decode cX12_isIn 0 = .ok (.iload_n 0, 1) := by decide +kernel
theorem dX12_isIn_1 : decode cX12_isIn 1 = .ok (.iload_n 1, 1) := by decide +kernel
theorem dX12_isIn_2 : decode cX12_isIn 2 = .ok (.if_icmp .lt 12, 3) := by decide +kernel
theorem dX12_isIn_14 : decode cX12_isIn 14 = .ok (.iconst 0, 1) := by decide +kernel
theorem dX12_isIn_15 : decode cX12_isIn 15 = .ok (.ireturn, 1) := by decide +kernel
theorem dX12_isIn_5 : decode cX12_isIn 5 = .ok (.iload_n 0, 1) := by decide +kernel
theorem dX12_isIn_6 : decode cX12_isIn 6 = .ok (.iload_n 2, 1) := by decide +kernel
theorem dX12_isIn_7 : decode cX12_isIn 7 = .ok (.if_icmp .gt 7, 3) := by decide +kernel
theorem dX12_isIn_10 : decode cX12_isIn 10 = .ok (.iconst 1, 1) := by decide +kernel
theorem dX12_isIn_11 : decode cX12_isIn 11 = .ok (.goto 4, 3) := by decide +kernel
/-- HissHornModel.isIn(III)Z -/
def rmX12_isIn : Room := { frames := 0, cells := 0, slots := 0, locals := 0 }
def fX12_isIn (x0 : Int32) (x1 : Int32) (x2 : Int32) : Option Int32 := (if x0 < x1 then (gd (isB 0) (some 0)) else (if x2 < x0 then (gd (isB 0) (some 0)) else (gd (isB 1) (some 1))))
set_option maxHeartbeats 4000000 in
set_option maxRecDepth 100000 in
theorem wX12_isIn {p : Program} {l : Launch} {e : Env} {s : State} {m : MethodId} {args : Array Value} {below : List Frame} {meth : Method} {c : Code} {D : va_G} {cy : Nat → ClassId} {st : Nat → Nat} (C : Cx RX12 cX12_isIn 3 (some .boolean) wsX12_isIn p s m args meth c) (hK : Kx D [(cy 0, .int), (cy 1, .long), (cy 2, .boolean), (cy 3, .byte), (cy 4, .object "HissHorn$Text")] st s) (x0 : Int32) (x1 : Int32) (x2 : Int32) {r : Int32} {H : Heap} {locs : List Loc} {ls : Array Slot} (h : fX12_isIn x0 x1 x2 = some r) (hP : va_P D vwCl (V0 u00) H) (hS : va_S (Ax (A0) s.heap.size) s.heap H locs) (hl : lv_has ls 3 [(0, .int x0), (1, .int x1), (2, .int x2)]) : W p l e rmX12_isIn s m args below meth c H locs 0 0 (MQ below (Qi D (V0) (A0) s.heap.size r u00) args s 0 0 (Ax (A0) s.heap.size)) (F0 m 0 ls []) := by
  unfold fX12_isIn at h
  refine lv_iload_n C.1 C.2.1 dX12_isIn_0 rfl (lv_at hl 0 rfl) ?_
  refine lv_iload_n C.1 C.2.1 dX12_isIn_1 rfl (lv_at hl 1 rfl) ?_
  refine lv_icmp_lt (tgt := 14) C.1 C.2.1 dX12_isIn_2 (by decide) (fun c2 => ?_) (fun c2 => ?_)
  · rw [if_pos c2] at h
    refine lv_iconst (v := 0) C.1 C.2.1 dX12_isIn_14 (by decide) ?_
    obtain ⟨hg1, h⟩ := gd_some h
    cases h
    exact rt_z hg1 C hP hS dX12_isIn_15
  · rw [if_neg c2] at h
    refine lv_iload_n C.1 C.2.1 dX12_isIn_5 rfl (lv_at hl 0 rfl) ?_
    refine lv_iload_n C.1 C.2.1 dX12_isIn_6 rfl (lv_at hl 2 rfl) ?_
    refine lv_icmp_gt (tgt := 14) C.1 C.2.1 dX12_isIn_7 (by decide) (fun c7 => ?_) (fun c7 => ?_)
    · rw [if_pos c7] at h
      refine lv_iconst (v := 0) C.1 C.2.1 dX12_isIn_14 (by decide) ?_
      obtain ⟨hg2, h⟩ := gd_some h
      cases h
      exact rt_z hg2 C hP hS dX12_isIn_15
    · rw [if_neg c7] at h
      refine lv_iconst (v := 1) C.1 C.2.1 dX12_isIn_10 (by decide) ?_
      refine lv_goto (tgt := 15) C.1 C.2.1 dX12_isIn_11 (by decide) ?_
      obtain ⟨hg3, h⟩ := gd_some h
      cases h
      exact rt_z hg3 C hP hS dX12_isIn_15
theorem metX12_isIn (l : Launch) (D : va_G) (cy : Nat → ClassId) (st : Nat → Nat) (sz : Nat) (x0 : Int32) (x1 : Int32) (x2 : Int32) {r : Int32} (h : fX12_isIn x0 x1 x2 = some r) : Met l yX12_isIn wsX12_isIn rmX12_isIn (va_Pc [.int x0, .int x1, .int x2] (Px D [(cy 0, .int), (cy 1, .long), (cy 2, .boolean), (cy 3, .byte), (cy 4, .object "HissHorn$Text")] st V0 sz u00)) (Qi D V0 A0 sz r u00) 0 0 (Ax A0 sz) := by
  refine Met.ofW (cc := cX12_isIn) (maxL := 3) (ret := (some .boolean)) (by decide) rfl ?_
  intro p e s m args below meth c s₁ B hml hv
  obtain ⟨rfl, hsz, hP, hK⟩ := hv
  subst hsz
  have C : Cx RX12 cX12_isIn 3 (some .boolean) wsX12_isIn p s m _ meth c := ⟨B.exec, B.bytes, hml, B.returns, findClass_of_methodNamed B.named, atoms_spec (ws := wsX12_isIn) B.pre, B.notSynchronized⟩
  have hl := lv_entry ([.int x0, .int x1, .int x2]) (n := 3) (Nat.le_of_ble_eq_true rfl)
  rw [lg_entry_eq]
  exact wX12_isIn C hK x0 x1 x2 h hP va_S.rf hl

theorem dX12_days_0 : decode cX12_days 0 = .ok (.aload_n 0, 1) := by decide +kernel
theorem dX12_days_1 : decode cX12_days 1 = .ok (.iconst 0, 1) := by decide +kernel
theorem dX12_days_2 : decode cX12_days 2 = .ok (.putfield 151, 3) := by decide +kernel
theorem dX12_days_5 : decode cX12_days 5 = .ok (.iload_n 1, 1) := by decide +kernel
theorem dX12_days_6 : decode cX12_days 6 = .ok (.iconst 0, 1) := by decide +kernel
theorem dX12_days_7 : decode cX12_days 7 = .ok (.bipush 60, 2) := by decide +kernel
set_option maxRecDepth 20000 in
theorem ggX12_days_X12_isIn : GoodIn wsX12_days wsX12_isIn := goodIn_r _ [6] (by decide +kernel) (by decide +kernel)
set_option maxRecDepth 20000 in
theorem gX12_days_X12_isIn : GoodIn wsX12_days (va_wsS RX12 155 yX12_isIn wsX12_isIn) := goodIn_app (goodIn_of _ (by decide +kernel)) ggX12_days_X12_isIn
theorem dX12_days_9 : decode cX12_days 9 = .ok (.invokestatic 155, 3) := by decide +kernel
theorem dX12_days_12 : decode cX12_days 12 = .ok (.ifCond .eq 14, 3) := by decide +kernel
theorem dX12_days_26 : decode cX12_days 26 = .ok (.iconst (-1), 1) := by decide +kernel
theorem dX12_days_27 : decode cX12_days 27 = .ok (.ireturn, 1) := by decide +kernel
theorem dX12_days_15 : decode cX12_days 15 = .ok (.aload_n 0, 1) := by decide +kernel
theorem dX12_days_16 : decode cX12_days 16 = .ok (.getfield 159, 3) := by decide +kernel
theorem dX12_days_19 : decode cX12_days 19 = .ok (.iload_n 1, 1) := by decide +kernel
theorem dX12_days_20 : decode cX12_days 20 = .ok (.iadd, 1) := by decide +kernel
theorem dX12_days_21 : decode cX12_days 21 = .ok (.bipush 120, 2) := by decide +kernel
theorem dX12_days_23 : decode cX12_days 23 = .ok (.if_icmp .le 5, 3) := by decide +kernel
theorem dX12_days_28 : decode cX12_days 28 = .ok (.aload_n 0, 1) := by decide +kernel
theorem dX12_days_29 : decode cX12_days 29 = .ok (.dup, 1) := by decide +kernel
theorem dX12_days_30 : decode cX12_days 30 = .ok (.getfield 159, 3) := by decide +kernel
theorem dX12_days_33 : decode cX12_days 33 = .ok (.iload_n 1, 1) := by decide +kernel
theorem dX12_days_34 : decode cX12_days 34 = .ok (.iadd, 1) := by decide +kernel
theorem dX12_days_35 : decode cX12_days 35 = .ok (.putfield 159, 3) := by decide +kernel
theorem dX12_days_38 : decode cX12_days 38 = .ok (.aload_n 0, 1) := by decide +kernel
theorem dX12_days_39 : decode cX12_days 39 = .ok (.getfield 159, 3) := by decide +kernel
theorem dX12_days_42 : decode cX12_days 42 = .ok (.ireturn, 1) := by decide +kernel
/-- HissHornModel.days(I)I of cell 0 -/
def rmX12_days_0 : Room := { frames := 1, cells := 0, slots := 0, locals := 22 }
theorem hX12_days_0_X12 : ∀ w ∈ u_ws RX12 TX12 69, w ∈ wsX12_days := fun w h => (List.mem_cons_of_mem _ (List.mem_append_right _ h))
theorem mX12_days_0_1 : Cond.fieldLink RX12 151 "HissHornModel" "thrown" "I" ∈ wsX12_days := (List.mem_cons_of_mem _ (List.mem_append_left _ (List.mem_of_getElem? (i := 0) rfl)))
theorem mX12_days_0_2 : Cond.fieldLink RX12 159 "HissHornModel" "now" "I" ∈ wsX12_days := (List.mem_cons_of_mem _ (List.mem_append_left _ (List.mem_of_getElem? (i := 1) rfl)))
def fX12_days_0 (x1 : Int32) (u : SX) : Option (Int32 × SX) := (lt (sI u 0 0) fun u1 => ((fX12_isIn x1 0 60).bind fun r3 => (if r3 = 0 then (some ((-1), u1)) else (if ((u1.1 1) + x1) ≤ 120 then (lt (sI u1 1 ((u1.1 1) + x1)) fun u6 => (some (u6.1 1, u6))) else (some ((-1), u1))))))
set_option maxHeartbeats 4000000 in
set_option maxRecDepth 100000 in
theorem wX12_days_0 {p : Program} {l : Launch} {e : Env} {s : State} {m : MethodId} {args : Array Value} {below : List Frame} {meth : Method} {c : Code} {D : va_G} {cy : Nat → ClassId} {ad st : Nat → Nat} (C : Cx RX12 cX12_days 2 (some .int) wsX12_days p s m args meth c) (hK : Kx D [(cy 0, .int), (cy 1, .long), (cy 2, .boolean), (cy 3, .byte), (cy 4, .object "HissHorn$Text")] st s) (hJ : JM ad) (x1 : Int32) {u : SX} {r : Int32} {u' : SX} {H : Heap} {locs : List Loc} {ls : Array Slot} (h : fX12_days_0 x1 u = some (r, u')) (hP : va_P D vwCl (VM cy ad st u) H) (hS : va_S (Ax (AM ad) s.heap.size) s.heap H locs) (hl : lv_has ls 2 [(0, .ref (ad 0)), (1, .int x1)]) : W p l e rmX12_days_0 s m args below meth c H locs 0 0 (MQ below (Qi D (VM cy ad st) (AM ad) s.heap.size r u') args s 0 0 (Ax (AM ad) s.heap.size)) (F0 m 0 ls []) := by
  unfold fX12_days_0 at h
  refine lv_aload_n C.1 C.2.1 dX12_days_0 rfl (lv_at hl 0 rfl) ?_
  refine lv_iconst (v := 0) C.1 C.2.1 dX12_days_1 (by decide) ?_
  refine pM_0_thrown C hX12_days_0_X12 hK hP hJ hS mX12_days_0_1 dX12_days_2 (fun H locs hP hS => ?_)
  obtain ⟨u1, hu2, h⟩ := lt_some h
  rw [← hu2] at hP
  refine lv_iload_n C.1 C.2.1 dX12_days_5 rfl (lv_at hl 1 rfl) ?_
  refine lv_iconst (v := 0) C.1 C.2.1 dX12_days_6 (by decide) ?_
  refine lv_bipush (v := 60) C.1 C.2.1 dX12_days_7 (by decide) ?_
  obtain ⟨r3, hc5, h⟩ := bd_some h
  refine cs_i (As := [.int x1, .int 0, .int 60]) (rest := []) C hK hP hS (metX12_isIn l D cy st _ x1 0 60 hc5) (va_cwS 3 C.2.2.2.2.2.1 gX12_days_X12_isIn rfl rfl rfl (by decide +kernel) ⟨(Nat.le_of_ble_eq_true rfl), (Nat.le_of_ble_eq_true rfl)⟩) rfl hl.1 rfl (Nat.le_of_ble_eq_true rfl) dX12_days_9 ⟨Nat.zero_le _, Nat.zero_le _⟩ (fun H locs hP hS => ?_)
  refine lv_if_eq (tgt := 26) C.1 C.2.1 dX12_days_12 (by decide) (fun c12 => ?_) (fun c12 => ?_)
  · rw [if_pos c12] at h
    refine lv_iconst (v := (-1)) C.1 C.2.1 dX12_days_26 (by decide) ?_
    cases h
    exact rt_i C hP hS dX12_days_27
  · rw [if_neg c12] at h
    refine lv_aload_n C.1 C.2.1 dX12_days_15 rfl (lv_at hl 0 rfl) ?_
    refine gM_0_now C hX12_days_0_X12 hK hP mX12_days_0_2 dX12_days_16 ?_
    refine lv_iload_n C.1 C.2.1 dX12_days_19 rfl (lv_at hl 1 rfl) ?_
    refine lv_iadd C.1 C.2.1 dX12_days_20 ?_
    refine lv_bipush (v := 120) C.1 C.2.1 dX12_days_21 (by decide) ?_
    refine lv_icmp_le (tgt := 28) C.1 C.2.1 dX12_days_23 (by decide) (fun c23 => ?_) (fun c23 => ?_)
    · rw [if_pos c23] at h
      refine lv_aload_n C.1 C.2.1 dX12_days_28 rfl (lv_at hl 0 rfl) ?_
      refine lv_dup C.1 C.2.1 dX12_days_29 rfl ?_
      refine gM_0_now C hX12_days_0_X12 hK hP mX12_days_0_2 dX12_days_30 ?_
      refine lv_iload_n C.1 C.2.1 dX12_days_33 rfl (lv_at hl 1 rfl) ?_
      refine lv_iadd C.1 C.2.1 dX12_days_34 ?_
      refine pM_0_now C hX12_days_0_X12 hK hP hJ hS mX12_days_0_2 dX12_days_35 (fun H locs hP hS => ?_)
      obtain ⟨u6, hu7, h⟩ := lt_some h
      rw [← hu7] at hP
      refine lv_aload_n C.1 C.2.1 dX12_days_38 rfl (lv_at hl 0 rfl) ?_
      refine gM_0_now C hX12_days_0_X12 hK hP mX12_days_0_2 dX12_days_39 ?_
      cases h
      exact rt_i C hP hS dX12_days_42
    · rw [if_neg c23] at h
      refine lv_iconst (v := (-1)) C.1 C.2.1 dX12_days_26 (by decide) ?_
      cases h
      exact rt_i C hP hS dX12_days_27
theorem metX12_days_0 (l : Launch) (D : va_G) (cy : Nat → ClassId) (ad st : Nat → Nat) (hJ : JM ad) (sz : Nat) (x1 : Int32) {u : SX} {r : Int32} {u' : SX} (h : fX12_days_0 x1 u = some (r, u')) : Met l yX12_days wsX12_days rmX12_days_0 (va_Pc [.ref (ad 0), .int x1] (Px D [(cy 0, .int), (cy 1, .long), (cy 2, .boolean), (cy 3, .byte), (cy 4, .object "HissHorn$Text")] st (VM cy ad st) sz u)) (Qi D (VM cy ad st) (AM ad) sz r u') 0 0 (Ax (AM ad) sz) := by
  refine Met.ofW (cc := cX12_days) (maxL := 2) (ret := (some .int)) (by decide) rfl ?_
  intro p e s m args below meth c s₁ B hml hv
  obtain ⟨rfl, hsz, hP, hK⟩ := hv
  subst hsz
  have C : Cx RX12 cX12_days 2 (some .int) wsX12_days p s m _ meth c := ⟨B.exec, B.bytes, hml, B.returns, findClass_of_methodNamed B.named, atoms_spec (ws := wsX12_days) B.pre, B.notSynchronized⟩
  have hl := lv_entry ([.ref (ad 0), .int x1]) (n := 2) (Nat.le_of_ble_eq_true rfl)
  rw [lg_entry_eq]
  exact wX12_days_0 C hK hJ x1 h hP va_S.rf hl

theorem dX12_season_0 : decode cX12_season 0 = .ok (.iload_n 0, 1) := by decide +kernel
theorem dX12_season_1 : decode cX12_season 1 = .ok (.bipush 30, 2) := by decide +kernel
theorem dX12_season_3 : decode cX12_season 3 = .ok (.idiv, 1) := by decide +kernel
theorem dX12_season_4 : decode cX12_season 4 = .ok (.iconst 4, 1) := by decide +kernel
theorem dX12_season_5 : decode cX12_season 5 = .ok (.irem, 1) := by decide +kernel
theorem dX12_season_6 : decode cX12_season 6 = .ok (.ireturn, 1) := by decide +kernel
/-- HissHornModel.season(I)I -/
def rmX12_season : Room := { frames := 0, cells := 0, slots := 0, locals := 0 }
def fX12_season (x0 : Int32) : Option Int32 := (gd (nz 30) (gd (nz 4) (some ((x0 / 30) - (x0 / 30) / 4 * 4))))
set_option maxHeartbeats 4000000 in
set_option maxRecDepth 100000 in
theorem wX12_season {p : Program} {l : Launch} {e : Env} {s : State} {m : MethodId} {args : Array Value} {below : List Frame} {meth : Method} {c : Code} {D : va_G} {cy : Nat → ClassId} {st : Nat → Nat} (C : Cx RX12 cX12_season 1 (some .int) wsX12_season p s m args meth c) (hK : Kx D [(cy 0, .int), (cy 1, .long), (cy 2, .boolean), (cy 3, .byte), (cy 4, .object "HissHorn$Text")] st s) (x0 : Int32) {r : Int32} {H : Heap} {locs : List Loc} {ls : Array Slot} (h : fX12_season x0 = some r) (hP : va_P D vwCl (V0 u00) H) (hS : va_S (Ax (A0) s.heap.size) s.heap H locs) (hl : lv_has ls 1 [(0, .int x0)]) : W p l e rmX12_season s m args below meth c H locs 0 0 (MQ below (Qi D (V0) (A0) s.heap.size r u00) args s 0 0 (Ax (A0) s.heap.size)) (F0 m 0 ls []) := by
  unfold fX12_season at h
  refine lv_iload_n C.1 C.2.1 dX12_season_0 rfl (lv_at hl 0 rfl) ?_
  refine lv_bipush (v := 30) C.1 C.2.1 dX12_season_1 (by decide) ?_
  obtain ⟨hg1, h⟩ := gd_some h
  refine lv_idiv C.1 C.2.1 dX12_season_3 (nz_n hg1) ?_
  refine lv_iconst (v := 4) C.1 C.2.1 dX12_season_4 (by decide) ?_
  obtain ⟨hg2, h⟩ := gd_some h
  refine lv_irem C.1 C.2.1 dX12_season_5 (nz_n hg2) ?_
  cases h
  exact rt_i C hP hS dX12_season_6
theorem metX12_season (l : Launch) (D : va_G) (cy : Nat → ClassId) (st : Nat → Nat) (sz : Nat) (x0 : Int32) {r : Int32} (h : fX12_season x0 = some r) : Met l yX12_season wsX12_season rmX12_season (va_Pc [.int x0] (Px D [(cy 0, .int), (cy 1, .long), (cy 2, .boolean), (cy 3, .byte), (cy 4, .object "HissHorn$Text")] st V0 sz u00)) (Qi D V0 A0 sz r u00) 0 0 (Ax A0 sz) := by
  refine Met.ofW (cc := cX12_season) (maxL := 1) (ret := (some .int)) (by decide) rfl ?_
  intro p e s m args below meth c s₁ B hml hv
  obtain ⟨rfl, hsz, hP, hK⟩ := hv
  subst hsz
  have C : Cx RX12 cX12_season 1 (some .int) wsX12_season p s m _ meth c := ⟨B.exec, B.bytes, hml, B.returns, findClass_of_methodNamed B.named, atoms_spec (ws := wsX12_season) B.pre, B.notSynchronized⟩
  have hl := lv_entry ([.int x0]) (n := 1) (Nat.le_of_ble_eq_true rfl)
  rw [lg_entry_eq]
  exact wX12_season C hK x0 h hP va_S.rf hl

theorem dX12_bytesIn_25 : decode cX12_bytesIn 25 = .ok (.iadd, 1) := by decide +kernel
theorem dX12_bytesIn_26 : decode cX12_bytesIn 26 = .ok (.istore_n 1, 1) := by decide +kernel
theorem dX12_bytesIn_27 : decode cX12_bytesIn 27 = .ok (.iinc 2 (-8), 3) := by decide +kernel
theorem dX12_bytesIn_30 : decode cX12_bytesIn 30 = .ok (.goto (-25), 3) := by decide +kernel
theorem dX12_bytesIn_5 : decode cX12_bytesIn 5 = .ok (.iload_n 2, 1) := by decide +kernel
theorem dX12_bytesIn_6 : decode cX12_bytesIn 6 = .ok (.ifCond .lt 27, 3) := by decide +kernel
theorem dX12_bytesIn_33 : decode cX12_bytesIn 33 = .ok (.iload_n 1, 1) := by decide +kernel
theorem dX12_bytesIn_34 : decode cX12_bytesIn 34 = .ok (.ireturn, 1) := by decide +kernel
theorem dX12_bytesIn_9 : decode cX12_bytesIn 9 = .ok (.iload_n 1, 1) := by decide +kernel
theorem dX12_bytesIn_10 : decode cX12_bytesIn 10 = .ok (.iload_n 0, 1) := by decide +kernel
theorem dX12_bytesIn_11 : decode cX12_bytesIn 11 = .ok (.iload_n 2, 1) := by decide +kernel
theorem dX12_bytesIn_12 : decode cX12_bytesIn 12 = .ok (.ishr, 1) := by decide +kernel
theorem dX12_bytesIn_13 : decode cX12_bytesIn 13 = .ok (.sipush 255, 3) := by decide +kernel
theorem dX12_bytesIn_16 : decode cX12_bytesIn 16 = .ok (.iand, 1) := by decide +kernel
theorem dX12_bytesIn_17 : decode cX12_bytesIn 17 = .ok (.ifCond .eq 7, 3) := by decide +kernel
theorem dX12_bytesIn_24 : decode cX12_bytesIn 24 = .ok (.iconst 0, 1) := by decide +kernel
theorem dX12_bytesIn_20 : decode cX12_bytesIn 20 = .ok (.iconst 1, 1) := by decide +kernel
theorem dX12_bytesIn_21 : decode cX12_bytesIn 21 = .ok (.goto 4, 3) := by decide +kernel
theorem dX12_bytesIn_0 : decode cX12_bytesIn 0 = .ok (.iconst 0, 1) := by decide +kernel
theorem dX12_bytesIn_1 : decode cX12_bytesIn 1 = .ok (.istore_n 1, 1) := by decide +kernel
theorem dX12_bytesIn_2 : decode cX12_bytesIn 2 = .ok (.bipush 24, 2) := by decide +kernel
theorem dX12_bytesIn_4 : decode cX12_bytesIn 4 = .ok (.istore_n 2, 1) := by decide +kernel
/-- HissHornModel.bytesIn(I)I -/
def rmX12_bytesIn : Room := { frames := 0, cells := 0, slots := 0, locals := 0 }
def GX12_bytesIn_25 (k5 : Int32 → Int32 → Int32 → Option Int32) (z0 : Int32) (z2 : Int32) (y0 : Int32) (y1 : Int32) : Option Int32 := (lt (y1 + y0) fun v1 => (k5 z0 v1 (z2 + (-8))))
def LX12_bytesIn_5  : Nat → Int32 → Int32 → Int32 → Option Int32
  | 0, _, _, _ => none
  | n + 1, z0, z1, z2 => (if z2 < 0 then (some z1) else (if ((z0 >>> (z2 &&& 31)) &&& 255) = 0 then (GX12_bytesIn_25 (LX12_bytesIn_5 n) z0 z2 0 z1) else (GX12_bytesIn_25 (LX12_bytesIn_5 n) z0 z2 1 z1)))
def fX12_bytesIn (x0 : Int32) : Option Int32 := (LX12_bytesIn_5  5000 x0 0 24)
set_option maxHeartbeats 4000000 in
set_option maxRecDepth 100000 in
theorem wGX12_bytesIn_25 {p : Program} {l : Launch} {e : Env} {s : State} {m : MethodId} {args : Array Value} {below : List Frame} {meth : Method} {c : Code} {D : va_G} {cy : Nat → ClassId} {st : Nat → Nat} (C : Cx RX12 cX12_bytesIn 3 (some .int) wsX12_bytesIn p s m args meth c) (hK : Kx D [(cy 0, .int), (cy 1, .long), (cy 2, .boolean), (cy 3, .byte), (cy 4, .object "HissHorn$Text")] st s) {r : Int32} {k5 : Int32 → Int32 → Int32 → Option Int32} (hk5 : ∀ (z0 : Int32) (z1 : Int32) (z2 : Int32) (H : Heap) (locs : List Loc) (ls : Array Slot), k5 z0 z1 z2 = some r → va_P D vwCl (V0 u00) H → va_S (Ax (A0) s.heap.size) s.heap H locs → lv_has ls 3 [(0, .int z0), (1, .int z1), (2, .int z2)] → W p l e rmX12_bytesIn s m args below meth c H locs 0 0 (MQ below (Qi D (V0) (A0) s.heap.size r u00) args s 0 0 (Ax (A0) s.heap.size)) (F0 m 5 ls [])) (z0 : Int32) (z2 : Int32) (y0 : Int32) (y1 : Int32) (H : Heap) (locs : List Loc) (ls : Array Slot) (h : GX12_bytesIn_25 k5 z0 z2 y0 y1 = some r) (hP : va_P D vwCl (V0 u00) H) (hS : va_S (Ax (A0) s.heap.size) s.heap H locs) (hl : lv_has ls 3 [(0, .int z0), (2, .int z2)]) : W p l e rmX12_bytesIn s m args below meth c H locs 0 0 (MQ below (Qi D (V0) (A0) s.heap.size r u00) args s 0 0 (Ax (A0) s.heap.size)) (F0 m 25 ls [.int y0, .int y1]) := by
  unfold GX12_bytesIn_25 at h
  refine lv_iadd C.1 C.2.1 dX12_bytesIn_25 ?_
  refine lv_topi (fun v1 hv2 => ?_)
  replace h := lt_e hv2 h
  try dsimp only at h
  refine lv_istore_n (lv' := [(1, .int v1), (0, .int z0), (2, .int z2)]) C.1 C.2.1 dX12_bytesIn_26 rfl hl (by decide) rfl (fun ls hl => ?_)
  replace hl := lv_sub (l' := [(0, .int z0), (1, .int v1), (2, .int z2)]) hl [1, 0, 2] rfl
  refine lv_iinc (v := z2 + (-8)) (lv' := [(2, .int (z2 + (-8))), (0, .int z0), (1, .int v1)]) C.1 C.2.1 dX12_bytesIn_27 hl (k := 2) rfl rfl (by decide) rfl (fun ls hl => ?_)
  replace hl := lv_sub (l' := [(0, .int z0), (1, .int v1), (2, .int (z2 + (-8)))]) hl [1, 2, 0] rfl
  refine lv_goto (tgt := 5) C.1 C.2.1 dX12_bytesIn_30 (by decide) ?_
  exact hk5 _ _ _ _ _ _ h hP hS hl
set_option maxHeartbeats 4000000 in
set_option maxRecDepth 100000 in
theorem wLX12_bytesIn_5 {p : Program} {l : Launch} {e : Env} {s : State} {m : MethodId} {args : Array Value} {below : List Frame} {meth : Method} {c : Code} {D : va_G} {cy : Nat → ClassId} {st : Nat → Nat} (C : Cx RX12 cX12_bytesIn 3 (some .int) wsX12_bytesIn p s m args meth c) (hK : Kx D [(cy 0, .int), (cy 1, .long), (cy 2, .boolean), (cy 3, .byte), (cy 4, .object "HissHorn$Text")] st s) {r : Int32}   : ∀ (n : Nat) (z0 : Int32) (z1 : Int32) (z2 : Int32) (H : Heap) (locs : List Loc) (ls : Array Slot), LX12_bytesIn_5  n z0 z1 z2 = some r → va_P D vwCl (V0 u00) H → va_S (Ax (A0) s.heap.size) s.heap H locs → lv_has ls 3 [(0, .int z0), (1, .int z1), (2, .int z2)] → W p l e rmX12_bytesIn s m args below meth c H locs 0 0 (MQ below (Qi D (V0) (A0) s.heap.size r u00) args s 0 0 (Ax (A0) s.heap.size)) (F0 m 5 ls []) := by
  intro n
  induction n with
  | zero =>
    intro z0 z1 z2 H locs ls h
    exact absurd h (by intro q; cases q)
  | succ n ih =>
    intro z0 z1 z2 H locs ls h hP hS hl
    rw [LX12_bytesIn_5] at h
    refine lv_iload_n C.1 C.2.1 dX12_bytesIn_5 rfl (lv_at hl 2 rfl) ?_
    refine lv_if_lt (tgt := 33) C.1 C.2.1 dX12_bytesIn_6 (by decide) (fun c6 => ?_) (fun c6 => ?_)
    · rw [if_pos c6] at h
      refine lv_iload_n C.1 C.2.1 dX12_bytesIn_33 rfl (lv_at hl 1 rfl) ?_
      cases h
      exact rt_i C hP hS dX12_bytesIn_34
    · rw [if_neg c6] at h
      refine lv_iload_n C.1 C.2.1 dX12_bytesIn_9 rfl (lv_at hl 1 rfl) ?_
      refine lv_iload_n C.1 C.2.1 dX12_bytesIn_10 rfl (lv_at hl 0 rfl) ?_
      refine lv_iload_n C.1 C.2.1 dX12_bytesIn_11 rfl (lv_at hl 2 rfl) ?_
      refine lv_ishr C.1 C.2.1 dX12_bytesIn_12 ?_
      refine lv_sipush (v := 255) C.1 C.2.1 dX12_bytesIn_13 (by decide) ?_
      refine lv_iand C.1 C.2.1 dX12_bytesIn_16 ?_
      refine lv_if_eq (tgt := 24) C.1 C.2.1 dX12_bytesIn_17 (by decide) (fun c17 => ?_) (fun c17 => ?_)
      · rw [if_pos c17] at h
        refine lv_iconst (v := 0) C.1 C.2.1 dX12_bytesIn_24 (by decide) ?_
        exact wGX12_bytesIn_25 C hK ih _ _ _ _ _ _ _ h hP hS (lv_sub hl [0, 2] rfl)
      · rw [if_neg c17] at h
        refine lv_iconst (v := 1) C.1 C.2.1 dX12_bytesIn_20 (by decide) ?_
        refine lv_goto (tgt := 25) C.1 C.2.1 dX12_bytesIn_21 (by decide) ?_
        exact wGX12_bytesIn_25 C hK ih _ _ _ _ _ _ _ h hP hS (lv_sub hl [0, 2] rfl)
set_option maxHeartbeats 4000000 in
set_option maxRecDepth 100000 in
theorem wX12_bytesIn {p : Program} {l : Launch} {e : Env} {s : State} {m : MethodId} {args : Array Value} {below : List Frame} {meth : Method} {c : Code} {D : va_G} {cy : Nat → ClassId} {st : Nat → Nat} (C : Cx RX12 cX12_bytesIn 3 (some .int) wsX12_bytesIn p s m args meth c) (hK : Kx D [(cy 0, .int), (cy 1, .long), (cy 2, .boolean), (cy 3, .byte), (cy 4, .object "HissHorn$Text")] st s) (x0 : Int32) {r : Int32} {H : Heap} {locs : List Loc} {ls : Array Slot} (h : fX12_bytesIn x0 = some r) (hP : va_P D vwCl (V0 u00) H) (hS : va_S (Ax (A0) s.heap.size) s.heap H locs) (hl : lv_has ls 3 [(0, .int x0)]) : W p l e rmX12_bytesIn s m args below meth c H locs 0 0 (MQ below (Qi D (V0) (A0) s.heap.size r u00) args s 0 0 (Ax (A0) s.heap.size)) (F0 m 0 ls []) := by
  unfold fX12_bytesIn at h
  refine lv_iconst (v := 0) C.1 C.2.1 dX12_bytesIn_0 (by decide) ?_
  refine lv_istore_n (lv' := [(1, .int 0), (0, .int x0)]) C.1 C.2.1 dX12_bytesIn_1 rfl hl (by decide) rfl (fun ls hl => ?_)
  replace hl := lv_sub (l' := [(0, .int x0), (1, .int 0)]) hl [1, 0] rfl
  refine lv_bipush (v := 24) C.1 C.2.1 dX12_bytesIn_2 (by decide) ?_
  refine lv_istore_n (lv' := [(2, .int 24), (0, .int x0), (1, .int 0)]) C.1 C.2.1 dX12_bytesIn_4 rfl hl (by decide) rfl (fun ls hl => ?_)
  replace hl := lv_sub (l' := [(0, .int x0), (1, .int 0), (2, .int 24)]) hl [1, 2, 0] rfl
  exact wLX12_bytesIn_5 C hK  5000 _ _ _ _ _ _ h hP hS hl
theorem metX12_bytesIn (l : Launch) (D : va_G) (cy : Nat → ClassId) (st : Nat → Nat) (sz : Nat) (x0 : Int32) {r : Int32} (h : fX12_bytesIn x0 = some r) : Met l yX12_bytesIn wsX12_bytesIn rmX12_bytesIn (va_Pc [.int x0] (Px D [(cy 0, .int), (cy 1, .long), (cy 2, .boolean), (cy 3, .byte), (cy 4, .object "HissHorn$Text")] st V0 sz u00)) (Qi D V0 A0 sz r u00) 0 0 (Ax A0 sz) := by
  refine Met.ofW (cc := cX12_bytesIn) (maxL := 3) (ret := (some .int)) (by decide) rfl ?_
  intro p e s m args below meth c s₁ B hml hv
  obtain ⟨rfl, hsz, hP, hK⟩ := hv
  subst hsz
  have C : Cx RX12 cX12_bytesIn 3 (some .int) wsX12_bytesIn p s m _ meth c := ⟨B.exec, B.bytes, hml, B.returns, findClass_of_methodNamed B.named, atoms_spec (ws := wsX12_bytesIn) B.pre, B.notSynchronized⟩
  have hl := lv_entry ([.int x0]) (n := 3) (Nat.le_of_ble_eq_true rfl)
  rw [lg_entry_eq]
  exact wX12_bytesIn C hK x0 h hP va_S.rf hl

theorem dX12_put_43 : decode cX12_put 43 = .ok (.iinc 2 (-8), 3) := by decide +kernel
theorem dX12_put_46 : decode cX12_put 46 = .ok (.goto (-43), 3) := by decide +kernel
theorem dX12_put_3 : decode cX12_put 3 = .ok (.iload_n 2, 1) := by decide +kernel
theorem dX12_put_4 : decode cX12_put 4 = .ok (.ifCond .lt 45, 3) := by decide +kernel
theorem dX12_put_49 : decode cX12_put 49 = .ok (.return_, 1) := by decide +kernel
theorem dX12_put_7 : decode cX12_put 7 = .ok (.iload_n 1, 1) := by decide +kernel
theorem dX12_put_8 : decode cX12_put 8 = .ok (.iload_n 2, 1) := by decide +kernel
theorem dX12_put_9 : decode cX12_put 9 = .ok (.ishr, 1) := by decide +kernel
theorem dX12_put_10 : decode cX12_put 10 = .ok (.sipush 255, 3) := by decide +kernel
theorem dX12_put_13 : decode cX12_put 13 = .ok (.iand, 1) := by decide +kernel
theorem dX12_put_14 : decode cX12_put 14 = .ok (.ifCond .ne 6, 3) := by decide +kernel
theorem dX12_put_20 : decode cX12_put 20 = .ok (.aload_n 0, 1) := by decide +kernel
theorem dX12_put_21 : decode cX12_put 21 = .ok (.getfield 9, 3) := by decide +kernel
theorem dX12_put_24 : decode cX12_put 24 = .ok (.aload_n 0, 1) := by decide +kernel
theorem dX12_put_25 : decode cX12_put 25 = .ok (.getfield 162, 3) := by decide +kernel
theorem dX12_put_28 : decode cX12_put 28 = .ok (.iload_n 1, 1) := by decide +kernel
theorem dX12_put_29 : decode cX12_put 29 = .ok (.iload_n 2, 1) := by decide +kernel
theorem dX12_put_30 : decode cX12_put 30 = .ok (.ishr, 1) := by decide +kernel
theorem dX12_put_31 : decode cX12_put 31 = .ok (.i2b, 1) := by decide +kernel
theorem dX12_put_32 : decode cX12_put 32 = .ok (.bastore, 1) := by decide +kernel
theorem dX12_put_33 : decode cX12_put 33 = .ok (.aload_n 0, 1) := by decide +kernel
theorem dX12_put_34 : decode cX12_put 34 = .ok (.dup, 1) := by decide +kernel
theorem dX12_put_35 : decode cX12_put 35 = .ok (.getfield 162, 3) := by decide +kernel
theorem dX12_put_38 : decode cX12_put 38 = .ok (.iconst 1, 1) := by decide +kernel
theorem dX12_put_39 : decode cX12_put 39 = .ok (.iadd, 1) := by decide +kernel
theorem dX12_put_40 : decode cX12_put 40 = .ok (.putfield 162, 3) := by decide +kernel
theorem dX12_put_17 : decode cX12_put 17 = .ok (.goto 26, 3) := by decide +kernel
theorem dX12_put_0 : decode cX12_put 0 = .ok (.bipush 24, 2) := by decide +kernel
theorem dX12_put_2 : decode cX12_put 2 = .ok (.istore_n 2, 1) := by decide +kernel
/-- HissHornModel.put(I)V of cell 0 -/
def rmX12_put_0 : Room := { frames := 0, cells := 0, slots := 0, locals := 0 }
theorem hX12_put_0_X12 : ∀ w ∈ u_ws RX12 TX12 69, w ∈ wsX12_put := fun w h => (List.mem_cons_of_mem _ (List.mem_append_right _ h))
theorem mX12_put_0_1 : Cond.fieldLink RX12 9 "HissHornModel" "tape" "[B" ∈ wsX12_put := (List.mem_cons_of_mem _ (List.mem_append_left _ (List.mem_of_getElem? (i := 0) rfl)))
theorem mX12_put_0_2 : Cond.fieldLink RX12 162 "HissHornModel" "length" "I" ∈ wsX12_put := (List.mem_cons_of_mem _ (List.mem_append_left _ (List.mem_of_getElem? (i := 1) rfl)))
def GX12_put_0_43 (k3 : Int32 → Int32 → SX → Option (Int32 × SX)) (z1 : Int32) (z2 : Int32) (u : SX) : Option (Int32 × SX) := (k3 z1 (z2 + (-8)) u)
def LX12_put_0_3  : Nat → Int32 → Int32 → SX → Option (Int32 × SX)
  | 0, _, _, _ => none
  | n + 1, z1, z2, u => (if z2 < 0 then (some (0, u)) else (if ((z1 >>> (z2 &&& 31)) &&& 255) = 0 then (GX12_put_0_43 (LX12_put_0_3 n) z1 z2 u) else (gd (inb (u.1 3) 120) (lt (sA u 1 (upd (u.2.1 1) (u.1 3).toNatClampNeg (vp_nar .byte ((z1 >>> (z2 &&& 31)).toInt8.toInt32)))) fun u2 => (lt (sI u2 3 ((u2.1 3) + 1)) fun u4 => (GX12_put_0_43 (LX12_put_0_3 n) z1 z2 u4))))))
def fX12_put_0 (x1 : Int32) (u : SX) : Option (Int32 × SX) := (LX12_put_0_3  5000 x1 24 u)
set_option maxHeartbeats 4000000 in
set_option maxRecDepth 100000 in
theorem wGX12_put_0_43 {p : Program} {l : Launch} {e : Env} {s : State} {m : MethodId} {args : Array Value} {below : List Frame} {meth : Method} {c : Code} {D : va_G} {cy : Nat → ClassId} {ad st : Nat → Nat} (C : Cx RX12 cX12_put 3 none wsX12_put p s m args meth c) (hK : Kx D [(cy 0, .int), (cy 1, .long), (cy 2, .boolean), (cy 3, .byte), (cy 4, .object "HissHorn$Text")] st s) (hJ : JM ad) {r : Int32} {u' : SX} {k3 : Int32 → Int32 → SX → Option (Int32 × SX)} (hk3 : ∀ (z1 : Int32) (z2 : Int32) (u : SX) (H : Heap) (locs : List Loc) (ls : Array Slot), k3 z1 z2 u = some (r, u') → va_P D vwCl (VM cy ad st u) H → va_S (Ax (AM ad) s.heap.size) s.heap H locs → lv_has ls 3 [(0, .ref (ad 0)), (1, .int z1), (2, .int z2)] → W p l e rmX12_put_0 s m args below meth c H locs 0 0 (MQ below (Qv D (VM cy ad st) (AM ad) s.heap.size r u') args s 0 0 (Ax (AM ad) s.heap.size)) (F0 m 3 ls [])) (z1 : Int32) (z2 : Int32) (u : SX) (H : Heap) (locs : List Loc) (ls : Array Slot) (h : GX12_put_0_43 k3 z1 z2 u = some (r, u')) (hP : va_P D vwCl (VM cy ad st u) H) (hS : va_S (Ax (AM ad) s.heap.size) s.heap H locs) (hl : lv_has ls 3 [(0, .ref (ad 0)), (1, .int z1), (2, .int z2)]) : W p l e rmX12_put_0 s m args below meth c H locs 0 0 (MQ below (Qv D (VM cy ad st) (AM ad) s.heap.size r u') args s 0 0 (Ax (AM ad) s.heap.size)) (F0 m 43 ls []) := by
  unfold GX12_put_0_43 at h
  refine lv_iinc (v := z2 + (-8)) (lv' := [(2, .int (z2 + (-8))), (0, .ref (ad 0)), (1, .int z1)]) C.1 C.2.1 dX12_put_43 hl (k := 2) rfl rfl (by decide) rfl (fun ls hl => ?_)
  replace hl := lv_sub (l' := [(0, .ref (ad 0)), (1, .int z1), (2, .int (z2 + (-8)))]) hl [1, 2, 0] rfl
  refine lv_goto (tgt := 3) C.1 C.2.1 dX12_put_46 (by decide) ?_
  exact hk3 _ _ _ _ _ _ h hP hS hl
set_option maxHeartbeats 4000000 in
set_option maxRecDepth 100000 in
theorem wLX12_put_0_3 {p : Program} {l : Launch} {e : Env} {s : State} {m : MethodId} {args : Array Value} {below : List Frame} {meth : Method} {c : Code} {D : va_G} {cy : Nat → ClassId} {ad st : Nat → Nat} (C : Cx RX12 cX12_put 3 none wsX12_put p s m args meth c) (hK : Kx D [(cy 0, .int), (cy 1, .long), (cy 2, .boolean), (cy 3, .byte), (cy 4, .object "HissHorn$Text")] st s) (hJ : JM ad) {r : Int32} {u' : SX}   : ∀ (n : Nat) (z1 : Int32) (z2 : Int32) (u : SX) (H : Heap) (locs : List Loc) (ls : Array Slot), LX12_put_0_3  n z1 z2 u = some (r, u') → va_P D vwCl (VM cy ad st u) H → va_S (Ax (AM ad) s.heap.size) s.heap H locs → lv_has ls 3 [(0, .ref (ad 0)), (1, .int z1), (2, .int z2)] → W p l e rmX12_put_0 s m args below meth c H locs 0 0 (MQ below (Qv D (VM cy ad st) (AM ad) s.heap.size r u') args s 0 0 (Ax (AM ad) s.heap.size)) (F0 m 3 ls []) := by
  intro n
  induction n with
  | zero =>
    intro z1 z2 u H locs ls h
    exact absurd h (by intro q; cases q)
  | succ n ih =>
    intro z1 z2 u H locs ls h hP hS hl
    rw [LX12_put_0_3] at h
    refine lv_iload_n C.1 C.2.1 dX12_put_3 rfl (lv_at hl 2 rfl) ?_
    refine lv_if_lt (tgt := 49) C.1 C.2.1 dX12_put_4 (by decide) (fun c4 => ?_) (fun c4 => ?_)
    · rw [if_pos c4] at h
      cases h
      exact rt_v C hP hS dX12_put_49
    · rw [if_neg c4] at h
      refine lv_iload_n C.1 C.2.1 dX12_put_7 rfl (lv_at hl 1 rfl) ?_
      refine lv_iload_n C.1 C.2.1 dX12_put_8 rfl (lv_at hl 2 rfl) ?_
      refine lv_ishr C.1 C.2.1 dX12_put_9 ?_
      refine lv_sipush (v := 255) C.1 C.2.1 dX12_put_10 (by decide) ?_
      refine lv_iand C.1 C.2.1 dX12_put_13 ?_
      refine lv_if_ne (tgt := 20) C.1 C.2.1 dX12_put_14 (by decide) (fun c14 => ?_) (fun c14 => ?_)
      · rw [if_neg c14] at h
        refine lv_aload_n C.1 C.2.1 dX12_put_20 rfl (lv_at hl 0 rfl) ?_
        refine gM_0_tape C hX12_put_0_X12 hK hP mX12_put_0_1 dX12_put_21 ?_
        refine lv_aload_n C.1 C.2.1 dX12_put_24 rfl (lv_at hl 0 rfl) ?_
        refine gM_0_length C hX12_put_0_X12 hK hP mX12_put_0_2 dX12_put_25 ?_
        refine lv_iload_n C.1 C.2.1 dX12_put_28 rfl (lv_at hl 1 rfl) ?_
        refine lv_iload_n C.1 C.2.1 dX12_put_29 rfl (lv_at hl 2 rfl) ?_
        refine lv_ishr C.1 C.2.1 dX12_put_30 ?_
        refine lv_i2b (v := (z1 >>> (z2 &&& 31)).toInt8.toInt32) C.1 C.2.1 dX12_put_31 rfl ?_
        obtain ⟨hg1, h⟩ := gd_some h
        refine tM_1 C hK hP hJ hS hg1 dX12_put_32 (fun H locs hP hS => ?_)
        obtain ⟨u2, hu3, h⟩ := lt_some h
        rw [← hu3] at hP
        refine lv_aload_n C.1 C.2.1 dX12_put_33 rfl (lv_at hl 0 rfl) ?_
        refine lv_dup C.1 C.2.1 dX12_put_34 rfl ?_
        refine gM_0_length C hX12_put_0_X12 hK hP mX12_put_0_2 dX12_put_35 ?_
        refine lv_iconst (v := 1) C.1 C.2.1 dX12_put_38 (by decide) ?_
        refine lv_iadd C.1 C.2.1 dX12_put_39 ?_
        refine pM_0_length C hX12_put_0_X12 hK hP hJ hS mX12_put_0_2 dX12_put_40 (fun H locs hP hS => ?_)
        obtain ⟨u4, hu5, h⟩ := lt_some h
        rw [← hu5] at hP
        exact wGX12_put_0_43 C hK hJ ih _ _ _ _ _ _ h hP hS hl
      · rw [if_pos c14] at h
        refine lv_goto (tgt := 43) C.1 C.2.1 dX12_put_17 (by decide) ?_
        exact wGX12_put_0_43 C hK hJ ih _ _ _ _ _ _ h hP hS hl
set_option maxHeartbeats 4000000 in
set_option maxRecDepth 100000 in
theorem wX12_put_0 {p : Program} {l : Launch} {e : Env} {s : State} {m : MethodId} {args : Array Value} {below : List Frame} {meth : Method} {c : Code} {D : va_G} {cy : Nat → ClassId} {ad st : Nat → Nat} (C : Cx RX12 cX12_put 3 none wsX12_put p s m args meth c) (hK : Kx D [(cy 0, .int), (cy 1, .long), (cy 2, .boolean), (cy 3, .byte), (cy 4, .object "HissHorn$Text")] st s) (hJ : JM ad) (x1 : Int32) {u : SX} {r : Int32} {u' : SX} {H : Heap} {locs : List Loc} {ls : Array Slot} (h : fX12_put_0 x1 u = some (r, u')) (hP : va_P D vwCl (VM cy ad st u) H) (hS : va_S (Ax (AM ad) s.heap.size) s.heap H locs) (hl : lv_has ls 3 [(0, .ref (ad 0)), (1, .int x1)]) : W p l e rmX12_put_0 s m args below meth c H locs 0 0 (MQ below (Qv D (VM cy ad st) (AM ad) s.heap.size r u') args s 0 0 (Ax (AM ad) s.heap.size)) (F0 m 0 ls []) := by
  unfold fX12_put_0 at h
  refine lv_bipush (v := 24) C.1 C.2.1 dX12_put_0 (by decide) ?_
  refine lv_istore_n (lv' := [(2, .int 24), (0, .ref (ad 0)), (1, .int x1)]) C.1 C.2.1 dX12_put_2 rfl hl (by decide) rfl (fun ls hl => ?_)
  replace hl := lv_sub (l' := [(0, .ref (ad 0)), (1, .int x1), (2, .int 24)]) hl [1, 2, 0] rfl
  exact wLX12_put_0_3 C hK hJ  5000 _ _ _ _ _ _ h hP hS hl
theorem metX12_put_0 (l : Launch) (D : va_G) (cy : Nat → ClassId) (ad st : Nat → Nat) (hJ : JM ad) (sz : Nat) (x1 : Int32) {u : SX} {r : Int32} {u' : SX} (h : fX12_put_0 x1 u = some (r, u')) : Met l yX12_put wsX12_put rmX12_put_0 (va_Pc [.ref (ad 0), .int x1] (Px D [(cy 0, .int), (cy 1, .long), (cy 2, .boolean), (cy 3, .byte), (cy 4, .object "HissHorn$Text")] st (VM cy ad st) sz u)) (Qv D (VM cy ad st) (AM ad) sz r u') 0 0 (Ax (AM ad) sz) := by
  refine Met.ofW (cc := cX12_put) (maxL := 3) (ret := none) (by decide) rfl ?_
  intro p e s m args below meth c s₁ B hml hv
  obtain ⟨rfl, hsz, hP, hK⟩ := hv
  subst hsz
  have C : Cx RX12 cX12_put 3 none wsX12_put p s m _ meth c := ⟨B.exec, B.bytes, hml, B.returns, findClass_of_methodNamed B.named, atoms_spec (ws := wsX12_put) B.pre, B.notSynchronized⟩
  have hl := lv_entry ([.ref (ad 0), .int x1]) (n := 3) (Nat.le_of_ble_eq_true rfl)
  rw [lg_entry_eq]
  exact wX12_put_0 C hK hJ x1 h hP va_S.rf hl

theorem dX12_feed_0 : decode cX12_feed 0 = .ok (.aload_n 0, 1) := by decide +kernel
theorem dX12_feed_1 : decode cX12_feed 1 = .ok (.iconst 0, 1) := by decide +kernel
theorem dX12_feed_2 : decode cX12_feed 2 = .ok (.putfield 151, 3) := by decide +kernel
theorem dX12_feed_5 : decode cX12_feed 5 = .ok (.aload_n 0, 1) := by decide +kernel
theorem dX12_feed_6 : decode cX12_feed 6 = .ok (.getfield 162, 3) := by decide +kernel
theorem dX12_feed_9 : decode cX12_feed 9 = .ok (.iload_n 1, 1) := by decide +kernel
set_option maxRecDepth 20000 in
theorem ggX12_feed_X12_bytesIn : GoodIn wsX12_feed wsX12_bytesIn := goodIn_r _ [6] (by decide +kernel) (by decide +kernel)
set_option maxRecDepth 20000 in
theorem gX12_feed_X12_bytesIn : GoodIn wsX12_feed (va_wsS RX12 165 yX12_bytesIn wsX12_bytesIn) := goodIn_app (goodIn_of _ (by decide +kernel)) ggX12_feed_X12_bytesIn
theorem dX12_feed_10 : decode cX12_feed 10 = .ok (.invokestatic 165, 3) := by decide +kernel
theorem dX12_feed_13 : decode cX12_feed 13 = .ok (.iadd, 1) := by decide +kernel
theorem dX12_feed_14 : decode cX12_feed 14 = .ok (.iload_n 2, 1) := by decide +kernel
theorem dX12_feed_15 : decode cX12_feed 15 = .ok (.invokestatic 165, 3) := by decide +kernel
theorem dX12_feed_18 : decode cX12_feed 18 = .ok (.iadd, 1) := by decide +kernel
theorem dX12_feed_19 : decode cX12_feed 19 = .ok (.iload_n 3, 1) := by decide +kernel
theorem dX12_feed_20 : decode cX12_feed 20 = .ok (.invokestatic 165, 3) := by decide +kernel
theorem dX12_feed_23 : decode cX12_feed 23 = .ok (.iadd, 1) := by decide +kernel
theorem dX12_feed_24 : decode cX12_feed 24 = .ok (.iload 4, 2) := by decide +kernel
theorem dX12_feed_26 : decode cX12_feed 26 = .ok (.invokestatic 165, 3) := by decide +kernel
theorem dX12_feed_29 : decode cX12_feed 29 = .ok (.iadd, 1) := by decide +kernel
theorem dX12_feed_30 : decode cX12_feed 30 = .ok (.iload 5, 2) := by decide +kernel
theorem dX12_feed_32 : decode cX12_feed 32 = .ok (.invokestatic 165, 3) := by decide +kernel
theorem dX12_feed_35 : decode cX12_feed 35 = .ok (.iadd, 1) := by decide +kernel
theorem dX12_feed_36 : decode cX12_feed 36 = .ok (.bipush 120, 2) := by decide +kernel
theorem dX12_feed_38 : decode cX12_feed 38 = .ok (.if_icmp .le 5, 3) := by decide +kernel
theorem dX12_feed_43 : decode cX12_feed 43 = .ok (.aload_n 0, 1) := by decide +kernel
theorem dX12_feed_44 : decode cX12_feed 44 = .ok (.iload_n 1, 1) := by decide +kernel
set_option maxRecDepth 20000 in
theorem ggX12_feed_X12_put : GoodIn wsX12_feed wsX12_put := goodIn_r _ [10, 11, 2, 12, 13, 14, 15, 16, 17, 18, 19, 20, 21, 22, 23, 24, 25, 26, 27, 28, 29, 30, 31, 32, 33, 34, 35, 36, 37, 38, 39, 40, 41, 42, 43, 44, 45, 46, 47, 48, 49, 50, 51, 52, 53, 54, 55, 56, 57, 58, 59, 60, 61, 62, 63, 64, 65, 66, 67, 68, 69, 70, 71, 72, 73, 74, 75, 76, 77, 78, 79, 80] (by decide +kernel) (by decide +kernel)
set_option maxRecDepth 20000 in
theorem gX12_feed_X12_put : GoodIn wsX12_feed (wsV RX12 169 RX12 yX12_put wsX12_put) := goodIn_app (goodIn_of _ (by decide +kernel)) ggX12_feed_X12_put
theorem dX12_feed_45 : decode cX12_feed 45 = .ok (.invokevirtual 169, 3) := by decide +kernel
theorem dX12_feed_48 : decode cX12_feed 48 = .ok (.aload_n 0, 1) := by decide +kernel
theorem dX12_feed_49 : decode cX12_feed 49 = .ok (.iload_n 2, 1) := by decide +kernel
theorem dX12_feed_50 : decode cX12_feed 50 = .ok (.invokevirtual 169, 3) := by decide +kernel
theorem dX12_feed_53 : decode cX12_feed 53 = .ok (.aload_n 0, 1) := by decide +kernel
theorem dX12_feed_54 : decode cX12_feed 54 = .ok (.iload_n 3, 1) := by decide +kernel
theorem dX12_feed_55 : decode cX12_feed 55 = .ok (.invokevirtual 169, 3) := by decide +kernel
theorem dX12_feed_58 : decode cX12_feed 58 = .ok (.aload_n 0, 1) := by decide +kernel
theorem dX12_feed_59 : decode cX12_feed 59 = .ok (.iload 4, 2) := by decide +kernel
theorem dX12_feed_61 : decode cX12_feed 61 = .ok (.invokevirtual 169, 3) := by decide +kernel
theorem dX12_feed_64 : decode cX12_feed 64 = .ok (.aload_n 0, 1) := by decide +kernel
theorem dX12_feed_65 : decode cX12_feed 65 = .ok (.iload 5, 2) := by decide +kernel
theorem dX12_feed_67 : decode cX12_feed 67 = .ok (.invokevirtual 169, 3) := by decide +kernel
theorem dX12_feed_70 : decode cX12_feed 70 = .ok (.aload_n 0, 1) := by decide +kernel
theorem dX12_feed_71 : decode cX12_feed 71 = .ok (.getfield 162, 3) := by decide +kernel
theorem dX12_feed_74 : decode cX12_feed 74 = .ok (.ireturn, 1) := by decide +kernel
theorem dX12_feed_41 : decode cX12_feed 41 = .ok (.iconst (-1), 1) := by decide +kernel
theorem dX12_feed_42 : decode cX12_feed 42 = .ok (.ireturn, 1) := by decide +kernel
/-- HissHornModel.feed(IIIII)I of cell 0 -/
def rmX12_feed_0 : Room := { frames := 1, cells := 0, slots := 0, locals := 22 }
theorem hX12_feed_0_X12 : ∀ w ∈ u_ws RX12 TX12 69, w ∈ wsX12_feed := fun w h => (List.mem_cons_of_mem _ (List.mem_append_right _ h))
theorem mX12_feed_0_1 : Cond.fieldLink RX12 151 "HissHornModel" "thrown" "I" ∈ wsX12_feed := (List.mem_cons_of_mem _ (List.mem_append_left _ (List.mem_of_getElem? (i := 0) rfl)))
theorem mX12_feed_0_2 : Cond.fieldLink RX12 162 "HissHornModel" "length" "I" ∈ wsX12_feed := (List.mem_cons_of_mem _ (List.mem_append_left _ (List.mem_of_getElem? (i := 1) rfl)))
def fX12_feed_0 (x1 : Int32) (x2 : Int32) (x3 : Int32) (x4 : Int32) (x5 : Int32) (u : SX) : Option (Int32 × SX) := (lt (sI u 0 0) fun u1 => ((fX12_bytesIn x1).bind fun r3 => ((fX12_bytesIn x2).bind fun r6 => ((fX12_bytesIn x3).bind fun r9 => ((fX12_bytesIn x4).bind fun r12 => ((fX12_bytesIn x5).bind fun r15 => (if ((((((u1.1 3) + r3) + r6) + r9) + r12) + r15) ≤ 120 then ((fX12_put_0 x1 u1).bind fun q => match q with | (r18, u19) => ((fX12_put_0 x2 u19).bind fun q => match q with | (r21, u22) => ((fX12_put_0 x3 u22).bind fun q => match q with | (r24, u25) => ((fX12_put_0 x4 u25).bind fun q => match q with | (r27, u28) => ((fX12_put_0 x5 u28).bind fun q => match q with | (r30, u31) => (some (u31.1 3, u31))))))) else (some ((-1), u1)))))))))
set_option maxHeartbeats 4000000 in
set_option maxRecDepth 100000 in
theorem wX12_feed_0 {p : Program} {l : Launch} {e : Env} {s : State} {m : MethodId} {args : Array Value} {below : List Frame} {meth : Method} {c : Code} {D : va_G} {cy : Nat → ClassId} {ad st : Nat → Nat} (C : Cx RX12 cX12_feed 6 (some .int) wsX12_feed p s m args meth c) (hK : Kx D [(cy 0, .int), (cy 1, .long), (cy 2, .boolean), (cy 3, .byte), (cy 4, .object "HissHorn$Text")] st s) (hJ : JM ad) (x1 : Int32) (x2 : Int32) (x3 : Int32) (x4 : Int32) (x5 : Int32) {u : SX} {r : Int32} {u' : SX} {H : Heap} {locs : List Loc} {ls : Array Slot} (h : fX12_feed_0 x1 x2 x3 x4 x5 u = some (r, u')) (hP : va_P D vwCl (VM cy ad st u) H) (hS : va_S (Ax (AM ad) s.heap.size) s.heap H locs) (hl : lv_has ls 6 [(0, .ref (ad 0)), (1, .int x1), (2, .int x2), (3, .int x3), (4, .int x4), (5, .int x5)]) : W p l e rmX12_feed_0 s m args below meth c H locs 0 0 (MQ below (Qi D (VM cy ad st) (AM ad) s.heap.size r u') args s 0 0 (Ax (AM ad) s.heap.size)) (F0 m 0 ls []) := by
  unfold fX12_feed_0 at h
  refine lv_aload_n C.1 C.2.1 dX12_feed_0 rfl (lv_at hl 0 rfl) ?_
  refine lv_iconst (v := 0) C.1 C.2.1 dX12_feed_1 (by decide) ?_
  refine pM_0_thrown C hX12_feed_0_X12 hK hP hJ hS mX12_feed_0_1 dX12_feed_2 (fun H locs hP hS => ?_)
  obtain ⟨u1, hu2, h⟩ := lt_some h
  rw [← hu2] at hP
  refine lv_aload_n C.1 C.2.1 dX12_feed_5 rfl (lv_at hl 0 rfl) ?_
  refine gM_0_length C hX12_feed_0_X12 hK hP mX12_feed_0_2 dX12_feed_6 ?_
  refine lv_iload_n C.1 C.2.1 dX12_feed_9 rfl (lv_at hl 1 rfl) ?_
  obtain ⟨r3, hc5, h⟩ := bd_some h
  refine cs_i (As := [.int x1]) (rest := [.int (u1.1 3)]) C hK hP hS (metX12_bytesIn l D cy st _ x1 hc5) (va_cwS 1 C.2.2.2.2.2.1 gX12_feed_X12_bytesIn rfl rfl rfl (by decide +kernel) ⟨(Nat.le_of_ble_eq_true rfl), (Nat.le_of_ble_eq_true rfl)⟩) rfl hl.1 rfl (Nat.le_of_ble_eq_true rfl) dX12_feed_10 ⟨Nat.zero_le _, Nat.zero_le _⟩ (fun H locs hP hS => ?_)
  refine lv_iadd C.1 C.2.1 dX12_feed_13 ?_
  refine lv_iload_n C.1 C.2.1 dX12_feed_14 rfl (lv_at hl 2 rfl) ?_
  obtain ⟨r6, hc8, h⟩ := bd_some h
  refine cs_i (As := [.int x2]) (rest := [.int ((u1.1 3) + r3)]) C hK hP hS (metX12_bytesIn l D cy st _ x2 hc8) (va_cwS 1 C.2.2.2.2.2.1 gX12_feed_X12_bytesIn rfl rfl rfl (by decide +kernel) ⟨(Nat.le_of_ble_eq_true rfl), (Nat.le_of_ble_eq_true rfl)⟩) rfl hl.1 rfl (Nat.le_of_ble_eq_true rfl) dX12_feed_15 ⟨Nat.zero_le _, Nat.zero_le _⟩ (fun H locs hP hS => ?_)
  refine lv_iadd C.1 C.2.1 dX12_feed_18 ?_
  refine lv_iload_n C.1 C.2.1 dX12_feed_19 rfl (lv_at hl 3 rfl) ?_
  obtain ⟨r9, hc11, h⟩ := bd_some h
  refine cs_i (As := [.int x3]) (rest := [.int (((u1.1 3) + r3) + r6)]) C hK hP hS (metX12_bytesIn l D cy st _ x3 hc11) (va_cwS 1 C.2.2.2.2.2.1 gX12_feed_X12_bytesIn rfl rfl rfl (by decide +kernel) ⟨(Nat.le_of_ble_eq_true rfl), (Nat.le_of_ble_eq_true rfl)⟩) rfl hl.1 rfl (Nat.le_of_ble_eq_true rfl) dX12_feed_20 ⟨Nat.zero_le _, Nat.zero_le _⟩ (fun H locs hP hS => ?_)
  refine lv_iadd C.1 C.2.1 dX12_feed_23 ?_
  refine lv_iload C.1 C.2.1 dX12_feed_24 (lv_at hl 4 rfl) ?_
  obtain ⟨r12, hc14, h⟩ := bd_some h
  refine cs_i (As := [.int x4]) (rest := [.int ((((u1.1 3) + r3) + r6) + r9)]) C hK hP hS (metX12_bytesIn l D cy st _ x4 hc14) (va_cwS 1 C.2.2.2.2.2.1 gX12_feed_X12_bytesIn rfl rfl rfl (by decide +kernel) ⟨(Nat.le_of_ble_eq_true rfl), (Nat.le_of_ble_eq_true rfl)⟩) rfl hl.1 rfl (Nat.le_of_ble_eq_true rfl) dX12_feed_26 ⟨Nat.zero_le _, Nat.zero_le _⟩ (fun H locs hP hS => ?_)
  refine lv_iadd C.1 C.2.1 dX12_feed_29 ?_
  refine lv_iload C.1 C.2.1 dX12_feed_30 (lv_at hl 5 rfl) ?_
  obtain ⟨r15, hc17, h⟩ := bd_some h
  refine cs_i (As := [.int x5]) (rest := [.int (((((u1.1 3) + r3) + r6) + r9) + r12)]) C hK hP hS (metX12_bytesIn l D cy st _ x5 hc17) (va_cwS 1 C.2.2.2.2.2.1 gX12_feed_X12_bytesIn rfl rfl rfl (by decide +kernel) ⟨(Nat.le_of_ble_eq_true rfl), (Nat.le_of_ble_eq_true rfl)⟩) rfl hl.1 rfl (Nat.le_of_ble_eq_true rfl) dX12_feed_32 ⟨Nat.zero_le _, Nat.zero_le _⟩ (fun H locs hP hS => ?_)
  refine lv_iadd C.1 C.2.1 dX12_feed_35 ?_
  refine lv_bipush (v := 120) C.1 C.2.1 dX12_feed_36 (by decide) ?_
  refine lv_icmp_le (tgt := 43) C.1 C.2.1 dX12_feed_38 (by decide) (fun c38 => ?_) (fun c38 => ?_)
  · rw [if_pos c38] at h
    refine lv_aload_n C.1 C.2.1 dX12_feed_43 rfl (lv_at hl 0 rfl) ?_
    refine lv_iload_n C.1 C.2.1 dX12_feed_44 rfl (lv_at hl 1 rfl) ?_
    obtain ⟨⟨r18, u19⟩, hc20, h⟩ := bd_some h
    try dsimp only at h
    refine cg_v (As := [.int x1]) (rest := []) C hK hP hS (metX12_put_0 l D cy ad st hJ _ x1 hc20) (cwV 1 C.2.2.2.2.2.1 gX12_feed_X12_put rfl rfl rfl (by decide +kernel) ⟨(Nat.le_of_ble_eq_true rfl), (Nat.le_of_ble_eq_true rfl)⟩) 0 12 rfl rfl rfl hl.1 rfl (Nat.le_of_ble_eq_true rfl) dX12_feed_45 ⟨Nat.zero_le _, Nat.zero_le _⟩ (fun H locs hP hS => ?_)
    refine lv_aload_n C.1 C.2.1 dX12_feed_48 rfl (lv_at hl 0 rfl) ?_
    refine lv_iload_n C.1 C.2.1 dX12_feed_49 rfl (lv_at hl 2 rfl) ?_
    obtain ⟨⟨r21, u22⟩, hc23, h⟩ := bd_some h
    try dsimp only at h
    refine cg_v (As := [.int x2]) (rest := []) C hK hP hS (metX12_put_0 l D cy ad st hJ _ x2 hc23) (cwV 1 C.2.2.2.2.2.1 gX12_feed_X12_put rfl rfl rfl (by decide +kernel) ⟨(Nat.le_of_ble_eq_true rfl), (Nat.le_of_ble_eq_true rfl)⟩) 0 12 rfl rfl rfl hl.1 rfl (Nat.le_of_ble_eq_true rfl) dX12_feed_50 ⟨Nat.zero_le _, Nat.zero_le _⟩ (fun H locs hP hS => ?_)
    refine lv_aload_n C.1 C.2.1 dX12_feed_53 rfl (lv_at hl 0 rfl) ?_
    refine lv_iload_n C.1 C.2.1 dX12_feed_54 rfl (lv_at hl 3 rfl) ?_
    obtain ⟨⟨r24, u25⟩, hc26, h⟩ := bd_some h
    try dsimp only at h
    refine cg_v (As := [.int x3]) (rest := []) C hK hP hS (metX12_put_0 l D cy ad st hJ _ x3 hc26) (cwV 1 C.2.2.2.2.2.1 gX12_feed_X12_put rfl rfl rfl (by decide +kernel) ⟨(Nat.le_of_ble_eq_true rfl), (Nat.le_of_ble_eq_true rfl)⟩) 0 12 rfl rfl rfl hl.1 rfl (Nat.le_of_ble_eq_true rfl) dX12_feed_55 ⟨Nat.zero_le _, Nat.zero_le _⟩ (fun H locs hP hS => ?_)
    refine lv_aload_n C.1 C.2.1 dX12_feed_58 rfl (lv_at hl 0 rfl) ?_
    refine lv_iload C.1 C.2.1 dX12_feed_59 (lv_at hl 4 rfl) ?_
    obtain ⟨⟨r27, u28⟩, hc29, h⟩ := bd_some h
    try dsimp only at h
    refine cg_v (As := [.int x4]) (rest := []) C hK hP hS (metX12_put_0 l D cy ad st hJ _ x4 hc29) (cwV 1 C.2.2.2.2.2.1 gX12_feed_X12_put rfl rfl rfl (by decide +kernel) ⟨(Nat.le_of_ble_eq_true rfl), (Nat.le_of_ble_eq_true rfl)⟩) 0 12 rfl rfl rfl hl.1 rfl (Nat.le_of_ble_eq_true rfl) dX12_feed_61 ⟨Nat.zero_le _, Nat.zero_le _⟩ (fun H locs hP hS => ?_)
    refine lv_aload_n C.1 C.2.1 dX12_feed_64 rfl (lv_at hl 0 rfl) ?_
    refine lv_iload C.1 C.2.1 dX12_feed_65 (lv_at hl 5 rfl) ?_
    obtain ⟨⟨r30, u31⟩, hc32, h⟩ := bd_some h
    try dsimp only at h
    refine cg_v (As := [.int x5]) (rest := []) C hK hP hS (metX12_put_0 l D cy ad st hJ _ x5 hc32) (cwV 1 C.2.2.2.2.2.1 gX12_feed_X12_put rfl rfl rfl (by decide +kernel) ⟨(Nat.le_of_ble_eq_true rfl), (Nat.le_of_ble_eq_true rfl)⟩) 0 12 rfl rfl rfl hl.1 rfl (Nat.le_of_ble_eq_true rfl) dX12_feed_67 ⟨Nat.zero_le _, Nat.zero_le _⟩ (fun H locs hP hS => ?_)
    refine lv_aload_n C.1 C.2.1 dX12_feed_70 rfl (lv_at hl 0 rfl) ?_
    refine gM_0_length C hX12_feed_0_X12 hK hP mX12_feed_0_2 dX12_feed_71 ?_
    cases h
    exact rt_i C hP hS dX12_feed_74
  · rw [if_neg c38] at h
    refine lv_iconst (v := (-1)) C.1 C.2.1 dX12_feed_41 (by decide) ?_
    cases h
    exact rt_i C hP hS dX12_feed_42
theorem metX12_feed_0 (l : Launch) (D : va_G) (cy : Nat → ClassId) (ad st : Nat → Nat) (hJ : JM ad) (sz : Nat) (x1 : Int32) (x2 : Int32) (x3 : Int32) (x4 : Int32) (x5 : Int32) {u : SX} {r : Int32} {u' : SX} (h : fX12_feed_0 x1 x2 x3 x4 x5 u = some (r, u')) : Met l yX12_feed wsX12_feed rmX12_feed_0 (va_Pc [.ref (ad 0), .int x1, .int x2, .int x3, .int x4, .int x5] (Px D [(cy 0, .int), (cy 1, .long), (cy 2, .boolean), (cy 3, .byte), (cy 4, .object "HissHorn$Text")] st (VM cy ad st) sz u)) (Qi D (VM cy ad st) (AM ad) sz r u') 0 0 (Ax (AM ad) sz) := by
  refine Met.ofW (cc := cX12_feed) (maxL := 6) (ret := (some .int)) (by decide) rfl ?_
  intro p e s m args below meth c s₁ B hml hv
  obtain ⟨rfl, hsz, hP, hK⟩ := hv
  subst hsz
  have C : Cx RX12 cX12_feed 6 (some .int) wsX12_feed p s m _ meth c := ⟨B.exec, B.bytes, hml, B.returns, findClass_of_methodNamed B.named, atoms_spec (ws := wsX12_feed) B.pre, B.notSynchronized⟩
  have hl := lv_entry ([.ref (ad 0), .int x1, .int x2, .int x3, .int x4, .int x5]) (n := 6) (Nat.le_of_ble_eq_true rfl)
  rw [lg_entry_eq]
  exact wX12_feed_0 C hK hJ x1 x2 x3 x4 x5 h hP va_S.rf hl

theorem dX12_end_0 : decode cX12_end 0 = .ok (.aload_n 0, 1) := by decide +kernel
theorem dX12_end_1 : decode cX12_end 1 = .ok (.iconst 0, 1) := by decide +kernel
theorem dX12_end_2 : decode cX12_end 2 = .ok (.putfield 151, 3) := by decide +kernel
theorem dX12_end_5 : decode cX12_end 5 = .ok (.iload_n 1, 1) := by decide +kernel
theorem dX12_end_6 : decode cX12_end 6 = .ok (.ifCond .lt 11, 3) := by decide +kernel
theorem dX12_end_17 : decode cX12_end 17 = .ok (.iconst 0, 1) := by decide +kernel
theorem dX12_end_18 : decode cX12_end 18 = .ok (.ireturn, 1) := by decide +kernel
theorem dX12_end_9 : decode cX12_end 9 = .ok (.iload_n 1, 1) := by decide +kernel
theorem dX12_end_10 : decode cX12_end 10 = .ok (.aload_n 0, 1) := by decide +kernel
theorem dX12_end_11 : decode cX12_end 11 = .ok (.getfield 162, 3) := by decide +kernel
theorem dX12_end_14 : decode cX12_end 14 = .ok (.if_icmp .le 5, 3) := by decide +kernel
theorem dX12_end_19 : decode cX12_end 19 = .ok (.aload_n 0, 1) := by decide +kernel
theorem dX12_end_20 : decode cX12_end 20 = .ok (.iload_n 1, 1) := by decide +kernel
theorem dX12_end_21 : decode cX12_end 21 = .ok (.putfield 162, 3) := by decide +kernel
theorem dX12_end_24 : decode cX12_end 24 = .ok (.iconst 1, 1) := by decide +kernel
theorem dX12_end_25 : decode cX12_end 25 = .ok (.ireturn, 1) := by decide +kernel
/-- HissHornModel.end(I)Z of cell 0 -/
def rmX12_end_0 : Room := { frames := 0, cells := 0, slots := 0, locals := 0 }
theorem hX12_end_0_X12 : ∀ w ∈ u_ws RX12 TX12 69, w ∈ wsX12_end := fun w h => (List.mem_cons_of_mem _ (List.mem_append_right _ h))
theorem mX12_end_0_1 : Cond.fieldLink RX12 151 "HissHornModel" "thrown" "I" ∈ wsX12_end := (List.mem_cons_of_mem _ (List.mem_append_left _ (List.mem_of_getElem? (i := 0) rfl)))
theorem mX12_end_0_2 : Cond.fieldLink RX12 162 "HissHornModel" "length" "I" ∈ wsX12_end := (List.mem_cons_of_mem _ (List.mem_append_left _ (List.mem_of_getElem? (i := 1) rfl)))
def fX12_end_0 (x1 : Int32) (u : SX) : Option (Int32 × SX) := (lt (sI u 0 0) fun u1 => (if x1 < 0 then (gd (isB 0) (some (0, u1))) else (if x1 ≤ (u1.1 3) then (lt (sI u1 3 x1) fun u4 => (gd (isB 1) (some (1, u4)))) else (gd (isB 0) (some (0, u1))))))
set_option maxHeartbeats 4000000 in
set_option maxRecDepth 100000 in
theorem wX12_end_0 {p : Program} {l : Launch} {e : Env} {s : State} {m : MethodId} {args : Array Value} {below : List Frame} {meth : Method} {c : Code} {D : va_G} {cy : Nat → ClassId} {ad st : Nat → Nat} (C : Cx RX12 cX12_end 2 (some .boolean) wsX12_end p s m args meth c) (hK : Kx D [(cy 0, .int), (cy 1, .long), (cy 2, .boolean), (cy 3, .byte), (cy 4, .object "HissHorn$Text")] st s) (hJ : JM ad) (x1 : Int32) {u : SX} {r : Int32} {u' : SX} {H : Heap} {locs : List Loc} {ls : Array Slot} (h : fX12_end_0 x1 u = some (r, u')) (hP : va_P D vwCl (VM cy ad st u) H) (hS : va_S (Ax (AM ad) s.heap.size) s.heap H locs) (hl : lv_has ls 2 [(0, .ref (ad 0)), (1, .int x1)]) : W p l e rmX12_end_0 s m args below meth c H locs 0 0 (MQ below (Qi D (VM cy ad st) (AM ad) s.heap.size r u') args s 0 0 (Ax (AM ad) s.heap.size)) (F0 m 0 ls []) := by
  unfold fX12_end_0 at h
  refine lv_aload_n C.1 C.2.1 dX12_end_0 rfl (lv_at hl 0 rfl) ?_
  refine lv_iconst (v := 0) C.1 C.2.1 dX12_end_1 (by decide) ?_
  refine pM_0_thrown C hX12_end_0_X12 hK hP hJ hS mX12_end_0_1 dX12_end_2 (fun H locs hP hS => ?_)
  obtain ⟨u1, hu2, h⟩ := lt_some h
  rw [← hu2] at hP
  refine lv_iload_n C.1 C.2.1 dX12_end_5 rfl (lv_at hl 1 rfl) ?_
  refine lv_if_lt (tgt := 17) C.1 C.2.1 dX12_end_6 (by decide) (fun c6 => ?_) (fun c6 => ?_)
  · rw [if_pos c6] at h
    refine lv_iconst (v := 0) C.1 C.2.1 dX12_end_17 (by decide) ?_
    obtain ⟨hg3, h⟩ := gd_some h
    cases h
    exact rt_z hg3 C hP hS dX12_end_18
  · rw [if_neg c6] at h
    refine lv_iload_n C.1 C.2.1 dX12_end_9 rfl (lv_at hl 1 rfl) ?_
    refine lv_aload_n C.1 C.2.1 dX12_end_10 rfl (lv_at hl 0 rfl) ?_
    refine gM_0_length C hX12_end_0_X12 hK hP mX12_end_0_2 dX12_end_11 ?_
    refine lv_icmp_le (tgt := 19) C.1 C.2.1 dX12_end_14 (by decide) (fun c14 => ?_) (fun c14 => ?_)
    · rw [if_pos c14] at h
      refine lv_aload_n C.1 C.2.1 dX12_end_19 rfl (lv_at hl 0 rfl) ?_
      refine lv_iload_n C.1 C.2.1 dX12_end_20 rfl (lv_at hl 1 rfl) ?_
      refine pM_0_length C hX12_end_0_X12 hK hP hJ hS mX12_end_0_2 dX12_end_21 (fun H locs hP hS => ?_)
      obtain ⟨u4, hu5, h⟩ := lt_some h
      rw [← hu5] at hP
      refine lv_iconst (v := 1) C.1 C.2.1 dX12_end_24 (by decide) ?_
      obtain ⟨hg6, h⟩ := gd_some h
      cases h
      exact rt_z hg6 C hP hS dX12_end_25
    · rw [if_neg c14] at h
      refine lv_iconst (v := 0) C.1 C.2.1 dX12_end_17 (by decide) ?_
      obtain ⟨hg7, h⟩ := gd_some h
      cases h
      exact rt_z hg7 C hP hS dX12_end_18
theorem metX12_end_0 (l : Launch) (D : va_G) (cy : Nat → ClassId) (ad st : Nat → Nat) (hJ : JM ad) (sz : Nat) (x1 : Int32) {u : SX} {r : Int32} {u' : SX} (h : fX12_end_0 x1 u = some (r, u')) : Met l yX12_end wsX12_end rmX12_end_0 (va_Pc [.ref (ad 0), .int x1] (Px D [(cy 0, .int), (cy 1, .long), (cy 2, .boolean), (cy 3, .byte), (cy 4, .object "HissHorn$Text")] st (VM cy ad st) sz u)) (Qi D (VM cy ad st) (AM ad) sz r u') 0 0 (Ax (AM ad) sz) := by
  refine Met.ofW (cc := cX12_end) (maxL := 2) (ret := (some .boolean)) (by decide) rfl ?_
  intro p e s m args below meth c s₁ B hml hv
  obtain ⟨rfl, hsz, hP, hK⟩ := hv
  subst hsz
  have C : Cx RX12 cX12_end 2 (some .boolean) wsX12_end p s m _ meth c := ⟨B.exec, B.bytes, hml, B.returns, findClass_of_methodNamed B.named, atoms_spec (ws := wsX12_end) B.pre, B.notSynchronized⟩
  have hl := lv_entry ([.ref (ad 0), .int x1]) (n := 2) (Nat.le_of_ble_eq_true rfl)
  rw [lg_entry_eq]
  exact wX12_end_0 C hK hJ x1 h hP va_S.rf hl

theorem dX12_look_0 : decode cX12_look 0 = .ok (.aload_n 0, 1) := by decide +kernel
theorem dX12_look_1 : decode cX12_look 1 = .ok (.getfield 173, 3) := by decide +kernel
theorem dX12_look_4 : decode cX12_look 4 = .ok (.aload_n 0, 1) := by decide +kernel
theorem dX12_look_5 : decode cX12_look 5 = .ok (.getfield 176, 3) := by decide +kernel
theorem dX12_look_8 : decode cX12_look 8 = .ok (.if_icmp .ge 35, 3) := by decide +kernel
theorem dX12_look_11 : decode cX12_look 11 = .ok (.aload_n 0, 1) := by decide +kernel
theorem dX12_look_12 : decode cX12_look 12 = .ok (.getfield 26, 3) := by decide +kernel
theorem dX12_look_15 : decode cX12_look 15 = .ok (.aload_n 0, 1) := by decide +kernel
theorem dX12_look_16 : decode cX12_look 16 = .ok (.getfield 179, 3) := by decide +kernel
theorem dX12_look_19 : decode cX12_look 19 = .ok (.aload_n 0, 1) := by decide +kernel
theorem dX12_look_20 : decode cX12_look 20 = .ok (.getfield 173, 3) := by decide +kernel
theorem dX12_look_23 : decode cX12_look 23 = .ok (.iadd, 1) := by decide +kernel
theorem dX12_look_24 : decode cX12_look 24 = .ok (.baload, 1) := by decide +kernel
theorem dX12_look_25 : decode cX12_look 25 = .ok (.bipush 32, 2) := by decide +kernel
theorem dX12_look_27 : decode cX12_look 27 = .ok (.if_icmp .ne 16, 3) := by decide +kernel
theorem dX12_look_30 : decode cX12_look 30 = .ok (.aload_n 0, 1) := by decide +kernel
theorem dX12_look_31 : decode cX12_look 31 = .ok (.dup, 1) := by decide +kernel
theorem dX12_look_32 : decode cX12_look 32 = .ok (.getfield 173, 3) := by decide +kernel
theorem dX12_look_35 : decode cX12_look 35 = .ok (.iconst 1, 1) := by decide +kernel
theorem dX12_look_36 : decode cX12_look 36 = .ok (.iadd, 1) := by decide +kernel
theorem dX12_look_37 : decode cX12_look 37 = .ok (.putfield 173, 3) := by decide +kernel
theorem dX12_look_40 : decode cX12_look 40 = .ok (.goto (-40), 3) := by decide +kernel
theorem dX12_look_43 : decode cX12_look 43 = .ok (.aload_n 0, 1) := by decide +kernel
theorem dX12_look_44 : decode cX12_look 44 = .ok (.getfield 173, 3) := by decide +kernel
theorem dX12_look_47 : decode cX12_look 47 = .ok (.aload_n 0, 1) := by decide +kernel
theorem dX12_look_48 : decode cX12_look 48 = .ok (.getfield 176, 3) := by decide +kernel
theorem dX12_look_51 : decode cX12_look 51 = .ok (.if_icmp .ge 24, 3) := by decide +kernel
theorem dX12_look_75 : decode cX12_look 75 = .ok (.iconst (-1), 1) := by decide +kernel
theorem dX12_look_76 : decode cX12_look 76 = .ok (.ireturn, 1) := by decide +kernel
theorem dX12_look_54 : decode cX12_look 54 = .ok (.aload_n 0, 1) := by decide +kernel
theorem dX12_look_55 : decode cX12_look 55 = .ok (.getfield 26, 3) := by decide +kernel
theorem dX12_look_58 : decode cX12_look 58 = .ok (.aload_n 0, 1) := by decide +kernel
theorem dX12_look_59 : decode cX12_look 59 = .ok (.getfield 179, 3) := by decide +kernel
theorem dX12_look_62 : decode cX12_look 62 = .ok (.aload_n 0, 1) := by decide +kernel
theorem dX12_look_63 : decode cX12_look 63 = .ok (.getfield 173, 3) := by decide +kernel
theorem dX12_look_66 : decode cX12_look 66 = .ok (.iadd, 1) := by decide +kernel
theorem dX12_look_67 : decode cX12_look 67 = .ok (.baload, 1) := by decide +kernel
theorem dX12_look_68 : decode cX12_look 68 = .ok (.sipush 255, 3) := by decide +kernel
theorem dX12_look_71 : decode cX12_look 71 = .ok (.iand, 1) := by decide +kernel
theorem dX12_look_72 : decode cX12_look 72 = .ok (.goto 4, 3) := by decide +kernel
/-- HissHornModel.look()I of cell 0 -/
def rmX12_look_0 : Room := { frames := 0, cells := 0, slots := 0, locals := 0 }
theorem hX12_look_0_X12 : ∀ w ∈ u_ws RX12 TX12 69, w ∈ wsX12_look := fun w h => (List.mem_cons_of_mem _ (List.mem_append_right _ h))
theorem mX12_look_0_1 : Cond.fieldLink RX12 173 "HissHornModel" "at" "I" ∈ wsX12_look := (List.mem_cons_of_mem _ (List.mem_append_left _ (List.mem_of_getElem? (i := 0) rfl)))
theorem mX12_look_0_2 : Cond.fieldLink RX12 176 "HissHornModel" "ends" "I" ∈ wsX12_look := (List.mem_cons_of_mem _ (List.mem_append_left _ (List.mem_of_getElem? (i := 1) rfl)))
theorem mX12_look_0_3 : Cond.fieldLink RX12 26 "HissHornModel" "text" "[B" ∈ wsX12_look := (List.mem_cons_of_mem _ (List.mem_append_left _ (List.mem_of_getElem? (i := 2) rfl)))
theorem mX12_look_0_4 : Cond.fieldLink RX12 179 "HissHornModel" "begins" "I" ∈ wsX12_look := (List.mem_cons_of_mem _ (List.mem_append_left _ (List.mem_of_getElem? (i := 3) rfl)))
def LX12_look_0_0 (k43 : SX → Option (Int32 × SX)) : Nat → SX → Option (Int32 × SX)
  | 0, _ => none
  | n + 1, u => (if (u.1 5) ≤ (u.1 6) then (k43 u) else (if u.1 2 = 2 then (gd (inb ((u.1 4) + (u.1 6)) 120) (if (u.2.1 1 ((u.1 4) + (u.1 6)).toNatClampNeg) = 32 then (lt (sI u 6 ((u.1 6) + 1)) fun u2 => ((LX12_look_0_0 k43 n) u2)) else (k43 u))) else (if u.1 2 = 3 then (gd (inb ((u.1 4) + (u.1 6)) 4320) (if (u.2.1 2 ((u.1 4) + (u.1 6)).toNatClampNeg) = 32 then (lt (sI u 6 ((u.1 6) + 1)) fun u5 => ((LX12_look_0_0 k43 n) u5)) else (k43 u))) else none)))
def GX12_look_0_43  (u : SX) : Option (Int32 × SX) := (if (u.1 5) ≤ (u.1 6) then (some ((-1), u)) else (if u.1 2 = 2 then (gd (inb ((u.1 4) + (u.1 6)) 120) (some ((u.2.1 1 ((u.1 4) + (u.1 6)).toNatClampNeg) &&& 255, u))) else (if u.1 2 = 3 then (gd (inb ((u.1 4) + (u.1 6)) 4320) (some ((u.2.1 2 ((u.1 4) + (u.1 6)).toNatClampNeg) &&& 255, u))) else none)))
def fX12_look_0  (u : SX) : Option (Int32 × SX) := (LX12_look_0_0 GX12_look_0_43 5000 u)
set_option maxHeartbeats 4000000 in
set_option maxRecDepth 100000 in
theorem wLX12_look_0_0 {p : Program} {l : Launch} {e : Env} {s : State} {m : MethodId} {args : Array Value} {below : List Frame} {meth : Method} {c : Code} {D : va_G} {cy : Nat → ClassId} {ad st : Nat → Nat} (C : Cx RX12 cX12_look 1 (some .int) wsX12_look p s m args meth c) (hK : Kx D [(cy 0, .int), (cy 1, .long), (cy 2, .boolean), (cy 3, .byte), (cy 4, .object "HissHorn$Text")] st s) (hJ : JM ad) {r : Int32} {u' : SX} {k43 : SX → Option (Int32 × SX)} (hk43 : ∀  (u : SX) (H : Heap) (locs : List Loc) (ls : Array Slot), k43 u = some (r, u') → va_P D vwCl (VM cy ad st u) H → va_S (Ax (AM ad) s.heap.size) s.heap H locs → lv_has ls 1 [(0, .ref (ad 0))] → W p l e rmX12_look_0 s m args below meth c H locs 0 0 (MQ below (Qi D (VM cy ad st) (AM ad) s.heap.size r u') args s 0 0 (Ax (AM ad) s.heap.size)) (F0 m 43 ls [])) : ∀ (n : Nat) (u : SX) (H : Heap) (locs : List Loc) (ls : Array Slot), LX12_look_0_0 k43 n u = some (r, u') → va_P D vwCl (VM cy ad st u) H → va_S (Ax (AM ad) s.heap.size) s.heap H locs → lv_has ls 1 [(0, .ref (ad 0))] → W p l e rmX12_look_0 s m args below meth c H locs 0 0 (MQ below (Qi D (VM cy ad st) (AM ad) s.heap.size r u') args s 0 0 (Ax (AM ad) s.heap.size)) (F0 m 0 ls []) := by
  intro n
  induction n with
  | zero =>
    intro u H locs ls h
    exact absurd h (by intro q; cases q)
  | succ n ih =>
    intro u H locs ls h hP hS hl
    rw [LX12_look_0_0] at h
    refine lv_aload_n C.1 C.2.1 dX12_look_0 rfl (lv_at hl 0 rfl) ?_
    refine gM_0_at C hX12_look_0_X12 hK hP mX12_look_0_1 dX12_look_1 ?_
    refine lv_aload_n C.1 C.2.1 dX12_look_4 rfl (lv_at hl 0 rfl) ?_
    refine gM_0_ends C hX12_look_0_X12 hK hP mX12_look_0_2 dX12_look_5 ?_
    refine lv_icmp_ge (tgt := 43) C.1 C.2.1 dX12_look_8 (by decide) (fun c8 => ?_) (fun c8 => ?_)
    · rw [if_pos c8] at h
      exact hk43 _ _ _ _ h hP hS hl
    · rw [if_neg c8] at h
      refine lv_aload_n C.1 C.2.1 dX12_look_11 rfl (lv_at hl 0 rfl) ?_
      refine gM_0_text C hX12_look_0_X12 hK hP mX12_look_0_3 dX12_look_12 ?_
      by_cases c12_1 : u.1 2 = 2
      · rw [if_pos c12_1] at h
        refine W.eq (g2 := F0 m 15 ls [.ref (ad 1)]) (by rw [c12_1]; rfl) ?_
        refine lv_aload_n C.1 C.2.1 dX12_look_15 rfl (lv_at hl 0 rfl) ?_
        refine gM_0_begins C hX12_look_0_X12 hK hP mX12_look_0_4 dX12_look_16 ?_
        refine lv_aload_n C.1 C.2.1 dX12_look_19 rfl (lv_at hl 0 rfl) ?_
        refine gM_0_at C hX12_look_0_X12 hK hP mX12_look_0_1 dX12_look_20 ?_
        refine lv_iadd C.1 C.2.1 dX12_look_23 ?_
        obtain ⟨hg1, h⟩ := gd_some h
        refine lM_1 C hK hP hg1 dX12_look_24 ?_
        refine lv_bipush (v := 32) C.1 C.2.1 dX12_look_25 (by decide) ?_
        refine lv_icmp_ne (tgt := 43) C.1 C.2.1 dX12_look_27 (by decide) (fun c27 => ?_) (fun c27 => ?_)
        · rw [if_neg c27] at h
          exact hk43 _ _ _ _ h hP hS hl
        · rw [if_pos c27] at h
          refine lv_aload_n C.1 C.2.1 dX12_look_30 rfl (lv_at hl 0 rfl) ?_
          refine lv_dup C.1 C.2.1 dX12_look_31 rfl ?_
          refine gM_0_at C hX12_look_0_X12 hK hP mX12_look_0_1 dX12_look_32 ?_
          refine lv_iconst (v := 1) C.1 C.2.1 dX12_look_35 (by decide) ?_
          refine lv_iadd C.1 C.2.1 dX12_look_36 ?_
          refine pM_0_at C hX12_look_0_X12 hK hP hJ hS mX12_look_0_1 dX12_look_37 (fun H locs hP hS => ?_)
          obtain ⟨u2, hu3, h⟩ := lt_some h
          rw [← hu3] at hP
          refine lv_goto (tgt := 0) C.1 C.2.1 dX12_look_40 (by decide) ?_
          exact ih _ _ _ _ h hP hS hl
      · rw [if_neg c12_1] at h
        by_cases c12_2 : u.1 2 = 3
        · rw [if_pos c12_2] at h
          refine W.eq (g2 := F0 m 15 ls [.ref (ad 2)]) (by rw [c12_2]; rfl) ?_
          refine lv_aload_n C.1 C.2.1 dX12_look_15 rfl (lv_at hl 0 rfl) ?_
          refine gM_0_begins C hX12_look_0_X12 hK hP mX12_look_0_4 dX12_look_16 ?_
          refine lv_aload_n C.1 C.2.1 dX12_look_19 rfl (lv_at hl 0 rfl) ?_
          refine gM_0_at C hX12_look_0_X12 hK hP mX12_look_0_1 dX12_look_20 ?_
          refine lv_iadd C.1 C.2.1 dX12_look_23 ?_
          obtain ⟨hg4, h⟩ := gd_some h
          refine lM_2 C hK hP hg4 dX12_look_24 ?_
          refine lv_bipush (v := 32) C.1 C.2.1 dX12_look_25 (by decide) ?_
          refine lv_icmp_ne (tgt := 43) C.1 C.2.1 dX12_look_27 (by decide) (fun c27 => ?_) (fun c27 => ?_)
          · rw [if_neg c27] at h
            exact hk43 _ _ _ _ h hP hS hl
          · rw [if_pos c27] at h
            refine lv_aload_n C.1 C.2.1 dX12_look_30 rfl (lv_at hl 0 rfl) ?_
            refine lv_dup C.1 C.2.1 dX12_look_31 rfl ?_
            refine gM_0_at C hX12_look_0_X12 hK hP mX12_look_0_1 dX12_look_32 ?_
            refine lv_iconst (v := 1) C.1 C.2.1 dX12_look_35 (by decide) ?_
            refine lv_iadd C.1 C.2.1 dX12_look_36 ?_
            refine pM_0_at C hX12_look_0_X12 hK hP hJ hS mX12_look_0_1 dX12_look_37 (fun H locs hP hS => ?_)
            obtain ⟨u5, hu6, h⟩ := lt_some h
            rw [← hu6] at hP
            refine lv_goto (tgt := 0) C.1 C.2.1 dX12_look_40 (by decide) ?_
            exact ih _ _ _ _ h hP hS hl
        · rw [if_neg c12_2] at h
          exact absurd h (by intro q; cases q)
set_option maxHeartbeats 4000000 in
set_option maxRecDepth 100000 in
theorem wGX12_look_0_43 {p : Program} {l : Launch} {e : Env} {s : State} {m : MethodId} {args : Array Value} {below : List Frame} {meth : Method} {c : Code} {D : va_G} {cy : Nat → ClassId} {ad st : Nat → Nat} (C : Cx RX12 cX12_look 1 (some .int) wsX12_look p s m args meth c) (hK : Kx D [(cy 0, .int), (cy 1, .long), (cy 2, .boolean), (cy 3, .byte), (cy 4, .object "HissHorn$Text")] st s) (hJ : JM ad) {r : Int32} {u' : SX}   (u : SX) (H : Heap) (locs : List Loc) (ls : Array Slot) (h : GX12_look_0_43  u = some (r, u')) (hP : va_P D vwCl (VM cy ad st u) H) (hS : va_S (Ax (AM ad) s.heap.size) s.heap H locs) (hl : lv_has ls 1 [(0, .ref (ad 0))]) : W p l e rmX12_look_0 s m args below meth c H locs 0 0 (MQ below (Qi D (VM cy ad st) (AM ad) s.heap.size r u') args s 0 0 (Ax (AM ad) s.heap.size)) (F0 m 43 ls []) := by
  unfold GX12_look_0_43 at h
  refine lv_aload_n C.1 C.2.1 dX12_look_43 rfl (lv_at hl 0 rfl) ?_
  refine gM_0_at C hX12_look_0_X12 hK hP mX12_look_0_1 dX12_look_44 ?_
  refine lv_aload_n C.1 C.2.1 dX12_look_47 rfl (lv_at hl 0 rfl) ?_
  refine gM_0_ends C hX12_look_0_X12 hK hP mX12_look_0_2 dX12_look_48 ?_
  refine lv_icmp_ge (tgt := 75) C.1 C.2.1 dX12_look_51 (by decide) (fun c51 => ?_) (fun c51 => ?_)
  · rw [if_pos c51] at h
    refine lv_iconst (v := (-1)) C.1 C.2.1 dX12_look_75 (by decide) ?_
    cases h
    exact rt_i C hP hS dX12_look_76
  · rw [if_neg c51] at h
    refine lv_aload_n C.1 C.2.1 dX12_look_54 rfl (lv_at hl 0 rfl) ?_
    refine gM_0_text C hX12_look_0_X12 hK hP mX12_look_0_3 dX12_look_55 ?_
    by_cases c55_1 : u.1 2 = 2
    · rw [if_pos c55_1] at h
      refine W.eq (g2 := F0 m 58 ls [.ref (ad 1)]) (by rw [c55_1]; rfl) ?_
      refine lv_aload_n C.1 C.2.1 dX12_look_58 rfl (lv_at hl 0 rfl) ?_
      refine gM_0_begins C hX12_look_0_X12 hK hP mX12_look_0_4 dX12_look_59 ?_
      refine lv_aload_n C.1 C.2.1 dX12_look_62 rfl (lv_at hl 0 rfl) ?_
      refine gM_0_at C hX12_look_0_X12 hK hP mX12_look_0_1 dX12_look_63 ?_
      refine lv_iadd C.1 C.2.1 dX12_look_66 ?_
      obtain ⟨hg7, h⟩ := gd_some h
      refine lM_1 C hK hP hg7 dX12_look_67 ?_
      refine lv_sipush (v := 255) C.1 C.2.1 dX12_look_68 (by decide) ?_
      refine lv_iand C.1 C.2.1 dX12_look_71 ?_
      refine lv_goto (tgt := 76) C.1 C.2.1 dX12_look_72 (by decide) ?_
      cases h
      exact rt_i C hP hS dX12_look_76
    · rw [if_neg c55_1] at h
      by_cases c55_2 : u.1 2 = 3
      · rw [if_pos c55_2] at h
        refine W.eq (g2 := F0 m 58 ls [.ref (ad 2)]) (by rw [c55_2]; rfl) ?_
        refine lv_aload_n C.1 C.2.1 dX12_look_58 rfl (lv_at hl 0 rfl) ?_
        refine gM_0_begins C hX12_look_0_X12 hK hP mX12_look_0_4 dX12_look_59 ?_
        refine lv_aload_n C.1 C.2.1 dX12_look_62 rfl (lv_at hl 0 rfl) ?_
        refine gM_0_at C hX12_look_0_X12 hK hP mX12_look_0_1 dX12_look_63 ?_
        refine lv_iadd C.1 C.2.1 dX12_look_66 ?_
        obtain ⟨hg8, h⟩ := gd_some h
        refine lM_2 C hK hP hg8 dX12_look_67 ?_
        refine lv_sipush (v := 255) C.1 C.2.1 dX12_look_68 (by decide) ?_
        refine lv_iand C.1 C.2.1 dX12_look_71 ?_
        refine lv_goto (tgt := 76) C.1 C.2.1 dX12_look_72 (by decide) ?_
        cases h
        exact rt_i C hP hS dX12_look_76
      · rw [if_neg c55_2] at h
        exact absurd h (by intro q; cases q)
set_option maxHeartbeats 4000000 in
set_option maxRecDepth 100000 in
theorem wX12_look_0 {p : Program} {l : Launch} {e : Env} {s : State} {m : MethodId} {args : Array Value} {below : List Frame} {meth : Method} {c : Code} {D : va_G} {cy : Nat → ClassId} {ad st : Nat → Nat} (C : Cx RX12 cX12_look 1 (some .int) wsX12_look p s m args meth c) (hK : Kx D [(cy 0, .int), (cy 1, .long), (cy 2, .boolean), (cy 3, .byte), (cy 4, .object "HissHorn$Text")] st s) (hJ : JM ad)  {u : SX} {r : Int32} {u' : SX} {H : Heap} {locs : List Loc} {ls : Array Slot} (h : fX12_look_0  u = some (r, u')) (hP : va_P D vwCl (VM cy ad st u) H) (hS : va_S (Ax (AM ad) s.heap.size) s.heap H locs) (hl : lv_has ls 1 [(0, .ref (ad 0))]) : W p l e rmX12_look_0 s m args below meth c H locs 0 0 (MQ below (Qi D (VM cy ad st) (AM ad) s.heap.size r u') args s 0 0 (Ax (AM ad) s.heap.size)) (F0 m 0 ls []) := by
  unfold fX12_look_0 at h
  exact wLX12_look_0_0 C hK hJ (wGX12_look_0_43 C hK hJ ) 5000 _ _ _ _ h hP hS hl
theorem metX12_look_0 (l : Launch) (D : va_G) (cy : Nat → ClassId) (ad st : Nat → Nat) (hJ : JM ad) (sz : Nat)  {u : SX} {r : Int32} {u' : SX} (h : fX12_look_0  u = some (r, u')) : Met l yX12_look wsX12_look rmX12_look_0 (va_Pc [.ref (ad 0)] (Px D [(cy 0, .int), (cy 1, .long), (cy 2, .boolean), (cy 3, .byte), (cy 4, .object "HissHorn$Text")] st (VM cy ad st) sz u)) (Qi D (VM cy ad st) (AM ad) sz r u') 0 0 (Ax (AM ad) sz) := by
  refine Met.ofW (cc := cX12_look) (maxL := 1) (ret := (some .int)) (by decide) rfl ?_
  intro p e s m args below meth c s₁ B hml hv
  obtain ⟨rfl, hsz, hP, hK⟩ := hv
  subst hsz
  have C : Cx RX12 cX12_look 1 (some .int) wsX12_look p s m _ meth c := ⟨B.exec, B.bytes, hml, B.returns, findClass_of_methodNamed B.named, atoms_spec (ws := wsX12_look) B.pre, B.notSynchronized⟩
  have hl := lv_entry ([.ref (ad 0)]) (n := 1) (Nat.le_of_ble_eq_true rfl)
  rw [lg_entry_eq]
  exact wX12_look_0 C hK hJ h hP va_S.rf hl

theorem dX12_fails_0 : decode cX12_fails 0 = .ok (.aload_n 0, 1) := by decide +kernel
theorem dX12_fails_1 : decode cX12_fails 1 = .ok (.getfield 182, 3) := by decide +kernel
theorem dX12_fails_4 : decode cX12_fails 4 = .ok (.iconst (-1), 1) := by decide +kernel
theorem dX12_fails_5 : decode cX12_fails 5 = .ok (.if_icmp .ne 11, 3) := by decide +kernel
theorem dX12_fails_16 : decode cX12_fails 16 = .ok (.iconst 0, 1) := by decide +kernel
theorem dX12_fails_17 : decode cX12_fails 17 = .ok (.ireturn, 1) := by decide +kernel
theorem dX12_fails_8 : decode cX12_fails 8 = .ok (.aload_n 0, 1) := by decide +kernel
theorem dX12_fails_9 : decode cX12_fails 9 = .ok (.aload_n 0, 1) := by decide +kernel
theorem dX12_fails_10 : decode cX12_fails 10 = .ok (.getfield 173, 3) := by decide +kernel
theorem dX12_fails_13 : decode cX12_fails 13 = .ok (.putfield 182, 3) := by decide +kernel
/-- HissHornModel.fails()Z of cell 0 -/
def rmX12_fails_0 : Room := { frames := 0, cells := 0, slots := 0, locals := 0 }
theorem hX12_fails_0_X12 : ∀ w ∈ u_ws RX12 TX12 69, w ∈ wsX12_fails := fun w h => (List.mem_cons_of_mem _ (List.mem_append_right _ h))
theorem mX12_fails_0_1 : Cond.fieldLink RX12 182 "HissHornModel" "fault" "I" ∈ wsX12_fails := (List.mem_cons_of_mem _ (List.mem_append_left _ (List.mem_of_getElem? (i := 0) rfl)))
theorem mX12_fails_0_2 : Cond.fieldLink RX12 173 "HissHornModel" "at" "I" ∈ wsX12_fails := (List.mem_cons_of_mem _ (List.mem_append_left _ (List.mem_of_getElem? (i := 1) rfl)))
def fX12_fails_0  (u : SX) : Option (Int32 × SX) := (if (u.1 7) = (-1) then (lt (sI u 7 (u.1 6)) fun u2 => (gd (isB 0) (some (0, u2)))) else (gd (isB 0) (some (0, u))))
set_option maxHeartbeats 4000000 in
set_option maxRecDepth 100000 in
theorem wX12_fails_0 {p : Program} {l : Launch} {e : Env} {s : State} {m : MethodId} {args : Array Value} {below : List Frame} {meth : Method} {c : Code} {D : va_G} {cy : Nat → ClassId} {ad st : Nat → Nat} (C : Cx RX12 cX12_fails 1 (some .boolean) wsX12_fails p s m args meth c) (hK : Kx D [(cy 0, .int), (cy 1, .long), (cy 2, .boolean), (cy 3, .byte), (cy 4, .object "HissHorn$Text")] st s) (hJ : JM ad)  {u : SX} {r : Int32} {u' : SX} {H : Heap} {locs : List Loc} {ls : Array Slot} (h : fX12_fails_0  u = some (r, u')) (hP : va_P D vwCl (VM cy ad st u) H) (hS : va_S (Ax (AM ad) s.heap.size) s.heap H locs) (hl : lv_has ls 1 [(0, .ref (ad 0))]) : W p l e rmX12_fails_0 s m args below meth c H locs 0 0 (MQ below (Qi D (VM cy ad st) (AM ad) s.heap.size r u') args s 0 0 (Ax (AM ad) s.heap.size)) (F0 m 0 ls []) := by
  unfold fX12_fails_0 at h
  refine lv_aload_n C.1 C.2.1 dX12_fails_0 rfl (lv_at hl 0 rfl) ?_
  refine gM_0_fault C hX12_fails_0_X12 hK hP mX12_fails_0_1 dX12_fails_1 ?_
  refine lv_iconst (v := (-1)) C.1 C.2.1 dX12_fails_4 (by decide) ?_
  refine lv_icmp_ne (tgt := 16) C.1 C.2.1 dX12_fails_5 (by decide) (fun c5 => ?_) (fun c5 => ?_)
  · rw [if_neg c5] at h
    refine lv_iconst (v := 0) C.1 C.2.1 dX12_fails_16 (by decide) ?_
    obtain ⟨hg1, h⟩ := gd_some h
    cases h
    exact rt_z hg1 C hP hS dX12_fails_17
  · rw [if_pos c5] at h
    refine lv_aload_n C.1 C.2.1 dX12_fails_8 rfl (lv_at hl 0 rfl) ?_
    refine lv_aload_n C.1 C.2.1 dX12_fails_9 rfl (lv_at hl 0 rfl) ?_
    refine gM_0_at C hX12_fails_0_X12 hK hP mX12_fails_0_2 dX12_fails_10 ?_
    refine pM_0_fault C hX12_fails_0_X12 hK hP hJ hS mX12_fails_0_1 dX12_fails_13 (fun H locs hP hS => ?_)
    obtain ⟨u2, hu3, h⟩ := lt_some h
    rw [← hu3] at hP
    refine lv_iconst (v := 0) C.1 C.2.1 dX12_fails_16 (by decide) ?_
    obtain ⟨hg4, h⟩ := gd_some h
    cases h
    exact rt_z hg4 C hP hS dX12_fails_17
theorem metX12_fails_0 (l : Launch) (D : va_G) (cy : Nat → ClassId) (ad st : Nat → Nat) (hJ : JM ad) (sz : Nat)  {u : SX} {r : Int32} {u' : SX} (h : fX12_fails_0  u = some (r, u')) : Met l yX12_fails wsX12_fails rmX12_fails_0 (va_Pc [.ref (ad 0)] (Px D [(cy 0, .int), (cy 1, .long), (cy 2, .boolean), (cy 3, .byte), (cy 4, .object "HissHorn$Text")] st (VM cy ad st) sz u)) (Qi D (VM cy ad st) (AM ad) sz r u') 0 0 (Ax (AM ad) sz) := by
  refine Met.ofW (cc := cX12_fails) (maxL := 1) (ret := (some .boolean)) (by decide) rfl ?_
  intro p e s m args below meth c s₁ B hml hv
  obtain ⟨rfl, hsz, hP, hK⟩ := hv
  subst hsz
  have C : Cx RX12 cX12_fails 1 (some .boolean) wsX12_fails p s m _ meth c := ⟨B.exec, B.bytes, hml, B.returns, findClass_of_methodNamed B.named, atoms_spec (ws := wsX12_fails) B.pre, B.notSynchronized⟩
  have hl := lv_entry ([.ref (ad 0)]) (n := 1) (Nat.le_of_ble_eq_true rfl)
  rw [lg_entry_eq]
  exact wX12_fails_0 C hK hJ h hP va_S.rf hl

theorem dX12_goesIn_0 : decode cX12_goesIn 0 = .ok (.aload_n 0, 1) := by decide +kernel
theorem dX12_goesIn_1 : decode cX12_goesIn 1 = .ok (.getfield 185, 3) := by decide +kernel
theorem dX12_goesIn_4 : decode cX12_goesIn 4 = .ok (.bipush 6, 2) := by decide +kernel
theorem dX12_goesIn_6 : decode cX12_goesIn 6 = .ok (.if_icmp .ne 8, 3) := by decide +kernel
theorem dX12_goesIn_14 : decode cX12_goesIn 14 = .ok (.aload_n 0, 1) := by decide +kernel
theorem dX12_goesIn_15 : decode cX12_goesIn 15 = .ok (.dup, 1) := by decide +kernel
theorem dX12_goesIn_16 : decode cX12_goesIn 16 = .ok (.getfield 185, 3) := by decide +kernel
theorem dX12_goesIn_19 : decode cX12_goesIn 19 = .ok (.iconst 1, 1) := by decide +kernel
theorem dX12_goesIn_20 : decode cX12_goesIn 20 = .ok (.iadd, 1) := by decide +kernel
theorem dX12_goesIn_21 : decode cX12_goesIn 21 = .ok (.putfield 185, 3) := by decide +kernel
theorem dX12_goesIn_24 : decode cX12_goesIn 24 = .ok (.aload_n 0, 1) := by decide +kernel
theorem dX12_goesIn_25 : decode cX12_goesIn 25 = .ok (.dup, 1) := by decide +kernel
theorem dX12_goesIn_26 : decode cX12_goesIn 26 = .ok (.getfield 173, 3) := by decide +kernel
theorem dX12_goesIn_29 : decode cX12_goesIn 29 = .ok (.iconst 1, 1) := by decide +kernel
theorem dX12_goesIn_30 : decode cX12_goesIn 30 = .ok (.iadd, 1) := by decide +kernel
theorem dX12_goesIn_31 : decode cX12_goesIn 31 = .ok (.putfield 173, 3) := by decide +kernel
theorem dX12_goesIn_34 : decode cX12_goesIn 34 = .ok (.iconst 1, 1) := by decide +kernel
theorem dX12_goesIn_35 : decode cX12_goesIn 35 = .ok (.ireturn, 1) := by decide +kernel
theorem dX12_goesIn_9 : decode cX12_goesIn 9 = .ok (.aload_n 0, 1) := by decide +kernel
set_option maxRecDepth 20000 in
theorem ggX12_goesIn_X12_fails : GoodIn wsX12_goesIn wsX12_fails := goodIn_r _ [7, 8, 2, 9, 10, 11, 12, 13, 14, 15, 16, 17, 18, 19, 20, 21, 22, 23, 24, 25, 26, 27, 28, 29, 30, 31, 32, 33, 34, 35, 36, 37, 38, 39, 40, 41, 42, 43, 44, 45, 46, 47, 48, 49, 50, 51, 52, 53, 54, 55, 56, 57, 58, 59, 60, 61, 62, 63, 64, 65, 66, 67, 68, 69, 70, 71, 72, 73, 74, 75, 76, 77] (by decide +kernel) (by decide +kernel)
set_option maxRecDepth 20000 in
theorem gX12_goesIn_X12_fails : GoodIn wsX12_goesIn (wsV RX12 188 RX12 yX12_fails wsX12_fails) := goodIn_app (goodIn_of _ (by decide +kernel)) ggX12_goesIn_X12_fails
theorem dX12_goesIn_10 : decode cX12_goesIn 10 = .ok (.invokevirtual 188, 3) := by decide +kernel
theorem dX12_goesIn_13 : decode cX12_goesIn 13 = .ok (.ireturn, 1) := by decide +kernel
/-- HissHornModel.goesIn()Z of cell 0 -/
def rmX12_goesIn_0 : Room := { frames := 1, cells := 0, slots := 0, locals := 20 }
theorem hX12_goesIn_0_X12 : ∀ w ∈ u_ws RX12 TX12 69, w ∈ wsX12_goesIn := fun w h => (List.mem_cons_of_mem _ (List.mem_append_right _ h))
theorem mX12_goesIn_0_1 : Cond.fieldLink RX12 185 "HissHornModel" "deep" "I" ∈ wsX12_goesIn := (List.mem_cons_of_mem _ (List.mem_append_left _ (List.mem_of_getElem? (i := 0) rfl)))
theorem mX12_goesIn_0_2 : Cond.fieldLink RX12 173 "HissHornModel" "at" "I" ∈ wsX12_goesIn := (List.mem_cons_of_mem _ (List.mem_append_left _ (List.mem_of_getElem? (i := 1) rfl)))
def fX12_goesIn_0  (u : SX) : Option (Int32 × SX) := (if (u.1 8) = 6 then ((fX12_fails_0  u).bind fun q => match q with | (r6, u7) => (gd (isB r6) (some (r6, u7)))) else (lt (sI u 8 ((u.1 8) + 1)) fun u1 => (lt (sI u1 6 ((u1.1 6) + 1)) fun u3 => (gd (isB 1) (some (1, u3))))))
set_option maxHeartbeats 4000000 in
set_option maxRecDepth 100000 in
theorem wX12_goesIn_0 {p : Program} {l : Launch} {e : Env} {s : State} {m : MethodId} {args : Array Value} {below : List Frame} {meth : Method} {c : Code} {D : va_G} {cy : Nat → ClassId} {ad st : Nat → Nat} (C : Cx RX12 cX12_goesIn 1 (some .boolean) wsX12_goesIn p s m args meth c) (hK : Kx D [(cy 0, .int), (cy 1, .long), (cy 2, .boolean), (cy 3, .byte), (cy 4, .object "HissHorn$Text")] st s) (hJ : JM ad)  {u : SX} {r : Int32} {u' : SX} {H : Heap} {locs : List Loc} {ls : Array Slot} (h : fX12_goesIn_0  u = some (r, u')) (hP : va_P D vwCl (VM cy ad st u) H) (hS : va_S (Ax (AM ad) s.heap.size) s.heap H locs) (hl : lv_has ls 1 [(0, .ref (ad 0))]) : W p l e rmX12_goesIn_0 s m args below meth c H locs 0 0 (MQ below (Qi D (VM cy ad st) (AM ad) s.heap.size r u') args s 0 0 (Ax (AM ad) s.heap.size)) (F0 m 0 ls []) := by
  unfold fX12_goesIn_0 at h
  refine lv_aload_n C.1 C.2.1 dX12_goesIn_0 rfl (lv_at hl 0 rfl) ?_
  refine gM_0_deep C hX12_goesIn_0_X12 hK hP mX12_goesIn_0_1 dX12_goesIn_1 ?_
  refine lv_bipush (v := 6) C.1 C.2.1 dX12_goesIn_4 (by decide) ?_
  refine lv_icmp_ne (tgt := 14) C.1 C.2.1 dX12_goesIn_6 (by decide) (fun c6 => ?_) (fun c6 => ?_)
  · rw [if_neg c6] at h
    refine lv_aload_n C.1 C.2.1 dX12_goesIn_14 rfl (lv_at hl 0 rfl) ?_
    refine lv_dup C.1 C.2.1 dX12_goesIn_15 rfl ?_
    refine gM_0_deep C hX12_goesIn_0_X12 hK hP mX12_goesIn_0_1 dX12_goesIn_16 ?_
    refine lv_iconst (v := 1) C.1 C.2.1 dX12_goesIn_19 (by decide) ?_
    refine lv_iadd C.1 C.2.1 dX12_goesIn_20 ?_
    refine pM_0_deep C hX12_goesIn_0_X12 hK hP hJ hS mX12_goesIn_0_1 dX12_goesIn_21 (fun H locs hP hS => ?_)
    obtain ⟨u1, hu2, h⟩ := lt_some h
    rw [← hu2] at hP
    refine lv_aload_n C.1 C.2.1 dX12_goesIn_24 rfl (lv_at hl 0 rfl) ?_
    refine lv_dup C.1 C.2.1 dX12_goesIn_25 rfl ?_
    refine gM_0_at C hX12_goesIn_0_X12 hK hP mX12_goesIn_0_2 dX12_goesIn_26 ?_
    refine lv_iconst (v := 1) C.1 C.2.1 dX12_goesIn_29 (by decide) ?_
    refine lv_iadd C.1 C.2.1 dX12_goesIn_30 ?_
    refine pM_0_at C hX12_goesIn_0_X12 hK hP hJ hS mX12_goesIn_0_2 dX12_goesIn_31 (fun H locs hP hS => ?_)
    obtain ⟨u3, hu4, h⟩ := lt_some h
    rw [← hu4] at hP
    refine lv_iconst (v := 1) C.1 C.2.1 dX12_goesIn_34 (by decide) ?_
    obtain ⟨hg5, h⟩ := gd_some h
    cases h
    exact rt_z hg5 C hP hS dX12_goesIn_35
  · rw [if_pos c6] at h
    refine lv_aload_n C.1 C.2.1 dX12_goesIn_9 rfl (lv_at hl 0 rfl) ?_
    obtain ⟨⟨r6, u7⟩, hc8, h⟩ := bd_some h
    try dsimp only at h
    refine cg_i (As := []) (rest := []) C hK hP hS (metX12_fails_0 l D cy ad st hJ _  hc8) (cwV 0 C.2.2.2.2.2.1 gX12_goesIn_X12_fails rfl rfl rfl (by decide +kernel) ⟨(Nat.le_of_ble_eq_true rfl), (Nat.le_of_ble_eq_true rfl)⟩) 0 12 rfl rfl rfl hl.1 rfl (Nat.le_of_ble_eq_true rfl) dX12_goesIn_10 ⟨Nat.zero_le _, Nat.zero_le _⟩ (fun H locs hP hS => ?_)
    obtain ⟨hg9, h⟩ := gd_some h
    cases h
    exact rt_z hg9 C hP hS dX12_goesIn_13
theorem metX12_goesIn_0 (l : Launch) (D : va_G) (cy : Nat → ClassId) (ad st : Nat → Nat) (hJ : JM ad) (sz : Nat)  {u : SX} {r : Int32} {u' : SX} (h : fX12_goesIn_0  u = some (r, u')) : Met l yX12_goesIn wsX12_goesIn rmX12_goesIn_0 (va_Pc [.ref (ad 0)] (Px D [(cy 0, .int), (cy 1, .long), (cy 2, .boolean), (cy 3, .byte), (cy 4, .object "HissHorn$Text")] st (VM cy ad st) sz u)) (Qi D (VM cy ad st) (AM ad) sz r u') 0 0 (Ax (AM ad) sz) := by
  refine Met.ofW (cc := cX12_goesIn) (maxL := 1) (ret := (some .boolean)) (by decide) rfl ?_
  intro p e s m args below meth c s₁ B hml hv
  obtain ⟨rfl, hsz, hP, hK⟩ := hv
  subst hsz
  have C : Cx RX12 cX12_goesIn 1 (some .boolean) wsX12_goesIn p s m _ meth c := ⟨B.exec, B.bytes, hml, B.returns, findClass_of_methodNamed B.named, atoms_spec (ws := wsX12_goesIn) B.pre, B.notSynchronized⟩
  have hl := lv_entry ([.ref (ad 0)]) (n := 1) (Nat.le_of_ble_eq_true rfl)
  rw [lg_entry_eq]
  exact wX12_goesIn_0 C hK hJ h hP va_S.rf hl

theorem dX12_takes_16 : decode cX12_takes 16 = .ok (.aload_n 0, 1) := by decide +kernel
set_option maxRecDepth 20000 in
theorem ggX12_takes_X12_fails : GoodIn wsX12_takes wsX12_fails := goodIn_r _ [14, 1, 2, 15, 16, 17, 18, 19, 20, 21, 22, 23, 24, 25, 26, 27, 28, 29, 30, 31, 32, 33, 34, 35, 36, 37, 38, 39, 40, 41, 42, 43, 44, 45, 46, 47, 48, 49, 50, 51, 52, 53, 54, 55, 56, 57, 58, 59, 60, 61, 62, 63, 64, 65, 66, 67, 68, 69, 70, 71, 72, 73, 74, 75, 76, 77, 78, 79, 80, 81, 82, 83] (by decide +kernel) (by decide +kernel)
set_option maxRecDepth 20000 in
theorem gX12_takes_X12_fails : GoodIn wsX12_takes (wsV RX12 188 RX12 yX12_fails wsX12_fails) := goodIn_app (goodIn_of _ (by decide +kernel)) ggX12_takes_X12_fails
theorem dX12_takes_17 : decode cX12_takes 17 = .ok (.invokevirtual 188, 3) := by decide +kernel
theorem dX12_takes_20 : decode cX12_takes 20 = .ok (.ireturn, 1) := by decide +kernel
theorem dX12_takes_0 : decode cX12_takes 0 = .ok (.aload_n 0, 1) := by decide +kernel
theorem dX12_takes_1 : decode cX12_takes 1 = .ok (.getfield 182, 3) := by decide +kernel
theorem dX12_takes_4 : decode cX12_takes 4 = .ok (.iconst (-1), 1) := by decide +kernel
theorem dX12_takes_5 : decode cX12_takes 5 = .ok (.if_icmp .ne 11, 3) := by decide +kernel
theorem dX12_takes_8 : decode cX12_takes 8 = .ok (.aload_n 0, 1) := by decide +kernel
set_option maxRecDepth 20000 in
theorem ggX12_takes_X12_look : GoodIn wsX12_takes wsX12_look := goodIn_r _ [7, 2, 8, 9, 10, 15, 16, 17, 18, 19, 20, 21, 22, 23, 24, 25, 26, 27, 28, 29, 30, 31, 32, 33, 34, 35, 36, 37, 38, 39, 40, 41, 42, 43, 44, 45, 46, 47, 48, 49, 50, 51, 52, 53, 54, 55, 56, 57, 58, 59, 60, 61, 62, 63, 64, 65, 66, 67, 68, 69, 70, 71, 72, 73, 74, 75, 76, 77, 78, 79, 80, 81, 82, 83] (by decide +kernel) (by decide +kernel)
set_option maxRecDepth 20000 in
theorem gX12_takes_X12_look : GoodIn wsX12_takes (wsV RX12 192 RX12 yX12_look wsX12_look) := goodIn_app (goodIn_of _ (by decide +kernel)) ggX12_takes_X12_look
theorem dX12_takes_9 : decode cX12_takes 9 = .ok (.invokevirtual 192, 3) := by decide +kernel
theorem dX12_takes_12 : decode cX12_takes 12 = .ok (.iload_n 1, 1) := by decide +kernel
theorem dX12_takes_13 : decode cX12_takes 13 = .ok (.if_icmp .eq 8, 3) := by decide +kernel
theorem dX12_takes_21 : decode cX12_takes 21 = .ok (.aload_n 0, 1) := by decide +kernel
theorem dX12_takes_22 : decode cX12_takes 22 = .ok (.dup, 1) := by decide +kernel
theorem dX12_takes_23 : decode cX12_takes 23 = .ok (.getfield 173, 3) := by decide +kernel
theorem dX12_takes_26 : decode cX12_takes 26 = .ok (.iconst 1, 1) := by decide +kernel
theorem dX12_takes_27 : decode cX12_takes 27 = .ok (.iadd, 1) := by decide +kernel
theorem dX12_takes_28 : decode cX12_takes 28 = .ok (.putfield 173, 3) := by decide +kernel
theorem dX12_takes_31 : decode cX12_takes 31 = .ok (.iconst 1, 1) := by decide +kernel
theorem dX12_takes_32 : decode cX12_takes 32 = .ok (.ireturn, 1) := by decide +kernel
/-- HissHornModel.takes(I)Z of cell 0 -/
def rmX12_takes_0 : Room := { frames := 1, cells := 0, slots := 0, locals := 20 }
theorem hX12_takes_0_X12 : ∀ w ∈ u_ws RX12 TX12 69, w ∈ wsX12_takes := fun w h => (List.mem_cons_of_mem _ (List.mem_append_right _ h))
theorem mX12_takes_0_1 : Cond.fieldLink RX12 182 "HissHornModel" "fault" "I" ∈ wsX12_takes := (List.mem_cons_of_mem _ (List.mem_append_left _ (List.mem_of_getElem? (i := 0) rfl)))
def GX12_takes_0_16  (u : SX) : Option (Int32 × SX) := ((fX12_fails_0  u).bind fun q => match q with | (r1, u2) => (gd (isB r1) (some (r1, u2))))
theorem mX12_takes_0_2 : Cond.fieldLink RX12 173 "HissHornModel" "at" "I" ∈ wsX12_takes := (List.mem_cons_of_mem _ (List.mem_append_left _ (List.mem_of_getElem? (i := 1) rfl)))
def fX12_takes_0 (x1 : Int32) (u : SX) : Option (Int32 × SX) := (if (u.1 7) = (-1) then ((fX12_look_0  u).bind fun q => match q with | (r5, u6) => (if r5 = x1 then (lt (sI u6 6 ((u6.1 6) + 1)) fun u8 => (gd (isB 1) (some (1, u8)))) else (GX12_takes_0_16 u6))) else (GX12_takes_0_16 u))
set_option maxHeartbeats 4000000 in
set_option maxRecDepth 100000 in
theorem wGX12_takes_0_16 {p : Program} {l : Launch} {e : Env} {s : State} {m : MethodId} {args : Array Value} {below : List Frame} {meth : Method} {c : Code} {D : va_G} {cy : Nat → ClassId} {ad st : Nat → Nat} (C : Cx RX12 cX12_takes 2 (some .boolean) wsX12_takes p s m args meth c) (hK : Kx D [(cy 0, .int), (cy 1, .long), (cy 2, .boolean), (cy 3, .byte), (cy 4, .object "HissHorn$Text")] st s) (hJ : JM ad) {r : Int32} {u' : SX}   (u : SX) (H : Heap) (locs : List Loc) (ls : Array Slot) (h : GX12_takes_0_16  u = some (r, u')) (hP : va_P D vwCl (VM cy ad st u) H) (hS : va_S (Ax (AM ad) s.heap.size) s.heap H locs) (hl : lv_has ls 2 [(0, .ref (ad 0))]) : W p l e rmX12_takes_0 s m args below meth c H locs 0 0 (MQ below (Qi D (VM cy ad st) (AM ad) s.heap.size r u') args s 0 0 (Ax (AM ad) s.heap.size)) (F0 m 16 ls []) := by
  unfold GX12_takes_0_16 at h
  refine lv_aload_n C.1 C.2.1 dX12_takes_16 rfl (lv_at hl 0 rfl) ?_
  obtain ⟨⟨r1, u2⟩, hc3, h⟩ := bd_some h
  try dsimp only at h
  refine cg_i (As := []) (rest := []) C hK hP hS (metX12_fails_0 l D cy ad st hJ _  hc3) (cwV 0 C.2.2.2.2.2.1 gX12_takes_X12_fails rfl rfl rfl (by decide +kernel) ⟨(Nat.le_of_ble_eq_true rfl), (Nat.le_of_ble_eq_true rfl)⟩) 0 12 rfl rfl rfl hl.1 rfl (Nat.le_of_ble_eq_true rfl) dX12_takes_17 ⟨Nat.zero_le _, Nat.zero_le _⟩ (fun H locs hP hS => ?_)
  obtain ⟨hg4, h⟩ := gd_some h
  cases h
  exact rt_z hg4 C hP hS dX12_takes_20
set_option maxHeartbeats 4000000 in
set_option maxRecDepth 100000 in
theorem wX12_takes_0 {p : Program} {l : Launch} {e : Env} {s : State} {m : MethodId} {args : Array Value} {below : List Frame} {meth : Method} {c : Code} {D : va_G} {cy : Nat → ClassId} {ad st : Nat → Nat} (C : Cx RX12 cX12_takes 2 (some .boolean) wsX12_takes p s m args meth c) (hK : Kx D [(cy 0, .int), (cy 1, .long), (cy 2, .boolean), (cy 3, .byte), (cy 4, .object "HissHorn$Text")] st s) (hJ : JM ad) (x1 : Int32) {u : SX} {r : Int32} {u' : SX} {H : Heap} {locs : List Loc} {ls : Array Slot} (h : fX12_takes_0 x1 u = some (r, u')) (hP : va_P D vwCl (VM cy ad st u) H) (hS : va_S (Ax (AM ad) s.heap.size) s.heap H locs) (hl : lv_has ls 2 [(0, .ref (ad 0)), (1, .int x1)]) : W p l e rmX12_takes_0 s m args below meth c H locs 0 0 (MQ below (Qi D (VM cy ad st) (AM ad) s.heap.size r u') args s 0 0 (Ax (AM ad) s.heap.size)) (F0 m 0 ls []) := by
  unfold fX12_takes_0 at h
  refine lv_aload_n C.1 C.2.1 dX12_takes_0 rfl (lv_at hl 0 rfl) ?_
  refine gM_0_fault C hX12_takes_0_X12 hK hP mX12_takes_0_1 dX12_takes_1 ?_
  refine lv_iconst (v := (-1)) C.1 C.2.1 dX12_takes_4 (by decide) ?_
  refine lv_icmp_ne (tgt := 16) C.1 C.2.1 dX12_takes_5 (by decide) (fun c5 => ?_) (fun c5 => ?_)
  · rw [if_neg c5] at h
    exact wGX12_takes_0_16 C hK hJ _ _ _ _ h hP hS (lv_sub hl [0] rfl)
  · rw [if_pos c5] at h
    refine lv_aload_n C.1 C.2.1 dX12_takes_8 rfl (lv_at hl 0 rfl) ?_
    obtain ⟨⟨r5, u6⟩, hc7, h⟩ := bd_some h
    try dsimp only at h
    refine cg_i (As := []) (rest := []) C hK hP hS (metX12_look_0 l D cy ad st hJ _  hc7) (cwV 0 C.2.2.2.2.2.1 gX12_takes_X12_look rfl rfl rfl (by decide +kernel) ⟨(Nat.le_of_ble_eq_true rfl), (Nat.le_of_ble_eq_true rfl)⟩) 0 12 rfl rfl rfl hl.1 rfl (Nat.le_of_ble_eq_true rfl) dX12_takes_9 ⟨Nat.zero_le _, Nat.zero_le _⟩ (fun H locs hP hS => ?_)
    refine lv_iload_n C.1 C.2.1 dX12_takes_12 rfl (lv_at hl 1 rfl) ?_
    refine lv_icmp_eq (tgt := 21) C.1 C.2.1 dX12_takes_13 (by decide) (fun c13 => ?_) (fun c13 => ?_)
    · rw [if_pos c13] at h
      refine lv_aload_n C.1 C.2.1 dX12_takes_21 rfl (lv_at hl 0 rfl) ?_
      refine lv_dup C.1 C.2.1 dX12_takes_22 rfl ?_
      refine gM_0_at C hX12_takes_0_X12 hK hP mX12_takes_0_2 dX12_takes_23 ?_
      refine lv_iconst (v := 1) C.1 C.2.1 dX12_takes_26 (by decide) ?_
      refine lv_iadd C.1 C.2.1 dX12_takes_27 ?_
      refine pM_0_at C hX12_takes_0_X12 hK hP hJ hS mX12_takes_0_2 dX12_takes_28 (fun H locs hP hS => ?_)
      obtain ⟨u8, hu9, h⟩ := lt_some h
      rw [← hu9] at hP
      refine lv_iconst (v := 1) C.1 C.2.1 dX12_takes_31 (by decide) ?_
      obtain ⟨hg10, h⟩ := gd_some h
      cases h
      exact rt_z hg10 C hP hS dX12_takes_32
    · rw [if_neg c13] at h
      exact wGX12_takes_0_16 C hK hJ _ _ _ _ h hP hS (lv_sub hl [0] rfl)
theorem metX12_takes_0 (l : Launch) (D : va_G) (cy : Nat → ClassId) (ad st : Nat → Nat) (hJ : JM ad) (sz : Nat) (x1 : Int32) {u : SX} {r : Int32} {u' : SX} (h : fX12_takes_0 x1 u = some (r, u')) : Met l yX12_takes wsX12_takes rmX12_takes_0 (va_Pc [.ref (ad 0), .int x1] (Px D [(cy 0, .int), (cy 1, .long), (cy 2, .boolean), (cy 3, .byte), (cy 4, .object "HissHorn$Text")] st (VM cy ad st) sz u)) (Qi D (VM cy ad st) (AM ad) sz r u') 0 0 (Ax (AM ad) sz) := by
  refine Met.ofW (cc := cX12_takes) (maxL := 2) (ret := (some .boolean)) (by decide) rfl ?_
  intro p e s m args below meth c s₁ B hml hv
  obtain ⟨rfl, hsz, hP, hK⟩ := hv
  subst hsz
  have C : Cx RX12 cX12_takes 2 (some .boolean) wsX12_takes p s m _ meth c := ⟨B.exec, B.bytes, hml, B.returns, findClass_of_methodNamed B.named, atoms_spec (ws := wsX12_takes) B.pre, B.notSynchronized⟩
  have hl := lv_entry ([.ref (ad 0), .int x1]) (n := 2) (Nat.le_of_ble_eq_true rfl)
  rw [lg_entry_eq]
  exact wX12_takes_0 C hK hJ x1 h hP va_S.rf hl

theorem dX12_isDigit_0 : decode cX12_isDigit 0 = .ok (.aload_n 0, 1) := by decide +kernel
theorem dX12_isDigit_1 : decode cX12_isDigit 1 = .ok (.getfield 173, 3) := by decide +kernel
theorem dX12_isDigit_4 : decode cX12_isDigit 4 = .ok (.aload_n 0, 1) := by decide +kernel
theorem dX12_isDigit_5 : decode cX12_isDigit 5 = .ok (.getfield 176, 3) := by decide +kernel
theorem dX12_isDigit_8 : decode cX12_isDigit 8 = .ok (.if_icmp .ge 45, 3) := by decide +kernel
theorem dX12_isDigit_53 : decode cX12_isDigit 53 = .ok (.iconst 0, 1) := by decide +kernel
theorem dX12_isDigit_54 : decode cX12_isDigit 54 = .ok (.ireturn, 1) := by decide +kernel
theorem dX12_isDigit_11 : decode cX12_isDigit 11 = .ok (.aload_n 0, 1) := by decide +kernel
theorem dX12_isDigit_12 : decode cX12_isDigit 12 = .ok (.getfield 26, 3) := by decide +kernel
theorem dX12_isDigit_15 : decode cX12_isDigit 15 = .ok (.aload_n 0, 1) := by decide +kernel
theorem dX12_isDigit_16 : decode cX12_isDigit 16 = .ok (.getfield 179, 3) := by decide +kernel
theorem dX12_isDigit_19 : decode cX12_isDigit 19 = .ok (.aload_n 0, 1) := by decide +kernel
theorem dX12_isDigit_20 : decode cX12_isDigit 20 = .ok (.getfield 173, 3) := by decide +kernel
theorem dX12_isDigit_23 : decode cX12_isDigit 23 = .ok (.iadd, 1) := by decide +kernel
theorem dX12_isDigit_24 : decode cX12_isDigit 24 = .ok (.baload, 1) := by decide +kernel
theorem dX12_isDigit_25 : decode cX12_isDigit 25 = .ok (.bipush 48, 2) := by decide +kernel
theorem dX12_isDigit_27 : decode cX12_isDigit 27 = .ok (.if_icmp .lt 26, 3) := by decide +kernel
theorem dX12_isDigit_30 : decode cX12_isDigit 30 = .ok (.aload_n 0, 1) := by decide +kernel
theorem dX12_isDigit_31 : decode cX12_isDigit 31 = .ok (.getfield 26, 3) := by decide +kernel
theorem dX12_isDigit_34 : decode cX12_isDigit 34 = .ok (.aload_n 0, 1) := by decide +kernel
theorem dX12_isDigit_35 : decode cX12_isDigit 35 = .ok (.getfield 179, 3) := by decide +kernel
theorem dX12_isDigit_38 : decode cX12_isDigit 38 = .ok (.aload_n 0, 1) := by decide +kernel
theorem dX12_isDigit_39 : decode cX12_isDigit 39 = .ok (.getfield 173, 3) := by decide +kernel
theorem dX12_isDigit_42 : decode cX12_isDigit 42 = .ok (.iadd, 1) := by decide +kernel
theorem dX12_isDigit_43 : decode cX12_isDigit 43 = .ok (.baload, 1) := by decide +kernel
theorem dX12_isDigit_44 : decode cX12_isDigit 44 = .ok (.bipush 57, 2) := by decide +kernel
theorem dX12_isDigit_46 : decode cX12_isDigit 46 = .ok (.if_icmp .gt 7, 3) := by decide +kernel
theorem dX12_isDigit_49 : decode cX12_isDigit 49 = .ok (.iconst 1, 1) := by decide +kernel
theorem dX12_isDigit_50 : decode cX12_isDigit 50 = .ok (.goto 4, 3) := by decide +kernel
/-- HissHornModel.isDigit()Z of cell 0 -/
def rmX12_isDigit_0 : Room := { frames := 0, cells := 0, slots := 0, locals := 0 }
theorem hX12_isDigit_0_X12 : ∀ w ∈ u_ws RX12 TX12 69, w ∈ wsX12_isDigit := fun w h => (List.mem_cons_of_mem _ (List.mem_append_right _ h))
theorem mX12_isDigit_0_1 : Cond.fieldLink RX12 173 "HissHornModel" "at" "I" ∈ wsX12_isDigit := (List.mem_cons_of_mem _ (List.mem_append_left _ (List.mem_of_getElem? (i := 0) rfl)))
theorem mX12_isDigit_0_2 : Cond.fieldLink RX12 176 "HissHornModel" "ends" "I" ∈ wsX12_isDigit := (List.mem_cons_of_mem _ (List.mem_append_left _ (List.mem_of_getElem? (i := 1) rfl)))
theorem mX12_isDigit_0_3 : Cond.fieldLink RX12 26 "HissHornModel" "text" "[B" ∈ wsX12_isDigit := (List.mem_cons_of_mem _ (List.mem_append_left _ (List.mem_of_getElem? (i := 2) rfl)))
theorem mX12_isDigit_0_4 : Cond.fieldLink RX12 179 "HissHornModel" "begins" "I" ∈ wsX12_isDigit := (List.mem_cons_of_mem _ (List.mem_append_left _ (List.mem_of_getElem? (i := 3) rfl)))
def fX12_isDigit_0  (u : SX) : Option (Int32 × SX) := (if (u.1 5) ≤ (u.1 6) then (gd (isB 0) (some (0, u))) else (if u.1 2 = 2 then (gd (inb ((u.1 4) + (u.1 6)) 120) (if (u.2.1 1 ((u.1 4) + (u.1 6)).toNatClampNeg) < 48 then (gd (isB 0) (some (0, u))) else (if u.1 2 = 2 then (gd (inb ((u.1 4) + (u.1 6)) 120) (if 57 < (u.2.1 1 ((u.1 4) + (u.1 6)).toNatClampNeg) then (gd (isB 0) (some (0, u))) else (gd (isB 1) (some (1, u))))) else (if u.1 2 = 3 then (gd (inb ((u.1 4) + (u.1 6)) 4320) (if 57 < (u.2.1 2 ((u.1 4) + (u.1 6)).toNatClampNeg) then (gd (isB 0) (some (0, u))) else (gd (isB 1) (some (1, u))))) else none)))) else (if u.1 2 = 3 then (gd (inb ((u.1 4) + (u.1 6)) 4320) (if (u.2.1 2 ((u.1 4) + (u.1 6)).toNatClampNeg) < 48 then (gd (isB 0) (some (0, u))) else (if u.1 2 = 2 then (gd (inb ((u.1 4) + (u.1 6)) 120) (if 57 < (u.2.1 1 ((u.1 4) + (u.1 6)).toNatClampNeg) then (gd (isB 0) (some (0, u))) else (gd (isB 1) (some (1, u))))) else (if u.1 2 = 3 then (gd (inb ((u.1 4) + (u.1 6)) 4320) (if 57 < (u.2.1 2 ((u.1 4) + (u.1 6)).toNatClampNeg) then (gd (isB 0) (some (0, u))) else (gd (isB 1) (some (1, u))))) else none)))) else none)))
set_option maxHeartbeats 4000000 in
set_option maxRecDepth 100000 in
theorem wX12_isDigit_0 {p : Program} {l : Launch} {e : Env} {s : State} {m : MethodId} {args : Array Value} {below : List Frame} {meth : Method} {c : Code} {D : va_G} {cy : Nat → ClassId} {ad st : Nat → Nat} (C : Cx RX12 cX12_isDigit 1 (some .boolean) wsX12_isDigit p s m args meth c) (hK : Kx D [(cy 0, .int), (cy 1, .long), (cy 2, .boolean), (cy 3, .byte), (cy 4, .object "HissHorn$Text")] st s) (hJ : JM ad)  {u : SX} {r : Int32} {u' : SX} {H : Heap} {locs : List Loc} {ls : Array Slot} (h : fX12_isDigit_0  u = some (r, u')) (hP : va_P D vwCl (VM cy ad st u) H) (hS : va_S (Ax (AM ad) s.heap.size) s.heap H locs) (hl : lv_has ls 1 [(0, .ref (ad 0))]) : W p l e rmX12_isDigit_0 s m args below meth c H locs 0 0 (MQ below (Qi D (VM cy ad st) (AM ad) s.heap.size r u') args s 0 0 (Ax (AM ad) s.heap.size)) (F0 m 0 ls []) := by
  unfold fX12_isDigit_0 at h
  refine lv_aload_n C.1 C.2.1 dX12_isDigit_0 rfl (lv_at hl 0 rfl) ?_
  refine gM_0_at C hX12_isDigit_0_X12 hK hP mX12_isDigit_0_1 dX12_isDigit_1 ?_
  refine lv_aload_n C.1 C.2.1 dX12_isDigit_4 rfl (lv_at hl 0 rfl) ?_
  refine gM_0_ends C hX12_isDigit_0_X12 hK hP mX12_isDigit_0_2 dX12_isDigit_5 ?_
  refine lv_icmp_ge (tgt := 53) C.1 C.2.1 dX12_isDigit_8 (by decide) (fun c8 => ?_) (fun c8 => ?_)
  · rw [if_pos c8] at h
    refine lv_iconst (v := 0) C.1 C.2.1 dX12_isDigit_53 (by decide) ?_
    obtain ⟨hg1, h⟩ := gd_some h
    cases h
    exact rt_z hg1 C hP hS dX12_isDigit_54
  · rw [if_neg c8] at h
    refine lv_aload_n C.1 C.2.1 dX12_isDigit_11 rfl (lv_at hl 0 rfl) ?_
    refine gM_0_text C hX12_isDigit_0_X12 hK hP mX12_isDigit_0_3 dX12_isDigit_12 ?_
    by_cases c12_1 : u.1 2 = 2
    · rw [if_pos c12_1] at h
      refine W.eq (g2 := F0 m 15 ls [.ref (ad 1)]) (by rw [c12_1]; rfl) ?_
      refine lv_aload_n C.1 C.2.1 dX12_isDigit_15 rfl (lv_at hl 0 rfl) ?_
      refine gM_0_begins C hX12_isDigit_0_X12 hK hP mX12_isDigit_0_4 dX12_isDigit_16 ?_
      refine lv_aload_n C.1 C.2.1 dX12_isDigit_19 rfl (lv_at hl 0 rfl) ?_
      refine gM_0_at C hX12_isDigit_0_X12 hK hP mX12_isDigit_0_1 dX12_isDigit_20 ?_
      refine lv_iadd C.1 C.2.1 dX12_isDigit_23 ?_
      obtain ⟨hg2, h⟩ := gd_some h
      refine lM_1 C hK hP hg2 dX12_isDigit_24 ?_
      refine lv_bipush (v := 48) C.1 C.2.1 dX12_isDigit_25 (by decide) ?_
      refine lv_icmp_lt (tgt := 53) C.1 C.2.1 dX12_isDigit_27 (by decide) (fun c27 => ?_) (fun c27 => ?_)
      · rw [if_pos c27] at h
        refine lv_iconst (v := 0) C.1 C.2.1 dX12_isDigit_53 (by decide) ?_
        obtain ⟨hg3, h⟩ := gd_some h
        cases h
        exact rt_z hg3 C hP hS dX12_isDigit_54
      · rw [if_neg c27] at h
        refine lv_aload_n C.1 C.2.1 dX12_isDigit_30 rfl (lv_at hl 0 rfl) ?_
        refine gM_0_text C hX12_isDigit_0_X12 hK hP mX12_isDigit_0_3 dX12_isDigit_31 ?_
        by_cases c31_1 : u.1 2 = 2
        · rw [if_pos c31_1] at h
          refine W.eq (g2 := F0 m 34 ls [.ref (ad 1)]) (by rw [c31_1]; rfl) ?_
          refine lv_aload_n C.1 C.2.1 dX12_isDigit_34 rfl (lv_at hl 0 rfl) ?_
          refine gM_0_begins C hX12_isDigit_0_X12 hK hP mX12_isDigit_0_4 dX12_isDigit_35 ?_
          refine lv_aload_n C.1 C.2.1 dX12_isDigit_38 rfl (lv_at hl 0 rfl) ?_
          refine gM_0_at C hX12_isDigit_0_X12 hK hP mX12_isDigit_0_1 dX12_isDigit_39 ?_
          refine lv_iadd C.1 C.2.1 dX12_isDigit_42 ?_
          obtain ⟨hg4, h⟩ := gd_some h
          refine lM_1 C hK hP hg4 dX12_isDigit_43 ?_
          refine lv_bipush (v := 57) C.1 C.2.1 dX12_isDigit_44 (by decide) ?_
          refine lv_icmp_gt (tgt := 53) C.1 C.2.1 dX12_isDigit_46 (by decide) (fun c46 => ?_) (fun c46 => ?_)
          · rw [if_pos c46] at h
            refine lv_iconst (v := 0) C.1 C.2.1 dX12_isDigit_53 (by decide) ?_
            obtain ⟨hg5, h⟩ := gd_some h
            cases h
            exact rt_z hg5 C hP hS dX12_isDigit_54
          · rw [if_neg c46] at h
            refine lv_iconst (v := 1) C.1 C.2.1 dX12_isDigit_49 (by decide) ?_
            refine lv_goto (tgt := 54) C.1 C.2.1 dX12_isDigit_50 (by decide) ?_
            obtain ⟨hg6, h⟩ := gd_some h
            cases h
            exact rt_z hg6 C hP hS dX12_isDigit_54
        · rw [if_neg c31_1] at h
          by_cases c31_2 : u.1 2 = 3
          · rw [if_pos c31_2] at h
            refine W.eq (g2 := F0 m 34 ls [.ref (ad 2)]) (by rw [c31_2]; rfl) ?_
            refine lv_aload_n C.1 C.2.1 dX12_isDigit_34 rfl (lv_at hl 0 rfl) ?_
            refine gM_0_begins C hX12_isDigit_0_X12 hK hP mX12_isDigit_0_4 dX12_isDigit_35 ?_
            refine lv_aload_n C.1 C.2.1 dX12_isDigit_38 rfl (lv_at hl 0 rfl) ?_
            refine gM_0_at C hX12_isDigit_0_X12 hK hP mX12_isDigit_0_1 dX12_isDigit_39 ?_
            refine lv_iadd C.1 C.2.1 dX12_isDigit_42 ?_
            obtain ⟨hg7, h⟩ := gd_some h
            refine lM_2 C hK hP hg7 dX12_isDigit_43 ?_
            refine lv_bipush (v := 57) C.1 C.2.1 dX12_isDigit_44 (by decide) ?_
            refine lv_icmp_gt (tgt := 53) C.1 C.2.1 dX12_isDigit_46 (by decide) (fun c46 => ?_) (fun c46 => ?_)
            · rw [if_pos c46] at h
              refine lv_iconst (v := 0) C.1 C.2.1 dX12_isDigit_53 (by decide) ?_
              obtain ⟨hg8, h⟩ := gd_some h
              cases h
              exact rt_z hg8 C hP hS dX12_isDigit_54
            · rw [if_neg c46] at h
              refine lv_iconst (v := 1) C.1 C.2.1 dX12_isDigit_49 (by decide) ?_
              refine lv_goto (tgt := 54) C.1 C.2.1 dX12_isDigit_50 (by decide) ?_
              obtain ⟨hg9, h⟩ := gd_some h
              cases h
              exact rt_z hg9 C hP hS dX12_isDigit_54
          · rw [if_neg c31_2] at h
            exact absurd h (by intro q; cases q)
    · rw [if_neg c12_1] at h
      by_cases c12_2 : u.1 2 = 3
      · rw [if_pos c12_2] at h
        refine W.eq (g2 := F0 m 15 ls [.ref (ad 2)]) (by rw [c12_2]; rfl) ?_
        refine lv_aload_n C.1 C.2.1 dX12_isDigit_15 rfl (lv_at hl 0 rfl) ?_
        refine gM_0_begins C hX12_isDigit_0_X12 hK hP mX12_isDigit_0_4 dX12_isDigit_16 ?_
        refine lv_aload_n C.1 C.2.1 dX12_isDigit_19 rfl (lv_at hl 0 rfl) ?_
        refine gM_0_at C hX12_isDigit_0_X12 hK hP mX12_isDigit_0_1 dX12_isDigit_20 ?_
        refine lv_iadd C.1 C.2.1 dX12_isDigit_23 ?_
        obtain ⟨hg10, h⟩ := gd_some h
        refine lM_2 C hK hP hg10 dX12_isDigit_24 ?_
        refine lv_bipush (v := 48) C.1 C.2.1 dX12_isDigit_25 (by decide) ?_
        refine lv_icmp_lt (tgt := 53) C.1 C.2.1 dX12_isDigit_27 (by decide) (fun c27 => ?_) (fun c27 => ?_)
        · rw [if_pos c27] at h
          refine lv_iconst (v := 0) C.1 C.2.1 dX12_isDigit_53 (by decide) ?_
          obtain ⟨hg11, h⟩ := gd_some h
          cases h
          exact rt_z hg11 C hP hS dX12_isDigit_54
        · rw [if_neg c27] at h
          refine lv_aload_n C.1 C.2.1 dX12_isDigit_30 rfl (lv_at hl 0 rfl) ?_
          refine gM_0_text C hX12_isDigit_0_X12 hK hP mX12_isDigit_0_3 dX12_isDigit_31 ?_
          by_cases c31_1 : u.1 2 = 2
          · rw [if_pos c31_1] at h
            refine W.eq (g2 := F0 m 34 ls [.ref (ad 1)]) (by rw [c31_1]; rfl) ?_
            refine lv_aload_n C.1 C.2.1 dX12_isDigit_34 rfl (lv_at hl 0 rfl) ?_
            refine gM_0_begins C hX12_isDigit_0_X12 hK hP mX12_isDigit_0_4 dX12_isDigit_35 ?_
            refine lv_aload_n C.1 C.2.1 dX12_isDigit_38 rfl (lv_at hl 0 rfl) ?_
            refine gM_0_at C hX12_isDigit_0_X12 hK hP mX12_isDigit_0_1 dX12_isDigit_39 ?_
            refine lv_iadd C.1 C.2.1 dX12_isDigit_42 ?_
            obtain ⟨hg12, h⟩ := gd_some h
            refine lM_1 C hK hP hg12 dX12_isDigit_43 ?_
            refine lv_bipush (v := 57) C.1 C.2.1 dX12_isDigit_44 (by decide) ?_
            refine lv_icmp_gt (tgt := 53) C.1 C.2.1 dX12_isDigit_46 (by decide) (fun c46 => ?_) (fun c46 => ?_)
            · rw [if_pos c46] at h
              refine lv_iconst (v := 0) C.1 C.2.1 dX12_isDigit_53 (by decide) ?_
              obtain ⟨hg13, h⟩ := gd_some h
              cases h
              exact rt_z hg13 C hP hS dX12_isDigit_54
            · rw [if_neg c46] at h
              refine lv_iconst (v := 1) C.1 C.2.1 dX12_isDigit_49 (by decide) ?_
              refine lv_goto (tgt := 54) C.1 C.2.1 dX12_isDigit_50 (by decide) ?_
              obtain ⟨hg14, h⟩ := gd_some h
              cases h
              exact rt_z hg14 C hP hS dX12_isDigit_54
          · rw [if_neg c31_1] at h
            by_cases c31_2 : u.1 2 = 3
            · rw [if_pos c31_2] at h
              refine W.eq (g2 := F0 m 34 ls [.ref (ad 2)]) (by rw [c31_2]; rfl) ?_
              refine lv_aload_n C.1 C.2.1 dX12_isDigit_34 rfl (lv_at hl 0 rfl) ?_
              refine gM_0_begins C hX12_isDigit_0_X12 hK hP mX12_isDigit_0_4 dX12_isDigit_35 ?_
              refine lv_aload_n C.1 C.2.1 dX12_isDigit_38 rfl (lv_at hl 0 rfl) ?_
              refine gM_0_at C hX12_isDigit_0_X12 hK hP mX12_isDigit_0_1 dX12_isDigit_39 ?_
              refine lv_iadd C.1 C.2.1 dX12_isDigit_42 ?_
              obtain ⟨hg15, h⟩ := gd_some h
              refine lM_2 C hK hP hg15 dX12_isDigit_43 ?_
              refine lv_bipush (v := 57) C.1 C.2.1 dX12_isDigit_44 (by decide) ?_
              refine lv_icmp_gt (tgt := 53) C.1 C.2.1 dX12_isDigit_46 (by decide) (fun c46 => ?_) (fun c46 => ?_)
              · rw [if_pos c46] at h
                refine lv_iconst (v := 0) C.1 C.2.1 dX12_isDigit_53 (by decide) ?_
                obtain ⟨hg16, h⟩ := gd_some h
                cases h
                exact rt_z hg16 C hP hS dX12_isDigit_54
              · rw [if_neg c46] at h
                refine lv_iconst (v := 1) C.1 C.2.1 dX12_isDigit_49 (by decide) ?_
                refine lv_goto (tgt := 54) C.1 C.2.1 dX12_isDigit_50 (by decide) ?_
                obtain ⟨hg17, h⟩ := gd_some h
                cases h
                exact rt_z hg17 C hP hS dX12_isDigit_54
            · rw [if_neg c31_2] at h
              exact absurd h (by intro q; cases q)
      · rw [if_neg c12_2] at h
        exact absurd h (by intro q; cases q)
theorem metX12_isDigit_0 (l : Launch) (D : va_G) (cy : Nat → ClassId) (ad st : Nat → Nat) (hJ : JM ad) (sz : Nat)  {u : SX} {r : Int32} {u' : SX} (h : fX12_isDigit_0  u = some (r, u')) : Met l yX12_isDigit wsX12_isDigit rmX12_isDigit_0 (va_Pc [.ref (ad 0)] (Px D [(cy 0, .int), (cy 1, .long), (cy 2, .boolean), (cy 3, .byte), (cy 4, .object "HissHorn$Text")] st (VM cy ad st) sz u)) (Qi D (VM cy ad st) (AM ad) sz r u') 0 0 (Ax (AM ad) sz) := by
  refine Met.ofW (cc := cX12_isDigit) (maxL := 1) (ret := (some .boolean)) (by decide) rfl ?_
  intro p e s m args below meth c s₁ B hml hv
  obtain ⟨rfl, hsz, hP, hK⟩ := hv
  subst hsz
  have C : Cx RX12 cX12_isDigit 1 (some .boolean) wsX12_isDigit p s m _ meth c := ⟨B.exec, B.bytes, hml, B.returns, findClass_of_methodNamed B.named, atoms_spec (ws := wsX12_isDigit) B.pre, B.notSynchronized⟩
  have hl := lv_entry ([.ref (ad 0)]) (n := 1) (Nat.le_of_ble_eq_true rfl)
  rw [lg_entry_eq]
  exact wX12_isDigit_0 C hK hJ h hP va_S.rf hl

theorem dX12_within_0 : decode cX12_within 0 = .ok (.ldc2_w 196, 3) := by decide +kernel
theorem dX12_within_3 : decode cX12_within 3 = .ok (.ldc2_w 198, 3) := by decide +kernel
theorem dX12_within_6 : decode cX12_within 6 = .ok (.lload_n 0, 1) := by decide +kernel
theorem dX12_within_7 : decode cX12_within 7 = .ok (.invokestatic 200, 3) := by decide +kernel
theorem dX12_within_10 : decode cX12_within 10 = .ok (.invokestatic 206, 3) := by decide +kernel
theorem dX12_within_13 : decode cX12_within 13 = .ok (.l2i, 1) := by decide +kernel
theorem dX12_within_14 : decode cX12_within 14 = .ok (.ireturn, 1) := by decide +kernel
/-- HissHornModel.within(J)I -/
def rmX12_within : Room := { frames := 1, cells := 0, slots := 0, locals := 17 }
theorem mX12_within_0 : Cond.constantLong RX12 196 (-1000000) ∈ wsX12_within := (List.mem_cons_of_mem _ (List.mem_of_getElem? (i := 0) rfl))
theorem mX12_within_1 : Cond.constantLong RX12 198 (1000000) ∈ wsX12_within := (List.mem_cons_of_mem _ (List.mem_of_getElem? (i := 1) rfl))
theorem mX12_within_2 : Cond.methodLink RX12 200 Lib.MathLoose.min_long.x ∈ wsX12_within := (List.mem_cons_of_mem _ (List.mem_of_getElem? (i := 2) rfl))
theorem mX12_within_3 : Cond.static Lib.MathLoose.min_long.x ∈ wsX12_within := (List.mem_cons_of_mem _ (List.mem_of_getElem? (i := 3) rfl))
theorem mX12_within_4 : Cond.initialized "java/lang/Math" ∈ wsX12_within := (List.mem_cons_of_mem _ (List.mem_of_getElem? (i := 4) rfl))
theorem mX12_within_5 : Cond.code Lib.MathLoose.min_long.x Lib.MathLoose.min_long.code 4 (some .long) ∈ wsX12_within := (List.mem_cons_of_mem _ (List.mem_of_getElem? (i := 5) rfl))
theorem mX12_within_6 : Cond.methodLink RX12 206 Lib.MathLoose.max_long.x ∈ wsX12_within := (List.mem_cons_of_mem _ (List.mem_of_getElem? (i := 6) rfl))
theorem mX12_within_7 : Cond.static Lib.MathLoose.max_long.x ∈ wsX12_within := (List.mem_cons_of_mem _ (List.mem_of_getElem? (i := 7) rfl))
theorem mX12_within_8 : Cond.code Lib.MathLoose.max_long.x Lib.MathLoose.max_long.code 4 (some .long) ∈ wsX12_within := (List.mem_cons_of_mem _ (List.mem_of_getElem? (i := 8) rfl))
def fX12_within (x0 : Int64) : Option Int32 := (some ((if (if x0 < 1000000 then x0 else 1000000) < (-1000000) then (-1000000) else (if x0 < 1000000 then x0 else 1000000)).toInt32))
set_option maxHeartbeats 4000000 in
set_option maxRecDepth 100000 in
theorem wX12_within {p : Program} {l : Launch} {e : Env} {s : State} {m : MethodId} {args : Array Value} {below : List Frame} {meth : Method} {c : Code} {D : va_G} {cy : Nat → ClassId} {st : Nat → Nat} (C : Cx RX12 cX12_within 2 (some .int) wsX12_within p s m args meth c) (hK : Kx D [(cy 0, .int), (cy 1, .long), (cy 2, .boolean), (cy 3, .byte), (cy 4, .object "HissHorn$Text")] st s) (x0 : Int64) {r : Int32} {H : Heap} {locs : List Loc} {ls : Array Slot} (h : fX12_within x0 = some r) (hP : va_P D vwCl (V0 u00) H) (hS : va_S (Ax (A0) s.heap.size) s.heap H locs) (hl : lv_has ls 2 [(0, .long x0)]) : W p l e rmX12_within s m args below meth c H locs 0 0 (MQ below (Qi D (V0) (A0) s.heap.size r u00) args s 0 0 (Ax (A0) s.heap.size)) (F0 m 0 ls []) := by
  unfold fX12_within at h
  refine lv_ldc2 C.1 C.2.1 C.2.2.2.2.1 (C.2.2.2.2.2.1 _ mX12_within_0) dX12_within_0 ?_
  refine lv_ldc2 C.1 C.2.1 C.2.2.2.2.1 (C.2.2.2.2.2.1 _ mX12_within_1) dX12_within_3 ?_
  refine lv_lload_n C.1 C.2.1 dX12_within_6 rfl (lv_at hl 0 rfl) ?_
  refine va_mmin_long C.1 C.2.1 (C.2.2.1.trans hl.1.symm) C.2.2.2.2.1 (C.2.2.2.2.2.1 _ mX12_within_2) (C.2.2.2.2.2.1 _ mX12_within_3) (C.2.2.2.2.2.1 _ mX12_within_4) (C.2.2.2.2.2.1 _ mX12_within_5) (Nat.le_of_ble_eq_true rfl) (Nat.le_of_ble_eq_true rfl) (Nat.zero_le _) (Nat.zero_le _) dX12_within_7 ?_
  refine va_mmax_long C.1 C.2.1 (C.2.2.1.trans hl.1.symm) C.2.2.2.2.1 (C.2.2.2.2.2.1 _ mX12_within_6) (C.2.2.2.2.2.1 _ mX12_within_7) (C.2.2.2.2.2.1 _ mX12_within_4) (C.2.2.2.2.2.1 _ mX12_within_8) (Nat.le_of_ble_eq_true rfl) (Nat.le_of_ble_eq_true rfl) (Nat.zero_le _) (Nat.zero_le _) dX12_within_10 ?_
  refine lv_l2i (v := (if (if x0 < 1000000 then x0 else 1000000) < (-1000000) then (-1000000) else (if x0 < 1000000 then x0 else 1000000)).toInt32) C.1 C.2.1 dX12_within_13 rfl ?_
  cases h
  exact rt_i C hP hS dX12_within_14
theorem metX12_within (l : Launch) (D : va_G) (cy : Nat → ClassId) (st : Nat → Nat) (sz : Nat) (x0 : Int64) {r : Int32} (h : fX12_within x0 = some r) : Met l yX12_within wsX12_within rmX12_within (va_Pc [.long x0] (Px D [(cy 0, .int), (cy 1, .long), (cy 2, .boolean), (cy 3, .byte), (cy 4, .object "HissHorn$Text")] st V0 sz u00)) (Qi D V0 A0 sz r u00) 0 0 (Ax A0 sz) := by
  refine Met.ofW (cc := cX12_within) (maxL := 2) (ret := (some .int)) (by decide) rfl ?_
  intro p e s m args below meth c s₁ B hml hv
  obtain ⟨rfl, hsz, hP, hK⟩ := hv
  subst hsz
  have C : Cx RX12 cX12_within 2 (some .int) wsX12_within p s m _ meth c := ⟨B.exec, B.bytes, hml, B.returns, findClass_of_methodNamed B.named, atoms_spec (ws := wsX12_within) B.pre, B.notSynchronized⟩
  have hl := lv_entry ([.long x0]) (n := 2) (Nat.le_of_ble_eq_true rfl)
  rw [lg_entry_eq]
  exact wX12_within C hK x0 h hP va_S.rf hl

theorem dX12_isSign_0 : decode cX12_isSign 0 = .ok (.iload_n 0, 1) := by decide +kernel
theorem dX12_isSign_1 : decode cX12_isSign 1 = .ok (.bipush 61, 2) := by decide +kernel
theorem dX12_isSign_3 : decode cX12_isSign 3 = .ok (.if_icmp .eq 15, 3) := by decide +kernel
theorem dX12_isSign_18 : decode cX12_isSign 18 = .ok (.iconst 1, 1) := by decide +kernel
theorem dX12_isSign_19 : decode cX12_isSign 19 = .ok (.goto 4, 3) := by decide +kernel
theorem dX12_isSign_23 : decode cX12_isSign 23 = .ok (.ireturn, 1) := by decide +kernel
theorem dX12_isSign_6 : decode cX12_isSign 6 = .ok (.iload_n 0, 1) := by decide +kernel
theorem dX12_isSign_7 : decode cX12_isSign 7 = .ok (.bipush 60, 2) := by decide +kernel
theorem dX12_isSign_9 : decode cX12_isSign 9 = .ok (.if_icmp .eq 9, 3) := by decide +kernel
theorem dX12_isSign_12 : decode cX12_isSign 12 = .ok (.iload_n 0, 1) := by decide +kernel
theorem dX12_isSign_13 : decode cX12_isSign 13 = .ok (.bipush 62, 2) := by decide +kernel
theorem dX12_isSign_15 : decode cX12_isSign 15 = .ok (.if_icmp .ne 7, 3) := by decide +kernel
theorem dX12_isSign_22 : decode cX12_isSign 22 = .ok (.iconst 0, 1) := by decide +kernel
/-- HissHornModel.isSign(I)Z -/
def rmX12_isSign : Room := { frames := 0, cells := 0, slots := 0, locals := 0 }
def fX12_isSign (x0 : Int32) : Option Int32 := (if x0 = 61 then (gd (isB 1) (some 1)) else (if x0 = 60 then (gd (isB 1) (some 1)) else (if x0 = 62 then (gd (isB 1) (some 1)) else (gd (isB 0) (some 0)))))
set_option maxHeartbeats 4000000 in
set_option maxRecDepth 100000 in
theorem wX12_isSign {p : Program} {l : Launch} {e : Env} {s : State} {m : MethodId} {args : Array Value} {below : List Frame} {meth : Method} {c : Code} {D : va_G} {cy : Nat → ClassId} {st : Nat → Nat} (C : Cx RX12 cX12_isSign 1 (some .boolean) wsX12_isSign p s m args meth c) (hK : Kx D [(cy 0, .int), (cy 1, .long), (cy 2, .boolean), (cy 3, .byte), (cy 4, .object "HissHorn$Text")] st s) (x0 : Int32) {r : Int32} {H : Heap} {locs : List Loc} {ls : Array Slot} (h : fX12_isSign x0 = some r) (hP : va_P D vwCl (V0 u00) H) (hS : va_S (Ax (A0) s.heap.size) s.heap H locs) (hl : lv_has ls 1 [(0, .int x0)]) : W p l e rmX12_isSign s m args below meth c H locs 0 0 (MQ below (Qi D (V0) (A0) s.heap.size r u00) args s 0 0 (Ax (A0) s.heap.size)) (F0 m 0 ls []) := by
  unfold fX12_isSign at h
  refine lv_iload_n C.1 C.2.1 dX12_isSign_0 rfl (lv_at hl 0 rfl) ?_
  refine lv_bipush (v := 61) C.1 C.2.1 dX12_isSign_1 (by decide) ?_
  refine lv_icmp_eq (tgt := 18) C.1 C.2.1 dX12_isSign_3 (by decide) (fun c3 => ?_) (fun c3 => ?_)
  · rw [if_pos c3] at h
    refine lv_iconst (v := 1) C.1 C.2.1 dX12_isSign_18 (by decide) ?_
    refine lv_goto (tgt := 23) C.1 C.2.1 dX12_isSign_19 (by decide) ?_
    obtain ⟨hg1, h⟩ := gd_some h
    cases h
    exact rt_z hg1 C hP hS dX12_isSign_23
  · rw [if_neg c3] at h
    refine lv_iload_n C.1 C.2.1 dX12_isSign_6 rfl (lv_at hl 0 rfl) ?_
    refine lv_bipush (v := 60) C.1 C.2.1 dX12_isSign_7 (by decide) ?_
    refine lv_icmp_eq (tgt := 18) C.1 C.2.1 dX12_isSign_9 (by decide) (fun c9 => ?_) (fun c9 => ?_)
    · rw [if_pos c9] at h
      refine lv_iconst (v := 1) C.1 C.2.1 dX12_isSign_18 (by decide) ?_
      refine lv_goto (tgt := 23) C.1 C.2.1 dX12_isSign_19 (by decide) ?_
      obtain ⟨hg2, h⟩ := gd_some h
      cases h
      exact rt_z hg2 C hP hS dX12_isSign_23
    · rw [if_neg c9] at h
      refine lv_iload_n C.1 C.2.1 dX12_isSign_12 rfl (lv_at hl 0 rfl) ?_
      refine lv_bipush (v := 62) C.1 C.2.1 dX12_isSign_13 (by decide) ?_
      refine lv_icmp_ne (tgt := 22) C.1 C.2.1 dX12_isSign_15 (by decide) (fun c15 => ?_) (fun c15 => ?_)
      · rw [if_neg c15] at h
        refine lv_iconst (v := 0) C.1 C.2.1 dX12_isSign_22 (by decide) ?_
        obtain ⟨hg3, h⟩ := gd_some h
        cases h
        exact rt_z hg3 C hP hS dX12_isSign_23
      · rw [if_pos c15] at h
        refine lv_iconst (v := 1) C.1 C.2.1 dX12_isSign_18 (by decide) ?_
        refine lv_goto (tgt := 23) C.1 C.2.1 dX12_isSign_19 (by decide) ?_
        obtain ⟨hg4, h⟩ := gd_some h
        cases h
        exact rt_z hg4 C hP hS dX12_isSign_23
theorem metX12_isSign (l : Launch) (D : va_G) (cy : Nat → ClassId) (st : Nat → Nat) (sz : Nat) (x0 : Int32) {r : Int32} (h : fX12_isSign x0 = some r) : Met l yX12_isSign wsX12_isSign rmX12_isSign (va_Pc [.int x0] (Px D [(cy 0, .int), (cy 1, .long), (cy 2, .boolean), (cy 3, .byte), (cy 4, .object "HissHorn$Text")] st V0 sz u00)) (Qi D V0 A0 sz r u00) 0 0 (Ax A0 sz) := by
  refine Met.ofW (cc := cX12_isSign) (maxL := 1) (ret := (some .boolean)) (by decide) rfl ?_
  intro p e s m args below meth c s₁ B hml hv
  obtain ⟨rfl, hsz, hP, hK⟩ := hv
  subst hsz
  have C : Cx RX12 cX12_isSign 1 (some .boolean) wsX12_isSign p s m _ meth c := ⟨B.exec, B.bytes, hml, B.returns, findClass_of_methodNamed B.named, atoms_spec (ws := wsX12_isSign) B.pre, B.notSynchronized⟩
  have hl := lv_entry ([.int x0]) (n := 1) (Nat.le_of_ble_eq_true rfl)
  rw [lg_entry_eq]
  exact wX12_isSign C hK x0 h hP va_S.rf hl

/-- room of a recursion by its depth -/
def rmX12sumg (d : Nat) : Room := { frames := 2 + d, cells := 0, slots := 0, locals := 41 + 64 * d }
theorem rmX12sumg_f (d : Nat) : 2 ≤ (rmX12sumg d).frames := Nat.le_add_right _ _
theorem rmX12sumg_l (d : Nat) : 41 ≤ (rmX12sumg d).locals := Nat.le_add_right _ _
theorem rmX12sumg_sf (d : Nat) : (rmX12sumg d).frames + 1 ≤ (rmX12sumg (d + 1)).frames := Nat.le_refl _
theorem rmX12sumg_sl (d : Nat) {k : Nat} (h : k ≤ 64) : k + (rmX12sumg d).locals ≤ (rmX12sumg (d + 1)).locals := by show k + (41 + 64 * d) ≤ 41 + 64 * (d + 1); omega
def hRX12sumg (l : Launch) (D : va_G) (cy : Nat → ClassId) (ad st : Nat → Nat) (rc : Nat → Int32 → SX → Option (Int32 × SX)) (dd : Nat) : Prop := (∀ (sz : Nat)  (u : SX) (r : Int32) (u' : SX), rc 0  0 u = some (r, u') → Met l yX12_sum wsX12_sum (rmX12sumg dd) (va_Pc [.ref (ad 0)] (Px D [(cy 0, .int), (cy 1, .long), (cy 2, .boolean), (cy 3, .byte), (cy 4, .object "HissHorn$Text")] st (VM cy ad st) sz u)) (Qi D (VM cy ad st) (AM ad) sz r u') 0 0 (Ax (AM ad) sz)) ∧ (∀ (sz : Nat)  (u : SX) (r : Int32) (u' : SX), rc 1  0 u = some (r, u') → Met l yX12_term wsX12_term (rmX12sumg dd) (va_Pc [.ref (ad 0)] (Px D [(cy 0, .int), (cy 1, .long), (cy 2, .boolean), (cy 3, .byte), (cy 4, .object "HissHorn$Text")] st (VM cy ad st) sz u)) (Qi D (VM cy ad st) (AM ad) sz r u') 0 0 (Ax (AM ad) sz)) ∧ (∀ (sz : Nat)  (u : SX) (r : Int32) (u' : SX), rc 2  0 u = some (r, u') → Met l yX12_atom wsX12_atom (rmX12sumg dd) (va_Pc [.ref (ad 0)] (Px D [(cy 0, .int), (cy 1, .long), (cy 2, .boolean), (cy 3, .byte), (cy 4, .object "HissHorn$Text")] st (VM cy ad st) sz u)) (Qi D (VM cy ad st) (AM ad) sz r u') 0 0 (Ax (AM ad) sz))

set_option maxRecDepth 20000 in
theorem ggX12_sum_X12_within : GoodIn wsX12_sum wsX12_within := goodIn_r _ [16, 17, 18, 19, 20, 21, 22, 23, 24, 25] (by decide +kernel) (by decide +kernel)
set_option maxRecDepth 20000 in
theorem gX12_sum_X12_within : GoodIn wsX12_sum (va_wsS RX12 230 yX12_within wsX12_within) := goodIn_app (goodIn_of _ (by decide +kernel)) ggX12_sum_X12_within
theorem dX12_sum_77 : decode cX12_sum 77 = .ok (.invokestatic 230, 3) := by decide +kernel
theorem dX12_sum_80 : decode cX12_sum 80 = .ok (.istore_n 1, 1) := by decide +kernel
theorem dX12_sum_81 : decode cX12_sum 81 = .ok (.goto (-76), 3) := by decide +kernel
theorem dX12_sum_45 : decode cX12_sum 45 = .ok (.istore_n 2, 1) := by decide +kernel
theorem dX12_sum_46 : decode cX12_sum 46 = .ok (.aload_n 0, 1) := by decide +kernel
theorem dX12_sum_47 : decode cX12_sum 47 = .ok (.dup, 1) := by decide +kernel
theorem dX12_sum_48 : decode cX12_sum 48 = .ok (.getfield 173, 3) := by decide +kernel
theorem dX12_sum_51 : decode cX12_sum 51 = .ok (.iconst 1, 1) := by decide +kernel
theorem dX12_sum_52 : decode cX12_sum 52 = .ok (.iadd, 1) := by decide +kernel
theorem dX12_sum_53 : decode cX12_sum 53 = .ok (.putfield 173, 3) := by decide +kernel
theorem dX12_sum_56 : decode cX12_sum 56 = .ok (.aload_n 0, 1) := by decide +kernel
set_option maxRecDepth 20000 in
theorem ggX12_sum_X12_term : GoodIn wsX12_sum wsX12_term := goodIn_r _ [137, 1, 2, 138, 139, 140, 6, 7, 8, 9, 10, 11, 12, 13, 14, 15, 16, 17, 18, 19, 20, 21, 22, 23, 24, 25, 26, 27, 28, 29, 30, 31, 32, 33, 34, 35, 36, 37, 38, 39, 40, 41, 42, 43, 44, 45, 46, 47, 48, 49, 50, 51, 52, 53, 54, 55, 56, 57, 58, 59, 60, 61, 62, 63, 64, 65, 66, 67, 68, 69, 70, 71, 72, 73, 74, 75, 76, 77, 78, 79, 80, 81, 82, 83, 84, 85, 86, 87, 88, 89, 90, 91, 92, 93, 94, 95, 96, 97, 98, 99, 100, 101, 102, 103, 104, 105, 106, 107, 108, 109, 110, 111, 112, 113, 114, 115, 116, 117, 118, 119, 120, 121, 122, 123, 124, 125, 126, 127, 128, 129, 130, 131, 132, 133, 134, 135, 136, 0, 3, 4, 5, 141, 142, 143, 144, 145, 146, 147, 148, 149, 150, 151, 152, 153, 154, 155, 156, 157, 158, 159, 160, 161, 162, 163, 164, 165, 166, 167, 168, 169, 170, 171, 172, 173, 174, 175, 176, 177, 178, 179, 180, 181, 182, 183, 184, 185, 186, 187, 188, 189, 190, 191, 192, 193, 194, 195, 196, 197, 198, 199, 200, 201, 202, 203, 204, 205, 206, 207, 208, 209] (by decide +kernel) (by decide +kernel)
set_option maxRecDepth 20000 in
theorem gX12_sum_X12_term : GoodIn wsX12_sum (wsV RX12 234 RX12 yX12_term wsX12_term) := goodIn_app (goodIn_of _ (by decide +kernel)) ggX12_sum_X12_term
theorem dX12_sum_57 : decode cX12_sum 57 = .ok (.invokevirtual 234, 3) := by decide +kernel
theorem dX12_sum_60 : decode cX12_sum 60 = .ok (.i2l, 1) := by decide +kernel
theorem dX12_sum_61 : decode cX12_sum 61 = .ok (.lstore_n 3, 1) := by decide +kernel
theorem dX12_sum_62 : decode cX12_sum 62 = .ok (.iload_n 2, 1) := by decide +kernel
theorem dX12_sum_63 : decode cX12_sum 63 = .ok (.ifCond .eq 10, 3) := by decide +kernel
theorem dX12_sum_73 : decode cX12_sum 73 = .ok (.iload_n 1, 1) := by decide +kernel
theorem dX12_sum_74 : decode cX12_sum 74 = .ok (.i2l, 1) := by decide +kernel
theorem dX12_sum_75 : decode cX12_sum 75 = .ok (.lload_n 3, 1) := by decide +kernel
theorem dX12_sum_76 : decode cX12_sum 76 = .ok (.lsub, 1) := by decide +kernel
theorem dX12_sum_66 : decode cX12_sum 66 = .ok (.iload_n 1, 1) := by decide +kernel
theorem dX12_sum_67 : decode cX12_sum 67 = .ok (.i2l, 1) := by decide +kernel
theorem dX12_sum_68 : decode cX12_sum 68 = .ok (.lload_n 3, 1) := by decide +kernel
theorem dX12_sum_69 : decode cX12_sum 69 = .ok (.ladd, 1) := by decide +kernel
theorem dX12_sum_70 : decode cX12_sum 70 = .ok (.goto 7, 3) := by decide +kernel
theorem dX12_sum_31 : decode cX12_sum 31 = .ok (.aload_n 0, 1) := by decide +kernel
set_option maxRecDepth 20000 in
theorem ggX12_sum_X12_look : GoodIn wsX12_sum wsX12_look := goodIn_r _ [10, 2, 11, 12, 13, 141, 142, 143, 144, 145, 146, 147, 148, 149, 150, 151, 152, 153, 154, 155, 156, 157, 158, 159, 160, 161, 162, 163, 164, 165, 166, 167, 168, 169, 170, 171, 172, 173, 174, 175, 176, 177, 178, 179, 180, 181, 182, 183, 184, 185, 186, 187, 188, 189, 190, 191, 192, 193, 194, 195, 196, 197, 198, 199, 200, 201, 202, 203, 204, 205, 206, 207, 208, 209] (by decide +kernel) (by decide +kernel)
set_option maxRecDepth 20000 in
theorem gX12_sum_X12_look : GoodIn wsX12_sum (wsV RX12 192 RX12 yX12_look wsX12_look) := goodIn_app (goodIn_of _ (by decide +kernel)) ggX12_sum_X12_look
theorem dX12_sum_32 : decode cX12_sum 32 = .ok (.invokevirtual 192, 3) := by decide +kernel
theorem dX12_sum_35 : decode cX12_sum 35 = .ok (.bipush 43, 2) := by decide +kernel
theorem dX12_sum_37 : decode cX12_sum 37 = .ok (.if_icmp .ne 7, 3) := by decide +kernel
theorem dX12_sum_44 : decode cX12_sum 44 = .ok (.iconst 0, 1) := by decide +kernel
theorem dX12_sum_40 : decode cX12_sum 40 = .ok (.iconst 1, 1) := by decide +kernel
theorem dX12_sum_41 : decode cX12_sum 41 = .ok (.goto 4, 3) := by decide +kernel
theorem dX12_sum_5 : decode cX12_sum 5 = .ok (.aload_n 0, 1) := by decide +kernel
theorem dX12_sum_6 : decode cX12_sum 6 = .ok (.getfield 182, 3) := by decide +kernel
theorem dX12_sum_9 : decode cX12_sum 9 = .ok (.iconst (-1), 1) := by decide +kernel
theorem dX12_sum_10 : decode cX12_sum 10 = .ok (.if_icmp .ne 74, 3) := by decide +kernel
theorem dX12_sum_84 : decode cX12_sum 84 = .ok (.iload_n 1, 1) := by decide +kernel
theorem dX12_sum_85 : decode cX12_sum 85 = .ok (.ireturn, 1) := by decide +kernel
theorem dX12_sum_13 : decode cX12_sum 13 = .ok (.aload_n 0, 1) := by decide +kernel
theorem dX12_sum_14 : decode cX12_sum 14 = .ok (.invokevirtual 192, 3) := by decide +kernel
theorem dX12_sum_17 : decode cX12_sum 17 = .ok (.bipush 43, 2) := by decide +kernel
theorem dX12_sum_19 : decode cX12_sum 19 = .ok (.if_icmp .eq 12, 3) := by decide +kernel
theorem dX12_sum_22 : decode cX12_sum 22 = .ok (.aload_n 0, 1) := by decide +kernel
theorem dX12_sum_23 : decode cX12_sum 23 = .ok (.invokevirtual 192, 3) := by decide +kernel
theorem dX12_sum_26 : decode cX12_sum 26 = .ok (.bipush 45, 2) := by decide +kernel
theorem dX12_sum_28 : decode cX12_sum 28 = .ok (.if_icmp .ne 56, 3) := by decide +kernel
theorem dX12_sum_0 : decode cX12_sum 0 = .ok (.aload_n 0, 1) := by decide +kernel
theorem dX12_sum_1 : decode cX12_sum 1 = .ok (.invokevirtual 234, 3) := by decide +kernel
theorem dX12_sum_4 : decode cX12_sum 4 = .ok (.istore_n 1, 1) := by decide +kernel
/-- HissHornModel.sum()I of cell 0 -/
theorem hX12_sum_0_X12 : ∀ w ∈ u_ws RX12 TX12 69, w ∈ wsX12_sum := fun w h => (List.mem_cons_of_mem _ (List.mem_append_right _ h))
theorem mX12_sum_0_1 : Cond.fieldLink RX12 182 "HissHornModel" "fault" "I" ∈ wsX12_sum := (List.mem_cons_of_mem _ (List.mem_append_left _ (List.mem_append_left _ (List.mem_of_getElem? (i := 0) rfl))))
theorem mX12_sum_0_2 : Cond.fieldLink RX12 173 "HissHornModel" "at" "I" ∈ wsX12_sum := (List.mem_cons_of_mem _ (List.mem_append_left _ (List.mem_append_left _ (List.mem_of_getElem? (i := 1) rfl))))
def GX12_sum_0_77 (rc : Nat → Int32 → SX → Option (Int32 × SX)) (k5 : Int32 → SX → Option (Int32 × SX)) (y0 : Int64) (u : SX) : Option (Int32 × SX) := ((fX12_within y0).bind fun r17 => (k5 r17 u))
def GX12_sum_0_45 (rc : Nat → Int32 → SX → Option (Int32 × SX)) (k5 : Int32 → SX → Option (Int32 × SX)) (z1 : Int32) (y0 : Int32) (u : SX) : Option (Int32 × SX) := (lt (sI u 6 ((u.1 6) + 1)) fun u10 => ((rc 1  0 u10).bind fun q => match q with | (r12, u13) => (lt (r12.toInt64) fun v15 => (if y0 = 0 then (GX12_sum_0_77 rc k5 ((z1.toInt64) - v15) u13) else (GX12_sum_0_77 rc k5 ((z1.toInt64) + v15) u13)))))
def GX12_sum_0_31 (rc : Nat → Int32 → SX → Option (Int32 × SX)) (k5 : Int32 → SX → Option (Int32 × SX)) (z1 : Int32) (u : SX) : Option (Int32 × SX) := ((fX12_look_0  u).bind fun q => match q with | (r7, u8) => (if r7 = 43 then (GX12_sum_0_45 rc k5 z1 1 u8) else (GX12_sum_0_45 rc k5 z1 0 u8)))
def LX12_sum_0_5 (rc : Nat → Int32 → SX → Option (Int32 × SX))  : Nat → Int32 → SX → Option (Int32 × SX)
  | 0, _, _ => none
  | n + 1, z1, u => (if (u.1 7) = (-1) then ((fX12_look_0  u).bind fun q => match q with | (r4, u5) => (if r4 = 43 then (GX12_sum_0_31 rc (LX12_sum_0_5 rc n) z1 u5) else ((fX12_look_0  u5).bind fun q => match q with | (r20, u21) => (if r20 = 45 then (GX12_sum_0_31 rc (LX12_sum_0_5 rc n) z1 u21) else (some (z1, u21)))))) else (some (z1, u)))
def fX12_sum_0 (rc : Nat → Int32 → SX → Option (Int32 × SX))  (u : SX) : Option (Int32 × SX) := ((rc 1  0 u).bind fun q => match q with | (r1, u2) => (LX12_sum_0_5 rc  5000 r1 u2))
set_option maxHeartbeats 4000000 in
set_option maxRecDepth 100000 in
theorem wGX12_sum_0_77 {p : Program} {l : Launch} {e : Env} {s : State} {m : MethodId} {args : Array Value} {below : List Frame} {meth : Method} {c : Code} {D : va_G} {cy : Nat → ClassId} {ad st : Nat → Nat} (C : Cx RX12 cX12_sum 5 (some .int) wsX12_sum p s m args meth c) (hK : Kx D [(cy 0, .int), (cy 1, .long), (cy 2, .boolean), (cy 3, .byte), (cy 4, .object "HissHorn$Text")] st s) (hJ : JM ad) {rc : Nat → Int32 → SX → Option (Int32 × SX)} {dd : Nat} (hrc : hRX12sumg l D cy ad st rc dd) {r : Int32} {u' : SX} {k5 : Int32 → SX → Option (Int32 × SX)} (hk5 : ∀ (z1 : Int32) (u : SX) (H : Heap) (locs : List Loc) (ls : Array Slot), k5 z1 u = some (r, u') → va_P D vwCl (VM cy ad st u) H → va_S (Ax (AM ad) s.heap.size) s.heap H locs → lv_has ls 5 [(0, .ref (ad 0)), (1, .int z1)] → W p l e (rmX12sumg (dd + 1)) s m args below meth c H locs 0 0 (MQ below (Qi D (VM cy ad st) (AM ad) s.heap.size r u') args s 0 0 (Ax (AM ad) s.heap.size)) (F0 m 5 ls [])) (y0 : Int64) (u : SX) (H : Heap) (locs : List Loc) (ls : Array Slot) (h : GX12_sum_0_77 rc k5 y0 u = some (r, u')) (hP : va_P D vwCl (VM cy ad st u) H) (hS : va_S (Ax (AM ad) s.heap.size) s.heap H locs) (hl : lv_has ls 5 [(0, .ref (ad 0))]) : W p l e (rmX12sumg (dd + 1)) s m args below meth c H locs 0 0 (MQ below (Qi D (VM cy ad st) (AM ad) s.heap.size r u') args s 0 0 (Ax (AM ad) s.heap.size)) (F0 m 77 ls [.long y0]) := by
  unfold GX12_sum_0_77 at h
  obtain ⟨r17, hc19, h⟩ := bd_some h
  refine cs_i (As := [.long y0]) (rest := []) C hK hP hS (metX12_within l D cy st _ y0 hc19) (va_cwS 1 C.2.2.2.2.2.1 gX12_sum_X12_within rfl rfl rfl (by decide +kernel) ⟨(Nat.le_trans (m := 2) (Nat.le_of_ble_eq_true rfl) (rmX12sumg_f _)), (Nat.le_trans (m := 41) (Nat.le_of_ble_eq_true rfl) (rmX12sumg_l _))⟩) rfl hl.1 rfl (Nat.le_of_ble_eq_true rfl) dX12_sum_77 ⟨Nat.zero_le _, Nat.zero_le _⟩ (fun H locs hP hS => ?_)
  refine lv_istore_n (lv' := [(1, .int r17), (0, .ref (ad 0))]) C.1 C.2.1 dX12_sum_80 rfl hl (by decide) rfl (fun ls hl => ?_)
  replace hl := lv_sub (l' := [(0, .ref (ad 0)), (1, .int r17)]) hl [1, 0] rfl
  refine lv_goto (tgt := 5) C.1 C.2.1 dX12_sum_81 (by decide) ?_
  exact hk5 _ _ _ _ _ h hP hS hl
set_option maxHeartbeats 4000000 in
set_option maxRecDepth 100000 in
theorem wGX12_sum_0_45 {p : Program} {l : Launch} {e : Env} {s : State} {m : MethodId} {args : Array Value} {below : List Frame} {meth : Method} {c : Code} {D : va_G} {cy : Nat → ClassId} {ad st : Nat → Nat} (C : Cx RX12 cX12_sum 5 (some .int) wsX12_sum p s m args meth c) (hK : Kx D [(cy 0, .int), (cy 1, .long), (cy 2, .boolean), (cy 3, .byte), (cy 4, .object "HissHorn$Text")] st s) (hJ : JM ad) {rc : Nat → Int32 → SX → Option (Int32 × SX)} {dd : Nat} (hrc : hRX12sumg l D cy ad st rc dd) {r : Int32} {u' : SX} {k5 : Int32 → SX → Option (Int32 × SX)} (hk5 : ∀ (z1 : Int32) (u : SX) (H : Heap) (locs : List Loc) (ls : Array Slot), k5 z1 u = some (r, u') → va_P D vwCl (VM cy ad st u) H → va_S (Ax (AM ad) s.heap.size) s.heap H locs → lv_has ls 5 [(0, .ref (ad 0)), (1, .int z1)] → W p l e (rmX12sumg (dd + 1)) s m args below meth c H locs 0 0 (MQ below (Qi D (VM cy ad st) (AM ad) s.heap.size r u') args s 0 0 (Ax (AM ad) s.heap.size)) (F0 m 5 ls [])) (z1 : Int32) (y0 : Int32) (u : SX) (H : Heap) (locs : List Loc) (ls : Array Slot) (h : GX12_sum_0_45 rc k5 z1 y0 u = some (r, u')) (hP : va_P D vwCl (VM cy ad st u) H) (hS : va_S (Ax (AM ad) s.heap.size) s.heap H locs) (hl : lv_has ls 5 [(0, .ref (ad 0)), (1, .int z1)]) : W p l e (rmX12sumg (dd + 1)) s m args below meth c H locs 0 0 (MQ below (Qi D (VM cy ad st) (AM ad) s.heap.size r u') args s 0 0 (Ax (AM ad) s.heap.size)) (F0 m 45 ls [.int y0]) := by
  unfold GX12_sum_0_45 at h
  refine lv_istore_n (lv' := [(2, .int y0), (0, .ref (ad 0)), (1, .int z1)]) C.1 C.2.1 dX12_sum_45 rfl hl (by decide) rfl (fun ls hl => ?_)
  replace hl := lv_sub (l' := [(0, .ref (ad 0)), (1, .int z1), (2, .int y0)]) hl [1, 2, 0] rfl
  refine lv_aload_n C.1 C.2.1 dX12_sum_46 rfl (lv_at hl 0 rfl) ?_
  refine lv_dup C.1 C.2.1 dX12_sum_47 rfl ?_
  refine gM_0_at C hX12_sum_0_X12 hK hP mX12_sum_0_2 dX12_sum_48 ?_
  refine lv_iconst (v := 1) C.1 C.2.1 dX12_sum_51 (by decide) ?_
  refine lv_iadd C.1 C.2.1 dX12_sum_52 ?_
  refine pM_0_at C hX12_sum_0_X12 hK hP hJ hS mX12_sum_0_2 dX12_sum_53 (fun H locs hP hS => ?_)
  obtain ⟨u10, hu11, h⟩ := lt_some h
  rw [← hu11] at hP
  refine lv_aload_n C.1 C.2.1 dX12_sum_56 rfl (lv_at hl 0 rfl) ?_
  obtain ⟨⟨r12, u13⟩, hc14, h⟩ := bd_some h
  try dsimp only at h
  refine cg_i (As := []) (rest := []) C hK hP hS (hrc.2.1 _  _ _ _ hc14) (cwV 0 C.2.2.2.2.2.1 gX12_sum_X12_term rfl rfl rfl (by decide +kernel) ⟨rmX12sumg_sf dd, rmX12sumg_sl dd (k := 8 + (5 + 11)) (Nat.le_of_ble_eq_true rfl)⟩) 0 12 rfl rfl rfl hl.1 rfl (Nat.le_of_ble_eq_true rfl) dX12_sum_57 ⟨Nat.zero_le _, Nat.zero_le _⟩ (fun H locs hP hS => ?_)
  refine lv_i2l (v := r12.toInt64) C.1 C.2.1 dX12_sum_60 rfl ?_
  refine lv_topl (fun v15 hv16 => ?_)
  replace h := lt_e hv16 h
  try dsimp only at h
  refine lv_lstore_n (lv' := [(3, .long v15), (0, .ref (ad 0)), (1, .int z1), (2, .int y0)]) C.1 C.2.1 dX12_sum_61 rfl hl (by decide) rfl (fun ls hl => ?_)
  replace hl := lv_sub (l' := [(0, .ref (ad 0)), (1, .int z1), (2, .int y0), (3, .long v15)]) hl [1, 2, 3, 0] rfl
  refine lv_iload_n C.1 C.2.1 dX12_sum_62 rfl (lv_at hl 2 rfl) ?_
  refine lv_if_eq (tgt := 73) C.1 C.2.1 dX12_sum_63 (by decide) (fun c63 => ?_) (fun c63 => ?_)
  · rw [if_pos c63] at h
    refine lv_iload_n C.1 C.2.1 dX12_sum_73 rfl (lv_at hl 1 rfl) ?_
    refine lv_i2l (v := z1.toInt64) C.1 C.2.1 dX12_sum_74 rfl ?_
    refine lv_lload_n C.1 C.2.1 dX12_sum_75 rfl (lv_at hl 3 rfl) ?_
    refine lv_lsub C.1 C.2.1 dX12_sum_76 ?_
    exact wGX12_sum_0_77 C hK hJ hrc hk5 _ _ _ _ _ h hP hS (lv_sub hl [0] rfl)
  · rw [if_neg c63] at h
    refine lv_iload_n C.1 C.2.1 dX12_sum_66 rfl (lv_at hl 1 rfl) ?_
    refine lv_i2l (v := z1.toInt64) C.1 C.2.1 dX12_sum_67 rfl ?_
    refine lv_lload_n C.1 C.2.1 dX12_sum_68 rfl (lv_at hl 3 rfl) ?_
    refine lv_ladd C.1 C.2.1 dX12_sum_69 ?_
    refine lv_goto (tgt := 77) C.1 C.2.1 dX12_sum_70 (by decide) ?_
    exact wGX12_sum_0_77 C hK hJ hrc hk5 _ _ _ _ _ h hP hS (lv_sub hl [0] rfl)
set_option maxHeartbeats 4000000 in
set_option maxRecDepth 100000 in
theorem wGX12_sum_0_31 {p : Program} {l : Launch} {e : Env} {s : State} {m : MethodId} {args : Array Value} {below : List Frame} {meth : Method} {c : Code} {D : va_G} {cy : Nat → ClassId} {ad st : Nat → Nat} (C : Cx RX12 cX12_sum 5 (some .int) wsX12_sum p s m args meth c) (hK : Kx D [(cy 0, .int), (cy 1, .long), (cy 2, .boolean), (cy 3, .byte), (cy 4, .object "HissHorn$Text")] st s) (hJ : JM ad) {rc : Nat → Int32 → SX → Option (Int32 × SX)} {dd : Nat} (hrc : hRX12sumg l D cy ad st rc dd) {r : Int32} {u' : SX} {k5 : Int32 → SX → Option (Int32 × SX)} (hk5 : ∀ (z1 : Int32) (u : SX) (H : Heap) (locs : List Loc) (ls : Array Slot), k5 z1 u = some (r, u') → va_P D vwCl (VM cy ad st u) H → va_S (Ax (AM ad) s.heap.size) s.heap H locs → lv_has ls 5 [(0, .ref (ad 0)), (1, .int z1)] → W p l e (rmX12sumg (dd + 1)) s m args below meth c H locs 0 0 (MQ below (Qi D (VM cy ad st) (AM ad) s.heap.size r u') args s 0 0 (Ax (AM ad) s.heap.size)) (F0 m 5 ls [])) (z1 : Int32) (u : SX) (H : Heap) (locs : List Loc) (ls : Array Slot) (h : GX12_sum_0_31 rc k5 z1 u = some (r, u')) (hP : va_P D vwCl (VM cy ad st u) H) (hS : va_S (Ax (AM ad) s.heap.size) s.heap H locs) (hl : lv_has ls 5 [(0, .ref (ad 0)), (1, .int z1)]) : W p l e (rmX12sumg (dd + 1)) s m args below meth c H locs 0 0 (MQ below (Qi D (VM cy ad st) (AM ad) s.heap.size r u') args s 0 0 (Ax (AM ad) s.heap.size)) (F0 m 31 ls []) := by
  unfold GX12_sum_0_31 at h
  refine lv_aload_n C.1 C.2.1 dX12_sum_31 rfl (lv_at hl 0 rfl) ?_
  obtain ⟨⟨r7, u8⟩, hc9, h⟩ := bd_some h
  try dsimp only at h
  refine cg_i (As := []) (rest := []) C hK hP hS (metX12_look_0 l D cy ad st hJ _  hc9) (cwV 0 C.2.2.2.2.2.1 gX12_sum_X12_look rfl rfl rfl (by decide +kernel) ⟨(Nat.le_trans (m := 2) (Nat.le_of_ble_eq_true rfl) (rmX12sumg_f _)), (Nat.le_trans (m := 41) (Nat.le_of_ble_eq_true rfl) (rmX12sumg_l _))⟩) 0 12 rfl rfl rfl hl.1 rfl (Nat.le_of_ble_eq_true rfl) dX12_sum_32 ⟨Nat.zero_le _, Nat.zero_le _⟩ (fun H locs hP hS => ?_)
  refine lv_bipush (v := 43) C.1 C.2.1 dX12_sum_35 (by decide) ?_
  refine lv_icmp_ne (tgt := 44) C.1 C.2.1 dX12_sum_37 (by decide) (fun c37 => ?_) (fun c37 => ?_)
  · rw [if_neg c37] at h
    refine lv_iconst (v := 0) C.1 C.2.1 dX12_sum_44 (by decide) ?_
    exact wGX12_sum_0_45 C hK hJ hrc hk5 _ _ _ _ _ _ h hP hS hl
  · rw [if_pos c37] at h
    refine lv_iconst (v := 1) C.1 C.2.1 dX12_sum_40 (by decide) ?_
    refine lv_goto (tgt := 45) C.1 C.2.1 dX12_sum_41 (by decide) ?_
    exact wGX12_sum_0_45 C hK hJ hrc hk5 _ _ _ _ _ _ h hP hS hl
set_option maxHeartbeats 4000000 in
set_option maxRecDepth 100000 in
theorem wLX12_sum_0_5 {p : Program} {l : Launch} {e : Env} {s : State} {m : MethodId} {args : Array Value} {below : List Frame} {meth : Method} {c : Code} {D : va_G} {cy : Nat → ClassId} {ad st : Nat → Nat} (C : Cx RX12 cX12_sum 5 (some .int) wsX12_sum p s m args meth c) (hK : Kx D [(cy 0, .int), (cy 1, .long), (cy 2, .boolean), (cy 3, .byte), (cy 4, .object "HissHorn$Text")] st s) (hJ : JM ad) {rc : Nat → Int32 → SX → Option (Int32 × SX)} {dd : Nat} (hrc : hRX12sumg l D cy ad st rc dd) {r : Int32} {u' : SX}   : ∀ (n : Nat) (z1 : Int32) (u : SX) (H : Heap) (locs : List Loc) (ls : Array Slot), LX12_sum_0_5 rc  n z1 u = some (r, u') → va_P D vwCl (VM cy ad st u) H → va_S (Ax (AM ad) s.heap.size) s.heap H locs → lv_has ls 5 [(0, .ref (ad 0)), (1, .int z1)] → W p l e (rmX12sumg (dd + 1)) s m args below meth c H locs 0 0 (MQ below (Qi D (VM cy ad st) (AM ad) s.heap.size r u') args s 0 0 (Ax (AM ad) s.heap.size)) (F0 m 5 ls []) := by
  intro n
  induction n with
  | zero =>
    intro z1 u H locs ls h
    exact absurd h (by intro q; cases q)
  | succ n ih =>
    intro z1 u H locs ls h hP hS hl
    rw [LX12_sum_0_5] at h
    refine lv_aload_n C.1 C.2.1 dX12_sum_5 rfl (lv_at hl 0 rfl) ?_
    refine gM_0_fault C hX12_sum_0_X12 hK hP mX12_sum_0_1 dX12_sum_6 ?_
    refine lv_iconst (v := (-1)) C.1 C.2.1 dX12_sum_9 (by decide) ?_
    refine lv_icmp_ne (tgt := 84) C.1 C.2.1 dX12_sum_10 (by decide) (fun c10 => ?_) (fun c10 => ?_)
    · rw [if_neg c10] at h
      refine lv_iload_n C.1 C.2.1 dX12_sum_84 rfl (lv_at hl 1 rfl) ?_
      cases h
      exact rt_i C hP hS dX12_sum_85
    · rw [if_pos c10] at h
      refine lv_aload_n C.1 C.2.1 dX12_sum_13 rfl (lv_at hl 0 rfl) ?_
      obtain ⟨⟨r4, u5⟩, hc6, h⟩ := bd_some h
      try dsimp only at h
      refine cg_i (As := []) (rest := []) C hK hP hS (metX12_look_0 l D cy ad st hJ _  hc6) (cwV 0 C.2.2.2.2.2.1 gX12_sum_X12_look rfl rfl rfl (by decide +kernel) ⟨(Nat.le_trans (m := 2) (Nat.le_of_ble_eq_true rfl) (rmX12sumg_f _)), (Nat.le_trans (m := 41) (Nat.le_of_ble_eq_true rfl) (rmX12sumg_l _))⟩) 0 12 rfl rfl rfl hl.1 rfl (Nat.le_of_ble_eq_true rfl) dX12_sum_14 ⟨Nat.zero_le _, Nat.zero_le _⟩ (fun H locs hP hS => ?_)
      refine lv_bipush (v := 43) C.1 C.2.1 dX12_sum_17 (by decide) ?_
      refine lv_icmp_eq (tgt := 31) C.1 C.2.1 dX12_sum_19 (by decide) (fun c19 => ?_) (fun c19 => ?_)
      · rw [if_pos c19] at h
        exact wGX12_sum_0_31 C hK hJ hrc ih _ _ _ _ _ h hP hS hl
      · rw [if_neg c19] at h
        refine lv_aload_n C.1 C.2.1 dX12_sum_22 rfl (lv_at hl 0 rfl) ?_
        obtain ⟨⟨r20, u21⟩, hc22, h⟩ := bd_some h
        try dsimp only at h
        refine cg_i (As := []) (rest := []) C hK hP hS (metX12_look_0 l D cy ad st hJ _  hc22) (cwV 0 C.2.2.2.2.2.1 gX12_sum_X12_look rfl rfl rfl (by decide +kernel) ⟨(Nat.le_trans (m := 2) (Nat.le_of_ble_eq_true rfl) (rmX12sumg_f _)), (Nat.le_trans (m := 41) (Nat.le_of_ble_eq_true rfl) (rmX12sumg_l _))⟩) 0 12 rfl rfl rfl hl.1 rfl (Nat.le_of_ble_eq_true rfl) dX12_sum_23 ⟨Nat.zero_le _, Nat.zero_le _⟩ (fun H locs hP hS => ?_)
        refine lv_bipush (v := 45) C.1 C.2.1 dX12_sum_26 (by decide) ?_
        refine lv_icmp_ne (tgt := 84) C.1 C.2.1 dX12_sum_28 (by decide) (fun c28 => ?_) (fun c28 => ?_)
        · rw [if_neg c28] at h
          refine lv_iload_n C.1 C.2.1 dX12_sum_84 rfl (lv_at hl 1 rfl) ?_
          cases h
          exact rt_i C hP hS dX12_sum_85
        · rw [if_pos c28] at h
          exact wGX12_sum_0_31 C hK hJ hrc ih _ _ _ _ _ h hP hS hl
set_option maxHeartbeats 4000000 in
set_option maxRecDepth 100000 in
theorem wX12_sum_0 {p : Program} {l : Launch} {e : Env} {s : State} {m : MethodId} {args : Array Value} {below : List Frame} {meth : Method} {c : Code} {D : va_G} {cy : Nat → ClassId} {ad st : Nat → Nat} (C : Cx RX12 cX12_sum 5 (some .int) wsX12_sum p s m args meth c) (hK : Kx D [(cy 0, .int), (cy 1, .long), (cy 2, .boolean), (cy 3, .byte), (cy 4, .object "HissHorn$Text")] st s) (hJ : JM ad) {rc : Nat → Int32 → SX → Option (Int32 × SX)} {dd : Nat} (hrc : hRX12sumg l D cy ad st rc dd)  {u : SX} {r : Int32} {u' : SX} {H : Heap} {locs : List Loc} {ls : Array Slot} (h : fX12_sum_0 rc  u = some (r, u')) (hP : va_P D vwCl (VM cy ad st u) H) (hS : va_S (Ax (AM ad) s.heap.size) s.heap H locs) (hl : lv_has ls 5 [(0, .ref (ad 0))]) : W p l e (rmX12sumg (dd + 1)) s m args below meth c H locs 0 0 (MQ below (Qi D (VM cy ad st) (AM ad) s.heap.size r u') args s 0 0 (Ax (AM ad) s.heap.size)) (F0 m 0 ls []) := by
  unfold fX12_sum_0 at h
  refine lv_aload_n C.1 C.2.1 dX12_sum_0 rfl (lv_at hl 0 rfl) ?_
  obtain ⟨⟨r1, u2⟩, hc3, h⟩ := bd_some h
  try dsimp only at h
  refine cg_i (As := []) (rest := []) C hK hP hS (hrc.2.1 _  _ _ _ hc3) (cwV 0 C.2.2.2.2.2.1 gX12_sum_X12_term rfl rfl rfl (by decide +kernel) ⟨rmX12sumg_sf dd, rmX12sumg_sl dd (k := 8 + (5 + 11)) (Nat.le_of_ble_eq_true rfl)⟩) 0 12 rfl rfl rfl hl.1 rfl (Nat.le_of_ble_eq_true rfl) dX12_sum_1 ⟨Nat.zero_le _, Nat.zero_le _⟩ (fun H locs hP hS => ?_)
  refine lv_istore_n (lv' := [(1, .int r1), (0, .ref (ad 0))]) C.1 C.2.1 dX12_sum_4 rfl hl (by decide) rfl (fun ls hl => ?_)
  replace hl := lv_sub (l' := [(0, .ref (ad 0)), (1, .int r1)]) hl [1, 0] rfl
  exact wLX12_sum_0_5 C hK hJ hrc  5000 _ _ _ _ _ h hP hS hl
theorem metX12_sum_0 (l : Launch) (D : va_G) (cy : Nat → ClassId) (ad st : Nat → Nat) (hJ : JM ad) {rc : Nat → Int32 → SX → Option (Int32 × SX)} {dd : Nat} (hrc : hRX12sumg l D cy ad st rc dd) (sz : Nat)  {u : SX} {r : Int32} {u' : SX} (h : fX12_sum_0 rc  u = some (r, u')) : Met l yX12_sum wsX12_sum (rmX12sumg (dd + 1)) (va_Pc [.ref (ad 0)] (Px D [(cy 0, .int), (cy 1, .long), (cy 2, .boolean), (cy 3, .byte), (cy 4, .object "HissHorn$Text")] st (VM cy ad st) sz u)) (Qi D (VM cy ad st) (AM ad) sz r u') 0 0 (Ax (AM ad) sz) := by
  refine Met.ofW (cc := cX12_sum) (maxL := 5) (ret := (some .int)) (by decide) rfl ?_
  intro p e s m args below meth c s₁ B hml hv
  obtain ⟨rfl, hsz, hP, hK⟩ := hv
  subst hsz
  have C : Cx RX12 cX12_sum 5 (some .int) wsX12_sum p s m _ meth c := ⟨B.exec, B.bytes, hml, B.returns, findClass_of_methodNamed B.named, atoms_spec (ws := wsX12_sum) B.pre, B.notSynchronized⟩
  have hl := lv_entry ([.ref (ad 0)]) (n := 5) (Nat.le_of_ble_eq_true rfl)
  rw [lg_entry_eq]
  exact wX12_sum_0 C hK hJ hrc h hP va_S.rf hl

set_option maxRecDepth 20000 in
theorem ggX12_term_X12_within : GoodIn wsX12_term wsX12_within := goodIn_r _ [16, 17, 18, 19, 20, 21, 22, 23, 24, 25] (by decide +kernel) (by decide +kernel)
set_option maxRecDepth 20000 in
theorem gX12_term_X12_within : GoodIn wsX12_term (va_wsS RX12 230 yX12_within wsX12_within) := goodIn_app (goodIn_of _ (by decide +kernel)) ggX12_term_X12_within
theorem dX12_term_87 : decode cX12_term 87 = .ok (.invokestatic 230, 3) := by decide +kernel
theorem dX12_term_90 : decode cX12_term 90 = .ok (.istore_n 1, 1) := by decide +kernel
theorem dX12_term_91 : decode cX12_term 91 = .ok (.goto (-86), 3) := by decide +kernel
theorem dX12_term_45 : decode cX12_term 45 = .ok (.istore_n 2, 1) := by decide +kernel
theorem dX12_term_46 : decode cX12_term 46 = .ok (.aload_n 0, 1) := by decide +kernel
theorem dX12_term_47 : decode cX12_term 47 = .ok (.dup, 1) := by decide +kernel
theorem dX12_term_48 : decode cX12_term 48 = .ok (.getfield 173, 3) := by decide +kernel
theorem dX12_term_51 : decode cX12_term 51 = .ok (.iconst 1, 1) := by decide +kernel
theorem dX12_term_52 : decode cX12_term 52 = .ok (.iadd, 1) := by decide +kernel
theorem dX12_term_53 : decode cX12_term 53 = .ok (.putfield 173, 3) := by decide +kernel
theorem dX12_term_56 : decode cX12_term 56 = .ok (.aload_n 0, 1) := by decide +kernel
set_option maxRecDepth 20000 in
theorem ggX12_term_X12_atom : GoodIn wsX12_term wsX12_atom := goodIn_r _ [26, 27, 2, 28, 29, 1, 12, 13, 7, 8, 9, 6, 10, 11, 30, 31, 32, 33, 34, 35, 36, 37, 38, 39, 40, 41, 42, 43, 44, 45, 46, 47, 48, 49, 50, 51, 52, 53, 54, 55, 56, 57, 58, 59, 21, 60, 61, 62, 63, 64, 65, 66, 67, 68, 69, 70, 71, 72, 73, 74, 75, 76, 77, 78, 79, 80, 81, 82, 83, 84, 85, 86, 87, 88, 89, 90, 91, 92, 93, 94, 95, 96, 97, 98, 99, 100, 101, 102, 103, 104, 105, 106, 107, 108, 109, 110, 111, 112, 113, 114, 115, 116, 117, 118, 119, 120, 121, 122, 123, 124, 125, 126, 127, 128, 129, 130, 131, 132, 133, 134, 135, 136, 137, 138, 139, 140, 14, 15, 16, 17, 18, 19, 20, 22, 23, 24, 25, 0, 3, 4, 5, 141, 142, 143, 144, 145, 146, 147, 148, 149, 150, 151, 152, 153, 154, 155, 156, 157, 158, 159, 160, 161, 162, 163, 164, 165, 166, 167, 168, 169, 170, 171, 172, 173, 174, 175, 176, 177, 178, 179, 180, 181, 182, 183, 184, 185, 186, 187, 188, 189, 190, 191, 192, 193, 194, 195, 196, 197, 198, 199, 200, 201, 202, 203, 204, 205, 206, 207, 208, 209] (by decide +kernel) (by decide +kernel)
set_option maxRecDepth 20000 in
theorem gX12_term_X12_atom : GoodIn wsX12_term (wsV RX12 227 RX12 yX12_atom wsX12_atom) := goodIn_app (goodIn_of _ (by decide +kernel)) ggX12_term_X12_atom
theorem dX12_term_57 : decode cX12_term 57 = .ok (.invokevirtual 227, 3) := by decide +kernel
theorem dX12_term_60 : decode cX12_term 60 = .ok (.i2l, 1) := by decide +kernel
theorem dX12_term_61 : decode cX12_term 61 = .ok (.lstore_n 3, 1) := by decide +kernel
theorem dX12_term_62 : decode cX12_term 62 = .ok (.iload_n 2, 1) := by decide +kernel
theorem dX12_term_63 : decode cX12_term 63 = .ok (.ifCond .eq 10, 3) := by decide +kernel
theorem dX12_term_73 : decode cX12_term 73 = .ok (.lload_n 3, 1) := by decide +kernel
theorem dX12_term_74 : decode cX12_term 74 = .ok (.lconst 0, 1) := by decide +kernel
theorem dX12_term_75 : decode cX12_term 75 = .ok (.lcmp, 1) := by decide +kernel
theorem dX12_term_76 : decode cX12_term 76 = .ok (.ifCond .ne 7, 3) := by decide +kernel
theorem dX12_term_83 : decode cX12_term 83 = .ok (.iload_n 1, 1) := by decide +kernel
theorem dX12_term_84 : decode cX12_term 84 = .ok (.i2l, 1) := by decide +kernel
theorem dX12_term_85 : decode cX12_term 85 = .ok (.lload_n 3, 1) := by decide +kernel
theorem dX12_term_86 : decode cX12_term 86 = .ok (.ldiv, 1) := by decide +kernel
theorem dX12_term_79 : decode cX12_term 79 = .ok (.lconst 0, 1) := by decide +kernel
theorem dX12_term_80 : decode cX12_term 80 = .ok (.goto 7, 3) := by decide +kernel
theorem dX12_term_66 : decode cX12_term 66 = .ok (.iload_n 1, 1) := by decide +kernel
theorem dX12_term_67 : decode cX12_term 67 = .ok (.i2l, 1) := by decide +kernel
theorem dX12_term_68 : decode cX12_term 68 = .ok (.lload_n 3, 1) := by decide +kernel
theorem dX12_term_69 : decode cX12_term 69 = .ok (.lmul, 1) := by decide +kernel
theorem dX12_term_70 : decode cX12_term 70 = .ok (.goto 17, 3) := by decide +kernel
theorem dX12_term_31 : decode cX12_term 31 = .ok (.aload_n 0, 1) := by decide +kernel
set_option maxRecDepth 20000 in
theorem ggX12_term_X12_look : GoodIn wsX12_term wsX12_look := goodIn_r _ [10, 2, 11, 12, 13, 141, 142, 143, 144, 145, 146, 147, 148, 149, 150, 151, 152, 153, 154, 155, 156, 157, 158, 159, 160, 161, 162, 163, 164, 165, 166, 167, 168, 169, 170, 171, 172, 173, 174, 175, 176, 177, 178, 179, 180, 181, 182, 183, 184, 185, 186, 187, 188, 189, 190, 191, 192, 193, 194, 195, 196, 197, 198, 199, 200, 201, 202, 203, 204, 205, 206, 207, 208, 209] (by decide +kernel) (by decide +kernel)
set_option maxRecDepth 20000 in
theorem gX12_term_X12_look : GoodIn wsX12_term (wsV RX12 192 RX12 yX12_look wsX12_look) := goodIn_app (goodIn_of _ (by decide +kernel)) ggX12_term_X12_look
theorem dX12_term_32 : decode cX12_term 32 = .ok (.invokevirtual 192, 3) := by decide +kernel
theorem dX12_term_35 : decode cX12_term 35 = .ok (.bipush 42, 2) := by decide +kernel
theorem dX12_term_37 : decode cX12_term 37 = .ok (.if_icmp .ne 7, 3) := by decide +kernel
theorem dX12_term_44 : decode cX12_term 44 = .ok (.iconst 0, 1) := by decide +kernel
theorem dX12_term_40 : decode cX12_term 40 = .ok (.iconst 1, 1) := by decide +kernel
theorem dX12_term_41 : decode cX12_term 41 = .ok (.goto 4, 3) := by decide +kernel
theorem dX12_term_5 : decode cX12_term 5 = .ok (.aload_n 0, 1) := by decide +kernel
theorem dX12_term_6 : decode cX12_term 6 = .ok (.getfield 182, 3) := by decide +kernel
theorem dX12_term_9 : decode cX12_term 9 = .ok (.iconst (-1), 1) := by decide +kernel
theorem dX12_term_10 : decode cX12_term 10 = .ok (.if_icmp .ne 84, 3) := by decide +kernel
theorem dX12_term_94 : decode cX12_term 94 = .ok (.iload_n 1, 1) := by decide +kernel
theorem dX12_term_95 : decode cX12_term 95 = .ok (.ireturn, 1) := by decide +kernel
theorem dX12_term_13 : decode cX12_term 13 = .ok (.aload_n 0, 1) := by decide +kernel
theorem dX12_term_14 : decode cX12_term 14 = .ok (.invokevirtual 192, 3) := by decide +kernel
theorem dX12_term_17 : decode cX12_term 17 = .ok (.bipush 42, 2) := by decide +kernel
theorem dX12_term_19 : decode cX12_term 19 = .ok (.if_icmp .eq 12, 3) := by decide +kernel
theorem dX12_term_22 : decode cX12_term 22 = .ok (.aload_n 0, 1) := by decide +kernel
theorem dX12_term_23 : decode cX12_term 23 = .ok (.invokevirtual 192, 3) := by decide +kernel
theorem dX12_term_26 : decode cX12_term 26 = .ok (.bipush 47, 2) := by decide +kernel
theorem dX12_term_28 : decode cX12_term 28 = .ok (.if_icmp .ne 66, 3) := by decide +kernel
theorem dX12_term_0 : decode cX12_term 0 = .ok (.aload_n 0, 1) := by decide +kernel
theorem dX12_term_1 : decode cX12_term 1 = .ok (.invokevirtual 227, 3) := by decide +kernel
theorem dX12_term_4 : decode cX12_term 4 = .ok (.istore_n 1, 1) := by decide +kernel
/-- HissHornModel.term()I of cell 0 -/
theorem hX12_term_0_X12 : ∀ w ∈ u_ws RX12 TX12 69, w ∈ wsX12_term := fun w h => (List.mem_cons_of_mem _ (List.mem_append_right _ h))
theorem mX12_term_0_1 : Cond.fieldLink RX12 182 "HissHornModel" "fault" "I" ∈ wsX12_term := (List.mem_cons_of_mem _ (List.mem_append_left _ (List.mem_append_left _ (List.mem_of_getElem? (i := 0) rfl))))
theorem mX12_term_0_2 : Cond.fieldLink RX12 173 "HissHornModel" "at" "I" ∈ wsX12_term := (List.mem_cons_of_mem _ (List.mem_append_left _ (List.mem_append_left _ (List.mem_of_getElem? (i := 1) rfl))))
def GX12_term_0_87 (rc : Nat → Int32 → SX → Option (Int32 × SX)) (k5 : Int32 → SX → Option (Int32 × SX)) (y0 : Int64) (u : SX) : Option (Int32 × SX) := ((fX12_within y0).bind fun r18 => (k5 r18 u))
def GX12_term_0_45 (rc : Nat → Int32 → SX → Option (Int32 × SX)) (k5 : Int32 → SX → Option (Int32 × SX)) (z1 : Int32) (y0 : Int32) (u : SX) : Option (Int32 × SX) := (lt (sI u 6 ((u.1 6) + 1)) fun u10 => ((rc 2  0 u10).bind fun q => match q with | (r12, u13) => (lt (r12.toInt64) fun v15 => (if y0 = 0 then (if (lg_cmp v15 0) = 0 then (GX12_term_0_87 rc k5 0 u13) else (gd (nzL v15) (GX12_term_0_87 rc k5 ((z1.toInt64) / v15) u13))) else (GX12_term_0_87 rc k5 ((z1.toInt64) * v15) u13)))))
def GX12_term_0_31 (rc : Nat → Int32 → SX → Option (Int32 × SX)) (k5 : Int32 → SX → Option (Int32 × SX)) (z1 : Int32) (u : SX) : Option (Int32 × SX) := ((fX12_look_0  u).bind fun q => match q with | (r7, u8) => (if r7 = 42 then (GX12_term_0_45 rc k5 z1 1 u8) else (GX12_term_0_45 rc k5 z1 0 u8)))
def LX12_term_0_5 (rc : Nat → Int32 → SX → Option (Int32 × SX))  : Nat → Int32 → SX → Option (Int32 × SX)
  | 0, _, _ => none
  | n + 1, z1, u => (if (u.1 7) = (-1) then ((fX12_look_0  u).bind fun q => match q with | (r4, u5) => (if r4 = 42 then (GX12_term_0_31 rc (LX12_term_0_5 rc n) z1 u5) else ((fX12_look_0  u5).bind fun q => match q with | (r21, u22) => (if r21 = 47 then (GX12_term_0_31 rc (LX12_term_0_5 rc n) z1 u22) else (some (z1, u22)))))) else (some (z1, u)))
def fX12_term_0 (rc : Nat → Int32 → SX → Option (Int32 × SX))  (u : SX) : Option (Int32 × SX) := ((rc 2  0 u).bind fun q => match q with | (r1, u2) => (LX12_term_0_5 rc  5000 r1 u2))
set_option maxHeartbeats 4000000 in
set_option maxRecDepth 100000 in
theorem wGX12_term_0_87 {p : Program} {l : Launch} {e : Env} {s : State} {m : MethodId} {args : Array Value} {below : List Frame} {meth : Method} {c : Code} {D : va_G} {cy : Nat → ClassId} {ad st : Nat → Nat} (C : Cx RX12 cX12_term 5 (some .int) wsX12_term p s m args meth c) (hK : Kx D [(cy 0, .int), (cy 1, .long), (cy 2, .boolean), (cy 3, .byte), (cy 4, .object "HissHorn$Text")] st s) (hJ : JM ad) {rc : Nat → Int32 → SX → Option (Int32 × SX)} {dd : Nat} (hrc : hRX12sumg l D cy ad st rc dd) {r : Int32} {u' : SX} {k5 : Int32 → SX → Option (Int32 × SX)} (hk5 : ∀ (z1 : Int32) (u : SX) (H : Heap) (locs : List Loc) (ls : Array Slot), k5 z1 u = some (r, u') → va_P D vwCl (VM cy ad st u) H → va_S (Ax (AM ad) s.heap.size) s.heap H locs → lv_has ls 5 [(0, .ref (ad 0)), (1, .int z1)] → W p l e (rmX12sumg (dd + 1)) s m args below meth c H locs 0 0 (MQ below (Qi D (VM cy ad st) (AM ad) s.heap.size r u') args s 0 0 (Ax (AM ad) s.heap.size)) (F0 m 5 ls [])) (y0 : Int64) (u : SX) (H : Heap) (locs : List Loc) (ls : Array Slot) (h : GX12_term_0_87 rc k5 y0 u = some (r, u')) (hP : va_P D vwCl (VM cy ad st u) H) (hS : va_S (Ax (AM ad) s.heap.size) s.heap H locs) (hl : lv_has ls 5 [(0, .ref (ad 0))]) : W p l e (rmX12sumg (dd + 1)) s m args below meth c H locs 0 0 (MQ below (Qi D (VM cy ad st) (AM ad) s.heap.size r u') args s 0 0 (Ax (AM ad) s.heap.size)) (F0 m 87 ls [.long y0]) := by
  unfold GX12_term_0_87 at h
  obtain ⟨r18, hc20, h⟩ := bd_some h
  refine cs_i (As := [.long y0]) (rest := []) C hK hP hS (metX12_within l D cy st _ y0 hc20) (va_cwS 1 C.2.2.2.2.2.1 gX12_term_X12_within rfl rfl rfl (by decide +kernel) ⟨(Nat.le_trans (m := 2) (Nat.le_of_ble_eq_true rfl) (rmX12sumg_f _)), (Nat.le_trans (m := 41) (Nat.le_of_ble_eq_true rfl) (rmX12sumg_l _))⟩) rfl hl.1 rfl (Nat.le_of_ble_eq_true rfl) dX12_term_87 ⟨Nat.zero_le _, Nat.zero_le _⟩ (fun H locs hP hS => ?_)
  refine lv_istore_n (lv' := [(1, .int r18), (0, .ref (ad 0))]) C.1 C.2.1 dX12_term_90 rfl hl (by decide) rfl (fun ls hl => ?_)
  replace hl := lv_sub (l' := [(0, .ref (ad 0)), (1, .int r18)]) hl [1, 0] rfl
  refine lv_goto (tgt := 5) C.1 C.2.1 dX12_term_91 (by decide) ?_
  exact hk5 _ _ _ _ _ h hP hS hl
set_option maxHeartbeats 4000000 in
set_option maxRecDepth 100000 in
theorem wGX12_term_0_45 {p : Program} {l : Launch} {e : Env} {s : State} {m : MethodId} {args : Array Value} {below : List Frame} {meth : Method} {c : Code} {D : va_G} {cy : Nat → ClassId} {ad st : Nat → Nat} (C : Cx RX12 cX12_term 5 (some .int) wsX12_term p s m args meth c) (hK : Kx D [(cy 0, .int), (cy 1, .long), (cy 2, .boolean), (cy 3, .byte), (cy 4, .object "HissHorn$Text")] st s) (hJ : JM ad) {rc : Nat → Int32 → SX → Option (Int32 × SX)} {dd : Nat} (hrc : hRX12sumg l D cy ad st rc dd) {r : Int32} {u' : SX} {k5 : Int32 → SX → Option (Int32 × SX)} (hk5 : ∀ (z1 : Int32) (u : SX) (H : Heap) (locs : List Loc) (ls : Array Slot), k5 z1 u = some (r, u') → va_P D vwCl (VM cy ad st u) H → va_S (Ax (AM ad) s.heap.size) s.heap H locs → lv_has ls 5 [(0, .ref (ad 0)), (1, .int z1)] → W p l e (rmX12sumg (dd + 1)) s m args below meth c H locs 0 0 (MQ below (Qi D (VM cy ad st) (AM ad) s.heap.size r u') args s 0 0 (Ax (AM ad) s.heap.size)) (F0 m 5 ls [])) (z1 : Int32) (y0 : Int32) (u : SX) (H : Heap) (locs : List Loc) (ls : Array Slot) (h : GX12_term_0_45 rc k5 z1 y0 u = some (r, u')) (hP : va_P D vwCl (VM cy ad st u) H) (hS : va_S (Ax (AM ad) s.heap.size) s.heap H locs) (hl : lv_has ls 5 [(0, .ref (ad 0)), (1, .int z1)]) : W p l e (rmX12sumg (dd + 1)) s m args below meth c H locs 0 0 (MQ below (Qi D (VM cy ad st) (AM ad) s.heap.size r u') args s 0 0 (Ax (AM ad) s.heap.size)) (F0 m 45 ls [.int y0]) := by
  unfold GX12_term_0_45 at h
  refine lv_istore_n (lv' := [(2, .int y0), (0, .ref (ad 0)), (1, .int z1)]) C.1 C.2.1 dX12_term_45 rfl hl (by decide) rfl (fun ls hl => ?_)
  replace hl := lv_sub (l' := [(0, .ref (ad 0)), (1, .int z1), (2, .int y0)]) hl [1, 2, 0] rfl
  refine lv_aload_n C.1 C.2.1 dX12_term_46 rfl (lv_at hl 0 rfl) ?_
  refine lv_dup C.1 C.2.1 dX12_term_47 rfl ?_
  refine gM_0_at C hX12_term_0_X12 hK hP mX12_term_0_2 dX12_term_48 ?_
  refine lv_iconst (v := 1) C.1 C.2.1 dX12_term_51 (by decide) ?_
  refine lv_iadd C.1 C.2.1 dX12_term_52 ?_
  refine pM_0_at C hX12_term_0_X12 hK hP hJ hS mX12_term_0_2 dX12_term_53 (fun H locs hP hS => ?_)
  obtain ⟨u10, hu11, h⟩ := lt_some h
  rw [← hu11] at hP
  refine lv_aload_n C.1 C.2.1 dX12_term_56 rfl (lv_at hl 0 rfl) ?_
  obtain ⟨⟨r12, u13⟩, hc14, h⟩ := bd_some h
  try dsimp only at h
  refine cg_i (As := []) (rest := []) C hK hP hS (hrc.2.2 _  _ _ _ hc14) (cwV 0 C.2.2.2.2.2.1 gX12_term_X12_atom rfl rfl rfl (by decide +kernel) ⟨rmX12sumg_sf dd, rmX12sumg_sl dd (k := 8 + (4 + 11)) (Nat.le_of_ble_eq_true rfl)⟩) 0 12 rfl rfl rfl hl.1 rfl (Nat.le_of_ble_eq_true rfl) dX12_term_57 ⟨Nat.zero_le _, Nat.zero_le _⟩ (fun H locs hP hS => ?_)
  refine lv_i2l (v := r12.toInt64) C.1 C.2.1 dX12_term_60 rfl ?_
  refine lv_topl (fun v15 hv16 => ?_)
  replace h := lt_e hv16 h
  try dsimp only at h
  refine lv_lstore_n (lv' := [(3, .long v15), (0, .ref (ad 0)), (1, .int z1), (2, .int y0)]) C.1 C.2.1 dX12_term_61 rfl hl (by decide) rfl (fun ls hl => ?_)
  replace hl := lv_sub (l' := [(0, .ref (ad 0)), (1, .int z1), (2, .int y0), (3, .long v15)]) hl [1, 2, 3, 0] rfl
  refine lv_iload_n C.1 C.2.1 dX12_term_62 rfl (lv_at hl 2 rfl) ?_
  refine lv_if_eq (tgt := 73) C.1 C.2.1 dX12_term_63 (by decide) (fun c63 => ?_) (fun c63 => ?_)
  · rw [if_pos c63] at h
    refine lv_lload_n C.1 C.2.1 dX12_term_73 rfl (lv_at hl 3 rfl) ?_
    refine lv_lconst (v := 0) C.1 C.2.1 dX12_term_74 (by decide) ?_
    refine W.lcmp C.1 C.2.1 dX12_term_75 ?_
    refine lv_if_ne (tgt := 83) C.1 C.2.1 dX12_term_76 (by decide) (fun c76 => ?_) (fun c76 => ?_)
    · rw [if_neg c76] at h
      refine lv_iload_n C.1 C.2.1 dX12_term_83 rfl (lv_at hl 1 rfl) ?_
      refine lv_i2l (v := z1.toInt64) C.1 C.2.1 dX12_term_84 rfl ?_
      refine lv_lload_n C.1 C.2.1 dX12_term_85 rfl (lv_at hl 3 rfl) ?_
      obtain ⟨hg17, h⟩ := gd_some h
      refine lv_ldiv C.1 C.2.1 dX12_term_86 (nzL_n hg17) ?_
      exact wGX12_term_0_87 C hK hJ hrc hk5 _ _ _ _ _ h hP hS (lv_sub hl [0] rfl)
    · rw [if_pos c76] at h
      refine lv_lconst (v := 0) C.1 C.2.1 dX12_term_79 (by decide) ?_
      refine lv_goto (tgt := 87) C.1 C.2.1 dX12_term_80 (by decide) ?_
      exact wGX12_term_0_87 C hK hJ hrc hk5 _ _ _ _ _ h hP hS (lv_sub hl [0] rfl)
  · rw [if_neg c63] at h
    refine lv_iload_n C.1 C.2.1 dX12_term_66 rfl (lv_at hl 1 rfl) ?_
    refine lv_i2l (v := z1.toInt64) C.1 C.2.1 dX12_term_67 rfl ?_
    refine lv_lload_n C.1 C.2.1 dX12_term_68 rfl (lv_at hl 3 rfl) ?_
    refine lv_lmul C.1 C.2.1 dX12_term_69 ?_
    refine lv_goto (tgt := 87) C.1 C.2.1 dX12_term_70 (by decide) ?_
    exact wGX12_term_0_87 C hK hJ hrc hk5 _ _ _ _ _ h hP hS (lv_sub hl [0] rfl)
set_option maxHeartbeats 4000000 in
set_option maxRecDepth 100000 in
theorem wGX12_term_0_31 {p : Program} {l : Launch} {e : Env} {s : State} {m : MethodId} {args : Array Value} {below : List Frame} {meth : Method} {c : Code} {D : va_G} {cy : Nat → ClassId} {ad st : Nat → Nat} (C : Cx RX12 cX12_term 5 (some .int) wsX12_term p s m args meth c) (hK : Kx D [(cy 0, .int), (cy 1, .long), (cy 2, .boolean), (cy 3, .byte), (cy 4, .object "HissHorn$Text")] st s) (hJ : JM ad) {rc : Nat → Int32 → SX → Option (Int32 × SX)} {dd : Nat} (hrc : hRX12sumg l D cy ad st rc dd) {r : Int32} {u' : SX} {k5 : Int32 → SX → Option (Int32 × SX)} (hk5 : ∀ (z1 : Int32) (u : SX) (H : Heap) (locs : List Loc) (ls : Array Slot), k5 z1 u = some (r, u') → va_P D vwCl (VM cy ad st u) H → va_S (Ax (AM ad) s.heap.size) s.heap H locs → lv_has ls 5 [(0, .ref (ad 0)), (1, .int z1)] → W p l e (rmX12sumg (dd + 1)) s m args below meth c H locs 0 0 (MQ below (Qi D (VM cy ad st) (AM ad) s.heap.size r u') args s 0 0 (Ax (AM ad) s.heap.size)) (F0 m 5 ls [])) (z1 : Int32) (u : SX) (H : Heap) (locs : List Loc) (ls : Array Slot) (h : GX12_term_0_31 rc k5 z1 u = some (r, u')) (hP : va_P D vwCl (VM cy ad st u) H) (hS : va_S (Ax (AM ad) s.heap.size) s.heap H locs) (hl : lv_has ls 5 [(0, .ref (ad 0)), (1, .int z1)]) : W p l e (rmX12sumg (dd + 1)) s m args below meth c H locs 0 0 (MQ below (Qi D (VM cy ad st) (AM ad) s.heap.size r u') args s 0 0 (Ax (AM ad) s.heap.size)) (F0 m 31 ls []) := by
  unfold GX12_term_0_31 at h
  refine lv_aload_n C.1 C.2.1 dX12_term_31 rfl (lv_at hl 0 rfl) ?_
  obtain ⟨⟨r7, u8⟩, hc9, h⟩ := bd_some h
  try dsimp only at h
  refine cg_i (As := []) (rest := []) C hK hP hS (metX12_look_0 l D cy ad st hJ _  hc9) (cwV 0 C.2.2.2.2.2.1 gX12_term_X12_look rfl rfl rfl (by decide +kernel) ⟨(Nat.le_trans (m := 2) (Nat.le_of_ble_eq_true rfl) (rmX12sumg_f _)), (Nat.le_trans (m := 41) (Nat.le_of_ble_eq_true rfl) (rmX12sumg_l _))⟩) 0 12 rfl rfl rfl hl.1 rfl (Nat.le_of_ble_eq_true rfl) dX12_term_32 ⟨Nat.zero_le _, Nat.zero_le _⟩ (fun H locs hP hS => ?_)
  refine lv_bipush (v := 42) C.1 C.2.1 dX12_term_35 (by decide) ?_
  refine lv_icmp_ne (tgt := 44) C.1 C.2.1 dX12_term_37 (by decide) (fun c37 => ?_) (fun c37 => ?_)
  · rw [if_neg c37] at h
    refine lv_iconst (v := 0) C.1 C.2.1 dX12_term_44 (by decide) ?_
    exact wGX12_term_0_45 C hK hJ hrc hk5 _ _ _ _ _ _ h hP hS hl
  · rw [if_pos c37] at h
    refine lv_iconst (v := 1) C.1 C.2.1 dX12_term_40 (by decide) ?_
    refine lv_goto (tgt := 45) C.1 C.2.1 dX12_term_41 (by decide) ?_
    exact wGX12_term_0_45 C hK hJ hrc hk5 _ _ _ _ _ _ h hP hS hl
set_option maxHeartbeats 4000000 in
set_option maxRecDepth 100000 in
theorem wLX12_term_0_5 {p : Program} {l : Launch} {e : Env} {s : State} {m : MethodId} {args : Array Value} {below : List Frame} {meth : Method} {c : Code} {D : va_G} {cy : Nat → ClassId} {ad st : Nat → Nat} (C : Cx RX12 cX12_term 5 (some .int) wsX12_term p s m args meth c) (hK : Kx D [(cy 0, .int), (cy 1, .long), (cy 2, .boolean), (cy 3, .byte), (cy 4, .object "HissHorn$Text")] st s) (hJ : JM ad) {rc : Nat → Int32 → SX → Option (Int32 × SX)} {dd : Nat} (hrc : hRX12sumg l D cy ad st rc dd) {r : Int32} {u' : SX}   : ∀ (n : Nat) (z1 : Int32) (u : SX) (H : Heap) (locs : List Loc) (ls : Array Slot), LX12_term_0_5 rc  n z1 u = some (r, u') → va_P D vwCl (VM cy ad st u) H → va_S (Ax (AM ad) s.heap.size) s.heap H locs → lv_has ls 5 [(0, .ref (ad 0)), (1, .int z1)] → W p l e (rmX12sumg (dd + 1)) s m args below meth c H locs 0 0 (MQ below (Qi D (VM cy ad st) (AM ad) s.heap.size r u') args s 0 0 (Ax (AM ad) s.heap.size)) (F0 m 5 ls []) := by
  intro n
  induction n with
  | zero =>
    intro z1 u H locs ls h
    exact absurd h (by intro q; cases q)
  | succ n ih =>
    intro z1 u H locs ls h hP hS hl
    rw [LX12_term_0_5] at h
    refine lv_aload_n C.1 C.2.1 dX12_term_5 rfl (lv_at hl 0 rfl) ?_
    refine gM_0_fault C hX12_term_0_X12 hK hP mX12_term_0_1 dX12_term_6 ?_
    refine lv_iconst (v := (-1)) C.1 C.2.1 dX12_term_9 (by decide) ?_
    refine lv_icmp_ne (tgt := 94) C.1 C.2.1 dX12_term_10 (by decide) (fun c10 => ?_) (fun c10 => ?_)
    · rw [if_neg c10] at h
      refine lv_iload_n C.1 C.2.1 dX12_term_94 rfl (lv_at hl 1 rfl) ?_
      cases h
      exact rt_i C hP hS dX12_term_95
    · rw [if_pos c10] at h
      refine lv_aload_n C.1 C.2.1 dX12_term_13 rfl (lv_at hl 0 rfl) ?_
      obtain ⟨⟨r4, u5⟩, hc6, h⟩ := bd_some h
      try dsimp only at h
      refine cg_i (As := []) (rest := []) C hK hP hS (metX12_look_0 l D cy ad st hJ _  hc6) (cwV 0 C.2.2.2.2.2.1 gX12_term_X12_look rfl rfl rfl (by decide +kernel) ⟨(Nat.le_trans (m := 2) (Nat.le_of_ble_eq_true rfl) (rmX12sumg_f _)), (Nat.le_trans (m := 41) (Nat.le_of_ble_eq_true rfl) (rmX12sumg_l _))⟩) 0 12 rfl rfl rfl hl.1 rfl (Nat.le_of_ble_eq_true rfl) dX12_term_14 ⟨Nat.zero_le _, Nat.zero_le _⟩ (fun H locs hP hS => ?_)
      refine lv_bipush (v := 42) C.1 C.2.1 dX12_term_17 (by decide) ?_
      refine lv_icmp_eq (tgt := 31) C.1 C.2.1 dX12_term_19 (by decide) (fun c19 => ?_) (fun c19 => ?_)
      · rw [if_pos c19] at h
        exact wGX12_term_0_31 C hK hJ hrc ih _ _ _ _ _ h hP hS hl
      · rw [if_neg c19] at h
        refine lv_aload_n C.1 C.2.1 dX12_term_22 rfl (lv_at hl 0 rfl) ?_
        obtain ⟨⟨r21, u22⟩, hc23, h⟩ := bd_some h
        try dsimp only at h
        refine cg_i (As := []) (rest := []) C hK hP hS (metX12_look_0 l D cy ad st hJ _  hc23) (cwV 0 C.2.2.2.2.2.1 gX12_term_X12_look rfl rfl rfl (by decide +kernel) ⟨(Nat.le_trans (m := 2) (Nat.le_of_ble_eq_true rfl) (rmX12sumg_f _)), (Nat.le_trans (m := 41) (Nat.le_of_ble_eq_true rfl) (rmX12sumg_l _))⟩) 0 12 rfl rfl rfl hl.1 rfl (Nat.le_of_ble_eq_true rfl) dX12_term_23 ⟨Nat.zero_le _, Nat.zero_le _⟩ (fun H locs hP hS => ?_)
        refine lv_bipush (v := 47) C.1 C.2.1 dX12_term_26 (by decide) ?_
        refine lv_icmp_ne (tgt := 94) C.1 C.2.1 dX12_term_28 (by decide) (fun c28 => ?_) (fun c28 => ?_)
        · rw [if_neg c28] at h
          refine lv_iload_n C.1 C.2.1 dX12_term_94 rfl (lv_at hl 1 rfl) ?_
          cases h
          exact rt_i C hP hS dX12_term_95
        · rw [if_pos c28] at h
          exact wGX12_term_0_31 C hK hJ hrc ih _ _ _ _ _ h hP hS hl
set_option maxHeartbeats 4000000 in
set_option maxRecDepth 100000 in
theorem wX12_term_0 {p : Program} {l : Launch} {e : Env} {s : State} {m : MethodId} {args : Array Value} {below : List Frame} {meth : Method} {c : Code} {D : va_G} {cy : Nat → ClassId} {ad st : Nat → Nat} (C : Cx RX12 cX12_term 5 (some .int) wsX12_term p s m args meth c) (hK : Kx D [(cy 0, .int), (cy 1, .long), (cy 2, .boolean), (cy 3, .byte), (cy 4, .object "HissHorn$Text")] st s) (hJ : JM ad) {rc : Nat → Int32 → SX → Option (Int32 × SX)} {dd : Nat} (hrc : hRX12sumg l D cy ad st rc dd)  {u : SX} {r : Int32} {u' : SX} {H : Heap} {locs : List Loc} {ls : Array Slot} (h : fX12_term_0 rc  u = some (r, u')) (hP : va_P D vwCl (VM cy ad st u) H) (hS : va_S (Ax (AM ad) s.heap.size) s.heap H locs) (hl : lv_has ls 5 [(0, .ref (ad 0))]) : W p l e (rmX12sumg (dd + 1)) s m args below meth c H locs 0 0 (MQ below (Qi D (VM cy ad st) (AM ad) s.heap.size r u') args s 0 0 (Ax (AM ad) s.heap.size)) (F0 m 0 ls []) := by
  unfold fX12_term_0 at h
  refine lv_aload_n C.1 C.2.1 dX12_term_0 rfl (lv_at hl 0 rfl) ?_
  obtain ⟨⟨r1, u2⟩, hc3, h⟩ := bd_some h
  try dsimp only at h
  refine cg_i (As := []) (rest := []) C hK hP hS (hrc.2.2 _  _ _ _ hc3) (cwV 0 C.2.2.2.2.2.1 gX12_term_X12_atom rfl rfl rfl (by decide +kernel) ⟨rmX12sumg_sf dd, rmX12sumg_sl dd (k := 8 + (4 + 11)) (Nat.le_of_ble_eq_true rfl)⟩) 0 12 rfl rfl rfl hl.1 rfl (Nat.le_of_ble_eq_true rfl) dX12_term_1 ⟨Nat.zero_le _, Nat.zero_le _⟩ (fun H locs hP hS => ?_)
  refine lv_istore_n (lv' := [(1, .int r1), (0, .ref (ad 0))]) C.1 C.2.1 dX12_term_4 rfl hl (by decide) rfl (fun ls hl => ?_)
  replace hl := lv_sub (l' := [(0, .ref (ad 0)), (1, .int r1)]) hl [1, 0] rfl
  exact wLX12_term_0_5 C hK hJ hrc  5000 _ _ _ _ _ h hP hS hl
theorem metX12_term_0 (l : Launch) (D : va_G) (cy : Nat → ClassId) (ad st : Nat → Nat) (hJ : JM ad) {rc : Nat → Int32 → SX → Option (Int32 × SX)} {dd : Nat} (hrc : hRX12sumg l D cy ad st rc dd) (sz : Nat)  {u : SX} {r : Int32} {u' : SX} (h : fX12_term_0 rc  u = some (r, u')) : Met l yX12_term wsX12_term (rmX12sumg (dd + 1)) (va_Pc [.ref (ad 0)] (Px D [(cy 0, .int), (cy 1, .long), (cy 2, .boolean), (cy 3, .byte), (cy 4, .object "HissHorn$Text")] st (VM cy ad st) sz u)) (Qi D (VM cy ad st) (AM ad) sz r u') 0 0 (Ax (AM ad) sz) := by
  refine Met.ofW (cc := cX12_term) (maxL := 5) (ret := (some .int)) (by decide) rfl ?_
  intro p e s m args below meth c s₁ B hml hv
  obtain ⟨rfl, hsz, hP, hK⟩ := hv
  subst hsz
  have C : Cx RX12 cX12_term 5 (some .int) wsX12_term p s m _ meth c := ⟨B.exec, B.bytes, hml, B.returns, findClass_of_methodNamed B.named, atoms_spec (ws := wsX12_term) B.pre, B.notSynchronized⟩
  have hl := lv_entry ([.ref (ad 0)]) (n := 5) (Nat.le_of_ble_eq_true rfl)
  rw [lg_entry_eq]
  exact wX12_term_0 C hK hJ hrc h hP va_S.rf hl

theorem dX12_atom_97 : decode cX12_atom 97 = .ok (.aload_n 0, 1) := by decide +kernel
set_option maxRecDepth 20000 in
theorem ggX12_atom_X12_isDigit : GoodIn wsX12_atom wsX12_isDigit := goodIn_r _ [121, 2, 13, 6, 7, 141, 142, 143, 144, 145, 146, 147, 148, 149, 150, 151, 152, 153, 154, 155, 156, 157, 158, 159, 160, 161, 162, 163, 164, 165, 166, 167, 168, 169, 170, 171, 172, 173, 174, 175, 176, 177, 178, 179, 180, 181, 182, 183, 184, 185, 186, 187, 188, 189, 190, 191, 192, 193, 194, 195, 196, 197, 198, 199, 200, 201, 202, 203, 204, 205, 206, 207, 208, 209] (by decide +kernel) (by decide +kernel)
set_option maxRecDepth 20000 in
theorem gX12_atom_X12_isDigit : GoodIn wsX12_atom (wsV RX12 224 RX12 yX12_isDigit wsX12_isDigit) := goodIn_app (goodIn_of _ (by decide +kernel)) ggX12_atom_X12_isDigit
theorem dX12_atom_98 : decode cX12_atom 98 = .ok (.invokevirtual 224, 3) := by decide +kernel
theorem dX12_atom_101 : decode cX12_atom 101 = .ok (.ifCond .eq 62, 3) := by decide +kernel
theorem dX12_atom_163 : decode cX12_atom 163 = .ok (.iload_n 2, 1) := by decide +kernel
theorem dX12_atom_164 : decode cX12_atom 164 = .ok (.ireturn, 1) := by decide +kernel
theorem dX12_atom_104 : decode cX12_atom 104 = .ok (.aload_n 0, 1) := by decide +kernel
theorem dX12_atom_105 : decode cX12_atom 105 = .ok (.getfield 182, 3) := by decide +kernel
theorem dX12_atom_108 : decode cX12_atom 108 = .ok (.iconst (-1), 1) := by decide +kernel
theorem dX12_atom_109 : decode cX12_atom 109 = .ok (.if_icmp .ne 54, 3) := by decide +kernel
theorem dX12_atom_112 : decode cX12_atom 112 = .ok (.iload_n 3, 1) := by decide +kernel
theorem dX12_atom_113 : decode cX12_atom 113 = .ok (.iconst 4, 1) := by decide +kernel
theorem dX12_atom_114 : decode cX12_atom 114 = .ok (.if_icmp .ne 10, 3) := by decide +kernel
theorem dX12_atom_124 : decode cX12_atom 124 = .ok (.bipush 10, 2) := by decide +kernel
theorem dX12_atom_126 : decode cX12_atom 126 = .ok (.iload_n 2, 1) := by decide +kernel
theorem dX12_atom_127 : decode cX12_atom 127 = .ok (.imul, 1) := by decide +kernel
theorem dX12_atom_128 : decode cX12_atom 128 = .ok (.aload_n 0, 1) := by decide +kernel
theorem dX12_atom_129 : decode cX12_atom 129 = .ok (.getfield 26, 3) := by decide +kernel
theorem dX12_atom_132 : decode cX12_atom 132 = .ok (.aload_n 0, 1) := by decide +kernel
theorem dX12_atom_133 : decode cX12_atom 133 = .ok (.getfield 179, 3) := by decide +kernel
theorem dX12_atom_136 : decode cX12_atom 136 = .ok (.aload_n 0, 1) := by decide +kernel
theorem dX12_atom_137 : decode cX12_atom 137 = .ok (.getfield 173, 3) := by decide +kernel
theorem dX12_atom_140 : decode cX12_atom 140 = .ok (.iadd, 1) := by decide +kernel
theorem dX12_atom_141 : decode cX12_atom 141 = .ok (.baload, 1) := by decide +kernel
theorem dX12_atom_142 : decode cX12_atom 142 = .ok (.iadd, 1) := by decide +kernel
theorem dX12_atom_143 : decode cX12_atom 143 = .ok (.bipush 48, 2) := by decide +kernel
theorem dX12_atom_145 : decode cX12_atom 145 = .ok (.isub, 1) := by decide +kernel
theorem dX12_atom_146 : decode cX12_atom 146 = .ok (.istore_n 2, 1) := by decide +kernel
theorem dX12_atom_147 : decode cX12_atom 147 = .ok (.aload_n 0, 1) := by decide +kernel
theorem dX12_atom_148 : decode cX12_atom 148 = .ok (.dup, 1) := by decide +kernel
theorem dX12_atom_149 : decode cX12_atom 149 = .ok (.getfield 173, 3) := by decide +kernel
theorem dX12_atom_152 : decode cX12_atom 152 = .ok (.iconst 1, 1) := by decide +kernel
theorem dX12_atom_153 : decode cX12_atom 153 = .ok (.iadd, 1) := by decide +kernel
theorem dX12_atom_154 : decode cX12_atom 154 = .ok (.putfield 173, 3) := by decide +kernel
theorem dX12_atom_157 : decode cX12_atom 157 = .ok (.iinc 3 1, 3) := by decide +kernel
theorem dX12_atom_160 : decode cX12_atom 160 = .ok (.goto (-63), 3) := by decide +kernel
theorem dX12_atom_117 : decode cX12_atom 117 = .ok (.aload_n 0, 1) := by decide +kernel
set_option maxRecDepth 20000 in
theorem ggX12_atom_X12_fails : GoodIn wsX12_atom wsX12_fails := goodIn_r _ [110, 5, 2, 141, 142, 143, 144, 145, 146, 147, 148, 149, 150, 151, 152, 153, 154, 155, 156, 157, 158, 159, 160, 161, 162, 163, 164, 165, 166, 167, 168, 169, 170, 171, 172, 173, 174, 175, 176, 177, 178, 179, 180, 181, 182, 183, 184, 185, 186, 187, 188, 189, 190, 191, 192, 193, 194, 195, 196, 197, 198, 199, 200, 201, 202, 203, 204, 205, 206, 207, 208, 209] (by decide +kernel) (by decide +kernel)
set_option maxRecDepth 20000 in
theorem gX12_atom_X12_fails : GoodIn wsX12_atom (wsV RX12 188 RX12 yX12_fails wsX12_fails) := goodIn_app (goodIn_of _ (by decide +kernel)) ggX12_atom_X12_fails
theorem dX12_atom_118 : decode cX12_atom 118 = .ok (.invokevirtual 188, 3) := by decide +kernel
theorem dX12_atom_121 : decode cX12_atom 121 = .ok (.pop, 1) := by decide +kernel
theorem dX12_atom_122 : decode cX12_atom 122 = .ok (.iconst 0, 1) := by decide +kernel
theorem dX12_atom_123 : decode cX12_atom 123 = .ok (.ireturn, 1) := by decide +kernel
theorem dX12_atom_93 : decode cX12_atom 93 = .ok (.iconst 0, 1) := by decide +kernel
theorem dX12_atom_94 : decode cX12_atom 94 = .ok (.istore_n 2, 1) := by decide +kernel
theorem dX12_atom_95 : decode cX12_atom 95 = .ok (.iconst 0, 1) := by decide +kernel
theorem dX12_atom_96 : decode cX12_atom 96 = .ok (.istore_n 3, 1) := by decide +kernel
theorem dX12_atom_38 : decode cX12_atom 38 = .ok (.iload_n 1, 1) := by decide +kernel
theorem dX12_atom_39 : decode cX12_atom 39 = .ok (.bipush 91, 2) := by decide +kernel
theorem dX12_atom_41 : decode cX12_atom 41 = .ok (.if_icmp .ne 40, 3) := by decide +kernel
theorem dX12_atom_81 : decode cX12_atom 81 = .ok (.aload_n 0, 1) := by decide +kernel
theorem dX12_atom_82 : decode cX12_atom 82 = .ok (.invokevirtual 224, 3) := by decide +kernel
theorem dX12_atom_85 : decode cX12_atom 85 = .ok (.ifCond .ne 8, 3) := by decide +kernel
theorem dX12_atom_88 : decode cX12_atom 88 = .ok (.aload_n 0, 1) := by decide +kernel
theorem dX12_atom_89 : decode cX12_atom 89 = .ok (.invokevirtual 188, 3) := by decide +kernel
theorem dX12_atom_92 : decode cX12_atom 92 = .ok (.pop, 1) := by decide +kernel
theorem dX12_atom_44 : decode cX12_atom 44 = .ok (.aload_n 0, 1) := by decide +kernel
set_option maxRecDepth 20000 in
theorem ggX12_atom_X12_goesIn : GoodIn wsX12_atom wsX12_goesIn := goodIn_r _ [106, 4, 2, 107, 108, 109, 11, 110, 5, 141, 142, 143, 144, 145, 146, 147, 148, 149, 150, 151, 152, 153, 154, 155, 156, 157, 158, 159, 160, 161, 162, 163, 164, 165, 166, 167, 168, 169, 170, 171, 172, 173, 174, 175, 176, 177, 178, 179, 180, 181, 182, 183, 184, 185, 186, 187, 188, 189, 190, 191, 192, 193, 194, 195, 196, 197, 198, 199, 200, 201, 202, 203, 204, 205, 206, 207, 208, 209] (by decide +kernel) (by decide +kernel)
set_option maxRecDepth 20000 in
theorem gX12_atom_X12_goesIn : GoodIn wsX12_atom (wsV RX12 214 RX12 yX12_goesIn wsX12_goesIn) := goodIn_app (goodIn_of _ (by decide +kernel)) ggX12_atom_X12_goesIn
theorem dX12_atom_45 : decode cX12_atom 45 = .ok (.invokevirtual 214, 3) := by decide +kernel
theorem dX12_atom_48 : decode cX12_atom 48 = .ok (.ifCond .ne 5, 3) := by decide +kernel
theorem dX12_atom_53 : decode cX12_atom 53 = .ok (.aload_n 0, 1) := by decide +kernel
set_option maxRecDepth 20000 in
theorem ggX12_atom_X12_sum : GoodIn wsX12_atom wsX12_sum := goodIn_r _ [122, 5, 2, 123, 124, 125, 11, 8, 9, 10, 12, 13, 6, 7, 126, 127, 128, 129, 130, 131, 132, 44, 133, 134, 135, 136, 0, 1, 3, 4, 14, 15, 16, 17, 18, 19, 20, 21, 22, 23, 24, 25, 26, 27, 28, 29, 30, 31, 32, 33, 34, 35, 36, 37, 38, 39, 40, 41, 42, 43, 45, 46, 47, 48, 49, 50, 51, 52, 53, 54, 55, 56, 57, 58, 59, 60, 61, 62, 63, 64, 65, 66, 67, 68, 69, 70, 71, 72, 73, 74, 75, 76, 77, 78, 79, 80, 81, 82, 83, 84, 85, 86, 87, 88, 89, 90, 91, 92, 93, 94, 95, 96, 97, 98, 99, 100, 101, 102, 103, 104, 105, 106, 107, 108, 109, 110, 111, 112, 113, 114, 115, 116, 117, 118, 119, 120, 121, 137, 138, 139, 140, 141, 142, 143, 144, 145, 146, 147, 148, 149, 150, 151, 152, 153, 154, 155, 156, 157, 158, 159, 160, 161, 162, 163, 164, 165, 166, 167, 168, 169, 170, 171, 172, 173, 174, 175, 176, 177, 178, 179, 180, 181, 182, 183, 184, 185, 186, 187, 188, 189, 190, 191, 192, 193, 194, 195, 196, 197, 198, 199, 200, 201, 202, 203, 204, 205, 206, 207, 208, 209] (by decide +kernel) (by decide +kernel)
set_option maxRecDepth 20000 in
theorem gX12_atom_X12_sum : GoodIn wsX12_atom (wsV RX12 217 RX12 yX12_sum wsX12_sum) := goodIn_app (goodIn_of _ (by decide +kernel)) ggX12_atom_X12_sum
theorem dX12_atom_54 : decode cX12_atom 54 = .ok (.invokevirtual 217, 3) := by decide +kernel
theorem dX12_atom_57 : decode cX12_atom 57 = .ok (.istore_n 2, 1) := by decide +kernel
theorem dX12_atom_58 : decode cX12_atom 58 = .ok (.aload_n 0, 1) := by decide +kernel
theorem dX12_atom_59 : decode cX12_atom 59 = .ok (.bipush 93, 2) := by decide +kernel
set_option maxRecDepth 20000 in
theorem ggX12_atom_X12_takes : GoodIn wsX12_atom wsX12_takes := goodIn_r _ [117, 5, 2, 8, 9, 10, 11, 12, 13, 6, 7, 107, 108, 109, 110, 141, 142, 143, 144, 145, 146, 147, 148, 149, 150, 151, 152, 153, 154, 155, 156, 157, 158, 159, 160, 161, 162, 163, 164, 165, 166, 167, 168, 169, 170, 171, 172, 173, 174, 175, 176, 177, 178, 179, 180, 181, 182, 183, 184, 185, 186, 187, 188, 189, 190, 191, 192, 193, 194, 195, 196, 197, 198, 199, 200, 201, 202, 203, 204, 205, 206, 207, 208, 209] (by decide +kernel) (by decide +kernel)
set_option maxRecDepth 20000 in
theorem gX12_atom_X12_takes : GoodIn wsX12_atom (wsV RX12 220 RX12 yX12_takes wsX12_takes) := goodIn_app (goodIn_of _ (by decide +kernel)) ggX12_atom_X12_takes
theorem dX12_atom_61 : decode cX12_atom 61 = .ok (.invokevirtual 220, 3) := by decide +kernel
theorem dX12_atom_64 : decode cX12_atom 64 = .ok (.ifCond .ne 5, 3) := by decide +kernel
theorem dX12_atom_69 : decode cX12_atom 69 = .ok (.aload_n 0, 1) := by decide +kernel
theorem dX12_atom_70 : decode cX12_atom 70 = .ok (.dup, 1) := by decide +kernel
theorem dX12_atom_71 : decode cX12_atom 71 = .ok (.getfield 185, 3) := by decide +kernel
theorem dX12_atom_74 : decode cX12_atom 74 = .ok (.iconst 1, 1) := by decide +kernel
theorem dX12_atom_75 : decode cX12_atom 75 = .ok (.isub, 1) := by decide +kernel
theorem dX12_atom_76 : decode cX12_atom 76 = .ok (.putfield 185, 3) := by decide +kernel
theorem dX12_atom_79 : decode cX12_atom 79 = .ok (.iload_n 2, 1) := by decide +kernel
theorem dX12_atom_80 : decode cX12_atom 80 = .ok (.ireturn, 1) := by decide +kernel
theorem dX12_atom_67 : decode cX12_atom 67 = .ok (.iconst 0, 1) := by decide +kernel
theorem dX12_atom_68 : decode cX12_atom 68 = .ok (.ireturn, 1) := by decide +kernel
theorem dX12_atom_51 : decode cX12_atom 51 = .ok (.iconst 0, 1) := by decide +kernel
theorem dX12_atom_52 : decode cX12_atom 52 = .ok (.ireturn, 1) := by decide +kernel
theorem dX12_atom_0 : decode cX12_atom 0 = .ok (.aload_n 0, 1) := by decide +kernel
set_option maxRecDepth 20000 in
theorem ggX12_atom_X12_look : GoodIn wsX12_atom wsX12_look := goodIn_r _ [12, 2, 13, 6, 7, 141, 142, 143, 144, 145, 146, 147, 148, 149, 150, 151, 152, 153, 154, 155, 156, 157, 158, 159, 160, 161, 162, 163, 164, 165, 166, 167, 168, 169, 170, 171, 172, 173, 174, 175, 176, 177, 178, 179, 180, 181, 182, 183, 184, 185, 186, 187, 188, 189, 190, 191, 192, 193, 194, 195, 196, 197, 198, 199, 200, 201, 202, 203, 204, 205, 206, 207, 208, 209] (by decide +kernel) (by decide +kernel)
set_option maxRecDepth 20000 in
theorem gX12_atom_X12_look : GoodIn wsX12_atom (wsV RX12 192 RX12 yX12_look wsX12_look) := goodIn_app (goodIn_of _ (by decide +kernel)) ggX12_atom_X12_look
theorem dX12_atom_1 : decode cX12_atom 1 = .ok (.invokevirtual 192, 3) := by decide +kernel
theorem dX12_atom_4 : decode cX12_atom 4 = .ok (.istore_n 1, 1) := by decide +kernel
theorem dX12_atom_5 : decode cX12_atom 5 = .ok (.iload_n 1, 1) := by decide +kernel
theorem dX12_atom_6 : decode cX12_atom 6 = .ok (.iconst (-1), 1) := by decide +kernel
theorem dX12_atom_7 : decode cX12_atom 7 = .ok (.if_icmp .eq 31, 3) := by decide +kernel
theorem dX12_atom_10 : decode cX12_atom 10 = .ok (.aload_n 0, 1) := by decide +kernel
theorem dX12_atom_11 : decode cX12_atom 11 = .ok (.getfield 31, 3) := by decide +kernel
/-- HissHornModel.atom()I of cell 0 -/
theorem hX12_atom_0_X12 : ∀ w ∈ u_ws RX12 TX12 69, w ∈ wsX12_atom := fun w h => (List.mem_cons_of_mem _ (List.mem_append_right _ h))
theorem mX12_atom_0_1 : Cond.fieldLink RX12 182 "HissHornModel" "fault" "I" ∈ wsX12_atom := (List.mem_cons_of_mem _ (List.mem_append_left _ (List.mem_append_left _ (List.mem_of_getElem? (i := 4) rfl))))
theorem mX12_atom_0_2 : Cond.fieldLink RX12 26 "HissHornModel" "text" "[B" ∈ wsX12_atom := (List.mem_cons_of_mem _ (List.mem_append_left _ (List.mem_append_left _ (List.mem_of_getElem? (i := 5) rfl))))
theorem mX12_atom_0_3 : Cond.fieldLink RX12 179 "HissHornModel" "begins" "I" ∈ wsX12_atom := (List.mem_cons_of_mem _ (List.mem_append_left _ (List.mem_append_left _ (List.mem_of_getElem? (i := 6) rfl))))
theorem mX12_atom_0_4 : Cond.fieldLink RX12 173 "HissHornModel" "at" "I" ∈ wsX12_atom := (List.mem_cons_of_mem _ (List.mem_append_left _ (List.mem_append_left _ (List.mem_of_getElem? (i := 1) rfl))))
def LX12_atom_0_97 (rc : Nat → Int32 → SX → Option (Int32 × SX)) (k117 : SX → Option (Int32 × SX)) : Nat → Int32 → Int32 → SX → Option (Int32 × SX)
  | 0, _, _, _ => none
  | n + 1, z2, z3, u => ((fX12_isDigit_0  u).bind fun q => match q with | (r7, u8) => (if r7 = 0 then (some (z2, u8)) else (if (u8.1 7) = (-1) then (if z3 = 4 then (k117 u8) else (if u8.1 2 = 2 then (gd (inb ((u8.1 4) + (u8.1 6)) 120) (lt (((10 * z2) + (u8.2.1 1 ((u8.1 4) + (u8.1 6)).toNatClampNeg)) - 48) fun v11 => (lt (sI u8 6 ((u8.1 6) + 1)) fun u13 => ((LX12_atom_0_97 rc k117 n) v11 (z3 + 1) u13)))) else (if u8.1 2 = 3 then (gd (inb ((u8.1 4) + (u8.1 6)) 4320) (lt (((10 * z2) + (u8.2.1 2 ((u8.1 4) + (u8.1 6)).toNatClampNeg)) - 48) fun v16 => (lt (sI u8 6 ((u8.1 6) + 1)) fun u18 => ((LX12_atom_0_97 rc k117 n) v16 (z3 + 1) u18)))) else none))) else (some (z2, u8)))))
def GX12_atom_0_117 (rc : Nat → Int32 → SX → Option (Int32 × SX))  (u : SX) : Option (Int32 × SX) := ((fX12_fails_0  u).bind fun q => match q with | (r20, u21) => (some (0, u21)))
def GX12_atom_0_93 (rc : Nat → Int32 → SX → Option (Int32 × SX))  (u : SX) : Option (Int32 × SX) := (LX12_atom_0_97 rc (GX12_atom_0_117 rc ) 5000 0 0 u)
theorem mX12_atom_0_5 : Cond.fieldLink RX12 185 "HissHornModel" "deep" "I" ∈ wsX12_atom := (List.mem_cons_of_mem _ (List.mem_append_left _ (List.mem_append_left _ (List.mem_of_getElem? (i := 3) rfl))))
def GX12_atom_0_38 (rc : Nat → Int32 → SX → Option (Int32 × SX)) (z1 : Int32) (u : SX) : Option (Int32 × SX) := (if z1 = 91 then ((fX12_goesIn_0  u).bind fun q => match q with | (r26, u27) => (if r26 = 0 then (some (0, u27)) else ((rc 0  0 u27).bind fun q => match q with | (r29, u30) => ((fX12_takes_0 93 u30).bind fun q => match q with | (r32, u33) => (if r32 = 0 then (some (0, u33)) else (lt (sI u33 8 ((u33.1 8) - 1)) fun u35 => (some (r29, u35)))))))) else ((fX12_isDigit_0  u).bind fun q => match q with | (r4, u5) => (if r4 = 0 then ((fX12_fails_0  u5).bind fun q => match q with | (r23, u24) => (GX12_atom_0_93 rc u24)) else (GX12_atom_0_93 rc u5))))
theorem mX12_atom_0_6 : Cond.fieldLink RX12 31 "HissHornModel" "allowed" "Ljava/lang/String;" ∈ wsX12_atom := (List.mem_cons_of_mem _ (List.mem_append_left _ (List.mem_append_left _ (List.mem_of_getElem? (i := 0) rfl))))
def fX12_atom_0 (rc : Nat → Int32 → SX → Option (Int32 × SX))  (u : SX) : Option (Int32 × SX) := ((fX12_look_0  u).bind fun q => match q with | (r1, u2) => (if r1 = (-1) then (GX12_atom_0_38 rc r1 u2) else none))
set_option maxHeartbeats 4000000 in
set_option maxRecDepth 100000 in
theorem wLX12_atom_0_97 {p : Program} {l : Launch} {e : Env} {s : State} {m : MethodId} {args : Array Value} {below : List Frame} {meth : Method} {c : Code} {D : va_G} {cy : Nat → ClassId} {ad st : Nat → Nat} (C : Cx RX12 cX12_atom 4 (some .int) wsX12_atom p s m args meth c) (hK : Kx D [(cy 0, .int), (cy 1, .long), (cy 2, .boolean), (cy 3, .byte), (cy 4, .object "HissHorn$Text")] st s) (hJ : JM ad) {rc : Nat → Int32 → SX → Option (Int32 × SX)} {dd : Nat} (hrc : hRX12sumg l D cy ad st rc dd) {r : Int32} {u' : SX} {k117 : SX → Option (Int32 × SX)} (hk117 : ∀  (u : SX) (H : Heap) (locs : List Loc) (ls : Array Slot), k117 u = some (r, u') → va_P D vwCl (VM cy ad st u) H → va_S (Ax (AM ad) s.heap.size) s.heap H locs → lv_has ls 4 [(0, .ref (ad 0))] → W p l e (rmX12sumg (dd + 1)) s m args below meth c H locs 0 0 (MQ below (Qi D (VM cy ad st) (AM ad) s.heap.size r u') args s 0 0 (Ax (AM ad) s.heap.size)) (F0 m 117 ls [])) : ∀ (n : Nat) (z2 : Int32) (z3 : Int32) (u : SX) (H : Heap) (locs : List Loc) (ls : Array Slot), LX12_atom_0_97 rc k117 n z2 z3 u = some (r, u') → va_P D vwCl (VM cy ad st u) H → va_S (Ax (AM ad) s.heap.size) s.heap H locs → lv_has ls 4 [(0, .ref (ad 0)), (2, .int z2), (3, .int z3)] → W p l e (rmX12sumg (dd + 1)) s m args below meth c H locs 0 0 (MQ below (Qi D (VM cy ad st) (AM ad) s.heap.size r u') args s 0 0 (Ax (AM ad) s.heap.size)) (F0 m 97 ls []) := by
  intro n
  induction n with
  | zero =>
    intro z2 z3 u H locs ls h
    exact absurd h (by intro q; cases q)
  | succ n ih =>
    intro z2 z3 u H locs ls h hP hS hl
    rw [LX12_atom_0_97] at h
    refine lv_aload_n C.1 C.2.1 dX12_atom_97 rfl (lv_at hl 0 rfl) ?_
    obtain ⟨⟨r7, u8⟩, hc9, h⟩ := bd_some h
    try dsimp only at h
    refine cg_i (As := []) (rest := []) C hK hP hS (metX12_isDigit_0 l D cy ad st hJ _  hc9) (cwV 0 C.2.2.2.2.2.1 gX12_atom_X12_isDigit rfl rfl rfl (by decide +kernel) ⟨(Nat.le_trans (m := 2) (Nat.le_of_ble_eq_true rfl) (rmX12sumg_f _)), (Nat.le_trans (m := 41) (Nat.le_of_ble_eq_true rfl) (rmX12sumg_l _))⟩) 0 12 rfl rfl rfl hl.1 rfl (Nat.le_of_ble_eq_true rfl) dX12_atom_98 ⟨Nat.zero_le _, Nat.zero_le _⟩ (fun H locs hP hS => ?_)
    refine lv_if_eq (tgt := 163) C.1 C.2.1 dX12_atom_101 (by decide) (fun c101 => ?_) (fun c101 => ?_)
    · rw [if_pos c101] at h
      refine lv_iload_n C.1 C.2.1 dX12_atom_163 rfl (lv_at hl 1 rfl) ?_
      cases h
      exact rt_i C hP hS dX12_atom_164
    · rw [if_neg c101] at h
      refine lv_aload_n C.1 C.2.1 dX12_atom_104 rfl (lv_at hl 0 rfl) ?_
      refine gM_0_fault C hX12_atom_0_X12 hK hP mX12_atom_0_1 dX12_atom_105 ?_
      refine lv_iconst (v := (-1)) C.1 C.2.1 dX12_atom_108 (by decide) ?_
      refine lv_icmp_ne (tgt := 163) C.1 C.2.1 dX12_atom_109 (by decide) (fun c109 => ?_) (fun c109 => ?_)
      · rw [if_neg c109] at h
        refine lv_iload_n C.1 C.2.1 dX12_atom_163 rfl (lv_at hl 1 rfl) ?_
        cases h
        exact rt_i C hP hS dX12_atom_164
      · rw [if_pos c109] at h
        refine lv_iload_n C.1 C.2.1 dX12_atom_112 rfl (lv_at hl 2 rfl) ?_
        refine lv_iconst (v := 4) C.1 C.2.1 dX12_atom_113 (by decide) ?_
        refine lv_icmp_ne (tgt := 124) C.1 C.2.1 dX12_atom_114 (by decide) (fun c114 => ?_) (fun c114 => ?_)
        · rw [if_neg c114] at h
          refine lv_bipush (v := 10) C.1 C.2.1 dX12_atom_124 (by decide) ?_
          refine lv_iload_n C.1 C.2.1 dX12_atom_126 rfl (lv_at hl 1 rfl) ?_
          refine lv_imul C.1 C.2.1 dX12_atom_127 ?_
          refine lv_aload_n C.1 C.2.1 dX12_atom_128 rfl (lv_at hl 0 rfl) ?_
          refine gM_0_text C hX12_atom_0_X12 hK hP mX12_atom_0_2 dX12_atom_129 ?_
          by_cases c129_1 : u8.1 2 = 2
          · rw [if_pos c129_1] at h
            refine W.eq (g2 := F0 m 132 ls [.ref (ad 1), .int (10 * z2)]) (by rw [c129_1]; rfl) ?_
            refine lv_aload_n C.1 C.2.1 dX12_atom_132 rfl (lv_at hl 0 rfl) ?_
            refine gM_0_begins C hX12_atom_0_X12 hK hP mX12_atom_0_3 dX12_atom_133 ?_
            refine lv_aload_n C.1 C.2.1 dX12_atom_136 rfl (lv_at hl 0 rfl) ?_
            refine gM_0_at C hX12_atom_0_X12 hK hP mX12_atom_0_4 dX12_atom_137 ?_
            refine lv_iadd C.1 C.2.1 dX12_atom_140 ?_
            obtain ⟨hg10, h⟩ := gd_some h
            refine lM_1 C hK hP hg10 dX12_atom_141 ?_
            refine lv_iadd C.1 C.2.1 dX12_atom_142 ?_
            refine lv_bipush (v := 48) C.1 C.2.1 dX12_atom_143 (by decide) ?_
            refine lv_isub C.1 C.2.1 dX12_atom_145 ?_
            refine lv_topi (fun v11 hv12 => ?_)
            replace h := lt_e hv12 h
            try dsimp only at h
            refine lv_istore_n (lv' := [(2, .int v11), (0, .ref (ad 0)), (3, .int z3)]) C.1 C.2.1 dX12_atom_146 rfl hl (by decide) rfl (fun ls hl => ?_)
            replace hl := lv_sub (l' := [(0, .ref (ad 0)), (2, .int v11), (3, .int z3)]) hl [1, 0, 2] rfl
            refine lv_aload_n C.1 C.2.1 dX12_atom_147 rfl (lv_at hl 0 rfl) ?_
            refine lv_dup C.1 C.2.1 dX12_atom_148 rfl ?_
            refine gM_0_at C hX12_atom_0_X12 hK hP mX12_atom_0_4 dX12_atom_149 ?_
            refine lv_iconst (v := 1) C.1 C.2.1 dX12_atom_152 (by decide) ?_
            refine lv_iadd C.1 C.2.1 dX12_atom_153 ?_
            refine pM_0_at C hX12_atom_0_X12 hK hP hJ hS mX12_atom_0_4 dX12_atom_154 (fun H locs hP hS => ?_)
            obtain ⟨u13, hu14, h⟩ := lt_some h
            rw [← hu14] at hP
            refine lv_iinc (v := z3 + 1) (lv' := [(3, .int (z3 + 1)), (0, .ref (ad 0)), (2, .int v11)]) C.1 C.2.1 dX12_atom_157 hl (k := 2) rfl rfl (by decide) rfl (fun ls hl => ?_)
            replace hl := lv_sub (l' := [(0, .ref (ad 0)), (2, .int v11), (3, .int (z3 + 1))]) hl [1, 2, 0] rfl
            refine lv_goto (tgt := 97) C.1 C.2.1 dX12_atom_160 (by decide) ?_
            exact ih _ _ _ _ _ _ h hP hS hl
          · rw [if_neg c129_1] at h
            by_cases c129_2 : u8.1 2 = 3
            · rw [if_pos c129_2] at h
              refine W.eq (g2 := F0 m 132 ls [.ref (ad 2), .int (10 * z2)]) (by rw [c129_2]; rfl) ?_
              refine lv_aload_n C.1 C.2.1 dX12_atom_132 rfl (lv_at hl 0 rfl) ?_
              refine gM_0_begins C hX12_atom_0_X12 hK hP mX12_atom_0_3 dX12_atom_133 ?_
              refine lv_aload_n C.1 C.2.1 dX12_atom_136 rfl (lv_at hl 0 rfl) ?_
              refine gM_0_at C hX12_atom_0_X12 hK hP mX12_atom_0_4 dX12_atom_137 ?_
              refine lv_iadd C.1 C.2.1 dX12_atom_140 ?_
              obtain ⟨hg15, h⟩ := gd_some h
              refine lM_2 C hK hP hg15 dX12_atom_141 ?_
              refine lv_iadd C.1 C.2.1 dX12_atom_142 ?_
              refine lv_bipush (v := 48) C.1 C.2.1 dX12_atom_143 (by decide) ?_
              refine lv_isub C.1 C.2.1 dX12_atom_145 ?_
              refine lv_topi (fun v16 hv17 => ?_)
              replace h := lt_e hv17 h
              try dsimp only at h
              refine lv_istore_n (lv' := [(2, .int v16), (0, .ref (ad 0)), (3, .int z3)]) C.1 C.2.1 dX12_atom_146 rfl hl (by decide) rfl (fun ls hl => ?_)
              replace hl := lv_sub (l' := [(0, .ref (ad 0)), (2, .int v16), (3, .int z3)]) hl [1, 0, 2] rfl
              refine lv_aload_n C.1 C.2.1 dX12_atom_147 rfl (lv_at hl 0 rfl) ?_
              refine lv_dup C.1 C.2.1 dX12_atom_148 rfl ?_
              refine gM_0_at C hX12_atom_0_X12 hK hP mX12_atom_0_4 dX12_atom_149 ?_
              refine lv_iconst (v := 1) C.1 C.2.1 dX12_atom_152 (by decide) ?_
              refine lv_iadd C.1 C.2.1 dX12_atom_153 ?_
              refine pM_0_at C hX12_atom_0_X12 hK hP hJ hS mX12_atom_0_4 dX12_atom_154 (fun H locs hP hS => ?_)
              obtain ⟨u18, hu19, h⟩ := lt_some h
              rw [← hu19] at hP
              refine lv_iinc (v := z3 + 1) (lv' := [(3, .int (z3 + 1)), (0, .ref (ad 0)), (2, .int v16)]) C.1 C.2.1 dX12_atom_157 hl (k := 2) rfl rfl (by decide) rfl (fun ls hl => ?_)
              replace hl := lv_sub (l' := [(0, .ref (ad 0)), (2, .int v16), (3, .int (z3 + 1))]) hl [1, 2, 0] rfl
              refine lv_goto (tgt := 97) C.1 C.2.1 dX12_atom_160 (by decide) ?_
              exact ih _ _ _ _ _ _ h hP hS hl
            · rw [if_neg c129_2] at h
              exact absurd h (by intro q; cases q)
        · rw [if_pos c114] at h
          exact hk117 _ _ _ _ h hP hS (lv_sub hl [0] rfl)
set_option maxHeartbeats 4000000 in
set_option maxRecDepth 100000 in
theorem wGX12_atom_0_117 {p : Program} {l : Launch} {e : Env} {s : State} {m : MethodId} {args : Array Value} {below : List Frame} {meth : Method} {c : Code} {D : va_G} {cy : Nat → ClassId} {ad st : Nat → Nat} (C : Cx RX12 cX12_atom 4 (some .int) wsX12_atom p s m args meth c) (hK : Kx D [(cy 0, .int), (cy 1, .long), (cy 2, .boolean), (cy 3, .byte), (cy 4, .object "HissHorn$Text")] st s) (hJ : JM ad) {rc : Nat → Int32 → SX → Option (Int32 × SX)} {dd : Nat} (hrc : hRX12sumg l D cy ad st rc dd) {r : Int32} {u' : SX}   (u : SX) (H : Heap) (locs : List Loc) (ls : Array Slot) (h : GX12_atom_0_117 rc  u = some (r, u')) (hP : va_P D vwCl (VM cy ad st u) H) (hS : va_S (Ax (AM ad) s.heap.size) s.heap H locs) (hl : lv_has ls 4 [(0, .ref (ad 0))]) : W p l e (rmX12sumg (dd + 1)) s m args below meth c H locs 0 0 (MQ below (Qi D (VM cy ad st) (AM ad) s.heap.size r u') args s 0 0 (Ax (AM ad) s.heap.size)) (F0 m 117 ls []) := by
  unfold GX12_atom_0_117 at h
  refine lv_aload_n C.1 C.2.1 dX12_atom_117 rfl (lv_at hl 0 rfl) ?_
  obtain ⟨⟨r20, u21⟩, hc22, h⟩ := bd_some h
  try dsimp only at h
  refine cg_i (As := []) (rest := []) C hK hP hS (metX12_fails_0 l D cy ad st hJ _  hc22) (cwV 0 C.2.2.2.2.2.1 gX12_atom_X12_fails rfl rfl rfl (by decide +kernel) ⟨(Nat.le_trans (m := 2) (Nat.le_of_ble_eq_true rfl) (rmX12sumg_f _)), (Nat.le_trans (m := 41) (Nat.le_of_ble_eq_true rfl) (rmX12sumg_l _))⟩) 0 12 rfl rfl rfl hl.1 rfl (Nat.le_of_ble_eq_true rfl) dX12_atom_118 ⟨Nat.zero_le _, Nat.zero_le _⟩ (fun H locs hP hS => ?_)
  refine lv_pop C.1 C.2.1 dX12_atom_121 rfl ?_
  refine lv_iconst (v := 0) C.1 C.2.1 dX12_atom_122 (by decide) ?_
  cases h
  exact rt_i C hP hS dX12_atom_123
set_option maxHeartbeats 4000000 in
set_option maxRecDepth 100000 in
theorem wGX12_atom_0_93 {p : Program} {l : Launch} {e : Env} {s : State} {m : MethodId} {args : Array Value} {below : List Frame} {meth : Method} {c : Code} {D : va_G} {cy : Nat → ClassId} {ad st : Nat → Nat} (C : Cx RX12 cX12_atom 4 (some .int) wsX12_atom p s m args meth c) (hK : Kx D [(cy 0, .int), (cy 1, .long), (cy 2, .boolean), (cy 3, .byte), (cy 4, .object "HissHorn$Text")] st s) (hJ : JM ad) {rc : Nat → Int32 → SX → Option (Int32 × SX)} {dd : Nat} (hrc : hRX12sumg l D cy ad st rc dd) {r : Int32} {u' : SX}   (u : SX) (H : Heap) (locs : List Loc) (ls : Array Slot) (h : GX12_atom_0_93 rc  u = some (r, u')) (hP : va_P D vwCl (VM cy ad st u) H) (hS : va_S (Ax (AM ad) s.heap.size) s.heap H locs) (hl : lv_has ls 4 [(0, .ref (ad 0))]) : W p l e (rmX12sumg (dd + 1)) s m args below meth c H locs 0 0 (MQ below (Qi D (VM cy ad st) (AM ad) s.heap.size r u') args s 0 0 (Ax (AM ad) s.heap.size)) (F0 m 93 ls []) := by
  unfold GX12_atom_0_93 at h
  refine lv_iconst (v := 0) C.1 C.2.1 dX12_atom_93 (by decide) ?_
  refine lv_istore_n (lv' := [(2, .int 0), (0, .ref (ad 0))]) C.1 C.2.1 dX12_atom_94 rfl hl (by decide) rfl (fun ls hl => ?_)
  replace hl := lv_sub (l' := [(0, .ref (ad 0)), (2, .int 0)]) hl [1, 0] rfl
  refine lv_iconst (v := 0) C.1 C.2.1 dX12_atom_95 (by decide) ?_
  refine lv_istore_n (lv' := [(3, .int 0), (0, .ref (ad 0)), (2, .int 0)]) C.1 C.2.1 dX12_atom_96 rfl hl (by decide) rfl (fun ls hl => ?_)
  replace hl := lv_sub (l' := [(0, .ref (ad 0)), (2, .int 0), (3, .int 0)]) hl [1, 2, 0] rfl
  exact wLX12_atom_0_97 C hK hJ hrc (wGX12_atom_0_117 C hK hJ hrc ) 5000 _ _ _ _ _ _ h hP hS hl
set_option maxHeartbeats 4000000 in
set_option maxRecDepth 100000 in
theorem wGX12_atom_0_38 {p : Program} {l : Launch} {e : Env} {s : State} {m : MethodId} {args : Array Value} {below : List Frame} {meth : Method} {c : Code} {D : va_G} {cy : Nat → ClassId} {ad st : Nat → Nat} (C : Cx RX12 cX12_atom 4 (some .int) wsX12_atom p s m args meth c) (hK : Kx D [(cy 0, .int), (cy 1, .long), (cy 2, .boolean), (cy 3, .byte), (cy 4, .object "HissHorn$Text")] st s) (hJ : JM ad) {rc : Nat → Int32 → SX → Option (Int32 × SX)} {dd : Nat} (hrc : hRX12sumg l D cy ad st rc dd) {r : Int32} {u' : SX}   (z1 : Int32) (u : SX) (H : Heap) (locs : List Loc) (ls : Array Slot) (h : GX12_atom_0_38 rc z1 u = some (r, u')) (hP : va_P D vwCl (VM cy ad st u) H) (hS : va_S (Ax (AM ad) s.heap.size) s.heap H locs) (hl : lv_has ls 4 [(0, .ref (ad 0)), (1, .int z1)]) : W p l e (rmX12sumg (dd + 1)) s m args below meth c H locs 0 0 (MQ below (Qi D (VM cy ad st) (AM ad) s.heap.size r u') args s 0 0 (Ax (AM ad) s.heap.size)) (F0 m 38 ls []) := by
  unfold GX12_atom_0_38 at h
  refine lv_iload_n C.1 C.2.1 dX12_atom_38 rfl (lv_at hl 1 rfl) ?_
  refine lv_bipush (v := 91) C.1 C.2.1 dX12_atom_39 (by decide) ?_
  refine lv_icmp_ne (tgt := 81) C.1 C.2.1 dX12_atom_41 (by decide) (fun c41 => ?_) (fun c41 => ?_)
  · rw [if_neg c41] at h
    refine lv_aload_n C.1 C.2.1 dX12_atom_81 rfl (lv_at hl 0 rfl) ?_
    obtain ⟨⟨r4, u5⟩, hc6, h⟩ := bd_some h
    try dsimp only at h
    refine cg_i (As := []) (rest := []) C hK hP hS (metX12_isDigit_0 l D cy ad st hJ _  hc6) (cwV 0 C.2.2.2.2.2.1 gX12_atom_X12_isDigit rfl rfl rfl (by decide +kernel) ⟨(Nat.le_trans (m := 2) (Nat.le_of_ble_eq_true rfl) (rmX12sumg_f _)), (Nat.le_trans (m := 41) (Nat.le_of_ble_eq_true rfl) (rmX12sumg_l _))⟩) 0 12 rfl rfl rfl hl.1 rfl (Nat.le_of_ble_eq_true rfl) dX12_atom_82 ⟨Nat.zero_le _, Nat.zero_le _⟩ (fun H locs hP hS => ?_)
    refine lv_if_ne (tgt := 93) C.1 C.2.1 dX12_atom_85 (by decide) (fun c85 => ?_) (fun c85 => ?_)
    · rw [if_neg c85] at h
      exact wGX12_atom_0_93 C hK hJ hrc _ _ _ _ h hP hS (lv_sub hl [0] rfl)
    · rw [if_pos c85] at h
      refine lv_aload_n C.1 C.2.1 dX12_atom_88 rfl (lv_at hl 0 rfl) ?_
      obtain ⟨⟨r23, u24⟩, hc25, h⟩ := bd_some h
      try dsimp only at h
      refine cg_i (As := []) (rest := []) C hK hP hS (metX12_fails_0 l D cy ad st hJ _  hc25) (cwV 0 C.2.2.2.2.2.1 gX12_atom_X12_fails rfl rfl rfl (by decide +kernel) ⟨(Nat.le_trans (m := 2) (Nat.le_of_ble_eq_true rfl) (rmX12sumg_f _)), (Nat.le_trans (m := 41) (Nat.le_of_ble_eq_true rfl) (rmX12sumg_l _))⟩) 0 12 rfl rfl rfl hl.1 rfl (Nat.le_of_ble_eq_true rfl) dX12_atom_89 ⟨Nat.zero_le _, Nat.zero_le _⟩ (fun H locs hP hS => ?_)
      refine lv_pop C.1 C.2.1 dX12_atom_92 rfl ?_
      exact wGX12_atom_0_93 C hK hJ hrc _ _ _ _ h hP hS (lv_sub hl [0] rfl)
  · rw [if_pos c41] at h
    refine lv_aload_n C.1 C.2.1 dX12_atom_44 rfl (lv_at hl 0 rfl) ?_
    obtain ⟨⟨r26, u27⟩, hc28, h⟩ := bd_some h
    try dsimp only at h
    refine cg_i (As := []) (rest := []) C hK hP hS (metX12_goesIn_0 l D cy ad st hJ _  hc28) (cwV 0 C.2.2.2.2.2.1 gX12_atom_X12_goesIn rfl rfl rfl (by decide +kernel) ⟨(Nat.le_trans (m := 2) (Nat.le_of_ble_eq_true rfl) (rmX12sumg_f _)), (Nat.le_trans (m := 41) (Nat.le_of_ble_eq_true rfl) (rmX12sumg_l _))⟩) 0 12 rfl rfl rfl hl.1 rfl (Nat.le_of_ble_eq_true rfl) dX12_atom_45 ⟨Nat.zero_le _, Nat.zero_le _⟩ (fun H locs hP hS => ?_)
    refine lv_if_ne (tgt := 53) C.1 C.2.1 dX12_atom_48 (by decide) (fun c48 => ?_) (fun c48 => ?_)
    · rw [if_neg c48] at h
      refine lv_aload_n C.1 C.2.1 dX12_atom_53 rfl (lv_at hl 0 rfl) ?_
      obtain ⟨⟨r29, u30⟩, hc31, h⟩ := bd_some h
      try dsimp only at h
      refine cg_i (As := []) (rest := []) C hK hP hS (hrc.1 _  _ _ _ hc31) (cwV 0 C.2.2.2.2.2.1 gX12_atom_X12_sum rfl rfl rfl (by decide +kernel) ⟨rmX12sumg_sf dd, rmX12sumg_sl dd (k := 8 + (5 + 11)) (Nat.le_of_ble_eq_true rfl)⟩) 0 12 rfl rfl rfl hl.1 rfl (Nat.le_of_ble_eq_true rfl) dX12_atom_54 ⟨Nat.zero_le _, Nat.zero_le _⟩ (fun H locs hP hS => ?_)
      refine lv_istore_n (lv' := [(2, .int r29), (0, .ref (ad 0)), (1, .int z1)]) C.1 C.2.1 dX12_atom_57 rfl hl (by decide) rfl (fun ls hl => ?_)
      replace hl := lv_sub (l' := [(0, .ref (ad 0)), (1, .int z1), (2, .int r29)]) hl [1, 2, 0] rfl
      refine lv_aload_n C.1 C.2.1 dX12_atom_58 rfl (lv_at hl 0 rfl) ?_
      refine lv_bipush (v := 93) C.1 C.2.1 dX12_atom_59 (by decide) ?_
      obtain ⟨⟨r32, u33⟩, hc34, h⟩ := bd_some h
      try dsimp only at h
      refine cg_i (As := [.int 93]) (rest := []) C hK hP hS (metX12_takes_0 l D cy ad st hJ _ 93 hc34) (cwV 1 C.2.2.2.2.2.1 gX12_atom_X12_takes rfl rfl rfl (by decide +kernel) ⟨(Nat.le_trans (m := 2) (Nat.le_of_ble_eq_true rfl) (rmX12sumg_f _)), (Nat.le_trans (m := 41) (Nat.le_of_ble_eq_true rfl) (rmX12sumg_l _))⟩) 0 12 rfl rfl rfl hl.1 rfl (Nat.le_of_ble_eq_true rfl) dX12_atom_61 ⟨Nat.zero_le _, Nat.zero_le _⟩ (fun H locs hP hS => ?_)
      refine lv_if_ne (tgt := 69) C.1 C.2.1 dX12_atom_64 (by decide) (fun c64 => ?_) (fun c64 => ?_)
      · rw [if_neg c64] at h
        refine lv_aload_n C.1 C.2.1 dX12_atom_69 rfl (lv_at hl 0 rfl) ?_
        refine lv_dup C.1 C.2.1 dX12_atom_70 rfl ?_
        refine gM_0_deep C hX12_atom_0_X12 hK hP mX12_atom_0_5 dX12_atom_71 ?_
        refine lv_iconst (v := 1) C.1 C.2.1 dX12_atom_74 (by decide) ?_
        refine lv_isub C.1 C.2.1 dX12_atom_75 ?_
        refine pM_0_deep C hX12_atom_0_X12 hK hP hJ hS mX12_atom_0_5 dX12_atom_76 (fun H locs hP hS => ?_)
        obtain ⟨u35, hu36, h⟩ := lt_some h
        rw [← hu36] at hP
        refine lv_iload_n C.1 C.2.1 dX12_atom_79 rfl (lv_at hl 2 rfl) ?_
        cases h
        exact rt_i C hP hS dX12_atom_80
      · rw [if_pos c64] at h
        refine lv_iconst (v := 0) C.1 C.2.1 dX12_atom_67 (by decide) ?_
        cases h
        exact rt_i C hP hS dX12_atom_68
    · rw [if_pos c48] at h
      refine lv_iconst (v := 0) C.1 C.2.1 dX12_atom_51 (by decide) ?_
      cases h
      exact rt_i C hP hS dX12_atom_52
set_option maxHeartbeats 4000000 in
set_option maxRecDepth 100000 in
theorem wX12_atom_0 {p : Program} {l : Launch} {e : Env} {s : State} {m : MethodId} {args : Array Value} {below : List Frame} {meth : Method} {c : Code} {D : va_G} {cy : Nat → ClassId} {ad st : Nat → Nat} (C : Cx RX12 cX12_atom 4 (some .int) wsX12_atom p s m args meth c) (hK : Kx D [(cy 0, .int), (cy 1, .long), (cy 2, .boolean), (cy 3, .byte), (cy 4, .object "HissHorn$Text")] st s) (hJ : JM ad) {rc : Nat → Int32 → SX → Option (Int32 × SX)} {dd : Nat} (hrc : hRX12sumg l D cy ad st rc dd)  {u : SX} {r : Int32} {u' : SX} {H : Heap} {locs : List Loc} {ls : Array Slot} (h : fX12_atom_0 rc  u = some (r, u')) (hP : va_P D vwCl (VM cy ad st u) H) (hS : va_S (Ax (AM ad) s.heap.size) s.heap H locs) (hl : lv_has ls 4 [(0, .ref (ad 0))]) : W p l e (rmX12sumg (dd + 1)) s m args below meth c H locs 0 0 (MQ below (Qi D (VM cy ad st) (AM ad) s.heap.size r u') args s 0 0 (Ax (AM ad) s.heap.size)) (F0 m 0 ls []) := by
  unfold fX12_atom_0 at h
  refine lv_aload_n C.1 C.2.1 dX12_atom_0 rfl (lv_at hl 0 rfl) ?_
  obtain ⟨⟨r1, u2⟩, hc3, h⟩ := bd_some h
  try dsimp only at h
  refine cg_i (As := []) (rest := []) C hK hP hS (metX12_look_0 l D cy ad st hJ _  hc3) (cwV 0 C.2.2.2.2.2.1 gX12_atom_X12_look rfl rfl rfl (by decide +kernel) ⟨(Nat.le_trans (m := 2) (Nat.le_of_ble_eq_true rfl) (rmX12sumg_f _)), (Nat.le_trans (m := 41) (Nat.le_of_ble_eq_true rfl) (rmX12sumg_l _))⟩) 0 12 rfl rfl rfl hl.1 rfl (Nat.le_of_ble_eq_true rfl) dX12_atom_1 ⟨Nat.zero_le _, Nat.zero_le _⟩ (fun H locs hP hS => ?_)
  refine lv_istore_n (lv' := [(1, .int r1), (0, .ref (ad 0))]) C.1 C.2.1 dX12_atom_4 rfl hl (by decide) rfl (fun ls hl => ?_)
  replace hl := lv_sub (l' := [(0, .ref (ad 0)), (1, .int r1)]) hl [1, 0] rfl
  refine lv_iload_n C.1 C.2.1 dX12_atom_5 rfl (lv_at hl 1 rfl) ?_
  refine lv_iconst (v := (-1)) C.1 C.2.1 dX12_atom_6 (by decide) ?_
  refine lv_icmp_eq (tgt := 38) C.1 C.2.1 dX12_atom_7 (by decide) (fun c7 => ?_) (fun c7 => ?_)
  · rw [if_pos c7] at h
    exact wGX12_atom_0_38 C hK hJ hrc _ _ _ _ _ h hP hS hl
  · rw [if_neg c7] at h
    refine lv_aload_n C.1 C.2.1 dX12_atom_10 rfl (lv_at hl 0 rfl) ?_
    refine gM_0_allowed C hX12_atom_0_X12 hK hP mX12_atom_0_6 dX12_atom_11 ?_
    exact absurd h (by intro q; cases q)
theorem metX12_atom_0 (l : Launch) (D : va_G) (cy : Nat → ClassId) (ad st : Nat → Nat) (hJ : JM ad) {rc : Nat → Int32 → SX → Option (Int32 × SX)} {dd : Nat} (hrc : hRX12sumg l D cy ad st rc dd) (sz : Nat)  {u : SX} {r : Int32} {u' : SX} (h : fX12_atom_0 rc  u = some (r, u')) : Met l yX12_atom wsX12_atom (rmX12sumg (dd + 1)) (va_Pc [.ref (ad 0)] (Px D [(cy 0, .int), (cy 1, .long), (cy 2, .boolean), (cy 3, .byte), (cy 4, .object "HissHorn$Text")] st (VM cy ad st) sz u)) (Qi D (VM cy ad st) (AM ad) sz r u') 0 0 (Ax (AM ad) sz) := by
  refine Met.ofW (cc := cX12_atom) (maxL := 4) (ret := (some .int)) (by decide) rfl ?_
  intro p e s m args below meth c s₁ B hml hv
  obtain ⟨rfl, hsz, hP, hK⟩ := hv
  subst hsz
  have C : Cx RX12 cX12_atom 4 (some .int) wsX12_atom p s m _ meth c := ⟨B.exec, B.bytes, hml, B.returns, findClass_of_methodNamed B.named, atoms_spec (ws := wsX12_atom) B.pre, B.notSynchronized⟩
  have hl := lv_entry ([.ref (ad 0)]) (n := 4) (Nat.le_of_ble_eq_true rfl)
  rw [lg_entry_eq]
  exact wX12_atom_0 C hK hJ hrc h hP va_S.rf hl

def rX12sumg : Nat → Nat → Int32 → SX → Option (Int32 × SX)
  | 0, _, _, _ => none
  | d + 1, t, a0, u => (if t = 0 then fX12_sum_0 (rX12sumg d)  u else (if t = 1 then fX12_term_0 (rX12sumg d)  u else (if t = 2 then fX12_atom_0 (rX12sumg d)  u else none)))
theorem hRX12sumg_all (l : Launch) (D : va_G) (cy : Nat → ClassId) (ad st : Nat → Nat) (hJ : JM ad) : ∀ d, hRX12sumg l D cy ad st (rX12sumg d) d := by
  intro d
  induction d with
  | zero =>
    refine ⟨?_, ?_, ?_⟩
    · intro sz  u r u' h
      exact absurd h (by intro q; cases q)
    · intro sz  u r u' h
      exact absurd h (by intro q; cases q)
    · intro sz  u r u' h
      exact absurd h (by intro q; cases q)
  | succ d ih =>
    refine ⟨?_, ?_, ?_⟩
    · intro sz  u r u' h
      rw [rX12sumg] at h
      rw [if_pos rfl] at h
      exact metX12_sum_0 l D cy ad st hJ ih sz  h
    · intro sz  u r u' h
      rw [rX12sumg] at h
      rw [if_neg (by decide)] at h; rw [if_pos rfl] at h
      exact metX12_term_0 l D cy ad st hJ ih sz  h
    · intro sz  u r u' h
      rw [rX12sumg] at h
      rw [if_neg (by decide)] at h; rw [if_neg (by decide)] at h; rw [if_pos rfl] at h
      exact metX12_atom_0 l D cy ad st hJ ih sz  h
