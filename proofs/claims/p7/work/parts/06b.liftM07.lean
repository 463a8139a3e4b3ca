theorem dX12_goThrough_45 : decode cX12_goThrough 45 = .ok (.iconst 0, 1) := by decide +kernel
theorem dX12_goThrough_46 : decode cX12_goThrough 46 = .ok (.putfield 173, 3) := by decide +kernel
theorem dX12_goThrough_49 : decode cX12_goThrough 49 = .ok (.aload_n 0, 1) := by decide +kernel
theorem dX12_goThrough_50 : decode cX12_goThrough 50 = .ok (.iconst (-1), 1) := by decide +kernel
theorem dX12_goThrough_51 : decode cX12_goThrough 51 = .ok (.putfield 182, 3) := by decide +kernel
theorem dX12_goThrough_54 : decode cX12_goThrough 54 = .ok (.aload_n 0, 1) := by decide +kernel
theorem dX12_goThrough_55 : decode cX12_goThrough 55 = .ok (.iconst 0, 1) := by decide +kernel
theorem dX12_goThrough_56 : decode cX12_goThrough 56 = .ok (.putfield 185, 3) := by decide +kernel
theorem dX12_goThrough_59 : decode cX12_goThrough 59 = .ok (.aload_n 0, 1) := by decide +kernel
theorem dX12_goThrough_60 : decode cX12_goThrough 60 = .ok (.iconst 0, 1) := by decide +kernel
theorem dX12_goThrough_61 : decode cX12_goThrough 61 = .ok (.putfield 253, 3) := by decide +kernel
theorem dX12_goThrough_64 : decode cX12_goThrough 64 = .ok (.aload_n 0, 1) := by decide +kernel
theorem dX12_goThrough_65 : decode cX12_goThrough 65 = .ok (.iconst 0, 1) := by decide +kernel
theorem dX12_goThrough_66 : decode cX12_goThrough 66 = .ok (.putfield 257, 3) := by decide +kernel
theorem dX12_goThrough_69 : decode cX12_goThrough 69 = .ok (.aload_n 0, 1) := by decide +kernel
theorem dX12_goThrough_70 : decode cX12_goThrough 70 = .ok (.invokevirtual 264, 3) := by decide +kernel
theorem dX12_goThrough_0 : decode cX12_goThrough 0 = .ok (.aload_n 0, 1) := by decide +kernel
theorem dX12_goThrough_1 : decode cX12_goThrough 1 = .ok (.aload_n 1, 1) := by decide +kernel
theorem dX12_goThrough_2 : decode cX12_goThrough 2 = .ok (.putfield 26, 3) := by decide +kernel
theorem dX12_goThrough_5 : decode cX12_goThrough 5 = .ok (.aload_n 0, 1) := by decide +kernel
theorem dX12_goThrough_6 : decode cX12_goThrough 6 = .ok (.iload_n 2, 1) := by decide +kernel
theorem dX12_goThrough_7 : decode cX12_goThrough 7 = .ok (.putfield 179, 3) := by decide +kernel
theorem dX12_goThrough_10 : decode cX12_goThrough 10 = .ok (.aload_n 0, 1) := by decide +kernel
theorem dX12_goThrough_11 : decode cX12_goThrough 11 = .ok (.iload_n 3, 1) := by decide +kernel
theorem dX12_goThrough_12 : decode cX12_goThrough 12 = .ok (.putfield 176, 3) := by decide +kernel
theorem dX12_goThrough_15 : decode cX12_goThrough 15 = .ok (.aload_n 0, 1) := by decide +kernel
theorem dX12_goThrough_16 : decode cX12_goThrough 16 = .ok (.iload 4, 2) := by decide +kernel
theorem dX12_goThrough_18 : decode cX12_goThrough 18 = .ok (.ifCond .ne 8, 3) := by decide +kernel
theorem dX12_goThrough_26 : decode cX12_goThrough 26 = .ok (.iload 4, 2) := by decide +kernel
theorem dX12_goThrough_28 : decode cX12_goThrough 28 = .ok (.iconst 1, 1) := by decide +kernel
theorem dX12_goThrough_29 : decode cX12_goThrough 29 = .ok (.if_icmp .ne 9, 3) := by decide +kernel
theorem dX12_goThrough_38 : decode cX12_goThrough 38 = .ok (.ldc_w 262, 3) := by decide +kernel
theorem dX12_goThrough_32 : decode cX12_goThrough 32 = .ok (.ldc_w 260, 3) := by decide +kernel
theorem dX12_goThrough_35 : decode cX12_goThrough 35 = .ok (.goto 6, 3) := by decide +kernel
theorem dX12_goThrough_21 : decode cX12_goThrough 21 = .ok (.ldc 29, 2) := by decide +kernel
theorem dX12_goThrough_23 : decode cX12_goThrough 23 = .ok (.goto 18, 3) := by decide +kernel
/-- HissHornModel.goThrough([BIII)V of cell 0 -/
def rmX12_goThrough_0_a1 : Room := { frames := 136, cells := 0, slots := 0, locals := 8380 }
theorem hX12_goThrough_0_a1_X12 : ∀ w ∈ u_ws RX12 TX12 69, w ∈ wsX12_goThrough := fun w h => (List.mem_cons_of_mem _ (List.mem_append_right _ h))
theorem mX12_goThrough_0_a1_1 : Cond.fieldLink RX12 26 "HissHornModel" "text" "[B" ∈ wsX12_goThrough := (List.mem_cons_of_mem _ (List.mem_append_left _ (List.mem_append_left _ (List.mem_of_getElem? (i := 10) rfl))))
theorem mX12_goThrough_0_a1_2 : Cond.fieldLink RX12 179 "HissHornModel" "begins" "I" ∈ wsX12_goThrough := (List.mem_cons_of_mem _ (List.mem_append_left _ (List.mem_append_left _ (List.mem_of_getElem? (i := 11) rfl))))
theorem mX12_goThrough_0_a1_3 : Cond.fieldLink RX12 176 "HissHornModel" "ends" "I" ∈ wsX12_goThrough := (List.mem_cons_of_mem _ (List.mem_append_left _ (List.mem_append_left _ (List.mem_of_getElem? (i := 12) rfl))))
theorem mX12_goThrough_0_a1_4 : Cond.fieldLink RX12 31 "HissHornModel" "allowed" "Ljava/lang/String;" ∈ wsX12_goThrough := (List.mem_cons_of_mem _ (List.mem_append_left _ (List.mem_append_left _ (List.mem_of_getElem? (i := 13) rfl))))
theorem mX12_goThrough_0_a1_5 : Cond.fieldLink RX12 173 "HissHornModel" "at" "I" ∈ wsX12_goThrough := (List.mem_cons_of_mem _ (List.mem_append_left _ (List.mem_append_left _ (List.mem_of_getElem? (i := 14) rfl))))
theorem mX12_goThrough_0_a1_6 : Cond.fieldLink RX12 182 "HissHornModel" "fault" "I" ∈ wsX12_goThrough := (List.mem_cons_of_mem _ (List.mem_append_left _ (List.mem_append_left _ (List.mem_of_getElem? (i := 15) rfl))))
theorem mX12_goThrough_0_a1_7 : Cond.fieldLink RX12 185 "HissHornModel" "deep" "I" ∈ wsX12_goThrough := (List.mem_cons_of_mem _ (List.mem_append_left _ (List.mem_append_left _ (List.mem_of_getElem? (i := 16) rfl))))
theorem mX12_goThrough_0_a1_8 : Cond.fieldLink RX12 253 "HissHornModel" "hasFound" "Z" ∈ wsX12_goThrough := (List.mem_cons_of_mem _ (List.mem_append_left _ (List.mem_append_left _ (List.mem_of_getElem? (i := 17) rfl))))
theorem mX12_goThrough_0_a1_9 : Cond.fieldLink RX12 257 "HissHornModel" "found" "I" ∈ wsX12_goThrough := (List.mem_cons_of_mem _ (List.mem_append_left _ (List.mem_append_left _ (List.mem_of_getElem? (i := 18) rfl))))
def LX12_goThrough_0_a1_73 (k107 : SX → Option (Int32 × SX)) : Nat → SX → Option (Int32 × SX)
  | 0, _ => none
  | n + 1, u => (if (u.1 7) = (-1) then ((fX12_look_0  u).bind fun q => match q with | (r23, u24) => (if r23 = 59 then (lt (sI u24 6 ((u24.1 6) + 1)) fun u26 => ((fX12_clause_0  u26).bind fun q => match q with | (r28, u29) => ((LX12_goThrough_0_a1_73 k107 n) u29))) else (k107 u24))) else (k107 u))
def GX12_goThrough_0_a1_107  (u : SX) : Option (Int32 × SX) := (if (u.1 7) = (-1) then ((fX12_look_0  u).bind fun q => match q with | (r31, u32) => (if r31 = (-1) then (some (0, u32)) else ((fX12_fails_0  u32).bind fun q => match q with | (r34, u35) => (some (0, u35))))) else (some (0, u)))
def GX12_goThrough_0_a1_41  (u : SX) : Option (Int32 × SX) := (lt (sI u 10 7) fun u7 => (lt (sI u7 6 0) fun u9 => (lt (sI u9 7 (-1)) fun u11 => (lt (sI u11 8 0) fun u13 => (gd (isB 0) (lt (sI u13 11 0) fun u16 => (lt (sI u16 9 0) fun u18 => ((fX12_clause_0  u18).bind fun q => match q with | (r20, u21) => (LX12_goThrough_0_a1_73 GX12_goThrough_0_a1_107 5000 u21)))))))))
def GX12_goThrough_0_a1_41a  (u : SX) : Option (Int32 × SX) := (lt (sI u 10 6) fun u37 => (lt (sI u37 6 0) fun u39 => (lt (sI u39 7 (-1)) fun u41 => (lt (sI u41 8 0) fun u43 => (gd (isB 0) (lt (sI u43 11 0) fun u46 => (lt (sI u46 9 0) fun u48 => ((fX12_clause_0  u48).bind fun q => match q with | (r50, u51) => (LX12_goThrough_0_a1_73 GX12_goThrough_0_a1_107 5000 u51)))))))))
def GX12_goThrough_0_a1_41b  (u : SX) : Option (Int32 × SX) := (lt (sI u 10 5) fun u53 => (lt (sI u53 6 0) fun u55 => (lt (sI u55 7 (-1)) fun u57 => (lt (sI u57 8 0) fun u59 => (gd (isB 0) (lt (sI u59 11 0) fun u62 => (lt (sI u62 9 0) fun u64 => ((fX12_clause_0  u64).bind fun q => match q with | (r66, u67) => (LX12_goThrough_0_a1_73 GX12_goThrough_0_a1_107 5000 u67)))))))))
def fX12_goThrough_0_a1 (x2 : Int32) (x3 : Int32) (x4 : Int32) (u : SX) : Option (Int32 × SX) := (lt (sI u 2 2) fun u1 => (lt (sI u1 4 x2) fun u3 => (lt (sI u3 5 x3) fun u5 => (if x4 = 0 then (GX12_goThrough_0_a1_41b u5) else (if x4 = 1 then (GX12_goThrough_0_a1_41a u5) else (GX12_goThrough_0_a1_41 u5))))))
set_option maxHeartbeats 4000000 in
set_option maxRecDepth 100000 in
theorem wLX12_goThrough_0_a1_73 {p : Program} {l : Launch} {e : Env} {s : State} {m : MethodId} {args : Array Value} {below : List Frame} {meth : Method} {c : Code} {D : va_G} {cy : Nat → ClassId} {ad st : Nat → Nat} (C : Cx RX12 cX12_goThrough 5 none wsX12_goThrough p s m args meth c) (hK : Ky D [(cy 0, .int), (cy 1, .long), (cy 2, .boolean), (cy 3, .byte), (cy 4, .object "HissHorn$Text")] st s) (hJ : JM ad st) {r : Int32} {u' : SX} {k107 : SX → Option (Int32 × SX)} (hk107 : ∀  (u : SX) (H : Heap) (locs : List Loc) (ls : Array Slot), k107 u = some (r, u') → va_P D vwCl (VM cy ad st u) H → va_S (Ax (AM ad) s.heap.size) s.heap H locs → lv_has ls 5 [(0, .ref (ad 0))] → W p l e rmX12_goThrough_0_a1 s m args below meth c H locs 0 0 (MQ below (Qv D (VM cy ad st) (AM ad) s.heap.size r u') args s 0 0 (Ax (AM ad) s.heap.size)) (F0 m 107 ls [])) : ∀ (n : Nat) (u : SX) (H : Heap) (locs : List Loc) (ls : Array Slot), LX12_goThrough_0_a1_73 k107 n u = some (r, u') → va_P D vwCl (VM cy ad st u) H → va_S (Ax (AM ad) s.heap.size) s.heap H locs → lv_has ls 5 [(0, .ref (ad 0))] → W p l e rmX12_goThrough_0_a1 s m args below meth c H locs 0 0 (MQ below (Qv D (VM cy ad st) (AM ad) s.heap.size r u') args s 0 0 (Ax (AM ad) s.heap.size)) (F0 m 73 ls []) := by
  intro n
  induction n with
  | zero =>
    intro u H locs ls h
    exact absurd h (by intro q; cases q)
  | succ n ih =>
    intro u H locs ls h hP hS hl
    rw [LX12_goThrough_0_a1_73] at h
    refine lv_aload_n C.1 C.2.1 dX12_goThrough_73 rfl (lv_at hl 0 rfl) ?_
    refine gM_0_fault C hX12_goThrough_0_a1_X12 hK hP mX12_goThrough_0_a1_6 dX12_goThrough_74 ?_
    refine lv_iconst (v := (-1)) C.1 C.2.1 dX12_goThrough_77 (by decide) ?_
    refine lv_icmp_ne (tgt := 107) C.1 C.2.1 dX12_goThrough_78 (by decide) (fun c78 => ?_) (fun c78 => ?_)
    · rw [if_neg c78] at h
      exact hk107 _ _ _ _ h hP hS hl
    · rw [if_pos c78] at h
      refine lv_aload_n C.1 C.2.1 dX12_goThrough_81 rfl (lv_at hl 0 rfl) ?_
      obtain ⟨⟨r23, u24⟩, hc25, h⟩ := bd_some h
      try dsimp only at h
      refine cg_i (As := []) (rest := []) (AM_ge hJ) C hK hP hS (metX12_look_0 l D cy ad st hJ _  hc25) (cwV 0 C.2.2.2.2.2.1 gX12_goThrough_X12_look rfl rfl rfl (by decide +kernel) ⟨(Nat.le_of_ble_eq_true rfl), (Nat.le_of_ble_eq_true rfl)⟩) 0 12 rfl rfl rfl hl.1 rfl (Nat.le_of_ble_eq_true rfl) dX12_goThrough_82 ⟨Nat.zero_le _, Nat.zero_le _⟩ (fun H locs hP hS => ?_)
      refine lv_bipush (v := 59) C.1 C.2.1 dX12_goThrough_85 (by decide) ?_
      refine lv_icmp_ne (tgt := 107) C.1 C.2.1 dX12_goThrough_87 (by decide) (fun c87 => ?_) (fun c87 => ?_)
      · rw [if_neg c87] at h
        exact hk107 _ _ _ _ h hP hS hl
      · rw [if_pos c87] at h
        refine lv_aload_n C.1 C.2.1 dX12_goThrough_90 rfl (lv_at hl 0 rfl) ?_
        refine lv_dup C.1 C.2.1 dX12_goThrough_91 rfl ?_
        refine gM_0_at C hX12_goThrough_0_a1_X12 hK hP mX12_goThrough_0_a1_5 dX12_goThrough_92 ?_
        refine lv_iconst (v := 1) C.1 C.2.1 dX12_goThrough_95 (by decide) ?_
        refine lv_iadd C.1 C.2.1 dX12_goThrough_96 ?_
        refine pM_0_at C hX12_goThrough_0_a1_X12 hK hP hJ hS mX12_goThrough_0_a1_5 dX12_goThrough_97 (fun H locs hP hS => ?_)
        obtain ⟨u26, hu27, h⟩ := lt_some h
        rw [← hu27] at hP
        refine lv_aload_n C.1 C.2.1 dX12_goThrough_100 rfl (lv_at hl 0 rfl) ?_
        obtain ⟨⟨r28, u29⟩, hc30, h⟩ := bd_some h
        try dsimp only at h
        refine cg_v (As := []) (rest := []) (AM_ge hJ) C hK hP hS (metX12_clause_0 l D cy ad st hJ _  hc30) (cwV 0 C.2.2.2.2.2.1 gX12_goThrough_X12_clause rfl rfl rfl (by decide +kernel) ⟨(Nat.le_of_ble_eq_true rfl), (Nat.le_of_ble_eq_true rfl)⟩) 0 12 rfl rfl rfl hl.1 rfl (Nat.le_of_ble_eq_true rfl) dX12_goThrough_101 ⟨Nat.zero_le _, Nat.zero_le _⟩ (fun H locs hP hS => ?_)
        refine lv_goto (tgt := 73) C.1 C.2.1 dX12_goThrough_104 (by decide) ?_
        exact ih _ _ _ _ h hP hS hl
set_option maxHeartbeats 4000000 in
set_option maxRecDepth 100000 in
theorem wGX12_goThrough_0_a1_107 {p : Program} {l : Launch} {e : Env} {s : State} {m : MethodId} {args : Array Value} {below : List Frame} {meth : Method} {c : Code} {D : va_G} {cy : Nat → ClassId} {ad st : Nat → Nat} (C : Cx RX12 cX12_goThrough 5 none wsX12_goThrough p s m args meth c) (hK : Ky D [(cy 0, .int), (cy 1, .long), (cy 2, .boolean), (cy 3, .byte), (cy 4, .object "HissHorn$Text")] st s) (hJ : JM ad st) {r : Int32} {u' : SX}   (u : SX) (H : Heap) (locs : List Loc) (ls : Array Slot) (h : GX12_goThrough_0_a1_107  u = some (r, u')) (hP : va_P D vwCl (VM cy ad st u) H) (hS : va_S (Ax (AM ad) s.heap.size) s.heap H locs) (hl : lv_has ls 5 [(0, .ref (ad 0))]) : W p l e rmX12_goThrough_0_a1 s m args below meth c H locs 0 0 (MQ below (Qv D (VM cy ad st) (AM ad) s.heap.size r u') args s 0 0 (Ax (AM ad) s.heap.size)) (F0 m 107 ls []) := by
  unfold GX12_goThrough_0_a1_107 at h
  refine lv_aload_n C.1 C.2.1 dX12_goThrough_107 rfl (lv_at hl 0 rfl) ?_
  refine gM_0_fault C hX12_goThrough_0_a1_X12 hK hP mX12_goThrough_0_a1_6 dX12_goThrough_108 ?_
  refine lv_iconst (v := (-1)) C.1 C.2.1 dX12_goThrough_111 (by decide) ?_
  refine lv_icmp_ne (tgt := 128) C.1 C.2.1 dX12_goThrough_112 (by decide) (fun c112 => ?_) (fun c112 => ?_)
  · rw [if_neg c112] at h
    cases h
    exact rt_v C hP hS dX12_goThrough_128
  · rw [if_pos c112] at h
    refine lv_aload_n C.1 C.2.1 dX12_goThrough_115 rfl (lv_at hl 0 rfl) ?_
    obtain ⟨⟨r31, u32⟩, hc33, h⟩ := bd_some h
    try dsimp only at h
    refine cg_i (As := []) (rest := []) (AM_ge hJ) C hK hP hS (metX12_look_0 l D cy ad st hJ _  hc33) (cwV 0 C.2.2.2.2.2.1 gX12_goThrough_X12_look rfl rfl rfl (by decide +kernel) ⟨(Nat.le_of_ble_eq_true rfl), (Nat.le_of_ble_eq_true rfl)⟩) 0 12 rfl rfl rfl hl.1 rfl (Nat.le_of_ble_eq_true rfl) dX12_goThrough_116 ⟨Nat.zero_le _, Nat.zero_le _⟩ (fun H locs hP hS => ?_)
    refine lv_iconst (v := (-1)) C.1 C.2.1 dX12_goThrough_119 (by decide) ?_
    refine lv_icmp_eq (tgt := 128) C.1 C.2.1 dX12_goThrough_120 (by decide) (fun c120 => ?_) (fun c120 => ?_)
    · rw [if_pos c120] at h
      cases h
      exact rt_v C hP hS dX12_goThrough_128
    · rw [if_neg c120] at h
      refine lv_aload_n C.1 C.2.1 dX12_goThrough_123 rfl (lv_at hl 0 rfl) ?_
      obtain ⟨⟨r34, u35⟩, hc36, h⟩ := bd_some h
      try dsimp only at h
      refine cg_i (As := []) (rest := []) (AM_ge hJ) C hK hP hS (metX12_fails_0 l D cy ad st hJ _  hc36) (cwV 0 C.2.2.2.2.2.1 gX12_goThrough_X12_fails rfl rfl rfl (by decide +kernel) ⟨(Nat.le_of_ble_eq_true rfl), (Nat.le_of_ble_eq_true rfl)⟩) 0 12 rfl rfl rfl hl.1 rfl (Nat.le_of_ble_eq_true rfl) dX12_goThrough_124 ⟨Nat.zero_le _, Nat.zero_le _⟩ (fun H locs hP hS => ?_)
      refine lv_pop C.1 C.2.1 dX12_goThrough_127 rfl ?_
      cases h
      exact rt_v C hP hS dX12_goThrough_128
set_option maxHeartbeats 4000000 in
set_option maxRecDepth 100000 in
theorem wGX12_goThrough_0_a1_41 {p : Program} {l : Launch} {e : Env} {s : State} {m : MethodId} {args : Array Value} {below : List Frame} {meth : Method} {c : Code} {D : va_G} {cy : Nat → ClassId} {ad st : Nat → Nat} (C : Cx RX12 cX12_goThrough 5 none wsX12_goThrough p s m args meth c) (hK : Ky D [(cy 0, .int), (cy 1, .long), (cy 2, .boolean), (cy 3, .byte), (cy 4, .object "HissHorn$Text")] st s) (hJ : JM ad st) {r : Int32} {u' : SX}   (u : SX) (H : Heap) (locs : List Loc) (ls : Array Slot) (h : GX12_goThrough_0_a1_41  u = some (r, u')) (hP : va_P D vwCl (VM cy ad st u) H) (hS : va_S (Ax (AM ad) s.heap.size) s.heap H locs) (hl : lv_has ls 5 [(0, .ref (ad 0))]) : W p l e rmX12_goThrough_0_a1 s m args below meth c H locs 0 0 (MQ below (Qv D (VM cy ad st) (AM ad) s.heap.size r u') args s 0 0 (Ax (AM ad) s.heap.size)) (F0 m 41 ls [.ref (st 6), .ref (ad 0)]) := by
  unfold GX12_goThrough_0_a1_41 at h
  refine pM_0_allowed_6 C hX12_goThrough_0_a1_X12 hK hP hJ hS mX12_goThrough_0_a1_4 dX12_goThrough_41 (fun H locs hP hS => ?_)
  obtain ⟨u7, hu8, h⟩ := lt_some h
  rw [← hu8] at hP
  refine lv_aload_n C.1 C.2.1 dX12_goThrough_44 rfl (lv_at hl 0 rfl) ?_
  refine lv_iconst (v := 0) C.1 C.2.1 dX12_goThrough_45 (by decide) ?_
  refine pM_0_at C hX12_goThrough_0_a1_X12 hK hP hJ hS mX12_goThrough_0_a1_5 dX12_goThrough_46 (fun H locs hP hS => ?_)
  obtain ⟨u9, hu10, h⟩ := lt_some h
  rw [← hu10] at hP
  refine lv_aload_n C.1 C.2.1 dX12_goThrough_49 rfl (lv_at hl 0 rfl) ?_
  refine lv_iconst (v := (-1)) C.1 C.2.1 dX12_goThrough_50 (by decide) ?_
  refine pM_0_fault C hX12_goThrough_0_a1_X12 hK hP hJ hS mX12_goThrough_0_a1_6 dX12_goThrough_51 (fun H locs hP hS => ?_)
  obtain ⟨u11, hu12, h⟩ := lt_some h
  rw [← hu12] at hP
  refine lv_aload_n C.1 C.2.1 dX12_goThrough_54 rfl (lv_at hl 0 rfl) ?_
  refine lv_iconst (v := 0) C.1 C.2.1 dX12_goThrough_55 (by decide) ?_
  refine pM_0_deep C hX12_goThrough_0_a1_X12 hK hP hJ hS mX12_goThrough_0_a1_7 dX12_goThrough_56 (fun H locs hP hS => ?_)
  obtain ⟨u13, hu14, h⟩ := lt_some h
  rw [← hu14] at hP
  refine lv_aload_n C.1 C.2.1 dX12_goThrough_59 rfl (lv_at hl 0 rfl) ?_
  refine lv_iconst (v := 0) C.1 C.2.1 dX12_goThrough_60 (by decide) ?_
  obtain ⟨hg15, h⟩ := gd_some h
  refine pM_0_hasFound hg15 C hX12_goThrough_0_a1_X12 hK hP hJ hS mX12_goThrough_0_a1_8 dX12_goThrough_61 (fun H locs hP hS => ?_)
  obtain ⟨u16, hu17, h⟩ := lt_some h
  rw [← hu17] at hP
  refine lv_aload_n C.1 C.2.1 dX12_goThrough_64 rfl (lv_at hl 0 rfl) ?_
  refine lv_iconst (v := 0) C.1 C.2.1 dX12_goThrough_65 (by decide) ?_
  refine pM_0_found C hX12_goThrough_0_a1_X12 hK hP hJ hS mX12_goThrough_0_a1_9 dX12_goThrough_66 (fun H locs hP hS => ?_)
  obtain ⟨u18, hu19, h⟩ := lt_some h
  rw [← hu19] at hP
  refine lv_aload_n C.1 C.2.1 dX12_goThrough_69 rfl (lv_at hl 0 rfl) ?_
  obtain ⟨⟨r20, u21⟩, hc22, h⟩ := bd_some h
  try dsimp only at h
  refine cg_v (As := []) (rest := []) (AM_ge hJ) C hK hP hS (metX12_clause_0 l D cy ad st hJ _  hc22) (cwV 0 C.2.2.2.2.2.1 gX12_goThrough_X12_clause rfl rfl rfl (by decide +kernel) ⟨(Nat.le_of_ble_eq_true rfl), (Nat.le_of_ble_eq_true rfl)⟩) 0 12 rfl rfl rfl hl.1 rfl (Nat.le_of_ble_eq_true rfl) dX12_goThrough_70 ⟨Nat.zero_le _, Nat.zero_le _⟩ (fun H locs hP hS => ?_)
  exact wLX12_goThrough_0_a1_73 C hK hJ (wGX12_goThrough_0_a1_107 C hK hJ ) 5000 _ _ _ _ h hP hS hl
set_option maxHeartbeats 4000000 in
set_option maxRecDepth 100000 in
theorem wGX12_goThrough_0_a1_41a {p : Program} {l : Launch} {e : Env} {s : State} {m : MethodId} {args : Array Value} {below : List Frame} {meth : Method} {c : Code} {D : va_G} {cy : Nat → ClassId} {ad st : Nat → Nat} (C : Cx RX12 cX12_goThrough 5 none wsX12_goThrough p s m args meth c) (hK : Ky D [(cy 0, .int), (cy 1, .long), (cy 2, .boolean), (cy 3, .byte), (cy 4, .object "HissHorn$Text")] st s) (hJ : JM ad st) {r : Int32} {u' : SX}   (u : SX) (H : Heap) (locs : List Loc) (ls : Array Slot) (h : GX12_goThrough_0_a1_41a  u = some (r, u')) (hP : va_P D vwCl (VM cy ad st u) H) (hS : va_S (Ax (AM ad) s.heap.size) s.heap H locs) (hl : lv_has ls 5 [(0, .ref (ad 0))]) : W p l e rmX12_goThrough_0_a1 s m args below meth c H locs 0 0 (MQ below (Qv D (VM cy ad st) (AM ad) s.heap.size r u') args s 0 0 (Ax (AM ad) s.heap.size)) (F0 m 41 ls [.ref (st 5), .ref (ad 0)]) := by
  unfold GX12_goThrough_0_a1_41a at h
  refine pM_0_allowed_5 C hX12_goThrough_0_a1_X12 hK hP hJ hS mX12_goThrough_0_a1_4 dX12_goThrough_41 (fun H locs hP hS => ?_)
  obtain ⟨u37, hu38, h⟩ := lt_some h
  rw [← hu38] at hP
  refine lv_aload_n C.1 C.2.1 dX12_goThrough_44 rfl (lv_at hl 0 rfl) ?_
  refine lv_iconst (v := 0) C.1 C.2.1 dX12_goThrough_45 (by decide) ?_
  refine pM_0_at C hX12_goThrough_0_a1_X12 hK hP hJ hS mX12_goThrough_0_a1_5 dX12_goThrough_46 (fun H locs hP hS => ?_)
  obtain ⟨u39, hu40, h⟩ := lt_some h
  rw [← hu40] at hP
  refine lv_aload_n C.1 C.2.1 dX12_goThrough_49 rfl (lv_at hl 0 rfl) ?_
  refine lv_iconst (v := (-1)) C.1 C.2.1 dX12_goThrough_50 (by decide) ?_
  refine pM_0_fault C hX12_goThrough_0_a1_X12 hK hP hJ hS mX12_goThrough_0_a1_6 dX12_goThrough_51 (fun H locs hP hS => ?_)
  obtain ⟨u41, hu42, h⟩ := lt_some h
  rw [← hu42] at hP
  refine lv_aload_n C.1 C.2.1 dX12_goThrough_54 rfl (lv_at hl 0 rfl) ?_
  refine lv_iconst (v := 0) C.1 C.2.1 dX12_goThrough_55 (by decide) ?_
  refine pM_0_deep C hX12_goThrough_0_a1_X12 hK hP hJ hS mX12_goThrough_0_a1_7 dX12_goThrough_56 (fun H locs hP hS => ?_)
  obtain ⟨u43, hu44, h⟩ := lt_some h
  rw [← hu44] at hP
  refine lv_aload_n C.1 C.2.1 dX12_goThrough_59 rfl (lv_at hl 0 rfl) ?_
  refine lv_iconst (v := 0) C.1 C.2.1 dX12_goThrough_60 (by decide) ?_
  obtain ⟨hg45, h⟩ := gd_some h
  refine pM_0_hasFound hg45 C hX12_goThrough_0_a1_X12 hK hP hJ hS mX12_goThrough_0_a1_8 dX12_goThrough_61 (fun H locs hP hS => ?_)
  obtain ⟨u46, hu47, h⟩ := lt_some h
  rw [← hu47] at hP
  refine lv_aload_n C.1 C.2.1 dX12_goThrough_64 rfl (lv_at hl 0 rfl) ?_
  refine lv_iconst (v := 0) C.1 C.2.1 dX12_goThrough_65 (by decide) ?_
  refine pM_0_found C hX12_goThrough_0_a1_X12 hK hP hJ hS mX12_goThrough_0_a1_9 dX12_goThrough_66 (fun H locs hP hS => ?_)
  obtain ⟨u48, hu49, h⟩ := lt_some h
  rw [← hu49] at hP
  refine lv_aload_n C.1 C.2.1 dX12_goThrough_69 rfl (lv_at hl 0 rfl) ?_
  obtain ⟨⟨r50, u51⟩, hc52, h⟩ := bd_some h
  try dsimp only at h
  refine cg_v (As := []) (rest := []) (AM_ge hJ) C hK hP hS (metX12_clause_0 l D cy ad st hJ _  hc52) (cwV 0 C.2.2.2.2.2.1 gX12_goThrough_X12_clause rfl rfl rfl (by decide +kernel) ⟨(Nat.le_of_ble_eq_true rfl), (Nat.le_of_ble_eq_true rfl)⟩) 0 12 rfl rfl rfl hl.1 rfl (Nat.le_of_ble_eq_true rfl) dX12_goThrough_70 ⟨Nat.zero_le _, Nat.zero_le _⟩ (fun H locs hP hS => ?_)
  exact wLX12_goThrough_0_a1_73 C hK hJ (wGX12_goThrough_0_a1_107 C hK hJ ) 5000 _ _ _ _ h hP hS hl
set_option maxHeartbeats 4000000 in
set_option maxRecDepth 100000 in
theorem wGX12_goThrough_0_a1_41b {p : Program} {l : Launch} {e : Env} {s : State} {m : MethodId} {args : Array Value} {below : List Frame} {meth : Method} {c : Code} {D : va_G} {cy : Nat → ClassId} {ad st : Nat → Nat} (C : Cx RX12 cX12_goThrough 5 none wsX12_goThrough p s m args meth c) (hK : Ky D [(cy 0, .int), (cy 1, .long), (cy 2, .boolean), (cy 3, .byte), (cy 4, .object "HissHorn$Text")] st s) (hJ : JM ad st) {r : Int32} {u' : SX}   (u : SX) (H : Heap) (locs : List Loc) (ls : Array Slot) (h : GX12_goThrough_0_a1_41b  u = some (r, u')) (hP : va_P D vwCl (VM cy ad st u) H) (hS : va_S (Ax (AM ad) s.heap.size) s.heap H locs) (hl : lv_has ls 5 [(0, .ref (ad 0))]) : W p l e rmX12_goThrough_0_a1 s m args below meth c H locs 0 0 (MQ below (Qv D (VM cy ad st) (AM ad) s.heap.size r u') args s 0 0 (Ax (AM ad) s.heap.size)) (F0 m 41 ls [.ref (st 4), .ref (ad 0)]) := by
  unfold GX12_goThrough_0_a1_41b at h
  refine pM_0_allowed_4 C hX12_goThrough_0_a1_X12 hK hP hJ hS mX12_goThrough_0_a1_4 dX12_goThrough_41 (fun H locs hP hS => ?_)
  obtain ⟨u53, hu54, h⟩ := lt_some h
  rw [← hu54] at hP
  refine lv_aload_n C.1 C.2.1 dX12_goThrough_44 rfl (lv_at hl 0 rfl) ?_
  refine lv_iconst (v := 0) C.1 C.2.1 dX12_goThrough_45 (by decide) ?_
  refine pM_0_at C hX12_goThrough_0_a1_X12 hK hP hJ hS mX12_goThrough_0_a1_5 dX12_goThrough_46 (fun H locs hP hS => ?_)
  obtain ⟨u55, hu56, h⟩ := lt_some h
  rw [← hu56] at hP
  refine lv_aload_n C.1 C.2.1 dX12_goThrough_49 rfl (lv_at hl 0 rfl) ?_
  refine lv_iconst (v := (-1)) C.1 C.2.1 dX12_goThrough_50 (by decide) ?_
  refine pM_0_fault C hX12_goThrough_0_a1_X12 hK hP hJ hS mX12_goThrough_0_a1_6 dX12_goThrough_51 (fun H locs hP hS => ?_)
  obtain ⟨u57, hu58, h⟩ := lt_some h
  rw [← hu58] at hP
  refine lv_aload_n C.1 C.2.1 dX12_goThrough_54 rfl (lv_at hl 0 rfl) ?_
  refine lv_iconst (v := 0) C.1 C.2.1 dX12_goThrough_55 (by decide) ?_
  refine pM_0_deep C hX12_goThrough_0_a1_X12 hK hP hJ hS mX12_goThrough_0_a1_7 dX12_goThrough_56 (fun H locs hP hS => ?_)
  obtain ⟨u59, hu60, h⟩ := lt_some h
  rw [← hu60] at hP
  refine lv_aload_n C.1 C.2.1 dX12_goThrough_59 rfl (lv_at hl 0 rfl) ?_
  refine lv_iconst (v := 0) C.1 C.2.1 dX12_goThrough_60 (by decide) ?_
  obtain ⟨hg61, h⟩ := gd_some h
  refine pM_0_hasFound hg61 C hX12_goThrough_0_a1_X12 hK hP hJ hS mX12_goThrough_0_a1_8 dX12_goThrough_61 (fun H locs hP hS => ?_)
  obtain ⟨u62, hu63, h⟩ := lt_some h
  rw [← hu63] at hP
  refine lv_aload_n C.1 C.2.1 dX12_goThrough_64 rfl (lv_at hl 0 rfl) ?_
  refine lv_iconst (v := 0) C.1 C.2.1 dX12_goThrough_65 (by decide) ?_
  refine pM_0_found C hX12_goThrough_0_a1_X12 hK hP hJ hS mX12_goThrough_0_a1_9 dX12_goThrough_66 (fun H locs hP hS => ?_)
  obtain ⟨u64, hu65, h⟩ := lt_some h
  rw [← hu65] at hP
  refine lv_aload_n C.1 C.2.1 dX12_goThrough_69 rfl (lv_at hl 0 rfl) ?_
  obtain ⟨⟨r66, u67⟩, hc68, h⟩ := bd_some h
  try dsimp only at h
  refine cg_v (As := []) (rest := []) (AM_ge hJ) C hK hP hS (metX12_clause_0 l D cy ad st hJ _  hc68) (cwV 0 C.2.2.2.2.2.1 gX12_goThrough_X12_clause rfl rfl rfl (by decide +kernel) ⟨(Nat.le_of_ble_eq_true rfl), (Nat.le_of_ble_eq_true rfl)⟩) 0 12 rfl rfl rfl hl.1 rfl (Nat.le_of_ble_eq_true rfl) dX12_goThrough_70 ⟨Nat.zero_le _, Nat.zero_le _⟩ (fun H locs hP hS => ?_)
  exact wLX12_goThrough_0_a1_73 C hK hJ (wGX12_goThrough_0_a1_107 C hK hJ ) 5000 _ _ _ _ h hP hS hl
set_option maxHeartbeats 4000000 in
set_option maxRecDepth 100000 in
theorem wX12_goThrough_0_a1 {p : Program} {l : Launch} {e : Env} {s : State} {m : MethodId} {args : Array Value} {below : List Frame} {meth : Method} {c : Code} {D : va_G} {cy : Nat → ClassId} {ad st : Nat → Nat} (C : Cx RX12 cX12_goThrough 5 none wsX12_goThrough p s m args meth c) (hK : Ky D [(cy 0, .int), (cy 1, .long), (cy 2, .boolean), (cy 3, .byte), (cy 4, .object "HissHorn$Text")] st s) (hJ : JM ad st) (x2 : Int32) (x3 : Int32) (x4 : Int32) {u : SX} {r : Int32} {u' : SX} {H : Heap} {locs : List Loc} {ls : Array Slot} (h : fX12_goThrough_0_a1 x2 x3 x4 u = some (r, u')) (hP : va_P D vwCl (VM cy ad st u) H) (hS : va_S (Ax (AM ad) s.heap.size) s.heap H locs) (hl : lv_has ls 5 [(0, .ref (ad 0)), (1, .ref (ad 1)), (2, .int x2), (3, .int x3), (4, .int x4)]) : W p l e rmX12_goThrough_0_a1 s m args below meth c H locs 0 0 (MQ below (Qv D (VM cy ad st) (AM ad) s.heap.size r u') args s 0 0 (Ax (AM ad) s.heap.size)) (F0 m 0 ls []) := by
  unfold fX12_goThrough_0_a1 at h
  refine lv_aload_n C.1 C.2.1 dX12_goThrough_0 rfl (lv_at hl 0 rfl) ?_
  refine lv_aload_n C.1 C.2.1 dX12_goThrough_1 rfl (lv_at hl 1 rfl) ?_
  refine pM_0_text_1 C hX12_goThrough_0_a1_X12 hK hP hJ hS mX12_goThrough_0_a1_1 dX12_goThrough_2 (fun H locs hP hS => ?_)
  obtain ⟨u1, hu2, h⟩ := lt_some h
  rw [← hu2] at hP
  refine lv_aload_n C.1 C.2.1 dX12_goThrough_5 rfl (lv_at hl 0 rfl) ?_
  refine lv_iload_n C.1 C.2.1 dX12_goThrough_6 rfl (lv_at hl 2 rfl) ?_
  refine pM_0_begins C hX12_goThrough_0_a1_X12 hK hP hJ hS mX12_goThrough_0_a1_2 dX12_goThrough_7 (fun H locs hP hS => ?_)
  obtain ⟨u3, hu4, h⟩ := lt_some h
  rw [← hu4] at hP
  refine lv_aload_n C.1 C.2.1 dX12_goThrough_10 rfl (lv_at hl 0 rfl) ?_
  refine lv_iload_n C.1 C.2.1 dX12_goThrough_11 rfl (lv_at hl 3 rfl) ?_
  refine pM_0_ends C hX12_goThrough_0_a1_X12 hK hP hJ hS mX12_goThrough_0_a1_3 dX12_goThrough_12 (fun H locs hP hS => ?_)
  obtain ⟨u5, hu6, h⟩ := lt_some h
  rw [← hu6] at hP
  refine lv_aload_n C.1 C.2.1 dX12_goThrough_15 rfl (lv_at hl 0 rfl) ?_
  refine lv_iload C.1 C.2.1 dX12_goThrough_16 (lv_at hl 4 rfl) ?_
  refine lv_if_ne (tgt := 26) C.1 C.2.1 dX12_goThrough_18 (by decide) (fun c18 => ?_) (fun c18 => ?_)
  · rw [if_neg c18] at h
    refine lv_iload C.1 C.2.1 dX12_goThrough_26 (lv_at hl 4 rfl) ?_
    refine lv_iconst (v := 1) C.1 C.2.1 dX12_goThrough_28 (by decide) ?_
    refine lv_icmp_ne (tgt := 38) C.1 C.2.1 dX12_goThrough_29 (by decide) (fun c29 => ?_) (fun c29 => ?_)
    · rw [if_neg c29] at h
      refine xx_ldcwS C.1 C.2.1 C.2.2.2.2.1 (hK.2.2.1 (RX12, 262, "ngbkt", 6) (by decide +kernel)) dX12_goThrough_38 ?_
      exact wGX12_goThrough_0_a1_41 C hK hJ _ _ _ _ h hP hS (lv_sub hl [0] rfl)
    · rw [if_pos c29] at h
      refine xx_ldcwS C.1 C.2.1 C.2.2.2.2.1 (hK.2.2.1 (RX12, 260, "la", 5) (by decide +kernel)) dX12_goThrough_32 ?_
      refine lv_goto (tgt := 41) C.1 C.2.1 dX12_goThrough_35 (by decide) ?_
      exact wGX12_goThrough_0_a1_41a C hK hJ _ _ _ _ h hP hS (lv_sub hl [0] rfl)
  · rw [if_pos c18] at h
    refine va_ldcS C.1 C.2.1 C.2.2.2.2.1 (hK.2.2.1 (RX12, 29, "dahewl", 4) (by decide +kernel)) dX12_goThrough_21 ?_
    refine lv_goto (tgt := 41) C.1 C.2.1 dX12_goThrough_23 (by decide) ?_
    exact wGX12_goThrough_0_a1_41b C hK hJ _ _ _ _ h hP hS (lv_sub hl [0] rfl)
theorem metX12_goThrough_0_a1 (l : Launch) (D : va_G) (cy : Nat → ClassId) (ad st : Nat → Nat) (hJ : JM ad st) (sz : Nat) (x2 : Int32) (x3 : Int32) (x4 : Int32) {u : SX} {r : Int32} {u' : SX} (h : fX12_goThrough_0_a1 x2 x3 x4 u = some (r, u')) : Met l yX12_goThrough wsX12_goThrough rmX12_goThrough_0_a1 (va_Pc [.ref (ad 0), .ref (ad 1), .int x2, .int x3, .int x4] (Px D [(cy 0, .int), (cy 1, .long), (cy 2, .boolean), (cy 3, .byte), (cy 4, .object "HissHorn$Text")] st (VM cy ad st) sz u)) (Qv D (VM cy ad st) (AM ad) sz r u') 0 0 (Ax (AM ad) sz) := by
  refine Met.ofW (cc := cX12_goThrough) (maxL := 5) (ret := none) (by decide) rfl ?_
  intro p e s m args below meth c s₁ B hml hv
  obtain ⟨rfl, hsz, hP, hK⟩ := hv
  subst hsz
  have C : Cx RX12 cX12_goThrough 5 none wsX12_goThrough p s m _ meth c := ⟨B.exec, B.bytes, hml, B.returns, findClass_of_methodNamed B.named, atoms_spec (ws := wsX12_goThrough) B.pre, B.notSynchronized⟩
  have hl := lv_entry ([.ref (ad 0), .ref (ad 1), .int x2, .int x3, .int x4]) (n := 5) (Nat.le_of_ble_eq_true rfl)
  rw [lg_entry_eq]
  exact wX12_goThrough_0_a1 C hK hJ x2 x3 x4 h hP va_S.rf hl

