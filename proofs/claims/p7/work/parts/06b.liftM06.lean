theorem dX12_clause_24 : decode cX12_clause 24 = .ok (.putfield 173, 3) := by decide +kernel
theorem dX12_clause_27 : decode cX12_clause 27 = .ok (.aload_n 0, 1) := by decide +kernel
theorem dX12_clause_28 : decode cX12_clause 28 = .ok (.bipush 58, 2) := by decide +kernel
theorem dX12_clause_30 : decode cX12_clause 30 = .ok (.invokevirtual 220, 3) := by decide +kernel
theorem dX12_clause_33 : decode cX12_clause 33 = .ok (.ifCond .ne 4, 3) := by decide +kernel
theorem dX12_clause_37 : decode cX12_clause 37 = .ok (.iconst 1, 1) := by decide +kernel
theorem dX12_clause_38 : decode cX12_clause 38 = .ok (.istore_n 2, 1) := by decide +kernel
theorem dX12_clause_39 : decode cX12_clause 39 = .ok (.iconst 0, 1) := by decide +kernel
theorem dX12_clause_40 : decode cX12_clause 40 = .ok (.istore_n 3, 1) := by decide +kernel
theorem dX12_clause_41 : decode cX12_clause 41 = .ok (.aload_n 0, 1) := by decide +kernel
theorem dX12_clause_42 : decode cX12_clause 42 = .ok (.invokevirtual 192, 3) := by decide +kernel
theorem dX12_clause_45 : decode cX12_clause 45 = .ok (.istore 4, 2) := by decide +kernel
theorem dX12_clause_47 : decode cX12_clause 47 = .ok (.iload 4, 2) := by decide +kernel
theorem dX12_clause_49 : decode cX12_clause 49 = .ok (.bipush 33, 2) := by decide +kernel
theorem dX12_clause_51 : decode cX12_clause 51 = .ok (.if_icmp .eq 10, 3) := by decide +kernel
theorem dX12_clause_54 : decode cX12_clause 54 = .ok (.iload 4, 2) := by decide +kernel
theorem dX12_clause_56 : decode cX12_clause 56 = .ok (.bipush 40, 2) := by decide +kernel
theorem dX12_clause_58 : decode cX12_clause 58 = .ok (.if_icmp .ne 28, 3) := by decide +kernel
theorem dX12_clause_86 : decode cX12_clause 86 = .ok (.aload_n 0, 1) := by decide +kernel
theorem dX12_clause_87 : decode cX12_clause 87 = .ok (.invokevirtual 217, 3) := by decide +kernel
theorem dX12_clause_90 : decode cX12_clause 90 = .ok (.istore_n 3, 1) := by decide +kernel
theorem dX12_clause_91 : decode cX12_clause 91 = .ok (.aload_n 0, 1) := by decide +kernel
theorem dX12_clause_92 : decode cX12_clause 92 = .ok (.getfield 182, 3) := by decide +kernel
theorem dX12_clause_95 : decode cX12_clause 95 = .ok (.iconst (-1), 1) := by decide +kernel
theorem dX12_clause_96 : decode cX12_clause 96 = .ok (.if_icmp .ne 35, 3) := by decide +kernel
theorem dX12_clause_99 : decode cX12_clause 99 = .ok (.aload_n 0, 1) := by decide +kernel
theorem dX12_clause_100 : decode cX12_clause 100 = .ok (.invokevirtual 192, 3) := by decide +kernel
set_option maxRecDepth 20000 in
theorem ggX12_clause_X12_isSign : GoodIn wsX12_clause wsX12_isSign := ggi (fun w h => List.mem_cons_of_mem _ (List.mem_append_left _ (List.mem_append_right _ (List.mem_append_right _ (List.mem_append_right _ (List.mem_append_right _ (List.mem_append_right _ (List.mem_append_left _ h)))))))) gs_X12_isSign
set_option maxRecDepth 20000 in
theorem gX12_clause_X12_isSign : GoodIn wsX12_clause (va_wsS RX12 237 yX12_isSign wsX12_isSign) := goodIn_app (goodIn_of _ (by decide +kernel)) ggX12_clause_X12_isSign
theorem dX12_clause_103 : decode cX12_clause 103 = .ok (.invokestatic 237, 3) := by decide +kernel
theorem dX12_clause_106 : decode cX12_clause 106 = .ok (.ifCond .eq 25, 3) := by decide +kernel
theorem dX12_clause_109 : decode cX12_clause 109 = .ok (.aload_n 0, 1) := by decide +kernel
theorem dX12_clause_110 : decode cX12_clause 110 = .ok (.iconst 1, 1) := by decide +kernel
theorem dX12_clause_111 : decode cX12_clause 111 = .ok (.iload_n 3, 1) := by decide +kernel
theorem dX12_clause_112 : decode cX12_clause 112 = .ok (.invokevirtual 243, 3) := by decide +kernel
theorem dX12_clause_115 : decode cX12_clause 115 = .ok (.istore_n 2, 1) := by decide +kernel
theorem dX12_clause_116 : decode cX12_clause 116 = .ok (.aload_n 0, 1) := by decide +kernel
theorem dX12_clause_117 : decode cX12_clause 117 = .ok (.bipush 63, 2) := by decide +kernel
theorem dX12_clause_119 : decode cX12_clause 119 = .ok (.invokevirtual 220, 3) := by decide +kernel
theorem dX12_clause_122 : decode cX12_clause 122 = .ok (.ifCond .ne 4, 3) := by decide +kernel
theorem dX12_clause_126 : decode cX12_clause 126 = .ok (.aload_n 0, 1) := by decide +kernel
theorem dX12_clause_127 : decode cX12_clause 127 = .ok (.invokevirtual 217, 3) := by decide +kernel
theorem dX12_clause_130 : decode cX12_clause 130 = .ok (.istore_n 3, 1) := by decide +kernel
theorem dX12_clause_125 : decode cX12_clause 125 = .ok (.return_, 1) := by decide +kernel
theorem dX12_clause_36 : decode cX12_clause 36 = .ok (.return_, 1) := by decide +kernel
theorem dX12_clause_11 : decode cX12_clause 11 = .ok (.aload_n 0, 1) := by decide +kernel
set_option maxRecDepth 20000 in
theorem ggX12_clause_X12_fails : GoodIn wsX12_clause wsX12_fails := ggi (fun w h => List.mem_cons_of_mem _ (List.mem_append_left _ (List.mem_append_right _ (List.mem_append_right _ (List.mem_append_right _ (List.mem_append_right _ (List.mem_append_right _ (List.mem_append_right _ h)))))))) gs_X12_fails
set_option maxRecDepth 20000 in
theorem gX12_clause_X12_fails : GoodIn wsX12_clause (wsV RX12 188 RX12 yX12_fails wsX12_fails) := goodIn_app (goodIn_of _ (by decide +kernel)) ggX12_clause_X12_fails
theorem dX12_clause_12 : decode cX12_clause 12 = .ok (.invokevirtual 188, 3) := by decide +kernel
theorem dX12_clause_15 : decode cX12_clause 15 = .ok (.pop, 1) := by decide +kernel
theorem dX12_clause_16 : decode cX12_clause 16 = .ok (.return_, 1) := by decide +kernel
/-- HissHornModel.clause()V of cell 0 -/
def rmX12_clause_0 : Room := { frames := 135, cells := 0, slots := 0, locals := 8356 }
theorem hX12_clause_0_X12 : ∀ w ∈ u_ws RX12 TX12 69, w ∈ wsX12_clause := fun w h => (List.mem_cons_of_mem _ (List.mem_append_right _ h))
theorem mX12_clause_0_1 : Cond.fieldLink RX12 173 "HissHornModel" "at" "I" ∈ wsX12_clause := (List.mem_cons_of_mem _ (List.mem_append_left _ (List.mem_append_left _ (List.mem_of_getElem? (i := 18) rfl))))
theorem mX12_clause_0_2 : Cond.fieldLink RX12 182 "HissHornModel" "fault" "I" ∈ wsX12_clause := (List.mem_cons_of_mem _ (List.mem_append_left _ (List.mem_append_left _ (List.mem_of_getElem? (i := 19) rfl))))
theorem mX12_clause_0_3 : Cond.fieldLink RX12 253 "HissHornModel" "hasFound" "Z" ∈ wsX12_clause := (List.mem_cons_of_mem _ (List.mem_append_left _ (List.mem_append_left _ (List.mem_of_getElem? (i := 20) rfl))))
theorem mX12_clause_0_4 : Cond.fieldLink RX12 257 "HissHornModel" "found" "I" ∈ wsX12_clause := (List.mem_cons_of_mem _ (List.mem_append_left _ (List.mem_append_left _ (List.mem_of_getElem? (i := 21) rfl))))
def GX12_clause_0_131 (z2 : Int32) (z3 : Int32) (u : SX) : Option (Int32 × SX) := (if (u.1 7) = (-1) then (if (u.1 11) = 0 then (if z2 = 0 then (some (0, u)) else (gd (isB 1) (lt (sI u 11 1) fun u22 => (lt (sI u22 9 z3) fun u24 => (some (0, u24)))))) else (some (0, u))) else (some (0, u)))
def GX12_clause_0_61  (u : SX) : Option (Int32 × SX) := ((rX12conditiong 64 0 0 0 u).bind fun q => match q with | (r12, u13) => ((fX12_takes_0 63 u13).bind fun q => match q with | (r15, u16) => (if r15 = 0 then (some (0, u16)) else ((rX12sumg 64 0  0 u16).bind fun q => match q with | (r18, u19) => (GX12_clause_0_131 r12 r18 u19)))))
def fX12_clause_0  (u : SX) : Option (Int32 × SX) := ((fX12_look_0  u).bind fun q => match q with | (r1, u2) => (if r1 = 121 then (lt (sI u2 6 ((u2.1 6) + 1)) fun u4 => ((fX12_takes_0 58 u4).bind fun q => match q with | (r6, u7) => (if r6 = 0 then (some (0, u7)) else ((fX12_look_0  u7).bind fun q => match q with | (r9, u10) => (if r9 = 33 then (GX12_clause_0_61 u10) else (if r9 = 40 then (GX12_clause_0_61 u10) else ((rX12sumg 64 0  0 u10).bind fun q => match q with | (r26, u27) => (if (u27.1 7) = (-1) then ((fX12_look_0  u27).bind fun q => match q with | (r29, u30) => ((fX12_isSign r29).bind fun r32 => (if r32 = 0 then (GX12_clause_0_131 1 r26 u30) else ((rX12conditiong 64 0 1 r26 u30).bind fun q => match q with | (r35, u36) => ((fX12_takes_0 63 u36).bind fun q => match q with | (r38, u39) => (if r38 = 0 then (some (0, u39)) else ((rX12sumg 64 0  0 u39).bind fun q => match q with | (r41, u42) => (GX12_clause_0_131 r35 r41 u42)))))))) else (GX12_clause_0_131 1 r26 u27))))))))) else ((fX12_fails_0  u2).bind fun q => match q with | (r44, u45) => (some (0, u45)))))
set_option maxHeartbeats 4000000 in
set_option maxRecDepth 100000 in
theorem wGX12_clause_0_131 {p : Program} {l : Launch} {e : Env} {s : State} {m : MethodId} {args : Array Value} {below : List Frame} {meth : Method} {c : Code} {D : va_G} {cy : Nat → ClassId} {ad st : Nat → Nat} (C : Cx RX12 cX12_clause 5 none wsX12_clause p s m args meth c) (hK : Ky D [(cy 0, .int), (cy 1, .long), (cy 2, .boolean), (cy 3, .byte), (cy 4, .object "HissHorn$Text")] st s) (hJ : JM ad st) {r : Int32} {u' : SX}   (z2 : Int32) (z3 : Int32) (u : SX) (H : Heap) (locs : List Loc) (ls : Array Slot) (h : GX12_clause_0_131 z2 z3 u = some (r, u')) (hP : va_P D vwCl (VM cy ad st u) H) (hS : va_S (Ax (AM ad) s.heap.size) s.heap H locs) (hl : lv_has ls 5 [(0, .ref (ad 0)), (2, .int z2), (3, .int z3)]) : W p l e rmX12_clause_0 s m args below meth c H locs 0 0 (MQ below (Qv D (VM cy ad st) (AM ad) s.heap.size r u') args s 0 0 (Ax (AM ad) s.heap.size)) (F0 m 131 ls []) := by
  unfold GX12_clause_0_131 at h
  refine lv_aload_n C.1 C.2.1 dX12_clause_131 rfl (lv_at hl 0 rfl) ?_
  refine gM_0_fault C hX12_clause_0_X12 hK hP mX12_clause_0_2 dX12_clause_132 ?_
  refine lv_iconst (v := (-1)) C.1 C.2.1 dX12_clause_135 (by decide) ?_
  refine lv_icmp_ne (tgt := 150) C.1 C.2.1 dX12_clause_136 (by decide) (fun c136 => ?_) (fun c136 => ?_)
  · rw [if_neg c136] at h
    cases h
    exact rt_v C hP hS dX12_clause_150
  · rw [if_pos c136] at h
    refine lv_aload_n C.1 C.2.1 dX12_clause_139 rfl (lv_at hl 0 rfl) ?_
    refine gM_0_hasFound C hX12_clause_0_X12 hK hP mX12_clause_0_3 dX12_clause_140 ?_
    refine lv_if_ne (tgt := 150) C.1 C.2.1 dX12_clause_143 (by decide) (fun c143 => ?_) (fun c143 => ?_)
    · rw [if_neg c143] at h
      cases h
      exact rt_v C hP hS dX12_clause_150
    · rw [if_pos c143] at h
      refine lv_iload_n C.1 C.2.1 dX12_clause_146 rfl (lv_at hl 1 rfl) ?_
      refine lv_if_ne (tgt := 151) C.1 C.2.1 dX12_clause_147 (by decide) (fun c147 => ?_) (fun c147 => ?_)
      · rw [if_neg c147] at h
        refine lv_aload_n C.1 C.2.1 dX12_clause_151 rfl (lv_at hl 0 rfl) ?_
        refine lv_iconst (v := 1) C.1 C.2.1 dX12_clause_152 (by decide) ?_
        obtain ⟨hg21, h⟩ := gd_some h
        refine pM_0_hasFound hg21 C hX12_clause_0_X12 hK hP hJ hS mX12_clause_0_3 dX12_clause_153 (fun H locs hP hS => ?_)
        obtain ⟨u22, hu23, h⟩ := lt_some h
        rw [← hu23] at hP
        refine lv_aload_n C.1 C.2.1 dX12_clause_156 rfl (lv_at hl 0 rfl) ?_
        refine lv_iload_n C.1 C.2.1 dX12_clause_157 rfl (lv_at hl 2 rfl) ?_
        refine pM_0_found C hX12_clause_0_X12 hK hP hJ hS mX12_clause_0_4 dX12_clause_158 (fun H locs hP hS => ?_)
        obtain ⟨u24, hu25, h⟩ := lt_some h
        rw [← hu25] at hP
        cases h
        exact rt_v C hP hS dX12_clause_161
      · rw [if_pos c147] at h
        cases h
        exact rt_v C hP hS dX12_clause_150
set_option maxHeartbeats 4000000 in
set_option maxRecDepth 100000 in
theorem wGX12_clause_0_61 {p : Program} {l : Launch} {e : Env} {s : State} {m : MethodId} {args : Array Value} {below : List Frame} {meth : Method} {c : Code} {D : va_G} {cy : Nat → ClassId} {ad st : Nat → Nat} (C : Cx RX12 cX12_clause 5 none wsX12_clause p s m args meth c) (hK : Ky D [(cy 0, .int), (cy 1, .long), (cy 2, .boolean), (cy 3, .byte), (cy 4, .object "HissHorn$Text")] st s) (hJ : JM ad st) {r : Int32} {u' : SX}   (u : SX) (H : Heap) (locs : List Loc) (ls : Array Slot) (h : GX12_clause_0_61  u = some (r, u')) (hP : va_P D vwCl (VM cy ad st u) H) (hS : va_S (Ax (AM ad) s.heap.size) s.heap H locs) (hl : lv_has ls 5 [(0, .ref (ad 0))]) : W p l e rmX12_clause_0 s m args below meth c H locs 0 0 (MQ below (Qv D (VM cy ad st) (AM ad) s.heap.size r u') args s 0 0 (Ax (AM ad) s.heap.size)) (F0 m 61 ls []) := by
  unfold GX12_clause_0_61 at h
  refine lv_aload_n C.1 C.2.1 dX12_clause_61 rfl (lv_at hl 0 rfl) ?_
  refine lv_iconst (v := 0) C.1 C.2.1 dX12_clause_62 (by decide) ?_
  refine lv_iconst (v := 0) C.1 C.2.1 dX12_clause_63 (by decide) ?_
  obtain ⟨⟨r12, u13⟩, hc14, h⟩ := bd_some h
  try dsimp only at h
  refine cg_i (As := [.int 0, .int 0]) (rest := []) (AM_ge hJ) C hK hP hS ((hRX12conditiong_all l D cy ad st hJ 64).1 _ 0 0 _ _ _ hc14) (cwV 2 C.2.2.2.2.2.1 gX12_clause_X12_condition rfl rfl rfl (by decide +kernel) ⟨(Nat.le_of_ble_eq_true rfl), (Nat.le_of_ble_eq_true rfl)⟩) 0 12 rfl rfl rfl hl.1 rfl (Nat.le_of_ble_eq_true rfl) dX12_clause_64 ⟨Nat.zero_le _, Nat.zero_le _⟩ (fun H locs hP hS => ?_)
  refine lv_istore_n (lv' := [(2, .int r12), (0, .ref (ad 0))]) C.1 C.2.1 dX12_clause_67 rfl hl (by decide) rfl (fun ls hl => ?_)
  replace hl := lv_sub (l' := [(0, .ref (ad 0)), (2, .int r12)]) hl [1, 0] rfl
  refine lv_aload_n C.1 C.2.1 dX12_clause_68 rfl (lv_at hl 0 rfl) ?_
  refine lv_bipush (v := 63) C.1 C.2.1 dX12_clause_69 (by decide) ?_
  obtain ⟨⟨r15, u16⟩, hc17, h⟩ := bd_some h
  try dsimp only at h
  refine cg_i (As := [.int 63]) (rest := []) (AM_ge hJ) C hK hP hS (metX12_takes_0 l D cy ad st hJ _ 63 hc17) (cwV 1 C.2.2.2.2.2.1 gX12_clause_X12_takes rfl rfl rfl (by decide +kernel) ⟨(Nat.le_of_ble_eq_true rfl), (Nat.le_of_ble_eq_true rfl)⟩) 0 12 rfl rfl rfl hl.1 rfl (Nat.le_of_ble_eq_true rfl) dX12_clause_71 ⟨Nat.zero_le _, Nat.zero_le _⟩ (fun H locs hP hS => ?_)
  refine lv_if_ne (tgt := 78) C.1 C.2.1 dX12_clause_74 (by decide) (fun c74 => ?_) (fun c74 => ?_)
  · rw [if_neg c74] at h
    refine lv_aload_n C.1 C.2.1 dX12_clause_78 rfl (lv_at hl 0 rfl) ?_
    obtain ⟨⟨r18, u19⟩, hc20, h⟩ := bd_some h
    try dsimp only at h
    refine cg_i (As := []) (rest := []) (AM_ge hJ) C hK hP hS ((hRX12sumg_all l D cy ad st hJ 64).1 _  _ _ _ hc20) (cwV 0 C.2.2.2.2.2.1 gX12_clause_X12_sum rfl rfl rfl (by decide +kernel) ⟨(Nat.le_of_ble_eq_true rfl), (Nat.le_of_ble_eq_true rfl)⟩) 0 12 rfl rfl rfl hl.1 rfl (Nat.le_of_ble_eq_true rfl) dX12_clause_79 ⟨Nat.zero_le _, Nat.zero_le _⟩ (fun H locs hP hS => ?_)
    refine lv_istore_n (lv' := [(3, .int r18), (0, .ref (ad 0)), (2, .int r12)]) C.1 C.2.1 dX12_clause_82 rfl hl (by decide) rfl (fun ls hl => ?_)
    replace hl := lv_sub (l' := [(0, .ref (ad 0)), (2, .int r12), (3, .int r18)]) hl [1, 2, 0] rfl
    refine lv_goto (tgt := 131) C.1 C.2.1 dX12_clause_83 (by decide) ?_
    exact wGX12_clause_0_131 C hK hJ _ _ _ _ _ _ h hP hS hl
  · rw [if_pos c74] at h
    cases h
    exact rt_v C hP hS dX12_clause_77
set_option maxHeartbeats 4000000 in
set_option maxRecDepth 100000 in
theorem wX12_clause_0 {p : Program} {l : Launch} {e : Env} {s : State} {m : MethodId} {args : Array Value} {below : List Frame} {meth : Method} {c : Code} {D : va_G} {cy : Nat → ClassId} {ad st : Nat → Nat} (C : Cx RX12 cX12_clause 5 none wsX12_clause p s m args meth c) (hK : Ky D [(cy 0, .int), (cy 1, .long), (cy 2, .boolean), (cy 3, .byte), (cy 4, .object "HissHorn$Text")] st s) (hJ : JM ad st)  {u : SX} {r : Int32} {u' : SX} {H : Heap} {locs : List Loc} {ls : Array Slot} (h : fX12_clause_0  u = some (r, u')) (hP : va_P D vwCl (VM cy ad st u) H) (hS : va_S (Ax (AM ad) s.heap.size) s.heap H locs) (hl : lv_has ls 5 [(0, .ref (ad 0))]) : W p l e rmX12_clause_0 s m args below meth c H locs 0 0 (MQ below (Qv D (VM cy ad st) (AM ad) s.heap.size r u') args s 0 0 (Ax (AM ad) s.heap.size)) (F0 m 0 ls []) := by
  unfold fX12_clause_0 at h
  refine lv_aload_n C.1 C.2.1 dX12_clause_0 rfl (lv_at hl 0 rfl) ?_
  obtain ⟨⟨r1, u2⟩, hc3, h⟩ := bd_some h
  try dsimp only at h
  refine cg_i (As := []) (rest := []) (AM_ge hJ) C hK hP hS (metX12_look_0 l D cy ad st hJ _  hc3) (cwV 0 C.2.2.2.2.2.1 gX12_clause_X12_look rfl rfl rfl (by decide +kernel) ⟨(Nat.le_of_ble_eq_true rfl), (Nat.le_of_ble_eq_true rfl)⟩) 0 12 rfl rfl rfl hl.1 rfl (Nat.le_of_ble_eq_true rfl) dX12_clause_1 ⟨Nat.zero_le _, Nat.zero_le _⟩ (fun H locs hP hS => ?_)
  refine lv_istore_n (lv' := [(1, .int r1), (0, .ref (ad 0))]) C.1 C.2.1 dX12_clause_4 rfl hl (by decide) rfl (fun ls hl => ?_)
  replace hl := lv_sub (l' := [(0, .ref (ad 0)), (1, .int r1)]) hl [1, 0] rfl
  refine lv_iload_n C.1 C.2.1 dX12_clause_5 rfl (lv_at hl 1 rfl) ?_
  refine lv_bipush (v := 121) C.1 C.2.1 dX12_clause_6 (by decide) ?_
  refine lv_icmp_eq (tgt := 17) C.1 C.2.1 dX12_clause_8 (by decide) (fun c8 => ?_) (fun c8 => ?_)
  · rw [if_pos c8] at h
    refine lv_aload_n C.1 C.2.1 dX12_clause_17 rfl (lv_at hl 0 rfl) ?_
    refine lv_dup C.1 C.2.1 dX12_clause_18 rfl ?_
    refine gM_0_at C hX12_clause_0_X12 hK hP mX12_clause_0_1 dX12_clause_19 ?_
    refine lv_iconst (v := 1) C.1 C.2.1 dX12_clause_22 (by decide) ?_
    refine lv_iadd C.1 C.2.1 dX12_clause_23 ?_
    refine pM_0_at C hX12_clause_0_X12 hK hP hJ hS mX12_clause_0_1 dX12_clause_24 (fun H locs hP hS => ?_)
    obtain ⟨u4, hu5, h⟩ := lt_some h
    rw [← hu5] at hP
    refine lv_aload_n C.1 C.2.1 dX12_clause_27 rfl (lv_at hl 0 rfl) ?_
    refine lv_bipush (v := 58) C.1 C.2.1 dX12_clause_28 (by decide) ?_
    obtain ⟨⟨r6, u7⟩, hc8, h⟩ := bd_some h
    try dsimp only at h
    refine cg_i (As := [.int 58]) (rest := []) (AM_ge hJ) C hK hP hS (metX12_takes_0 l D cy ad st hJ _ 58 hc8) (cwV 1 C.2.2.2.2.2.1 gX12_clause_X12_takes rfl rfl rfl (by decide +kernel) ⟨(Nat.le_of_ble_eq_true rfl), (Nat.le_of_ble_eq_true rfl)⟩) 0 12 rfl rfl rfl hl.1 rfl (Nat.le_of_ble_eq_true rfl) dX12_clause_30 ⟨Nat.zero_le _, Nat.zero_le _⟩ (fun H locs hP hS => ?_)
    refine lv_if_ne (tgt := 37) C.1 C.2.1 dX12_clause_33 (by decide) (fun c33 => ?_) (fun c33 => ?_)
    · rw [if_neg c33] at h
      refine lv_iconst (v := 1) C.1 C.2.1 dX12_clause_37 (by decide) ?_
      refine lv_istore_n (lv' := [(2, .int 1), (0, .ref (ad 0)), (1, .int r1)]) C.1 C.2.1 dX12_clause_38 rfl hl (by decide) rfl (fun ls hl => ?_)
      replace hl := lv_sub (l' := [(0, .ref (ad 0)), (1, .int r1), (2, .int 1)]) hl [1, 2, 0] rfl
      refine lv_iconst (v := 0) C.1 C.2.1 dX12_clause_39 (by decide) ?_
      refine lv_istore_n (lv' := [(3, .int 0), (0, .ref (ad 0)), (1, .int r1), (2, .int 1)]) C.1 C.2.1 dX12_clause_40 rfl hl (by decide) rfl (fun ls hl => ?_)
      replace hl := lv_sub (l' := [(0, .ref (ad 0)), (1, .int r1), (2, .int 1), (3, .int 0)]) hl [1, 2, 3, 0] rfl
      refine lv_aload_n C.1 C.2.1 dX12_clause_41 rfl (lv_at hl 0 rfl) ?_
      obtain ⟨⟨r9, u10⟩, hc11, h⟩ := bd_some h
      try dsimp only at h
      refine cg_i (As := []) (rest := []) (AM_ge hJ) C hK hP hS (metX12_look_0 l D cy ad st hJ _  hc11) (cwV 0 C.2.2.2.2.2.1 gX12_clause_X12_look rfl rfl rfl (by decide +kernel) ⟨(Nat.le_of_ble_eq_true rfl), (Nat.le_of_ble_eq_true rfl)⟩) 0 12 rfl rfl rfl hl.1 rfl (Nat.le_of_ble_eq_true rfl) dX12_clause_42 ⟨Nat.zero_le _, Nat.zero_le _⟩ (fun H locs hP hS => ?_)
      refine lv_istore (lv' := [(4, .int r9), (0, .ref (ad 0)), (1, .int r1), (2, .int 1), (3, .int 0)]) C.1 C.2.1 dX12_clause_45 hl (by decide) rfl (fun ls hl => ?_)
      replace hl := lv_sub (l' := [(0, .ref (ad 0)), (1, .int r1), (2, .int 1), (3, .int 0), (4, .int r9)]) hl [1, 2, 3, 4, 0] rfl
      refine lv_iload C.1 C.2.1 dX12_clause_47 (lv_at hl 4 rfl) ?_
      refine lv_bipush (v := 33) C.1 C.2.1 dX12_clause_49 (by decide) ?_
      refine lv_icmp_eq (tgt := 61) C.1 C.2.1 dX12_clause_51 (by decide) (fun c51 => ?_) (fun c51 => ?_)
      · rw [if_pos c51] at h
        exact wGX12_clause_0_61 C hK hJ _ _ _ _ h hP hS (lv_sub hl [0] rfl)
      · rw [if_neg c51] at h
        refine lv_iload C.1 C.2.1 dX12_clause_54 (lv_at hl 4 rfl) ?_
        refine lv_bipush (v := 40) C.1 C.2.1 dX12_clause_56 (by decide) ?_
        refine lv_icmp_ne (tgt := 86) C.1 C.2.1 dX12_clause_58 (by decide) (fun c58 => ?_) (fun c58 => ?_)
        · rw [if_neg c58] at h
          refine lv_aload_n C.1 C.2.1 dX12_clause_86 rfl (lv_at hl 0 rfl) ?_
          obtain ⟨⟨r26, u27⟩, hc28, h⟩ := bd_some h
          try dsimp only at h
          refine cg_i (As := []) (rest := []) (AM_ge hJ) C hK hP hS ((hRX12sumg_all l D cy ad st hJ 64).1 _  _ _ _ hc28) (cwV 0 C.2.2.2.2.2.1 gX12_clause_X12_sum rfl rfl rfl (by decide +kernel) ⟨(Nat.le_of_ble_eq_true rfl), (Nat.le_of_ble_eq_true rfl)⟩) 0 12 rfl rfl rfl hl.1 rfl (Nat.le_of_ble_eq_true rfl) dX12_clause_87 ⟨Nat.zero_le _, Nat.zero_le _⟩ (fun H locs hP hS => ?_)
          refine lv_istore_n (lv' := [(3, .int r26), (0, .ref (ad 0)), (1, .int r1), (2, .int 1), (4, .int r9)]) C.1 C.2.1 dX12_clause_90 rfl hl (by decide) rfl (fun ls hl => ?_)
          replace hl := lv_sub (l' := [(0, .ref (ad 0)), (1, .int r1), (2, .int 1), (3, .int r26), (4, .int r9)]) hl [1, 2, 3, 0, 4] rfl
          refine lv_aload_n C.1 C.2.1 dX12_clause_91 rfl (lv_at hl 0 rfl) ?_
          refine gM_0_fault C hX12_clause_0_X12 hK hP mX12_clause_0_2 dX12_clause_92 ?_
          refine lv_iconst (v := (-1)) C.1 C.2.1 dX12_clause_95 (by decide) ?_
          refine lv_icmp_ne (tgt := 131) C.1 C.2.1 dX12_clause_96 (by decide) (fun c96 => ?_) (fun c96 => ?_)
          · rw [if_neg c96] at h
            exact wGX12_clause_0_131 C hK hJ _ _ _ _ _ _ h hP hS (lv_sub hl [0, 2, 3] rfl)
          · rw [if_pos c96] at h
            refine lv_aload_n C.1 C.2.1 dX12_clause_99 rfl (lv_at hl 0 rfl) ?_
            obtain ⟨⟨r29, u30⟩, hc31, h⟩ := bd_some h
            try dsimp only at h
            refine cg_i (As := []) (rest := []) (AM_ge hJ) C hK hP hS (metX12_look_0 l D cy ad st hJ _  hc31) (cwV 0 C.2.2.2.2.2.1 gX12_clause_X12_look rfl rfl rfl (by decide +kernel) ⟨(Nat.le_of_ble_eq_true rfl), (Nat.le_of_ble_eq_true rfl)⟩) 0 12 rfl rfl rfl hl.1 rfl (Nat.le_of_ble_eq_true rfl) dX12_clause_100 ⟨Nat.zero_le _, Nat.zero_le _⟩ (fun H locs hP hS => ?_)
            obtain ⟨r32, hc34, h⟩ := bd_some h
            refine cs_i (As := [.int r29]) (rest := []) (AM_ge hJ) C hK hP hS (metX12_isSign l D cy st _ r29 hc34) (va_cwS 1 C.2.2.2.2.2.1 gX12_clause_X12_isSign rfl rfl rfl (by decide +kernel) ⟨(Nat.le_of_ble_eq_true rfl), (Nat.le_of_ble_eq_true rfl)⟩) rfl hl.1 rfl (Nat.le_of_ble_eq_true rfl) dX12_clause_103 ⟨Nat.zero_le _, Nat.zero_le _⟩ (fun H locs hP hS => ?_)
            refine lv_if_eq (tgt := 131) C.1 C.2.1 dX12_clause_106 (by decide) (fun c106 => ?_) (fun c106 => ?_)
            · rw [if_pos c106] at h
              exact wGX12_clause_0_131 C hK hJ _ _ _ _ _ _ h hP hS (lv_sub hl [0, 2, 3] rfl)
            · rw [if_neg c106] at h
              refine lv_aload_n C.1 C.2.1 dX12_clause_109 rfl (lv_at hl 0 rfl) ?_
              refine lv_iconst (v := 1) C.1 C.2.1 dX12_clause_110 (by decide) ?_
              refine lv_iload_n C.1 C.2.1 dX12_clause_111 rfl (lv_at hl 3 rfl) ?_
              obtain ⟨⟨r35, u36⟩, hc37, h⟩ := bd_some h
              try dsimp only at h
              refine cg_i (As := [.int 1, .int r26]) (rest := []) (AM_ge hJ) C hK hP hS ((hRX12conditiong_all l D cy ad st hJ 64).1 _ 1 r26 _ _ _ hc37) (cwV 2 C.2.2.2.2.2.1 gX12_clause_X12_condition rfl rfl rfl (by decide +kernel) ⟨(Nat.le_of_ble_eq_true rfl), (Nat.le_of_ble_eq_true rfl)⟩) 0 12 rfl rfl rfl hl.1 rfl (Nat.le_of_ble_eq_true rfl) dX12_clause_112 ⟨Nat.zero_le _, Nat.zero_le _⟩ (fun H locs hP hS => ?_)
              refine lv_istore_n (lv' := [(2, .int r35), (0, .ref (ad 0)), (1, .int r1), (3, .int r26), (4, .int r9)]) C.1 C.2.1 dX12_clause_115 rfl hl (by decide) rfl (fun ls hl => ?_)
              replace hl := lv_sub (l' := [(0, .ref (ad 0)), (1, .int r1), (2, .int r35), (3, .int r26), (4, .int r9)]) hl [1, 2, 0, 3, 4] rfl
              refine lv_aload_n C.1 C.2.1 dX12_clause_116 rfl (lv_at hl 0 rfl) ?_
              refine lv_bipush (v := 63) C.1 C.2.1 dX12_clause_117 (by decide) ?_
              obtain ⟨⟨r38, u39⟩, hc40, h⟩ := bd_some h
              try dsimp only at h
              refine cg_i (As := [.int 63]) (rest := []) (AM_ge hJ) C hK hP hS (metX12_takes_0 l D cy ad st hJ _ 63 hc40) (cwV 1 C.2.2.2.2.2.1 gX12_clause_X12_takes rfl rfl rfl (by decide +kernel) ⟨(Nat.le_of_ble_eq_true rfl), (Nat.le_of_ble_eq_true rfl)⟩) 0 12 rfl rfl rfl hl.1 rfl (Nat.le_of_ble_eq_true rfl) dX12_clause_119 ⟨Nat.zero_le _, Nat.zero_le _⟩ (fun H locs hP hS => ?_)
              refine lv_if_ne (tgt := 126) C.1 C.2.1 dX12_clause_122 (by decide) (fun c122 => ?_) (fun c122 => ?_)
              · rw [if_neg c122] at h
                refine lv_aload_n C.1 C.2.1 dX12_clause_126 rfl (lv_at hl 0 rfl) ?_
                obtain ⟨⟨r41, u42⟩, hc43, h⟩ := bd_some h
                try dsimp only at h
                refine cg_i (As := []) (rest := []) (AM_ge hJ) C hK hP hS ((hRX12sumg_all l D cy ad st hJ 64).1 _  _ _ _ hc43) (cwV 0 C.2.2.2.2.2.1 gX12_clause_X12_sum rfl rfl rfl (by decide +kernel) ⟨(Nat.le_of_ble_eq_true rfl), (Nat.le_of_ble_eq_true rfl)⟩) 0 12 rfl rfl rfl hl.1 rfl (Nat.le_of_ble_eq_true rfl) dX12_clause_127 ⟨Nat.zero_le _, Nat.zero_le _⟩ (fun H locs hP hS => ?_)
                refine lv_istore_n (lv' := [(3, .int r41), (0, .ref (ad 0)), (1, .int r1), (2, .int r35), (4, .int r9)]) C.1 C.2.1 dX12_clause_130 rfl hl (by decide) rfl (fun ls hl => ?_)
                replace hl := lv_sub (l' := [(0, .ref (ad 0)), (1, .int r1), (2, .int r35), (3, .int r41), (4, .int r9)]) hl [1, 2, 3, 0, 4] rfl
                exact wGX12_clause_0_131 C hK hJ _ _ _ _ _ _ h hP hS (lv_sub hl [0, 2, 3] rfl)
              · rw [if_pos c122] at h
                cases h
                exact rt_v C hP hS dX12_clause_125
        · rw [if_pos c58] at h
          exact wGX12_clause_0_61 C hK hJ _ _ _ _ h hP hS (lv_sub hl [0] rfl)
    · rw [if_pos c33] at h
      cases h
      exact rt_v C hP hS dX12_clause_36
  · rw [if_neg c8] at h
    refine lv_aload_n C.1 C.2.1 dX12_clause_11 rfl (lv_at hl 0 rfl) ?_
    obtain ⟨⟨r44, u45⟩, hc46, h⟩ := bd_some h
    try dsimp only at h
    refine cg_i (As := []) (rest := []) (AM_ge hJ) C hK hP hS (metX12_fails_0 l D cy ad st hJ _  hc46) (cwV 0 C.2.2.2.2.2.1 gX12_clause_X12_fails rfl rfl rfl (by decide +kernel) ⟨(Nat.le_of_ble_eq_true rfl), (Nat.le_of_ble_eq_true rfl)⟩) 0 12 rfl rfl rfl hl.1 rfl (Nat.le_of_ble_eq_true rfl) dX12_clause_12 ⟨Nat.zero_le _, Nat.zero_le _⟩ (fun H locs hP hS => ?_)
    refine lv_pop C.1 C.2.1 dX12_clause_15 rfl ?_
    cases h
    exact rt_v C hP hS dX12_clause_16
theorem metX12_clause_0 (l : Launch) (D : va_G) (cy : Nat → ClassId) (ad st : Nat → Nat) (hJ : JM ad st) (sz : Nat)  {u : SX} {r : Int32} {u' : SX} (h : fX12_clause_0  u = some (r, u')) : Met l yX12_clause wsX12_clause rmX12_clause_0 (va_Pc [.ref (ad 0)] (Px D [(cy 0, .int), (cy 1, .long), (cy 2, .boolean), (cy 3, .byte), (cy 4, .object "HissHorn$Text")] st (VM cy ad st) sz u)) (Qv D (VM cy ad st) (AM ad) sz r u') 0 0 (Ax (AM ad) sz) := by
  refine Met.ofW (cc := cX12_clause) (maxL := 5) (ret := none) (by decide) rfl ?_
  intro p e s m args below meth c s₁ B hml hv
  obtain ⟨rfl, hsz, hP, hK⟩ := hv
  subst hsz
  have C : Cx RX12 cX12_clause 5 none wsX12_clause p s m _ meth c := ⟨B.exec, B.bytes, hml, B.returns, findClass_of_methodNamed B.named, atoms_spec (ws := wsX12_clause) B.pre, B.notSynchronized⟩
  have hl := lv_entry ([.ref (ad 0)]) (n := 5) (Nat.le_of_ble_eq_true rfl)
  rw [lg_entry_eq]
  exact wX12_clause_0 C hK hJ h hP va_S.rf hl

theorem dX12_goThrough_73 : decode cX12_goThrough 73 = .ok (.aload_n 0, 1) := by decide +kernel
theorem dX12_goThrough_74 : decode cX12_goThrough 74 = .ok (.getfield 182, 3) := by decide +kernel
theorem dX12_goThrough_77 : decode cX12_goThrough 77 = .ok (.iconst (-1), 1) := by decide +kernel
theorem dX12_goThrough_78 : decode cX12_goThrough 78 = .ok (.if_icmp .ne 29, 3) := by decide +kernel
theorem dX12_goThrough_81 : decode cX12_goThrough 81 = .ok (.aload_n 0, 1) := by decide +kernel
set_option maxRecDepth 20000 in
theorem ggX12_goThrough_X12_look : GoodIn wsX12_goThrough wsX12_look := ggi (fun w h => List.mem_cons_of_mem _ (List.mem_append_left _ (List.mem_append_right _ (List.mem_append_left _ h)))) gs_X12_look
set_option maxRecDepth 20000 in
theorem gX12_goThrough_X12_look : GoodIn wsX12_goThrough (wsV RX12 192 RX12 yX12_look wsX12_look) := goodIn_app (goodIn_of _ (by decide +kernel)) ggX12_goThrough_X12_look
theorem dX12_goThrough_82 : decode cX12_goThrough 82 = .ok (.invokevirtual 192, 3) := by decide +kernel
theorem dX12_goThrough_85 : decode cX12_goThrough 85 = .ok (.bipush 59, 2) := by decide +kernel
theorem dX12_goThrough_87 : decode cX12_goThrough 87 = .ok (.if_icmp .ne 20, 3) := by decide +kernel
theorem dX12_goThrough_90 : decode cX12_goThrough 90 = .ok (.aload_n 0, 1) := by decide +kernel
theorem dX12_goThrough_91 : decode cX12_goThrough 91 = .ok (.dup, 1) := by decide +kernel
theorem dX12_goThrough_92 : decode cX12_goThrough 92 = .ok (.getfield 173, 3) := by decide +kernel
theorem dX12_goThrough_95 : decode cX12_goThrough 95 = .ok (.iconst 1, 1) := by decide +kernel
theorem dX12_goThrough_96 : decode cX12_goThrough 96 = .ok (.iadd, 1) := by decide +kernel
theorem dX12_goThrough_97 : decode cX12_goThrough 97 = .ok (.putfield 173, 3) := by decide +kernel
theorem dX12_goThrough_100 : decode cX12_goThrough 100 = .ok (.aload_n 0, 1) := by decide +kernel
set_option maxRecDepth 20000 in
theorem ggX12_goThrough_X12_clause : GoodIn wsX12_goThrough wsX12_clause := ggi (fun w h => List.mem_cons_of_mem _ (List.mem_append_left _ (List.mem_append_right _ (List.mem_append_right _ (List.mem_append_left _ h))))) gs_X12_clause
set_option maxRecDepth 20000 in
theorem gX12_goThrough_X12_clause : GoodIn wsX12_goThrough (wsV RX12 264 RX12 yX12_clause wsX12_clause) := goodIn_app (goodIn_of _ (by decide +kernel)) ggX12_goThrough_X12_clause
theorem dX12_goThrough_101 : decode cX12_goThrough 101 = .ok (.invokevirtual 264, 3) := by decide +kernel
theorem dX12_goThrough_104 : decode cX12_goThrough 104 = .ok (.goto (-31), 3) := by decide +kernel
theorem dX12_goThrough_107 : decode cX12_goThrough 107 = .ok (.aload_n 0, 1) := by decide +kernel
theorem dX12_goThrough_108 : decode cX12_goThrough 108 = .ok (.getfield 182, 3) := by decide +kernel
theorem dX12_goThrough_111 : decode cX12_goThrough 111 = .ok (.iconst (-1), 1) := by decide +kernel
theorem dX12_goThrough_112 : decode cX12_goThrough 112 = .ok (.if_icmp .ne 16, 3) := by decide +kernel
theorem dX12_goThrough_128 : decode cX12_goThrough 128 = .ok (.return_, 1) := by decide +kernel
theorem dX12_goThrough_115 : decode cX12_goThrough 115 = .ok (.aload_n 0, 1) := by decide +kernel
theorem dX12_goThrough_116 : decode cX12_goThrough 116 = .ok (.invokevirtual 192, 3) := by decide +kernel
theorem dX12_goThrough_119 : decode cX12_goThrough 119 = .ok (.iconst (-1), 1) := by decide +kernel
theorem dX12_goThrough_120 : decode cX12_goThrough 120 = .ok (.if_icmp .eq 8, 3) := by decide +kernel
theorem dX12_goThrough_123 : decode cX12_goThrough 123 = .ok (.aload_n 0, 1) := by decide +kernel
set_option maxRecDepth 20000 in
theorem ggX12_goThrough_X12_fails : GoodIn wsX12_goThrough wsX12_fails := ggi (fun w h => List.mem_cons_of_mem _ (List.mem_append_left _ (List.mem_append_right _ (List.mem_append_right _ (List.mem_append_right _ h))))) gs_X12_fails
set_option maxRecDepth 20000 in
theorem gX12_goThrough_X12_fails : GoodIn wsX12_goThrough (wsV RX12 188 RX12 yX12_fails wsX12_fails) := goodIn_app (goodIn_of _ (by decide +kernel)) ggX12_goThrough_X12_fails
theorem dX12_goThrough_124 : decode cX12_goThrough 124 = .ok (.invokevirtual 188, 3) := by decide +kernel
theorem dX12_goThrough_127 : decode cX12_goThrough 127 = .ok (.pop, 1) := by decide +kernel
theorem dX12_goThrough_41 : decode cX12_goThrough 41 = .ok (.putfield 31, 3) := by decide +kernel
theorem dX12_goThrough_44 : decode cX12_goThrough 44 = .ok (.aload_n 0, 1) := by decide +kernel
