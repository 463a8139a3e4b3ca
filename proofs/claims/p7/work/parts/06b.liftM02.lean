theorem mX12_atom_0_1 : Cond.fieldLink RX12 182 "HissHornModel" "fault" "I" ∈ wsX12_atom := (List.mem_cons_of_mem _ (List.mem_append_left _ (List.mem_append_left _ (List.mem_of_getElem? (i := 4) rfl))))
theorem mX12_atom_0_2 : Cond.fieldLink RX12 26 "HissHornModel" "text" "[B" ∈ wsX12_atom := (List.mem_cons_of_mem _ (List.mem_append_left _ (List.mem_append_left _ (List.mem_of_getElem? (i := 5) rfl))))
theorem mX12_atom_0_3 : Cond.fieldLink RX12 179 "HissHornModel" "begins" "I" ∈ wsX12_atom := (List.mem_cons_of_mem _ (List.mem_append_left _ (List.mem_append_left _ (List.mem_of_getElem? (i := 6) rfl))))
theorem mX12_atom_0_4 : Cond.fieldLink RX12 173 "HissHornModel" "at" "I" ∈ wsX12_atom := (List.mem_cons_of_mem _ (List.mem_append_left _ (List.mem_append_left _ (List.mem_of_getElem? (i := 1) rfl))))
def LX12_atom_0_97 (rc : Nat → Int32 → SX → Option (Int32 × SX)) (k117 : SX → Option (Int32 × SX)) : Nat → Int32 → Int32 → SX → Option (Int32 × SX)
  | 0, _, _, _ => none
  | n + 1, z2, z3, u => ((fX12_isDigit_0  u).bind fun q => match q with | (r7, u8) => (if r7 = 0 then (some (z2, u8)) else (if (u8.1 7) = (-1) then (if z3 = 4 then (k117 u8) else (if u8.1 2 = 2 then (gd (inb ((u8.1 4) + (u8.1 6)) 120) (lt (((10 * z2) + (u8.2.1 1 ((u8.1 4) + (u8.1 6)).toNatClampNeg)) - 48) fun v11 => (lt (sI u8 6 ((u8.1 6) + 1)) fun u13 => ((LX12_atom_0_97 rc k117 n) v11 (z3 + 1) u13)))) else (if u8.1 2 = 3 then (gd (inb ((u8.1 4) + (u8.1 6)) 4320) (lt (((10 * z2) + (u8.2.1 2 ((u8.1 4) + (u8.1 6)).toNatClampNeg)) - 48) fun v16 => (lt (sI u8 6 ((u8.1 6) + 1)) fun u18 => ((LX12_atom_0_97 rc k117 n) v16 (z3 + 1) u18)))) else none))) else (some (z2, u8)))))
def GX12_atom_0_117 (rc : Nat → Int32 → SX → Option (Int32 × SX))  (u : SX) : Option (Int32 × SX) := ((fX12_fails_0  u).bind fun q => match q with | (r20, u21) => (some (0, u21)))
def GX12_atom_0_93 (rc : Nat → Int32 → SX → Option (Int32 × SX))  (u : SX) : Option (Int32 × SX) := (LX12_atom_0_97 rc (GX12_atom_0_117 rc ) 5000 0 0 u)
theorem mX12_atom_0_5 : Cond.fieldLink RX12 185 "HissHornModel" "deep" "I" ∈ wsX12_atom := (List.mem_cons_of_mem _ (List.mem_append_left _ (List.mem_append_left _ (List.mem_of_getElem? (i := 3) rfl))))
def GX12_atom_0_38 (rc : Nat → Int32 → SX → Option (Int32 × SX)) (z1 : Int32) (u : SX) : Option (Int32 × SX) := (if z1 = 91 then ((fX12_goesIn_0  u).bind fun q => match q with | (r26, u27) => (if r26 = 0 then (some (0, u27)) else ((rc 0  0 u27).bind fun q => match q with | (r29, u30) => ((fX12_takes_0 93 u30).bind fun q => match q with | (r32, u33) => (if r32 = 0 then (some (0, u33)) else (lt (sI u33 8 ((u33.1 8) - 1)) fun u35 => (some (r29, u35)))))))) else ((fX12_isDigit_0  u).bind fun q => match q with | (r4, u5) => (if r4 = 0 then ((fX12_fails_0  u5).bind fun q => match q with | (r23, u24) => (GX12_atom_0_93 rc u24)) else (GX12_atom_0_93 rc u5))))
theorem mX12_atom_0_6 : Cond.fieldLink RX12 31 "HissHornModel" "allowed" "Ljava/lang/String;" ∈ wsX12_atom := (List.mem_cons_of_mem _ (List.mem_append_left _ (List.mem_append_left _ (List.mem_of_getElem? (i := 0) rfl))))
theorem mX12_atom_0_7 : Cond.fieldLink RX12 23 "HissHornModel" "letters" "[I" ∈ wsX12_atom := (List.mem_cons_of_mem _ (List.mem_append_left _ (List.mem_append_left _ (List.mem_of_getElem? (i := 2) rfl))))
def fX12_atom_0 (rc : Nat → Int32 → SX → Option (Int32 × SX))  (u : SX) : Option (Int32 × SX) := ((fX12_look_0  u).bind fun q => match q with | (r1, u2) => (if r1 = (-1) then (GX12_atom_0_38 rc r1 u2) else (if u2.1 10 = 5 then ((fJ0_indexOf_0f7a4_s4 r1).bind fun r37 => (if r37 < 0 then (GX12_atom_0_38 rc r1 u2) else (lt (sI u2 6 ((u2.1 6) + 1)) fun u40 => (gd (inb r1 128) (some (u40.2.1 5 r1.toNatClampNeg, u40)))))) else (if u2.1 10 = 6 then ((fJ0_indexOf_0f7a4_s5 r1).bind fun r43 => (if r43 < 0 then (GX12_atom_0_38 rc r1 u2) else (lt (sI u2 6 ((u2.1 6) + 1)) fun u46 => (gd (inb r1 128) (some (u46.2.1 5 r1.toNatClampNeg, u46)))))) else (if u2.1 10 = 7 then ((fJ0_indexOf_0f7a4_s6 r1).bind fun r49 => (if r49 < 0 then (GX12_atom_0_38 rc r1 u2) else (lt (sI u2 6 ((u2.1 6) + 1)) fun u52 => (gd (inb r1 128) (some (u52.2.1 5 r1.toNatClampNeg, u52)))))) else none)))))
set_option maxHeartbeats 4000000 in
set_option maxRecDepth 100000 in
theorem wLX12_atom_0_97 {p : Program} {l : Launch} {e : Env} {s : State} {m : MethodId} {args : Array Value} {below : List Frame} {meth : Method} {c : Code} {D : va_G} {cy : Nat → ClassId} {ad st : Nat → Nat} (C : Cx RX12 cX12_atom 4 (some .int) wsX12_atom p s m args meth c) (hK : Ky D [(cy 0, .int), (cy 1, .long), (cy 2, .boolean), (cy 3, .byte), (cy 4, .object "HissHorn$Text")] st s) (hJ : JM ad st) {rc : Nat → Int32 → SX → Option (Int32 × SX)} {dd : Nat} (hrc : hRX12sumg l D cy ad st rc dd) {r : Int32} {u' : SX} {k117 : SX → Option (Int32 × SX)} (hk117 : ∀  (u : SX) (H : Heap) (locs : List Loc) (ls : Array Slot), k117 u = some (r, u') → va_P D vwCl (VM cy ad st u) H → va_S (Ax (AM ad) s.heap.size) s.heap H locs → lv_has ls 4 [(0, .ref (ad 0))] → W p l e (rmX12sumg (dd + 1)) s m args below meth c H locs 0 0 (MQ below (Qi D (VM cy ad st) (AM ad) s.heap.size r u') args s 0 0 (Ax (AM ad) s.heap.size)) (F0 m 117 ls [])) : ∀ (n : Nat) (z2 : Int32) (z3 : Int32) (u : SX) (H : Heap) (locs : List Loc) (ls : Array Slot), LX12_atom_0_97 rc k117 n z2 z3 u = some (r, u') → va_P D vwCl (VM cy ad st u) H → va_S (Ax (AM ad) s.heap.size) s.heap H locs → lv_has ls 4 [(0, .ref (ad 0)), (2, .int z2), (3, .int z3)] → W p l e (rmX12sumg (dd + 1)) s m args below meth c H locs 0 0 (MQ below (Qi D (VM cy ad st) (AM ad) s.heap.size r u') args s 0 0 (Ax (AM ad) s.heap.size)) (F0 m 97 ls []) := by
  intro n
  induction n with
  | zero =>
    intro z2 z3 u H locs ls h
    exact absurd h (by intro q; cases q)
  | succ n ih =>
    intro z2 z3 u H locs ls h hP hS hl
    rw [LX12_atom_0_97] at h
    refine lv_aload_n C.1 C.2.1 dX12_atom_97 rfl (lv_at hl 0 rfl) ?_
    obtain ⟨⟨r7, u8⟩, hc9, h⟩ := bd_some h
    try dsimp only at h
    refine cg_i (As := []) (rest := []) (AM_ge hJ) C hK hP hS (metX12_isDigit_0 l D cy ad st hJ _  hc9) (cwV 0 C.2.2.2.2.2.1 gX12_atom_X12_isDigit rfl rfl rfl (by decide +kernel) ⟨(Nat.le_trans (m := 4) (Nat.le_of_ble_eq_true rfl) (rmX12sumg_f _)), (Nat.le_trans (m := 91) (Nat.le_of_ble_eq_true rfl) (rmX12sumg_l _))⟩) 0 12 rfl rfl rfl hl.1 rfl (Nat.le_of_ble_eq_true rfl) dX12_atom_98 ⟨Nat.zero_le _, Nat.zero_le _⟩ (fun H locs hP hS => ?_)
    refine lv_if_eq (tgt := 163) C.1 C.2.1 dX12_atom_101 (by decide) (fun c101 => ?_) (fun c101 => ?_)
    · rw [if_pos c101] at h
      refine lv_iload_n C.1 C.2.1 dX12_atom_163 rfl (lv_at hl 1 rfl) ?_
      cases h
      exact rt_i C hP hS dX12_atom_164
    · rw [if_neg c101] at h
      refine lv_aload_n C.1 C.2.1 dX12_atom_104 rfl (lv_at hl 0 rfl) ?_
      refine gM_0_fault C hX12_atom_0_X12 hK hP mX12_atom_0_1 dX12_atom_105 ?_
      refine lv_iconst (v := (-1)) C.1 C.2.1 dX12_atom_108 (by decide) ?_
      refine lv_icmp_ne (tgt := 163) C.1 C.2.1 dX12_atom_109 (by decide) (fun c109 => ?_) (fun c109 => ?_)
      · rw [if_neg c109] at h
        refine lv_iload_n C.1 C.2.1 dX12_atom_163 rfl (lv_at hl 1 rfl) ?_
        cases h
        exact rt_i C hP hS dX12_atom_164
      · rw [if_pos c109] at h
        refine lv_iload_n C.1 C.2.1 dX12_atom_112 rfl (lv_at hl 2 rfl) ?_
        refine lv_iconst (v := 4) C.1 C.2.1 dX12_atom_113 (by decide) ?_
        refine lv_icmp_ne (tgt := 124) C.1 C.2.1 dX12_atom_114 (by decide) (fun c114 => ?_) (fun c114 => ?_)
        · rw [if_neg c114] at h
          refine lv_bipush (v := 10) C.1 C.2.1 dX12_atom_124 (by decide) ?_
          refine lv_iload_n C.1 C.2.1 dX12_atom_126 rfl (lv_at hl 1 rfl) ?_
          refine lv_imul C.1 C.2.1 dX12_atom_127 ?_
          refine lv_aload_n C.1 C.2.1 dX12_atom_128 rfl (lv_at hl 0 rfl) ?_
          refine gM_0_text C hX12_atom_0_X12 hK hP mX12_atom_0_2 dX12_atom_129 ?_
          by_cases c129_1 : u8.1 2 = 2
          · rw [if_pos c129_1] at h
            refine W.eq (g2 := F0 m 132 ls [.ref (ad 1), .int (10 * z2)]) (by rw [c129_1]; rfl) ?_
            refine lv_aload_n C.1 C.2.1 dX12_atom_132 rfl (lv_at hl 0 rfl) ?_
            refine gM_0_begins C hX12_atom_0_X12 hK hP mX12_atom_0_3 dX12_atom_133 ?_
            refine lv_aload_n C.1 C.2.1 dX12_atom_136 rfl (lv_at hl 0 rfl) ?_
            refine gM_0_at C hX12_atom_0_X12 hK hP mX12_atom_0_4 dX12_atom_137 ?_
            refine lv_iadd C.1 C.2.1 dX12_atom_140 ?_
            obtain ⟨hg10, h⟩ := gd_some h
            refine lM_1 C hK hP hg10 dX12_atom_141 ?_
            refine lv_iadd C.1 C.2.1 dX12_atom_142 ?_
            refine lv_bipush (v := 48) C.1 C.2.1 dX12_atom_143 (by decide) ?_
            refine lv_isub C.1 C.2.1 dX12_atom_145 ?_
            refine lv_topi (fun v11 hv12 => ?_)
            replace h := lt_e hv12 h
            try dsimp only at h
            refine lv_istore_n (lv' := [(2, .int v11), (0, .ref (ad 0)), (3, .int z3)]) C.1 C.2.1 dX12_atom_146 rfl hl (by decide) rfl (fun ls hl => ?_)
            replace hl := lv_sub (l' := [(0, .ref (ad 0)), (2, .int v11), (3, .int z3)]) hl [1, 0, 2] rfl
            refine lv_aload_n C.1 C.2.1 dX12_atom_147 rfl (lv_at hl 0 rfl) ?_
            refine lv_dup C.1 C.2.1 dX12_atom_148 rfl ?_
            refine gM_0_at C hX12_atom_0_X12 hK hP mX12_atom_0_4 dX12_atom_149 ?_
            refine lv_iconst (v := 1) C.1 C.2.1 dX12_atom_152 (by decide) ?_
            refine lv_iadd C.1 C.2.1 dX12_atom_153 ?_
            refine pM_0_at C hX12_atom_0_X12 hK hP hJ hS mX12_atom_0_4 dX12_atom_154 (fun H locs hP hS => ?_)
            obtain ⟨u13, hu14, h⟩ := lt_some h
            rw [← hu14] at hP
            refine lv_iinc (v := z3 + 1) (lv' := [(3, .int (z3 + 1)), (0, .ref (ad 0)), (2, .int v11)]) C.1 C.2.1 dX12_atom_157 hl (k := 2) rfl rfl (by decide) rfl (fun ls hl => ?_)
            replace hl := lv_sub (l' := [(0, .ref (ad 0)), (2, .int v11), (3, .int (z3 + 1))]) hl [1, 2, 0] rfl
            refine lv_goto (tgt := 97) C.1 C.2.1 dX12_atom_160 (by decide) ?_
            exact ih _ _ _ _ _ _ h hP hS hl
          · rw [if_neg c129_1] at h
            by_cases c129_2 : u8.1 2 = 3
            · rw [if_pos c129_2] at h
              refine W.eq (g2 := F0 m 132 ls [.ref (ad 2), .int (10 * z2)]) (by rw [c129_2]; rfl) ?_
              refine lv_aload_n C.1 C.2.1 dX12_atom_132 rfl (lv_at hl 0 rfl) ?_
              refine gM_0_begins C hX12_atom_0_X12 hK hP mX12_atom_0_3 dX12_atom_133 ?_
              refine lv_aload_n C.1 C.2.1 dX12_atom_136 rfl (lv_at hl 0 rfl) ?_
              refine gM_0_at C hX12_atom_0_X12 hK hP mX12_atom_0_4 dX12_atom_137 ?_
              refine lv_iadd C.1 C.2.1 dX12_atom_140 ?_
              obtain ⟨hg15, h⟩ := gd_some h
              refine lM_2 C hK hP hg15 dX12_atom_141 ?_
              refine lv_iadd C.1 C.2.1 dX12_atom_142 ?_
              refine lv_bipush (v := 48) C.1 C.2.1 dX12_atom_143 (by decide) ?_
              refine lv_isub C.1 C.2.1 dX12_atom_145 ?_
              refine lv_topi (fun v16 hv17 => ?_)
              replace h := lt_e hv17 h
              try dsimp only at h
              refine lv_istore_n (lv' := [(2, .int v16), (0, .ref (ad 0)), (3, .int z3)]) C.1 C.2.1 dX12_atom_146 rfl hl (by decide) rfl (fun ls hl => ?_)
              replace hl := lv_sub (l' := [(0, .ref (ad 0)), (2, .int v16), (3, .int z3)]) hl [1, 0, 2] rfl
              refine lv_aload_n C.1 C.2.1 dX12_atom_147 rfl (lv_at hl 0 rfl) ?_
              refine lv_dup C.1 C.2.1 dX12_atom_148 rfl ?_
              refine gM_0_at C hX12_atom_0_X12 hK hP mX12_atom_0_4 dX12_atom_149 ?_
              refine lv_iconst (v := 1) C.1 C.2.1 dX12_atom_152 (by decide) ?_
              refine lv_iadd C.1 C.2.1 dX12_atom_153 ?_
              refine pM_0_at C hX12_atom_0_X12 hK hP hJ hS mX12_atom_0_4 dX12_atom_154 (fun H locs hP hS => ?_)
              obtain ⟨u18, hu19, h⟩ := lt_some h
              rw [← hu19] at hP
              refine lv_iinc (v := z3 + 1) (lv' := [(3, .int (z3 + 1)), (0, .ref (ad 0)), (2, .int v16)]) C.1 C.2.1 dX12_atom_157 hl (k := 2) rfl rfl (by decide) rfl (fun ls hl => ?_)
              replace hl := lv_sub (l' := [(0, .ref (ad 0)), (2, .int v16), (3, .int (z3 + 1))]) hl [1, 2, 0] rfl
              refine lv_goto (tgt := 97) C.1 C.2.1 dX12_atom_160 (by decide) ?_
              exact ih _ _ _ _ _ _ h hP hS hl
            · rw [if_neg c129_2] at h
              exact absurd h (by intro q; cases q)
        · rw [if_pos c114] at h
          exact hk117 _ _ _ _ h hP hS (lv_sub hl [0] rfl)
set_option maxHeartbeats 4000000 in
set_option maxRecDepth 100000 in
theorem wGX12_atom_0_117 {p : Program} {l : Launch} {e : Env} {s : State} {m : MethodId} {args : Array Value} {below : List Frame} {meth : Method} {c : Code} {D : va_G} {cy : Nat → ClassId} {ad st : Nat → Nat} (C : Cx RX12 cX12_atom 4 (some .int) wsX12_atom p s m args meth c) (hK : Ky D [(cy 0, .int), (cy 1, .long), (cy 2, .boolean), (cy 3, .byte), (cy 4, .object "HissHorn$Text")] st s) (hJ : JM ad st) {rc : Nat → Int32 → SX → Option (Int32 × SX)} {dd : Nat} (hrc : hRX12sumg l D cy ad st rc dd) {r : Int32} {u' : SX}   (u : SX) (H : Heap) (locs : List Loc) (ls : Array Slot) (h : GX12_atom_0_117 rc  u = some (r, u')) (hP : va_P D vwCl (VM cy ad st u) H) (hS : va_S (Ax (AM ad) s.heap.size) s.heap H locs) (hl : lv_has ls 4 [(0, .ref (ad 0))]) : W p l e (rmX12sumg (dd + 1)) s m args below meth c H locs 0 0 (MQ below (Qi D (VM cy ad st) (AM ad) s.heap.size r u') args s 0 0 (Ax (AM ad) s.heap.size)) (F0 m 117 ls []) := by
  unfold GX12_atom_0_117 at h
  refine lv_aload_n C.1 C.2.1 dX12_atom_117 rfl (lv_at hl 0 rfl) ?_
  obtain ⟨⟨r20, u21⟩, hc22, h⟩ := bd_some h
  try dsimp only at h
  refine cg_i (As := []) (rest := []) (AM_ge hJ) C hK hP hS (metX12_fails_0 l D cy ad st hJ _  hc22) (cwV 0 C.2.2.2.2.2.1 gX12_atom_X12_fails rfl rfl rfl (by decide +kernel) ⟨(Nat.le_trans (m := 4) (Nat.le_of_ble_eq_true rfl) (rmX12sumg_f _)), (Nat.le_trans (m := 91) (Nat.le_of_ble_eq_true rfl) (rmX12sumg_l _))⟩) 0 12 rfl rfl rfl hl.1 rfl (Nat.le_of_ble_eq_true rfl) dX12_atom_118 ⟨Nat.zero_le _, Nat.zero_le _⟩ (fun H locs hP hS => ?_)
  refine lv_pop C.1 C.2.1 dX12_atom_121 rfl ?_
  refine lv_iconst (v := 0) C.1 C.2.1 dX12_atom_122 (by decide) ?_
  cases h
  exact rt_i C hP hS dX12_atom_123
set_option maxHeartbeats 4000000 in
set_option maxRecDepth 100000 in
theorem wGX12_atom_0_93 {p : Program} {l : Launch} {e : Env} {s : State} {m : MethodId} {args : Array Value} {below : List Frame} {meth : Method} {c : Code} {D : va_G} {cy : Nat → ClassId} {ad st : Nat → Nat} (C : Cx RX12 cX12_atom 4 (some .int) wsX12_atom p s m args meth c) (hK : Ky D [(cy 0, .int), (cy 1, .long), (cy 2, .boolean), (cy 3, .byte), (cy 4, .object "HissHorn$Text")] st s) (hJ : JM ad st) {rc : Nat → Int32 → SX → Option (Int32 × SX)} {dd : Nat} (hrc : hRX12sumg l D cy ad st rc dd) {r : Int32} {u' : SX}   (u : SX) (H : Heap) (locs : List Loc) (ls : Array Slot) (h : GX12_atom_0_93 rc  u = some (r, u')) (hP : va_P D vwCl (VM cy ad st u) H) (hS : va_S (Ax (AM ad) s.heap.size) s.heap H locs) (hl : lv_has ls 4 [(0, .ref (ad 0))]) : W p l e (rmX12sumg (dd + 1)) s m args below meth c H locs 0 0 (MQ below (Qi D (VM cy ad st) (AM ad) s.heap.size r u') args s 0 0 (Ax (AM ad) s.heap.size)) (F0 m 93 ls []) := by
  unfold GX12_atom_0_93 at h
  refine lv_iconst (v := 0) C.1 C.2.1 dX12_atom_93 (by decide) ?_
  refine lv_istore_n (lv' := [(2, .int 0), (0, .ref (ad 0))]) C.1 C.2.1 dX12_atom_94 rfl hl (by decide) rfl (fun ls hl => ?_)
  replace hl := lv_sub (l' := [(0, .ref (ad 0)), (2, .int 0)]) hl [1, 0] rfl
  refine lv_iconst (v := 0) C.1 C.2.1 dX12_atom_95 (by decide) ?_
  refine lv_istore_n (lv' := [(3, .int 0), (0, .ref (ad 0)), (2, .int 0)]) C.1 C.2.1 dX12_atom_96 rfl hl (by decide) rfl (fun ls hl => ?_)
  replace hl := lv_sub (l' := [(0, .ref (ad 0)), (2, .int 0), (3, .int 0)]) hl [1, 2, 0] rfl
  exact wLX12_atom_0_97 C hK hJ hrc (wGX12_atom_0_117 C hK hJ hrc ) 5000 _ _ _ _ _ _ h hP hS hl
set_option maxHeartbeats 4000000 in
set_option maxRecDepth 100000 in
theorem wGX12_atom_0_38 {p : Program} {l : Launch} {e : Env} {s : State} {m : MethodId} {args : Array Value} {below : List Frame} {meth : Method} {c : Code} {D : va_G} {cy : Nat → ClassId} {ad st : Nat → Nat} (C : Cx RX12 cX12_atom 4 (some .int) wsX12_atom p s m args meth c) (hK : Ky D [(cy 0, .int), (cy 1, .long), (cy 2, .boolean), (cy 3, .byte), (cy 4, .object "HissHorn$Text")] st s) (hJ : JM ad st) {rc : Nat → Int32 → SX → Option (Int32 × SX)} {dd : Nat} (hrc : hRX12sumg l D cy ad st rc dd) {r : Int32} {u' : SX}   (z1 : Int32) (u : SX) (H : Heap) (locs : List Loc) (ls : Array Slot) (h : GX12_atom_0_38 rc z1 u = some (r, u')) (hP : va_P D vwCl (VM cy ad st u) H) (hS : va_S (Ax (AM ad) s.heap.size) s.heap H locs) (hl : lv_has ls 4 [(0, .ref (ad 0)), (1, .int z1)]) : W p l e (rmX12sumg (dd + 1)) s m args below meth c H locs 0 0 (MQ below (Qi D (VM cy ad st) (AM ad) s.heap.size r u') args s 0 0 (Ax (AM ad) s.heap.size)) (F0 m 38 ls []) := by
  unfold GX12_atom_0_38 at h
  refine lv_iload_n C.1 C.2.1 dX12_atom_38 rfl (lv_at hl 1 rfl) ?_
  refine lv_bipush (v := 91) C.1 C.2.1 dX12_atom_39 (by decide) ?_
  refine lv_icmp_ne (tgt := 81) C.1 C.2.1 dX12_atom_41 (by decide) (fun c41 => ?_) (fun c41 => ?_)
  · rw [if_neg c41] at h
    refine lv_aload_n C.1 C.2.1 dX12_atom_81 rfl (lv_at hl 0 rfl) ?_
    obtain ⟨⟨r4, u5⟩, hc6, h⟩ := bd_some h
    try dsimp only at h
    refine cg_i (As := []) (rest := []) (AM_ge hJ) C hK hP hS (metX12_isDigit_0 l D cy ad st hJ _  hc6) (cwV 0 C.2.2.2.2.2.1 gX12_atom_X12_isDigit rfl rfl rfl (by decide +kernel) ⟨(Nat.le_trans (m := 4) (Nat.le_of_ble_eq_true rfl) (rmX12sumg_f _)), (Nat.le_trans (m := 91) (Nat.le_of_ble_eq_true rfl) (rmX12sumg_l _))⟩) 0 12 rfl rfl rfl hl.1 rfl (Nat.le_of_ble_eq_true rfl) dX12_atom_82 ⟨Nat.zero_le _, Nat.zero_le _⟩ (fun H locs hP hS => ?_)
    refine lv_if_ne (tgt := 93) C.1 C.2.1 dX12_atom_85 (by decide) (fun c85 => ?_) (fun c85 => ?_)
    · rw [if_neg c85] at h
      exact wGX12_atom_0_93 C hK hJ hrc _ _ _ _ h hP hS (lv_sub hl [0] rfl)
    · rw [if_pos c85] at h
      refine lv_aload_n C.1 C.2.1 dX12_atom_88 rfl (lv_at hl 0 rfl) ?_
      obtain ⟨⟨r23, u24⟩, hc25, h⟩ := bd_some h
      try dsimp only at h
      refine cg_i (As := []) (rest := []) (AM_ge hJ) C hK hP hS (metX12_fails_0 l D cy ad st hJ _  hc25) (cwV 0 C.2.2.2.2.2.1 gX12_atom_X12_fails rfl rfl rfl (by decide +kernel) ⟨(Nat.le_trans (m := 4) (Nat.le_of_ble_eq_true rfl) (rmX12sumg_f _)), (Nat.le_trans (m := 91) (Nat.le_of_ble_eq_true rfl) (rmX12sumg_l _))⟩) 0 12 rfl rfl rfl hl.1 rfl (Nat.le_of_ble_eq_true rfl) dX12_atom_89 ⟨Nat.zero_le _, Nat.zero_le _⟩ (fun H locs hP hS => ?_)
      refine lv_pop C.1 C.2.1 dX12_atom_92 rfl ?_
      exact wGX12_atom_0_93 C hK hJ hrc _ _ _ _ h hP hS (lv_sub hl [0] rfl)
  · rw [if_pos c41] at h
    refine lv_aload_n C.1 C.2.1 dX12_atom_44 rfl (lv_at hl 0 rfl) ?_
    obtain ⟨⟨r26, u27⟩, hc28, h⟩ := bd_some h
    try dsimp only at h
    refine cg_i (As := []) (rest := []) (AM_ge hJ) C hK hP hS (metX12_goesIn_0 l D cy ad st hJ _  hc28) (cwV 0 C.2.2.2.2.2.1 gX12_atom_X12_goesIn rfl rfl rfl (by decide +kernel) ⟨(Nat.le_trans (m := 4) (Nat.le_of_ble_eq_true rfl) (rmX12sumg_f _)), (Nat.le_trans (m := 91) (Nat.le_of_ble_eq_true rfl) (rmX12sumg_l _))⟩) 0 12 rfl rfl rfl hl.1 rfl (Nat.le_of_ble_eq_true rfl) dX12_atom_45 ⟨Nat.zero_le _, Nat.zero_le _⟩ (fun H locs hP hS => ?_)
    refine lv_if_ne (tgt := 53) C.1 C.2.1 dX12_atom_48 (by decide) (fun c48 => ?_) (fun c48 => ?_)
    · rw [if_neg c48] at h
      refine lv_aload_n C.1 C.2.1 dX12_atom_53 rfl (lv_at hl 0 rfl) ?_
      obtain ⟨⟨r29, u30⟩, hc31, h⟩ := bd_some h
      try dsimp only at h
      refine cg_i (As := []) (rest := []) (AM_ge hJ) C hK hP hS (hrc.1 _  _ _ _ hc31) (cwV 0 C.2.2.2.2.2.1 gX12_atom_X12_sum rfl rfl rfl (by decide +kernel) ⟨rmX12sumg_sf dd, rmX12sumg_sl dd (k := 8 + (5 + 11)) (Nat.le_of_ble_eq_true rfl)⟩) 0 12 rfl rfl rfl hl.1 rfl (Nat.le_of_ble_eq_true rfl) dX12_atom_54 ⟨Nat.zero_le _, Nat.zero_le _⟩ (fun H locs hP hS => ?_)
      refine lv_istore_n (lv' := [(2, .int r29), (0, .ref (ad 0)), (1, .int z1)]) C.1 C.2.1 dX12_atom_57 rfl hl (by decide) rfl (fun ls hl => ?_)
      replace hl := lv_sub (l' := [(0, .ref (ad 0)), (1, .int z1), (2, .int r29)]) hl [1, 2, 0] rfl
      refine lv_aload_n C.1 C.2.1 dX12_atom_58 rfl (lv_at hl 0 rfl) ?_
      refine lv_bipush (v := 93) C.1 C.2.1 dX12_atom_59 (by decide) ?_
      obtain ⟨⟨r32, u33⟩, hc34, h⟩ := bd_some h
      try dsimp only at h
      refine cg_i (As := [.int 93]) (rest := []) (AM_ge hJ) C hK hP hS (metX12_takes_0 l D cy ad st hJ _ 93 hc34) (cwV 1 C.2.2.2.2.2.1 gX12_atom_X12_takes rfl rfl rfl (by decide +kernel) ⟨(Nat.le_trans (m := 4) (Nat.le_of_ble_eq_true rfl) (rmX12sumg_f _)), (Nat.le_trans (m := 91) (Nat.le_of_ble_eq_true rfl) (rmX12sumg_l _))⟩) 0 12 rfl rfl rfl hl.1 rfl (Nat.le_of_ble_eq_true rfl) dX12_atom_61 ⟨Nat.zero_le _, Nat.zero_le _⟩ (fun H locs hP hS => ?_)
      refine lv_if_ne (tgt := 69) C.1 C.2.1 dX12_atom_64 (by decide) (fun c64 => ?_) (fun c64 => ?_)
      · rw [if_neg c64] at h
        refine lv_aload_n C.1 C.2.1 dX12_atom_69 rfl (lv_at hl 0 rfl) ?_
        refine lv_dup C.1 C.2.1 dX12_atom_70 rfl ?_
        refine gM_0_deep C hX12_atom_0_X12 hK hP mX12_atom_0_5 dX12_atom_71 ?_
        refine lv_iconst (v := 1) C.1 C.2.1 dX12_atom_74 (by decide) ?_
        refine lv_isub C.1 C.2.1 dX12_atom_75 ?_
        refine pM_0_deep C hX12_atom_0_X12 hK hP hJ hS mX12_atom_0_5 dX12_atom_76 (fun H locs hP hS => ?_)
        obtain ⟨u35, hu36, h⟩ := lt_some h
        rw [← hu36] at hP
        refine lv_iload_n C.1 C.2.1 dX12_atom_79 rfl (lv_at hl 2 rfl) ?_
        cases h
        exact rt_i C hP hS dX12_atom_80
      · rw [if_pos c64] at h
        refine lv_iconst (v := 0) C.1 C.2.1 dX12_atom_67 (by decide) ?_
        cases h
        exact rt_i C hP hS dX12_atom_68
    · rw [if_pos c48] at h
      refine lv_iconst (v := 0) C.1 C.2.1 dX12_atom_51 (by decide) ?_
      cases h
      exact rt_i C hP hS dX12_atom_52
set_option maxHeartbeats 4000000 in
set_option maxRecDepth 100000 in
theorem wX12_atom_0 {p : Program} {l : Launch} {e : Env} {s : State} {m : MethodId} {args : Array Value} {below : List Frame} {meth : Method} {c : Code} {D : va_G} {cy : Nat → ClassId} {ad st : Nat → Nat} (C : Cx RX12 cX12_atom 4 (some .int) wsX12_atom p s m args meth c) (hK : Ky D [(cy 0, .int), (cy 1, .long), (cy 2, .boolean), (cy 3, .byte), (cy 4, .object "HissHorn$Text")] st s) (hJ : JM ad st) {rc : Nat → Int32 → SX → Option (Int32 × SX)} {dd : Nat} (hrc : hRX12sumg l D cy ad st rc dd)  {u : SX} {r : Int32} {u' : SX} {H : Heap} {locs : List Loc} {ls : Array Slot} (h : fX12_atom_0 rc  u = some (r, u')) (hP : va_P D vwCl (VM cy ad st u) H) (hS : va_S (Ax (AM ad) s.heap.size) s.heap H locs) (hl : lv_has ls 4 [(0, .ref (ad 0))]) : W p l e (rmX12sumg (dd + 1)) s m args below meth c H locs 0 0 (MQ below (Qi D (VM cy ad st) (AM ad) s.heap.size r u') args s 0 0 (Ax (AM ad) s.heap.size)) (F0 m 0 ls []) := by
  unfold fX12_atom_0 at h
  refine lv_aload_n C.1 C.2.1 dX12_atom_0 rfl (lv_at hl 0 rfl) ?_
  obtain ⟨⟨r1, u2⟩, hc3, h⟩ := bd_some h
  try dsimp only at h
  refine cg_i (As := []) (rest := []) (AM_ge hJ) C hK hP hS (metX12_look_0 l D cy ad st hJ _  hc3) (cwV 0 C.2.2.2.2.2.1 gX12_atom_X12_look rfl rfl rfl (by decide +kernel) ⟨(Nat.le_trans (m := 4) (Nat.le_of_ble_eq_true rfl) (rmX12sumg_f _)), (Nat.le_trans (m := 91) (Nat.le_of_ble_eq_true rfl) (rmX12sumg_l _))⟩) 0 12 rfl rfl rfl hl.1 rfl (Nat.le_of_ble_eq_true rfl) dX12_atom_1 ⟨Nat.zero_le _, Nat.zero_le _⟩ (fun H locs hP hS => ?_)
  refine lv_istore_n (lv' := [(1, .int r1), (0, .ref (ad 0))]) C.1 C.2.1 dX12_atom_4 rfl hl (by decide) rfl (fun ls hl => ?_)
  replace hl := lv_sub (l' := [(0, .ref (ad 0)), (1, .int r1)]) hl [1, 0] rfl
  refine lv_iload_n C.1 C.2.1 dX12_atom_5 rfl (lv_at hl 1 rfl) ?_
  refine lv_iconst (v := (-1)) C.1 C.2.1 dX12_atom_6 (by decide) ?_
  refine lv_icmp_eq (tgt := 38) C.1 C.2.1 dX12_atom_7 (by decide) (fun c7 => ?_) (fun c7 => ?_)
  · rw [if_pos c7] at h
    exact wGX12_atom_0_38 C hK hJ hrc _ _ _ _ _ h hP hS hl
  · rw [if_neg c7] at h
    refine lv_aload_n C.1 C.2.1 dX12_atom_10 rfl (lv_at hl 0 rfl) ?_
    refine gM_0_allowed C hX12_atom_0_X12 hK hP mX12_atom_0_6 dX12_atom_11 ?_
    by_cases c11_4 : u2.1 10 = 5
    · rw [if_pos c11_4] at h
      refine W.eq (g2 := F0 m 14 ls [.ref (st 4)]) (by rw [c11_4]; rfl) ?_
      refine lv_iload_n C.1 C.2.1 dX12_atom_14 rfl (lv_at hl 1 rfl) ?_
      obtain ⟨r37, hc39, h⟩ := bd_some h
      refine cz_i (kz := 4) (by decide) (As := [.int r1]) (rest := []) (AM_ge hJ) C hK hP hS (metJ0_indexOf_0f7a4_s4 l D cy st _ r1 hc39) (cwV 1 C.2.2.2.2.2.1 gX12_atom_J0_indexOf_0f7a4 rfl rfl rfl (by decide +kernel) ⟨(Nat.le_trans (m := 4) (Nat.le_of_ble_eq_true rfl) (rmX12sumg_f _)), (Nat.le_trans (m := 91) (Nat.le_of_ble_eq_true rfl) (rmX12sumg_l _))⟩) rfl hl.1 rfl (Nat.le_of_ble_eq_true rfl) dX12_atom_15 ⟨Nat.zero_le _, Nat.zero_le _⟩ (fun H locs hP hS => ?_)
      refine lv_if_lt (tgt := 38) C.1 C.2.1 dX12_atom_18 (by decide) (fun c18 => ?_) (fun c18 => ?_)
      · rw [if_pos c18] at h
        exact wGX12_atom_0_38 C hK hJ hrc _ _ _ _ _ h hP hS hl
      · rw [if_neg c18] at h
        refine lv_aload_n C.1 C.2.1 dX12_atom_21 rfl (lv_at hl 0 rfl) ?_
        refine lv_dup C.1 C.2.1 dX12_atom_22 rfl ?_
        refine gM_0_at C hX12_atom_0_X12 hK hP mX12_atom_0_4 dX12_atom_23 ?_
        refine lv_iconst (v := 1) C.1 C.2.1 dX12_atom_26 (by decide) ?_
        refine lv_iadd C.1 C.2.1 dX12_atom_27 ?_
        refine pM_0_at C hX12_atom_0_X12 hK hP hJ hS mX12_atom_0_4 dX12_atom_28 (fun H locs hP hS => ?_)
        obtain ⟨u40, hu41, h⟩ := lt_some h
        rw [← hu41] at hP
        refine lv_aload_n C.1 C.2.1 dX12_atom_31 rfl (lv_at hl 0 rfl) ?_
        refine gM_0_letters C hX12_atom_0_X12 hK hP mX12_atom_0_7 dX12_atom_32 ?_
        refine lv_iload_n C.1 C.2.1 dX12_atom_35 rfl (lv_at hl 1 rfl) ?_
        obtain ⟨hg42, h⟩ := gd_some h
        refine lM_5 C hK hP hg42 dX12_atom_36 ?_
        cases h
        exact rt_i C hP hS dX12_atom_37
    · rw [if_neg c11_4] at h
      by_cases c11_5 : u2.1 10 = 6
      · rw [if_pos c11_5] at h
        refine W.eq (g2 := F0 m 14 ls [.ref (st 5)]) (by rw [c11_5]; rfl) ?_
        refine lv_iload_n C.1 C.2.1 dX12_atom_14 rfl (lv_at hl 1 rfl) ?_
        obtain ⟨r43, hc45, h⟩ := bd_some h
        refine cz_i (kz := 5) (by decide) (As := [.int r1]) (rest := []) (AM_ge hJ) C hK hP hS (metJ0_indexOf_0f7a4_s5 l D cy st _ r1 hc45) (cwV 1 C.2.2.2.2.2.1 gX12_atom_J0_indexOf_0f7a4 rfl rfl rfl (by decide +kernel) ⟨(Nat.le_trans (m := 4) (Nat.le_of_ble_eq_true rfl) (rmX12sumg_f _)), (Nat.le_trans (m := 91) (Nat.le_of_ble_eq_true rfl) (rmX12sumg_l _))⟩) rfl hl.1 rfl (Nat.le_of_ble_eq_true rfl) dX12_atom_15 ⟨Nat.zero_le _, Nat.zero_le _⟩ (fun H locs hP hS => ?_)
        refine lv_if_lt (tgt := 38) C.1 C.2.1 dX12_atom_18 (by decide) (fun c18 => ?_) (fun c18 => ?_)
        · rw [if_pos c18] at h
          exact wGX12_atom_0_38 C hK hJ hrc _ _ _ _ _ h hP hS hl
        · rw [if_neg c18] at h
          refine lv_aload_n C.1 C.2.1 dX12_atom_21 rfl (lv_at hl 0 rfl) ?_
          refine lv_dup C.1 C.2.1 dX12_atom_22 rfl ?_
          refine gM_0_at C hX12_atom_0_X12 hK hP mX12_atom_0_4 dX12_atom_23 ?_
          refine lv_iconst (v := 1) C.1 C.2.1 dX12_atom_26 (by decide) ?_
          refine lv_iadd C.1 C.2.1 dX12_atom_27 ?_
          refine pM_0_at C hX12_atom_0_X12 hK hP hJ hS mX12_atom_0_4 dX12_atom_28 (fun H locs hP hS => ?_)
          obtain ⟨u46, hu47, h⟩ := lt_some h
          rw [← hu47] at hP
          refine lv_aload_n C.1 C.2.1 dX12_atom_31 rfl (lv_at hl 0 rfl) ?_
          refine gM_0_letters C hX12_atom_0_X12 hK hP mX12_atom_0_7 dX12_atom_32 ?_
          refine lv_iload_n C.1 C.2.1 dX12_atom_35 rfl (lv_at hl 1 rfl) ?_
          obtain ⟨hg48, h⟩ := gd_some h
          refine lM_5 C hK hP hg48 dX12_atom_36 ?_
          cases h
          exact rt_i C hP hS dX12_atom_37
      · rw [if_neg c11_5] at h
        by_cases c11_6 : u2.1 10 = 7
        · rw [if_pos c11_6] at h
          refine W.eq (g2 := F0 m 14 ls [.ref (st 6)]) (by rw [c11_6]; rfl) ?_
          refine lv_iload_n C.1 C.2.1 dX12_atom_14 rfl (lv_at hl 1 rfl) ?_
          obtain ⟨r49, hc51, h⟩ := bd_some h
          refine cz_i (kz := 6) (by decide) (As := [.int r1]) (rest := []) (AM_ge hJ) C hK hP hS (metJ0_indexOf_0f7a4_s6 l D cy st _ r1 hc51) (cwV 1 C.2.2.2.2.2.1 gX12_atom_J0_indexOf_0f7a4 rfl rfl rfl (by decide +kernel) ⟨(Nat.le_trans (m := 4) (Nat.le_of_ble_eq_true rfl) (rmX12sumg_f _)), (Nat.le_trans (m := 91) (Nat.le_of_ble_eq_true rfl) (rmX12sumg_l _))⟩) rfl hl.1 rfl (Nat.le_of_ble_eq_true rfl) dX12_atom_15 ⟨Nat.zero_le _, Nat.zero_le _⟩ (fun H locs hP hS => ?_)
          refine lv_if_lt (tgt := 38) C.1 C.2.1 dX12_atom_18 (by decide) (fun c18 => ?_) (fun c18 => ?_)
          · rw [if_pos c18] at h
            exact wGX12_atom_0_38 C hK hJ hrc _ _ _ _ _ h hP hS hl
          · rw [if_neg c18] at h
            refine lv_aload_n C.1 C.2.1 dX12_atom_21 rfl (lv_at hl 0 rfl) ?_
            refine lv_dup C.1 C.2.1 dX12_atom_22 rfl ?_
            refine gM_0_at C hX12_atom_0_X12 hK hP mX12_atom_0_4 dX12_atom_23 ?_
            refine lv_iconst (v := 1) C.1 C.2.1 dX12_atom_26 (by decide) ?_
            refine lv_iadd C.1 C.2.1 dX12_atom_27 ?_
            refine pM_0_at C hX12_atom_0_X12 hK hP hJ hS mX12_atom_0_4 dX12_atom_28 (fun H locs hP hS => ?_)
            obtain ⟨u52, hu53, h⟩ := lt_some h
            rw [← hu53] at hP
            refine lv_aload_n C.1 C.2.1 dX12_atom_31 rfl (lv_at hl 0 rfl) ?_
            refine gM_0_letters C hX12_atom_0_X12 hK hP mX12_atom_0_7 dX12_atom_32 ?_
            refine lv_iload_n C.1 C.2.1 dX12_atom_35 rfl (lv_at hl 1 rfl) ?_
            obtain ⟨hg54, h⟩ := gd_some h
            refine lM_5 C hK hP hg54 dX12_atom_36 ?_
            cases h
            exact rt_i C hP hS dX12_atom_37
        · rw [if_neg c11_6] at h
          exact absurd h (by intro q; cases q)
theorem metX12_atom_0 (l : Launch) (D : va_G) (cy : Nat → ClassId) (ad st : Nat → Nat) (hJ : JM ad st) {rc : Nat → Int32 → SX → Option (Int32 × SX)} {dd : Nat} (hrc : hRX12sumg l D cy ad st rc dd) (sz : Nat)  {u : SX} {r : Int32} {u' : SX} (h : fX12_atom_0 rc  u = some (r, u')) : Met l yX12_atom wsX12_atom (rmX12sumg (dd + 1)) (va_Pc [.ref (ad 0)] (Px D [(cy 0, .int), (cy 1, .long), (cy 2, .boolean), (cy 3, .byte), (cy 4, .object "HissHorn$Text")] st (VM cy ad st) sz u)) (Qi D (VM cy ad st) (AM ad) sz r u') 0 0 (Ax (AM ad) sz) := by
  refine Met.ofW (cc := cX12_atom) (maxL := 4) (ret := (some .int)) (by decide) rfl ?_
  intro p e s m args below meth c s₁ B hml hv
  obtain ⟨rfl, hsz, hP, hK⟩ := hv
  subst hsz
  have C : Cx RX12 cX12_atom 4 (some .int) wsX12_atom p s m _ meth c := ⟨B.exec, B.bytes, hml, B.returns, findClass_of_methodNamed B.named, atoms_spec (ws := wsX12_atom) B.pre, B.notSynchronized⟩
  have hl := lv_entry ([.ref (ad 0)]) (n := 4) (Nat.le_of_ble_eq_true rfl)
  rw [lg_entry_eq]
  exact wX12_atom_0 C hK hJ hrc h hP va_S.rf hl

def rX12sumg : Nat → Nat → Int32 → SX → Option (Int32 × SX)
  | 0, _, _, _ => none
  | d + 1, t, a0, u => (if t = 0 then fX12_sum_0 (rX12sumg d)  u else (if t = 1 then fX12_term_0 (rX12sumg d)  u else (if t = 2 then fX12_atom_0 (rX12sumg d)  u else none)))
theorem hRX12sumg_all (l : Launch) (D : va_G) (cy : Nat → ClassId) (ad st : Nat → Nat) (hJ : JM ad st) : ∀ d, hRX12sumg l D cy ad st (rX12sumg d) d := by
  intro d
  induction d with
  | zero =>
    refine ⟨?_, ?_, ?_⟩
    · intro sz  u r u' h
      exact absurd h (by intro q; cases q)
    · intro sz  u r u' h
      exact absurd h (by intro q; cases q)
    · intro sz  u r u' h
      exact absurd h (by intro q; cases q)
  | succ d ih =>
    refine ⟨?_, ?_, ?_⟩
    · intro sz  u r u' h
      rw [rX12sumg] at h
      rw [if_pos rfl] at h
      exact metX12_sum_0 l D cy ad st hJ ih sz  h
    · intro sz  u r u' h
      rw [rX12sumg] at h
      rw [if_neg (by decide)] at h; rw [if_pos rfl] at h
      exact metX12_term_0 l D cy ad st hJ ih sz  h
    · intro sz  u r u' h
      rw [rX12sumg] at h
      rw [if_neg (by decide)] at h; rw [if_neg (by decide)] at h; rw [if_pos rfl] at h
      exact metX12_atom_0 l D cy ad st hJ ih sz  h

