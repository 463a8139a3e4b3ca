def GX12_term_0_45 (rc : Nat → Int32 → SX → Option (Int32 × SX)) (k5 : Int32 → SX → Option (Int32 × SX)) (z1 : Int32) (y0 : Int32) (u : SX) : Option (Int32 × SX) := (lt (sI u 6 ((u.1 6) + 1)) fun u10 => ((rc 2  0 u10).bind fun q => match q with | (r12, u13) => (lt (r12.toInt64) fun v15 => (if y0 = 0 then (if (lg_cmp v15 0) = 0 then (GX12_term_0_87 rc k5 0 u13) else (gd (nzL v15) (GX12_term_0_87 rc k5 ((z1.toInt64) / v15) u13))) else (GX12_term_0_87 rc k5 ((z1.toInt64) * v15) u13)))))
def GX12_term_0_31 (rc : Nat → Int32 → SX → Option (Int32 × SX)) (k5 : Int32 → SX → Option (Int32 × SX)) (z1 : Int32) (u : SX) : Option (Int32 × SX) := ((fX12_look_0  u).bind fun q => match q with | (r7, u8) => (if r7 = 42 then (GX12_term_0_45 rc k5 z1 1 u8) else (GX12_term_0_45 rc k5 z1 0 u8)))
def LX12_term_0_5 (rc : Nat → Int32 → SX → Option (Int32 × SX))  : Nat → Int32 → SX → Option (Int32 × SX)
  | 0, _, _ => none
  | n + 1, z1, u => (if (u.1 7) = (-1) then ((fX12_look_0  u).bind fun q => match q with | (r4, u5) => (if r4 = 42 then (GX12_term_0_31 rc (LX12_term_0_5 rc n) z1 u5) else ((fX12_look_0  u5).bind fun q => match q with | (r21, u22) => (if r21 = 47 then (GX12_term_0_31 rc (LX12_term_0_5 rc n) z1 u22) else (some (z1, u22)))))) else (some (z1, u)))
def fX12_term_0 (rc : Nat → Int32 → SX → Option (Int32 × SX))  (u : SX) : Option (Int32 × SX) := ((rc 2  0 u).bind fun q => match q with | (r1, u2) => (LX12_term_0_5 rc  5000 r1 u2))
set_option maxHeartbeats 4000000 in
set_option maxRecDepth 100000 in
theorem wGX12_term_0_87 {p : Program} {l : Launch} {e : Env} {s : State} {m : MethodId} {args : Array Value} {below : List Frame} {meth : Method} {c : Code} {D : va_G} {cy : Nat → ClassId} {ad st : Nat → Nat} (C : Cx RX12 cX12_term 5 (some .int) wsX12_term p s m args meth c) (hK : Ky D [(cy 0, .int), (cy 1, .long), (cy 2, .boolean), (cy 3, .byte), (cy 4, .object "HissHorn$Text")] st s) (hJ : JM ad st) {rc : Nat → Int32 → SX → Option (Int32 × SX)} {dd : Nat} (hrc : hRX12sumg l D cy ad st rc dd) {r : Int32} {u' : SX} {k5 : Int32 → SX → Option (Int32 × SX)} (hk5 : ∀ (z1 : Int32) (u : SX) (H : Heap) (locs : List Loc) (ls : Array Slot), k5 z1 u = some (r, u') → va_P D vwCl (VM cy ad st u) H → va_S (Ax (AM ad) s.heap.size) s.heap H locs → lv_has ls 5 [(0, .ref (ad 0)), (1, .int z1)] → W p l e (rmX12sumg (dd + 1)) s m args below meth c H locs 0 0 (MQ below (Qi D (VM cy ad st) (AM ad) s.heap.size r u') args s 0 0 (Ax (AM ad) s.heap.size)) (F0 m 5 ls [])) (y0 : Int64) (u : SX) (H : Heap) (locs : List Loc) (ls : Array Slot) (h : GX12_term_0_87 rc k5 y0 u = some (r, u')) (hP : va_P D vwCl (VM cy ad st u) H) (hS : va_S (Ax (AM ad) s.heap.size) s.heap H locs) (hl : lv_has ls 5 [(0, .ref (ad 0))]) : W p l e (rmX12sumg (dd + 1)) s m args below meth c H locs 0 0 (MQ below (Qi D (VM cy ad st) (AM ad) s.heap.size r u') args s 0 0 (Ax (AM ad) s.heap.size)) (F0 m 87 ls [.long y0]) := by
  unfold GX12_term_0_87 at h
  obtain ⟨r18, hc20, h⟩ := bd_some h
  refine cs_i (As := [.long y0]) (rest := []) (AM_ge hJ) C hK hP hS (metX12_within l D cy st _ y0 hc20) (va_cwS 1 C.2.2.2.2.2.1 gX12_term_X12_within rfl rfl rfl (by decide +kernel) ⟨(Nat.le_trans (m := 4) (Nat.le_of_ble_eq_true rfl) (rmX12sumg_f _)), (Nat.le_trans (m := 91) (Nat.le_of_ble_eq_true rfl) (rmX12sumg_l _))⟩) rfl hl.1 rfl (Nat.le_of_ble_eq_true rfl) dX12_term_87 ⟨Nat.zero_le _, Nat.zero_le _⟩ (fun H locs hP hS => ?_)
  refine lv_istore_n (lv' := [(1, .int r18), (0, .ref (ad 0))]) C.1 C.2.1 dX12_term_90 rfl hl (by decide) rfl (fun ls hl => ?_)
  replace hl := lv_sub (l' := [(0, .ref (ad 0)), (1, .int r18)]) hl [1, 0] rfl
  refine lv_goto (tgt := 5) C.1 C.2.1 dX12_term_91 (by decide) ?_
  exact hk5 _ _ _ _ _ h hP hS hl
set_option maxHeartbeats 4000000 in
set_option maxRecDepth 100000 in
theorem wGX12_term_0_45 {p : Program} {l : Launch} {e : Env} {s : State} {m : MethodId} {args : Array Value} {below : List Frame} {meth : Method} {c : Code} {D : va_G} {cy : Nat → ClassId} {ad st : Nat → Nat} (C : Cx RX12 cX12_term 5 (some .int) wsX12_term p s m args meth c) (hK : Ky D [(cy 0, .int), (cy 1, .long), (cy 2, .boolean), (cy 3, .byte), (cy 4, .object "HissHorn$Text")] st s) (hJ : JM ad st) {rc : Nat → Int32 → SX → Option (Int32 × SX)} {dd : Nat} (hrc : hRX12sumg l D cy ad st rc dd) {r : Int32} {u' : SX} {k5 : Int32 → SX → Option (Int32 × SX)} (hk5 : ∀ (z1 : Int32) (u : SX) (H : Heap) (locs : List Loc) (ls : Array Slot), k5 z1 u = some (r, u') → va_P D vwCl (VM cy ad st u) H → va_S (Ax (AM ad) s.heap.size) s.heap H locs → lv_has ls 5 [(0, .ref (ad 0)), (1, .int z1)] → W p l e (rmX12sumg (dd + 1)) s m args below meth c H locs 0 0 (MQ below (Qi D (VM cy ad st) (AM ad) s.heap.size r u') args s 0 0 (Ax (AM ad) s.heap.size)) (F0 m 5 ls [])) (z1 : Int32) (y0 : Int32) (u : SX) (H : Heap) (locs : List Loc) (ls : Array Slot) (h : GX12_term_0_45 rc k5 z1 y0 u = some (r, u')) (hP : va_P D vwCl (VM cy ad st u) H) (hS : va_S (Ax (AM ad) s.heap.size) s.heap H locs) (hl : lv_has ls 5 [(0, .ref (ad 0)), (1, .int z1)]) : W p l e (rmX12sumg (dd + 1)) s m args below meth c H locs 0 0 (MQ below (Qi D (VM cy ad st) (AM ad) s.heap.size r u') args s 0 0 (Ax (AM ad) s.heap.size)) (F0 m 45 ls [.int y0]) := by
  unfold GX12_term_0_45 at h
  refine lv_istore_n (lv' := [(2, .int y0), (0, .ref (ad 0)), (1, .int z1)]) C.1 C.2.1 dX12_term_45 rfl hl (by decide) rfl (fun ls hl => ?_)
  replace hl := lv_sub (l' := [(0, .ref (ad 0)), (1, .int z1), (2, .int y0)]) hl [1, 2, 0] rfl
  refine lv_aload_n C.1 C.2.1 dX12_term_46 rfl (lv_at hl 0 rfl) ?_
  refine lv_dup C.1 C.2.1 dX12_term_47 rfl ?_
  refine gM_0_at C hX12_term_0_X12 hK hP mX12_term_0_2 dX12_term_48 ?_
  refine lv_iconst (v := 1) C.1 C.2.1 dX12_term_51 (by decide) ?_
  refine lv_iadd C.1 C.2.1 dX12_term_52 ?_
  refine pM_0_at C hX12_term_0_X12 hK hP hJ hS mX12_term_0_2 dX12_term_53 (fun H locs hP hS => ?_)
  obtain ⟨u10, hu11, h⟩ := lt_some h
  rw [← hu11] at hP
  refine lv_aload_n C.1 C.2.1 dX12_term_56 rfl (lv_at hl 0 rfl) ?_
  obtain ⟨⟨r12, u13⟩, hc14, h⟩ := bd_some h
  try dsimp only at h
  refine cg_i (As := []) (rest := []) (AM_ge hJ) C hK hP hS (hrc.2.2 _  _ _ _ hc14) (cwV 0 C.2.2.2.2.2.1 gX12_term_X12_atom rfl rfl rfl (by decide +kernel) ⟨rmX12sumg_sf dd, rmX12sumg_sl dd (k := 8 + (4 + 11)) (Nat.le_of_ble_eq_true rfl)⟩) 0 12 rfl rfl rfl hl.1 rfl (Nat.le_of_ble_eq_true rfl) dX12_term_57 ⟨Nat.zero_le _, Nat.zero_le _⟩ (fun H locs hP hS => ?_)
  refine lv_i2l (v := r12.toInt64) C.1 C.2.1 dX12_term_60 rfl ?_
  refine lv_topl (fun v15 hv16 => ?_)
  replace h := lt_e hv16 h
  try dsimp only at h
  refine lv_lstore_n (lv' := [(3, .long v15), (0, .ref (ad 0)), (1, .int z1), (2, .int y0)]) C.1 C.2.1 dX12_term_61 rfl hl (by decide) rfl (fun ls hl => ?_)
  replace hl := lv_sub (l' := [(0, .ref (ad 0)), (1, .int z1), (2, .int y0), (3, .long v15)]) hl [1, 2, 3, 0] rfl
  refine lv_iload_n C.1 C.2.1 dX12_term_62 rfl (lv_at hl 2 rfl) ?_
  refine lv_if_eq (tgt := 73) C.1 C.2.1 dX12_term_63 (by decide) (fun c63 => ?_) (fun c63 => ?_)
  · rw [if_pos c63] at h
    refine lv_lload_n C.1 C.2.1 dX12_term_73 rfl (lv_at hl 3 rfl) ?_
    refine lv_lconst (v := 0) C.1 C.2.1 dX12_term_74 (by decide) ?_
    refine W.lcmp C.1 C.2.1 dX12_term_75 ?_
    refine lv_if_ne (tgt := 83) C.1 C.2.1 dX12_term_76 (by decide) (fun c76 => ?_) (fun c76 => ?_)
    · rw [if_neg c76] at h
      refine lv_iload_n C.1 C.2.1 dX12_term_83 rfl (lv_at hl 1 rfl) ?_
      refine lv_i2l (v := z1.toInt64) C.1 C.2.1 dX12_term_84 rfl ?_
      refine lv_lload_n C.1 C.2.1 dX12_term_85 rfl (lv_at hl 3 rfl) ?_
      obtain ⟨hg17, h⟩ := gd_some h
      refine lv_ldiv C.1 C.2.1 dX12_term_86 (nzL_n hg17) ?_
      exact wGX12_term_0_87 C hK hJ hrc hk5 _ _ _ _ _ h hP hS (lv_sub hl [0] rfl)
    · rw [if_pos c76] at h
      refine lv_lconst (v := 0) C.1 C.2.1 dX12_term_79 (by decide) ?_
      refine lv_goto (tgt := 87) C.1 C.2.1 dX12_term_80 (by decide) ?_
      exact wGX12_term_0_87 C hK hJ hrc hk5 _ _ _ _ _ h hP hS (lv_sub hl [0] rfl)
  · rw [if_neg c63] at h
    refine lv_iload_n C.1 C.2.1 dX12_term_66 rfl (lv_at hl 1 rfl) ?_
    refine lv_i2l (v := z1.toInt64) C.1 C.2.1 dX12_term_67 rfl ?_
    refine lv_lload_n C.1 C.2.1 dX12_term_68 rfl (lv_at hl 3 rfl) ?_
    refine lv_lmul C.1 C.2.1 dX12_term_69 ?_
    refine lv_goto (tgt := 87) C.1 C.2.1 dX12_term_70 (by decide) ?_
    exact wGX12_term_0_87 C hK hJ hrc hk5 _ _ _ _ _ h hP hS (lv_sub hl [0] rfl)
set_option maxHeartbeats 4000000 in
set_option maxRecDepth 100000 in
theorem wGX12_term_0_31 {p : Program} {l : Launch} {e : Env} {s : State} {m : MethodId} {args : Array Value} {below : List Frame} {meth : Method} {c : Code} {D : va_G} {cy : Nat → ClassId} {ad st : Nat → Nat} (C : Cx RX12 cX12_term 5 (some .int) wsX12_term p s m args meth c) (hK : Ky D [(cy 0, .int), (cy 1, .long), (cy 2, .boolean), (cy 3, .byte), (cy 4, .object "HissHorn$Text")] st s) (hJ : JM ad st) {rc : Nat → Int32 → SX → Option (Int32 × SX)} {dd : Nat} (hrc : hRX12sumg l D cy ad st rc dd) {r : Int32} {u' : SX} {k5 : Int32 → SX → Option (Int32 × SX)} (hk5 : ∀ (z1 : Int32) (u : SX) (H : Heap) (locs : List Loc) (ls : Array Slot), k5 z1 u = some (r, u') → va_P D vwCl (VM cy ad st u) H → va_S (Ax (AM ad) s.heap.size) s.heap H locs → lv_has ls 5 [(0, .ref (ad 0)), (1, .int z1)] → W p l e (rmX12sumg (dd + 1)) s m args below meth c H locs 0 0 (MQ below (Qi D (VM cy ad st) (AM ad) s.heap.size r u') args s 0 0 (Ax (AM ad) s.heap.size)) (F0 m 5 ls [])) (z1 : Int32) (u : SX) (H : Heap) (locs : List Loc) (ls : Array Slot) (h : GX12_term_0_31 rc k5 z1 u = some (r, u')) (hP : va_P D vwCl (VM cy ad st u) H) (hS : va_S (Ax (AM ad) s.heap.size) s.heap H locs) (hl : lv_has ls 5 [(0, .ref (ad 0)), (1, .int z1)]) : W p l e (rmX12sumg (dd + 1)) s m args below meth c H locs 0 0 (MQ below (Qi D (VM cy ad st) (AM ad) s.heap.size r u') args s 0 0 (Ax (AM ad) s.heap.size)) (F0 m 31 ls []) := by
  unfold GX12_term_0_31 at h
  refine lv_aload_n C.1 C.2.1 dX12_term_31 rfl (lv_at hl 0 rfl) ?_
  obtain ⟨⟨r7, u8⟩, hc9, h⟩ := bd_some h
  try dsimp only at h
  refine cg_i (As := []) (rest := []) (AM_ge hJ) C hK hP hS (metX12_look_0 l D cy ad st hJ _  hc9) (cwV 0 C.2.2.2.2.2.1 gX12_term_X12_look rfl rfl rfl (by decide +kernel) ⟨(Nat.le_trans (m := 4) (Nat.le_of_ble_eq_true rfl) (rmX12sumg_f _)), (Nat.le_trans (m := 91) (Nat.le_of_ble_eq_true rfl) (rmX12sumg_l _))⟩) 0 12 rfl rfl rfl hl.1 rfl (Nat.le_of_ble_eq_true rfl) dX12_term_32 ⟨Nat.zero_le _, Nat.zero_le _⟩ (fun H locs hP hS => ?_)
  refine lv_bipush (v := 42) C.1 C.2.1 dX12_term_35 (by decide) ?_
  refine lv_icmp_ne (tgt := 44) C.1 C.2.1 dX12_term_37 (by decide) (fun c37 => ?_) (fun c37 => ?_)
  · rw [if_neg c37] at h
    refine lv_iconst (v := 0) C.1 C.2.1 dX12_term_44 (by decide) ?_
    exact wGX12_term_0_45 C hK hJ hrc hk5 _ _ _ _ _ _ h hP hS hl
  · rw [if_pos c37] at h
    refine lv_iconst (v := 1) C.1 C.2.1 dX12_term_40 (by decide) ?_
    refine lv_goto (tgt := 45) C.1 C.2.1 dX12_term_41 (by decide) ?_
    exact wGX12_term_0_45 C hK hJ hrc hk5 _ _ _ _ _ _ h hP hS hl
set_option maxHeartbeats 4000000 in
set_option maxRecDepth 100000 in
theorem wLX12_term_0_5 {p : Program} {l : Launch} {e : Env} {s : State} {m : MethodId} {args : Array Value} {below : List Frame} {meth : Method} {c : Code} {D : va_G} {cy : Nat → ClassId} {ad st : Nat → Nat} (C : Cx RX12 cX12_term 5 (some .int) wsX12_term p s m args meth c) (hK : Ky D [(cy 0, .int), (cy 1, .long), (cy 2, .boolean), (cy 3, .byte), (cy 4, .object "HissHorn$Text")] st s) (hJ : JM ad st) {rc : Nat → Int32 → SX → Option (Int32 × SX)} {dd : Nat} (hrc : hRX12sumg l D cy ad st rc dd) {r : Int32} {u' : SX}   : ∀ (n : Nat) (z1 : Int32) (u : SX) (H : Heap) (locs : List Loc) (ls : Array Slot), LX12_term_0_5 rc  n z1 u = some (r, u') → va_P D vwCl (VM cy ad st u) H → va_S (Ax (AM ad) s.heap.size) s.heap H locs → lv_has ls 5 [(0, .ref (ad 0)), (1, .int z1)] → W p l e (rmX12sumg (dd + 1)) s m args below meth c H locs 0 0 (MQ below (Qi D (VM cy ad st) (AM ad) s.heap.size r u') args s 0 0 (Ax (AM ad) s.heap.size)) (F0 m 5 ls []) := by
  intro n
  induction n with
  | zero =>
    intro z1 u H locs ls h
    exact absurd h (by intro q; cases q)
  | succ n ih =>
    intro z1 u H locs ls h hP hS hl
    rw [LX12_term_0_5] at h
    refine lv_aload_n C.1 C.2.1 dX12_term_5 rfl (lv_at hl 0 rfl) ?_
    refine gM_0_fault C hX12_term_0_X12 hK hP mX12_term_0_1 dX12_term_6 ?_
    refine lv_iconst (v := (-1)) C.1 C.2.1 dX12_term_9 (by decide) ?_
    refine lv_icmp_ne (tgt := 94) C.1 C.2.1 dX12_term_10 (by decide) (fun c10 => ?_) (fun c10 => ?_)
    · rw [if_neg c10] at h
      refine lv_iload_n C.1 C.2.1 dX12_term_94 rfl (lv_at hl 1 rfl) ?_
      cases h
      exact rt_i C hP hS dX12_term_95
    · rw [if_pos c10] at h
      refine lv_aload_n C.1 C.2.1 dX12_term_13 rfl (lv_at hl 0 rfl) ?_
      obtain ⟨⟨r4, u5⟩, hc6, h⟩ := bd_some h
      try dsimp only at h
      refine cg_i (As := []) (rest := []) (AM_ge hJ) C hK hP hS (metX12_look_0 l D cy ad st hJ _  hc6) (cwV 0 C.2.2.2.2.2.1 gX12_term_X12_look rfl rfl rfl (by decide +kernel) ⟨(Nat.le_trans (m := 4) (Nat.le_of_ble_eq_true rfl) (rmX12sumg_f _)), (Nat.le_trans (m := 91) (Nat.le_of_ble_eq_true rfl) (rmX12sumg_l _))⟩) 0 12 rfl rfl rfl hl.1 rfl (Nat.le_of_ble_eq_true rfl) dX12_term_14 ⟨Nat.zero_le _, Nat.zero_le _⟩ (fun H locs hP hS => ?_)
      refine lv_bipush (v := 42) C.1 C.2.1 dX12_term_17 (by decide) ?_
      refine lv_icmp_eq (tgt := 31) C.1 C.2.1 dX12_term_19 (by decide) (fun c19 => ?_) (fun c19 => ?_)
      · rw [if_pos c19] at h
        exact wGX12_term_0_31 C hK hJ hrc ih _ _ _ _ _ h hP hS hl
      · rw [if_neg c19] at h
        refine lv_aload_n C.1 C.2.1 dX12_term_22 rfl (lv_at hl 0 rfl) ?_
        obtain ⟨⟨r21, u22⟩, hc23, h⟩ := bd_some h
        try dsimp only at h
        refine cg_i (As := []) (rest := []) (AM_ge hJ) C hK hP hS (metX12_look_0 l D cy ad st hJ _  hc23) (cwV 0 C.2.2.2.2.2.1 gX12_term_X12_look rfl rfl rfl (by decide +kernel) ⟨(Nat.le_trans (m := 4) (Nat.le_of_ble_eq_true rfl) (rmX12sumg_f _)), (Nat.le_trans (m := 91) (Nat.le_of_ble_eq_true rfl) (rmX12sumg_l _))⟩) 0 12 rfl rfl rfl hl.1 rfl (Nat.le_of_ble_eq_true rfl) dX12_term_23 ⟨Nat.zero_le _, Nat.zero_le _⟩ (fun H locs hP hS => ?_)
        refine lv_bipush (v := 47) C.1 C.2.1 dX12_term_26 (by decide) ?_
        refine lv_icmp_ne (tgt := 94) C.1 C.2.1 dX12_term_28 (by decide) (fun c28 => ?_) (fun c28 => ?_)
        · rw [if_neg c28] at h
          refine lv_iload_n C.1 C.2.1 dX12_term_94 rfl (lv_at hl 1 rfl) ?_
          cases h
          exact rt_i C hP hS dX12_term_95
        · rw [if_pos c28] at h
          exact wGX12_term_0_31 C hK hJ hrc ih _ _ _ _ _ h hP hS hl
set_option maxHeartbeats 4000000 in
set_option maxRecDepth 100000 in
theorem wX12_term_0 {p : Program} {l : Launch} {e : Env} {s : State} {m : MethodId} {args : Array Value} {below : List Frame} {meth : Method} {c : Code} {D : va_G} {cy : Nat → ClassId} {ad st : Nat → Nat} (C : Cx RX12 cX12_term 5 (some .int) wsX12_term p s m args meth c) (hK : Ky D [(cy 0, .int), (cy 1, .long), (cy 2, .boolean), (cy 3, .byte), (cy 4, .object "HissHorn$Text")] st s) (hJ : JM ad st) {rc : Nat → Int32 → SX → Option (Int32 × SX)} {dd : Nat} (hrc : hRX12sumg l D cy ad st rc dd)  {u : SX} {r : Int32} {u' : SX} {H : Heap} {locs : List Loc} {ls : Array Slot} (h : fX12_term_0 rc  u = some (r, u')) (hP : va_P D vwCl (VM cy ad st u) H) (hS : va_S (Ax (AM ad) s.heap.size) s.heap H locs) (hl : lv_has ls 5 [(0, .ref (ad 0))]) : W p l e (rmX12sumg (dd + 1)) s m args below meth c H locs 0 0 (MQ below (Qi D (VM cy ad st) (AM ad) s.heap.size r u') args s 0 0 (Ax (AM ad) s.heap.size)) (F0 m 0 ls []) := by
  unfold fX12_term_0 at h
  refine lv_aload_n C.1 C.2.1 dX12_term_0 rfl (lv_at hl 0 rfl) ?_
  obtain ⟨⟨r1, u2⟩, hc3, h⟩ := bd_some h
  try dsimp only at h
  refine cg_i (As := []) (rest := []) (AM_ge hJ) C hK hP hS (hrc.2.2 _  _ _ _ hc3) (cwV 0 C.2.2.2.2.2.1 gX12_term_X12_atom rfl rfl rfl (by decide +kernel) ⟨rmX12sumg_sf dd, rmX12sumg_sl dd (k := 8 + (4 + 11)) (Nat.le_of_ble_eq_true rfl)⟩) 0 12 rfl rfl rfl hl.1 rfl (Nat.le_of_ble_eq_true rfl) dX12_term_1 ⟨Nat.zero_le _, Nat.zero_le _⟩ (fun H locs hP hS => ?_)
  refine lv_istore_n (lv' := [(1, .int r1), (0, .ref (ad 0))]) C.1 C.2.1 dX12_term_4 rfl hl (by decide) rfl (fun ls hl => ?_)
  replace hl := lv_sub (l' := [(0, .ref (ad 0)), (1, .int r1)]) hl [1, 0] rfl
  exact wLX12_term_0_5 C hK hJ hrc  5000 _ _ _ _ _ h hP hS hl
theorem metX12_term_0 (l : Launch) (D : va_G) (cy : Nat → ClassId) (ad st : Nat → Nat) (hJ : JM ad st) {rc : Nat → Int32 → SX → Option (Int32 × SX)} {dd : Nat} (hrc : hRX12sumg l D cy ad st rc dd) (sz : Nat)  {u : SX} {r : Int32} {u' : SX} (h : fX12_term_0 rc  u = some (r, u')) : Met l yX12_term wsX12_term (rmX12sumg (dd + 1)) (va_Pc [.ref (ad 0)] (Px D [(cy 0, .int), (cy 1, .long), (cy 2, .boolean), (cy 3, .byte), (cy 4, .object "HissHorn$Text")] st (VM cy ad st) sz u)) (Qi D (VM cy ad st) (AM ad) sz r u') 0 0 (Ax (AM ad) sz) := by
  refine Met.ofW (cc := cX12_term) (maxL := 5) (ret := (some .int)) (by decide) rfl ?_
  intro p e s m args below meth c s₁ B hml hv
  obtain ⟨rfl, hsz, hP, hK⟩ := hv
  subst hsz
  have C : Cx RX12 cX12_term 5 (some .int) wsX12_term p s m _ meth c := ⟨B.exec, B.bytes, hml, B.returns, findClass_of_methodNamed B.named, atoms_spec (ws := wsX12_term) B.pre, B.notSynchronized⟩
  have hl := lv_entry ([.ref (ad 0)]) (n := 5) (Nat.le_of_ble_eq_true rfl)
  rw [lg_entry_eq]
  exact wX12_term_0 C hK hJ hrc h hP va_S.rf hl

theorem dX12_atom_97 : decode cX12_atom 97 = .ok (.aload_n 0, 1) := by decide +kernel
set_option maxRecDepth 20000 in
theorem ggX12_atom_X12_isDigit : GoodIn wsX12_atom wsX12_isDigit := goodIn_r _ [121, 2, 13, 6, 7, 141, 142, 143, 144, 145, 146, 147, 148, 149, 150, 151, 152, 153, 154, 155, 156, 157, 158, 159, 160, 161, 162, 163, 164, 165, 166, 167, 168, 169, 170, 171, 172, 173, 174, 175, 176, 177, 178, 179, 180, 181, 182, 183, 184, 185, 186, 187, 188, 189, 190, 191, 192, 193, 194, 195, 196, 197, 198, 199, 200, 201, 202, 203, 204, 205, 206, 207, 208, 209] rfl (by decide +kernel)
set_option maxRecDepth 20000 in
theorem gX12_atom_X12_isDigit : GoodIn wsX12_atom (wsV RX12 224 RX12 yX12_isDigit wsX12_isDigit) := goodIn_app (goodIn_of _ (by decide +kernel)) ggX12_atom_X12_isDigit
theorem dX12_atom_98 : decode cX12_atom 98 = .ok (.invokevirtual 224, 3) := by decide +kernel
theorem dX12_atom_101 : decode cX12_atom 101 = .ok (.ifCond .eq 62, 3) := by decide +kernel
theorem dX12_atom_163 : decode cX12_atom 163 = .ok (.iload_n 2, 1) := by decide +kernel
theorem dX12_atom_164 : decode cX12_atom 164 = .ok (.ireturn, 1) := by decide +kernel
theorem dX12_atom_104 : decode cX12_atom 104 = .ok (.aload_n 0, 1) := by decide +kernel
theorem dX12_atom_105 : decode cX12_atom 105 = .ok (.getfield 182, 3) := by decide +kernel
theorem dX12_atom_108 : decode cX12_atom 108 = .ok (.iconst (-1), 1) := by decide +kernel
theorem dX12_atom_109 : decode cX12_atom 109 = .ok (.if_icmp .ne 54, 3) := by decide +kernel
theorem dX12_atom_112 : decode cX12_atom 112 = .ok (.iload_n 3, 1) := by decide +kernel
theorem dX12_atom_113 : decode cX12_atom 113 = .ok (.iconst 4, 1) := by decide +kernel
theorem dX12_atom_114 : decode cX12_atom 114 = .ok (.if_icmp .ne 10, 3) := by decide +kernel
theorem dX12_atom_124 : decode cX12_atom 124 = .ok (.bipush 10, 2) := by decide +kernel
theorem dX12_atom_126 : decode cX12_atom 126 = .ok (.iload_n 2, 1) := by decide +kernel
theorem dX12_atom_127 : decode cX12_atom 127 = .ok (.imul, 1) := by decide +kernel
theorem dX12_atom_128 : decode cX12_atom 128 = .ok (.aload_n 0, 1) := by decide +kernel
theorem dX12_atom_129 : decode cX12_atom 129 = .ok (.getfield 26, 3) := by decide +kernel
theorem dX12_atom_132 : decode cX12_atom 132 = .ok (.aload_n 0, 1) := by decide +kernel
theorem dX12_atom_133 : decode cX12_atom 133 = .ok (.getfield 179, 3) := by decide +kernel
theorem dX12_atom_136 : decode cX12_atom 136 = .ok (.aload_n 0, 1) := by decide +kernel
theorem dX12_atom_137 : decode cX12_atom 137 = .ok (.getfield 173, 3) := by decide +kernel
theorem dX12_atom_140 : decode cX12_atom 140 = .ok (.iadd, 1) := by decide +kernel
theorem dX12_atom_141 : decode cX12_atom 141 = .ok (.baload, 1) := by decide +kernel
theorem dX12_atom_142 : decode cX12_atom 142 = .ok (.iadd, 1) := by decide +kernel
theorem dX12_atom_143 : decode cX12_atom 143 = .ok (.bipush 48, 2) := by decide +kernel
theorem dX12_atom_145 : decode cX12_atom 145 = .ok (.isub, 1) := by decide +kernel
theorem dX12_atom_146 : decode cX12_atom 146 = .ok (.istore_n 2, 1) := by decide +kernel
theorem dX12_atom_147 : decode cX12_atom 147 = .ok (.aload_n 0, 1) := by decide +kernel
theorem dX12_atom_148 : decode cX12_atom 148 = .ok (.dup, 1) := by decide +kernel
theorem dX12_atom_149 : decode cX12_atom 149 = .ok (.getfield 173, 3) := by decide +kernel
theorem dX12_atom_152 : decode cX12_atom 152 = .ok (.iconst 1, 1) := by decide +kernel
theorem dX12_atom_153 : decode cX12_atom 153 = .ok (.iadd, 1) := by decide +kernel
theorem dX12_atom_154 : decode cX12_atom 154 = .ok (.putfield 173, 3) := by decide +kernel
theorem dX12_atom_157 : decode cX12_atom 157 = .ok (.iinc 3 1, 3) := by decide +kernel
theorem dX12_atom_160 : decode cX12_atom 160 = .ok (.goto (-63), 3) := by decide +kernel
theorem dX12_atom_117 : decode cX12_atom 117 = .ok (.aload_n 0, 1) := by decide +kernel
set_option maxRecDepth 20000 in
theorem ggX12_atom_X12_fails : GoodIn wsX12_atom wsX12_fails := goodIn_r _ [110, 5, 2, 141, 142, 143, 144, 145, 146, 147, 148, 149, 150, 151, 152, 153, 154, 155, 156, 157, 158, 159, 160, 161, 162, 163, 164, 165, 166, 167, 168, 169, 170, 171, 172, 173, 174, 175, 176, 177, 178, 179, 180, 181, 182, 183, 184, 185, 186, 187, 188, 189, 190, 191, 192, 193, 194, 195, 196, 197, 198, 199, 200, 201, 202, 203, 204, 205, 206, 207, 208, 209] rfl (by decide +kernel)
set_option maxRecDepth 20000 in
theorem gX12_atom_X12_fails : GoodIn wsX12_atom (wsV RX12 188 RX12 yX12_fails wsX12_fails) := goodIn_app (goodIn_of _ (by decide +kernel)) ggX12_atom_X12_fails
theorem dX12_atom_118 : decode cX12_atom 118 = .ok (.invokevirtual 188, 3) := by decide +kernel
theorem dX12_atom_121 : decode cX12_atom 121 = .ok (.pop, 1) := by decide +kernel
theorem dX12_atom_122 : decode cX12_atom 122 = .ok (.iconst 0, 1) := by decide +kernel
theorem dX12_atom_123 : decode cX12_atom 123 = .ok (.ireturn, 1) := by decide +kernel
theorem dX12_atom_93 : decode cX12_atom 93 = .ok (.iconst 0, 1) := by decide +kernel
theorem dX12_atom_94 : decode cX12_atom 94 = .ok (.istore_n 2, 1) := by decide +kernel
theorem dX12_atom_95 : decode cX12_atom 95 = .ok (.iconst 0, 1) := by decide +kernel
theorem dX12_atom_96 : decode cX12_atom 96 = .ok (.istore_n 3, 1) := by decide +kernel
theorem dX12_atom_38 : decode cX12_atom 38 = .ok (.iload_n 1, 1) := by decide +kernel
theorem dX12_atom_39 : decode cX12_atom 39 = .ok (.bipush 91, 2) := by decide +kernel
theorem dX12_atom_41 : decode cX12_atom 41 = .ok (.if_icmp .ne 40, 3) := by decide +kernel
theorem dX12_atom_81 : decode cX12_atom 81 = .ok (.aload_n 0, 1) := by decide +kernel
theorem dX12_atom_82 : decode cX12_atom 82 = .ok (.invokevirtual 224, 3) := by decide +kernel
theorem dX12_atom_85 : decode cX12_atom 85 = .ok (.ifCond .ne 8, 3) := by decide +kernel
theorem dX12_atom_88 : decode cX12_atom 88 = .ok (.aload_n 0, 1) := by decide +kernel
theorem dX12_atom_89 : decode cX12_atom 89 = .ok (.invokevirtual 188, 3) := by decide +kernel
theorem dX12_atom_92 : decode cX12_atom 92 = .ok (.pop, 1) := by decide +kernel
theorem dX12_atom_44 : decode cX12_atom 44 = .ok (.aload_n 0, 1) := by decide +kernel
set_option maxRecDepth 20000 in
theorem ggX12_atom_X12_goesIn : GoodIn wsX12_atom wsX12_goesIn := goodIn_r _ [106, 4, 2, 107, 108, 109, 11, 110, 5, 141, 142, 143, 144, 145, 146, 147, 148, 149, 150, 151, 152, 153, 154, 155, 156, 157, 158, 159, 160, 161, 162, 163, 164, 165, 166, 167, 168, 169, 170, 171, 172, 173, 174, 175, 176, 177, 178, 179, 180, 181, 182, 183, 184, 185, 186, 187, 188, 189, 190, 191, 192, 193, 194, 195, 196, 197, 198, 199, 200, 201, 202, 203, 204, 205, 206, 207, 208, 209] rfl (by decide +kernel)
set_option maxRecDepth 20000 in
theorem gX12_atom_X12_goesIn : GoodIn wsX12_atom (wsV RX12 214 RX12 yX12_goesIn wsX12_goesIn) := goodIn_app (goodIn_of _ (by decide +kernel)) ggX12_atom_X12_goesIn
theorem dX12_atom_45 : decode cX12_atom 45 = .ok (.invokevirtual 214, 3) := by decide +kernel
theorem dX12_atom_48 : decode cX12_atom 48 = .ok (.ifCond .ne 5, 3) := by decide +kernel
theorem dX12_atom_53 : decode cX12_atom 53 = .ok (.aload_n 0, 1) := by decide +kernel
set_option maxRecDepth 20000 in
theorem ggX12_atom_X12_sum : GoodIn wsX12_atom wsX12_sum := goodIn_r _ [122, 5, 2, 123, 124, 125, 11, 8, 9, 10, 12, 13, 6, 7, 126, 127, 128, 129, 130, 131, 132, 44, 133, 134, 135, 136, 0, 1, 3, 4, 14, 15, 16, 17, 18, 19, 20, 21, 22, 23, 24, 25, 26, 27, 28, 29, 30, 31, 32, 33, 34, 35, 36, 37, 38, 39, 40, 41, 42, 43, 45, 46, 47, 48, 49, 50, 51, 52, 53, 54, 55, 56, 57, 58, 59, 60, 61, 62, 63, 64, 65, 66, 67, 68, 69, 70, 71, 72, 73, 74, 75, 76, 77, 78, 79, 80, 81, 82, 83, 84, 85, 86, 87, 88, 89, 90, 91, 92, 93, 94, 95, 96, 97, 98, 99, 100, 101, 102, 103, 104, 105, 106, 107, 108, 109, 110, 111, 112, 113, 114, 115, 116, 117, 118, 119, 120, 121, 137, 138, 139, 140, 141, 142, 143, 144, 145, 146, 147, 148, 149, 150, 151, 152, 153, 154, 155, 156, 157, 158, 159, 160, 161, 162, 163, 164, 165, 166, 167, 168, 169, 170, 171, 172, 173, 174, 175, 176, 177, 178, 179, 180, 181, 182, 183, 184, 185, 186, 187, 188, 189, 190, 191, 192, 193, 194, 195, 196, 197, 198, 199, 200, 201, 202, 203, 204, 205, 206, 207, 208, 209] rfl (by decide +kernel)
set_option maxRecDepth 20000 in
theorem gX12_atom_X12_sum : GoodIn wsX12_atom (wsV RX12 217 RX12 yX12_sum wsX12_sum) := goodIn_app (goodIn_of _ (by decide +kernel)) ggX12_atom_X12_sum
theorem dX12_atom_54 : decode cX12_atom 54 = .ok (.invokevirtual 217, 3) := by decide +kernel
theorem dX12_atom_57 : decode cX12_atom 57 = .ok (.istore_n 2, 1) := by decide +kernel
theorem dX12_atom_58 : decode cX12_atom 58 = .ok (.aload_n 0, 1) := by decide +kernel
theorem dX12_atom_59 : decode cX12_atom 59 = .ok (.bipush 93, 2) := by decide +kernel
set_option maxRecDepth 20000 in
theorem ggX12_atom_X12_takes : GoodIn wsX12_atom wsX12_takes := goodIn_r _ [117, 5, 2, 8, 9, 10, 11, 12, 13, 6, 7, 107, 108, 109, 110, 141, 142, 143, 144, 145, 146, 147, 148, 149, 150, 151, 152, 153, 154, 155, 156, 157, 158, 159, 160, 161, 162, 163, 164, 165, 166, 167, 168, 169, 170, 171, 172, 173, 174, 175, 176, 177, 178, 179, 180, 181, 182, 183, 184, 185, 186, 187, 188, 189, 190, 191, 192, 193, 194, 195, 196, 197, 198, 199, 200, 201, 202, 203, 204, 205, 206, 207, 208, 209] rfl (by decide +kernel)
set_option maxRecDepth 20000 in
theorem gX12_atom_X12_takes : GoodIn wsX12_atom (wsV RX12 220 RX12 yX12_takes wsX12_takes) := goodIn_app (goodIn_of _ (by decide +kernel)) ggX12_atom_X12_takes
theorem dX12_atom_61 : decode cX12_atom 61 = .ok (.invokevirtual 220, 3) := by decide +kernel
theorem dX12_atom_64 : decode cX12_atom 64 = .ok (.ifCond .ne 5, 3) := by decide +kernel
theorem dX12_atom_69 : decode cX12_atom 69 = .ok (.aload_n 0, 1) := by decide +kernel
theorem dX12_atom_70 : decode cX12_atom 70 = .ok (.dup, 1) := by decide +kernel
theorem dX12_atom_71 : decode cX12_atom 71 = .ok (.getfield 185, 3) := by decide +kernel
theorem dX12_atom_74 : decode cX12_atom 74 = .ok (.iconst 1, 1) := by decide +kernel
theorem dX12_atom_75 : decode cX12_atom 75 = .ok (.isub, 1) := by decide +kernel
theorem dX12_atom_76 : decode cX12_atom 76 = .ok (.putfield 185, 3) := by decide +kernel
theorem dX12_atom_79 : decode cX12_atom 79 = .ok (.iload_n 2, 1) := by decide +kernel
theorem dX12_atom_80 : decode cX12_atom 80 = .ok (.ireturn, 1) := by decide +kernel
theorem dX12_atom_67 : decode cX12_atom 67 = .ok (.iconst 0, 1) := by decide +kernel
theorem dX12_atom_68 : decode cX12_atom 68 = .ok (.ireturn, 1) := by decide +kernel
theorem dX12_atom_51 : decode cX12_atom 51 = .ok (.iconst 0, 1) := by decide +kernel
theorem dX12_atom_52 : decode cX12_atom 52 = .ok (.ireturn, 1) := by decide +kernel
theorem dX12_atom_0 : decode cX12_atom 0 = .ok (.aload_n 0, 1) := by decide +kernel
set_option maxRecDepth 20000 in
theorem ggX12_atom_X12_look : GoodIn wsX12_atom wsX12_look := goodIn_r _ [12, 2, 13, 6, 7, 141, 142, 143, 144, 145, 146, 147, 148, 149, 150, 151, 152, 153, 154, 155, 156, 157, 158, 159, 160, 161, 162, 163, 164, 165, 166, 167, 168, 169, 170, 171, 172, 173, 174, 175, 176, 177, 178, 179, 180, 181, 182, 183, 184, 185, 186, 187, 188, 189, 190, 191, 192, 193, 194, 195, 196, 197, 198, 199, 200, 201, 202, 203, 204, 205, 206, 207, 208, 209] rfl (by decide +kernel)
set_option maxRecDepth 20000 in
theorem gX12_atom_X12_look : GoodIn wsX12_atom (wsV RX12 192 RX12 yX12_look wsX12_look) := goodIn_app (goodIn_of _ (by decide +kernel)) ggX12_atom_X12_look
theorem dX12_atom_1 : decode cX12_atom 1 = .ok (.invokevirtual 192, 3) := by decide +kernel
theorem dX12_atom_4 : decode cX12_atom 4 = .ok (.istore_n 1, 1) := by decide +kernel
theorem dX12_atom_5 : decode cX12_atom 5 = .ok (.iload_n 1, 1) := by decide +kernel
theorem dX12_atom_6 : decode cX12_atom 6 = .ok (.iconst (-1), 1) := by decide +kernel
theorem dX12_atom_7 : decode cX12_atom 7 = .ok (.if_icmp .eq 31, 3) := by decide +kernel
theorem dX12_atom_10 : decode cX12_atom 10 = .ok (.aload_n 0, 1) := by decide +kernel
theorem dX12_atom_11 : decode cX12_atom 11 = .ok (.getfield 31, 3) := by decide +kernel
theorem dX12_atom_14 : decode cX12_atom 14 = .ok (.iload_n 1, 1) := by decide +kernel
set_option maxRecDepth 20000 in
theorem ggX12_atom_J0_indexOf_0f7a4 : GoodIn wsX12_atom wsJ0_indexOf_0f7a4 := goodIn_r _ [18, 19, 20, 21, 17, 22, 23, 24, 25, 26, 27, 28, 29, 30, 31, 32, 33, 34, 35, 36, 37, 38, 39, 40, 41, 42, 43, 44, 45, 46, 47, 48, 49, 50, 51, 52, 53, 54, 55, 56, 57, 58, 59, 60, 61, 62, 63, 64, 65, 66, 67, 68, 69, 70, 71, 72, 73, 74, 75, 76, 77, 78, 79, 80, 81, 82, 83, 84, 85, 86, 87, 88, 89, 90, 91, 92, 93, 94, 95, 96, 97, 98, 99, 100, 101, 102] rfl (by decide +kernel)
set_option maxRecDepth 20000 in
theorem gX12_atom_J0_indexOf_0f7a4 : GoodIn wsX12_atom (wsV RX12 209 RJ0 yJ0_indexOf_0f7a4 wsJ0_indexOf_0f7a4) := goodIn_app (goodIn_of _ (by decide +kernel)) ggX12_atom_J0_indexOf_0f7a4
theorem dX12_atom_15 : decode cX12_atom 15 = .ok (.invokevirtual 209, 3) := by decide +kernel
theorem dX12_atom_18 : decode cX12_atom 18 = .ok (.ifCond .lt 20, 3) := by decide +kernel
theorem dX12_atom_21 : decode cX12_atom 21 = .ok (.aload_n 0, 1) := by decide +kernel
theorem dX12_atom_22 : decode cX12_atom 22 = .ok (.dup, 1) := by decide +kernel
theorem dX12_atom_23 : decode cX12_atom 23 = .ok (.getfield 173, 3) := by decide +kernel
theorem dX12_atom_26 : decode cX12_atom 26 = .ok (.iconst 1, 1) := by decide +kernel
theorem dX12_atom_27 : decode cX12_atom 27 = .ok (.iadd, 1) := by decide +kernel
theorem dX12_atom_28 : decode cX12_atom 28 = .ok (.putfield 173, 3) := by decide +kernel
theorem dX12_atom_31 : decode cX12_atom 31 = .ok (.aload_n 0, 1) := by decide +kernel
theorem dX12_atom_32 : decode cX12_atom 32 = .ok (.getfield 23, 3) := by decide +kernel
theorem dX12_atom_35 : decode cX12_atom 35 = .ok (.iload_n 1, 1) := by decide +kernel
theorem dX12_atom_36 : decode cX12_atom 36 = .ok (.iaload, 1) := by decide +kernel
theorem dX12_atom_37 : decode cX12_atom 37 = .ok (.ireturn, 1) := by decide +kernel
/-- HissHornModel.atom()I of cell 0 -/
theorem hX12_atom_0_X12 : ∀ w ∈ u_ws RX12 TX12 69, w ∈ wsX12_atom := fun w h => (List.mem_cons_of_mem _ (List.mem_append_right _ h))
