def rmWK : Room := { frames := 6, cells := 1, slots := 6, locals := 87 }
theorem hX11_worthK_X11 : ∀ w ∈ u_ws RX11 TX11 13, w ∈ wsX11_worth := fun w h => (List.mem_cons_of_mem _ (List.mem_append_left _ (List.mem_append_left _ (List.mem_append_left _ (List.mem_append_right _ h)))))
theorem mX11_worthK_1 : Cond.fieldLink RX11 32 "HissHorn" "laws" "LHissHorn$Shelf;" ∈ wsX11_worth := (List.mem_cons_of_mem _ (List.mem_append_left _ (List.mem_append_left _ (List.mem_append_left _ (List.mem_append_left _ (List.mem_append_left _ (List.mem_of_getElem? (i := 2) rfl)))))))
def fX11_worthK (kX : SX → Option (Int32 × SX)) (x1 x2 x3 x4 x5 x6 x7 : Int32) (u : SX) : Option (Int32 × SX) := ((fX8_has_3 x1 u).bind fun q => match q with | (r1, u2) => (if r1 = 0 then (kX u2) else ((fX11_isAim x2 x3 x4 x6 x7).bind fun r4 => (if r4 = 0 then (kX u2) else ((fX11_within x5 0 3).bind fun r7 => (if r7 = 0 then (kX u2) else ((fX8_setAim_3 x2 x3 x4 x5 x6 x7 u2).bind fun q => match q with | (r10, u11) => ((fX8_ask_3 x1 u11).bind fun q => match q with | (r13, u14) => (some (r13, u14))))))))))
set_option maxHeartbeats 4000000 in
set_option maxRecDepth 100000 in
theorem wX11_worthK {p : Program} {l : Launch} {e : Env} {s : State} {m : MethodId} {args : Array Value} {below : List Frame} {meth : Method} {c : Code} {Q : State → Prop} {D : va_G} {cy : Nat → ClassId} {ad st : Nat → Nat} (C : Cx RX11 cX11_worth 8 (some .int) wsX11_worth p s m args meth c) (hK : Ky D [(cy 0, .int), (cy 1, .long), (cy 2, .boolean), (cy 3, .byte), (cy 4, .object "HissHorn$Text")] st s) (hJ : JX ad st) {kX : SX → Option (Int32 × SX)} (x1 x2 x3 x4 x5 x6 x7 : Int32) {u : SX} {r : Int32} {u' : SX}
    (hkR : ∀ (v : Int32) (w : SX) (H : Heap) (locs : List Loc) (ls : Array Slot), (some (v, w) : Option (Int32 × SX)) = some (r, u') → va_P D vwCl (VX cy ad st w) H → va_S (Ax (AX ad) s.heap.size) s.heap H locs → W p l e rmWK s m args below meth c H locs 0 0 Q (F0 m 68 ls [.int v]))
    (hkX : ∀ (w : SX) (H : Heap) (locs : List Loc) (ls : Array Slot), kX w = some (r, u') → va_P D vwCl (VX cy ad st w) H → va_S (Ax (AX ad) s.heap.size) s.heap H locs → lv_has ls 8 [(0, .ref (ad 0)), (1, .int x1), (2, .int x2), (3, .int x3), (4, .int x4), (5, .int x5), (6, .int x6), (7, .int x7)] → W p l e rmWK s m args below meth c H locs 0 0 Q (F0 m 35 ls []))
    {H : Heap} {locs : List Loc} {ls : Array Slot} (h : fX11_worthK kX x1 x2 x3 x4 x5 x6 x7 u = some (r, u')) (hP : va_P D vwCl (VX cy ad st u) H) (hS : va_S (Ax (AX ad) s.heap.size) s.heap H locs) (hl : lv_has ls 8 [(0, .ref (ad 0)), (1, .int x1), (2, .int x2), (3, .int x3), (4, .int x4), (5, .int x5), (6, .int x6), (7, .int x7)]) : W p l e rmWK s m args below meth c H locs 0 0 Q (F0 m 0 ls []) := by
  unfold fX11_worthK at h
  refine lv_aload_n C.1 C.2.1 dX11_worth_0 rfl (lv_at hl 0 rfl) ?_
  refine gX_0_laws C hX11_worthK_X11 hK hP mX11_worthK_1 dX11_worth_1 ?_
  refine lv_iload_n C.1 C.2.1 dX11_worth_4 rfl (lv_at hl 1 rfl) ?_
  obtain ⟨⟨r1, u2⟩, hc3, h⟩ := bd_some h
  try dsimp only at h
  refine cg_i (As := [.int x1]) (rest := []) (AX_ge hJ) C hK hP hS (metX8_has_3 l D cy ad st hJ _ x1 hc3) (cwV 1 C.2.2.2.2.2.1 gX11_worth_X8_has rfl rfl rfl (by decide +kernel) ⟨(Nat.le_of_ble_eq_true rfl), (Nat.le_of_ble_eq_true rfl)⟩) 3 8 rfl rfl rfl hl.1 rfl (Nat.le_of_ble_eq_true rfl) dX11_worth_5 ⟨Nat.zero_le _, Nat.zero_le _⟩ (fun H locs hP hS => ?_)
  refine lv_if_eq (tgt := 35) C.1 C.2.1 dX11_worth_8 (by decide) (fun c8 => ?_) (fun c8 => ?_)
  · rw [if_pos c8] at h
    exact hkX _ _ _ ls h hP hS hl
  · rw [if_neg c8] at h
    refine lv_iload_n C.1 C.2.1 dX11_worth_11 rfl (lv_at hl 2 rfl) ?_
    refine lv_iload_n C.1 C.2.1 dX11_worth_12 rfl (lv_at hl 3 rfl) ?_
    refine lv_iload C.1 C.2.1 dX11_worth_13 (lv_at hl 4 rfl) ?_
    refine lv_iload C.1 C.2.1 dX11_worth_15 (lv_at hl 6 rfl) ?_
    refine lv_iload C.1 C.2.1 dX11_worth_17 (lv_at hl 7 rfl) ?_
    obtain ⟨r4, hc6, h⟩ := bd_some h
    refine cs_i (As := [.int x2, .int x3, .int x4, .int x6, .int x7]) (rest := []) (AX_ge hJ) C hK hP hS (metX11_isAim l D cy st _ x2 x3 x4 x6 x7 hc6) (va_cwS 5 C.2.2.2.2.2.1 gX11_worth_X11_isAim rfl rfl rfl (by decide +kernel) ⟨(Nat.le_of_ble_eq_true rfl), (Nat.le_of_ble_eq_true rfl)⟩) rfl hl.1 rfl (Nat.le_of_ble_eq_true rfl) dX11_worth_19 ⟨Nat.zero_le _, Nat.zero_le _⟩ (fun H locs hP hS => ?_)
    refine lv_if_eq (tgt := 35) C.1 C.2.1 dX11_worth_22 (by decide) (fun c22 => ?_) (fun c22 => ?_)
    · rw [if_pos c22] at h
      exact hkX _ _ _ ls h hP hS hl
    · rw [if_neg c22] at h
      refine lv_iload C.1 C.2.1 dX11_worth_25 (lv_at hl 5 rfl) ?_
      refine lv_iconst (v := 0) C.1 C.2.1 dX11_worth_27 (by decide) ?_
      refine lv_iconst (v := 3) C.1 C.2.1 dX11_worth_28 (by decide) ?_
      obtain ⟨r7, hc9, h⟩ := bd_some h
      refine cs_i (As := [.int x5, .int 0, .int 3]) (rest := []) (AX_ge hJ) C hK hP hS (metX11_within l D cy st _ x5 0 3 hc9) (va_cwS 3 C.2.2.2.2.2.1 gX11_worth_X11_within rfl rfl rfl (by decide +kernel) ⟨(Nat.le_of_ble_eq_true rfl), (Nat.le_of_ble_eq_true rfl)⟩) rfl hl.1 rfl (Nat.le_of_ble_eq_true rfl) dX11_worth_29 ⟨Nat.zero_le _, Nat.zero_le _⟩ (fun H locs hP hS => ?_)
      refine lv_if_ne (tgt := 43) C.1 C.2.1 dX11_worth_32 (by decide) (fun c32 => ?_) (fun c32 => ?_)
      · rw [if_neg c32] at h
        refine lv_aload_n C.1 C.2.1 dX11_worth_43 rfl (lv_at hl 0 rfl) ?_
        refine gX_0_laws C hX11_worthK_X11 hK hP mX11_worthK_1 dX11_worth_44 ?_
        refine lv_iload_n C.1 C.2.1 dX11_worth_47 rfl (lv_at hl 2 rfl) ?_
        refine lv_iload_n C.1 C.2.1 dX11_worth_48 rfl (lv_at hl 3 rfl) ?_
        refine lv_iload C.1 C.2.1 dX11_worth_49 (lv_at hl 4 rfl) ?_
        refine lv_iload C.1 C.2.1 dX11_worth_51 (lv_at hl 5 rfl) ?_
        refine lv_iload C.1 C.2.1 dX11_worth_53 (lv_at hl 6 rfl) ?_
        refine lv_iload C.1 C.2.1 dX11_worth_55 (lv_at hl 7 rfl) ?_
        obtain ⟨⟨r10, u11⟩, hc12, h⟩ := bd_some h
        try dsimp only at h
        refine cg_v (As := [.int x2, .int x3, .int x4, .int x5, .int x6, .int x7]) (rest := []) (AX_ge hJ) C hK hP hS (metX8_setAim_3 l D cy ad st hJ _ x2 x3 x4 x5 x6 x7 hc12) (cwV 6 C.2.2.2.2.2.1 gX11_worth_X8_setAim rfl rfl rfl (by decide +kernel) ⟨(Nat.le_of_ble_eq_true rfl), (Nat.le_of_ble_eq_true rfl)⟩) 3 8 rfl rfl rfl hl.1 rfl (Nat.le_of_ble_eq_true rfl) dX11_worth_57 ⟨Nat.zero_le _, Nat.zero_le _⟩ (fun H locs hP hS => ?_)
        refine lv_aload_n C.1 C.2.1 dX11_worth_60 rfl (lv_at hl 0 rfl) ?_
        refine gX_0_laws C hX11_worthK_X11 hK hP mX11_worthK_1 dX11_worth_61 ?_
        refine lv_iload_n C.1 C.2.1 dX11_worth_64 rfl (lv_at hl 1 rfl) ?_
        obtain ⟨⟨r13, u14⟩, hc15, h⟩ := bd_some h
        try dsimp only at h
        refine cg_i (As := [.int x1]) (rest := []) (AX_ge hJ) C hK hP hS (metX8_ask_3 l D cy ad st hJ _ x1 hc15) (cwV 1 C.2.2.2.2.2.1 gX11_worth_X8_ask rfl rfl rfl (by decide +kernel) ⟨(Nat.le_of_ble_eq_true rfl), (Nat.le_of_ble_eq_true rfl)⟩) 3 8 rfl rfl rfl hl.1 rfl (Nat.le_of_ble_eq_true rfl) dX11_worth_65 ⟨Nat.zero_le _, Nat.zero_le _⟩ (fun H locs hP hS => ?_)
        exact hkR _ _ _ _ ls h hP hS
      · rw [if_pos c32] at h
        exact hkX _ _ _ ls h hP hS hl
