def rmTX : Room := { frames := 71, cells := 2, slots := 122, locals := 4257 }
theorem hX11_textK_X11 : ∀ w ∈ u_ws RX11 TX11 13, w ∈ wsX11_text := fun w h => (List.mem_cons_of_mem _ (List.mem_append_left _ (List.mem_append_left _ (List.mem_append_left _ (List.mem_append_left _ (List.mem_append_right _ h))))))
theorem mX11_textK_1 : Cond.fieldLink RX11 21 "HissHorn" "parser" "LHissHorn$Parser;" ∈ wsX11_text := (List.mem_cons_of_mem _ (List.mem_append_left _ (List.mem_append_left _ (List.mem_append_left _ (List.mem_append_left _ (List.mem_append_left _ (List.mem_append_left _ (List.mem_of_getElem? (i := 0) rfl))))))))
theorem hX11_textK_X8 : ∀ w ∈ u_ws RX8 TX8 5, w ∈ wsX11_text := fun w h => (List.mem_cons_of_mem _ (List.mem_append_left _ (List.mem_append_left _ (List.mem_append_left _ (List.mem_append_right _ h)))))
theorem mX11_textK_3 : Cond.fieldLink RX11 126 "HissHorn$Shelf" "letters" "Ljava/lang/String;" ∈ wsX11_text := (List.mem_cons_of_mem _ (List.mem_append_left _ (List.mem_append_left _ (List.mem_append_left _ (List.mem_append_left _ (List.mem_append_left _ (List.mem_append_left _ (List.mem_of_getElem? (i := 1) rfl))))))))
theorem mX11_textK_4 : Cond.fieldLink RX11 10 "HissHorn" "tape" "LHissHorn$Tape;" ∈ wsX11_text := (List.mem_cons_of_mem _ (List.mem_append_left _ (List.mem_append_left _ (List.mem_append_left _ (List.mem_append_left _ (List.mem_append_left _ (List.mem_append_left _ (List.mem_of_getElem? (i := 2) rfl))))))))
theorem hX11_textK_X9 : ∀ w ∈ u_ws RX9 TX9 2, w ∈ wsX11_text := fun w h => (List.mem_cons_of_mem _ (List.mem_append_left _ (List.mem_append_left _ (List.mem_append_right _ h))))
theorem mX11_textK_6 : Cond.fieldLink RX11 115 "HissHorn$Tape" "length" "I" ∈ wsX11_text := (List.mem_cons_of_mem _ (List.mem_append_left _ (List.mem_append_left _ (List.mem_append_left _ (List.mem_append_left _ (List.mem_append_left _ (List.mem_append_left _ (List.mem_of_getElem? (i := 3) rfl))))))))
def fX11_textK (kT : Nat → SX → Option (Int32 × SX)) (x1 : Int32) (u : SX) : Option (Int32 × SX) := ((fX11_shelfOf_0 x1 u).bind fun q => match q with | (r1, u2) => (if r1 = 0 then (some ((-1), u2)) else (if r1 = 4 then ((fX8_isFull_3  u2).bind fun q => match q with | (r4, u5) => (if r4 = 0 then ((fX5_faultBy_2_as0  u5).bind fun q => match q with | (r7, u8) => (if r7 = (-1) then (lt (sI u8 1 0) fun u10 => (kT 3 u10)) else (some ((-1), u8)))) else (some ((-1), u5)))) else (if r1 = 5 then ((fX8_isFull_4  u2).bind fun q => match q with | (r12, u13) => (if r12 = 0 then ((fX5_faultBy_2_as1  u13).bind fun q => match q with | (r15, u16) => (if r15 = (-1) then (lt (sI u16 1 0) fun u18 => (kT 4 u18)) else (some ((-1), u16)))) else (some ((-1), u13)))) else (if r1 = 6 then ((fX8_isFull_5  u2).bind fun q => match q with | (r20, u21) => (if r20 = 0 then ((fX5_faultBy_2_as2  u21).bind fun q => match q with | (r23, u24) => (if r23 = (-1) then (lt (sI u24 1 0) fun u26 => (kT 5 u26)) else (some ((-1), u24)))) else (some ((-1), u21)))) else none)))))
set_option maxHeartbeats 4000000 in
set_option maxRecDepth 100000 in
theorem wX11_textK {p : Program} {l : Launch} {e : Env} {s : State} {m : MethodId} {args : Array Value} {below : List Frame} {meth : Method} {c : Code} {Q : State → Prop} {D : va_G} {cy : Nat → ClassId} {ad st : Nat → Nat} (C : Cx RX11 cX11_text 3 (some .int) wsX11_text p s m args meth c) (hK : Ky D [(cy 0, .int), (cy 1, .long), (cy 2, .boolean), (cy 3, .byte), (cy 4, .object "HissHorn$Text")] st s) (hJ : JX ad st) {kT : Nat → SX → Option (Int32 × SX)} (x1 : Int32) {u : SX} {r : Int32} {u' : SX}
    (hkR : ∀ (w : SX) (H : Heap) (locs : List Loc) (ls : Array Slot), (some ((-1), w) : Option (Int32 × SX)) = some (r, u') → va_P D vwCl (VX cy ad st w) H → va_S (Ax (AX ad) s.heap.size) s.heap H locs → W p l e rmTX s m args below meth c H locs 0 0 Q (F0 m 33 ls [.int (-1)]))
    (hkT : ∀ (k : Nat), (k = 3 ∨ k = 4 ∨ k = 5) → ∀ (w : SX) (H : Heap) (locs : List Loc) (ls : Array Slot), kT k w = some (r, u') → va_P D vwCl (VX cy ad st w) H → va_S (Ax (AX ad) s.heap.size) s.heap H locs → lv_has ls 3 [(0, .ref (ad 0)), (1, .int x1), (2, .ref (ad k))] → W p l e rmTX s m args below meth c H locs 0 0 Q (F0 m 47 ls [.ref (ad 2), .ref (ad k)]))
    {H : Heap} {locs : List Loc} {ls : Array Slot} (h : fX11_textK kT x1 u = some (r, u')) (hP : va_P D vwCl (VX cy ad st u) H) (hS : va_S (Ax (AX ad) s.heap.size) s.heap H locs) (hl : lv_has ls 3 [(0, .ref (ad 0)), (1, .int x1)]) : W p l e rmTX s m args below meth c H locs 0 0 Q (F0 m 0 ls []) := by
  unfold fX11_textK at h
  refine lv_aload_n C.1 C.2.1 dX11_text_0 rfl (lv_at hl 0 rfl) ?_
  refine lv_iload_n C.1 C.2.1 dX11_text_1 rfl (lv_at hl 1 rfl) ?_
  obtain ⟨⟨r1, u2⟩, hc3, h⟩ := bd_some h
  try dsimp only at h
  refine cg_q (As := [.int x1]) (rest := []) (AX_ge hJ) C hK hP hS (metX11_shelfOf_0 l D cy ad st hJ _ x1 hc3) (cwV 1 C.2.2.2.2.2.1 gX11_text_X11_shelfOf rfl rfl rfl (by decide +kernel) ⟨(Nat.le_of_ble_eq_true rfl), (Nat.le_of_ble_eq_true rfl)⟩) 0 11 rfl rfl rfl hl.1 rfl (Nat.le_of_ble_eq_true rfl) dX11_text_2 ⟨Nat.zero_le _, Nat.zero_le _⟩ (fun H locs hP hS => ?_)
  by_cases c2_0 : r1 = 0
  · rw [if_pos c2_0] at h
    subst c2_0
    refine W.eq (g2 := F0 m 5 ls [.null]) rfl ?_
    refine lv_astore_nN (lv' := [(2, .null), (0, .ref (ad 0)), (1, .int x1)]) C.1 C.2.1 dX11_text_5 rfl hl (by decide) rfl (fun ls hl => ?_)
    replace hl := lv_sub (l' := [(0, .ref (ad 0)), (1, .int x1), (2, .null)]) hl [1, 2, 0] rfl
    refine lv_aload_nN C.1 C.2.1 dX11_text_6 rfl (lv_at hl 2 rfl) ?_
    refine lv_ifnullN (tgt := 32) C.1 C.2.1 dX11_text_7 (by decide) ?_
    refine lv_iconst (v := (-1)) C.1 C.2.1 dX11_text_32 (by decide) ?_
    exact hkR _ _ _ ls h hP hS
  · rw [if_neg c2_0] at h
    by_cases c2_4 : r1 = 4
    · rw [if_pos c2_4] at h
      subst c2_4
      refine W.eq (g2 := F0 m 5 ls [.ref (ad 3)]) rfl ?_
      refine lv_astore_n (lv' := [(2, .ref (ad 3)), (0, .ref (ad 0)), (1, .int x1)]) C.1 C.2.1 dX11_text_5 rfl hl (by decide) rfl (fun ls hl => ?_)
      replace hl := lv_sub (l' := [(0, .ref (ad 0)), (1, .int x1), (2, .ref (ad 3))]) hl [1, 2, 0] rfl
      refine lv_aload_n C.1 C.2.1 dX11_text_6 rfl (lv_at hl 2 rfl) ?_
      refine lv_ifnull C.1 C.2.1 dX11_text_7 ?_
      refine lv_aload_n C.1 C.2.1 dX11_text_10 rfl (lv_at hl 2 rfl) ?_
      obtain ⟨⟨r4, u5⟩, hc6, h⟩ := bd_some h
      try dsimp only at h
      refine cg_i (As := []) (rest := []) (AX_ge hJ) C hK hP hS (metX8_isFull_3 l D cy ad st hJ _  hc6) (cwV 0 C.2.2.2.2.2.1 gX11_text_X8_isFull rfl rfl rfl (by decide +kernel) ⟨(Nat.le_of_ble_eq_true rfl), (Nat.le_of_ble_eq_true rfl)⟩) 3 8 rfl rfl rfl hl.1 rfl (Nat.le_of_ble_eq_true rfl) dX11_text_11 ⟨Nat.zero_le _, Nat.zero_le _⟩ (fun H locs hP hS => ?_)
      refine lv_if_ne (tgt := 32) C.1 C.2.1 dX11_text_14 (by decide) (fun c14 => ?_) (fun c14 => ?_)
      · rw [if_neg c14] at h
        refine lv_iconst (v := (-1)) C.1 C.2.1 dX11_text_32 (by decide) ?_
        exact hkR _ _ _ ls h hP hS
      · rw [if_pos c14] at h
        refine lv_aload_n C.1 C.2.1 dX11_text_17 rfl (lv_at hl 0 rfl) ?_
        refine gX_0_parser C hX11_textK_X11 hK hP mX11_textK_1 dX11_text_18 ?_
        refine lv_aload_n C.1 C.2.1 dX11_text_21 rfl (lv_at hl 2 rfl) ?_
        refine gX_3_letters C hX11_textK_X8 hK hP mX11_textK_3 dX11_text_22 ?_
        obtain ⟨⟨r7, u8⟩, hc9, h⟩ := bd_some h
        try dsimp only at h
        refine cg_i (As := [.ref (st 0)]) (rest := []) (AX_ge hJ) C hK hP hS (metX5_faultBy_2_as0 l D cy ad st hJ _  hc9) (cwV 1 C.2.2.2.2.2.1 gX11_text_X5_faultBy rfl rfl rfl (by decide +kernel) ⟨(Nat.le_of_ble_eq_true rfl), (Nat.le_of_ble_eq_true rfl)⟩) 2 5 rfl rfl rfl hl.1 rfl (Nat.le_of_ble_eq_true rfl) dX11_text_25 ⟨Nat.zero_le _, Nat.zero_le _⟩ (fun H locs hP hS => ?_)
        refine lv_iconst (v := (-1)) C.1 C.2.1 dX11_text_28 (by decide) ?_
        refine lv_icmp_eq (tgt := 34) C.1 C.2.1 dX11_text_29 (by decide) (fun c29 => ?_) (fun c29 => ?_)
        · rw [if_pos c29] at h
          refine lv_aload_n C.1 C.2.1 dX11_text_34 rfl (lv_at hl 0 rfl) ?_
          refine gX_0_tape C hX11_textK_X11 hK hP mX11_textK_4 dX11_text_35 ?_
          refine lv_iconst (v := 0) C.1 C.2.1 dX11_text_38 (by decide) ?_
          refine pX_1_length C hX11_textK_X9 hK hP hJ hS mX11_textK_6 dX11_text_39 (fun H locs hP hS => ?_)
          obtain ⟨u10, hu11, h⟩ := lt_some h
          rw [← hu11] at hP
          refine lv_aload_n C.1 C.2.1 dX11_text_42 rfl (lv_at hl 2 rfl) ?_
          refine lv_aload_n C.1 C.2.1 dX11_text_43 rfl (lv_at hl 0 rfl) ?_
          refine gX_0_parser C hX11_textK_X11 hK hP mX11_textK_1 dX11_text_44 ?_
          exact hkT 3 (Or.inl rfl) _ _ _ ls h hP hS hl
        · rw [if_neg c29] at h
          refine lv_iconst (v := (-1)) C.1 C.2.1 dX11_text_32 (by decide) ?_
          exact hkR _ _ _ ls h hP hS
    · rw [if_neg c2_4] at h
      by_cases c2_5 : r1 = 5
      · rw [if_pos c2_5] at h
        subst c2_5
        refine W.eq (g2 := F0 m 5 ls [.ref (ad 4)]) rfl ?_
        refine lv_astore_n (lv' := [(2, .ref (ad 4)), (0, .ref (ad 0)), (1, .int x1)]) C.1 C.2.1 dX11_text_5 rfl hl (by decide) rfl (fun ls hl => ?_)
        replace hl := lv_sub (l' := [(0, .ref (ad 0)), (1, .int x1), (2, .ref (ad 4))]) hl [1, 2, 0] rfl
        refine lv_aload_n C.1 C.2.1 dX11_text_6 rfl (lv_at hl 2 rfl) ?_
        refine lv_ifnull C.1 C.2.1 dX11_text_7 ?_
        refine lv_aload_n C.1 C.2.1 dX11_text_10 rfl (lv_at hl 2 rfl) ?_
        obtain ⟨⟨r12, u13⟩, hc14, h⟩ := bd_some h
        try dsimp only at h
        refine cg_i (As := []) (rest := []) (AX_ge hJ) C hK hP hS (metX8_isFull_4 l D cy ad st hJ _  hc14) (cwV 0 C.2.2.2.2.2.1 gX11_text_X8_isFull rfl rfl rfl (by decide +kernel) ⟨(Nat.le_of_ble_eq_true rfl), (Nat.le_of_ble_eq_true rfl)⟩) 4 8 rfl rfl rfl hl.1 rfl (Nat.le_of_ble_eq_true rfl) dX11_text_11 ⟨Nat.zero_le _, Nat.zero_le _⟩ (fun H locs hP hS => ?_)
        refine lv_if_ne (tgt := 32) C.1 C.2.1 dX11_text_14 (by decide) (fun c14 => ?_) (fun c14 => ?_)
        · rw [if_neg c14] at h
          refine lv_iconst (v := (-1)) C.1 C.2.1 dX11_text_32 (by decide) ?_
          exact hkR _ _ _ ls h hP hS
        · rw [if_pos c14] at h
          refine lv_aload_n C.1 C.2.1 dX11_text_17 rfl (lv_at hl 0 rfl) ?_
          refine gX_0_parser C hX11_textK_X11 hK hP mX11_textK_1 dX11_text_18 ?_
          refine lv_aload_n C.1 C.2.1 dX11_text_21 rfl (lv_at hl 2 rfl) ?_
          refine gX_4_letters C hX11_textK_X8 hK hP mX11_textK_3 dX11_text_22 ?_
          obtain ⟨⟨r15, u16⟩, hc17, h⟩ := bd_some h
          try dsimp only at h
          refine cg_i (As := [.ref (st 1)]) (rest := []) (AX_ge hJ) C hK hP hS (metX5_faultBy_2_as1 l D cy ad st hJ _  hc17) (cwV 1 C.2.2.2.2.2.1 gX11_text_X5_faultBy rfl rfl rfl (by decide +kernel) ⟨(Nat.le_of_ble_eq_true rfl), (Nat.le_of_ble_eq_true rfl)⟩) 2 5 rfl rfl rfl hl.1 rfl (Nat.le_of_ble_eq_true rfl) dX11_text_25 ⟨Nat.zero_le _, Nat.zero_le _⟩ (fun H locs hP hS => ?_)
          refine lv_iconst (v := (-1)) C.1 C.2.1 dX11_text_28 (by decide) ?_
          refine lv_icmp_eq (tgt := 34) C.1 C.2.1 dX11_text_29 (by decide) (fun c29 => ?_) (fun c29 => ?_)
          · rw [if_pos c29] at h
            refine lv_aload_n C.1 C.2.1 dX11_text_34 rfl (lv_at hl 0 rfl) ?_
            refine gX_0_tape C hX11_textK_X11 hK hP mX11_textK_4 dX11_text_35 ?_
            refine lv_iconst (v := 0) C.1 C.2.1 dX11_text_38 (by decide) ?_
            refine pX_1_length C hX11_textK_X9 hK hP hJ hS mX11_textK_6 dX11_text_39 (fun H locs hP hS => ?_)
            obtain ⟨u18, hu19, h⟩ := lt_some h
            rw [← hu19] at hP
            refine lv_aload_n C.1 C.2.1 dX11_text_42 rfl (lv_at hl 2 rfl) ?_
            refine lv_aload_n C.1 C.2.1 dX11_text_43 rfl (lv_at hl 0 rfl) ?_
            refine gX_0_parser C hX11_textK_X11 hK hP mX11_textK_1 dX11_text_44 ?_
            exact hkT 4 (Or.inr (Or.inl rfl)) _ _ _ ls h hP hS hl
          · rw [if_neg c29] at h
            refine lv_iconst (v := (-1)) C.1 C.2.1 dX11_text_32 (by decide) ?_
            exact hkR _ _ _ ls h hP hS
      · rw [if_neg c2_5] at h
        by_cases c2_6 : r1 = 6
        · rw [if_pos c2_6] at h
          subst c2_6
          refine W.eq (g2 := F0 m 5 ls [.ref (ad 5)]) rfl ?_
          refine lv_astore_n (lv' := [(2, .ref (ad 5)), (0, .ref (ad 0)), (1, .int x1)]) C.1 C.2.1 dX11_text_5 rfl hl (by decide) rfl (fun ls hl => ?_)
          replace hl := lv_sub (l' := [(0, .ref (ad 0)), (1, .int x1), (2, .ref (ad 5))]) hl [1, 2, 0] rfl
          refine lv_aload_n C.1 C.2.1 dX11_text_6 rfl (lv_at hl 2 rfl) ?_
          refine lv_ifnull C.1 C.2.1 dX11_text_7 ?_
          refine lv_aload_n C.1 C.2.1 dX11_text_10 rfl (lv_at hl 2 rfl) ?_
          obtain ⟨⟨r20, u21⟩, hc22, h⟩ := bd_some h
          try dsimp only at h
          refine cg_i (As := []) (rest := []) (AX_ge hJ) C hK hP hS (metX8_isFull_5 l D cy ad st hJ _  hc22) (cwV 0 C.2.2.2.2.2.1 gX11_text_X8_isFull rfl rfl rfl (by decide +kernel) ⟨(Nat.le_of_ble_eq_true rfl), (Nat.le_of_ble_eq_true rfl)⟩) 5 8 rfl rfl rfl hl.1 rfl (Nat.le_of_ble_eq_true rfl) dX11_text_11 ⟨Nat.zero_le _, Nat.zero_le _⟩ (fun H locs hP hS => ?_)
          refine lv_if_ne (tgt := 32) C.1 C.2.1 dX11_text_14 (by decide) (fun c14 => ?_) (fun c14 => ?_)
          · rw [if_neg c14] at h
            refine lv_iconst (v := (-1)) C.1 C.2.1 dX11_text_32 (by decide) ?_
            exact hkR _ _ _ ls h hP hS
          · rw [if_pos c14] at h
            refine lv_aload_n C.1 C.2.1 dX11_text_17 rfl (lv_at hl 0 rfl) ?_
            refine gX_0_parser C hX11_textK_X11 hK hP mX11_textK_1 dX11_text_18 ?_
            refine lv_aload_n C.1 C.2.1 dX11_text_21 rfl (lv_at hl 2 rfl) ?_
            refine gX_5_letters C hX11_textK_X8 hK hP mX11_textK_3 dX11_text_22 ?_
            obtain ⟨⟨r23, u24⟩, hc25, h⟩ := bd_some h
            try dsimp only at h
            refine cg_i (As := [.ref (st 2)]) (rest := []) (AX_ge hJ) C hK hP hS (metX5_faultBy_2_as2 l D cy ad st hJ _  hc25) (cwV 1 C.2.2.2.2.2.1 gX11_text_X5_faultBy rfl rfl rfl (by decide +kernel) ⟨(Nat.le_of_ble_eq_true rfl), (Nat.le_of_ble_eq_true rfl)⟩) 2 5 rfl rfl rfl hl.1 rfl (Nat.le_of_ble_eq_true rfl) dX11_text_25 ⟨Nat.zero_le _, Nat.zero_le _⟩ (fun H locs hP hS => ?_)
            refine lv_iconst (v := (-1)) C.1 C.2.1 dX11_text_28 (by decide) ?_
            refine lv_icmp_eq (tgt := 34) C.1 C.2.1 dX11_text_29 (by decide) (fun c29 => ?_) (fun c29 => ?_)
            · rw [if_pos c29] at h
              refine lv_aload_n C.1 C.2.1 dX11_text_34 rfl (lv_at hl 0 rfl) ?_
              refine gX_0_tape C hX11_textK_X11 hK hP mX11_textK_4 dX11_text_35 ?_
              refine lv_iconst (v := 0) C.1 C.2.1 dX11_text_38 (by decide) ?_
              refine pX_1_length C hX11_textK_X9 hK hP hJ hS mX11_textK_6 dX11_text_39 (fun H locs hP hS => ?_)
              obtain ⟨u26, hu27, h⟩ := lt_some h
              rw [← hu27] at hP
              refine lv_aload_n C.1 C.2.1 dX11_text_42 rfl (lv_at hl 2 rfl) ?_
              refine lv_aload_n C.1 C.2.1 dX11_text_43 rfl (lv_at hl 0 rfl) ?_
              refine gX_0_parser C hX11_textK_X11 hK hP mX11_textK_1 dX11_text_44 ?_
              exact hkT 5 (Or.inr (Or.inr rfl)) _ _ _ ls h hP hS hl
            · rw [if_neg c29] at h
              refine lv_iconst (v := (-1)) C.1 C.2.1 dX11_text_32 (by decide) ?_
              exact hkR _ _ _ ls h hP hS
        · rw [if_neg c2_6] at h
          exact absurd h (by intro q; cases q)
