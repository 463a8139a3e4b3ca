set_option maxRecDepth 20000 in
theorem ggX11_text_X8_add : GoodIn wsX11_text wsX8_add := goodIn_r _ [193, 19, 18, 194, 14, 15, 16, 17, 208, 209, 210, 211, 212] rfl (by decide +kernel)
set_option maxRecDepth 20000 in
theorem gX11_text_X8_add : GoodIn wsX11_text (wsV RX11 142 RX8 yX8_add wsX8_add) := goodIn_app (goodIn_of _ (by decide +kernel)) ggX11_text_X8_add
theorem zdX11_text_50 : (and (zk cX11_text 50 (.invokevirtual 142) 3) (zk cX11_text 53 (.ireturn) 1)) = true := by decide +kernel
theorem dX11_text_50 : decode cX11_text 50 = .ok (.invokevirtual 142, 3) := zk_of (zk_l zdX11_text_50)
theorem dX11_text_53 : decode cX11_text 53 = .ok (.ireturn, 1) := zk_of (zk_r zdX11_text_50)
/-! HissHorn.text -/
set_option maxHeartbeats 4000000 in
set_option maxRecDepth 100000 in
theorem met_textR (l : Launch) (D : va_G) (cy : Nat → ClassId) (ad st : Nat → Nat) (hJ : JX ad st) (sz : Nat) (x1 : Int32) {u u' : SX} {r : Int32} (h : fX11_textK (fun _ _ => none) x1 u = some (r, u')) : Met l yX11_text wsX11_text rmTX (va_Pc [.ref (ad 0), .int x1] (fun U => Px D [(cy 0, .int), (cy 1, .long), (cy 2, .boolean), (cy 3, .byte), (cy 4, .object "HissHorn$Text")] st (VX cy ad st) sz u U ∧ CLn U)) (Qi D (VX cy ad st) (AX ad) sz r u') 2 122 (Ax (AX ad) sz) := by
  refine Met.ofW (cc := cX11_text) (maxL := 3) (ret := some .int) (by decide) rfl ?_
  intro p e s m args below meth c s₁ B hml hv
  obtain ⟨rfl, ⟨hsz, hP, hK⟩, hCL⟩ := hv
  subst hsz
  have C : Cx RX11 cX11_text 3 (some .int) wsX11_text p s m _ meth c := ⟨B.exec, B.bytes, hml, B.returns, findClass_of_methodNamed B.named, atoms_spec (ws := wsX11_text) B.pre, B.notSynchronized⟩
  have hl := lv_entry ([.ref (ad 0), .int x1]) (n := 3) (Nat.le_of_ble_eq_true rfl)
  rw [lg_entry_eq]
  generalize (lg_sl ([.ref (ad 0), .int x1]) ++ List.replicate (3 - (lg_sl ([.ref (ad 0), .int x1])).length) Slot.unset).toArray = ls at hl ⊢
  have hl : lv_has ls 3 [(0, .ref (ad 0)), (1, .int x1)] := hl
  refine wX11_textK C hK hJ x1 (fun w H locs ls hh hP hS => ?_) (fun k hk w H locs ls hh => absurd hh (by intro q; cases q)) h hP va_S.rf hl
  cases hh
  refine W.widen (k := 2) (n := 122) (Nat.zero_le _) (Nat.zero_le _) ?_
  exact W.iret C.1 C.2.1 C.2.2.2.1 (fun t ht _ => ⟨⟨-1, (), rfl, rfl, by show va_P D vwCl (VX cy ad st u') t.heap; rw [ht]; exact hP⟩, hS.F ht⟩) hS.2.2 dX11_text_33 C.2.2.2.2.2.2
set_option maxHeartbeats 4000000 in
set_option maxRecDepth 100000 in
theorem met_textS_3 (l : Launch) (D : va_G) (cy : Nat → ClassId) (ad st : Nat → Nat) (hJ : JX ad st) (sz : Nat) (x1 : Int32) {u w : SX} {r : Int32} {ua : (Nat → Int32) → SX} (h : fX11_textK (fun k w => if k = 3 then some (7, w) else none) x1 u = some (7, w)) (hT : TXok w.2.2.2.2) (h0 : 0 ≤ (w.1 2).toInt) (h1 : (w.1 2).toInt ≤ 121) (hadd : ∀ g, fX8_add_3_aT (tN w) (uNew w (w.1 2).toNatClampNeg g) = some (r, ua g)) : Met l yX11_text wsX11_text rmTX (va_Pc [.ref (ad 0), .int x1] (fun U => Px D [(cy 0, .int), (cy 1, .long), (cy 2, .boolean), (cy 3, .byte), (cy 4, .object "HissHorn$Text")] st (VX cy ad st) sz u U ∧ CLn U)) (va_Qi (fun r' (q : (Nat → Nat) × (Nat → Int32)) => r' = r ∧ JX q.1 st ∧ (∀ k, k < 73 + 2 * tN w → q.1 k = ad k) ∧ (∀ k, 73 + 2 * tN w ≤ k → sz ≤ q.1 k) ∧ ∀ i, q.2 i = w.2.1 14 i ∨ q.2 i = 0) (fun q t => va_P D vwCl (VX cy q.1 st (ua q.2)) t.heap) (Ax (AX ad) sz)) 2 122 (Ax (AX ad) sz) := by
  refine Met.ofW (cc := cX11_text) (maxL := 3) (ret := some .int) (by decide) rfl ?_
  intro p e s m args below meth c s₁ B hml hv
  obtain ⟨rfl, ⟨hsz, hP, hK⟩, hCL⟩ := hv
  subst hsz
  have C : Cx RX11 cX11_text 3 (some .int) wsX11_text p s m _ meth c := ⟨B.exec, B.bytes, hml, B.returns, findClass_of_methodNamed B.named, atoms_spec (ws := wsX11_text) B.pre, B.notSynchronized⟩
  have hl := lv_entry ([.ref (ad 0), .int x1]) (n := 3) (Nat.le_of_ble_eq_true rfl)
  rw [lg_entry_eq]
  generalize (lg_sl ([.ref (ad 0), .int x1]) ++ List.replicate (3 - (lg_sl ([.ref (ad 0), .int x1])).length) Slot.unset).toArray = ls at hl ⊢
  have hl : lv_has ls 3 [(0, .ref (ad 0)), (1, .int x1)] := hl
  refine wX11_textK C hK hJ x1 (fun w' H locs ls hh hP hS => absurd (show ((-1) : Int32) = 7 from congrArg Prod.fst (Option.some.inj hh)) (by decide)) (fun k hk w' H locs ls hh hP hS hl => ?_) h hP va_S.rf hl
  by_cases hk3 : k = 3
  · subst hk3
    rw [if_pos rfl] at hh
    cases hh
    have hfA : ∀ q, Ax (AXn ad (tN w)) H.size q → Ax (AX ad) s.heap.size q := fun q z => z.elim (fun ⟨k, _, e⟩ => Or.inl ⟨k, e⟩) (fun v => Or.inr (Nat.le_trans hS.1 v))
    refine va_callr (va_runV (As := []) (rest := [.ref (ad 3)]) ⟨C.1, C.2.1, C.2.2.1, C.2.2.2.2.1, C.2.2.2.2.2.1⟩ (met_compiled l D cy ad st hJ H.size w h0 h1) (cwV 0 C.2.2.2.2.2.1 gX11_text_X5_compiled rfl rfl rfl (by decide +kernel) ⟨Nat.le_of_ble_eq_true rfl, Nat.le_of_ble_eq_true rfl⟩) ⟨fun a U g mk q => by obtain ⟨b0, b1, b2⟩ := q; exact ⟨b0, (Px_blind (As := [.ref (ad 2)]) a U g mk ⟨b0, b1⟩).2, va_Nw.same rfl rfl b2⟩, va_recv hK.1 hP (ci := 5) (q0 := 2) rfl rfl, fun U hU hW => ⟨rfl, ⟨by rw [hU], by rw [hU]; exact hP, Ky_mv (AX_ge hJ) hS hU hW hK⟩, va_Nw.warmC hW hCL⟩⟩ rfl rfl hl.1 rfl (lv_room (Nat.le_of_ble_eq_true rfl)) dX11_text_47 ⟨Nat.le_of_ble_eq_true rfl, Nat.le_of_ble_eq_true rfl⟩) hS (fun q _ z => hfA q z) hfA (fun g q1 t H1 locs1 ht hvm hpost hB hz1 hk1 hS1 => ?_)
    obtain ⟨q2, hq1, hq2, hne, hP1⟩ := hB
    rw [ht] at hP1
    have l1 : q1 < H1.size := (P_r hP1 0 _ rfl).lt
    have l2 : q2 < H1.size := (P_r hP1 1 _ rfl).lt
    have hJ1 : JX (adNew ad (tN w) q1 q2 H1.size) st := adNew_J hJ hP (Nat.le_refl _) hq1 hq2 hne l1 l2 (Nat.le_trans hK.2.2.2.1 hS.1)
    rw [← VX_new hT] at hP1
    have hge : ∀ k, 73 + 2 * tN w ≤ k → s.heap.size ≤ adNew ad (tN w) q1 q2 H1.size k := fun k hk => by
      show _ ≤ (if k < 73 + 2 * tN w then ad k else if k = 73 + 2 * tN w then q1 else if k = 73 + 2 * tN w + 1 then q2 else H1.size + k)
      have := hS.1
      have := hS1.1
      rw [if_neg (by omega)]
      split
      · omega
      · split
        · omega
        · omega
    have hfB : ∀ q, Ax (AX (adNew ad (tN w) q1 q2 H1.size)) H1.size q → Ax (AX ad) s.heap.size q := fun q z => z.elim (fun ⟨k, e⟩ => by
      by_cases a : k < 73 + 2 * tN w
      · exact Or.inl ⟨k, by rw [e, adNew_lt a]⟩
      · exact Or.inr (by rw [e]; exact hge k (Nat.le_of_not_lt a))) (fun v => Or.inr (Nat.le_trans hS1.1 v))
    refine W.eq (g2 := F0 m 50 ls [.ref (adNew ad (tN w) q1 q2 H1.size (tA (tN w))), .ref (adNew ad (tN w) q1 q2 H1.size 3)]) (by rw [adNew_A, adNew_lt (j := 3) (by omega)]) ?_
    refine va_calli (va_runV (As := [.ref (adNew ad (tN w) q1 q2 H1.size (tA (tN w)))]) (rest := []) ⟨C.1, C.2.1, C.2.2.1, C.2.2.2.2.1, C.2.2.2.2.2.1⟩ (metX8_add_3_aT l D cy (adNew ad (tN w) q1 q2 H1.size) st hJ1 H1.size (tN w) (hadd g)) (cwV 1 C.2.2.2.2.2.1 gX11_text_X8_add rfl rfl rfl (by decide +kernel) ⟨Nat.le_of_ble_eq_true rfl, Nat.le_of_ble_eq_true rfl⟩) ⟨Px_blind, va_recv hK.1 hP1 (ci := 8) (q0 := 3) rfl rfl, fun U hU hW => ⟨rfl, by rw [hU], by rw [hU]; exact hP1, Ky_mv (AX_ge hJ) hS1 hU hW hK⟩⟩ rfl rfl hl.1 rfl (lv_room (Nat.le_of_ble_eq_true rfl)) dX11_text_50 ⟨Nat.le_of_ble_eq_true rfl, Nat.le_of_ble_eq_true rfl⟩) hS1 (fun q _ z => hfB q z) hfB (fun r1 v9 t9 H2 locs2 ht9 hvm9 hr9 hB9 hz9 hk9 hS9 => ?_)
    cases hr9
    have hB9 : va_P D vwCl (VX cy (adNew ad (tN w) q1 q2 H1.size) st (ua g)) t9.heap := hB9
    rw [ht9] at hB9
    refine W.cs (cells' := 2) (slots' := 122) rfl rfl ?_
    exact W.iret C.1 C.2.1 C.2.2.2.1 (fun t0 ht0 _ => ⟨⟨r, (adNew ad (tN w) q1 q2 H1.size, g), rfl, ⟨rfl, hJ1, fun k hk => adNew_lt hk, hge, hpost⟩, by show va_P D vwCl (VX cy (adNew ad (tN w) q1 q2 H1.size) st (ua g)) t0.heap; rw [ht0]; exact hB9⟩, hS9.F ht0⟩) hS9.2.2 dX11_text_53 C.2.2.2.2.2.2
  · rw [if_neg hk3] at hh
    exact absurd hh (by intro q; cases q)
set_option maxHeartbeats 4000000 in
set_option maxRecDepth 100000 in
theorem met_textS_4 (l : Launch) (D : va_G) (cy : Nat → ClassId) (ad st : Nat → Nat) (hJ : JX ad st) (sz : Nat) (x1 : Int32) {u w : SX} {r : Int32} {ua : (Nat → Int32) → SX} (h : fX11_textK (fun k w => if k = 4 then some (7, w) else none) x1 u = some (7, w)) (hT : TXok w.2.2.2.2) (h0 : 0 ≤ (w.1 2).toInt) (h1 : (w.1 2).toInt ≤ 121) (hadd : ∀ g, fX8_add_4_aT (tN w) (uNew w (w.1 2).toNatClampNeg g) = some (r, ua g)) : Met l yX11_text wsX11_text rmTX (va_Pc [.ref (ad 0), .int x1] (fun U => Px D [(cy 0, .int), (cy 1, .long), (cy 2, .boolean), (cy 3, .byte), (cy 4, .object "HissHorn$Text")] st (VX cy ad st) sz u U ∧ CLn U)) (va_Qi (fun r' (q : (Nat → Nat) × (Nat → Int32)) => r' = r ∧ JX q.1 st ∧ (∀ k, k < 73 + 2 * tN w → q.1 k = ad k) ∧ (∀ k, 73 + 2 * tN w ≤ k → sz ≤ q.1 k) ∧ ∀ i, q.2 i = w.2.1 14 i ∨ q.2 i = 0) (fun q t => va_P D vwCl (VX cy q.1 st (ua q.2)) t.heap) (Ax (AX ad) sz)) 2 122 (Ax (AX ad) sz) := by
  refine Met.ofW (cc := cX11_text) (maxL := 3) (ret := some .int) (by decide) rfl ?_
  intro p e s m args below meth c s₁ B hml hv
  obtain ⟨rfl, ⟨hsz, hP, hK⟩, hCL⟩ := hv
  subst hsz
  have C : Cx RX11 cX11_text 3 (some .int) wsX11_text p s m _ meth c := ⟨B.exec, B.bytes, hml, B.returns, findClass_of_methodNamed B.named, atoms_spec (ws := wsX11_text) B.pre, B.notSynchronized⟩
  have hl := lv_entry ([.ref (ad 0), .int x1]) (n := 3) (Nat.le_of_ble_eq_true rfl)
  rw [lg_entry_eq]
  generalize (lg_sl ([.ref (ad 0), .int x1]) ++ List.replicate (3 - (lg_sl ([.ref (ad 0), .int x1])).length) Slot.unset).toArray = ls at hl ⊢
  have hl : lv_has ls 3 [(0, .ref (ad 0)), (1, .int x1)] := hl
  refine wX11_textK C hK hJ x1 (fun w' H locs ls hh hP hS => absurd (show ((-1) : Int32) = 7 from congrArg Prod.fst (Option.some.inj hh)) (by decide)) (fun k hk w' H locs ls hh hP hS hl => ?_) h hP va_S.rf hl
  by_cases hk3 : k = 4
  · subst hk3
    rw [if_pos rfl] at hh
    cases hh
    have hfA : ∀ q, Ax (AXn ad (tN w)) H.size q → Ax (AX ad) s.heap.size q := fun q z => z.elim (fun ⟨k, _, e⟩ => Or.inl ⟨k, e⟩) (fun v => Or.inr (Nat.le_trans hS.1 v))
    refine va_callr (va_runV (As := []) (rest := [.ref (ad 4)]) ⟨C.1, C.2.1, C.2.2.1, C.2.2.2.2.1, C.2.2.2.2.2.1⟩ (met_compiled l D cy ad st hJ H.size w h0 h1) (cwV 0 C.2.2.2.2.2.1 gX11_text_X5_compiled rfl rfl rfl (by decide +kernel) ⟨Nat.le_of_ble_eq_true rfl, Nat.le_of_ble_eq_true rfl⟩) ⟨fun a U g mk q => by obtain ⟨b0, b1, b2⟩ := q; exact ⟨b0, (Px_blind (As := [.ref (ad 2)]) a U g mk ⟨b0, b1⟩).2, va_Nw.same rfl rfl b2⟩, va_recv hK.1 hP (ci := 5) (q0 := 2) rfl rfl, fun U hU hW => ⟨rfl, ⟨by rw [hU], by rw [hU]; exact hP, Ky_mv (AX_ge hJ) hS hU hW hK⟩, va_Nw.warmC hW hCL⟩⟩ rfl rfl hl.1 rfl (lv_room (Nat.le_of_ble_eq_true rfl)) dX11_text_47 ⟨Nat.le_of_ble_eq_true rfl, Nat.le_of_ble_eq_true rfl⟩) hS (fun q _ z => hfA q z) hfA (fun g q1 t H1 locs1 ht hvm hpost hB hz1 hk1 hS1 => ?_)
    obtain ⟨q2, hq1, hq2, hne, hP1⟩ := hB
    rw [ht] at hP1
    have l1 : q1 < H1.size := (P_r hP1 0 _ rfl).lt
    have l2 : q2 < H1.size := (P_r hP1 1 _ rfl).lt
    have hJ1 : JX (adNew ad (tN w) q1 q2 H1.size) st := adNew_J hJ hP (Nat.le_refl _) hq1 hq2 hne l1 l2 (Nat.le_trans hK.2.2.2.1 hS.1)
    rw [← VX_new hT] at hP1
    have hge : ∀ k, 73 + 2 * tN w ≤ k → s.heap.size ≤ adNew ad (tN w) q1 q2 H1.size k := fun k hk => by
      show _ ≤ (if k < 73 + 2 * tN w then ad k else if k = 73 + 2 * tN w then q1 else if k = 73 + 2 * tN w + 1 then q2 else H1.size + k)
      have := hS.1
      have := hS1.1
      rw [if_neg (by omega)]
      split
      · omega
      · split
        · omega
        · omega
    have hfB : ∀ q, Ax (AX (adNew ad (tN w) q1 q2 H1.size)) H1.size q → Ax (AX ad) s.heap.size q := fun q z => z.elim (fun ⟨k, e⟩ => by
      by_cases a : k < 73 + 2 * tN w
      · exact Or.inl ⟨k, by rw [e, adNew_lt a]⟩
      · exact Or.inr (by rw [e]; exact hge k (Nat.le_of_not_lt a))) (fun v => Or.inr (Nat.le_trans hS1.1 v))
    refine W.eq (g2 := F0 m 50 ls [.ref (adNew ad (tN w) q1 q2 H1.size (tA (tN w))), .ref (adNew ad (tN w) q1 q2 H1.size 4)]) (by rw [adNew_A, adNew_lt (j := 4) (by omega)]) ?_
    refine va_calli (va_runV (As := [.ref (adNew ad (tN w) q1 q2 H1.size (tA (tN w)))]) (rest := []) ⟨C.1, C.2.1, C.2.2.1, C.2.2.2.2.1, C.2.2.2.2.2.1⟩ (metX8_add_4_aT l D cy (adNew ad (tN w) q1 q2 H1.size) st hJ1 H1.size (tN w) (hadd g)) (cwV 1 C.2.2.2.2.2.1 gX11_text_X8_add rfl rfl rfl (by decide +kernel) ⟨Nat.le_of_ble_eq_true rfl, Nat.le_of_ble_eq_true rfl⟩) ⟨Px_blind, va_recv hK.1 hP1 (ci := 8) (q0 := 4) rfl rfl, fun U hU hW => ⟨rfl, by rw [hU], by rw [hU]; exact hP1, Ky_mv (AX_ge hJ) hS1 hU hW hK⟩⟩ rfl rfl hl.1 rfl (lv_room (Nat.le_of_ble_eq_true rfl)) dX11_text_50 ⟨Nat.le_of_ble_eq_true rfl, Nat.le_of_ble_eq_true rfl⟩) hS1 (fun q _ z => hfB q z) hfB (fun r1 v9 t9 H2 locs2 ht9 hvm9 hr9 hB9 hz9 hk9 hS9 => ?_)
    cases hr9
    have hB9 : va_P D vwCl (VX cy (adNew ad (tN w) q1 q2 H1.size) st (ua g)) t9.heap := hB9
    rw [ht9] at hB9
    refine W.cs (cells' := 2) (slots' := 122) rfl rfl ?_
    exact W.iret C.1 C.2.1 C.2.2.2.1 (fun t0 ht0 _ => ⟨⟨r, (adNew ad (tN w) q1 q2 H1.size, g), rfl, ⟨rfl, hJ1, fun k hk => adNew_lt hk, hge, hpost⟩, by show va_P D vwCl (VX cy (adNew ad (tN w) q1 q2 H1.size) st (ua g)) t0.heap; rw [ht0]; exact hB9⟩, hS9.F ht0⟩) hS9.2.2 dX11_text_53 C.2.2.2.2.2.2
  · rw [if_neg hk3] at hh
    exact absurd hh (by intro q; cases q)
set_option maxHeartbeats 4000000 in
set_option maxRecDepth 100000 in
theorem met_textS_5 (l : Launch) (D : va_G) (cy : Nat → ClassId) (ad st : Nat → Nat) (hJ : JX ad st) (sz : Nat) (x1 : Int32) {u w : SX} {r : Int32} {ua : (Nat → Int32) → SX} (h : fX11_textK (fun k w => if k = 5 then some (7, w) else none) x1 u = some (7, w)) (hT : TXok w.2.2.2.2) (h0 : 0 ≤ (w.1 2).toInt) (h1 : (w.1 2).toInt ≤ 121) (hadd : ∀ g, fX8_add_5_aT (tN w) (uNew w (w.1 2).toNatClampNeg g) = some (r, ua g)) : Met l yX11_text wsX11_text rmTX (va_Pc [.ref (ad 0), .int x1] (fun U => Px D [(cy 0, .int), (cy 1, .long), (cy 2, .boolean), (cy 3, .byte), (cy 4, .object "HissHorn$Text")] st (VX cy ad st) sz u U ∧ CLn U)) (va_Qi (fun r' (q : (Nat → Nat) × (Nat → Int32)) => r' = r ∧ JX q.1 st ∧ (∀ k, k < 73 + 2 * tN w → q.1 k = ad k) ∧ (∀ k, 73 + 2 * tN w ≤ k → sz ≤ q.1 k) ∧ ∀ i, q.2 i = w.2.1 14 i ∨ q.2 i = 0) (fun q t => va_P D vwCl (VX cy q.1 st (ua q.2)) t.heap) (Ax (AX ad) sz)) 2 122 (Ax (AX ad) sz) := by
  refine Met.ofW (cc := cX11_text) (maxL := 3) (ret := some .int) (by decide) rfl ?_
  intro p e s m args below meth c s₁ B hml hv
  obtain ⟨rfl, ⟨hsz, hP, hK⟩, hCL⟩ := hv
  subst hsz
  have C : Cx RX11 cX11_text 3 (some .int) wsX11_text p s m _ meth c := ⟨B.exec, B.bytes, hml, B.returns, findClass_of_methodNamed B.named, atoms_spec (ws := wsX11_text) B.pre, B.notSynchronized⟩
  have hl := lv_entry ([.ref (ad 0), .int x1]) (n := 3) (Nat.le_of_ble_eq_true rfl)
  rw [lg_entry_eq]
  generalize (lg_sl ([.ref (ad 0), .int x1]) ++ List.replicate (3 - (lg_sl ([.ref (ad 0), .int x1])).length) Slot.unset).toArray = ls at hl ⊢
  have hl : lv_has ls 3 [(0, .ref (ad 0)), (1, .int x1)] := hl
  refine wX11_textK C hK hJ x1 (fun w' H locs ls hh hP hS => absurd (show ((-1) : Int32) = 7 from congrArg Prod.fst (Option.some.inj hh)) (by decide)) (fun k hk w' H locs ls hh hP hS hl => ?_) h hP va_S.rf hl
  by_cases hk3 : k = 5
  · subst hk3
    rw [if_pos rfl] at hh
    cases hh
    have hfA : ∀ q, Ax (AXn ad (tN w)) H.size q → Ax (AX ad) s.heap.size q := fun q z => z.elim (fun ⟨k, _, e⟩ => Or.inl ⟨k, e⟩) (fun v => Or.inr (Nat.le_trans hS.1 v))
    refine va_callr (va_runV (As := []) (rest := [.ref (ad 5)]) ⟨C.1, C.2.1, C.2.2.1, C.2.2.2.2.1, C.2.2.2.2.2.1⟩ (met_compiled l D cy ad st hJ H.size w h0 h1) (cwV 0 C.2.2.2.2.2.1 gX11_text_X5_compiled rfl rfl rfl (by decide +kernel) ⟨Nat.le_of_ble_eq_true rfl, Nat.le_of_ble_eq_true rfl⟩) ⟨fun a U g mk q => by obtain ⟨b0, b1, b2⟩ := q; exact ⟨b0, (Px_blind (As := [.ref (ad 2)]) a U g mk ⟨b0, b1⟩).2, va_Nw.same rfl rfl b2⟩, va_recv hK.1 hP (ci := 5) (q0 := 2) rfl rfl, fun U hU hW => ⟨rfl, ⟨by rw [hU], by rw [hU]; exact hP, Ky_mv (AX_ge hJ) hS hU hW hK⟩, va_Nw.warmC hW hCL⟩⟩ rfl rfl hl.1 rfl (lv_room (Nat.le_of_ble_eq_true rfl)) dX11_text_47 ⟨Nat.le_of_ble_eq_true rfl, Nat.le_of_ble_eq_true rfl⟩) hS (fun q _ z => hfA q z) hfA (fun g q1 t H1 locs1 ht hvm hpost hB hz1 hk1 hS1 => ?_)
    obtain ⟨q2, hq1, hq2, hne, hP1⟩ := hB
    rw [ht] at hP1
    have l1 : q1 < H1.size := (P_r hP1 0 _ rfl).lt
    have l2 : q2 < H1.size := (P_r hP1 1 _ rfl).lt
    have hJ1 : JX (adNew ad (tN w) q1 q2 H1.size) st := adNew_J hJ hP (Nat.le_refl _) hq1 hq2 hne l1 l2 (Nat.le_trans hK.2.2.2.1 hS.1)
    rw [← VX_new hT] at hP1
    have hge : ∀ k, 73 + 2 * tN w ≤ k → s.heap.size ≤ adNew ad (tN w) q1 q2 H1.size k := fun k hk => by
      show _ ≤ (if k < 73 + 2 * tN w then ad k else if k = 73 + 2 * tN w then q1 else if k = 73 + 2 * tN w + 1 then q2 else H1.size + k)
      have := hS.1
      have := hS1.1
      rw [if_neg (by omega)]
      split
      · omega
      · split
        · omega
        · omega
    have hfB : ∀ q, Ax (AX (adNew ad (tN w) q1 q2 H1.size)) H1.size q → Ax (AX ad) s.heap.size q := fun q z => z.elim (fun ⟨k, e⟩ => by
      by_cases a : k < 73 + 2 * tN w
      · exact Or.inl ⟨k, by rw [e, adNew_lt a]⟩
      · exact Or.inr (by rw [e]; exact hge k (Nat.le_of_not_lt a))) (fun v => Or.inr (Nat.le_trans hS1.1 v))
    refine W.eq (g2 := F0 m 50 ls [.ref (adNew ad (tN w) q1 q2 H1.size (tA (tN w))), .ref (adNew ad (tN w) q1 q2 H1.size 5)]) (by rw [adNew_A, adNew_lt (j := 5) (by omega)]) ?_
    refine va_calli (va_runV (As := [.ref (adNew ad (tN w) q1 q2 H1.size (tA (tN w)))]) (rest := []) ⟨C.1, C.2.1, C.2.2.1, C.2.2.2.2.1, C.2.2.2.2.2.1⟩ (metX8_add_5_aT l D cy (adNew ad (tN w) q1 q2 H1.size) st hJ1 H1.size (tN w) (hadd g)) (cwV 1 C.2.2.2.2.2.1 gX11_text_X8_add rfl rfl rfl (by decide +kernel) ⟨Nat.le_of_ble_eq_true rfl, Nat.le_of_ble_eq_true rfl⟩) ⟨Px_blind, va_recv hK.1 hP1 (ci := 8) (q0 := 5) rfl rfl, fun U hU hW => ⟨rfl, by rw [hU], by rw [hU]; exact hP1, Ky_mv (AX_ge hJ) hS1 hU hW hK⟩⟩ rfl rfl hl.1 rfl (lv_room (Nat.le_of_ble_eq_true rfl)) dX11_text_50 ⟨Nat.le_of_ble_eq_true rfl, Nat.le_of_ble_eq_true rfl⟩) hS1 (fun q _ z => hfB q z) hfB (fun r1 v9 t9 H2 locs2 ht9 hvm9 hr9 hB9 hz9 hk9 hS9 => ?_)
    cases hr9
    have hB9 : va_P D vwCl (VX cy (adNew ad (tN w) q1 q2 H1.size) st (ua g)) t9.heap := hB9
    rw [ht9] at hB9
    refine W.cs (cells' := 2) (slots' := 122) rfl rfl ?_
    exact W.iret C.1 C.2.1 C.2.2.2.1 (fun t0 ht0 _ => ⟨⟨r, (adNew ad (tN w) q1 q2 H1.size, g), rfl, ⟨rfl, hJ1, fun k hk => adNew_lt hk, hge, hpost⟩, by show va_P D vwCl (VX cy (adNew ad (tN w) q1 q2 H1.size) st (ua g)) t0.heap; rw [ht0]; exact hB9⟩, hS9.F ht0⟩) hS9.2.2 dX11_text_53 C.2.2.2.2.2.2
  · rw [if_neg hk3] at hh
    exact absurd hh (by intro q; cases q)
