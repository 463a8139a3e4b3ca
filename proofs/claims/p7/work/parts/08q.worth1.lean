/-! HissHorn.worth, thrown or returned, told apart. -/
def fX11_worthQ (kR : Int32 → SX → Option (Int32 × SX)) (kX : SX → Option (Int32 × SX)) (x1 x2 x3 x4 x5 x6 x7 : Int32) (u : SX) : Option (Int32 × SX) := ((fX8_has_3 x1 u).bind fun q => match q with | (r1, u2) => (if r1 = 0 then (kX u2) else ((fX11_isAim x2 x3 x4 x6 x7).bind fun r4 => (if r4 = 0 then (kX u2) else ((fX11_within x5 0 3).bind fun r7 => (if r7 = 0 then (kX u2) else ((fX8_setAim_3 x2 x3 x4 x5 x6 x7 u2).bind fun q => match q with | (r10, u11) => ((fX8_ask_3 x1 u11).bind fun q => match q with | (r13, u14) => (kR r13 u14)))))))))
set_option maxHeartbeats 4000000 in
set_option maxRecDepth 100000 in
theorem wX11_worthQ {p : Program} {l : Launch} {e : Env} {s : State} {m : MethodId} {args : Array Value} {below : List Frame} {meth : Method} {c : Code} {Q : State → Prop} {D : va_G} {cy : Nat → ClassId} {ad st : Nat → Nat} (C : Cx RX11 cX11_worth 8 (some .int) wsX11_worth p s m args meth c) (hK : Ky D [(cy 0, .int), (cy 1, .long), (cy 2, .boolean), (cy 3, .byte), (cy 4, .object "HissHorn$Text")] st s) (hJ : JX ad st) {kR : Int32 → SX → Option (Int32 × SX)} {kX : SX → Option (Int32 × SX)} (x1 x2 x3 x4 x5 x6 x7 : Int32) {u : SX} {r : Int32} {u' : SX}
    (hkR : ∀ (v : Int32) (w : SX) (H : Heap) (locs : List Loc) (ls : Array Slot), kR v w = some (r, u') → va_P D vwCl (VX cy ad st w) H → va_S (Ax (AX ad) s.heap.size) s.heap H locs → W p l e rmWK s m args below meth c H locs 0 0 Q (F0 m 68 ls [.int v]))
    (hkX : ∀ (w : SX) (H : Heap) (locs : List Loc) (ls : Array Slot), kX w = some (r, u') → va_P D vwCl (VX cy ad st w) H → va_S (Ax (AX ad) s.heap.size) s.heap H locs → lv_has ls 8 [(0, .ref (ad 0)), (1, .int x1), (2, .int x2), (3, .int x3), (4, .int x4), (5, .int x5), (6, .int x6), (7, .int x7)] → W p l e rmWK s m args below meth c H locs 0 0 Q (F0 m 35 ls []))
    {H : Heap} {locs : List Loc} {ls : Array Slot} (h : fX11_worthQ kR kX x1 x2 x3 x4 x5 x6 x7 u = some (r, u')) (hP : va_P D vwCl (VX cy ad st u) H) (hS : va_S (Ax (AX ad) s.heap.size) s.heap H locs) (hl : lv_has ls 8 [(0, .ref (ad 0)), (1, .int x1), (2, .int x2), (3, .int x3), (4, .int x4), (5, .int x5), (6, .int x6), (7, .int x7)]) : W p l e rmWK s m args below meth c H locs 0 0 Q (F0 m 0 ls []) := by
  unfold fX11_worthQ at h
  refine lv_aload_n C.1 C.2.1 dX11_worth_0 rfl (lv_at hl 0 rfl) ?_
  refine gX_0_laws C hX11_worthK_X11 hK hP mX11_worthK_1 dX11_worth_1 ?_
  refine lv_iload_n C.1 C.2.1 dX11_worth_4 rfl (lv_at hl 1 rfl) ?_
  obtain ⟨⟨r1, u2⟩, hc3, h⟩ := bd_some h
  try dsimp only at h
  refine cg_i (As := [.int x1]) (rest := []) (AX_ge hJ) C hK hP hS (metX8_has_3 l D cy ad st hJ _ x1 hc3) (cwV 1 C.2.2.2.2.2.1 gX11_worth_X8_has rfl rfl rfl (by decide +kernel) ⟨(Nat.le_of_ble_eq_true rfl), (Nat.le_of_ble_eq_true rfl)⟩) 3 8 rfl rfl rfl hl.1 rfl (Nat.le_of_ble_eq_true rfl) dX11_worth_5 ⟨Nat.zero_le _, Nat.zero_le _⟩ (fun H locs hP hS => ?_)
  refine lv_if_eq (tgt := 35) C.1 C.2.1 dX11_worth_8 (by decide) (fun c8 => ?_) (fun c8 => ?_)
  · rw [if_pos c8] at h
    exact hkX _ _ _ ls h hP hS hl
  · rw [if_neg c8] at h
    refine lv_iload_n C.1 C.2.1 dX11_worth_11 rfl (lv_at hl 2 rfl) ?_
    refine lv_iload_n C.1 C.2.1 dX11_worth_12 rfl (lv_at hl 3 rfl) ?_
    refine lv_iload C.1 C.2.1 dX11_worth_13 (lv_at hl 4 rfl) ?_
    refine lv_iload C.1 C.2.1 dX11_worth_15 (lv_at hl 6 rfl) ?_
    refine lv_iload C.1 C.2.1 dX11_worth_17 (lv_at hl 7 rfl) ?_
    obtain ⟨r4, hc6, h⟩ := bd_some h
    refine cs_i (As := [.int x2, .int x3, .int x4, .int x6, .int x7]) (rest := []) (AX_ge hJ) C hK hP hS (metX11_isAim l D cy st _ x2 x3 x4 x6 x7 hc6) (va_cwS 5 C.2.2.2.2.2.1 gX11_worth_X11_isAim rfl rfl rfl (by decide +kernel) ⟨(Nat.le_of_ble_eq_true rfl), (Nat.le_of_ble_eq_true rfl)⟩) rfl hl.1 rfl (Nat.le_of_ble_eq_true rfl) dX11_worth_19 ⟨Nat.zero_le _, Nat.zero_le _⟩ (fun H locs hP hS => ?_)
    refine lv_if_eq (tgt := 35) C.1 C.2.1 dX11_worth_22 (by decide) (fun c22 => ?_) (fun c22 => ?_)
    · rw [if_pos c22] at h
      exact hkX _ _ _ ls h hP hS hl
    · rw [if_neg c22] at h
      refine lv_iload C.1 C.2.1 dX11_worth_25 (lv_at hl 5 rfl) ?_
      refine lv_iconst (v := 0) C.1 C.2.1 dX11_worth_27 (by decide) ?_
      refine lv_iconst (v := 3) C.1 C.2.1 dX11_worth_28 (by decide) ?_
      obtain ⟨r7, hc9, h⟩ := bd_some h
      refine cs_i (As := [.int x5, .int 0, .int 3]) (rest := []) (AX_ge hJ) C hK hP hS (metX11_within l D cy st _ x5 0 3 hc9) (va_cwS 3 C.2.2.2.2.2.1 gX11_worth_X11_within rfl rfl rfl (by decide +kernel) ⟨(Nat.le_of_ble_eq_true rfl), (Nat.le_of_ble_eq_true rfl)⟩) rfl hl.1 rfl (Nat.le_of_ble_eq_true rfl) dX11_worth_29 ⟨Nat.zero_le _, Nat.zero_le _⟩ (fun H locs hP hS => ?_)
      refine lv_if_ne (tgt := 43) C.1 C.2.1 dX11_worth_32 (by decide) (fun c32 => ?_) (fun c32 => ?_)
      · rw [if_neg c32] at h
        refine lv_aload_n C.1 C.2.1 dX11_worth_43 rfl (lv_at hl 0 rfl) ?_
        refine gX_0_laws C hX11_worthK_X11 hK hP mX11_worthK_1 dX11_worth_44 ?_
        refine lv_iload_n C.1 C.2.1 dX11_worth_47 rfl (lv_at hl 2 rfl) ?_
        refine lv_iload_n C.1 C.2.1 dX11_worth_48 rfl (lv_at hl 3 rfl) ?_
        refine lv_iload C.1 C.2.1 dX11_worth_49 (lv_at hl 4 rfl) ?_
        refine lv_iload C.1 C.2.1 dX11_worth_51 (lv_at hl 5 rfl) ?_
        refine lv_iload C.1 C.2.1 dX11_worth_53 (lv_at hl 6 rfl) ?_
        refine lv_iload C.1 C.2.1 dX11_worth_55 (lv_at hl 7 rfl) ?_
        obtain ⟨⟨r10, u11⟩, hc12, h⟩ := bd_some h
        try dsimp only at h
        refine cg_v (As := [.int x2, .int x3, .int x4, .int x5, .int x6, .int x7]) (rest := []) (AX_ge hJ) C hK hP hS (metX8_setAim_3 l D cy ad st hJ _ x2 x3 x4 x5 x6 x7 hc12) (cwV 6 C.2.2.2.2.2.1 gX11_worth_X8_setAim rfl rfl rfl (by decide +kernel) ⟨(Nat.le_of_ble_eq_true rfl), (Nat.le_of_ble_eq_true rfl)⟩) 3 8 rfl rfl rfl hl.1 rfl (Nat.le_of_ble_eq_true rfl) dX11_worth_57 ⟨Nat.zero_le _, Nat.zero_le _⟩ (fun H locs hP hS => ?_)
        refine lv_aload_n C.1 C.2.1 dX11_worth_60 rfl (lv_at hl 0 rfl) ?_
        refine gX_0_laws C hX11_worthK_X11 hK hP mX11_worthK_1 dX11_worth_61 ?_
        refine lv_iload_n C.1 C.2.1 dX11_worth_64 rfl (lv_at hl 1 rfl) ?_
        obtain ⟨⟨r13, u14⟩, hc15, h⟩ := bd_some h
        try dsimp only at h
        refine cg_i (As := [.int x1]) (rest := []) (AX_ge hJ) C hK hP hS (metX8_ask_3 l D cy ad st hJ _ x1 hc15) (cwV 1 C.2.2.2.2.2.1 gX11_worth_X8_ask rfl rfl rfl (by decide +kernel) ⟨(Nat.le_of_ble_eq_true rfl), (Nat.le_of_ble_eq_true rfl)⟩) 3 8 rfl rfl rfl hl.1 rfl (Nat.le_of_ble_eq_true rfl) dX11_worth_65 ⟨Nat.zero_le _, Nat.zero_le _⟩ (fun H locs hP hS => ?_)
        exact hkR _ _ _ _ ls h hP hS
      · rw [if_pos c32] at h
        exact hkX _ _ _ ls h hP hS hl
set_option maxHeartbeats 8000000 in
set_option maxRecDepth 100000 in
theorem wx_metR (l : Launch) (hfl : l.stackTraces = false) (D : va_G) (cy : Nat → ClassId) (ad st : Nat → Nat) (hJ : JX ad st) (sz : Nat) (x1 x2 x3 x4 x5 x6 x7 : Int32) {u u' : SX} {r : Int32} (h : fX11_worthQ (fun v w => some (v, w)) (fun _ => none) x1 x2 x3 x4 x5 x6 x7 u = some (r, u')) : vx_Met l yX11_worth wsX11_worth rmWK (va_Pc [.ref (ad 0), .int x1, .int x2, .int x3, .int x4, .int x5, .int x6, .int x7] (fun U => Px D [(cy 0, .int), (cy 1, .long), (cy 2, .boolean), (cy 3, .byte), (cy 4, .object "HissHorn$Text")] st (VX cy ad st) sz u U ∧ Exs (Ax (AX ad) sz) U)) (va_Qi (fun (y : Int32) (_ : Unit) => y = r) (fun _ t => va_P D vwCl (VX cy ad st u') t.heap) (Ax (AX ad) sz)) (vx_X (fun (_ : Unit) => False) (fun E _ t => E = "java/util/NoSuchElementException" ∧ va_P D vwCl (VX cy ad st u') t.heap) (Ax (AX ad) sz)) 1 6 (Ax (AX ad) sz) := by
  refine vx_ofW (cc := cX11_worth) (maxL := 8) (ret := some .int) (by decide) rfl ?_
  intro p e s m args below meth c s₁ B hml htab hv
  obtain ⟨rfl, ⟨hsz, hP, hK⟩, hE⟩ := hv
  subst hsz
  have C : Cx RX11 cX11_worth 8 (some .int) wsX11_worth p s m _ meth c := ⟨B.exec, B.bytes, hml, B.returns, findClass_of_methodNamed B.named, atoms_spec (ws := wsX11_worth) B.pre, B.notSynchronized⟩
  have hl := lv_entry ([.ref (ad 0), .int x1, .int x2, .int x3, .int x4, .int x5, .int x6, .int x7]) (n := 8) (Nat.le_of_ble_eq_true rfl)
  rw [lg_entry_eq]
  generalize (lg_sl ([.ref (ad 0), .int x1, .int x2, .int x3, .int x4, .int x5, .int x6, .int x7]) ++ List.replicate (8 - (lg_sl ([.ref (ad 0), .int x1, .int x2, .int x3, .int x4, .int x5, .int x6, .int x7])).length) Slot.unset).toArray = ls at hl ⊢
  have hl : lv_has ls 8 [(0, .ref (ad 0)), (1, .int x1), (2, .int x2), (3, .int x3), (4, .int x4), (5, .int x5), (6, .int x6), (7, .int x7)] := hl
  refine wX11_worthQ C hK hJ x1 x2 x3 x4 x5 x6 x7 (fun v w H locs ls hh hP hS => ?_) (fun w H locs ls hh hP hS hl => ?_) h hP va_S.rf hl
  · cases hh
    refine vx_ret ?_
    refine W.widen (k := 1) (n := 6) (Nat.zero_le _) (Nat.zero_le _) ?_
    exact W.iret C.1 C.2.1 C.2.2.2.1 (fun t ht _ => ⟨⟨_, (), rfl, rfl, by show va_P D vwCl (VX cy ad st u') t.heap; rw [ht]; exact hP⟩, hS.F ht⟩) hS.2.2 dX11_worth_68 C.2.2.2.2.2.2
  · cases hh
set_option maxHeartbeats 8000000 in
set_option maxRecDepth 100000 in
theorem wx_metT (l : Launch) (hfl : l.stackTraces = false) (D : va_G) (cy : Nat → ClassId) (ad st : Nat → Nat) (hJ : JX ad st) (sz : Nat) (x1 x2 x3 x4 x5 x6 x7 : Int32) {u u' : SX} {r : Int32} (h : fX11_worthQ (fun _ _ => none) (fun w => some (0, w)) x1 x2 x3 x4 x5 x6 x7 u = some (r, u')) : vx_Met l yX11_worth wsX11_worth rmWK (va_Pc [.ref (ad 0), .int x1, .int x2, .int x3, .int x4, .int x5, .int x6, .int x7] (fun U => Px D [(cy 0, .int), (cy 1, .long), (cy 2, .boolean), (cy 3, .byte), (cy 4, .object "HissHorn$Text")] st (VX cy ad st) sz u U ∧ Exs (Ax (AX ad) sz) U)) (va_Qi (fun (_ : Int32) (_ : Unit) => False) (fun _ t => va_P D vwCl (VX cy ad st u') t.heap) (Ax (AX ad) sz)) (vx_X (fun (_ : Unit) => True) (fun E _ t => E = "java/util/NoSuchElementException" ∧ va_P D vwCl (VX cy ad st u') t.heap) (Ax (AX ad) sz)) 1 6 (Ax (AX ad) sz) := by
  refine vx_ofW (cc := cX11_worth) (maxL := 8) (ret := some .int) (by decide) rfl ?_
  intro p e s m args below meth c s₁ B hml htab hv
  obtain ⟨rfl, ⟨hsz, hP, hK⟩, hE⟩ := hv
  subst hsz
  have C : Cx RX11 cX11_worth 8 (some .int) wsX11_worth p s m _ meth c := ⟨B.exec, B.bytes, hml, B.returns, findClass_of_methodNamed B.named, atoms_spec (ws := wsX11_worth) B.pre, B.notSynchronized⟩
  have hl := lv_entry ([.ref (ad 0), .int x1, .int x2, .int x3, .int x4, .int x5, .int x6, .int x7]) (n := 8) (Nat.le_of_ble_eq_true rfl)
  rw [lg_entry_eq]
  generalize (lg_sl ([.ref (ad 0), .int x1, .int x2, .int x3, .int x4, .int x5, .int x6, .int x7]) ++ List.replicate (8 - (lg_sl ([.ref (ad 0), .int x1, .int x2, .int x3, .int x4, .int x5, .int x6, .int x7])).length) Slot.unset).toArray = ls at hl ⊢
  have hl : lv_has ls 8 [(0, .ref (ad 0)), (1, .int x1), (2, .int x2), (3, .int x3), (4, .int x4), (5, .int x5), (6, .int x6), (7, .int x7)] := hl
  refine wX11_worthQ C hK hJ x1 x2 x3 x4 x5 x6 x7 (fun v w H locs ls hh hP hS => ?_) (fun w H locs ls hh hP hS hl => ?_) h hP va_S.rf hl
  · cases hh
  · have hh : (some (0, w) : Option (Int32 × SX)) = some (r, u') := hh
    cases hh
    exact vx_throw0 (own := RX11) (cls := "java/util/NoSuchElementException") (names := ["java/lang/RuntimeException", "java/lang/Exception"]) (A := Ax (AX ad) s.heap.size) C.1 C.2.1 hfl C.2.2.2.2.1 (by decide +kernel) (by decide +kernel) (C.2.2.2.2.2.1 _ mW_0) (C.2.2.2.2.2.1 _ mW_1) (vx_hat (fun w h => C.2.2.2.2.2.1 w (mW_2 w h)) ng_words (vx_c (va_tabs rfl rfl hE.1.1) (vx_c (va_tabs rfl rfl hE.1.2.1) (vx_c (va_tabs rfl rfl hE.1.2.2.1) (vx_c (va_tabs rfl rfl hE.1.2.2.2) vx_n))))) ok_words hE.2.1 hE.2.2 hS (hl.1.trans C.2.2.1.symm) dX11_worth_35 dX11_worth_38 dX11_worth_39 dX11_worth_42 (fun x hx => (htab x hx).elim) (Nat.le_of_ble_eq_true rfl) (Nat.le_of_ble_eq_true rfl) (Nat.le_of_ble_eq_true rfl) (Nat.le_of_ble_eq_true rfl) C.2.2.2.2.2.2 (fun t h1 h2 h3 => ⟨(), trivial, ⟨rfl, hP.kept fun k q hq => h3 q.1 (hP k q hq).lt⟩, Nat.le_trans hS.1 h2, fun q hq hn => (h3 q (Nat.lt_of_lt_of_le hq hS.1)).trans (hS.2.1 q hq hn)⟩) hS.2.2 (Nat.le_refl 1) (Nat.le_refl 6)
set_option maxHeartbeats 8000000 in
set_option maxRecDepth 100000 in
theorem lworth_metR (l : Launch) (hfl : l.stackTraces = false) (D : va_G) (cy : Nat → ClassId) (ad st : Nat → Nat) (hJ : JX ad st) (o sz : Nat) (x1 x2 x3 x4 x5 x6 x7 : Int32) {u u' : SX} {r : Int32} (h : fX11_worthQ (fun v w => some (v, w)) (fun _ => none) x1 x2 x3 x4 x5 x6 x7 u = some (r, u')) (f : Nat → Int64) (ho : ¬ AX ad o) : Met l yL_worth wsL_worth rmLW (va_Pc [.ref (ad 0), .int x1, .int x2, .int x3, .int x4, .int x5, .int x6, .int x7, .ref o] (fun U => (Px D [(cy 0, .int), (cy 1, .long), (cy 2, .boolean), (cy 3, .byte), (cy 4, .object "HissHorn$Text")] st (VX cy ad st) sz u U ∧ Exs (Ax (AX ad) sz) U) ∧ va_P D vwCl [(o, .inl (cy 1, 1, .inr (.inl f)))] U.heap)) (va_Qi (fun (y : Int32) (g : Nat → Int64) => y = 0 ∧ g = vp_updL f 0 r.toInt64) (fun f' t => va_P D vwCl (VX cy ad st u') t.heap ∧ va_P D vwCl [(o, .inl (cy 1, 1, .inr (.inl f')))] t.heap) (Ao (AX ad) sz o)) 1 6 (Ao (AX ad) sz o) := by
  refine met_ofWH (cc := cL_worth) (maxL := 10) (ret := some .int) (by decide) rfl ?_
  intro p e s m args below meth c s₁ B hml hv
  obtain ⟨rfl, ⟨⟨hsz, hP, hK⟩, hE⟩, hO⟩ := hv
  subst hsz
  have C : Cx RL cL_worth 10 (some .int) wsL_worth p s m _ meth c := ⟨B.exec, B.bytes, hml, B.returns, findClass_of_methodNamed B.named, atoms_spec (ws := wsL_worth) B.pre, B.notSynchronized⟩
  have htab : c.exceptionTable.toList = [⟨0, 20, 23, 13⟩] := vx_table (x := yL_worth) B (C.2.2.2.2.2.1 _ List.mem_cons_self)
  have hS : va_S (Ao (AX ad) s.heap.size o) s.heap s.heap [] := va_S.rf
  have hoA : ¬ Ax (AX ad) s.heap.size o := fun z => z.elim ho (fun z => absurd (hO 0 _ rfl).lt (Nat.not_lt.mpr z))
  have hl := lv_entry ([.ref (ad 0), .int x1, .int x2, .int x3, .int x4, .int x5, .int x6, .int x7, .ref o]) (n := 10) (Nat.le_of_ble_eq_true rfl)
  rw [lg_entry_eq]
  generalize (lg_sl ([.ref (ad 0), .int x1, .int x2, .int x3, .int x4, .int x5, .int x6, .int x7, .ref o]) ++ List.replicate (10 - (lg_sl ([.ref (ad 0), .int x1, .int x2, .int x3, .int x4, .int x5, .int x6, .int x7, .ref o])).length) Slot.unset).toArray = ls at hl ⊢
  have hl : lv_has ls 10 [(0, .ref (ad 0)), (1, .int x1), (2, .int x2), (3, .int x3), (4, .int x4), (5, .int x5), (6, .int x6), (7, .int x7), (8, .ref o)] := hl
  refine lv_aload C.1 C.2.1 dL_worth_0 (lv_at hl 8 rfl) ?_
  refine lv_iconst (v := 0) C.1 C.2.1 dL_worth_2 (by decide) ?_
  refine lv_aload_n C.1 C.2.1 dL_worth_3 rfl (lv_at hl 0 rfl) ?_
  refine lv_iload_n C.1 C.2.1 dL_worth_4 rfl (lv_at hl 1 rfl) ?_
  refine lv_iload_n C.1 C.2.1 dL_worth_5 rfl (lv_at hl 2 rfl) ?_
  refine lv_iload_n C.1 C.2.1 dL_worth_6 rfl (lv_at hl 3 rfl) ?_
  refine lv_iload C.1 C.2.1 dL_worth_7 (lv_at hl 4 rfl) ?_
  refine lv_iload C.1 C.2.1 dL_worth_9 (lv_at hl 5 rfl) ?_
  refine lv_iload C.1 C.2.1 dL_worth_11 (lv_at hl 6 rfl) ?_
  refine lv_iload C.1 C.2.1 dL_worth_13 (lv_at hl 7 rfl) ?_
  refine vx_calli (vx_runV (As := [.int x1, .int x2, .int x3, .int x4, .int x5, .int x6, .int x7]) (rest := [.int 0, .ref o]) ⟨C.1, C.2.1, C.2.2.1, C.2.2.2.2.1, C.2.2.2.2.2.1⟩ (wx_metR l hfl D cy ad st hJ s.heap.size x1 x2 x3 x4 x5 x6 x7 h) (cwV 7 C.2.2.2.2.2.1 gL_worth_X11_worth rfl rfl rfl (by decide +kernel) ⟨Nat.le_of_ble_eq_true rfl, Nat.le_of_ble_eq_true rfl⟩) ⟨Exs_blind, va_recv hK.1 hP (ci := 11) (q0 := 0) rfl rfl, fun U hU hW => ⟨rfl, ⟨by rw [hU], by rw [hU]; exact hP, Ky_mv (AX_ge hJ) va_S.rf hU hW hK⟩, Exs_mv hE (Nw4_warm hW hE.1) hW.alike (fun q h1 h2 => by rw [hU]) (fun _ _ h => h)⟩⟩ rfl rfl hl.1 rfl (lv_room (Nat.le_of_ble_eq_true rfl)) dL_worth_15 ⟨Nat.le_of_ble_eq_true rfl, Nat.le_of_ble_eq_true rfl⟩) hS (fun q _ h => Or.inl h) (fun q h => Or.inl h) (fun q _ h => Or.inl h) (fun E ce q9 u9 t H1 locs1 ht hvm hpx hBX hz hk hS1 hce hcv hcl => ?_) (fun r9 u9 t H1 locs1 ht hvm hr hB hz hk hS1 => ?_)
  · exact hpx.elim
  · have er9 : r9 = r := hr
    have hP1 : va_P D vwCl (VX cy ad st u') t.heap := hB
    rw [ht] at hP1
    have hO1 : va_P D vwCl [(o, .inl (cy 1, 1, .inr (.inl f)))] H1 := hO.kept fun k q hq => hk q.1 (hO k q hq).lt (by rw [oat hq]; exact hoA)
    refine lv_i2l (v := r9.toInt64) C.1 C.2.1 dL_worth_18 rfl ?_
    refine lst1 C.1 C.2.1 hK.1 hO1 (Or.inr rfl) hS1 1 rfl (by show ¬ _; decide) dL_worth_19 (fun H2 locs2 hO2 hk2 hS2 => ?_)
    have hP2 : va_P D vwCl (VX cy ad st u') H2 := hP1.kept fun k q hq => hk2 q.1 (fun z => ho (by rw [← z]; exact ⟨k, (VX_adr hq).1⟩))
    refine lv_goto (tgt := 27) C.1 C.2.1 dL_worth_20 (by decide) ?_
    refine lv_iconst (v := 0) C.1 C.2.1 dL_worth_27 (by decide) ?_
    exact W.cs (cells' := 1) (slots' := 6) rfl rfl (W.iret C.1 C.2.1 C.2.2.2.1 (fun t9 ht9 _ => ⟨⟨0, vp_updL f 0 r9.toInt64, rfl, ⟨rfl, by rw [er9]⟩, by rw [ht9]; exact hP2, by rw [ht9]; exact hO2⟩, hS2.F ht9⟩) hS2.2.2 dL_worth_28 C.2.2.2.2.2.2)
set_option maxHeartbeats 8000000 in
set_option maxRecDepth 100000 in
theorem lworth_metT (l : Launch) (hfl : l.stackTraces = false) (D : va_G) (cy : Nat → ClassId) (ad st : Nat → Nat) (hJ : JX ad st) (o sz : Nat) (x1 x2 x3 x4 x5 x6 x7 : Int32) {u u' : SX} {r : Int32} (h : fX11_worthQ (fun _ _ => none) (fun w => some (0, w)) x1 x2 x3 x4 x5 x6 x7 u = some (r, u')) (f : Nat → Int64) (ho : ¬ AX ad o) : Met l yL_worth wsL_worth rmLW (va_Pc [.ref (ad 0), .int x1, .int x2, .int x3, .int x4, .int x5, .int x6, .int x7, .ref o] (fun U => (Px D [(cy 0, .int), (cy 1, .long), (cy 2, .boolean), (cy 3, .byte), (cy 4, .object "HissHorn$Text")] st (VX cy ad st) sz u U ∧ Exs (Ax (AX ad) sz) U) ∧ va_P D vwCl [(o, .inl (cy 1, 1, .inr (.inl f)))] U.heap)) (va_Qi (fun (y : Int32) (g : Nat → Int64) => y = 1 ∧ g = f) (fun f' t => va_P D vwCl (VX cy ad st u') t.heap ∧ va_P D vwCl [(o, .inl (cy 1, 1, .inr (.inl f')))] t.heap) (Ao (AX ad) sz o)) 1 6 (Ao (AX ad) sz o) := by
  refine met_ofWH (cc := cL_worth) (maxL := 10) (ret := some .int) (by decide) rfl ?_
  intro p e s m args below meth c s₁ B hml hv
  obtain ⟨rfl, ⟨⟨hsz, hP, hK⟩, hE⟩, hO⟩ := hv
  subst hsz
  have C : Cx RL cL_worth 10 (some .int) wsL_worth p s m _ meth c := ⟨B.exec, B.bytes, hml, B.returns, findClass_of_methodNamed B.named, atoms_spec (ws := wsL_worth) B.pre, B.notSynchronized⟩
  have htab : c.exceptionTable.toList = [⟨0, 20, 23, 13⟩] := vx_table (x := yL_worth) B (C.2.2.2.2.2.1 _ List.mem_cons_self)
  have hS : va_S (Ao (AX ad) s.heap.size o) s.heap s.heap [] := va_S.rf
  have hoA : ¬ Ax (AX ad) s.heap.size o := fun z => z.elim ho (fun z => absurd (hO 0 _ rfl).lt (Nat.not_lt.mpr z))
  have hl := lv_entry ([.ref (ad 0), .int x1, .int x2, .int x3, .int x4, .int x5, .int x6, .int x7, .ref o]) (n := 10) (Nat.le_of_ble_eq_true rfl)
  rw [lg_entry_eq]
  generalize (lg_sl ([.ref (ad 0), .int x1, .int x2, .int x3, .int x4, .int x5, .int x6, .int x7, .ref o]) ++ List.replicate (10 - (lg_sl ([.ref (ad 0), .int x1, .int x2, .int x3, .int x4, .int x5, .int x6, .int x7, .ref o])).length) Slot.unset).toArray = ls at hl ⊢
  have hl : lv_has ls 10 [(0, .ref (ad 0)), (1, .int x1), (2, .int x2), (3, .int x3), (4, .int x4), (5, .int x5), (6, .int x6), (7, .int x7), (8, .ref o)] := hl
  refine lv_aload C.1 C.2.1 dL_worth_0 (lv_at hl 8 rfl) ?_
  refine lv_iconst (v := 0) C.1 C.2.1 dL_worth_2 (by decide) ?_
  refine lv_aload_n C.1 C.2.1 dL_worth_3 rfl (lv_at hl 0 rfl) ?_
  refine lv_iload_n C.1 C.2.1 dL_worth_4 rfl (lv_at hl 1 rfl) ?_
  refine lv_iload_n C.1 C.2.1 dL_worth_5 rfl (lv_at hl 2 rfl) ?_
  refine lv_iload_n C.1 C.2.1 dL_worth_6 rfl (lv_at hl 3 rfl) ?_
  refine lv_iload C.1 C.2.1 dL_worth_7 (lv_at hl 4 rfl) ?_
  refine lv_iload C.1 C.2.1 dL_worth_9 (lv_at hl 5 rfl) ?_
  refine lv_iload C.1 C.2.1 dL_worth_11 (lv_at hl 6 rfl) ?_
  refine lv_iload C.1 C.2.1 dL_worth_13 (lv_at hl 7 rfl) ?_
  refine vx_calli (vx_runV (As := [.int x1, .int x2, .int x3, .int x4, .int x5, .int x6, .int x7]) (rest := [.int 0, .ref o]) ⟨C.1, C.2.1, C.2.2.1, C.2.2.2.2.1, C.2.2.2.2.2.1⟩ (wx_metT l hfl D cy ad st hJ s.heap.size x1 x2 x3 x4 x5 x6 x7 h) (cwV 7 C.2.2.2.2.2.1 gL_worth_X11_worth rfl rfl rfl (by decide +kernel) ⟨Nat.le_of_ble_eq_true rfl, Nat.le_of_ble_eq_true rfl⟩) ⟨Exs_blind, va_recv hK.1 hP (ci := 11) (q0 := 0) rfl rfl, fun U hU hW => ⟨rfl, ⟨by rw [hU], by rw [hU]; exact hP, Ky_mv (AX_ge hJ) va_S.rf hU hW hK⟩, Exs_mv hE (Nw4_warm hW hE.1) hW.alike (fun q h1 h2 => by rw [hU]) (fun _ _ h => h)⟩⟩ rfl rfl hl.1 rfl (lv_room (Nat.le_of_ble_eq_true rfl)) dL_worth_15 ⟨Nat.le_of_ble_eq_true rfl, Nat.le_of_ble_eq_true rfl⟩) hS (fun q _ h => Or.inl h) (fun q h => Or.inl h) (fun q _ h => Or.inl h) (fun E ce q9 u9 t H1 locs1 ht hvm hpx hBX hz hk hS1 hce hcv hcl => ?_) (fun r9 u9 t H1 locs1 ht hvm hr hB hz hk hS1 => ?_)
  · obtain ⟨e9, hP1⟩ : E = "java/util/NoSuchElementException" ∧ va_P D vwCl (VX cy ad st u') t.heap := hBX
    subst e9
    rw [ht] at hP1
    have hO1 : va_P D vwCl [(o, .inl (cy 1, 1, .inr (.inl f)))] H1 := hO.kept fun k q hq => hk q.1 (hO k q hq).lt (by rw [oat hq]; exact hoA)
    refine catch1 C.2.2.2.2.1 ⟨0, 20, 23, 13⟩ htab (by decide) (by decide) (C.2.2.2.2.2.1 _ mLW_0) (va_tabs rfl rfl hE.1.1) hce hcv hcl ?_
    refine lv_astore (lv' := [(9, .ref q9), (0, .ref (ad 0)), (1, .int x1), (2, .int x2), (3, .int x3), (4, .int x4), (5, .int x5), (6, .int x6), (7, .int x7), (8, .ref o)]) C.1 C.2.1 dL_worth_23 hl (by decide) rfl (fun ls hl => ?_)
    refine lv_iconst (v := 1) C.1 C.2.1 dL_worth_25 (by decide) ?_
    exact W.cs (cells' := 1) (slots' := 6) rfl rfl (W.iret C.1 C.2.1 C.2.2.2.1 (fun t9 ht9 _ => ⟨⟨1, f, rfl, ⟨rfl, rfl⟩, by rw [ht9]; exact hP1, by rw [ht9]; exact hO1⟩, hS1.F ht9⟩) hS1.2.2 dL_worth_26 C.2.2.2.2.2.2)
  · exact (show False from hr).elim
