set_option maxHeartbeats 4000000 in
set_option maxRecDepth 100000 in
theorem case_20 {p : Program} {e : Env} {s : State} {m : MethodId} {below : List Frame} {meth : Method} {c : Code} (l : Launch) (hfl : l.stackTraces = false) {b L : Nat} {xs : Nat → Int32} {D : va_G} {cy : Nat → ClassId} {st aM : Nat → Nat} {o x0 : Nat} {aX : Nat → Nat} {u v : SX} {f : Nat → Int64} {H : Heap} {locs : List Loc} {ls : Array Slot} {i : Int32} {cells slots : Nat} {Q : State → Prop} (F : LF p s m meth c b L xs D cy st aM o) (I : LI s D cy st aM o x0 aX u v f H locs) (hi0 : 0 ≤ i.toInt) (hi9 : i.toInt + 9 ≤ (L : Int)) (hcl : cells + 2 ≤ room_1.cells) (hsl : slots + 122 ≤ room_1.slots) (hl : lv_has ls 7 [(0, .ref b), (1, .ref x0), (2, .ref (aM 0)), (3, .ref o), (4, .int i)]) (kk : ∀ (aX : Nat → Nat) (u v : SX) (f : Nat → Int64) (H : Heap) (locs : List Loc) (ls : Array Slot), LI s D cy st aM o x0 aX u v f H locs → lv_has ls 7 [(0, .ref b), (1, .ref x0), (2, .ref (aM 0)), (3, .ref o), (4, .int i)] → W p l e room_1 s m #[Value.ref b] below meth c H locs (cells + 2) (slots + 122) Q (F0 m 1930 ls [])) : W p l e room_1 s m #[Value.ref b] below meth c H locs cells slots Q (F0 m 1281 ls []) := by
  obtain ⟨C0, hL, hK, hJM, hAM, hoM, hso, hst, hE, hCL⟩ := F
  obtain ⟨hx, hb, hr, hml, hown, hts0, hX, hbl, hlocks, hgv⟩ := C0
  obtain ⟨hx0, hJX, hAX, hdis, hoX, hPX, hPM, hPo, hS, hIX, hIM, hEv, htie, hrow, htape, hcnt, hpar⟩ := I
  have hts : ∀ w ∈ wsL_law, w.before #[Value.ref b] s = true := fun w h => hts0 w (wsL_law_in w h)
  have hbA : ¬ (fun q : Nat => s.heap.size ≤ q) b := Nat.not_le.mpr hbl
  have hA0 : ∀ q, (fun q : Nat => s.heap.size ≤ q) q → st 100 ≤ q := fun q h => by rw [hst]; exact h
  have hfit : cells ≤ room_1.cells ∧ slots ≤ room_1.slots := ⟨Nat.le_trans (Nat.le_add_right _ _) hcl, Nat.le_trans (Nat.le_add_right _ _) hsl⟩
  subst hx0
  obtain ⟨y1, hy1⟩ : ∃ y, xs (i + 1).toNatClampNeg = y := ⟨_, rfl⟩
  have hin1 : vp_in (i + 1) L := in9 (show (1 : Int32).toInt = 1 by decide) hi0 hi9 hL (by decide) (by decide)
  obtain ⟨y2, hy2⟩ : ∃ y, xs (i + 2).toNatClampNeg = y := ⟨_, rfl⟩
  have hin2 : vp_in (i + 2) L := in9 (show (2 : Int32).toInt = 2 by decide) hi0 hi9 hL (by decide) (by decide)
  refine lv_aload_n hx hb dL_law_1281 rfl (lv_at hl 1 rfl) ?_
  refine lv_aload_n hx hb dL_law_1282 rfl (lv_at hl 0 rfl) ?_
  refine lv_iload hx hb dL_law_1283 (lv_at hl 4 rfl) ?_
  refine lv_iconst (v := 1) hx hb dL_law_1285 (by decide) ?_
  refine lv_iadd hx hb dL_law_1286 ?_
  refine sld9 (v := y1) hx hb hX hbl hbA hS hin1 hy1 dL_law_1287 ?_
  refine lv_aload_n hx hb dL_law_1288 rfl (lv_at hl 0 rfl) ?_
  refine lv_iload hx hb dL_law_1289 (lv_at hl 4 rfl) ?_
  refine lv_iconst (v := 2) hx hb dL_law_1291 (by decide) ?_
  refine lv_iadd hx hb dL_law_1292 ?_
  refine sld9 (v := y2) hx hb hX hbl hbA hS hin2 hy2 dL_law_1293 ?_
  obtain ⟨⟨r, uA⟩, hfX, hqX⟩ := tfX11_narrows_0 y1 y2 u hIX
  refine lg_i (V := VX cy aX st) (Ad := AX aX) (As := [.int y1, .int y2]) (rest := []) ⟨hx, hb, hml, hown, fun w h => hts0 w (gw_X11_narrows w h)⟩ hA0 hK hPX hS (fun q h => h.elim (hAX q) (fun z => Nat.le_trans hS.1 z)) (metX11_narrows_0 l D cy aX st hJX H.size y1 y2 hfX) (cwV 2 (fun w h => hts0 w (gw_X11_narrows w h)) gx_X11_narrows rfl rfl rfl (by decide +kernel) ⟨Nat.le_of_ble_eq_true rfl, Nat.le_of_ble_eq_true rfl⟩) 0 11 rfl rfl rfl hl.1 rfl (Nat.le_of_ble_eq_true rfl) dL_law_1294 hfit (fun H1 locs1 hP1 hkeep hS1 => ?_)
  have hPM1 := hkeep _ hPM (fun k q hq => hdis _ (VM_mem hq))
  have hPo1 := hkeep _ hPo (fun k q hq => by rw [oat hq]; exact hoX)
  have hIX1 : IX uA := hqX.1.1
  have hFX := hqX.1.2
  have hfrX := hqX.1.2.1
  have hrwX := hqX.1.2.2.1
  clear hPX hPM hPo hS hkeep
  have hPX := hP1
  have hPM := hPM1
  have hPo := hPo1
  have hS := hS1
  clear hP1 hPM1 hPo1 hS1 hqX
  generalize H1 = H at hPX hPo hPM hS ⊢
  generalize locs1 = locs at hS ⊢
  refine lv_pop hx hb dL_law_1297 rfl ?_
  refine lv_aload_n hx hb dL_law_1298 rfl (lv_at hl 2 rfl) ?_
  refine lv_aload_n hx hb dL_law_1299 rfl (lv_at hl 0 rfl) ?_
  refine lv_iload hx hb dL_law_1300 (lv_at hl 4 rfl) ?_
  refine lv_iconst (v := 1) hx hb dL_law_1302 (by decide) ?_
  refine lv_iadd hx hb dL_law_1303 ?_
  refine sld9 (v := y1) hx hb hX hbl hbA hS hin1 hy1 dL_law_1304 ?_
  refine lv_aload_n hx hb dL_law_1305 rfl (lv_at hl 0 rfl) ?_
  refine lv_iload hx hb dL_law_1306 (lv_at hl 4 rfl) ?_
  refine lv_iconst (v := 2) hx hb dL_law_1308 (by decide) ?_
  refine lv_iadd hx hb dL_law_1309 ?_
  refine sld9 (v := y2) hx hb hX hbl hbA hS hin2 hy2 dL_law_1310 ?_
  obtain ⟨⟨rM, vA⟩, hfM, hqM⟩ := tfX12_narrows_0 y1 y2 v hIM
  refine lg_i (V := VM cy aM st) (Ad := AM aM) (As := [.int y1, .int y2]) (rest := []) ⟨hx, hb, hml, hown, fun w h => hts0 w (gw_X12_narrows w h)⟩ hA0 hK hPM hS (fun q h => h.elim (hAM q) (fun z => Nat.le_trans hS.1 z)) (metX12_narrows_0 l D cy aM st hJM H.size y1 y2 hfM) (cwV 2 (fun w h => hts0 w (gw_X12_narrows w h)) gx_X12_narrows rfl rfl rfl (by decide +kernel) ⟨Nat.le_of_ble_eq_true rfl, Nat.le_of_ble_eq_true rfl⟩) 0 12 rfl rfl rfl hl.1 rfl (Nat.le_of_ble_eq_true rfl) dL_law_1311 hfit (fun H1 locs1 hP1 hkeep hS1 => ?_)
  have hPX1 := hkeep _ hPX (fun k q hq hz => hdis _ hz ⟨k, (VX_adr hq).1⟩)
  have hPo1 := hkeep _ hPo (fun k q hq => by rw [oat hq]; exact hoM)
  have hEv1 : EvM vA := EvM_fr (hqM.1.2.1 13 (by decide)) (hqM.1.2.1 14 (by decide)) (hqM.1.2.1 21 (by decide)) (hqM.1.2.2.1 33 (by decide)) hEv
  have htie1 : Tie uA vA := Tie_fr hfrX hqM.1.2.1 (by decide) htie
  have hrow1 : TieR uA vA := TieR_fr (hfrX 36 (by decide)) (hrwX 63 (by decide)) (hrwX 64 (by decide)) (hrwX 65 (by decide)) (hqM.1.2.2.1 36 (by decide)) (hqM.1.2.2.1 37 (by decide)) (hqM.1.2.2.1 38 (by decide)) hrow
  have htape1 : TieT uA vA := TieT_fr (hfrX 1 (by decide)) (hrwX 13 (by decide)) (hqM.1.2.1 3 (by decide)) (hqM.1.2.2.1 1 (by decide)) htape
  have hcnt1 : TieC uA vA := TieC_fr (hfrX 5 (by decide)) (hfrX 6 (by decide)) (hfrX 7 (by decide)) (hqM.1.2.2.1 4 (by decide)) hcnt
  have hpar1 : TieP uA vA := TieP_fr (hfrX 8 (by decide)) (hfrX 29 (by decide)) (hfrX 9 (by decide)) (hfrX 0 (by decide)) (hrwX 52 (by decide)) (hqM.1.2.1 12 (by decide)) (hqM.1.2.1 21 (by decide)) (hqM.1.2.1 14 (by decide)) (hqM.1.2.2.1 33 (by decide)) hpar
  have hIM1 : IM vA := hqM.1.1
  clear hPX hPM hPo hS hIM hEv htie hrow htape hcnt hpar hkeep hfrX hrwX hIX
  have hPX := hPX1
  have hPM := hP1
  have hPo := hPo1
  have hS := hS1
  have hIM := hIM1
  have hEv := hEv1
  have htie := htie1
  have hrow := hrow1
  have htape := htape1
  have hcnt := hcnt1
  have hpar := hpar1
  have hIX := hIX1
  clear hIX1
  clear hP1 hPX1 hPo1 hS1 hIM1 hEv1 htie1 hrow1 htape1 hcnt1 hpar1 hqM
  generalize H1 = H at hPX hPo hPM hS ⊢
  generalize locs1 = locs at hS ⊢
  refine lv_pop hx hb dL_law_1314 rfl ?_
  refine lv_goto (tgt := 1930) hx hb dL_law_1315 (by decide) ?_
  refine W.widen (k := cells + 2) (n := slots + 122) (Nat.le_add_right _ _) (Nat.le_add_right _ _) ?_
  exact kk aX uA vA f H locs ls ⟨rfl, hJX, hAX, hdis, hoX, hPX, hPM, hPo, hS, hIX, hIM, hEv, htie, hrow, htape, hcnt, hpar⟩ hl
set_option maxHeartbeats 4000000 in
set_option maxRecDepth 100000 in
theorem case_21 {p : Program} {e : Env} {s : State} {m : MethodId} {below : List Frame} {meth : Method} {c : Code} (l : Launch) (hfl : l.stackTraces = false) {b L : Nat} {xs : Nat → Int32} {D : va_G} {cy : Nat → ClassId} {st aM : Nat → Nat} {o x0 : Nat} {aX : Nat → Nat} {u v : SX} {f : Nat → Int64} {H : Heap} {locs : List Loc} {ls : Array Slot} {i : Int32} {cells slots : Nat} {Q : State → Prop} (F : LF p s m meth c b L xs D cy st aM o) (I : LI s D cy st aM o x0 aX u v f H locs) (hi0 : 0 ≤ i.toInt) (hi9 : i.toInt + 9 ≤ (L : Int)) (hcl : cells + 2 ≤ room_1.cells) (hsl : slots + 122 ≤ room_1.slots) (hl : lv_has ls 7 [(0, .ref b), (1, .ref x0), (2, .ref (aM 0)), (3, .ref o), (4, .int i)]) (kk : ∀ (aX : Nat → Nat) (u v : SX) (f : Nat → Int64) (H : Heap) (locs : List Loc) (ls : Array Slot), LI s D cy st aM o x0 aX u v f H locs → lv_has ls 7 [(0, .ref b), (1, .ref x0), (2, .ref (aM 0)), (3, .ref o), (4, .int i)] → W p l e room_1 s m #[Value.ref b] below meth c H locs (cells + 2) (slots + 122) Q (F0 m 1930 ls [])) : W p l e room_1 s m #[Value.ref b] below meth c H locs cells slots Q (F0 m 1318 ls []) := by
  obtain ⟨C0, hL, hK, hJM, hAM, hoM, hso, hst, hE, hCL⟩ := F
  obtain ⟨hx, hb, hr, hml, hown, hts0, hX, hbl, hlocks, hgv⟩ := C0
  obtain ⟨hx0, hJX, hAX, hdis, hoX, hPX, hPM, hPo, hS, hIX, hIM, hEv, htie, hrow, htape, hcnt, hpar⟩ := I
  have hts : ∀ w ∈ wsL_law, w.before #[Value.ref b] s = true := fun w h => hts0 w (wsL_law_in w h)
  have hbA : ¬ (fun q : Nat => s.heap.size ≤ q) b := Nat.not_le.mpr hbl
  have hA0 : ∀ q, (fun q : Nat => s.heap.size ≤ q) q → st 100 ≤ q := fun q h => by rw [hst]; exact h
  have hfit : cells ≤ room_1.cells ∧ slots ≤ room_1.slots := ⟨Nat.le_trans (Nat.le_add_right _ _) hcl, Nat.le_trans (Nat.le_add_right _ _) hsl⟩
  subst hx0
  refine lv_aload_n hx hb dL_law_1318 rfl (lv_at hl 1 rfl) ?_
  obtain ⟨⟨r, uA⟩, hfX, hqX⟩ := tfX11_nothing_0  u hIX
  refine lg_i (V := VX cy aX st) (Ad := AX aX) (As := []) (rest := []) ⟨hx, hb, hml, hown, fun w h => hts0 w (gw_X11_nothing w h)⟩ hA0 hK hPX hS (fun q h => h.elim (hAX q) (fun z => Nat.le_trans hS.1 z)) (metX11_nothing_0 l D cy aX st hJX H.size  hfX) (cwV 0 (fun w h => hts0 w (gw_X11_nothing w h)) gx_X11_nothing rfl rfl rfl (by decide +kernel) ⟨Nat.le_of_ble_eq_true rfl, Nat.le_of_ble_eq_true rfl⟩) 0 11 rfl rfl rfl hl.1 rfl (Nat.le_of_ble_eq_true rfl) dL_law_1319 hfit (fun H1 locs1 hP1 hkeep hS1 => ?_)
  have hPM1 := hkeep _ hPM (fun k q hq => hdis _ (VM_mem hq))
  have hPo1 := hkeep _ hPo (fun k q hq => by rw [oat hq]; exact hoX)
  have hIX1 : IX uA := hqX.1.1
  have hFX := hqX.1.2
  have hfrX := hqX.1.2.1
  have hrwX := hqX.1.2.2.1
  clear hPX hPM hPo hS hkeep
  have hPX := hP1
  have hPM := hPM1
  have hPo := hPo1
  have hS := hS1
  clear hP1 hPM1 hPo1 hS1 hqX
  generalize H1 = H at hPX hPo hPM hS ⊢
  generalize locs1 = locs at hS ⊢
  refine lv_pop hx hb dL_law_1322 rfl ?_
  refine lv_aload_n hx hb dL_law_1323 rfl (lv_at hl 2 rfl) ?_
  obtain ⟨⟨rM, vA⟩, hfM, hqM⟩ := tfX12_nothing_0  v hIM
  refine lg_i (V := VM cy aM st) (Ad := AM aM) (As := []) (rest := []) ⟨hx, hb, hml, hown, fun w h => hts0 w (gw_X12_nothing w h)⟩ hA0 hK hPM hS (fun q h => h.elim (hAM q) (fun z => Nat.le_trans hS.1 z)) (metX12_nothing_0 l D cy aM st hJM H.size  hfM) (cwV 0 (fun w h => hts0 w (gw_X12_nothing w h)) gx_X12_nothing rfl rfl rfl (by decide +kernel) ⟨Nat.le_of_ble_eq_true rfl, Nat.le_of_ble_eq_true rfl⟩) 0 12 rfl rfl rfl hl.1 rfl (Nat.le_of_ble_eq_true rfl) dL_law_1324 hfit (fun H1 locs1 hP1 hkeep hS1 => ?_)
  have hPX1 := hkeep _ hPX (fun k q hq hz => hdis _ hz ⟨k, (VX_adr hq).1⟩)
  have hPo1 := hkeep _ hPo (fun k q hq => by rw [oat hq]; exact hoM)
  have hEv1 : EvM vA := EvM_fr (hqM.1.2.1 13 (by decide)) (hqM.1.2.1 14 (by decide)) (hqM.1.2.1 21 (by decide)) (hqM.1.2.2.1 33 (by decide)) hEv
  have htie1 : Tie uA vA := Tie_fr hfrX hqM.1.2.1 (by decide) htie
  have hrow1 : TieR uA vA := TieR_fr (hfrX 36 (by decide)) (hrwX 63 (by decide)) (hrwX 64 (by decide)) (hrwX 65 (by decide)) (hqM.1.2.2.1 36 (by decide)) (hqM.1.2.2.1 37 (by decide)) (hqM.1.2.2.1 38 (by decide)) hrow
  have htape1 : TieT uA vA := TieT_fr (hfrX 1 (by decide)) (hrwX 13 (by decide)) (hqM.1.2.1 3 (by decide)) (hqM.1.2.2.1 1 (by decide)) htape
  have hcnt1 : TieC uA vA := TieC_fr (hfrX 5 (by decide)) (hfrX 6 (by decide)) (hfrX 7 (by decide)) (hqM.1.2.2.1 4 (by decide)) hcnt
  have hpar1 : TieP uA vA := TieP_fr (hfrX 8 (by decide)) (hfrX 29 (by decide)) (hfrX 9 (by decide)) (hfrX 0 (by decide)) (hrwX 52 (by decide)) (hqM.1.2.1 12 (by decide)) (hqM.1.2.1 21 (by decide)) (hqM.1.2.1 14 (by decide)) (hqM.1.2.2.1 33 (by decide)) hpar
  have hIM1 : IM vA := hqM.1.1
  clear hPX hPM hPo hS hIM hEv htie hrow htape hcnt hpar hkeep hfrX hrwX hIX
  have hPX := hPX1
  have hPM := hP1
  have hPo := hPo1
  have hS := hS1
  have hIM := hIM1
  have hEv := hEv1
  have htie := htie1
  have hrow := hrow1
  have htape := htape1
  have hcnt := hcnt1
  have hpar := hpar1
  have hIX := hIX1
  clear hIX1
  clear hP1 hPX1 hPo1 hS1 hIM1 hEv1 htie1 hrow1 htape1 hcnt1 hpar1 hqM
  generalize H1 = H at hPX hPo hPM hS ⊢
  generalize locs1 = locs at hS ⊢
  refine lv_pop hx hb dL_law_1327 rfl ?_
  refine lv_goto (tgt := 1930) hx hb dL_law_1328 (by decide) ?_
  refine W.widen (k := cells + 2) (n := slots + 122) (Nat.le_add_right _ _) (Nat.le_add_right _ _) ?_
  exact kk aX uA vA f H locs ls ⟨rfl, hJX, hAX, hdis, hoX, hPX, hPM, hPo, hS, hIX, hIM, hEv, htie, hrow, htape, hcnt, hpar⟩ hl
set_option maxHeartbeats 4000000 in
set_option maxRecDepth 100000 in
theorem case_22 {p : Program} {e : Env} {s : State} {m : MethodId} {below : List Frame} {meth : Method} {c : Code} (l : Launch) (hfl : l.stackTraces = false) {b L : Nat} {xs : Nat → Int32} {D : va_G} {cy : Nat → ClassId} {st aM : Nat → Nat} {o x0 : Nat} {aX : Nat → Nat} {u v : SX} {f : Nat → Int64} {H : Heap} {locs : List Loc} {ls : Array Slot} {i : Int32} {cells slots : Nat} {Q : State → Prop} (F : LF p s m meth c b L xs D cy st aM o) (I : LI s D cy st aM o x0 aX u v f H locs) (hi0 : 0 ≤ i.toInt) (hi9 : i.toInt + 9 ≤ (L : Int)) (hcl : cells + 2 ≤ room_1.cells) (hsl : slots + 122 ≤ room_1.slots) (hl : lv_has ls 7 [(0, .ref b), (1, .ref x0), (2, .ref (aM 0)), (3, .ref o), (4, .int i)]) (kk : ∀ (aX : Nat → Nat) (u v : SX) (f : Nat → Int64) (H : Heap) (locs : List Loc) (ls : Array Slot), LI s D cy st aM o x0 aX u v f H locs → lv_has ls 7 [(0, .ref b), (1, .ref x0), (2, .ref (aM 0)), (3, .ref o), (4, .int i)] → W p l e room_1 s m #[Value.ref b] below meth c H locs (cells + 2) (slots + 122) Q (F0 m 1930 ls [])) : W p l e room_1 s m #[Value.ref b] below meth c H locs cells slots Q (F0 m 1331 ls []) := by
  obtain ⟨C0, hL, hK, hJM, hAM, hoM, hso, hst, hE, hCL⟩ := F
  obtain ⟨hx, hb, hr, hml, hown, hts0, hX, hbl, hlocks, hgv⟩ := C0
  obtain ⟨hx0, hJX, hAX, hdis, hoX, hPX, hPM, hPo, hS, hIX, hIM, hEv, htie, hrow, htape, hcnt, hpar⟩ := I
  have hts : ∀ w ∈ wsL_law, w.before #[Value.ref b] s = true := fun w h => hts0 w (wsL_law_in w h)
  have hbA : ¬ (fun q : Nat => s.heap.size ≤ q) b := Nat.not_le.mpr hbl
  have hA0 : ∀ q, (fun q : Nat => s.heap.size ≤ q) q → st 100 ≤ q := fun q h => by rw [hst]; exact h
  have hfit : cells ≤ room_1.cells ∧ slots ≤ room_1.slots := ⟨Nat.le_trans (Nat.le_add_right _ _) hcl, Nat.le_trans (Nat.le_add_right _ _) hsl⟩
  subst hx0
  obtain ⟨y1, hy1⟩ : ∃ y, xs (i + 1).toNatClampNeg = y := ⟨_, rfl⟩
  have hin1 : vp_in (i + 1) L := in9 (show (1 : Int32).toInt = 1 by decide) hi0 hi9 hL (by decide) (by decide)
  obtain ⟨y2, hy2⟩ : ∃ y, xs (i + 2).toNatClampNeg = y := ⟨_, rfl⟩
  have hin2 : vp_in (i + 2) L := in9 (show (2 : Int32).toInt = 2 by decide) hi0 hi9 hL (by decide) (by decide)
  obtain ⟨y3, hy3⟩ : ∃ y, xs (i + 3).toNatClampNeg = y := ⟨_, rfl⟩
  have hin3 : vp_in (i + 3) L := in9 (show (3 : Int32).toInt = 3 by decide) hi0 hi9 hL (by decide) (by decide)
  refine lv_aload_n hx hb dL_law_1331 rfl (lv_at hl 1 rfl) ?_
  refine lv_aload_n hx hb dL_law_1332 rfl (lv_at hl 0 rfl) ?_
  refine lv_iload hx hb dL_law_1333 (lv_at hl 4 rfl) ?_
  refine lv_iconst (v := 1) hx hb dL_law_1335 (by decide) ?_
  refine lv_iadd hx hb dL_law_1336 ?_
  refine sld9 (v := y1) hx hb hX hbl hbA hS hin1 hy1 dL_law_1337 ?_
  refine lv_aload_n hx hb dL_law_1338 rfl (lv_at hl 0 rfl) ?_
  refine lv_iload hx hb dL_law_1339 (lv_at hl 4 rfl) ?_
  refine lv_iconst (v := 2) hx hb dL_law_1341 (by decide) ?_
  refine lv_iadd hx hb dL_law_1342 ?_
  refine sld9 (v := y2) hx hb hX hbl hbA hS hin2 hy2 dL_law_1343 ?_
  refine lv_aload_n hx hb dL_law_1344 rfl (lv_at hl 0 rfl) ?_
  refine lv_iload hx hb dL_law_1345 (lv_at hl 4 rfl) ?_
  refine lv_iconst (v := 3) hx hb dL_law_1347 (by decide) ?_
  refine lv_iadd hx hb dL_law_1348 ?_
  refine sld9 (v := y3) hx hb hX hbl hbA hS hin3 hy3 dL_law_1349 ?_
  obtain ⟨⟨r, uA⟩, hfX, hqX⟩ := tfX11_plan_0 y1 y2 y3 u hIX
  refine lg_i (V := VX cy aX st) (Ad := AX aX) (As := [.int y1, .int y2, .int y3]) (rest := []) ⟨hx, hb, hml, hown, fun w h => hts0 w (gw_X11_plan w h)⟩ hA0 hK hPX hS (fun q h => h.elim (hAX q) (fun z => Nat.le_trans hS.1 z)) (metX11_plan_0 l D cy aX st hJX H.size y1 y2 y3 hfX) (cwV 3 (fun w h => hts0 w (gw_X11_plan w h)) gx_X11_plan rfl rfl rfl (by decide +kernel) ⟨Nat.le_of_ble_eq_true rfl, Nat.le_of_ble_eq_true rfl⟩) 0 11 rfl rfl rfl hl.1 rfl (Nat.le_of_ble_eq_true rfl) dL_law_1350 hfit (fun H1 locs1 hP1 hkeep hS1 => ?_)
  have hPM1 := hkeep _ hPM (fun k q hq => hdis _ (VM_mem hq))
  have hPo1 := hkeep _ hPo (fun k q hq => by rw [oat hq]; exact hoX)
  have hIX1 : IX uA := hqX.1.1
  have hFX := hqX.1.2
  have hfrX := hqX.1.2.1
  have hrwX := hqX.1.2.2.1
  clear hPX hPM hPo hS hkeep
  have hPX := hP1
  have hPM := hPM1
  have hPo := hPo1
  have hS := hS1
  clear hP1 hPM1 hPo1 hS1 hqX
  generalize H1 = H at hPX hPo hPM hS ⊢
  generalize locs1 = locs at hS ⊢
  refine lv_pop hx hb dL_law_1353 rfl ?_
  refine lv_aload_n hx hb dL_law_1354 rfl (lv_at hl 2 rfl) ?_
  refine lv_aload_n hx hb dL_law_1355 rfl (lv_at hl 0 rfl) ?_
  refine lv_iload hx hb dL_law_1356 (lv_at hl 4 rfl) ?_
  refine lv_iconst (v := 1) hx hb dL_law_1358 (by decide) ?_
  refine lv_iadd hx hb dL_law_1359 ?_
  refine sld9 (v := y1) hx hb hX hbl hbA hS hin1 hy1 dL_law_1360 ?_
  refine lv_aload_n hx hb dL_law_1361 rfl (lv_at hl 0 rfl) ?_
  refine lv_iload hx hb dL_law_1362 (lv_at hl 4 rfl) ?_
  refine lv_iconst (v := 2) hx hb dL_law_1364 (by decide) ?_
  refine lv_iadd hx hb dL_law_1365 ?_
  refine sld9 (v := y2) hx hb hX hbl hbA hS hin2 hy2 dL_law_1366 ?_
  refine lv_aload_n hx hb dL_law_1367 rfl (lv_at hl 0 rfl) ?_
  refine lv_iload hx hb dL_law_1368 (lv_at hl 4 rfl) ?_
  refine lv_iconst (v := 3) hx hb dL_law_1370 (by decide) ?_
  refine lv_iadd hx hb dL_law_1371 ?_
  refine sld9 (v := y3) hx hb hX hbl hbA hS hin3 hy3 dL_law_1372 ?_
  obtain ⟨⟨rM, vA⟩, hfM, hqM⟩ := tfX12_plan_0 y1 y2 y3 v hIM
  refine lg_i (V := VM cy aM st) (Ad := AM aM) (As := [.int y1, .int y2, .int y3]) (rest := []) ⟨hx, hb, hml, hown, fun w h => hts0 w (gw_X12_plan w h)⟩ hA0 hK hPM hS (fun q h => h.elim (hAM q) (fun z => Nat.le_trans hS.1 z)) (metX12_plan_0 l D cy aM st hJM H.size y1 y2 y3 hfM) (cwV 3 (fun w h => hts0 w (gw_X12_plan w h)) gx_X12_plan rfl rfl rfl (by decide +kernel) ⟨Nat.le_of_ble_eq_true rfl, Nat.le_of_ble_eq_true rfl⟩) 0 12 rfl rfl rfl hl.1 rfl (Nat.le_of_ble_eq_true rfl) dL_law_1373 hfit (fun H1 locs1 hP1 hkeep hS1 => ?_)
  have hPX1 := hkeep _ hPX (fun k q hq hz => hdis _ hz ⟨k, (VX_adr hq).1⟩)
  have hPo1 := hkeep _ hPo (fun k q hq => by rw [oat hq]; exact hoM)
  have hEv1 : EvM vA := EvM_fr (hqM.1.2.1 13 (by decide)) (hqM.1.2.1 14 (by decide)) (hqM.1.2.1 21 (by decide)) (hqM.1.2.2.1 33 (by decide)) hEv
  have htie1 : Tie uA vA := Tie_fr hfrX hqM.1.2.1 (by decide) htie
  have hrow1 : TieR uA vA := TieR_fr (hfrX 36 (by decide)) (hrwX 63 (by decide)) (hrwX 64 (by decide)) (hrwX 65 (by decide)) (hqM.1.2.2.1 36 (by decide)) (hqM.1.2.2.1 37 (by decide)) (hqM.1.2.2.1 38 (by decide)) hrow
  have htape1 : TieT uA vA := TieT_fr (hfrX 1 (by decide)) (hrwX 13 (by decide)) (hqM.1.2.1 3 (by decide)) (hqM.1.2.2.1 1 (by decide)) htape
  have hcnt1 : TieC uA vA := TieC_fr (hfrX 5 (by decide)) (hfrX 6 (by decide)) (hfrX 7 (by decide)) (hqM.1.2.2.1 4 (by decide)) hcnt
  have hpar1 : TieP uA vA := TieP_fr (hfrX 8 (by decide)) (hfrX 29 (by decide)) (hfrX 9 (by decide)) (hfrX 0 (by decide)) (hrwX 52 (by decide)) (hqM.1.2.1 12 (by decide)) (hqM.1.2.1 21 (by decide)) (hqM.1.2.1 14 (by decide)) (hqM.1.2.2.1 33 (by decide)) hpar
  have hIM1 : IM vA := hqM.1.1
  clear hPX hPM hPo hS hIM hEv htie hrow htape hcnt hpar hkeep hfrX hrwX hIX
  have hPX := hPX1
  have hPM := hP1
  have hPo := hPo1
  have hS := hS1
  have hIM := hIM1
  have hEv := hEv1
  have htie := htie1
  have hrow := hrow1
  have htape := htape1
  have hcnt := hcnt1
  have hpar := hpar1
  have hIX := hIX1
  clear hIX1
  clear hP1 hPX1 hPo1 hS1 hIM1 hEv1 htie1 hrow1 htape1 hcnt1 hpar1 hqM
  generalize H1 = H at hPX hPo hPM hS ⊢
  generalize locs1 = locs at hS ⊢
  refine lv_pop hx hb dL_law_1376 rfl ?_
  refine lv_goto (tgt := 1930) hx hb dL_law_1377 (by decide) ?_
  refine W.widen (k := cells + 2) (n := slots + 122) (Nat.le_add_right _ _) (Nat.le_add_right _ _) ?_
  exact kk aX uA vA f H locs ls ⟨rfl, hJX, hAX, hdis, hoX, hPX, hPM, hPo, hS, hIX, hIM, hEv, htie, hrow, htape, hcnt, hpar⟩ hl
set_option maxHeartbeats 4000000 in
set_option maxRecDepth 100000 in
theorem case_23 {p : Program} {e : Env} {s : State} {m : MethodId} {below : List Frame} {meth : Method} {c : Code} (l : Launch) (hfl : l.stackTraces = false) {b L : Nat} {xs : Nat → Int32} {D : va_G} {cy : Nat → ClassId} {st aM : Nat → Nat} {o x0 : Nat} {aX : Nat → Nat} {u v : SX} {f : Nat → Int64} {H : Heap} {locs : List Loc} {ls : Array Slot} {i : Int32} {cells slots : Nat} {Q : State → Prop} (F : LF p s m meth c b L xs D cy st aM o) (I : LI s D cy st aM o x0 aX u v f H locs) (hi0 : 0 ≤ i.toInt) (hi9 : i.toInt + 9 ≤ (L : Int)) (hcl : cells + 2 ≤ room_1.cells) (hsl : slots + 122 ≤ room_1.slots) (hl : lv_has ls 7 [(0, .ref b), (1, .ref x0), (2, .ref (aM 0)), (3, .ref o), (4, .int i)]) (kk : ∀ (aX : Nat → Nat) (u v : SX) (f : Nat → Int64) (H : Heap) (locs : List Loc) (ls : Array Slot), LI s D cy st aM o x0 aX u v f H locs → lv_has ls 7 [(0, .ref b), (1, .ref x0), (2, .ref (aM 0)), (3, .ref o), (4, .int i)] → W p l e room_1 s m #[Value.ref b] below meth c H locs (cells + 2) (slots + 122) Q (F0 m 1930 ls [])) : W p l e room_1 s m #[Value.ref b] below meth c H locs cells slots Q (F0 m 1380 ls []) := by
  obtain ⟨C0, hL, hK, hJM, hAM, hoM, hso, hst, hE, hCL⟩ := F
  obtain ⟨hx, hb, hr, hml, hown, hts0, hX, hbl, hlocks, hgv⟩ := C0
  obtain ⟨hx0, hJX, hAX, hdis, hoX, hPX, hPM, hPo, hS, hIX, hIM, hEv, htie, hrow, htape, hcnt, hpar⟩ := I
  have hts : ∀ w ∈ wsL_law, w.before #[Value.ref b] s = true := fun w h => hts0 w (wsL_law_in w h)
  have hbA : ¬ (fun q : Nat => s.heap.size ≤ q) b := Nat.not_le.mpr hbl
  have hA0 : ∀ q, (fun q : Nat => s.heap.size ≤ q) q → st 100 ≤ q := fun q h => by rw [hst]; exact h
  have hfit : cells ≤ room_1.cells ∧ slots ≤ room_1.slots := ⟨Nat.le_trans (Nat.le_add_right _ _) hcl, Nat.le_trans (Nat.le_add_right _ _) hsl⟩
  subst hx0
  obtain ⟨y1, hy1⟩ : ∃ y, xs (i + 1).toNatClampNeg = y := ⟨_, rfl⟩
  have hin1 : vp_in (i + 1) L := in9 (show (1 : Int32).toInt = 1 by decide) hi0 hi9 hL (by decide) (by decide)
  obtain ⟨y2, hy2⟩ : ∃ y, xs (i + 2).toNatClampNeg = y := ⟨_, rfl⟩
  have hin2 : vp_in (i + 2) L := in9 (show (2 : Int32).toInt = 2 by decide) hi0 hi9 hL (by decide) (by decide)
  refine lv_aload_n hx hb dL_law_1380 rfl (lv_at hl 1 rfl) ?_
  refine lv_aload_n hx hb dL_law_1381 rfl (lv_at hl 0 rfl) ?_
  refine lv_iload hx hb dL_law_1382 (lv_at hl 4 rfl) ?_
  refine lv_iconst (v := 1) hx hb dL_law_1384 (by decide) ?_
  refine lv_iadd hx hb dL_law_1385 ?_
  refine sld9 (v := y1) hx hb hX hbl hbA hS hin1 hy1 dL_law_1386 ?_
  refine lv_aload_n hx hb dL_law_1387 rfl (lv_at hl 0 rfl) ?_
  refine lv_iload hx hb dL_law_1388 (lv_at hl 4 rfl) ?_
  refine lv_iconst (v := 2) hx hb dL_law_1390 (by decide) ?_
  refine lv_iadd hx hb dL_law_1391 ?_
  refine sld9 (v := y2) hx hb hX hbl hbA hS hin2 hy2 dL_law_1392 ?_
  obtain ⟨⟨r, uA⟩, hfX, hqX⟩ := tfX11_judge_0 y1 y2 u hIX
  refine lg_i (V := VX cy aX st) (Ad := AX aX) (As := [.int y1, .int y2]) (rest := []) ⟨hx, hb, hml, hown, fun w h => hts0 w (gw_X11_judge w h)⟩ hA0 hK hPX hS (fun q h => h.elim (hAX q) (fun z => Nat.le_trans hS.1 z)) (metX11_judge_0 l D cy aX st hJX H.size y1 y2 hfX) (cwV 2 (fun w h => hts0 w (gw_X11_judge w h)) gx_X11_judge rfl rfl rfl (by decide +kernel) ⟨Nat.le_of_ble_eq_true rfl, Nat.le_of_ble_eq_true rfl⟩) 0 11 rfl rfl rfl hl.1 rfl (Nat.le_of_ble_eq_true rfl) dL_law_1393 hfit (fun H1 locs1 hP1 hkeep hS1 => ?_)
  have hPM1 := hkeep _ hPM (fun k q hq => hdis _ (VM_mem hq))
  have hPo1 := hkeep _ hPo (fun k q hq => by rw [oat hq]; exact hoX)
  have hIX1 : IX uA := hqX.1.1
  have hFX := hqX.1.2
  have hfrX := hqX.1.2.1
  have hrwX := hqX.1.2.2.1
  clear hPX hPM hPo hS hkeep
  have hPX := hP1
  have hPM := hPM1
  have hPo := hPo1
  have hS := hS1
  clear hP1 hPM1 hPo1 hS1 hqX
  generalize H1 = H at hPX hPo hPM hS ⊢
  generalize locs1 = locs at hS ⊢
  refine lv_pop hx hb dL_law_1396 rfl ?_
  refine lv_aload_n hx hb dL_law_1397 rfl (lv_at hl 2 rfl) ?_
  refine lv_aload_n hx hb dL_law_1398 rfl (lv_at hl 0 rfl) ?_
  refine lv_iload hx hb dL_law_1399 (lv_at hl 4 rfl) ?_
  refine lv_iconst (v := 1) hx hb dL_law_1401 (by decide) ?_
  refine lv_iadd hx hb dL_law_1402 ?_
  refine sld9 (v := y1) hx hb hX hbl hbA hS hin1 hy1 dL_law_1403 ?_
  refine lv_aload_n hx hb dL_law_1404 rfl (lv_at hl 0 rfl) ?_
  refine lv_iload hx hb dL_law_1405 (lv_at hl 4 rfl) ?_
  refine lv_iconst (v := 2) hx hb dL_law_1407 (by decide) ?_
  refine lv_iadd hx hb dL_law_1408 ?_
  refine sld9 (v := y2) hx hb hX hbl hbA hS hin2 hy2 dL_law_1409 ?_
  obtain ⟨⟨rM, vA⟩, hfM, hqM⟩ := tfX12_judge_0 y1 y2 v hIM
  refine lg_i (V := VM cy aM st) (Ad := AM aM) (As := [.int y1, .int y2]) (rest := []) ⟨hx, hb, hml, hown, fun w h => hts0 w (gw_X12_judge w h)⟩ hA0 hK hPM hS (fun q h => h.elim (hAM q) (fun z => Nat.le_trans hS.1 z)) (metX12_judge_0 l D cy aM st hJM H.size y1 y2 hfM) (cwV 2 (fun w h => hts0 w (gw_X12_judge w h)) gx_X12_judge rfl rfl rfl (by decide +kernel) ⟨Nat.le_of_ble_eq_true rfl, Nat.le_of_ble_eq_true rfl⟩) 0 12 rfl rfl rfl hl.1 rfl (Nat.le_of_ble_eq_true rfl) dL_law_1410 hfit (fun H1 locs1 hP1 hkeep hS1 => ?_)
  have hPX1 := hkeep _ hPX (fun k q hq hz => hdis _ hz ⟨k, (VX_adr hq).1⟩)
  have hPo1 := hkeep _ hPo (fun k q hq => by rw [oat hq]; exact hoM)
  have hEv1 : EvM vA := EvM_fr (hqM.1.2.1 13 (by decide)) (hqM.1.2.1 14 (by decide)) (hqM.1.2.1 21 (by decide)) (hqM.1.2.2.1 33 (by decide)) hEv
  have htie1 : Tie uA vA := Tie_fr hfrX hqM.1.2.1 (by decide) htie
  have hrow1 : TieR uA vA := TieR_fr (hfrX 36 (by decide)) (hrwX 63 (by decide)) (hrwX 64 (by decide)) (hrwX 65 (by decide)) (hqM.1.2.2.1 36 (by decide)) (hqM.1.2.2.1 37 (by decide)) (hqM.1.2.2.1 38 (by decide)) hrow
  have htape1 : TieT uA vA := TieT_fr (hfrX 1 (by decide)) (hrwX 13 (by decide)) (hqM.1.2.1 3 (by decide)) (hqM.1.2.2.1 1 (by decide)) htape
  have hcnt1 : TieC uA vA := TieC_fr (hfrX 5 (by decide)) (hfrX 6 (by decide)) (hfrX 7 (by decide)) (hqM.1.2.2.1 4 (by decide)) hcnt
  have hpar1 : TieP uA vA := TieP_fr (hfrX 8 (by decide)) (hfrX 29 (by decide)) (hfrX 9 (by decide)) (hfrX 0 (by decide)) (hrwX 52 (by decide)) (hqM.1.2.1 12 (by decide)) (hqM.1.2.1 21 (by decide)) (hqM.1.2.1 14 (by decide)) (hqM.1.2.2.1 33 (by decide)) hpar
  have hIM1 : IM vA := hqM.1.1
  clear hPX hPM hPo hS hIM hEv htie hrow htape hcnt hpar hkeep hfrX hrwX hIX
  have hPX := hPX1
  have hPM := hP1
  have hPo := hPo1
  have hS := hS1
  have hIM := hIM1
  have hEv := hEv1
  have htie := htie1
  have hrow := hrow1
  have htape := htape1
  have hcnt := hcnt1
  have hpar := hpar1
  have hIX := hIX1
  clear hIX1
  clear hP1 hPX1 hPo1 hS1 hIM1 hEv1 htie1 hrow1 htape1 hcnt1 hpar1 hqM
  generalize H1 = H at hPX hPo hPM hS ⊢
  generalize locs1 = locs at hS ⊢
  refine lv_pop hx hb dL_law_1413 rfl ?_
  refine lv_goto (tgt := 1930) hx hb dL_law_1414 (by decide) ?_
  refine W.widen (k := cells + 2) (n := slots + 122) (Nat.le_add_right _ _) (Nat.le_add_right _ _) ?_
  exact kk aX uA vA f H locs ls ⟨rfl, hJX, hAX, hdis, hoX, hPX, hPM, hPo, hS, hIX, hIM, hEv, htie, hrow, htape, hcnt, hpar⟩ hl
set_option maxHeartbeats 4000000 in
set_option maxRecDepth 100000 in
theorem case_24 {p : Program} {e : Env} {s : State} {m : MethodId} {below : List Frame} {meth : Method} {c : Code} (l : Launch) (hfl : l.stackTraces = false) {b L : Nat} {xs : Nat → Int32} {D : va_G} {cy : Nat → ClassId} {st aM : Nat → Nat} {o x0 : Nat} {aX : Nat → Nat} {u v : SX} {f : Nat → Int64} {H : Heap} {locs : List Loc} {ls : Array Slot} {i : Int32} {cells slots : Nat} {Q : State → Prop} (F : LF p s m meth c b L xs D cy st aM o) (I : LI s D cy st aM o x0 aX u v f H locs) (hi0 : 0 ≤ i.toInt) (hi9 : i.toInt + 9 ≤ (L : Int)) (hcl : cells + 2 ≤ room_1.cells) (hsl : slots + 122 ≤ room_1.slots) (hl : lv_has ls 7 [(0, .ref b), (1, .ref x0), (2, .ref (aM 0)), (3, .ref o), (4, .int i)]) (kk : ∀ (aX : Nat → Nat) (u v : SX) (f : Nat → Int64) (H : Heap) (locs : List Loc) (ls : Array Slot), LI s D cy st aM o x0 aX u v f H locs → lv_has ls 7 [(0, .ref b), (1, .ref x0), (2, .ref (aM 0)), (3, .ref o), (4, .int i)] → W p l e room_1 s m #[Value.ref b] below meth c H locs (cells + 2) (slots + 122) Q (F0 m 1930 ls [])) : W p l e room_1 s m #[Value.ref b] below meth c H locs cells slots Q (F0 m 1417 ls []) := by
  obtain ⟨C0, hL, hK, hJM, hAM, hoM, hso, hst, hE, hCL⟩ := F
  obtain ⟨hx, hb, hr, hml, hown, hts0, hX, hbl, hlocks, hgv⟩ := C0
  obtain ⟨hx0, hJX, hAX, hdis, hoX, hPX, hPM, hPo, hS, hIX, hIM, hEv, htie, hrow, htape, hcnt, hpar⟩ := I
  have hts : ∀ w ∈ wsL_law, w.before #[Value.ref b] s = true := fun w h => hts0 w (wsL_law_in w h)
  have hbA : ¬ (fun q : Nat => s.heap.size ≤ q) b := Nat.not_le.mpr hbl
  have hA0 : ∀ q, (fun q : Nat => s.heap.size ≤ q) q → st 100 ≤ q := fun q h => by rw [hst]; exact h
  have hfit : cells ≤ room_1.cells ∧ slots ≤ room_1.slots := ⟨Nat.le_trans (Nat.le_add_right _ _) hcl, Nat.le_trans (Nat.le_add_right _ _) hsl⟩
  subst hx0
  obtain ⟨y1, hy1⟩ : ∃ y, xs (i + 1).toNatClampNeg = y := ⟨_, rfl⟩
  have hin1 : vp_in (i + 1) L := in9 (show (1 : Int32).toInt = 1 by decide) hi0 hi9 hL (by decide) (by decide)
  obtain ⟨y2, hy2⟩ : ∃ y, xs (i + 2).toNatClampNeg = y := ⟨_, rfl⟩
  have hin2 : vp_in (i + 2) L := in9 (show (2 : Int32).toInt = 2 by decide) hi0 hi9 hL (by decide) (by decide)
  refine lv_aload_n hx hb dL_law_1417 rfl (lv_at hl 1 rfl) ?_
  refine lv_aload_n hx hb dL_law_1418 rfl (lv_at hl 0 rfl) ?_
  refine lv_iload hx hb dL_law_1419 (lv_at hl 4 rfl) ?_
  refine lv_iconst (v := 1) hx hb dL_law_1421 (by decide) ?_
  refine lv_iadd hx hb dL_law_1422 ?_
  refine sld9 (v := y1) hx hb hX hbl hbA hS hin1 hy1 dL_law_1423 ?_
  refine lv_aload_n hx hb dL_law_1424 rfl (lv_at hl 0 rfl) ?_
  refine lv_iload hx hb dL_law_1425 (lv_at hl 4 rfl) ?_
  refine lv_iconst (v := 2) hx hb dL_law_1427 (by decide) ?_
  refine lv_iadd hx hb dL_law_1428 ?_
  refine sld9 (v := y2) hx hb hX hbl hbA hS hin2 hy2 dL_law_1429 ?_
  obtain ⟨⟨r, uA⟩, hfX, hqX⟩ := tfX11_leans_0 y1 y2 u hIX
  refine lg_i (V := VX cy aX st) (Ad := AX aX) (As := [.int y1, .int y2]) (rest := []) ⟨hx, hb, hml, hown, fun w h => hts0 w (gw_X11_leans w h)⟩ hA0 hK hPX hS (fun q h => h.elim (hAX q) (fun z => Nat.le_trans hS.1 z)) (metX11_leans_0 l D cy aX st hJX H.size y1 y2 hfX) (cwV 2 (fun w h => hts0 w (gw_X11_leans w h)) gx_X11_leans rfl rfl rfl (by decide +kernel) ⟨Nat.le_of_ble_eq_true rfl, Nat.le_of_ble_eq_true rfl⟩) 0 11 rfl rfl rfl hl.1 rfl (Nat.le_of_ble_eq_true rfl) dL_law_1430 hfit (fun H1 locs1 hP1 hkeep hS1 => ?_)
  have hPM1 := hkeep _ hPM (fun k q hq => hdis _ (VM_mem hq))
  have hPo1 := hkeep _ hPo (fun k q hq => by rw [oat hq]; exact hoX)
  have hIX1 : IX uA := hqX.1.1
  have hFX := hqX.1.2
  have hfrX := hqX.1.2.1
  have hrwX := hqX.1.2.2.1
  clear hPX hPM hPo hS hkeep
  have hPX := hP1
  have hPM := hPM1
  have hPo := hPo1
  have hS := hS1
  clear hP1 hPM1 hPo1 hS1 hqX
  generalize H1 = H at hPX hPo hPM hS ⊢
  generalize locs1 = locs at hS ⊢
  refine lv_pop hx hb dL_law_1433 rfl ?_
  refine lv_aload_n hx hb dL_law_1434 rfl (lv_at hl 2 rfl) ?_
  refine lv_aload_n hx hb dL_law_1435 rfl (lv_at hl 0 rfl) ?_
  refine lv_iload hx hb dL_law_1436 (lv_at hl 4 rfl) ?_
  refine lv_iconst (v := 1) hx hb dL_law_1438 (by decide) ?_
  refine lv_iadd hx hb dL_law_1439 ?_
  refine sld9 (v := y1) hx hb hX hbl hbA hS hin1 hy1 dL_law_1440 ?_
  refine lv_aload_n hx hb dL_law_1441 rfl (lv_at hl 0 rfl) ?_
  refine lv_iload hx hb dL_law_1442 (lv_at hl 4 rfl) ?_
  refine lv_iconst (v := 2) hx hb dL_law_1444 (by decide) ?_
  refine lv_iadd hx hb dL_law_1445 ?_
  refine sld9 (v := y2) hx hb hX hbl hbA hS hin2 hy2 dL_law_1446 ?_
  obtain ⟨⟨rM, vA⟩, hfM, hqM⟩ := tfX12_leans_0 y1 y2 v hIM
  refine lg_i (V := VM cy aM st) (Ad := AM aM) (As := [.int y1, .int y2]) (rest := []) ⟨hx, hb, hml, hown, fun w h => hts0 w (gw_X12_leans w h)⟩ hA0 hK hPM hS (fun q h => h.elim (hAM q) (fun z => Nat.le_trans hS.1 z)) (metX12_leans_0 l D cy aM st hJM H.size y1 y2 hfM) (cwV 2 (fun w h => hts0 w (gw_X12_leans w h)) gx_X12_leans rfl rfl rfl (by decide +kernel) ⟨Nat.le_of_ble_eq_true rfl, Nat.le_of_ble_eq_true rfl⟩) 0 12 rfl rfl rfl hl.1 rfl (Nat.le_of_ble_eq_true rfl) dL_law_1447 hfit (fun H1 locs1 hP1 hkeep hS1 => ?_)
  have hPX1 := hkeep _ hPX (fun k q hq hz => hdis _ hz ⟨k, (VX_adr hq).1⟩)
  have hPo1 := hkeep _ hPo (fun k q hq => by rw [oat hq]; exact hoM)
  have hEv1 : EvM vA := EvM_fr (hqM.1.2.1 13 (by decide)) (hqM.1.2.1 14 (by decide)) (hqM.1.2.1 21 (by decide)) (hqM.1.2.2.1 33 (by decide)) hEv
  have htie1 : Tie uA vA := Tie_fr hfrX hqM.1.2.1 (by decide) htie
  have hrow1 : TieR uA vA := TieR_fr (hfrX 36 (by decide)) (hrwX 63 (by decide)) (hrwX 64 (by decide)) (hrwX 65 (by decide)) (hqM.1.2.2.1 36 (by decide)) (hqM.1.2.2.1 37 (by decide)) (hqM.1.2.2.1 38 (by decide)) hrow
  have htape1 : TieT uA vA := TieT_fr (hfrX 1 (by decide)) (hrwX 13 (by decide)) (hqM.1.2.1 3 (by decide)) (hqM.1.2.2.1 1 (by decide)) htape
  have hcnt1 : TieC uA vA := TieC_fr (hfrX 5 (by decide)) (hfrX 6 (by decide)) (hfrX 7 (by decide)) (hqM.1.2.2.1 4 (by decide)) hcnt
  have hpar1 : TieP uA vA := TieP_fr (hfrX 8 (by decide)) (hfrX 29 (by decide)) (hfrX 9 (by decide)) (hfrX 0 (by decide)) (hrwX 52 (by decide)) (hqM.1.2.1 12 (by decide)) (hqM.1.2.1 21 (by decide)) (hqM.1.2.1 14 (by decide)) (hqM.1.2.2.1 33 (by decide)) hpar
  have hIM1 : IM vA := hqM.1.1
  clear hPX hPM hPo hS hIM hEv htie hrow htape hcnt hpar hkeep hfrX hrwX hIX
  have hPX := hPX1
  have hPM := hP1
  have hPo := hPo1
  have hS := hS1
  have hIM := hIM1
  have hEv := hEv1
  have htie := htie1
  have hrow := hrow1
  have htape := htape1
  have hcnt := hcnt1
  have hpar := hpar1
  have hIX := hIX1
  clear hIX1
  clear hP1 hPX1 hPo1 hS1 hIM1 hEv1 htie1 hrow1 htape1 hcnt1 hpar1 hqM
  generalize H1 = H at hPX hPo hPM hS ⊢
  generalize locs1 = locs at hS ⊢
  refine lv_pop hx hb dL_law_1450 rfl ?_
  refine lv_goto (tgt := 1930) hx hb dL_law_1451 (by decide) ?_
  refine W.widen (k := cells + 2) (n := slots + 122) (Nat.le_add_right _ _) (Nat.le_add_right _ _) ?_
  exact kk aX uA vA f H locs ls ⟨rfl, hJX, hAX, hdis, hoX, hPX, hPM, hPo, hS, hIX, hIM, hEv, htie, hrow, htape, hcnt, hpar⟩ hl
set_option maxHeartbeats 4000000 in
set_option maxRecDepth 100000 in
theorem case_25 {p : Program} {e : Env} {s : State} {m : MethodId} {below : List Frame} {meth : Method} {c : Code} (l : Launch) (hfl : l.stackTraces = false) {b L : Nat} {xs : Nat → Int32} {D : va_G} {cy : Nat → ClassId} {st aM : Nat → Nat} {o x0 : Nat} {aX : Nat → Nat} {u v : SX} {f : Nat → Int64} {H : Heap} {locs : List Loc} {ls : Array Slot} {i : Int32} {cells slots : Nat} {Q : State → Prop} (F : LF p s m meth c b L xs D cy st aM o) (I : LI s D cy st aM o x0 aX u v f H locs) (hi0 : 0 ≤ i.toInt) (hi9 : i.toInt + 9 ≤ (L : Int)) (hcl : cells + 2 ≤ room_1.cells) (hsl : slots + 122 ≤ room_1.slots) (hl : lv_has ls 7 [(0, .ref b), (1, .ref x0), (2, .ref (aM 0)), (3, .ref o), (4, .int i)]) (kk : ∀ (aX : Nat → Nat) (u v : SX) (f : Nat → Int64) (H : Heap) (locs : List Loc) (ls : Array Slot), LI s D cy st aM o x0 aX u v f H locs → lv_has ls 7 [(0, .ref b), (1, .ref x0), (2, .ref (aM 0)), (3, .ref o), (4, .int i)] → W p l e room_1 s m #[Value.ref b] below meth c H locs (cells + 2) (slots + 122) Q (F0 m 1930 ls [])) : W p l e room_1 s m #[Value.ref b] below meth c H locs cells slots Q (F0 m 1454 ls []) := by
  obtain ⟨C0, hL, hK, hJM, hAM, hoM, hso, hst, hE, hCL⟩ := F
  obtain ⟨hx, hb, hr, hml, hown, hts0, hX, hbl, hlocks, hgv⟩ := C0
  obtain ⟨hx0, hJX, hAX, hdis, hoX, hPX, hPM, hPo, hS, hIX, hIM, hEv, htie, hrow, htape, hcnt, hpar⟩ := I
  have hts : ∀ w ∈ wsL_law, w.before #[Value.ref b] s = true := fun w h => hts0 w (wsL_law_in w h)
  have hbA : ¬ (fun q : Nat => s.heap.size ≤ q) b := Nat.not_le.mpr hbl
  have hA0 : ∀ q, (fun q : Nat => s.heap.size ≤ q) q → st 100 ≤ q := fun q h => by rw [hst]; exact h
  have hfit : cells ≤ room_1.cells ∧ slots ≤ room_1.slots := ⟨Nat.le_trans (Nat.le_add_right _ _) hcl, Nat.le_trans (Nat.le_add_right _ _) hsl⟩
  subst hx0
  obtain ⟨y1, hy1⟩ : ∃ y, xs (i + 1).toNatClampNeg = y := ⟨_, rfl⟩
  have hin1 : vp_in (i + 1) L := in9 (show (1 : Int32).toInt = 1 by decide) hi0 hi9 hL (by decide) (by decide)
  obtain ⟨y2, hy2⟩ : ∃ y, xs (i + 2).toNatClampNeg = y := ⟨_, rfl⟩
  have hin2 : vp_in (i + 2) L := in9 (show (2 : Int32).toInt = 2 by decide) hi0 hi9 hL (by decide) (by decide)
  obtain ⟨y3, hy3⟩ : ∃ y, xs (i + 3).toNatClampNeg = y := ⟨_, rfl⟩
  have hin3 : vp_in (i + 3) L := in9 (show (3 : Int32).toInt = 3 by decide) hi0 hi9 hL (by decide) (by decide)
  refine lv_aload_n hx hb dL_law_1454 rfl (lv_at hl 1 rfl) ?_
  refine lv_aload_n hx hb dL_law_1455 rfl (lv_at hl 0 rfl) ?_
  refine lv_iload hx hb dL_law_1456 (lv_at hl 4 rfl) ?_
  refine lv_iconst (v := 1) hx hb dL_law_1458 (by decide) ?_
  refine lv_iadd hx hb dL_law_1459 ?_
  refine sld9 (v := y1) hx hb hX hbl hbA hS hin1 hy1 dL_law_1460 ?_
  refine lv_aload_n hx hb dL_law_1461 rfl (lv_at hl 0 rfl) ?_
  refine lv_iload hx hb dL_law_1462 (lv_at hl 4 rfl) ?_
  refine lv_iconst (v := 2) hx hb dL_law_1464 (by decide) ?_
  refine lv_iadd hx hb dL_law_1465 ?_
  refine sld9 (v := y2) hx hb hX hbl hbA hS hin2 hy2 dL_law_1466 ?_
  refine lv_aload_n hx hb dL_law_1467 rfl (lv_at hl 0 rfl) ?_
  refine lv_iload hx hb dL_law_1468 (lv_at hl 4 rfl) ?_
  refine lv_iconst (v := 3) hx hb dL_law_1470 (by decide) ?_
  refine lv_iadd hx hb dL_law_1471 ?_
  refine sld9 (v := y3) hx hb hX hbl hbA hS hin3 hy3 dL_law_1472 ?_
  obtain ⟨⟨r, uA⟩, hfX, hqX⟩ := tfX11_fits_0 y1 y2 y3 u hIX
  refine lg_i (V := VX cy aX st) (Ad := AX aX) (As := [.int y1, .int y2, .int y3]) (rest := []) ⟨hx, hb, hml, hown, fun w h => hts0 w (gw_X11_fits w h)⟩ hA0 hK hPX hS (fun q h => h.elim (hAX q) (fun z => Nat.le_trans hS.1 z)) (metX11_fits_0 l D cy aX st hJX H.size y1 y2 y3 hfX) (cwV 3 (fun w h => hts0 w (gw_X11_fits w h)) gx_X11_fits rfl rfl rfl (by decide +kernel) ⟨Nat.le_of_ble_eq_true rfl, Nat.le_of_ble_eq_true rfl⟩) 0 11 rfl rfl rfl hl.1 rfl (Nat.le_of_ble_eq_true rfl) dL_law_1473 hfit (fun H1 locs1 hP1 hkeep hS1 => ?_)
  have hPM1 := hkeep _ hPM (fun k q hq => hdis _ (VM_mem hq))
  have hPo1 := hkeep _ hPo (fun k q hq => by rw [oat hq]; exact hoX)
  have hIX1 : IX uA := hqX.1.1
  have hFX := hqX.1.2
  have hfrX := hqX.1.2.1
  have hrwX := hqX.1.2.2.1
  clear hPX hPM hPo hS hkeep
  have hPX := hP1
  have hPM := hPM1
  have hPo := hPo1
  have hS := hS1
  clear hP1 hPM1 hPo1 hS1 hqX
  generalize H1 = H at hPX hPo hPM hS ⊢
  generalize locs1 = locs at hS ⊢
  refine lv_pop hx hb dL_law_1476 rfl ?_
  refine lv_aload_n hx hb dL_law_1477 rfl (lv_at hl 2 rfl) ?_
  refine lv_aload_n hx hb dL_law_1478 rfl (lv_at hl 0 rfl) ?_
  refine lv_iload hx hb dL_law_1479 (lv_at hl 4 rfl) ?_
  refine lv_iconst (v := 1) hx hb dL_law_1481 (by decide) ?_
  refine lv_iadd hx hb dL_law_1482 ?_
  refine sld9 (v := y1) hx hb hX hbl hbA hS hin1 hy1 dL_law_1483 ?_
  refine lv_aload_n hx hb dL_law_1484 rfl (lv_at hl 0 rfl) ?_
  refine lv_iload hx hb dL_law_1485 (lv_at hl 4 rfl) ?_
  refine lv_iconst (v := 2) hx hb dL_law_1487 (by decide) ?_
  refine lv_iadd hx hb dL_law_1488 ?_
  refine sld9 (v := y2) hx hb hX hbl hbA hS hin2 hy2 dL_law_1489 ?_
  refine lv_aload_n hx hb dL_law_1490 rfl (lv_at hl 0 rfl) ?_
  refine lv_iload hx hb dL_law_1491 (lv_at hl 4 rfl) ?_
  refine lv_iconst (v := 3) hx hb dL_law_1493 (by decide) ?_
  refine lv_iadd hx hb dL_law_1494 ?_
  refine sld9 (v := y3) hx hb hX hbl hbA hS hin3 hy3 dL_law_1495 ?_
  obtain ⟨⟨rM, vA⟩, hfM, hqM⟩ := tfX12_fits_0 y1 y2 y3 v hIM
  refine lg_i (V := VM cy aM st) (Ad := AM aM) (As := [.int y1, .int y2, .int y3]) (rest := []) ⟨hx, hb, hml, hown, fun w h => hts0 w (gw_X12_fits w h)⟩ hA0 hK hPM hS (fun q h => h.elim (hAM q) (fun z => Nat.le_trans hS.1 z)) (metX12_fits_0 l D cy aM st hJM H.size y1 y2 y3 hfM) (cwV 3 (fun w h => hts0 w (gw_X12_fits w h)) gx_X12_fits rfl rfl rfl (by decide +kernel) ⟨Nat.le_of_ble_eq_true rfl, Nat.le_of_ble_eq_true rfl⟩) 0 12 rfl rfl rfl hl.1 rfl (Nat.le_of_ble_eq_true rfl) dL_law_1496 hfit (fun H1 locs1 hP1 hkeep hS1 => ?_)
  have hPX1 := hkeep _ hPX (fun k q hq hz => hdis _ hz ⟨k, (VX_adr hq).1⟩)
  have hPo1 := hkeep _ hPo (fun k q hq => by rw [oat hq]; exact hoM)
  have hEv1 : EvM vA := EvM_fr (hqM.1.2.1 13 (by decide)) (hqM.1.2.1 14 (by decide)) (hqM.1.2.1 21 (by decide)) (hqM.1.2.2.1 33 (by decide)) hEv
  have htie1 : Tie uA vA := Tie_fr hfrX hqM.1.2.1 (by decide) htie
  have hrow1 : TieR uA vA := TieR_fr (hfrX 36 (by decide)) (hrwX 63 (by decide)) (hrwX 64 (by decide)) (hrwX 65 (by decide)) (hqM.1.2.2.1 36 (by decide)) (hqM.1.2.2.1 37 (by decide)) (hqM.1.2.2.1 38 (by decide)) hrow
  have htape1 : TieT uA vA := TieT_fr (hfrX 1 (by decide)) (hrwX 13 (by decide)) (hqM.1.2.1 3 (by decide)) (hqM.1.2.2.1 1 (by decide)) htape
  have hcnt1 : TieC uA vA := TieC_fr (hfrX 5 (by decide)) (hfrX 6 (by decide)) (hfrX 7 (by decide)) (hqM.1.2.2.1 4 (by decide)) hcnt
  have hpar1 : TieP uA vA := TieP_fr (hfrX 8 (by decide)) (hfrX 29 (by decide)) (hfrX 9 (by decide)) (hfrX 0 (by decide)) (hrwX 52 (by decide)) (hqM.1.2.1 12 (by decide)) (hqM.1.2.1 21 (by decide)) (hqM.1.2.1 14 (by decide)) (hqM.1.2.2.1 33 (by decide)) hpar
  have hIM1 : IM vA := hqM.1.1
  clear hPX hPM hPo hS hIM hEv htie hrow htape hcnt hpar hkeep hfrX hrwX hIX
  have hPX := hPX1
  have hPM := hP1
  have hPo := hPo1
  have hS := hS1
  have hIM := hIM1
  have hEv := hEv1
  have htie := htie1
  have hrow := hrow1
  have htape := htape1
  have hcnt := hcnt1
  have hpar := hpar1
  have hIX := hIX1
  clear hIX1
  clear hP1 hPX1 hPo1 hS1 hIM1 hEv1 htie1 hrow1 htape1 hcnt1 hpar1 hqM
  generalize H1 = H at hPX hPo hPM hS ⊢
  generalize locs1 = locs at hS ⊢
  refine lv_pop hx hb dL_law_1499 rfl ?_
  refine lv_goto (tgt := 1930) hx hb dL_law_1500 (by decide) ?_
  refine W.widen (k := cells + 2) (n := slots + 122) (Nat.le_add_right _ _) (Nat.le_add_right _ _) ?_
  exact kk aX uA vA f H locs ls ⟨rfl, hJX, hAX, hdis, hoX, hPX, hPM, hPo, hS, hIX, hIM, hEv, htie, hrow, htape, hcnt, hpar⟩ hl
set_option maxHeartbeats 4000000 in
set_option maxRecDepth 100000 in
theorem case_26 {p : Program} {e : Env} {s : State} {m : MethodId} {below : List Frame} {meth : Method} {c : Code} (l : Launch) (hfl : l.stackTraces = false) {b L : Nat} {xs : Nat → Int32} {D : va_G} {cy : Nat → ClassId} {st aM : Nat → Nat} {o x0 : Nat} {aX : Nat → Nat} {u v : SX} {f : Nat → Int64} {H : Heap} {locs : List Loc} {ls : Array Slot} {i : Int32} {cells slots : Nat} {Q : State → Prop} (F : LF p s m meth c b L xs D cy st aM o) (I : LI s D cy st aM o x0 aX u v f H locs) (hi0 : 0 ≤ i.toInt) (hi9 : i.toInt + 9 ≤ (L : Int)) (hcl : cells + 2 ≤ room_1.cells) (hsl : slots + 122 ≤ room_1.slots) (hl : lv_has ls 7 [(0, .ref b), (1, .ref x0), (2, .ref (aM 0)), (3, .ref o), (4, .int i)]) (kk : ∀ (aX : Nat → Nat) (u v : SX) (f : Nat → Int64) (H : Heap) (locs : List Loc) (ls : Array Slot), LI s D cy st aM o x0 aX u v f H locs → lv_has ls 7 [(0, .ref b), (1, .ref x0), (2, .ref (aM 0)), (3, .ref o), (4, .int i)] → W p l e room_1 s m #[Value.ref b] below meth c H locs (cells + 2) (slots + 122) Q (F0 m 1930 ls [])) : W p l e room_1 s m #[Value.ref b] below meth c H locs cells slots Q (F0 m 1503 ls []) := by
  obtain ⟨C0, hL, hK, hJM, hAM, hoM, hso, hst, hE, hCL⟩ := F
  obtain ⟨hx, hb, hr, hml, hown, hts0, hX, hbl, hlocks, hgv⟩ := C0
  obtain ⟨hx0, hJX, hAX, hdis, hoX, hPX, hPM, hPo, hS, hIX, hIM, hEv, htie, hrow, htape, hcnt, hpar⟩ := I
  have hts : ∀ w ∈ wsL_law, w.before #[Value.ref b] s = true := fun w h => hts0 w (wsL_law_in w h)
  have hbA : ¬ (fun q : Nat => s.heap.size ≤ q) b := Nat.not_le.mpr hbl
  have hA0 : ∀ q, (fun q : Nat => s.heap.size ≤ q) q → st 100 ≤ q := fun q h => by rw [hst]; exact h
  have hfit : cells ≤ room_1.cells ∧ slots ≤ room_1.slots := ⟨Nat.le_trans (Nat.le_add_right _ _) hcl, Nat.le_trans (Nat.le_add_right _ _) hsl⟩
  subst hx0
  obtain ⟨y1, hy1⟩ : ∃ y, xs (i + 1).toNatClampNeg = y := ⟨_, rfl⟩
  have hin1 : vp_in (i + 1) L := in9 (show (1 : Int32).toInt = 1 by decide) hi0 hi9 hL (by decide) (by decide)
  obtain ⟨y2, hy2⟩ : ∃ y, xs (i + 2).toNatClampNeg = y := ⟨_, rfl⟩
  have hin2 : vp_in (i + 2) L := in9 (show (2 : Int32).toInt = 2 by decide) hi0 hi9 hL (by decide) (by decide)
  obtain ⟨y3, hy3⟩ : ∃ y, xs (i + 3).toNatClampNeg = y := ⟨_, rfl⟩
  have hin3 : vp_in (i + 3) L := in9 (show (3 : Int32).toInt = 3 by decide) hi0 hi9 hL (by decide) (by decide)
  obtain ⟨y4, hy4⟩ : ∃ y, xs (i + 4).toNatClampNeg = y := ⟨_, rfl⟩
  have hin4 : vp_in (i + 4) L := in9 (show (4 : Int32).toInt = 4 by decide) hi0 hi9 hL (by decide) (by decide)
  refine lv_aload_n hx hb dL_law_1503 rfl (lv_at hl 1 rfl) ?_
  refine lv_aload_n hx hb dL_law_1504 rfl (lv_at hl 0 rfl) ?_
  refine lv_iload hx hb dL_law_1505 (lv_at hl 4 rfl) ?_
  refine lv_iconst (v := 1) hx hb dL_law_1507 (by decide) ?_
  refine lv_iadd hx hb dL_law_1508 ?_
  refine sld9 (v := y1) hx hb hX hbl hbA hS hin1 hy1 dL_law_1509 ?_
  refine lv_aload_n hx hb dL_law_1510 rfl (lv_at hl 0 rfl) ?_
  refine lv_iload hx hb dL_law_1511 (lv_at hl 4 rfl) ?_
  refine lv_iconst (v := 2) hx hb dL_law_1513 (by decide) ?_
  refine lv_iadd hx hb dL_law_1514 ?_
  refine sld9 (v := y2) hx hb hX hbl hbA hS hin2 hy2 dL_law_1515 ?_
  refine lv_aload_n hx hb dL_law_1516 rfl (lv_at hl 0 rfl) ?_
  refine lv_iload hx hb dL_law_1517 (lv_at hl 4 rfl) ?_
  refine lv_iconst (v := 3) hx hb dL_law_1519 (by decide) ?_
  refine lv_iadd hx hb dL_law_1520 ?_
  refine sld9 (v := y3) hx hb hX hbl hbA hS hin3 hy3 dL_law_1521 ?_
  refine lv_aload_n hx hb dL_law_1522 rfl (lv_at hl 0 rfl) ?_
  refine lv_iload hx hb dL_law_1523 (lv_at hl 4 rfl) ?_
  refine lv_iconst (v := 4) hx hb dL_law_1525 (by decide) ?_
  refine lv_iadd hx hb dL_law_1526 ?_
  refine sld9 (v := y4) hx hb hX hbl hbA hS hin4 hy4 dL_law_1527 ?_
  obtain ⟨⟨r, uA⟩, hfX, hqX⟩ := tfX11_next_0 y1 y2 y3 y4 u hIX
  refine lg_i (V := VX cy aX st) (Ad := AX aX) (As := [.int y1, .int y2, .int y3, .int y4]) (rest := []) ⟨hx, hb, hml, hown, fun w h => hts0 w (gw_X11_next w h)⟩ hA0 hK hPX hS (fun q h => h.elim (hAX q) (fun z => Nat.le_trans hS.1 z)) (metX11_next_0 l D cy aX st hJX H.size y1 y2 y3 y4 hfX) (cwV 4 (fun w h => hts0 w (gw_X11_next w h)) gx_X11_next rfl rfl rfl (by decide +kernel) ⟨Nat.le_of_ble_eq_true rfl, Nat.le_of_ble_eq_true rfl⟩) 0 11 rfl rfl rfl hl.1 rfl (Nat.le_of_ble_eq_true rfl) dL_law_1528 hfit (fun H1 locs1 hP1 hkeep hS1 => ?_)
  have hPM1 := hkeep _ hPM (fun k q hq => hdis _ (VM_mem hq))
  have hPo1 := hkeep _ hPo (fun k q hq => by rw [oat hq]; exact hoX)
  have hIX1 : IX uA := hqX.1.1
  have hFX := hqX.1.2
  have hfrX := hqX.1.2.1
  have hrwX := hqX.1.2.2.1
  clear hPX hPM hPo hS hkeep
  have hPX := hP1
  have hPM := hPM1
  have hPo := hPo1
  have hS := hS1
  clear hP1 hPM1 hPo1 hS1 hqX
  generalize H1 = H at hPX hPo hPM hS ⊢
  generalize locs1 = locs at hS ⊢
  refine lv_pop hx hb dL_law_1531 rfl ?_
  refine lv_aload_n hx hb dL_law_1532 rfl (lv_at hl 2 rfl) ?_
  refine lv_aload_n hx hb dL_law_1533 rfl (lv_at hl 0 rfl) ?_
  refine lv_iload hx hb dL_law_1534 (lv_at hl 4 rfl) ?_
  refine lv_iconst (v := 1) hx hb dL_law_1536 (by decide) ?_
  refine lv_iadd hx hb dL_law_1537 ?_
  refine sld9 (v := y1) hx hb hX hbl hbA hS hin1 hy1 dL_law_1538 ?_
  refine lv_aload_n hx hb dL_law_1539 rfl (lv_at hl 0 rfl) ?_
  refine lv_iload hx hb dL_law_1540 (lv_at hl 4 rfl) ?_
  refine lv_iconst (v := 2) hx hb dL_law_1542 (by decide) ?_
  refine lv_iadd hx hb dL_law_1543 ?_
  refine sld9 (v := y2) hx hb hX hbl hbA hS hin2 hy2 dL_law_1544 ?_
  refine lv_aload_n hx hb dL_law_1545 rfl (lv_at hl 0 rfl) ?_
  refine lv_iload hx hb dL_law_1546 (lv_at hl 4 rfl) ?_
  refine lv_iconst (v := 3) hx hb dL_law_1548 (by decide) ?_
  refine lv_iadd hx hb dL_law_1549 ?_
  refine sld9 (v := y3) hx hb hX hbl hbA hS hin3 hy3 dL_law_1550 ?_
  refine lv_aload_n hx hb dL_law_1551 rfl (lv_at hl 0 rfl) ?_
  refine lv_iload hx hb dL_law_1552 (lv_at hl 4 rfl) ?_
  refine lv_iconst (v := 4) hx hb dL_law_1554 (by decide) ?_
  refine lv_iadd hx hb dL_law_1555 ?_
  refine sld9 (v := y4) hx hb hX hbl hbA hS hin4 hy4 dL_law_1556 ?_
  obtain ⟨⟨rM, vA⟩, hfM, hqM⟩ := tfX12_next_0 y1 y2 y3 y4 v hIM
  refine lg_i (V := VM cy aM st) (Ad := AM aM) (As := [.int y1, .int y2, .int y3, .int y4]) (rest := []) ⟨hx, hb, hml, hown, fun w h => hts0 w (gw_X12_next w h)⟩ hA0 hK hPM hS (fun q h => h.elim (hAM q) (fun z => Nat.le_trans hS.1 z)) (metX12_next_0 l D cy aM st hJM H.size y1 y2 y3 y4 hfM) (cwV 4 (fun w h => hts0 w (gw_X12_next w h)) gx_X12_next rfl rfl rfl (by decide +kernel) ⟨Nat.le_of_ble_eq_true rfl, Nat.le_of_ble_eq_true rfl⟩) 0 12 rfl rfl rfl hl.1 rfl (Nat.le_of_ble_eq_true rfl) dL_law_1557 hfit (fun H1 locs1 hP1 hkeep hS1 => ?_)
  have hPX1 := hkeep _ hPX (fun k q hq hz => hdis _ hz ⟨k, (VX_adr hq).1⟩)
  have hPo1 := hkeep _ hPo (fun k q hq => by rw [oat hq]; exact hoM)
  have hEv1 : EvM vA := EvM_fr (hqM.1.2.1 13 (by decide)) (hqM.1.2.1 14 (by decide)) (hqM.1.2.1 21 (by decide)) (hqM.1.2.2.1 33 (by decide)) hEv
  have htie1 : Tie uA vA := Tie_fr hfrX hqM.1.2.1 (by decide) htie
  have hrow1 : TieR uA vA := TieR_fr (hfrX 36 (by decide)) (hrwX 63 (by decide)) (hrwX 64 (by decide)) (hrwX 65 (by decide)) (hqM.1.2.2.1 36 (by decide)) (hqM.1.2.2.1 37 (by decide)) (hqM.1.2.2.1 38 (by decide)) hrow
  have htape1 : TieT uA vA := TieT_fr (hfrX 1 (by decide)) (hrwX 13 (by decide)) (hqM.1.2.1 3 (by decide)) (hqM.1.2.2.1 1 (by decide)) htape
  have hcnt1 : TieC uA vA := TieC_fr (hfrX 5 (by decide)) (hfrX 6 (by decide)) (hfrX 7 (by decide)) (hqM.1.2.2.1 4 (by decide)) hcnt
  have hpar1 : TieP uA vA := TieP_fr (hfrX 8 (by decide)) (hfrX 29 (by decide)) (hfrX 9 (by decide)) (hfrX 0 (by decide)) (hrwX 52 (by decide)) (hqM.1.2.1 12 (by decide)) (hqM.1.2.1 21 (by decide)) (hqM.1.2.1 14 (by decide)) (hqM.1.2.2.1 33 (by decide)) hpar
  have hIM1 : IM vA := hqM.1.1
  clear hPX hPM hPo hS hIM hEv htie hrow htape hcnt hpar hkeep hfrX hrwX hIX
  have hPX := hPX1
  have hPM := hP1
  have hPo := hPo1
  have hS := hS1
  have hIM := hIM1
  have hEv := hEv1
  have htie := htie1
  have hrow := hrow1
  have htape := htape1
  have hcnt := hcnt1
  have hpar := hpar1
  have hIX := hIX1
  clear hIX1
  clear hP1 hPX1 hPo1 hS1 hIM1 hEv1 htie1 hrow1 htape1 hcnt1 hpar1 hqM
  generalize H1 = H at hPX hPo hPM hS ⊢
  generalize locs1 = locs at hS ⊢
  refine lv_pop hx hb dL_law_1560 rfl ?_
  refine lv_goto (tgt := 1930) hx hb dL_law_1561 (by decide) ?_
  refine W.widen (k := cells + 2) (n := slots + 122) (Nat.le_add_right _ _) (Nat.le_add_right _ _) ?_
  exact kk aX uA vA f H locs ls ⟨rfl, hJX, hAX, hdis, hoX, hPX, hPM, hPo, hS, hIX, hIM, hEv, htie, hrow, htape, hcnt, hpar⟩ hl
set_option maxHeartbeats 4000000 in
set_option maxRecDepth 100000 in
theorem case_27 {p : Program} {e : Env} {s : State} {m : MethodId} {below : List Frame} {meth : Method} {c : Code} (l : Launch) (hfl : l.stackTraces = false) {b L : Nat} {xs : Nat → Int32} {D : va_G} {cy : Nat → ClassId} {st aM : Nat → Nat} {o x0 : Nat} {aX : Nat → Nat} {u v : SX} {f : Nat → Int64} {H : Heap} {locs : List Loc} {ls : Array Slot} {i : Int32} {cells slots : Nat} {Q : State → Prop} (F : LF p s m meth c b L xs D cy st aM o) (I : LI s D cy st aM o x0 aX u v f H locs) (hi0 : 0 ≤ i.toInt) (hi9 : i.toInt + 9 ≤ (L : Int)) (hcl : cells + 2 ≤ room_1.cells) (hsl : slots + 122 ≤ room_1.slots) (hl : lv_has ls 7 [(0, .ref b), (1, .ref x0), (2, .ref (aM 0)), (3, .ref o), (4, .int i)]) (kk : ∀ (aX : Nat → Nat) (u v : SX) (f : Nat → Int64) (H : Heap) (locs : List Loc) (ls : Array Slot), LI s D cy st aM o x0 aX u v f H locs → lv_has ls 7 [(0, .ref b), (1, .ref x0), (2, .ref (aM 0)), (3, .ref o), (4, .int i)] → W p l e room_1 s m #[Value.ref b] below meth c H locs (cells + 2) (slots + 122) Q (F0 m 1930 ls [])) : W p l e room_1 s m #[Value.ref b] below meth c H locs cells slots Q (F0 m 1564 ls []) := by
  obtain ⟨C0, hL, hK, hJM, hAM, hoM, hso, hst, hE, hCL⟩ := F
  obtain ⟨hx, hb, hr, hml, hown, hts0, hX, hbl, hlocks, hgv⟩ := C0
  obtain ⟨hx0, hJX, hAX, hdis, hoX, hPX, hPM, hPo, hS, hIX, hIM, hEv, htie, hrow, htape, hcnt, hpar⟩ := I
  have hts : ∀ w ∈ wsL_law, w.before #[Value.ref b] s = true := fun w h => hts0 w (wsL_law_in w h)
  have hbA : ¬ (fun q : Nat => s.heap.size ≤ q) b := Nat.not_le.mpr hbl
  have hA0 : ∀ q, (fun q : Nat => s.heap.size ≤ q) q → st 100 ≤ q := fun q h => by rw [hst]; exact h
  have hfit : cells ≤ room_1.cells ∧ slots ≤ room_1.slots := ⟨Nat.le_trans (Nat.le_add_right _ _) hcl, Nat.le_trans (Nat.le_add_right _ _) hsl⟩
  subst hx0
  refine lv_aload_n hx hb dL_law_1564 rfl (lv_at hl 1 rfl) ?_
  obtain ⟨⟨r, uA⟩, hfX, hqX⟩ := tfX11_house_0  u hIX
  refine lg_i (V := VX cy aX st) (Ad := AX aX) (As := []) (rest := []) ⟨hx, hb, hml, hown, fun w h => hts0 w (gw_X11_house w h)⟩ hA0 hK hPX hS (fun q h => h.elim (hAX q) (fun z => Nat.le_trans hS.1 z)) (metX11_house_0 l D cy aX st hJX H.size  hfX) (cwV 0 (fun w h => hts0 w (gw_X11_house w h)) gx_X11_house rfl rfl rfl (by decide +kernel) ⟨Nat.le_of_ble_eq_true rfl, Nat.le_of_ble_eq_true rfl⟩) 0 11 rfl rfl rfl hl.1 rfl (Nat.le_of_ble_eq_true rfl) dL_law_1565 hfit (fun H1 locs1 hP1 hkeep hS1 => ?_)
  have hPM1 := hkeep _ hPM (fun k q hq => hdis _ (VM_mem hq))
  have hPo1 := hkeep _ hPo (fun k q hq => by rw [oat hq]; exact hoX)
  have hIX1 : IX uA := hqX.1.1
  have hFX := hqX.1.2
  have hfrX := hqX.1.2.1
  have hrwX := hqX.1.2.2.1
  clear hPX hPM hPo hS hkeep
  have hPX := hP1
  have hPM := hPM1
  have hPo := hPo1
  have hS := hS1
  clear hP1 hPM1 hPo1 hS1 hqX
  generalize H1 = H at hPX hPo hPM hS ⊢
  generalize locs1 = locs at hS ⊢
  refine lv_pop hx hb dL_law_1568 rfl ?_
  refine lv_aload_n hx hb dL_law_1569 rfl (lv_at hl 2 rfl) ?_
  obtain ⟨⟨rM, vA⟩, hfM, hqM⟩ := tfX12_house_0  v hIM
  refine lg_i (V := VM cy aM st) (Ad := AM aM) (As := []) (rest := []) ⟨hx, hb, hml, hown, fun w h => hts0 w (gw_X12_house w h)⟩ hA0 hK hPM hS (fun q h => h.elim (hAM q) (fun z => Nat.le_trans hS.1 z)) (metX12_house_0 l D cy aM st hJM H.size  hfM) (cwV 0 (fun w h => hts0 w (gw_X12_house w h)) gx_X12_house rfl rfl rfl (by decide +kernel) ⟨Nat.le_of_ble_eq_true rfl, Nat.le_of_ble_eq_true rfl⟩) 0 12 rfl rfl rfl hl.1 rfl (Nat.le_of_ble_eq_true rfl) dL_law_1570 hfit (fun H1 locs1 hP1 hkeep hS1 => ?_)
  have hPX1 := hkeep _ hPX (fun k q hq hz => hdis _ hz ⟨k, (VX_adr hq).1⟩)
  have hPo1 := hkeep _ hPo (fun k q hq => by rw [oat hq]; exact hoM)
  have hEv1 : EvM vA := EvM_fr (hqM.1.2.1 13 (by decide)) (hqM.1.2.1 14 (by decide)) (hqM.1.2.1 21 (by decide)) (hqM.1.2.2.1 33 (by decide)) hEv
  obtain ⟨er, htie1⟩ := house_eq hIX hIM htie hfX hfM
  have hrow1 : TieR uA vA := TieR_fr (hfrX 36 (by decide)) (hrwX 63 (by decide)) (hrwX 64 (by decide)) (hrwX 65 (by decide)) (hqM.1.2.2.1 36 (by decide)) (hqM.1.2.2.1 37 (by decide)) (hqM.1.2.2.1 38 (by decide)) hrow
  have htape1 : TieT uA vA := TieT_fr (hfrX 1 (by decide)) (hrwX 13 (by decide)) (hqM.1.2.1 3 (by decide)) (hqM.1.2.2.1 1 (by decide)) htape
  have hcnt1 : TieC uA vA := TieC_fr (hfrX 5 (by decide)) (hfrX 6 (by decide)) (hfrX 7 (by decide)) (hqM.1.2.2.1 4 (by decide)) hcnt
  have hpar1 : TieP uA vA := TieP_fr (hfrX 8 (by decide)) (hfrX 29 (by decide)) (hfrX 9 (by decide)) (hfrX 0 (by decide)) (hrwX 52 (by decide)) (hqM.1.2.1 12 (by decide)) (hqM.1.2.1 21 (by decide)) (hqM.1.2.1 14 (by decide)) (hqM.1.2.2.1 33 (by decide)) hpar
  have hIM1 : IM vA := hqM.1.1
  clear hPX hPM hPo hS hIM hEv htie hrow htape hcnt hpar hkeep hfrX hrwX hIX
  have hPX := hPX1
  have hPM := hP1
  have hPo := hPo1
  have hS := hS1
  have hIM := hIM1
  have hEv := hEv1
  have htie := htie1
  have hrow := hrow1
  have htape := htape1
  have hcnt := hcnt1
  have hpar := hpar1
  have hIX := hIX1
  clear hIX1
  clear hP1 hPX1 hPo1 hS1 hIM1 hEv1 htie1 hrow1 htape1 hcnt1 hpar1 hqM
  generalize H1 = H at hPX hPo hPM hS ⊢
  generalize locs1 = locs at hS ⊢
  refine lv_pop hx hb dL_law_1573 rfl ?_
  refine lv_goto (tgt := 1930) hx hb dL_law_1574 (by decide) ?_
  refine W.widen (k := cells + 2) (n := slots + 122) (Nat.le_add_right _ _) (Nat.le_add_right _ _) ?_
  exact kk aX uA vA f H locs ls ⟨rfl, hJX, hAX, hdis, hoX, hPX, hPM, hPo, hS, hIX, hIM, hEv, htie, hrow, htape, hcnt, hpar⟩ hl
set_option maxHeartbeats 4000000 in
set_option maxRecDepth 100000 in
theorem case_28 {p : Program} {e : Env} {s : State} {m : MethodId} {below : List Frame} {meth : Method} {c : Code} (l : Launch) (hfl : l.stackTraces = false) {b L : Nat} {xs : Nat → Int32} {D : va_G} {cy : Nat → ClassId} {st aM : Nat → Nat} {o x0 : Nat} {aX : Nat → Nat} {u v : SX} {f : Nat → Int64} {H : Heap} {locs : List Loc} {ls : Array Slot} {i : Int32} {cells slots : Nat} {Q : State → Prop} (F : LF p s m meth c b L xs D cy st aM o) (I : LI s D cy st aM o x0 aX u v f H locs) (hi0 : 0 ≤ i.toInt) (hi9 : i.toInt + 9 ≤ (L : Int)) (hcl : cells + 2 ≤ room_1.cells) (hsl : slots + 122 ≤ room_1.slots) (hl : lv_has ls 7 [(0, .ref b), (1, .ref x0), (2, .ref (aM 0)), (3, .ref o), (4, .int i)]) (kk : ∀ (aX : Nat → Nat) (u v : SX) (f : Nat → Int64) (H : Heap) (locs : List Loc) (ls : Array Slot), LI s D cy st aM o x0 aX u v f H locs → lv_has ls 7 [(0, .ref b), (1, .ref x0), (2, .ref (aM 0)), (3, .ref o), (4, .int i)] → W p l e room_1 s m #[Value.ref b] below meth c H locs (cells + 2) (slots + 122) Q (F0 m 1930 ls [])) : W p l e room_1 s m #[Value.ref b] below meth c H locs cells slots Q (F0 m 1577 ls []) := by
  obtain ⟨C0, hL, hK, hJM, hAM, hoM, hso, hst, hE, hCL⟩ := F
  obtain ⟨hx, hb, hr, hml, hown, hts0, hX, hbl, hlocks, hgv⟩ := C0
  obtain ⟨hx0, hJX, hAX, hdis, hoX, hPX, hPM, hPo, hS, hIX, hIM, hEv, htie, hrow, htape, hcnt, hpar⟩ := I
  have hts : ∀ w ∈ wsL_law, w.before #[Value.ref b] s = true := fun w h => hts0 w (wsL_law_in w h)
  have hbA : ¬ (fun q : Nat => s.heap.size ≤ q) b := Nat.not_le.mpr hbl
  have hA0 : ∀ q, (fun q : Nat => s.heap.size ≤ q) q → st 100 ≤ q := fun q h => by rw [hst]; exact h
  have hfit : cells ≤ room_1.cells ∧ slots ≤ room_1.slots := ⟨Nat.le_trans (Nat.le_add_right _ _) hcl, Nat.le_trans (Nat.le_add_right _ _) hsl⟩
  subst hx0
  obtain ⟨y1, hy1⟩ : ∃ y, xs (i + 1).toNatClampNeg = y := ⟨_, rfl⟩
  have hin1 : vp_in (i + 1) L := in9 (show (1 : Int32).toInt = 1 by decide) hi0 hi9 hL (by decide) (by decide)
  obtain ⟨y2, hy2⟩ : ∃ y, xs (i + 2).toNatClampNeg = y := ⟨_, rfl⟩
  have hin2 : vp_in (i + 2) L := in9 (show (2 : Int32).toInt = 2 by decide) hi0 hi9 hL (by decide) (by decide)
  obtain ⟨y3, hy3⟩ : ∃ y, xs (i + 3).toNatClampNeg = y := ⟨_, rfl⟩
  have hin3 : vp_in (i + 3) L := in9 (show (3 : Int32).toInt = 3 by decide) hi0 hi9 hL (by decide) (by decide)
  obtain ⟨y4, hy4⟩ : ∃ y, xs (i + 4).toNatClampNeg = y := ⟨_, rfl⟩
  have hin4 : vp_in (i + 4) L := in9 (show (4 : Int32).toInt = 4 by decide) hi0 hi9 hL (by decide) (by decide)
  refine lv_aload_n hx hb dL_law_1577 rfl (lv_at hl 1 rfl) ?_
  refine lv_aload_n hx hb dL_law_1578 rfl (lv_at hl 0 rfl) ?_
  refine lv_iload hx hb dL_law_1579 (lv_at hl 4 rfl) ?_
  refine lv_iconst (v := 1) hx hb dL_law_1581 (by decide) ?_
  refine lv_iadd hx hb dL_law_1582 ?_
  refine sld9 (v := y1) hx hb hX hbl hbA hS hin1 hy1 dL_law_1583 ?_
  refine lv_aload_n hx hb dL_law_1584 rfl (lv_at hl 0 rfl) ?_
  refine lv_iload hx hb dL_law_1585 (lv_at hl 4 rfl) ?_
  refine lv_iconst (v := 2) hx hb dL_law_1587 (by decide) ?_
  refine lv_iadd hx hb dL_law_1588 ?_
  refine sld9 (v := y2) hx hb hX hbl hbA hS hin2 hy2 dL_law_1589 ?_
  refine lv_if_eq (tgt := 1597) hx hb dL_law_1590 (by decide) (fun c1 => ?_) (fun c1 => ?_)
  · refine lv_iconst (v := 0) hx hb dL_law_1597 (by decide) ?_
    refine lv_aload_n hx hb dL_law_1598 rfl (lv_at hl 0 rfl) ?_
    refine lv_iload hx hb dL_law_1599 (lv_at hl 4 rfl) ?_
    refine lv_iconst (v := 3) hx hb dL_law_1601 (by decide) ?_
    refine lv_iadd hx hb dL_law_1602 ?_
    refine sld9 (v := y3) hx hb hX hbl hbA hS hin3 hy3 dL_law_1603 ?_
    refine lv_aload_n hx hb dL_law_1604 rfl (lv_at hl 0 rfl) ?_
    refine lv_iload hx hb dL_law_1605 (lv_at hl 4 rfl) ?_
    refine lv_iconst (v := 4) hx hb dL_law_1607 (by decide) ?_
    refine lv_iadd hx hb dL_law_1608 ?_
    refine sld9 (v := y4) hx hb hX hbl hbA hS hin4 hy4 dL_law_1609 ?_
    obtain ⟨⟨r, uA⟩, hfX, hqX⟩ := tfX11_print_0 y1 0 y3 y4 u hIX (by decide)
    refine lg_i (V := VX cy aX st) (Ad := AX aX) (As := [.int y1, .int 0, .int y3, .int y4]) (rest := []) ⟨hx, hb, hml, hown, fun w h => hts0 w (gw_X11_print w h)⟩ hA0 hK hPX hS (fun q h => h.elim (hAX q) (fun z => Nat.le_trans hS.1 z)) (metX11_print_0 l D cy aX st hJX H.size y1 0 y3 y4 hfX) (cwV 4 (fun w h => hts0 w (gw_X11_print w h)) gx_X11_print rfl rfl rfl (by decide +kernel) ⟨Nat.le_of_ble_eq_true rfl, Nat.le_of_ble_eq_true rfl⟩) 0 11 rfl rfl rfl hl.1 rfl (Nat.le_of_ble_eq_true rfl) dL_law_1610 hfit (fun H1 locs1 hP1 hkeep hS1 => ?_)
    have hPM1 := hkeep _ hPM (fun k q hq => hdis _ (VM_mem hq))
    have hPo1 := hkeep _ hPo (fun k q hq => by rw [oat hq]; exact hoX)
    have hIX1 : IX uA := hqX.1.1
    have hFX := hqX.1.2
    have hfrX := hqX.1.2.1
    have hrwX := hqX.1.2.2.1
    clear hPX hPM hPo hS hkeep
    have hPX := hP1
    have hPM := hPM1
    have hPo := hPo1
    have hS := hS1
    clear hP1 hPM1 hPo1 hS1 hqX
    generalize H1 = H at hPX hPo hPM hS ⊢
    generalize locs1 = locs at hS ⊢
    refine lv_pop hx hb dL_law_1613 rfl ?_
    refine lv_aload_n hx hb dL_law_1614 rfl (lv_at hl 2 rfl) ?_
    refine lv_aload_n hx hb dL_law_1615 rfl (lv_at hl 0 rfl) ?_
    refine lv_iload hx hb dL_law_1616 (lv_at hl 4 rfl) ?_
    refine lv_iconst (v := 1) hx hb dL_law_1618 (by decide) ?_
    refine lv_iadd hx hb dL_law_1619 ?_
    refine sld9 (v := y1) hx hb hX hbl hbA hS hin1 hy1 dL_law_1620 ?_
    refine lv_aload_n hx hb dL_law_1621 rfl (lv_at hl 0 rfl) ?_
    refine lv_iload hx hb dL_law_1622 (lv_at hl 4 rfl) ?_
    refine lv_iconst (v := 2) hx hb dL_law_1624 (by decide) ?_
    refine lv_iadd hx hb dL_law_1625 ?_
    refine sld9 (v := y2) hx hb hX hbl hbA hS hin2 hy2 dL_law_1626 ?_
    refine lv_if_eq (tgt := 1634) hx hb dL_law_1627 (by decide) (fun _ => ?_) (fun h => absurd c1 h)
    refine lv_iconst (v := 0) hx hb dL_law_1634 (by decide) ?_
    refine lv_aload_n hx hb dL_law_1635 rfl (lv_at hl 0 rfl) ?_
    refine lv_iload hx hb dL_law_1636 (lv_at hl 4 rfl) ?_
    refine lv_iconst (v := 3) hx hb dL_law_1638 (by decide) ?_
    refine lv_iadd hx hb dL_law_1639 ?_
    refine sld9 (v := y3) hx hb hX hbl hbA hS hin3 hy3 dL_law_1640 ?_
    refine lv_aload_n hx hb dL_law_1641 rfl (lv_at hl 0 rfl) ?_
    refine lv_iload hx hb dL_law_1642 (lv_at hl 4 rfl) ?_
    refine lv_iconst (v := 4) hx hb dL_law_1644 (by decide) ?_
    refine lv_iadd hx hb dL_law_1645 ?_
    refine sld9 (v := y4) hx hb hX hbl hbA hS hin4 hy4 dL_law_1646 ?_
    obtain ⟨⟨rM, vA⟩, hfM, hqM⟩ := tfX12_print_0 y1 0 y3 y4 v hIM (by decide)
    refine lg_i (V := VM cy aM st) (Ad := AM aM) (As := [.int y1, .int 0, .int y3, .int y4]) (rest := []) ⟨hx, hb, hml, hown, fun w h => hts0 w (gw_X12_print w h)⟩ hA0 hK hPM hS (fun q h => h.elim (hAM q) (fun z => Nat.le_trans hS.1 z)) (metX12_print_0 l D cy aM st hJM H.size y1 0 y3 y4 hfM) (cwV 4 (fun w h => hts0 w (gw_X12_print w h)) gx_X12_print rfl rfl rfl (by decide +kernel) ⟨Nat.le_of_ble_eq_true rfl, Nat.le_of_ble_eq_true rfl⟩) 0 12 rfl rfl rfl hl.1 rfl (Nat.le_of_ble_eq_true rfl) dL_law_1647 hfit (fun H1 locs1 hP1 hkeep hS1 => ?_)
    have hPX1 := hkeep _ hPX (fun k q hq hz => hdis _ hz ⟨k, (VX_adr hq).1⟩)
    have hPo1 := hkeep _ hPo (fun k q hq => by rw [oat hq]; exact hoM)
    have hEv1 : EvM vA := EvM_fr (hqM.1.2.1 13 (by decide)) (hqM.1.2.1 14 (by decide)) (hqM.1.2.1 21 (by decide)) (hqM.1.2.2.1 33 (by decide)) hEv
    obtain ⟨er, htie1, hrow1⟩ := print_eq2 hIX hIM htie hrow hfX hfM
    have htape1 : TieT uA vA := TieT_fr (hfrX 1 (by decide)) (hrwX 13 (by decide)) (hqM.1.2.1 3 (by decide)) (hqM.1.2.2.1 1 (by decide)) htape
    have hcnt1 : TieC uA vA := TieC_fr (hfrX 5 (by decide)) (hfrX 6 (by decide)) (hfrX 7 (by decide)) (hqM.1.2.2.1 4 (by decide)) hcnt
    have hpar1 : TieP uA vA := TieP_fr (hfrX 8 (by decide)) (hfrX 29 (by decide)) (hfrX 9 (by decide)) (hfrX 0 (by decide)) (hrwX 52 (by decide)) (hqM.1.2.1 12 (by decide)) (hqM.1.2.1 21 (by decide)) (hqM.1.2.1 14 (by decide)) (hqM.1.2.2.1 33 (by decide)) hpar
    have hIM1 : IM vA := hqM.1.1
    clear hPX hPM hPo hS hIM hEv htie hrow htape hcnt hpar hkeep hfrX hrwX hIX
    have hPX := hPX1
    have hPM := hP1
    have hPo := hPo1
    have hS := hS1
    have hIM := hIM1
    have hEv := hEv1
    have htie := htie1
    have hrow := hrow1
    have htape := htape1
    have hcnt := hcnt1
    have hpar := hpar1
    have hIX := hIX1
    clear hIX1
    clear hP1 hPX1 hPo1 hS1 hIM1 hEv1 htie1 hrow1 htape1 hcnt1 hpar1 hqM
    generalize H1 = H at hPX hPo hPM hS ⊢
    generalize locs1 = locs at hS ⊢
    refine lv_pop hx hb dL_law_1650 rfl ?_
    refine lv_goto (tgt := 1930) hx hb dL_law_1651 (by decide) ?_
    refine W.widen (k := cells + 2) (n := slots + 122) (Nat.le_add_right _ _) (Nat.le_add_right _ _) ?_
    exact kk aX uA vA f H locs ls ⟨rfl, hJX, hAX, hdis, hoX, hPX, hPM, hPo, hS, hIX, hIM, hEv, htie, hrow, htape, hcnt, hpar⟩ hl
  · refine lv_iconst (v := 1) hx hb dL_law_1593 (by decide) ?_
    refine lv_goto (tgt := 1598) hx hb dL_law_1594 (by decide) ?_
    refine lv_aload_n hx hb dL_law_1598 rfl (lv_at hl 0 rfl) ?_
    refine lv_iload hx hb dL_law_1599 (lv_at hl 4 rfl) ?_
    refine lv_iconst (v := 3) hx hb dL_law_1601 (by decide) ?_
    refine lv_iadd hx hb dL_law_1602 ?_
    refine sld9 (v := y3) hx hb hX hbl hbA hS hin3 hy3 dL_law_1603 ?_
    refine lv_aload_n hx hb dL_law_1604 rfl (lv_at hl 0 rfl) ?_
    refine lv_iload hx hb dL_law_1605 (lv_at hl 4 rfl) ?_
    refine lv_iconst (v := 4) hx hb dL_law_1607 (by decide) ?_
    refine lv_iadd hx hb dL_law_1608 ?_
    refine sld9 (v := y4) hx hb hX hbl hbA hS hin4 hy4 dL_law_1609 ?_
    obtain ⟨⟨r, uA⟩, hfX, hqX⟩ := tfX11_print_0 y1 1 y3 y4 u hIX (by decide)
    refine lg_i (V := VX cy aX st) (Ad := AX aX) (As := [.int y1, .int 1, .int y3, .int y4]) (rest := []) ⟨hx, hb, hml, hown, fun w h => hts0 w (gw_X11_print w h)⟩ hA0 hK hPX hS (fun q h => h.elim (hAX q) (fun z => Nat.le_trans hS.1 z)) (metX11_print_0 l D cy aX st hJX H.size y1 1 y3 y4 hfX) (cwV 4 (fun w h => hts0 w (gw_X11_print w h)) gx_X11_print rfl rfl rfl (by decide +kernel) ⟨Nat.le_of_ble_eq_true rfl, Nat.le_of_ble_eq_true rfl⟩) 0 11 rfl rfl rfl hl.1 rfl (Nat.le_of_ble_eq_true rfl) dL_law_1610 hfit (fun H1 locs1 hP1 hkeep hS1 => ?_)
    have hPM1 := hkeep _ hPM (fun k q hq => hdis _ (VM_mem hq))
    have hPo1 := hkeep _ hPo (fun k q hq => by rw [oat hq]; exact hoX)
    have hIX1 : IX uA := hqX.1.1
    have hFX := hqX.1.2
    have hfrX := hqX.1.2.1
    have hrwX := hqX.1.2.2.1
    clear hPX hPM hPo hS hkeep
    have hPX := hP1
    have hPM := hPM1
    have hPo := hPo1
    have hS := hS1
    clear hP1 hPM1 hPo1 hS1 hqX
    generalize H1 = H at hPX hPo hPM hS ⊢
    generalize locs1 = locs at hS ⊢
    refine lv_pop hx hb dL_law_1613 rfl ?_
    refine lv_aload_n hx hb dL_law_1614 rfl (lv_at hl 2 rfl) ?_
    refine lv_aload_n hx hb dL_law_1615 rfl (lv_at hl 0 rfl) ?_
    refine lv_iload hx hb dL_law_1616 (lv_at hl 4 rfl) ?_
    refine lv_iconst (v := 1) hx hb dL_law_1618 (by decide) ?_
    refine lv_iadd hx hb dL_law_1619 ?_
    refine sld9 (v := y1) hx hb hX hbl hbA hS hin1 hy1 dL_law_1620 ?_
    refine lv_aload_n hx hb dL_law_1621 rfl (lv_at hl 0 rfl) ?_
    refine lv_iload hx hb dL_law_1622 (lv_at hl 4 rfl) ?_
    refine lv_iconst (v := 2) hx hb dL_law_1624 (by decide) ?_
    refine lv_iadd hx hb dL_law_1625 ?_
    refine sld9 (v := y2) hx hb hX hbl hbA hS hin2 hy2 dL_law_1626 ?_
    refine lv_if_eq (tgt := 1634) hx hb dL_law_1627 (by decide) (fun h => absurd h c1) (fun _ => ?_)
    refine lv_iconst (v := 1) hx hb dL_law_1630 (by decide) ?_
    refine lv_goto (tgt := 1635) hx hb dL_law_1631 (by decide) ?_
    refine lv_aload_n hx hb dL_law_1635 rfl (lv_at hl 0 rfl) ?_
    refine lv_iload hx hb dL_law_1636 (lv_at hl 4 rfl) ?_
    refine lv_iconst (v := 3) hx hb dL_law_1638 (by decide) ?_
    refine lv_iadd hx hb dL_law_1639 ?_
    refine sld9 (v := y3) hx hb hX hbl hbA hS hin3 hy3 dL_law_1640 ?_
    refine lv_aload_n hx hb dL_law_1641 rfl (lv_at hl 0 rfl) ?_
    refine lv_iload hx hb dL_law_1642 (lv_at hl 4 rfl) ?_
    refine lv_iconst (v := 4) hx hb dL_law_1644 (by decide) ?_
    refine lv_iadd hx hb dL_law_1645 ?_
    refine sld9 (v := y4) hx hb hX hbl hbA hS hin4 hy4 dL_law_1646 ?_
    obtain ⟨⟨rM, vA⟩, hfM, hqM⟩ := tfX12_print_0 y1 1 y3 y4 v hIM (by decide)
    refine lg_i (V := VM cy aM st) (Ad := AM aM) (As := [.int y1, .int 1, .int y3, .int y4]) (rest := []) ⟨hx, hb, hml, hown, fun w h => hts0 w (gw_X12_print w h)⟩ hA0 hK hPM hS (fun q h => h.elim (hAM q) (fun z => Nat.le_trans hS.1 z)) (metX12_print_0 l D cy aM st hJM H.size y1 1 y3 y4 hfM) (cwV 4 (fun w h => hts0 w (gw_X12_print w h)) gx_X12_print rfl rfl rfl (by decide +kernel) ⟨Nat.le_of_ble_eq_true rfl, Nat.le_of_ble_eq_true rfl⟩) 0 12 rfl rfl rfl hl.1 rfl (Nat.le_of_ble_eq_true rfl) dL_law_1647 hfit (fun H1 locs1 hP1 hkeep hS1 => ?_)
    have hPX1 := hkeep _ hPX (fun k q hq hz => hdis _ hz ⟨k, (VX_adr hq).1⟩)
    have hPo1 := hkeep _ hPo (fun k q hq => by rw [oat hq]; exact hoM)
    have hEv1 : EvM vA := EvM_fr (hqM.1.2.1 13 (by decide)) (hqM.1.2.1 14 (by decide)) (hqM.1.2.1 21 (by decide)) (hqM.1.2.2.1 33 (by decide)) hEv
    obtain ⟨er, htie1, hrow1⟩ := print_eq2 hIX hIM htie hrow hfX hfM
    have htape1 : TieT uA vA := TieT_fr (hfrX 1 (by decide)) (hrwX 13 (by decide)) (hqM.1.2.1 3 (by decide)) (hqM.1.2.2.1 1 (by decide)) htape
    have hcnt1 : TieC uA vA := TieC_fr (hfrX 5 (by decide)) (hfrX 6 (by decide)) (hfrX 7 (by decide)) (hqM.1.2.2.1 4 (by decide)) hcnt
    have hpar1 : TieP uA vA := TieP_fr (hfrX 8 (by decide)) (hfrX 29 (by decide)) (hfrX 9 (by decide)) (hfrX 0 (by decide)) (hrwX 52 (by decide)) (hqM.1.2.1 12 (by decide)) (hqM.1.2.1 21 (by decide)) (hqM.1.2.1 14 (by decide)) (hqM.1.2.2.1 33 (by decide)) hpar
    have hIM1 : IM vA := hqM.1.1
    clear hPX hPM hPo hS hIM hEv htie hrow htape hcnt hpar hkeep hfrX hrwX hIX
    have hPX := hPX1
    have hPM := hP1
    have hPo := hPo1
    have hS := hS1
    have hIM := hIM1
    have hEv := hEv1
    have htie := htie1
    have hrow := hrow1
    have htape := htape1
    have hcnt := hcnt1
    have hpar := hpar1
    have hIX := hIX1
    clear hIX1
    clear hP1 hPX1 hPo1 hS1 hIM1 hEv1 htie1 hrow1 htape1 hcnt1 hpar1 hqM
    generalize H1 = H at hPX hPo hPM hS ⊢
    generalize locs1 = locs at hS ⊢
    refine lv_pop hx hb dL_law_1650 rfl ?_
    refine lv_goto (tgt := 1930) hx hb dL_law_1651 (by decide) ?_
    refine W.widen (k := cells + 2) (n := slots + 122) (Nat.le_add_right _ _) (Nat.le_add_right _ _) ?_
    exact kk aX uA vA f H locs ls ⟨rfl, hJX, hAX, hdis, hoX, hPX, hPM, hPo, hS, hIX, hIM, hEv, htie, hrow, htape, hcnt, hpar⟩ hl
set_option maxHeartbeats 4000000 in
set_option maxRecDepth 100000 in
theorem case_29 {p : Program} {e : Env} {s : State} {m : MethodId} {below : List Frame} {meth : Method} {c : Code} (l : Launch) (hfl : l.stackTraces = false) {b L : Nat} {xs : Nat → Int32} {D : va_G} {cy : Nat → ClassId} {st aM : Nat → Nat} {o x0 : Nat} {aX : Nat → Nat} {u v : SX} {f : Nat → Int64} {H : Heap} {locs : List Loc} {ls : Array Slot} {i : Int32} {cells slots : Nat} {Q : State → Prop} (F : LF p s m meth c b L xs D cy st aM o) (I : LI s D cy st aM o x0 aX u v f H locs) (hi0 : 0 ≤ i.toInt) (hi9 : i.toInt + 9 ≤ (L : Int)) (hcl : cells + 2 ≤ room_1.cells) (hsl : slots + 122 ≤ room_1.slots) (hl : lv_has ls 7 [(0, .ref b), (1, .ref x0), (2, .ref (aM 0)), (3, .ref o), (4, .int i)]) (kk : ∀ (aX : Nat → Nat) (u v : SX) (f : Nat → Int64) (H : Heap) (locs : List Loc) (ls : Array Slot), LI s D cy st aM o x0 aX u v f H locs → lv_has ls 7 [(0, .ref b), (1, .ref x0), (2, .ref (aM 0)), (3, .ref o), (4, .int i)] → W p l e room_1 s m #[Value.ref b] below meth c H locs (cells + 2) (slots + 122) Q (F0 m 1930 ls [])) : W p l e room_1 s m #[Value.ref b] below meth c H locs cells slots Q (F0 m 1654 ls []) := by
  obtain ⟨C0, hL, hK, hJM, hAM, hoM, hso, hst, hE, hCL⟩ := F
  obtain ⟨hx, hb, hr, hml, hown, hts0, hX, hbl, hlocks, hgv⟩ := C0
  obtain ⟨hx0, hJX, hAX, hdis, hoX, hPX, hPM, hPo, hS, hIX, hIM, hEv, htie, hrow, htape, hcnt, hpar⟩ := I
  have hts : ∀ w ∈ wsL_law, w.before #[Value.ref b] s = true := fun w h => hts0 w (wsL_law_in w h)
  have hbA : ¬ (fun q : Nat => s.heap.size ≤ q) b := Nat.not_le.mpr hbl
  have hA0 : ∀ q, (fun q : Nat => s.heap.size ≤ q) q → st 100 ≤ q := fun q h => by rw [hst]; exact h
  have hfit : cells ≤ room_1.cells ∧ slots ≤ room_1.slots := ⟨Nat.le_trans (Nat.le_add_right _ _) hcl, Nat.le_trans (Nat.le_add_right _ _) hsl⟩
  subst hx0
  obtain ⟨y1, hy1⟩ : ∃ y, xs (i + 1).toNatClampNeg = y := ⟨_, rfl⟩
  have hin1 : vp_in (i + 1) L := in9 (show (1 : Int32).toInt = 1 by decide) hi0 hi9 hL (by decide) (by decide)
  obtain ⟨y2, hy2⟩ : ∃ y, xs (i + 2).toNatClampNeg = y := ⟨_, rfl⟩
  have hin2 : vp_in (i + 2) L := in9 (show (2 : Int32).toInt = 2 by decide) hi0 hi9 hL (by decide) (by decide)
  refine lv_aload_n hx hb dL_law_1654 rfl (lv_at hl 1 rfl) ?_
  refine lv_aload_n hx hb dL_law_1655 rfl (lv_at hl 0 rfl) ?_
  refine lv_iload hx hb dL_law_1656 (lv_at hl 4 rfl) ?_
  refine lv_iconst (v := 1) hx hb dL_law_1658 (by decide) ?_
  refine lv_iadd hx hb dL_law_1659 ?_
  refine sld9 (v := y1) hx hb hX hbl hbA hS hin1 hy1 dL_law_1660 ?_
  refine lv_aload_n hx hb dL_law_1661 rfl (lv_at hl 0 rfl) ?_
  refine lv_iload hx hb dL_law_1662 (lv_at hl 4 rfl) ?_
  refine lv_iconst (v := 2) hx hb dL_law_1664 (by decide) ?_
  refine lv_iadd hx hb dL_law_1665 ?_
  refine sld9 (v := y2) hx hb hX hbl hbA hS hin2 hy2 dL_law_1666 ?_
  obtain ⟨⟨r, uA⟩, hfX, hqX⟩ := tfX11_had_0 y1 y2 u hIX
  refine lg_i (V := VX cy aX st) (Ad := AX aX) (As := [.int y1, .int y2]) (rest := []) ⟨hx, hb, hml, hown, fun w h => hts0 w (gw_X11_had w h)⟩ hA0 hK hPX hS (fun q h => h.elim (hAX q) (fun z => Nat.le_trans hS.1 z)) (metX11_had_0 l D cy aX st hJX H.size y1 y2 hfX) (cwV 2 (fun w h => hts0 w (gw_X11_had w h)) gx_X11_had rfl rfl rfl (by decide +kernel) ⟨Nat.le_of_ble_eq_true rfl, Nat.le_of_ble_eq_true rfl⟩) 0 11 rfl rfl rfl hl.1 rfl (Nat.le_of_ble_eq_true rfl) dL_law_1667 hfit (fun H1 locs1 hP1 hkeep hS1 => ?_)
  have hPM1 := hkeep _ hPM (fun k q hq => hdis _ (VM_mem hq))
  have hPo1 := hkeep _ hPo (fun k q hq => by rw [oat hq]; exact hoX)
  have hIX1 : IX uA := hqX.1.1
  have hFX := hqX.1.2
  have hfrX := hqX.1.2.1
  have hrwX := hqX.1.2.2.1
  clear hPX hPM hPo hS hkeep
  have hPX := hP1
  have hPM := hPM1
  have hPo := hPo1
  have hS := hS1
  clear hP1 hPM1 hPo1 hS1 hqX
  generalize H1 = H at hPX hPo hPM hS ⊢
  generalize locs1 = locs at hS ⊢
  refine lv_pop hx hb dL_law_1670 rfl ?_
  refine lv_aload_n hx hb dL_law_1671 rfl (lv_at hl 2 rfl) ?_
  refine lv_aload_n hx hb dL_law_1672 rfl (lv_at hl 0 rfl) ?_
  refine lv_iload hx hb dL_law_1673 (lv_at hl 4 rfl) ?_
  refine lv_iconst (v := 1) hx hb dL_law_1675 (by decide) ?_
  refine lv_iadd hx hb dL_law_1676 ?_
  refine sld9 (v := y1) hx hb hX hbl hbA hS hin1 hy1 dL_law_1677 ?_
  refine lv_aload_n hx hb dL_law_1678 rfl (lv_at hl 0 rfl) ?_
  refine lv_iload hx hb dL_law_1679 (lv_at hl 4 rfl) ?_
  refine lv_iconst (v := 2) hx hb dL_law_1681 (by decide) ?_
  refine lv_iadd hx hb dL_law_1682 ?_
  refine sld9 (v := y2) hx hb hX hbl hbA hS hin2 hy2 dL_law_1683 ?_
  obtain ⟨⟨rM, vA⟩, hfM, hqM⟩ := tfX12_had_0 y1 y2 v hIM
  refine lg_i (V := VM cy aM st) (Ad := AM aM) (As := [.int y1, .int y2]) (rest := []) ⟨hx, hb, hml, hown, fun w h => hts0 w (gw_X12_had w h)⟩ hA0 hK hPM hS (fun q h => h.elim (hAM q) (fun z => Nat.le_trans hS.1 z)) (metX12_had_0 l D cy aM st hJM H.size y1 y2 hfM) (cwV 2 (fun w h => hts0 w (gw_X12_had w h)) gx_X12_had rfl rfl rfl (by decide +kernel) ⟨Nat.le_of_ble_eq_true rfl, Nat.le_of_ble_eq_true rfl⟩) 0 12 rfl rfl rfl hl.1 rfl (Nat.le_of_ble_eq_true rfl) dL_law_1684 hfit (fun H1 locs1 hP1 hkeep hS1 => ?_)
  have hPX1 := hkeep _ hPX (fun k q hq hz => hdis _ hz ⟨k, (VX_adr hq).1⟩)
  have hPo1 := hkeep _ hPo (fun k q hq => by rw [oat hq]; exact hoM)
  have hEv1 : EvM vA := EvM_fr (hqM.1.2.1 13 (by decide)) (hqM.1.2.1 14 (by decide)) (hqM.1.2.1 21 (by decide)) (hqM.1.2.2.1 33 (by decide)) hEv
  have htie1 : Tie uA vA := Tie_fr hfrX hqM.1.2.1 (by decide) htie
  have hrow1 : TieR uA vA := TieR_fr (hfrX 36 (by decide)) (hrwX 63 (by decide)) (hrwX 64 (by decide)) (hrwX 65 (by decide)) (hqM.1.2.2.1 36 (by decide)) (hqM.1.2.2.1 37 (by decide)) (hqM.1.2.2.1 38 (by decide)) hrow
  have htape1 : TieT uA vA := TieT_fr (hfrX 1 (by decide)) (hrwX 13 (by decide)) (hqM.1.2.1 3 (by decide)) (hqM.1.2.2.1 1 (by decide)) htape
  have hcnt1 : TieC uA vA := TieC_fr (hfrX 5 (by decide)) (hfrX 6 (by decide)) (hfrX 7 (by decide)) (hqM.1.2.2.1 4 (by decide)) hcnt
  have hpar1 : TieP uA vA := TieP_fr (hfrX 8 (by decide)) (hfrX 29 (by decide)) (hfrX 9 (by decide)) (hfrX 0 (by decide)) (hrwX 52 (by decide)) (hqM.1.2.1 12 (by decide)) (hqM.1.2.1 21 (by decide)) (hqM.1.2.1 14 (by decide)) (hqM.1.2.2.1 33 (by decide)) hpar
  have hIM1 : IM vA := hqM.1.1
  clear hPX hPM hPo hS hIM hEv htie hrow htape hcnt hpar hkeep hfrX hrwX hIX
  have hPX := hPX1
  have hPM := hP1
  have hPo := hPo1
  have hS := hS1
  have hIM := hIM1
  have hEv := hEv1
  have htie := htie1
  have hrow := hrow1
  have htape := htape1
  have hcnt := hcnt1
  have hpar := hpar1
  have hIX := hIX1
  clear hIX1
  clear hP1 hPX1 hPo1 hS1 hIM1 hEv1 htie1 hrow1 htape1 hcnt1 hpar1 hqM
  generalize H1 = H at hPX hPo hPM hS ⊢
  generalize locs1 = locs at hS ⊢
  refine lv_pop hx hb dL_law_1687 rfl ?_
  refine lv_goto (tgt := 1930) hx hb dL_law_1688 (by decide) ?_
  refine W.widen (k := cells + 2) (n := slots + 122) (Nat.le_add_right _ _) (Nat.le_add_right _ _) ?_
  exact kk aX uA vA f H locs ls ⟨rfl, hJX, hAX, hdis, hoX, hPX, hPM, hPo, hS, hIX, hIM, hEv, htie, hrow, htape, hcnt, hpar⟩ hl
