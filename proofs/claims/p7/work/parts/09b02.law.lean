theorem dL_law_1309 : decode cL_law 1309 = .ok (.aload_n 1, 1) := by decide +kernel
theorem dL_law_1310 : decode cL_law 1310 = .ok (.aload_n 0, 1) := by decide +kernel
theorem dL_law_1311 : decode cL_law 1311 = .ok (.iload 4, 2) := by decide +kernel
theorem dL_law_1313 : decode cL_law 1313 = .ok (.iconst 1, 1) := by decide +kernel
theorem dL_law_1314 : decode cL_law 1314 = .ok (.iadd, 1) := by decide +kernel
theorem dL_law_1315 : decode cL_law 1315 = .ok (.iaload, 1) := by decide +kernel
theorem dL_law_1316 : decode cL_law 1316 = .ok (.aload_n 0, 1) := by decide +kernel
theorem dL_law_1317 : decode cL_law 1317 = .ok (.iload 4, 2) := by decide +kernel
theorem dL_law_1319 : decode cL_law 1319 = .ok (.iconst 2, 1) := by decide +kernel
theorem dL_law_1320 : decode cL_law 1320 = .ok (.iadd, 1) := by decide +kernel
theorem dL_law_1321 : decode cL_law 1321 = .ok (.iaload, 1) := by decide +kernel
theorem dL_law_1322 : decode cL_law 1322 = .ok (.invokevirtual 116, 3) := by decide +kernel
theorem dL_law_1325 : decode cL_law 1325 = .ok (.pop, 1) := by decide +kernel
theorem dL_law_1326 : decode cL_law 1326 = .ok (.aload_n 2, 1) := by decide +kernel
theorem dL_law_1327 : decode cL_law 1327 = .ok (.aload_n 0, 1) := by decide +kernel
theorem dL_law_1328 : decode cL_law 1328 = .ok (.iload 4, 2) := by decide +kernel
theorem dL_law_1330 : decode cL_law 1330 = .ok (.iconst 1, 1) := by decide +kernel
theorem dL_law_1331 : decode cL_law 1331 = .ok (.iadd, 1) := by decide +kernel
theorem dL_law_1332 : decode cL_law 1332 = .ok (.iaload, 1) := by decide +kernel
theorem dL_law_1333 : decode cL_law 1333 = .ok (.aload_n 0, 1) := by decide +kernel
theorem dL_law_1334 : decode cL_law 1334 = .ok (.iload 4, 2) := by decide +kernel
theorem dL_law_1336 : decode cL_law 1336 = .ok (.iconst 2, 1) := by decide +kernel
theorem dL_law_1337 : decode cL_law 1337 = .ok (.iadd, 1) := by decide +kernel
theorem dL_law_1338 : decode cL_law 1338 = .ok (.iaload, 1) := by decide +kernel
theorem dL_law_1339 : decode cL_law 1339 = .ok (.invokevirtual 119, 3) := by decide +kernel
theorem dL_law_1342 : decode cL_law 1342 = .ok (.pop, 1) := by decide +kernel
theorem dL_law_1343 : decode cL_law 1343 = .ok (.goto 615, 3) := by decide +kernel
set_option maxHeartbeats 4000000 in
set_option maxRecDepth 100000 in
theorem case_20 {p : Program} {e : Env} {s : State} {m : MethodId} {below : List Frame} {meth : Method} {c : Code} (l : Launch) (hfl : l.stackTraces = false) {b L : Nat} {xs : Nat → Int32} {D : va_G} {cy : Nat → ClassId} {st aM : Nat → Nat} {o x0 : Nat} {aX : Nat → Nat} {u v : SX} {f : Nat → Int64} {H : Heap} {locs : List Loc} {ls : Array Slot} {i : Int32} {cells slots : Nat} {Q : State → Prop} (F : LF p s m meth c b L xs D cy st aM o) (I : LI s D cy st aM o x0 aX u v f H locs) (hi0 : 0 ≤ i.toInt) (hi9 : i.toInt + 9 ≤ (L : Int)) (hcl : cells + 2 ≤ room_1.cells) (hsl : slots + 122 ≤ room_1.slots) (hl : lv_has ls 7 [(0, .ref b), (1, .ref x0), (2, .ref (aM 0)), (3, .ref o), (4, .int i)]) (kk : ∀ (aX : Nat → Nat) (u v : SX) (f : Nat → Int64) (H : Heap) (locs : List Loc) (ls : Array Slot), LI s D cy st aM o x0 aX u v f H locs → lv_has ls 7 [(0, .ref b), (1, .ref x0), (2, .ref (aM 0)), (3, .ref o), (4, .int i)] → W p l e room_1 s m #[Value.ref b] below meth c H locs (cells + 2) (slots + 122) Q (F0 m 1958 ls [])) : W p l e room_1 s m #[Value.ref b] below meth c H locs cells slots Q (F0 m 1309 ls []) := by
  obtain ⟨C0, hL, hK, hJM, hAM, hoM, hso, hst, hE, hCL⟩ := F
  obtain ⟨hx, hb, hr, hml, hown, hts0, hX, hbl, hlocks, hgv⟩ := C0
  obtain ⟨hx0, hJX, hAX, hdis, hoX, hPX, hPM, hPo, hS, hIX, hIM, hEv, htie, hrow, htape, hcnt, hpar, hspn, hcx, hval, hpl, hgag, hcw, hck, hwg, hdn⟩ := I
  have hts : ∀ w ∈ wsL_law, w.before #[Value.ref b] s = true := fun w h => hts0 w (wsL_law_in w h)
  have hbA : ¬ (fun q : Nat => s.heap.size ≤ q) b := Nat.not_le.mpr hbl
  have hA0 : ∀ q, (fun q : Nat => s.heap.size ≤ q) q → st 100 ≤ q := fun q h => by rw [hst]; exact h
  have hfit : cells ≤ room_1.cells ∧ slots ≤ room_1.slots := ⟨Nat.le_trans (Nat.le_add_right _ _) hcl, Nat.le_trans (Nat.le_add_right _ _) hsl⟩
  subst hx0
  obtain ⟨y1, hy1⟩ : ∃ y, xs (i + 1).toNatClampNeg = y := ⟨_, rfl⟩
  have hin1 : vp_in (i + 1) L := in9 (show (1 : Int32).toInt = 1 by decide) hi0 hi9 hL (by decide) (by decide)
  obtain ⟨y2, hy2⟩ : ∃ y, xs (i + 2).toNatClampNeg = y := ⟨_, rfl⟩
  have hin2 : vp_in (i + 2) L := in9 (show (2 : Int32).toInt = 2 by decide) hi0 hi9 hL (by decide) (by decide)
  refine lv_aload_n hx hb dL_law_1309 rfl (lv_at hl 1 rfl) ?_
  refine lv_aload_n hx hb dL_law_1310 rfl (lv_at hl 0 rfl) ?_
  refine lv_iload hx hb dL_law_1311 (lv_at hl 4 rfl) ?_
  refine lv_iconst (v := 1) hx hb dL_law_1313 (by decide) ?_
  refine lv_iadd hx hb dL_law_1314 ?_
  refine sld9 (v := y1) hx hb hX hbl hbA hS hin1 hy1 dL_law_1315 ?_
  refine lv_aload_n hx hb dL_law_1316 rfl (lv_at hl 0 rfl) ?_
  refine lv_iload hx hb dL_law_1317 (lv_at hl 4 rfl) ?_
  refine lv_iconst (v := 2) hx hb dL_law_1319 (by decide) ?_
  refine lv_iadd hx hb dL_law_1320 ?_
  refine sld9 (v := y2) hx hb hX hbl hbA hS hin2 hy2 dL_law_1321 ?_
  obtain ⟨⟨r, uA⟩, hfX, hqX⟩ := tfX11_narrows_0 y1 y2 u hIX
  refine lg_i (V := VX cy aX st) (Ad := AX aX) (As := [.int y1, .int y2]) (rest := []) ⟨hx, hb, hml, hown, fun w h => hts0 w (gw_X11_narrows w h)⟩ hA0 hK hPX hS (fun q h => h.elim (hAX q) (fun z => Nat.le_trans hS.1 z)) (metX11_narrows_0 l D cy aX st hJX H.size y1 y2 hfX) (cwV 2 (fun w h => hts0 w (gw_X11_narrows w h)) gx_X11_narrows rfl rfl rfl (by decide +kernel) ⟨Nat.le_of_ble_eq_true rfl, Nat.le_of_ble_eq_true rfl⟩) 0 11 rfl rfl rfl hl.1 rfl (Nat.le_of_ble_eq_true rfl) dL_law_1322 hfit (fun H1 locs1 hP1 hkeep hS1 => ?_)
  have hPM1 := hkeep _ hPM (fun k q hq => hdis _ (VM_mem hq))
  have hPo1 := hkeep _ hPo (fun k q hq => by rw [oat hq]; exact hoX)
  have hIX1 : IX uA := hqX.1.1
  have hFX := hqX.1.2
  have hTX := hqX.1.2.2.2.2.2
  have hfrX := hqX.1.2.1
  have hrwX := hqX.1.2.2.1
  clear hPX hPM hPo hS hkeep
  have hPX := hP1
  have hPM := hPM1
  have hPo := hPo1
  have hS := hS1
  clear hP1 hPM1 hPo1 hS1 hqX
  generalize H1 = H at hPX hPo hPM hS ⊢
  generalize locs1 = locs at hS ⊢
  refine lv_pop hx hb dL_law_1325 rfl ?_
  refine lv_aload_n hx hb dL_law_1326 rfl (lv_at hl 2 rfl) ?_
  refine lv_aload_n hx hb dL_law_1327 rfl (lv_at hl 0 rfl) ?_
  refine lv_iload hx hb dL_law_1328 (lv_at hl 4 rfl) ?_
  refine lv_iconst (v := 1) hx hb dL_law_1330 (by decide) ?_
  refine lv_iadd hx hb dL_law_1331 ?_
  refine sld9 (v := y1) hx hb hX hbl hbA hS hin1 hy1 dL_law_1332 ?_
  refine lv_aload_n hx hb dL_law_1333 rfl (lv_at hl 0 rfl) ?_
  refine lv_iload hx hb dL_law_1334 (lv_at hl 4 rfl) ?_
  refine lv_iconst (v := 2) hx hb dL_law_1336 (by decide) ?_
  refine lv_iadd hx hb dL_law_1337 ?_
  refine sld9 (v := y2) hx hb hX hbl hbA hS hin2 hy2 dL_law_1338 ?_
  obtain ⟨⟨rM, vA⟩, hfM, hqM⟩ := tfX12_narrows_0 y1 y2 v hIM
  refine lg_i (V := VM cy aM st) (Ad := AM aM) (As := [.int y1, .int y2]) (rest := []) ⟨hx, hb, hml, hown, fun w h => hts0 w (gw_X12_narrows w h)⟩ hA0 hK hPM hS (fun q h => h.elim (hAM q) (fun z => Nat.le_trans hS.1 z)) (metX12_narrows_0 l D cy aM st hJM H.size y1 y2 hfM) (cwV 2 (fun w h => hts0 w (gw_X12_narrows w h)) gx_X12_narrows rfl rfl rfl (by decide +kernel) ⟨Nat.le_of_ble_eq_true rfl, Nat.le_of_ble_eq_true rfl⟩) 0 12 rfl rfl rfl hl.1 rfl (Nat.le_of_ble_eq_true rfl) dL_law_1339 hfit (fun H1 locs1 hP1 hkeep hS1 => ?_)
  have hPX1 := hkeep _ hPX (fun k q hq hz => hdis _ hz ⟨k, (VX_adr hq).1⟩)
  have hPo1 := hkeep _ hPo (fun k q hq => by rw [oat hq]; exact hoM)
  have hEv1 : EvM vA := EvM_fr (hqM.1.2.1 13 (by decide)) (hqM.1.2.1 14 (by decide)) (hqM.1.2.1 21 (by decide)) (hqM.1.2.2.1 33 (by decide)) hEv
  have htie1 : Tie uA vA := Tie_fr hfrX hqM.1.2.1 (by decide) htie
  have hrow1 : TieR uA vA := TieR_fr (hfrX 36 (by decide)) (hrwX 63 (by decide)) (hrwX 64 (by decide)) (hrwX 65 (by decide)) (hqM.1.2.2.1 36 (by decide)) (hqM.1.2.2.1 37 (by decide)) (hqM.1.2.2.1 38 (by decide)) hrow
  have htape1 : TieT uA vA := TieT_fr (hfrX 1 (by decide)) (hrwX 13 (by decide)) (hqM.1.2.1 3 (by decide)) (hqM.1.2.2.1 1 (by decide)) htape
  have hcnt1 : TieC uA vA := TieC_fr (hfrX 5 (by decide)) (hfrX 6 (by decide)) (hfrX 7 (by decide)) (hqM.1.2.2.1 4 (by decide)) hcnt
  have hpar1 : TieP uA vA := TieP_fr (hfrX 8 (by decide)) (hfrX 29 (by decide)) (hfrX 9 (by decide)) (hfrX 0 (by decide)) (hrwX 52 (by decide)) (hqM.1.2.1 12 (by decide)) (hqM.1.2.1 21 (by decide)) (hqM.1.2.1 14 (by decide)) (hqM.1.2.2.1 33 (by decide)) hpar
  have hspn1 : TieS uA vA := TieS_fr hfrX hrwX hqM.1.2.1 hqM.1.2.2.1 (by decide) hspn
  have hcx1 : CX uA := CX_fr2 hfrX hrwX (by decide) hcx
  have hval1 : TieV uA vA := TieV_fr (hfrX 5 (by decide)) (hfrX 6 (by decide)) (hfrX 7 (by decide)) hTX (hqM.1.2.2.1 2 (by decide)) (hqM.1.2.2.1 3 (by decide)) hval
  have hpl1 : PL uA := PL_fr (hfrX 8 (by decide)) (hfrX 5 (by decide)) (hrwX 24 (by decide)) hpl
  have hgag1 : TieG uA vA := TieG_fr hfrX hrwX hqM.1.2.2.1 (by decide) hgag
  have hRK : RK u := ⟨⟨hIX, hcx, hpl, LVX_of hIX hIM hval hgag, hcw⟩, hck⟩
  have hMR : MR u v := ⟨hIM, hpar, hspn, hval, hgag⟩
  obtain ⟨er, hRK1⟩ : r = rM ∧ RK uA := narrows_eq hRK.1 hRK.2 htie hMR hfX hfM
  have hcw1 : CW uA := hRK1.1.2.2.2.2
  have hck1 : CK uA := hRK1.2
  clear hRK hMR hRK1
  have hwg1 : WG uA := WG_fr (hfrX 13 (by decide)) (hrwX 36 (by decide)) hwg
  have hdn1 : TieD uA vA := TieD_fr (hfrX 29 (by decide)) (hrwX 52 (by decide)) (hqM.1.2.1 13 (by decide)) (hqM.1.2.2.1 11 (by decide)) (hqM.1.2.2.1 15 (by decide)) hdn
  have hIM1 : IM vA := hqM.1.1
  clear hPX hPM hPo hS hIM hEv htie hrow htape hcnt hpar hspn hcx hval hpl hgag hcw hck hwg hdn hkeep hfrX hrwX hIX
  have hPX := hPX1
  have hPM := hP1
  have hPo := hPo1
  have hS := hS1
  have hIM := hIM1
  have hEv := hEv1
  have htie := htie1
  have hrow := hrow1
  have htape := htape1
  have hcnt := hcnt1
  have hpar := hpar1
  have hspn := hspn1
  have hcx := hcx1
  have hval := hval1
  have hpl := hpl1
  have hgag := hgag1
  have hcw := hcw1
  have hck := hck1
  have hwg := hwg1
  have hdn := hdn1
  have hIX := hIX1
  clear hIX1
  clear hP1 hPX1 hPo1 hS1 hIM1 hEv1 htie1 hrow1 htape1 hcnt1 hpar1 hspn1 hcx1 hval1 hpl1 hgag1 hcw1 hck1 hwg1 hdn1 hqM
  generalize H1 = H at hPX hPo hPM hS ⊢
  generalize locs1 = locs at hS ⊢
  refine lv_pop hx hb dL_law_1342 rfl ?_
  refine lv_goto (tgt := 1958) hx hb dL_law_1343 (by decide) ?_
  refine W.widen (k := cells + 2) (n := slots + 122) (Nat.le_add_right _ _) (Nat.le_add_right _ _) ?_
  exact kk aX uA vA f H locs ls ⟨rfl, hJX, hAX, hdis, hoX, hPX, hPM, hPo, hS, hIX, hIM, hEv, htie, hrow, htape, hcnt, hpar, hspn, hcx, hval, hpl, hgag, hcw, hck, hwg, hdn⟩ hl
theorem dL_law_1346 : decode cL_law 1346 = .ok (.aload_n 1, 1) := by decide +kernel
theorem dL_law_1347 : decode cL_law 1347 = .ok (.invokevirtual 120, 3) := by decide +kernel
theorem dL_law_1350 : decode cL_law 1350 = .ok (.pop, 1) := by decide +kernel
theorem dL_law_1351 : decode cL_law 1351 = .ok (.aload_n 2, 1) := by decide +kernel
theorem dL_law_1352 : decode cL_law 1352 = .ok (.invokevirtual 123, 3) := by decide +kernel
theorem dL_law_1355 : decode cL_law 1355 = .ok (.pop, 1) := by decide +kernel
theorem dL_law_1356 : decode cL_law 1356 = .ok (.goto 602, 3) := by decide +kernel
set_option maxHeartbeats 4000000 in
set_option maxRecDepth 100000 in
theorem case_21 {p : Program} {e : Env} {s : State} {m : MethodId} {below : List Frame} {meth : Method} {c : Code} (l : Launch) (hfl : l.stackTraces = false) {b L : Nat} {xs : Nat → Int32} {D : va_G} {cy : Nat → ClassId} {st aM : Nat → Nat} {o x0 : Nat} {aX : Nat → Nat} {u v : SX} {f : Nat → Int64} {H : Heap} {locs : List Loc} {ls : Array Slot} {i : Int32} {cells slots : Nat} {Q : State → Prop} (F : LF p s m meth c b L xs D cy st aM o) (I : LI s D cy st aM o x0 aX u v f H locs) (hi0 : 0 ≤ i.toInt) (hi9 : i.toInt + 9 ≤ (L : Int)) (hcl : cells + 2 ≤ room_1.cells) (hsl : slots + 122 ≤ room_1.slots) (hl : lv_has ls 7 [(0, .ref b), (1, .ref x0), (2, .ref (aM 0)), (3, .ref o), (4, .int i)]) (kk : ∀ (aX : Nat → Nat) (u v : SX) (f : Nat → Int64) (H : Heap) (locs : List Loc) (ls : Array Slot), LI s D cy st aM o x0 aX u v f H locs → lv_has ls 7 [(0, .ref b), (1, .ref x0), (2, .ref (aM 0)), (3, .ref o), (4, .int i)] → W p l e room_1 s m #[Value.ref b] below meth c H locs (cells + 2) (slots + 122) Q (F0 m 1958 ls [])) : W p l e room_1 s m #[Value.ref b] below meth c H locs cells slots Q (F0 m 1346 ls []) := by
  obtain ⟨C0, hL, hK, hJM, hAM, hoM, hso, hst, hE, hCL⟩ := F
  obtain ⟨hx, hb, hr, hml, hown, hts0, hX, hbl, hlocks, hgv⟩ := C0
  obtain ⟨hx0, hJX, hAX, hdis, hoX, hPX, hPM, hPo, hS, hIX, hIM, hEv, htie, hrow, htape, hcnt, hpar, hspn, hcx, hval, hpl, hgag, hcw, hck, hwg, hdn⟩ := I
  have hts : ∀ w ∈ wsL_law, w.before #[Value.ref b] s = true := fun w h => hts0 w (wsL_law_in w h)
  have hbA : ¬ (fun q : Nat => s.heap.size ≤ q) b := Nat.not_le.mpr hbl
  have hA0 : ∀ q, (fun q : Nat => s.heap.size ≤ q) q → st 100 ≤ q := fun q h => by rw [hst]; exact h
  have hfit : cells ≤ room_1.cells ∧ slots ≤ room_1.slots := ⟨Nat.le_trans (Nat.le_add_right _ _) hcl, Nat.le_trans (Nat.le_add_right _ _) hsl⟩
  subst hx0
  refine lv_aload_n hx hb dL_law_1346 rfl (lv_at hl 1 rfl) ?_
  obtain ⟨⟨r, uA⟩, hfX, hqX⟩ := tfX11_nothing_0  u hIX
  refine lg_i (V := VX cy aX st) (Ad := AX aX) (As := []) (rest := []) ⟨hx, hb, hml, hown, fun w h => hts0 w (gw_X11_nothing w h)⟩ hA0 hK hPX hS (fun q h => h.elim (hAX q) (fun z => Nat.le_trans hS.1 z)) (metX11_nothing_0 l D cy aX st hJX H.size  hfX) (cwV 0 (fun w h => hts0 w (gw_X11_nothing w h)) gx_X11_nothing rfl rfl rfl (by decide +kernel) ⟨Nat.le_of_ble_eq_true rfl, Nat.le_of_ble_eq_true rfl⟩) 0 11 rfl rfl rfl hl.1 rfl (Nat.le_of_ble_eq_true rfl) dL_law_1347 hfit (fun H1 locs1 hP1 hkeep hS1 => ?_)
  have hPM1 := hkeep _ hPM (fun k q hq => hdis _ (VM_mem hq))
  have hPo1 := hkeep _ hPo (fun k q hq => by rw [oat hq]; exact hoX)
  have hIX1 : IX uA := hqX.1.1
  have hFX := hqX.1.2
  have hTX := hqX.1.2.2.2.2.2
  have hfrX := hqX.1.2.1
  have hrwX := hqX.1.2.2.1
  clear hPX hPM hPo hS hkeep
  have hPX := hP1
  have hPM := hPM1
  have hPo := hPo1
  have hS := hS1
  clear hP1 hPM1 hPo1 hS1 hqX
  generalize H1 = H at hPX hPo hPM hS ⊢
  generalize locs1 = locs at hS ⊢
  refine lv_pop hx hb dL_law_1350 rfl ?_
  refine lv_aload_n hx hb dL_law_1351 rfl (lv_at hl 2 rfl) ?_
  obtain ⟨⟨rM, vA⟩, hfM, hqM⟩ := tfX12_nothing_0  v hIM
  refine lg_i (V := VM cy aM st) (Ad := AM aM) (As := []) (rest := []) ⟨hx, hb, hml, hown, fun w h => hts0 w (gw_X12_nothing w h)⟩ hA0 hK hPM hS (fun q h => h.elim (hAM q) (fun z => Nat.le_trans hS.1 z)) (metX12_nothing_0 l D cy aM st hJM H.size  hfM) (cwV 0 (fun w h => hts0 w (gw_X12_nothing w h)) gx_X12_nothing rfl rfl rfl (by decide +kernel) ⟨Nat.le_of_ble_eq_true rfl, Nat.le_of_ble_eq_true rfl⟩) 0 12 rfl rfl rfl hl.1 rfl (Nat.le_of_ble_eq_true rfl) dL_law_1352 hfit (fun H1 locs1 hP1 hkeep hS1 => ?_)
  have hPX1 := hkeep _ hPX (fun k q hq hz => hdis _ hz ⟨k, (VX_adr hq).1⟩)
  have hPo1 := hkeep _ hPo (fun k q hq => by rw [oat hq]; exact hoM)
  have hEv1 : EvM vA := EvM_fr (hqM.1.2.1 13 (by decide)) (hqM.1.2.1 14 (by decide)) (hqM.1.2.1 21 (by decide)) (hqM.1.2.2.1 33 (by decide)) hEv
  have htie1 : Tie uA vA := Tie_fr hfrX hqM.1.2.1 (by decide) htie
  have hrow1 : TieR uA vA := TieR_fr (hfrX 36 (by decide)) (hrwX 63 (by decide)) (hrwX 64 (by decide)) (hrwX 65 (by decide)) (hqM.1.2.2.1 36 (by decide)) (hqM.1.2.2.1 37 (by decide)) (hqM.1.2.2.1 38 (by decide)) hrow
  have htape1 : TieT uA vA := TieT_fr (hfrX 1 (by decide)) (hrwX 13 (by decide)) (hqM.1.2.1 3 (by decide)) (hqM.1.2.2.1 1 (by decide)) htape
  have hcnt1 : TieC uA vA := TieC_fr (hfrX 5 (by decide)) (hfrX 6 (by decide)) (hfrX 7 (by decide)) (hqM.1.2.2.1 4 (by decide)) hcnt
  have hpar1 : TieP uA vA := TieP_fr (hfrX 8 (by decide)) (hfrX 29 (by decide)) (hfrX 9 (by decide)) (hfrX 0 (by decide)) (hrwX 52 (by decide)) (hqM.1.2.1 12 (by decide)) (hqM.1.2.1 21 (by decide)) (hqM.1.2.1 14 (by decide)) (hqM.1.2.2.1 33 (by decide)) hpar
  have hspn1 : TieS uA vA := TieS_fr hfrX hrwX hqM.1.2.1 hqM.1.2.2.1 (by decide) hspn
  have hcx1 : CX uA := CX_fr2 hfrX hrwX (by decide) hcx
  have hval1 : TieV uA vA := TieV_fr (hfrX 5 (by decide)) (hfrX 6 (by decide)) (hfrX 7 (by decide)) hTX (hqM.1.2.2.1 2 (by decide)) (hqM.1.2.2.1 3 (by decide)) hval
  have hpl1 : PL uA := PL_fr (hfrX 8 (by decide)) (hfrX 5 (by decide)) (hrwX 24 (by decide)) hpl
  have hgag1 : TieG uA vA := TieG_fr hfrX hrwX hqM.1.2.2.1 (by decide) hgag
  have hcw1 : CW uA := CW_md hFX (by decide) (by decide) hcw
  have hck1 : CK uA := CK_md hFX (by decide) (by decide) hck
  have hwg1 : WG uA := WG_fr (hfrX 13 (by decide)) (hrwX 36 (by decide)) hwg
  have hdn1 : TieD uA vA := TieD_fr (hfrX 29 (by decide)) (hrwX 52 (by decide)) (hqM.1.2.1 13 (by decide)) (hqM.1.2.2.1 11 (by decide)) (hqM.1.2.2.1 15 (by decide)) hdn
  have hIM1 : IM vA := hqM.1.1
  clear hPX hPM hPo hS hIM hEv htie hrow htape hcnt hpar hspn hcx hval hpl hgag hcw hck hwg hdn hkeep hfrX hrwX hIX
  have hPX := hPX1
  have hPM := hP1
  have hPo := hPo1
  have hS := hS1
  have hIM := hIM1
  have hEv := hEv1
  have htie := htie1
  have hrow := hrow1
  have htape := htape1
  have hcnt := hcnt1
  have hpar := hpar1
  have hspn := hspn1
  have hcx := hcx1
  have hval := hval1
  have hpl := hpl1
  have hgag := hgag1
  have hcw := hcw1
  have hck := hck1
  have hwg := hwg1
  have hdn := hdn1
  have hIX := hIX1
  clear hIX1
  clear hP1 hPX1 hPo1 hS1 hIM1 hEv1 htie1 hrow1 htape1 hcnt1 hpar1 hspn1 hcx1 hval1 hpl1 hgag1 hcw1 hck1 hwg1 hdn1 hqM
  generalize H1 = H at hPX hPo hPM hS ⊢
  generalize locs1 = locs at hS ⊢
  refine lv_pop hx hb dL_law_1355 rfl ?_
  refine lv_goto (tgt := 1958) hx hb dL_law_1356 (by decide) ?_
  refine W.widen (k := cells + 2) (n := slots + 122) (Nat.le_add_right _ _) (Nat.le_add_right _ _) ?_
  exact kk aX uA vA f H locs ls ⟨rfl, hJX, hAX, hdis, hoX, hPX, hPM, hPo, hS, hIX, hIM, hEv, htie, hrow, htape, hcnt, hpar, hspn, hcx, hval, hpl, hgag, hcw, hck, hwg, hdn⟩ hl
theorem dL_law_1359 : decode cL_law 1359 = .ok (.aload_n 1, 1) := by decide +kernel
theorem dL_law_1360 : decode cL_law 1360 = .ok (.aload_n 0, 1) := by decide +kernel
theorem dL_law_1361 : decode cL_law 1361 = .ok (.iload 4, 2) := by decide +kernel
theorem dL_law_1363 : decode cL_law 1363 = .ok (.iconst 1, 1) := by decide +kernel
theorem dL_law_1364 : decode cL_law 1364 = .ok (.iadd, 1) := by decide +kernel
theorem dL_law_1365 : decode cL_law 1365 = .ok (.iaload, 1) := by decide +kernel
theorem dL_law_1366 : decode cL_law 1366 = .ok (.aload_n 0, 1) := by decide +kernel
theorem dL_law_1367 : decode cL_law 1367 = .ok (.iload 4, 2) := by decide +kernel
theorem dL_law_1369 : decode cL_law 1369 = .ok (.iconst 2, 1) := by decide +kernel
theorem dL_law_1370 : decode cL_law 1370 = .ok (.iadd, 1) := by decide +kernel
theorem dL_law_1371 : decode cL_law 1371 = .ok (.iaload, 1) := by decide +kernel
theorem dL_law_1372 : decode cL_law 1372 = .ok (.aload_n 0, 1) := by decide +kernel
theorem dL_law_1373 : decode cL_law 1373 = .ok (.iload 4, 2) := by decide +kernel
theorem dL_law_1375 : decode cL_law 1375 = .ok (.iconst 3, 1) := by decide +kernel
theorem dL_law_1376 : decode cL_law 1376 = .ok (.iadd, 1) := by decide +kernel
theorem dL_law_1377 : decode cL_law 1377 = .ok (.iaload, 1) := by decide +kernel
theorem dL_law_1378 : decode cL_law 1378 = .ok (.invokevirtual 124, 3) := by decide +kernel
theorem dL_law_1381 : decode cL_law 1381 = .ok (.pop, 1) := by decide +kernel
theorem dL_law_1382 : decode cL_law 1382 = .ok (.aload_n 2, 1) := by decide +kernel
theorem dL_law_1383 : decode cL_law 1383 = .ok (.aload_n 0, 1) := by decide +kernel
theorem dL_law_1384 : decode cL_law 1384 = .ok (.iload 4, 2) := by decide +kernel
theorem dL_law_1386 : decode cL_law 1386 = .ok (.iconst 1, 1) := by decide +kernel
theorem dL_law_1387 : decode cL_law 1387 = .ok (.iadd, 1) := by decide +kernel
theorem dL_law_1388 : decode cL_law 1388 = .ok (.iaload, 1) := by decide +kernel
theorem dL_law_1389 : decode cL_law 1389 = .ok (.aload_n 0, 1) := by decide +kernel
theorem dL_law_1390 : decode cL_law 1390 = .ok (.iload 4, 2) := by decide +kernel
theorem dL_law_1392 : decode cL_law 1392 = .ok (.iconst 2, 1) := by decide +kernel
theorem dL_law_1393 : decode cL_law 1393 = .ok (.iadd, 1) := by decide +kernel
theorem dL_law_1394 : decode cL_law 1394 = .ok (.iaload, 1) := by decide +kernel
theorem dL_law_1395 : decode cL_law 1395 = .ok (.aload_n 0, 1) := by decide +kernel
theorem dL_law_1396 : decode cL_law 1396 = .ok (.iload 4, 2) := by decide +kernel
theorem dL_law_1398 : decode cL_law 1398 = .ok (.iconst 3, 1) := by decide +kernel
theorem dL_law_1399 : decode cL_law 1399 = .ok (.iadd, 1) := by decide +kernel
theorem dL_law_1400 : decode cL_law 1400 = .ok (.iaload, 1) := by decide +kernel
theorem dL_law_1401 : decode cL_law 1401 = .ok (.invokevirtual 127, 3) := by decide +kernel
theorem dL_law_1404 : decode cL_law 1404 = .ok (.pop, 1) := by decide +kernel
theorem dL_law_1405 : decode cL_law 1405 = .ok (.goto 553, 3) := by decide +kernel
set_option maxHeartbeats 4000000 in
set_option maxRecDepth 100000 in
theorem case_22 {p : Program} {e : Env} {s : State} {m : MethodId} {below : List Frame} {meth : Method} {c : Code} (l : Launch) (hfl : l.stackTraces = false) {b L : Nat} {xs : Nat → Int32} {D : va_G} {cy : Nat → ClassId} {st aM : Nat → Nat} {o x0 : Nat} {aX : Nat → Nat} {u v : SX} {f : Nat → Int64} {H : Heap} {locs : List Loc} {ls : Array Slot} {i : Int32} {cells slots : Nat} {Q : State → Prop} (F : LF p s m meth c b L xs D cy st aM o) (I : LI s D cy st aM o x0 aX u v f H locs) (hi0 : 0 ≤ i.toInt) (hi9 : i.toInt + 9 ≤ (L : Int)) (hcl : cells + 2 ≤ room_1.cells) (hsl : slots + 122 ≤ room_1.slots) (hl : lv_has ls 7 [(0, .ref b), (1, .ref x0), (2, .ref (aM 0)), (3, .ref o), (4, .int i)]) (kk : ∀ (aX : Nat → Nat) (u v : SX) (f : Nat → Int64) (H : Heap) (locs : List Loc) (ls : Array Slot), LI s D cy st aM o x0 aX u v f H locs → lv_has ls 7 [(0, .ref b), (1, .ref x0), (2, .ref (aM 0)), (3, .ref o), (4, .int i)] → W p l e room_1 s m #[Value.ref b] below meth c H locs (cells + 2) (slots + 122) Q (F0 m 1958 ls [])) : W p l e room_1 s m #[Value.ref b] below meth c H locs cells slots Q (F0 m 1359 ls []) := by
  obtain ⟨C0, hL, hK, hJM, hAM, hoM, hso, hst, hE, hCL⟩ := F
  obtain ⟨hx, hb, hr, hml, hown, hts0, hX, hbl, hlocks, hgv⟩ := C0
  obtain ⟨hx0, hJX, hAX, hdis, hoX, hPX, hPM, hPo, hS, hIX, hIM, hEv, htie, hrow, htape, hcnt, hpar, hspn, hcx, hval, hpl, hgag, hcw, hck, hwg, hdn⟩ := I
  have hts : ∀ w ∈ wsL_law, w.before #[Value.ref b] s = true := fun w h => hts0 w (wsL_law_in w h)
  have hbA : ¬ (fun q : Nat => s.heap.size ≤ q) b := Nat.not_le.mpr hbl
  have hA0 : ∀ q, (fun q : Nat => s.heap.size ≤ q) q → st 100 ≤ q := fun q h => by rw [hst]; exact h
  have hfit : cells ≤ room_1.cells ∧ slots ≤ room_1.slots := ⟨Nat.le_trans (Nat.le_add_right _ _) hcl, Nat.le_trans (Nat.le_add_right _ _) hsl⟩
  subst hx0
  obtain ⟨y1, hy1⟩ : ∃ y, xs (i + 1).toNatClampNeg = y := ⟨_, rfl⟩
  have hin1 : vp_in (i + 1) L := in9 (show (1 : Int32).toInt = 1 by decide) hi0 hi9 hL (by decide) (by decide)
  obtain ⟨y2, hy2⟩ : ∃ y, xs (i + 2).toNatClampNeg = y := ⟨_, rfl⟩
  have hin2 : vp_in (i + 2) L := in9 (show (2 : Int32).toInt = 2 by decide) hi0 hi9 hL (by decide) (by decide)
  obtain ⟨y3, hy3⟩ : ∃ y, xs (i + 3).toNatClampNeg = y := ⟨_, rfl⟩
  have hin3 : vp_in (i + 3) L := in9 (show (3 : Int32).toInt = 3 by decide) hi0 hi9 hL (by decide) (by decide)
  refine lv_aload_n hx hb dL_law_1359 rfl (lv_at hl 1 rfl) ?_
  refine lv_aload_n hx hb dL_law_1360 rfl (lv_at hl 0 rfl) ?_
  refine lv_iload hx hb dL_law_1361 (lv_at hl 4 rfl) ?_
  refine lv_iconst (v := 1) hx hb dL_law_1363 (by decide) ?_
  refine lv_iadd hx hb dL_law_1364 ?_
  refine sld9 (v := y1) hx hb hX hbl hbA hS hin1 hy1 dL_law_1365 ?_
  refine lv_aload_n hx hb dL_law_1366 rfl (lv_at hl 0 rfl) ?_
  refine lv_iload hx hb dL_law_1367 (lv_at hl 4 rfl) ?_
  refine lv_iconst (v := 2) hx hb dL_law_1369 (by decide) ?_
  refine lv_iadd hx hb dL_law_1370 ?_
  refine sld9 (v := y2) hx hb hX hbl hbA hS hin2 hy2 dL_law_1371 ?_
  refine lv_aload_n hx hb dL_law_1372 rfl (lv_at hl 0 rfl) ?_
  refine lv_iload hx hb dL_law_1373 (lv_at hl 4 rfl) ?_
  refine lv_iconst (v := 3) hx hb dL_law_1375 (by decide) ?_
  refine lv_iadd hx hb dL_law_1376 ?_
  refine sld9 (v := y3) hx hb hX hbl hbA hS hin3 hy3 dL_law_1377 ?_
  obtain ⟨⟨r, uA⟩, hfX, hqX⟩ := tfX11_plan_0 y1 y2 y3 u hIX
  refine lg_i (V := VX cy aX st) (Ad := AX aX) (As := [.int y1, .int y2, .int y3]) (rest := []) ⟨hx, hb, hml, hown, fun w h => hts0 w (gw_X11_plan w h)⟩ hA0 hK hPX hS (fun q h => h.elim (hAX q) (fun z => Nat.le_trans hS.1 z)) (metX11_plan_0 l D cy aX st hJX H.size y1 y2 y3 hfX) (cwV 3 (fun w h => hts0 w (gw_X11_plan w h)) gx_X11_plan rfl rfl rfl (by decide +kernel) ⟨Nat.le_of_ble_eq_true rfl, Nat.le_of_ble_eq_true rfl⟩) 0 11 rfl rfl rfl hl.1 rfl (Nat.le_of_ble_eq_true rfl) dL_law_1378 hfit (fun H1 locs1 hP1 hkeep hS1 => ?_)
  have hPM1 := hkeep _ hPM (fun k q hq => hdis _ (VM_mem hq))
  have hPo1 := hkeep _ hPo (fun k q hq => by rw [oat hq]; exact hoX)
  have hIX1 : IX uA := hqX.1.1
  have hFX := hqX.1.2
  have hTX := hqX.1.2.2.2.2.2
  have hfrX := hqX.1.2.1
  have hrwX := hqX.1.2.2.1
  clear hPX hPM hPo hS hkeep
  have hPX := hP1
  have hPM := hPM1
  have hPo := hPo1
  have hS := hS1
  clear hP1 hPM1 hPo1 hS1 hqX
  generalize H1 = H at hPX hPo hPM hS ⊢
  generalize locs1 = locs at hS ⊢
  refine lv_pop hx hb dL_law_1381 rfl ?_
  refine lv_aload_n hx hb dL_law_1382 rfl (lv_at hl 2 rfl) ?_
  refine lv_aload_n hx hb dL_law_1383 rfl (lv_at hl 0 rfl) ?_
  refine lv_iload hx hb dL_law_1384 (lv_at hl 4 rfl) ?_
  refine lv_iconst (v := 1) hx hb dL_law_1386 (by decide) ?_
  refine lv_iadd hx hb dL_law_1387 ?_
  refine sld9 (v := y1) hx hb hX hbl hbA hS hin1 hy1 dL_law_1388 ?_
  refine lv_aload_n hx hb dL_law_1389 rfl (lv_at hl 0 rfl) ?_
  refine lv_iload hx hb dL_law_1390 (lv_at hl 4 rfl) ?_
  refine lv_iconst (v := 2) hx hb dL_law_1392 (by decide) ?_
  refine lv_iadd hx hb dL_law_1393 ?_
  refine sld9 (v := y2) hx hb hX hbl hbA hS hin2 hy2 dL_law_1394 ?_
  refine lv_aload_n hx hb dL_law_1395 rfl (lv_at hl 0 rfl) ?_
  refine lv_iload hx hb dL_law_1396 (lv_at hl 4 rfl) ?_
  refine lv_iconst (v := 3) hx hb dL_law_1398 (by decide) ?_
  refine lv_iadd hx hb dL_law_1399 ?_
  refine sld9 (v := y3) hx hb hX hbl hbA hS hin3 hy3 dL_law_1400 ?_
  obtain ⟨⟨rM, vA⟩, hfM, hqM⟩ := tfX12_plan_0 y1 y2 y3 v hIM
  refine lg_i (V := VM cy aM st) (Ad := AM aM) (As := [.int y1, .int y2, .int y3]) (rest := []) ⟨hx, hb, hml, hown, fun w h => hts0 w (gw_X12_plan w h)⟩ hA0 hK hPM hS (fun q h => h.elim (hAM q) (fun z => Nat.le_trans hS.1 z)) (metX12_plan_0 l D cy aM st hJM H.size y1 y2 y3 hfM) (cwV 3 (fun w h => hts0 w (gw_X12_plan w h)) gx_X12_plan rfl rfl rfl (by decide +kernel) ⟨Nat.le_of_ble_eq_true rfl, Nat.le_of_ble_eq_true rfl⟩) 0 12 rfl rfl rfl hl.1 rfl (Nat.le_of_ble_eq_true rfl) dL_law_1401 hfit (fun H1 locs1 hP1 hkeep hS1 => ?_)
  have hPX1 := hkeep _ hPX (fun k q hq hz => hdis _ hz ⟨k, (VX_adr hq).1⟩)
  have hPo1 := hkeep _ hPo (fun k q hq => by rw [oat hq]; exact hoM)
  have hEv1 : EvM vA := EvM_fr (hqM.1.2.1 13 (by decide)) (hqM.1.2.1 14 (by decide)) (hqM.1.2.1 21 (by decide)) (hqM.1.2.2.1 33 (by decide)) hEv
  have htie1 : Tie uA vA := Tie_fr hfrX hqM.1.2.1 (by decide) htie
  have hrow1 : TieR uA vA := TieR_fr (hfrX 36 (by decide)) (hrwX 63 (by decide)) (hrwX 64 (by decide)) (hrwX 65 (by decide)) (hqM.1.2.2.1 36 (by decide)) (hqM.1.2.2.1 37 (by decide)) (hqM.1.2.2.1 38 (by decide)) hrow
  have htape1 : TieT uA vA := TieT_fr (hfrX 1 (by decide)) (hrwX 13 (by decide)) (hqM.1.2.1 3 (by decide)) (hqM.1.2.2.1 1 (by decide)) htape
  have hcnt1 : TieC uA vA := TieC_fr (hfrX 5 (by decide)) (hfrX 6 (by decide)) (hfrX 7 (by decide)) (hqM.1.2.2.1 4 (by decide)) hcnt
  have hpar1 : TieP uA vA := TieP_fr (hfrX 8 (by decide)) (hfrX 29 (by decide)) (hfrX 9 (by decide)) (hfrX 0 (by decide)) (hrwX 52 (by decide)) (hqM.1.2.1 12 (by decide)) (hqM.1.2.1 21 (by decide)) (hqM.1.2.1 14 (by decide)) (hqM.1.2.2.1 33 (by decide)) hpar
  have hspn1 : TieS uA vA := TieS_fr hfrX hrwX hqM.1.2.1 hqM.1.2.2.1 (by decide) hspn
  have hcx1 : CX uA := (Tot_at (cfX11_plan_0 _ _ _ u ⟨hIX, hcx⟩) hfX).1.1.2
  have hval1 : TieV uA vA := TieV_fr (hfrX 5 (by decide)) (hfrX 6 (by decide)) (hfrX 7 (by decide)) hTX (hqM.1.2.2.1 2 (by decide)) (hqM.1.2.2.1 3 (by decide)) hval
  have hpl1 : PL uA := PL_fr (hfrX 8 (by decide)) (hfrX 5 (by decide)) (hrwX 24 (by decide)) hpl
  have hgag1 : TieG uA vA := TieG_fr hfrX hrwX hqM.1.2.2.1 (by decide) hgag
  have hRK : RK u := ⟨⟨hIX, hcx, hpl, LVX_of hIX hIM hval hgag, hcw⟩, hck⟩
  have hMR : MR u v := ⟨hIM, hpar, hspn, hval, hgag⟩
  have hRK1 : RK uA := plan_K hRK.1 hRK.2 (LKP_of hspn) hfX
  have hcw1 : CW uA := hRK1.1.2.2.2.2
  have hck1 : CK uA := hRK1.2
  clear hRK hMR hRK1
  have hwg1 : WG uA := WG_fr (hfrX 13 (by decide)) (hrwX 36 (by decide)) hwg
  have hdn1 : TieD uA vA := TieD_fr (hfrX 29 (by decide)) (hrwX 52 (by decide)) (hqM.1.2.1 13 (by decide)) (hqM.1.2.2.1 11 (by decide)) (hqM.1.2.2.1 15 (by decide)) hdn
  have hIM1 : IM vA := hqM.1.1
  clear hPX hPM hPo hS hIM hEv htie hrow htape hcnt hpar hspn hcx hval hpl hgag hcw hck hwg hdn hkeep hfrX hrwX hIX
  have hPX := hPX1
  have hPM := hP1
  have hPo := hPo1
  have hS := hS1
  have hIM := hIM1
  have hEv := hEv1
  have htie := htie1
  have hrow := hrow1
  have htape := htape1
  have hcnt := hcnt1
  have hpar := hpar1
  have hspn := hspn1
  have hcx := hcx1
  have hval := hval1
  have hpl := hpl1
  have hgag := hgag1
  have hcw := hcw1
  have hck := hck1
  have hwg := hwg1
  have hdn := hdn1
  have hIX := hIX1
  clear hIX1
  clear hP1 hPX1 hPo1 hS1 hIM1 hEv1 htie1 hrow1 htape1 hcnt1 hpar1 hspn1 hcx1 hval1 hpl1 hgag1 hcw1 hck1 hwg1 hdn1 hqM
  generalize H1 = H at hPX hPo hPM hS ⊢
  generalize locs1 = locs at hS ⊢
  refine lv_pop hx hb dL_law_1404 rfl ?_
  refine lv_goto (tgt := 1958) hx hb dL_law_1405 (by decide) ?_
  refine W.widen (k := cells + 2) (n := slots + 122) (Nat.le_add_right _ _) (Nat.le_add_right _ _) ?_
  exact kk aX uA vA f H locs ls ⟨rfl, hJX, hAX, hdis, hoX, hPX, hPM, hPo, hS, hIX, hIM, hEv, htie, hrow, htape, hcnt, hpar, hspn, hcx, hval, hpl, hgag, hcw, hck, hwg, hdn⟩ hl
theorem dL_law_1408 : decode cL_law 1408 = .ok (.aload_n 1, 1) := by decide +kernel
theorem dL_law_1409 : decode cL_law 1409 = .ok (.aload_n 0, 1) := by decide +kernel
theorem dL_law_1410 : decode cL_law 1410 = .ok (.iload 4, 2) := by decide +kernel
theorem dL_law_1412 : decode cL_law 1412 = .ok (.iconst 1, 1) := by decide +kernel
theorem dL_law_1413 : decode cL_law 1413 = .ok (.iadd, 1) := by decide +kernel
theorem dL_law_1414 : decode cL_law 1414 = .ok (.iaload, 1) := by decide +kernel
theorem dL_law_1415 : decode cL_law 1415 = .ok (.aload_n 0, 1) := by decide +kernel
theorem dL_law_1416 : decode cL_law 1416 = .ok (.iload 4, 2) := by decide +kernel
theorem dL_law_1418 : decode cL_law 1418 = .ok (.iconst 2, 1) := by decide +kernel
theorem dL_law_1419 : decode cL_law 1419 = .ok (.iadd, 1) := by decide +kernel
theorem dL_law_1420 : decode cL_law 1420 = .ok (.iaload, 1) := by decide +kernel
theorem dL_law_1421 : decode cL_law 1421 = .ok (.invokevirtual 128, 3) := by decide +kernel
theorem dL_law_1424 : decode cL_law 1424 = .ok (.pop, 1) := by decide +kernel
theorem dL_law_1425 : decode cL_law 1425 = .ok (.aload_n 2, 1) := by decide +kernel
theorem dL_law_1426 : decode cL_law 1426 = .ok (.aload_n 0, 1) := by decide +kernel
theorem dL_law_1427 : decode cL_law 1427 = .ok (.iload 4, 2) := by decide +kernel
theorem dL_law_1429 : decode cL_law 1429 = .ok (.iconst 1, 1) := by decide +kernel
theorem dL_law_1430 : decode cL_law 1430 = .ok (.iadd, 1) := by decide +kernel
theorem dL_law_1431 : decode cL_law 1431 = .ok (.iaload, 1) := by decide +kernel
theorem dL_law_1432 : decode cL_law 1432 = .ok (.aload_n 0, 1) := by decide +kernel
theorem dL_law_1433 : decode cL_law 1433 = .ok (.iload 4, 2) := by decide +kernel
theorem dL_law_1435 : decode cL_law 1435 = .ok (.iconst 2, 1) := by decide +kernel
theorem dL_law_1436 : decode cL_law 1436 = .ok (.iadd, 1) := by decide +kernel
theorem dL_law_1437 : decode cL_law 1437 = .ok (.iaload, 1) := by decide +kernel
theorem dL_law_1438 : decode cL_law 1438 = .ok (.invokevirtual 131, 3) := by decide +kernel
theorem dL_law_1441 : decode cL_law 1441 = .ok (.pop, 1) := by decide +kernel
theorem dL_law_1442 : decode cL_law 1442 = .ok (.goto 516, 3) := by decide +kernel
set_option maxHeartbeats 4000000 in
set_option maxRecDepth 100000 in
theorem case_23 {p : Program} {e : Env} {s : State} {m : MethodId} {below : List Frame} {meth : Method} {c : Code} (l : Launch) (hfl : l.stackTraces = false) {b L : Nat} {xs : Nat → Int32} {D : va_G} {cy : Nat → ClassId} {st aM : Nat → Nat} {o x0 : Nat} {aX : Nat → Nat} {u v : SX} {f : Nat → Int64} {H : Heap} {locs : List Loc} {ls : Array Slot} {i : Int32} {cells slots : Nat} {Q : State → Prop} (F : LF p s m meth c b L xs D cy st aM o) (I : LI s D cy st aM o x0 aX u v f H locs) (hi0 : 0 ≤ i.toInt) (hi9 : i.toInt + 9 ≤ (L : Int)) (hcl : cells + 2 ≤ room_1.cells) (hsl : slots + 122 ≤ room_1.slots) (hl : lv_has ls 7 [(0, .ref b), (1, .ref x0), (2, .ref (aM 0)), (3, .ref o), (4, .int i)]) (kk : ∀ (aX : Nat → Nat) (u v : SX) (f : Nat → Int64) (H : Heap) (locs : List Loc) (ls : Array Slot), LI s D cy st aM o x0 aX u v f H locs → lv_has ls 7 [(0, .ref b), (1, .ref x0), (2, .ref (aM 0)), (3, .ref o), (4, .int i)] → W p l e room_1 s m #[Value.ref b] below meth c H locs (cells + 2) (slots + 122) Q (F0 m 1958 ls [])) : W p l e room_1 s m #[Value.ref b] below meth c H locs cells slots Q (F0 m 1408 ls []) := by
  obtain ⟨C0, hL, hK, hJM, hAM, hoM, hso, hst, hE, hCL⟩ := F
  obtain ⟨hx, hb, hr, hml, hown, hts0, hX, hbl, hlocks, hgv⟩ := C0
  obtain ⟨hx0, hJX, hAX, hdis, hoX, hPX, hPM, hPo, hS, hIX, hIM, hEv, htie, hrow, htape, hcnt, hpar, hspn, hcx, hval, hpl, hgag, hcw, hck, hwg, hdn⟩ := I
  have hts : ∀ w ∈ wsL_law, w.before #[Value.ref b] s = true := fun w h => hts0 w (wsL_law_in w h)
  have hbA : ¬ (fun q : Nat => s.heap.size ≤ q) b := Nat.not_le.mpr hbl
  have hA0 : ∀ q, (fun q : Nat => s.heap.size ≤ q) q → st 100 ≤ q := fun q h => by rw [hst]; exact h
  have hfit : cells ≤ room_1.cells ∧ slots ≤ room_1.slots := ⟨Nat.le_trans (Nat.le_add_right _ _) hcl, Nat.le_trans (Nat.le_add_right _ _) hsl⟩
  subst hx0
  obtain ⟨y1, hy1⟩ : ∃ y, xs (i + 1).toNatClampNeg = y := ⟨_, rfl⟩
  have hin1 : vp_in (i + 1) L := in9 (show (1 : Int32).toInt = 1 by decide) hi0 hi9 hL (by decide) (by decide)
  obtain ⟨y2, hy2⟩ : ∃ y, xs (i + 2).toNatClampNeg = y := ⟨_, rfl⟩
  have hin2 : vp_in (i + 2) L := in9 (show (2 : Int32).toInt = 2 by decide) hi0 hi9 hL (by decide) (by decide)
  refine lv_aload_n hx hb dL_law_1408 rfl (lv_at hl 1 rfl) ?_
  refine lv_aload_n hx hb dL_law_1409 rfl (lv_at hl 0 rfl) ?_
  refine lv_iload hx hb dL_law_1410 (lv_at hl 4 rfl) ?_
  refine lv_iconst (v := 1) hx hb dL_law_1412 (by decide) ?_
  refine lv_iadd hx hb dL_law_1413 ?_
  refine sld9 (v := y1) hx hb hX hbl hbA hS hin1 hy1 dL_law_1414 ?_
  refine lv_aload_n hx hb dL_law_1415 rfl (lv_at hl 0 rfl) ?_
  refine lv_iload hx hb dL_law_1416 (lv_at hl 4 rfl) ?_
  refine lv_iconst (v := 2) hx hb dL_law_1418 (by decide) ?_
  refine lv_iadd hx hb dL_law_1419 ?_
  refine sld9 (v := y2) hx hb hX hbl hbA hS hin2 hy2 dL_law_1420 ?_
  obtain ⟨⟨r, uA⟩, hfX, hqX⟩ := tfX11_judge_0 y1 y2 u hIX
  refine lg_i (V := VX cy aX st) (Ad := AX aX) (As := [.int y1, .int y2]) (rest := []) ⟨hx, hb, hml, hown, fun w h => hts0 w (gw_X11_judge w h)⟩ hA0 hK hPX hS (fun q h => h.elim (hAX q) (fun z => Nat.le_trans hS.1 z)) (metX11_judge_0 l D cy aX st hJX H.size y1 y2 hfX) (cwV 2 (fun w h => hts0 w (gw_X11_judge w h)) gx_X11_judge rfl rfl rfl (by decide +kernel) ⟨Nat.le_of_ble_eq_true rfl, Nat.le_of_ble_eq_true rfl⟩) 0 11 rfl rfl rfl hl.1 rfl (Nat.le_of_ble_eq_true rfl) dL_law_1421 hfit (fun H1 locs1 hP1 hkeep hS1 => ?_)
  have hPM1 := hkeep _ hPM (fun k q hq => hdis _ (VM_mem hq))
  have hPo1 := hkeep _ hPo (fun k q hq => by rw [oat hq]; exact hoX)
  have hIX1 : IX uA := hqX.1.1
  have hFX := hqX.1.2
  have hTX := hqX.1.2.2.2.2.2
  have hfrX := hqX.1.2.1
  have hrwX := hqX.1.2.2.1
  clear hPX hPM hPo hS hkeep
  have hPX := hP1
  have hPM := hPM1
  have hPo := hPo1
  have hS := hS1
  clear hP1 hPM1 hPo1 hS1 hqX
  generalize H1 = H at hPX hPo hPM hS ⊢
  generalize locs1 = locs at hS ⊢
  refine lv_pop hx hb dL_law_1424 rfl ?_
  refine lv_aload_n hx hb dL_law_1425 rfl (lv_at hl 2 rfl) ?_
  refine lv_aload_n hx hb dL_law_1426 rfl (lv_at hl 0 rfl) ?_
  refine lv_iload hx hb dL_law_1427 (lv_at hl 4 rfl) ?_
  refine lv_iconst (v := 1) hx hb dL_law_1429 (by decide) ?_
  refine lv_iadd hx hb dL_law_1430 ?_
  refine sld9 (v := y1) hx hb hX hbl hbA hS hin1 hy1 dL_law_1431 ?_
  refine lv_aload_n hx hb dL_law_1432 rfl (lv_at hl 0 rfl) ?_
  refine lv_iload hx hb dL_law_1433 (lv_at hl 4 rfl) ?_
  refine lv_iconst (v := 2) hx hb dL_law_1435 (by decide) ?_
  refine lv_iadd hx hb dL_law_1436 ?_
  refine sld9 (v := y2) hx hb hX hbl hbA hS hin2 hy2 dL_law_1437 ?_
  obtain ⟨⟨rM, vA⟩, hfM, hqM⟩ := tfX12_judge_0 y1 y2 v hIM
  refine lg_i (V := VM cy aM st) (Ad := AM aM) (As := [.int y1, .int y2]) (rest := []) ⟨hx, hb, hml, hown, fun w h => hts0 w (gw_X12_judge w h)⟩ hA0 hK hPM hS (fun q h => h.elim (hAM q) (fun z => Nat.le_trans hS.1 z)) (metX12_judge_0 l D cy aM st hJM H.size y1 y2 hfM) (cwV 2 (fun w h => hts0 w (gw_X12_judge w h)) gx_X12_judge rfl rfl rfl (by decide +kernel) ⟨Nat.le_of_ble_eq_true rfl, Nat.le_of_ble_eq_true rfl⟩) 0 12 rfl rfl rfl hl.1 rfl (Nat.le_of_ble_eq_true rfl) dL_law_1438 hfit (fun H1 locs1 hP1 hkeep hS1 => ?_)
  have hPX1 := hkeep _ hPX (fun k q hq hz => hdis _ hz ⟨k, (VX_adr hq).1⟩)
  have hPo1 := hkeep _ hPo (fun k q hq => by rw [oat hq]; exact hoM)
  have hEv1 : EvM vA := EvM_fr (hqM.1.2.1 13 (by decide)) (hqM.1.2.1 14 (by decide)) (hqM.1.2.1 21 (by decide)) (hqM.1.2.2.1 33 (by decide)) hEv
  have htie1 : Tie uA vA := Tie_fr hfrX hqM.1.2.1 (by decide) htie
  have hrow1 : TieR uA vA := TieR_fr (hfrX 36 (by decide)) (hrwX 63 (by decide)) (hrwX 64 (by decide)) (hrwX 65 (by decide)) (hqM.1.2.2.1 36 (by decide)) (hqM.1.2.2.1 37 (by decide)) (hqM.1.2.2.1 38 (by decide)) hrow
  have htape1 : TieT uA vA := TieT_fr (hfrX 1 (by decide)) (hrwX 13 (by decide)) (hqM.1.2.1 3 (by decide)) (hqM.1.2.2.1 1 (by decide)) htape
  have hcnt1 : TieC uA vA := TieC_fr (hfrX 5 (by decide)) (hfrX 6 (by decide)) (hfrX 7 (by decide)) (hqM.1.2.2.1 4 (by decide)) hcnt
  have hpar1 : TieP uA vA := TieP_fr (hfrX 8 (by decide)) (hfrX 29 (by decide)) (hfrX 9 (by decide)) (hfrX 0 (by decide)) (hrwX 52 (by decide)) (hqM.1.2.1 12 (by decide)) (hqM.1.2.1 21 (by decide)) (hqM.1.2.1 14 (by decide)) (hqM.1.2.2.1 33 (by decide)) hpar
  have hspn1 : TieS uA vA := TieS_fr hfrX hrwX hqM.1.2.1 hqM.1.2.2.1 (by decide) hspn
  have hcx1 : CX uA := (Tot_at (cfX11_judge_0 _ _ u ⟨hIX, hcx⟩) hfX).1.1.2
  have hval1 : TieV uA vA := TieV_fr (hfrX 5 (by decide)) (hfrX 6 (by decide)) (hfrX 7 (by decide)) hTX (hqM.1.2.2.1 2 (by decide)) (hqM.1.2.2.1 3 (by decide)) hval
  have hpl1 : PL uA := PL_fr (hfrX 8 (by decide)) (hfrX 5 (by decide)) (hrwX 24 (by decide)) hpl
  have hgag1 : TieG uA vA := TieG_fr hfrX hrwX hqM.1.2.2.1 (by decide) hgag
  have hRK : RK u := ⟨⟨hIX, hcx, hpl, LVX_of hIX hIM hval hgag, hcw⟩, hck⟩
  have hMR : MR u v := ⟨hIM, hpar, hspn, hval, hgag⟩
  obtain ⟨er, hRK1⟩ : r = rM ∧ RK uA := judge_eq hRK.1 hRK.2 htie hMR hfX hfM
  have hcw1 : CW uA := hRK1.1.2.2.2.2
  have hck1 : CK uA := hRK1.2
  clear hRK hMR hRK1
  have hwg1 : WG uA := WG_fr (hfrX 13 (by decide)) (hrwX 36 (by decide)) hwg
  have hdn1 : TieD uA vA := TieD_fr (hfrX 29 (by decide)) (hrwX 52 (by decide)) (hqM.1.2.1 13 (by decide)) (hqM.1.2.2.1 11 (by decide)) (hqM.1.2.2.1 15 (by decide)) hdn
  have hIM1 : IM vA := hqM.1.1
  clear hPX hPM hPo hS hIM hEv htie hrow htape hcnt hpar hspn hcx hval hpl hgag hcw hck hwg hdn hkeep hfrX hrwX hIX
  have hPX := hPX1
  have hPM := hP1
  have hPo := hPo1
  have hS := hS1
  have hIM := hIM1
  have hEv := hEv1
  have htie := htie1
  have hrow := hrow1
  have htape := htape1
  have hcnt := hcnt1
  have hpar := hpar1
  have hspn := hspn1
  have hcx := hcx1
  have hval := hval1
  have hpl := hpl1
  have hgag := hgag1
  have hcw := hcw1
  have hck := hck1
  have hwg := hwg1
  have hdn := hdn1
  have hIX := hIX1
  clear hIX1
  clear hP1 hPX1 hPo1 hS1 hIM1 hEv1 htie1 hrow1 htape1 hcnt1 hpar1 hspn1 hcx1 hval1 hpl1 hgag1 hcw1 hck1 hwg1 hdn1 hqM
  generalize H1 = H at hPX hPo hPM hS ⊢
  generalize locs1 = locs at hS ⊢
  refine lv_pop hx hb dL_law_1441 rfl ?_
  refine lv_goto (tgt := 1958) hx hb dL_law_1442 (by decide) ?_
  refine W.widen (k := cells + 2) (n := slots + 122) (Nat.le_add_right _ _) (Nat.le_add_right _ _) ?_
  exact kk aX uA vA f H locs ls ⟨rfl, hJX, hAX, hdis, hoX, hPX, hPM, hPo, hS, hIX, hIM, hEv, htie, hrow, htape, hcnt, hpar, hspn, hcx, hval, hpl, hgag, hcw, hck, hwg, hdn⟩ hl
theorem dL_law_1445 : decode cL_law 1445 = .ok (.aload_n 1, 1) := by decide +kernel
theorem dL_law_1446 : decode cL_law 1446 = .ok (.aload_n 0, 1) := by decide +kernel
theorem dL_law_1447 : decode cL_law 1447 = .ok (.iload 4, 2) := by decide +kernel
theorem dL_law_1449 : decode cL_law 1449 = .ok (.iconst 1, 1) := by decide +kernel
theorem dL_law_1450 : decode cL_law 1450 = .ok (.iadd, 1) := by decide +kernel
theorem dL_law_1451 : decode cL_law 1451 = .ok (.iaload, 1) := by decide +kernel
theorem dL_law_1452 : decode cL_law 1452 = .ok (.aload_n 0, 1) := by decide +kernel
theorem dL_law_1453 : decode cL_law 1453 = .ok (.iload 4, 2) := by decide +kernel
theorem dL_law_1455 : decode cL_law 1455 = .ok (.iconst 2, 1) := by decide +kernel
theorem dL_law_1456 : decode cL_law 1456 = .ok (.iadd, 1) := by decide +kernel
theorem dL_law_1457 : decode cL_law 1457 = .ok (.iaload, 1) := by decide +kernel
theorem dL_law_1458 : decode cL_law 1458 = .ok (.invokevirtual 132, 3) := by decide +kernel
theorem dL_law_1461 : decode cL_law 1461 = .ok (.pop, 1) := by decide +kernel
theorem dL_law_1462 : decode cL_law 1462 = .ok (.aload_n 2, 1) := by decide +kernel
theorem dL_law_1463 : decode cL_law 1463 = .ok (.aload_n 0, 1) := by decide +kernel
theorem dL_law_1464 : decode cL_law 1464 = .ok (.iload 4, 2) := by decide +kernel
theorem dL_law_1466 : decode cL_law 1466 = .ok (.iconst 1, 1) := by decide +kernel
theorem dL_law_1467 : decode cL_law 1467 = .ok (.iadd, 1) := by decide +kernel
theorem dL_law_1468 : decode cL_law 1468 = .ok (.iaload, 1) := by decide +kernel
theorem dL_law_1469 : decode cL_law 1469 = .ok (.aload_n 0, 1) := by decide +kernel
theorem dL_law_1470 : decode cL_law 1470 = .ok (.iload 4, 2) := by decide +kernel
theorem dL_law_1472 : decode cL_law 1472 = .ok (.iconst 2, 1) := by decide +kernel
theorem dL_law_1473 : decode cL_law 1473 = .ok (.iadd, 1) := by decide +kernel
theorem dL_law_1474 : decode cL_law 1474 = .ok (.iaload, 1) := by decide +kernel
theorem dL_law_1475 : decode cL_law 1475 = .ok (.invokevirtual 135, 3) := by decide +kernel
theorem dL_law_1478 : decode cL_law 1478 = .ok (.pop, 1) := by decide +kernel
theorem dL_law_1479 : decode cL_law 1479 = .ok (.goto 479, 3) := by decide +kernel
set_option maxHeartbeats 4000000 in
set_option maxRecDepth 100000 in
theorem case_24 {p : Program} {e : Env} {s : State} {m : MethodId} {below : List Frame} {meth : Method} {c : Code} (l : Launch) (hfl : l.stackTraces = false) {b L : Nat} {xs : Nat → Int32} {D : va_G} {cy : Nat → ClassId} {st aM : Nat → Nat} {o x0 : Nat} {aX : Nat → Nat} {u v : SX} {f : Nat → Int64} {H : Heap} {locs : List Loc} {ls : Array Slot} {i : Int32} {cells slots : Nat} {Q : State → Prop} (F : LF p s m meth c b L xs D cy st aM o) (I : LI s D cy st aM o x0 aX u v f H locs) (hi0 : 0 ≤ i.toInt) (hi9 : i.toInt + 9 ≤ (L : Int)) (hcl : cells + 2 ≤ room_1.cells) (hsl : slots + 122 ≤ room_1.slots) (hl : lv_has ls 7 [(0, .ref b), (1, .ref x0), (2, .ref (aM 0)), (3, .ref o), (4, .int i)]) (kk : ∀ (aX : Nat → Nat) (u v : SX) (f : Nat → Int64) (H : Heap) (locs : List Loc) (ls : Array Slot), LI s D cy st aM o x0 aX u v f H locs → lv_has ls 7 [(0, .ref b), (1, .ref x0), (2, .ref (aM 0)), (3, .ref o), (4, .int i)] → W p l e room_1 s m #[Value.ref b] below meth c H locs (cells + 2) (slots + 122) Q (F0 m 1958 ls [])) : W p l e room_1 s m #[Value.ref b] below meth c H locs cells slots Q (F0 m 1445 ls []) := by
  obtain ⟨C0, hL, hK, hJM, hAM, hoM, hso, hst, hE, hCL⟩ := F
  obtain ⟨hx, hb, hr, hml, hown, hts0, hX, hbl, hlocks, hgv⟩ := C0
  obtain ⟨hx0, hJX, hAX, hdis, hoX, hPX, hPM, hPo, hS, hIX, hIM, hEv, htie, hrow, htape, hcnt, hpar, hspn, hcx, hval, hpl, hgag, hcw, hck, hwg, hdn⟩ := I
  have hts : ∀ w ∈ wsL_law, w.before #[Value.ref b] s = true := fun w h => hts0 w (wsL_law_in w h)
  have hbA : ¬ (fun q : Nat => s.heap.size ≤ q) b := Nat.not_le.mpr hbl
  have hA0 : ∀ q, (fun q : Nat => s.heap.size ≤ q) q → st 100 ≤ q := fun q h => by rw [hst]; exact h
  have hfit : cells ≤ room_1.cells ∧ slots ≤ room_1.slots := ⟨Nat.le_trans (Nat.le_add_right _ _) hcl, Nat.le_trans (Nat.le_add_right _ _) hsl⟩
  subst hx0
  obtain ⟨y1, hy1⟩ : ∃ y, xs (i + 1).toNatClampNeg = y := ⟨_, rfl⟩
  have hin1 : vp_in (i + 1) L := in9 (show (1 : Int32).toInt = 1 by decide) hi0 hi9 hL (by decide) (by decide)
  obtain ⟨y2, hy2⟩ : ∃ y, xs (i + 2).toNatClampNeg = y := ⟨_, rfl⟩
  have hin2 : vp_in (i + 2) L := in9 (show (2 : Int32).toInt = 2 by decide) hi0 hi9 hL (by decide) (by decide)
  refine lv_aload_n hx hb dL_law_1445 rfl (lv_at hl 1 rfl) ?_
  refine lv_aload_n hx hb dL_law_1446 rfl (lv_at hl 0 rfl) ?_
  refine lv_iload hx hb dL_law_1447 (lv_at hl 4 rfl) ?_
  refine lv_iconst (v := 1) hx hb dL_law_1449 (by decide) ?_
  refine lv_iadd hx hb dL_law_1450 ?_
  refine sld9 (v := y1) hx hb hX hbl hbA hS hin1 hy1 dL_law_1451 ?_
  refine lv_aload_n hx hb dL_law_1452 rfl (lv_at hl 0 rfl) ?_
  refine lv_iload hx hb dL_law_1453 (lv_at hl 4 rfl) ?_
  refine lv_iconst (v := 2) hx hb dL_law_1455 (by decide) ?_
  refine lv_iadd hx hb dL_law_1456 ?_
  refine sld9 (v := y2) hx hb hX hbl hbA hS hin2 hy2 dL_law_1457 ?_
  obtain ⟨⟨r, uA⟩, hfX, hqX⟩ := tfX11_leans_0 y1 y2 u hIX
  refine lg_i (V := VX cy aX st) (Ad := AX aX) (As := [.int y1, .int y2]) (rest := []) ⟨hx, hb, hml, hown, fun w h => hts0 w (gw_X11_leans w h)⟩ hA0 hK hPX hS (fun q h => h.elim (hAX q) (fun z => Nat.le_trans hS.1 z)) (metX11_leans_0 l D cy aX st hJX H.size y1 y2 hfX) (cwV 2 (fun w h => hts0 w (gw_X11_leans w h)) gx_X11_leans rfl rfl rfl (by decide +kernel) ⟨Nat.le_of_ble_eq_true rfl, Nat.le_of_ble_eq_true rfl⟩) 0 11 rfl rfl rfl hl.1 rfl (Nat.le_of_ble_eq_true rfl) dL_law_1458 hfit (fun H1 locs1 hP1 hkeep hS1 => ?_)
  have hPM1 := hkeep _ hPM (fun k q hq => hdis _ (VM_mem hq))
  have hPo1 := hkeep _ hPo (fun k q hq => by rw [oat hq]; exact hoX)
  have hIX1 : IX uA := hqX.1.1
  have hFX := hqX.1.2
  have hTX := hqX.1.2.2.2.2.2
  have hfrX := hqX.1.2.1
  have hrwX := hqX.1.2.2.1
  clear hPX hPM hPo hS hkeep
  have hPX := hP1
  have hPM := hPM1
  have hPo := hPo1
  have hS := hS1
  clear hP1 hPM1 hPo1 hS1 hqX
  generalize H1 = H at hPX hPo hPM hS ⊢
  generalize locs1 = locs at hS ⊢
  refine lv_pop hx hb dL_law_1461 rfl ?_
  refine lv_aload_n hx hb dL_law_1462 rfl (lv_at hl 2 rfl) ?_
  refine lv_aload_n hx hb dL_law_1463 rfl (lv_at hl 0 rfl) ?_
  refine lv_iload hx hb dL_law_1464 (lv_at hl 4 rfl) ?_
  refine lv_iconst (v := 1) hx hb dL_law_1466 (by decide) ?_
  refine lv_iadd hx hb dL_law_1467 ?_
  refine sld9 (v := y1) hx hb hX hbl hbA hS hin1 hy1 dL_law_1468 ?_
  refine lv_aload_n hx hb dL_law_1469 rfl (lv_at hl 0 rfl) ?_
  refine lv_iload hx hb dL_law_1470 (lv_at hl 4 rfl) ?_
  refine lv_iconst (v := 2) hx hb dL_law_1472 (by decide) ?_
  refine lv_iadd hx hb dL_law_1473 ?_
  refine sld9 (v := y2) hx hb hX hbl hbA hS hin2 hy2 dL_law_1474 ?_
  obtain ⟨⟨rM, vA⟩, hfM, hqM⟩ := tfX12_leans_0 y1 y2 v hIM
  refine lg_i (V := VM cy aM st) (Ad := AM aM) (As := [.int y1, .int y2]) (rest := []) ⟨hx, hb, hml, hown, fun w h => hts0 w (gw_X12_leans w h)⟩ hA0 hK hPM hS (fun q h => h.elim (hAM q) (fun z => Nat.le_trans hS.1 z)) (metX12_leans_0 l D cy aM st hJM H.size y1 y2 hfM) (cwV 2 (fun w h => hts0 w (gw_X12_leans w h)) gx_X12_leans rfl rfl rfl (by decide +kernel) ⟨Nat.le_of_ble_eq_true rfl, Nat.le_of_ble_eq_true rfl⟩) 0 12 rfl rfl rfl hl.1 rfl (Nat.le_of_ble_eq_true rfl) dL_law_1475 hfit (fun H1 locs1 hP1 hkeep hS1 => ?_)
  have hPX1 := hkeep _ hPX (fun k q hq hz => hdis _ hz ⟨k, (VX_adr hq).1⟩)
  have hPo1 := hkeep _ hPo (fun k q hq => by rw [oat hq]; exact hoM)
  have hEv1 : EvM vA := EvM_fr (hqM.1.2.1 13 (by decide)) (hqM.1.2.1 14 (by decide)) (hqM.1.2.1 21 (by decide)) (hqM.1.2.2.1 33 (by decide)) hEv
  have htie1 : Tie uA vA := Tie_fr hfrX hqM.1.2.1 (by decide) htie
  have hrow1 : TieR uA vA := TieR_fr (hfrX 36 (by decide)) (hrwX 63 (by decide)) (hrwX 64 (by decide)) (hrwX 65 (by decide)) (hqM.1.2.2.1 36 (by decide)) (hqM.1.2.2.1 37 (by decide)) (hqM.1.2.2.1 38 (by decide)) hrow
  have htape1 : TieT uA vA := TieT_fr (hfrX 1 (by decide)) (hrwX 13 (by decide)) (hqM.1.2.1 3 (by decide)) (hqM.1.2.2.1 1 (by decide)) htape
  have hcnt1 : TieC uA vA := TieC_fr (hfrX 5 (by decide)) (hfrX 6 (by decide)) (hfrX 7 (by decide)) (hqM.1.2.2.1 4 (by decide)) hcnt
  have hpar1 : TieP uA vA := TieP_fr (hfrX 8 (by decide)) (hfrX 29 (by decide)) (hfrX 9 (by decide)) (hfrX 0 (by decide)) (hrwX 52 (by decide)) (hqM.1.2.1 12 (by decide)) (hqM.1.2.1 21 (by decide)) (hqM.1.2.1 14 (by decide)) (hqM.1.2.2.1 33 (by decide)) hpar
  have hspn1 : TieS uA vA := TieS_fr hfrX hrwX hqM.1.2.1 hqM.1.2.2.1 (by decide) hspn
  have hcx1 : CX uA := CX_fr2 hfrX hrwX (by decide) hcx
  have hval1 : TieV uA vA := TieV_fr (hfrX 5 (by decide)) (hfrX 6 (by decide)) (hfrX 7 (by decide)) hTX (hqM.1.2.2.1 2 (by decide)) (hqM.1.2.2.1 3 (by decide)) hval
  have hpl1 : PL uA := PL_fr (hfrX 8 (by decide)) (hfrX 5 (by decide)) (hrwX 24 (by decide)) hpl
  have hgag1 : TieG uA vA := TieG_fr hfrX hrwX hqM.1.2.2.1 (by decide) hgag
  have hRK : RK u := ⟨⟨hIX, hcx, hpl, LVX_of hIX hIM hval hgag, hcw⟩, hck⟩
  have hMR : MR u v := ⟨hIM, hpar, hspn, hval, hgag⟩
  have er := (leans_eqV hIX hIM htie hpar hspn hval hpl hgag hcw hfX hfM).1
  have hRK1 : RK uA := leans_K hRK hfX
  have hcw1 : CW uA := hRK1.1.2.2.2.2
  have hck1 : CK uA := hRK1.2
  clear hRK hMR hRK1
  have hwg1 : WG uA := WG_fr (hfrX 13 (by decide)) (hrwX 36 (by decide)) hwg
  have hdn1 : TieD uA vA := TieD_fr (hfrX 29 (by decide)) (hrwX 52 (by decide)) (hqM.1.2.1 13 (by decide)) (hqM.1.2.2.1 11 (by decide)) (hqM.1.2.2.1 15 (by decide)) hdn
  have hIM1 : IM vA := hqM.1.1
  clear hPX hPM hPo hS hIM hEv htie hrow htape hcnt hpar hspn hcx hval hpl hgag hcw hck hwg hdn hkeep hfrX hrwX hIX
  have hPX := hPX1
  have hPM := hP1
  have hPo := hPo1
  have hS := hS1
  have hIM := hIM1
  have hEv := hEv1
  have htie := htie1
  have hrow := hrow1
  have htape := htape1
  have hcnt := hcnt1
  have hpar := hpar1
  have hspn := hspn1
  have hcx := hcx1
  have hval := hval1
  have hpl := hpl1
  have hgag := hgag1
  have hcw := hcw1
  have hck := hck1
  have hwg := hwg1
  have hdn := hdn1
  have hIX := hIX1
  clear hIX1
  clear hP1 hPX1 hPo1 hS1 hIM1 hEv1 htie1 hrow1 htape1 hcnt1 hpar1 hspn1 hcx1 hval1 hpl1 hgag1 hcw1 hck1 hwg1 hdn1 hqM
  generalize H1 = H at hPX hPo hPM hS ⊢
  generalize locs1 = locs at hS ⊢
  refine lv_pop hx hb dL_law_1478 rfl ?_
  refine lv_goto (tgt := 1958) hx hb dL_law_1479 (by decide) ?_
  refine W.widen (k := cells + 2) (n := slots + 122) (Nat.le_add_right _ _) (Nat.le_add_right _ _) ?_
  exact kk aX uA vA f H locs ls ⟨rfl, hJX, hAX, hdis, hoX, hPX, hPM, hPo, hS, hIX, hIM, hEv, htie, hrow, htape, hcnt, hpar, hspn, hcx, hval, hpl, hgag, hcw, hck, hwg, hdn⟩ hl
theorem dL_law_1482 : decode cL_law 1482 = .ok (.aload_n 1, 1) := by decide +kernel
theorem dL_law_1483 : decode cL_law 1483 = .ok (.aload_n 0, 1) := by decide +kernel
theorem dL_law_1484 : decode cL_law 1484 = .ok (.iload 4, 2) := by decide +kernel
theorem dL_law_1486 : decode cL_law 1486 = .ok (.iconst 1, 1) := by decide +kernel
theorem dL_law_1487 : decode cL_law 1487 = .ok (.iadd, 1) := by decide +kernel
theorem dL_law_1488 : decode cL_law 1488 = .ok (.iaload, 1) := by decide +kernel
theorem dL_law_1489 : decode cL_law 1489 = .ok (.aload_n 0, 1) := by decide +kernel
theorem dL_law_1490 : decode cL_law 1490 = .ok (.iload 4, 2) := by decide +kernel
theorem dL_law_1492 : decode cL_law 1492 = .ok (.iconst 2, 1) := by decide +kernel
theorem dL_law_1493 : decode cL_law 1493 = .ok (.iadd, 1) := by decide +kernel
theorem dL_law_1494 : decode cL_law 1494 = .ok (.iaload, 1) := by decide +kernel
theorem dL_law_1495 : decode cL_law 1495 = .ok (.aload_n 0, 1) := by decide +kernel
theorem dL_law_1496 : decode cL_law 1496 = .ok (.iload 4, 2) := by decide +kernel
theorem dL_law_1498 : decode cL_law 1498 = .ok (.iconst 3, 1) := by decide +kernel
theorem dL_law_1499 : decode cL_law 1499 = .ok (.iadd, 1) := by decide +kernel
theorem dL_law_1500 : decode cL_law 1500 = .ok (.iaload, 1) := by decide +kernel
theorem dL_law_1501 : decode cL_law 1501 = .ok (.invokevirtual 136, 3) := by decide +kernel
theorem dL_law_1504 : decode cL_law 1504 = .ok (.pop, 1) := by decide +kernel
theorem dL_law_1505 : decode cL_law 1505 = .ok (.aload_n 2, 1) := by decide +kernel
theorem dL_law_1506 : decode cL_law 1506 = .ok (.aload_n 0, 1) := by decide +kernel
theorem dL_law_1507 : decode cL_law 1507 = .ok (.iload 4, 2) := by decide +kernel
theorem dL_law_1509 : decode cL_law 1509 = .ok (.iconst 1, 1) := by decide +kernel
theorem dL_law_1510 : decode cL_law 1510 = .ok (.iadd, 1) := by decide +kernel
theorem dL_law_1511 : decode cL_law 1511 = .ok (.iaload, 1) := by decide +kernel
theorem dL_law_1512 : decode cL_law 1512 = .ok (.aload_n 0, 1) := by decide +kernel
theorem dL_law_1513 : decode cL_law 1513 = .ok (.iload 4, 2) := by decide +kernel
theorem dL_law_1515 : decode cL_law 1515 = .ok (.iconst 2, 1) := by decide +kernel
theorem dL_law_1516 : decode cL_law 1516 = .ok (.iadd, 1) := by decide +kernel
theorem dL_law_1517 : decode cL_law 1517 = .ok (.iaload, 1) := by decide +kernel
theorem dL_law_1518 : decode cL_law 1518 = .ok (.aload_n 0, 1) := by decide +kernel
theorem dL_law_1519 : decode cL_law 1519 = .ok (.iload 4, 2) := by decide +kernel
theorem dL_law_1521 : decode cL_law 1521 = .ok (.iconst 3, 1) := by decide +kernel
theorem dL_law_1522 : decode cL_law 1522 = .ok (.iadd, 1) := by decide +kernel
theorem dL_law_1523 : decode cL_law 1523 = .ok (.iaload, 1) := by decide +kernel
theorem dL_law_1524 : decode cL_law 1524 = .ok (.invokevirtual 139, 3) := by decide +kernel
theorem dL_law_1527 : decode cL_law 1527 = .ok (.pop, 1) := by decide +kernel
theorem dL_law_1528 : decode cL_law 1528 = .ok (.goto 430, 3) := by decide +kernel
set_option maxHeartbeats 4000000 in
set_option maxRecDepth 100000 in
theorem case_25 {p : Program} {e : Env} {s : State} {m : MethodId} {below : List Frame} {meth : Method} {c : Code} (l : Launch) (hfl : l.stackTraces = false) {b L : Nat} {xs : Nat → Int32} {D : va_G} {cy : Nat → ClassId} {st aM : Nat → Nat} {o x0 : Nat} {aX : Nat → Nat} {u v : SX} {f : Nat → Int64} {H : Heap} {locs : List Loc} {ls : Array Slot} {i : Int32} {cells slots : Nat} {Q : State → Prop} (F : LF p s m meth c b L xs D cy st aM o) (I : LI s D cy st aM o x0 aX u v f H locs) (hi0 : 0 ≤ i.toInt) (hi9 : i.toInt + 9 ≤ (L : Int)) (hcl : cells + 2 ≤ room_1.cells) (hsl : slots + 122 ≤ room_1.slots) (hl : lv_has ls 7 [(0, .ref b), (1, .ref x0), (2, .ref (aM 0)), (3, .ref o), (4, .int i)]) (kk : ∀ (aX : Nat → Nat) (u v : SX) (f : Nat → Int64) (H : Heap) (locs : List Loc) (ls : Array Slot), LI s D cy st aM o x0 aX u v f H locs → lv_has ls 7 [(0, .ref b), (1, .ref x0), (2, .ref (aM 0)), (3, .ref o), (4, .int i)] → W p l e room_1 s m #[Value.ref b] below meth c H locs (cells + 2) (slots + 122) Q (F0 m 1958 ls [])) : W p l e room_1 s m #[Value.ref b] below meth c H locs cells slots Q (F0 m 1482 ls []) := by
  obtain ⟨C0, hL, hK, hJM, hAM, hoM, hso, hst, hE, hCL⟩ := F
  obtain ⟨hx, hb, hr, hml, hown, hts0, hX, hbl, hlocks, hgv⟩ := C0
  obtain ⟨hx0, hJX, hAX, hdis, hoX, hPX, hPM, hPo, hS, hIX, hIM, hEv, htie, hrow, htape, hcnt, hpar, hspn, hcx, hval, hpl, hgag, hcw, hck, hwg, hdn⟩ := I
  have hts : ∀ w ∈ wsL_law, w.before #[Value.ref b] s = true := fun w h => hts0 w (wsL_law_in w h)
  have hbA : ¬ (fun q : Nat => s.heap.size ≤ q) b := Nat.not_le.mpr hbl
  have hA0 : ∀ q, (fun q : Nat => s.heap.size ≤ q) q → st 100 ≤ q := fun q h => by rw [hst]; exact h
  have hfit : cells ≤ room_1.cells ∧ slots ≤ room_1.slots := ⟨Nat.le_trans (Nat.le_add_right _ _) hcl, Nat.le_trans (Nat.le_add_right _ _) hsl⟩
  subst hx0
  obtain ⟨y1, hy1⟩ : ∃ y, xs (i + 1).toNatClampNeg = y := ⟨_, rfl⟩
  have hin1 : vp_in (i + 1) L := in9 (show (1 : Int32).toInt = 1 by decide) hi0 hi9 hL (by decide) (by decide)
  obtain ⟨y2, hy2⟩ : ∃ y, xs (i + 2).toNatClampNeg = y := ⟨_, rfl⟩
  have hin2 : vp_in (i + 2) L := in9 (show (2 : Int32).toInt = 2 by decide) hi0 hi9 hL (by decide) (by decide)
  obtain ⟨y3, hy3⟩ : ∃ y, xs (i + 3).toNatClampNeg = y := ⟨_, rfl⟩
  have hin3 : vp_in (i + 3) L := in9 (show (3 : Int32).toInt = 3 by decide) hi0 hi9 hL (by decide) (by decide)
  refine lv_aload_n hx hb dL_law_1482 rfl (lv_at hl 1 rfl) ?_
  refine lv_aload_n hx hb dL_law_1483 rfl (lv_at hl 0 rfl) ?_
  refine lv_iload hx hb dL_law_1484 (lv_at hl 4 rfl) ?_
  refine lv_iconst (v := 1) hx hb dL_law_1486 (by decide) ?_
  refine lv_iadd hx hb dL_law_1487 ?_
  refine sld9 (v := y1) hx hb hX hbl hbA hS hin1 hy1 dL_law_1488 ?_
  refine lv_aload_n hx hb dL_law_1489 rfl (lv_at hl 0 rfl) ?_
  refine lv_iload hx hb dL_law_1490 (lv_at hl 4 rfl) ?_
  refine lv_iconst (v := 2) hx hb dL_law_1492 (by decide) ?_
  refine lv_iadd hx hb dL_law_1493 ?_
  refine sld9 (v := y2) hx hb hX hbl hbA hS hin2 hy2 dL_law_1494 ?_
  refine lv_aload_n hx hb dL_law_1495 rfl (lv_at hl 0 rfl) ?_
  refine lv_iload hx hb dL_law_1496 (lv_at hl 4 rfl) ?_
  refine lv_iconst (v := 3) hx hb dL_law_1498 (by decide) ?_
  refine lv_iadd hx hb dL_law_1499 ?_
  refine sld9 (v := y3) hx hb hX hbl hbA hS hin3 hy3 dL_law_1500 ?_
  obtain ⟨⟨r, uA⟩, hfX, hqX⟩ := tfX11_fits_0 y1 y2 y3 u hIX
  refine lg_i (V := VX cy aX st) (Ad := AX aX) (As := [.int y1, .int y2, .int y3]) (rest := []) ⟨hx, hb, hml, hown, fun w h => hts0 w (gw_X11_fits w h)⟩ hA0 hK hPX hS (fun q h => h.elim (hAX q) (fun z => Nat.le_trans hS.1 z)) (metX11_fits_0 l D cy aX st hJX H.size y1 y2 y3 hfX) (cwV 3 (fun w h => hts0 w (gw_X11_fits w h)) gx_X11_fits rfl rfl rfl (by decide +kernel) ⟨Nat.le_of_ble_eq_true rfl, Nat.le_of_ble_eq_true rfl⟩) 0 11 rfl rfl rfl hl.1 rfl (Nat.le_of_ble_eq_true rfl) dL_law_1501 hfit (fun H1 locs1 hP1 hkeep hS1 => ?_)
  have hPM1 := hkeep _ hPM (fun k q hq => hdis _ (VM_mem hq))
  have hPo1 := hkeep _ hPo (fun k q hq => by rw [oat hq]; exact hoX)
  have hIX1 : IX uA := hqX.1.1
  have hFX := hqX.1.2
  have hTX := hqX.1.2.2.2.2.2
  have hfrX := hqX.1.2.1
  have hrwX := hqX.1.2.2.1
  clear hPX hPM hPo hS hkeep
  have hPX := hP1
  have hPM := hPM1
  have hPo := hPo1
  have hS := hS1
  clear hP1 hPM1 hPo1 hS1 hqX
  generalize H1 = H at hPX hPo hPM hS ⊢
  generalize locs1 = locs at hS ⊢
  refine lv_pop hx hb dL_law_1504 rfl ?_
  refine lv_aload_n hx hb dL_law_1505 rfl (lv_at hl 2 rfl) ?_
  refine lv_aload_n hx hb dL_law_1506 rfl (lv_at hl 0 rfl) ?_
  refine lv_iload hx hb dL_law_1507 (lv_at hl 4 rfl) ?_
  refine lv_iconst (v := 1) hx hb dL_law_1509 (by decide) ?_
  refine lv_iadd hx hb dL_law_1510 ?_
  refine sld9 (v := y1) hx hb hX hbl hbA hS hin1 hy1 dL_law_1511 ?_
  refine lv_aload_n hx hb dL_law_1512 rfl (lv_at hl 0 rfl) ?_
  refine lv_iload hx hb dL_law_1513 (lv_at hl 4 rfl) ?_
  refine lv_iconst (v := 2) hx hb dL_law_1515 (by decide) ?_
  refine lv_iadd hx hb dL_law_1516 ?_
  refine sld9 (v := y2) hx hb hX hbl hbA hS hin2 hy2 dL_law_1517 ?_
  refine lv_aload_n hx hb dL_law_1518 rfl (lv_at hl 0 rfl) ?_
  refine lv_iload hx hb dL_law_1519 (lv_at hl 4 rfl) ?_
  refine lv_iconst (v := 3) hx hb dL_law_1521 (by decide) ?_
  refine lv_iadd hx hb dL_law_1522 ?_
  refine sld9 (v := y3) hx hb hX hbl hbA hS hin3 hy3 dL_law_1523 ?_
  obtain ⟨⟨rM, vA⟩, hfM, hqM⟩ := tfX12_fits_0 y1 y2 y3 v hIM
  refine lg_i (V := VM cy aM st) (Ad := AM aM) (As := [.int y1, .int y2, .int y3]) (rest := []) ⟨hx, hb, hml, hown, fun w h => hts0 w (gw_X12_fits w h)⟩ hA0 hK hPM hS (fun q h => h.elim (hAM q) (fun z => Nat.le_trans hS.1 z)) (metX12_fits_0 l D cy aM st hJM H.size y1 y2 y3 hfM) (cwV 3 (fun w h => hts0 w (gw_X12_fits w h)) gx_X12_fits rfl rfl rfl (by decide +kernel) ⟨Nat.le_of_ble_eq_true rfl, Nat.le_of_ble_eq_true rfl⟩) 0 12 rfl rfl rfl hl.1 rfl (Nat.le_of_ble_eq_true rfl) dL_law_1524 hfit (fun H1 locs1 hP1 hkeep hS1 => ?_)
  have hPX1 := hkeep _ hPX (fun k q hq hz => hdis _ hz ⟨k, (VX_adr hq).1⟩)
  have hPo1 := hkeep _ hPo (fun k q hq => by rw [oat hq]; exact hoM)
  have hEv1 : EvM vA := EvM_fr (hqM.1.2.1 13 (by decide)) (hqM.1.2.1 14 (by decide)) (hqM.1.2.1 21 (by decide)) (hqM.1.2.2.1 33 (by decide)) hEv
  have htie1 : Tie uA vA := Tie_fr hfrX hqM.1.2.1 (by decide) htie
  have hrow1 : TieR uA vA := TieR_fr (hfrX 36 (by decide)) (hrwX 63 (by decide)) (hrwX 64 (by decide)) (hrwX 65 (by decide)) (hqM.1.2.2.1 36 (by decide)) (hqM.1.2.2.1 37 (by decide)) (hqM.1.2.2.1 38 (by decide)) hrow
  have htape1 : TieT uA vA := TieT_fr (hfrX 1 (by decide)) (hrwX 13 (by decide)) (hqM.1.2.1 3 (by decide)) (hqM.1.2.2.1 1 (by decide)) htape
  have hcnt1 : TieC uA vA := TieC_fr (hfrX 5 (by decide)) (hfrX 6 (by decide)) (hfrX 7 (by decide)) (hqM.1.2.2.1 4 (by decide)) hcnt
  have hpar1 : TieP uA vA := TieP_fr (hfrX 8 (by decide)) (hfrX 29 (by decide)) (hfrX 9 (by decide)) (hfrX 0 (by decide)) (hrwX 52 (by decide)) (hqM.1.2.1 12 (by decide)) (hqM.1.2.1 21 (by decide)) (hqM.1.2.1 14 (by decide)) (hqM.1.2.2.1 33 (by decide)) hpar
  have hspn1 : TieS uA vA := TieS_fr hfrX hrwX hqM.1.2.1 hqM.1.2.2.1 (by decide) hspn
  have hcx1 : CX uA := (Tot_at (cfX11_fits_0 _ _ _ u ⟨hIX, hcx⟩) hfX).1.1.2
  have hval1 : TieV uA vA := TieV_fr (hfrX 5 (by decide)) (hfrX 6 (by decide)) (hfrX 7 (by decide)) hTX (hqM.1.2.2.1 2 (by decide)) (hqM.1.2.2.1 3 (by decide)) hval
  have hpl1 : PL uA := PL_fr (hfrX 8 (by decide)) (hfrX 5 (by decide)) (hrwX 24 (by decide)) hpl
  have hgag1 : TieG uA vA := TieG_fr hfrX hrwX hqM.1.2.2.1 (by decide) hgag
  have hRK : RK u := ⟨⟨hIX, hcx, hpl, LVX_of hIX hIM hval hgag, hcw⟩, hck⟩
  have hMR : MR u v := ⟨hIM, hpar, hspn, hval, hgag⟩
  have hRK1 : RK uA := fits_K hRK hfX
  have hcw1 : CW uA := hRK1.1.2.2.2.2
  have hck1 : CK uA := hRK1.2
  clear hRK hMR hRK1
  have hwg1 : WG uA := WG_fr (hfrX 13 (by decide)) (hrwX 36 (by decide)) hwg
  have hdn1 : TieD uA vA := TieD_fr (hfrX 29 (by decide)) (hrwX 52 (by decide)) (hqM.1.2.1 13 (by decide)) (hqM.1.2.2.1 11 (by decide)) (hqM.1.2.2.1 15 (by decide)) hdn
  have hIM1 : IM vA := hqM.1.1
  clear hPX hPM hPo hS hIM hEv htie hrow htape hcnt hpar hspn hcx hval hpl hgag hcw hck hwg hdn hkeep hfrX hrwX hIX
  have hPX := hPX1
  have hPM := hP1
  have hPo := hPo1
  have hS := hS1
  have hIM := hIM1
  have hEv := hEv1
  have htie := htie1
  have hrow := hrow1
  have htape := htape1
  have hcnt := hcnt1
  have hpar := hpar1
  have hspn := hspn1
  have hcx := hcx1
  have hval := hval1
  have hpl := hpl1
  have hgag := hgag1
  have hcw := hcw1
  have hck := hck1
  have hwg := hwg1
  have hdn := hdn1
  have hIX := hIX1
  clear hIX1
  clear hP1 hPX1 hPo1 hS1 hIM1 hEv1 htie1 hrow1 htape1 hcnt1 hpar1 hspn1 hcx1 hval1 hpl1 hgag1 hcw1 hck1 hwg1 hdn1 hqM
  generalize H1 = H at hPX hPo hPM hS ⊢
  generalize locs1 = locs at hS ⊢
  refine lv_pop hx hb dL_law_1527 rfl ?_
  refine lv_goto (tgt := 1958) hx hb dL_law_1528 (by decide) ?_
  refine W.widen (k := cells + 2) (n := slots + 122) (Nat.le_add_right _ _) (Nat.le_add_right _ _) ?_
  exact kk aX uA vA f H locs ls ⟨rfl, hJX, hAX, hdis, hoX, hPX, hPM, hPo, hS, hIX, hIM, hEv, htie, hrow, htape, hcnt, hpar, hspn, hcx, hval, hpl, hgag, hcw, hck, hwg, hdn⟩ hl
theorem dL_law_1531 : decode cL_law 1531 = .ok (.aload_n 1, 1) := by decide +kernel
theorem dL_law_1532 : decode cL_law 1532 = .ok (.aload_n 0, 1) := by decide +kernel
theorem dL_law_1533 : decode cL_law 1533 = .ok (.iload 4, 2) := by decide +kernel
theorem dL_law_1535 : decode cL_law 1535 = .ok (.iconst 1, 1) := by decide +kernel
theorem dL_law_1536 : decode cL_law 1536 = .ok (.iadd, 1) := by decide +kernel
theorem dL_law_1537 : decode cL_law 1537 = .ok (.iaload, 1) := by decide +kernel
theorem dL_law_1538 : decode cL_law 1538 = .ok (.aload_n 0, 1) := by decide +kernel
theorem dL_law_1539 : decode cL_law 1539 = .ok (.iload 4, 2) := by decide +kernel
theorem dL_law_1541 : decode cL_law 1541 = .ok (.iconst 2, 1) := by decide +kernel
theorem dL_law_1542 : decode cL_law 1542 = .ok (.iadd, 1) := by decide +kernel
theorem dL_law_1543 : decode cL_law 1543 = .ok (.iaload, 1) := by decide +kernel
theorem dL_law_1544 : decode cL_law 1544 = .ok (.aload_n 0, 1) := by decide +kernel
theorem dL_law_1545 : decode cL_law 1545 = .ok (.iload 4, 2) := by decide +kernel
theorem dL_law_1547 : decode cL_law 1547 = .ok (.iconst 3, 1) := by decide +kernel
theorem dL_law_1548 : decode cL_law 1548 = .ok (.iadd, 1) := by decide +kernel
theorem dL_law_1549 : decode cL_law 1549 = .ok (.iaload, 1) := by decide +kernel
theorem dL_law_1550 : decode cL_law 1550 = .ok (.aload_n 0, 1) := by decide +kernel
theorem dL_law_1551 : decode cL_law 1551 = .ok (.iload 4, 2) := by decide +kernel
theorem dL_law_1553 : decode cL_law 1553 = .ok (.iconst 4, 1) := by decide +kernel
theorem dL_law_1554 : decode cL_law 1554 = .ok (.iadd, 1) := by decide +kernel
theorem dL_law_1555 : decode cL_law 1555 = .ok (.iaload, 1) := by decide +kernel
theorem dL_law_1556 : decode cL_law 1556 = .ok (.invokevirtual 140, 3) := by decide +kernel
theorem dL_law_1559 : decode cL_law 1559 = .ok (.pop, 1) := by decide +kernel
theorem dL_law_1560 : decode cL_law 1560 = .ok (.aload_n 2, 1) := by decide +kernel
theorem dL_law_1561 : decode cL_law 1561 = .ok (.aload_n 0, 1) := by decide +kernel
theorem dL_law_1562 : decode cL_law 1562 = .ok (.iload 4, 2) := by decide +kernel
theorem dL_law_1564 : decode cL_law 1564 = .ok (.iconst 1, 1) := by decide +kernel
theorem dL_law_1565 : decode cL_law 1565 = .ok (.iadd, 1) := by decide +kernel
theorem dL_law_1566 : decode cL_law 1566 = .ok (.iaload, 1) := by decide +kernel
theorem dL_law_1567 : decode cL_law 1567 = .ok (.aload_n 0, 1) := by decide +kernel
theorem dL_law_1568 : decode cL_law 1568 = .ok (.iload 4, 2) := by decide +kernel
theorem dL_law_1570 : decode cL_law 1570 = .ok (.iconst 2, 1) := by decide +kernel
theorem dL_law_1571 : decode cL_law 1571 = .ok (.iadd, 1) := by decide +kernel
theorem dL_law_1572 : decode cL_law 1572 = .ok (.iaload, 1) := by decide +kernel
theorem dL_law_1573 : decode cL_law 1573 = .ok (.aload_n 0, 1) := by decide +kernel
theorem dL_law_1574 : decode cL_law 1574 = .ok (.iload 4, 2) := by decide +kernel
theorem dL_law_1576 : decode cL_law 1576 = .ok (.iconst 3, 1) := by decide +kernel
theorem dL_law_1577 : decode cL_law 1577 = .ok (.iadd, 1) := by decide +kernel
theorem dL_law_1578 : decode cL_law 1578 = .ok (.iaload, 1) := by decide +kernel
theorem dL_law_1579 : decode cL_law 1579 = .ok (.aload_n 0, 1) := by decide +kernel
theorem dL_law_1580 : decode cL_law 1580 = .ok (.iload 4, 2) := by decide +kernel
theorem dL_law_1582 : decode cL_law 1582 = .ok (.iconst 4, 1) := by decide +kernel
theorem dL_law_1583 : decode cL_law 1583 = .ok (.iadd, 1) := by decide +kernel
theorem dL_law_1584 : decode cL_law 1584 = .ok (.iaload, 1) := by decide +kernel
theorem dL_law_1585 : decode cL_law 1585 = .ok (.invokevirtual 143, 3) := by decide +kernel
theorem dL_law_1588 : decode cL_law 1588 = .ok (.pop, 1) := by decide +kernel
theorem dL_law_1589 : decode cL_law 1589 = .ok (.goto 369, 3) := by decide +kernel
set_option maxHeartbeats 4000000 in
set_option maxRecDepth 100000 in
theorem case_26 {p : Program} {e : Env} {s : State} {m : MethodId} {below : List Frame} {meth : Method} {c : Code} (l : Launch) (hfl : l.stackTraces = false) {b L : Nat} {xs : Nat → Int32} {D : va_G} {cy : Nat → ClassId} {st aM : Nat → Nat} {o x0 : Nat} {aX : Nat → Nat} {u v : SX} {f : Nat → Int64} {H : Heap} {locs : List Loc} {ls : Array Slot} {i : Int32} {cells slots : Nat} {Q : State → Prop} (F : LF p s m meth c b L xs D cy st aM o) (I : LI s D cy st aM o x0 aX u v f H locs) (hi0 : 0 ≤ i.toInt) (hi9 : i.toInt + 9 ≤ (L : Int)) (hcl : cells + 2 ≤ room_1.cells) (hsl : slots + 122 ≤ room_1.slots) (hl : lv_has ls 7 [(0, .ref b), (1, .ref x0), (2, .ref (aM 0)), (3, .ref o), (4, .int i)]) (kk : ∀ (aX : Nat → Nat) (u v : SX) (f : Nat → Int64) (H : Heap) (locs : List Loc) (ls : Array Slot), LI s D cy st aM o x0 aX u v f H locs → lv_has ls 7 [(0, .ref b), (1, .ref x0), (2, .ref (aM 0)), (3, .ref o), (4, .int i)] → W p l e room_1 s m #[Value.ref b] below meth c H locs (cells + 2) (slots + 122) Q (F0 m 1958 ls [])) : W p l e room_1 s m #[Value.ref b] below meth c H locs cells slots Q (F0 m 1531 ls []) := by
  obtain ⟨C0, hL, hK, hJM, hAM, hoM, hso, hst, hE, hCL⟩ := F
  obtain ⟨hx, hb, hr, hml, hown, hts0, hX, hbl, hlocks, hgv⟩ := C0
  obtain ⟨hx0, hJX, hAX, hdis, hoX, hPX, hPM, hPo, hS, hIX, hIM, hEv, htie, hrow, htape, hcnt, hpar, hspn, hcx, hval, hpl, hgag, hcw, hck, hwg, hdn⟩ := I
  have hts : ∀ w ∈ wsL_law, w.before #[Value.ref b] s = true := fun w h => hts0 w (wsL_law_in w h)
  have hbA : ¬ (fun q : Nat => s.heap.size ≤ q) b := Nat.not_le.mpr hbl
  have hA0 : ∀ q, (fun q : Nat => s.heap.size ≤ q) q → st 100 ≤ q := fun q h => by rw [hst]; exact h
  have hfit : cells ≤ room_1.cells ∧ slots ≤ room_1.slots := ⟨Nat.le_trans (Nat.le_add_right _ _) hcl, Nat.le_trans (Nat.le_add_right _ _) hsl⟩
  subst hx0
  obtain ⟨y1, hy1⟩ : ∃ y, xs (i + 1).toNatClampNeg = y := ⟨_, rfl⟩
  have hin1 : vp_in (i + 1) L := in9 (show (1 : Int32).toInt = 1 by decide) hi0 hi9 hL (by decide) (by decide)
  obtain ⟨y2, hy2⟩ : ∃ y, xs (i + 2).toNatClampNeg = y := ⟨_, rfl⟩
  have hin2 : vp_in (i + 2) L := in9 (show (2 : Int32).toInt = 2 by decide) hi0 hi9 hL (by decide) (by decide)
  obtain ⟨y3, hy3⟩ : ∃ y, xs (i + 3).toNatClampNeg = y := ⟨_, rfl⟩
  have hin3 : vp_in (i + 3) L := in9 (show (3 : Int32).toInt = 3 by decide) hi0 hi9 hL (by decide) (by decide)
  obtain ⟨y4, hy4⟩ : ∃ y, xs (i + 4).toNatClampNeg = y := ⟨_, rfl⟩
  have hin4 : vp_in (i + 4) L := in9 (show (4 : Int32).toInt = 4 by decide) hi0 hi9 hL (by decide) (by decide)
  refine lv_aload_n hx hb dL_law_1531 rfl (lv_at hl 1 rfl) ?_
  refine lv_aload_n hx hb dL_law_1532 rfl (lv_at hl 0 rfl) ?_
  refine lv_iload hx hb dL_law_1533 (lv_at hl 4 rfl) ?_
  refine lv_iconst (v := 1) hx hb dL_law_1535 (by decide) ?_
  refine lv_iadd hx hb dL_law_1536 ?_
  refine sld9 (v := y1) hx hb hX hbl hbA hS hin1 hy1 dL_law_1537 ?_
  refine lv_aload_n hx hb dL_law_1538 rfl (lv_at hl 0 rfl) ?_
  refine lv_iload hx hb dL_law_1539 (lv_at hl 4 rfl) ?_
  refine lv_iconst (v := 2) hx hb dL_law_1541 (by decide) ?_
  refine lv_iadd hx hb dL_law_1542 ?_
  refine sld9 (v := y2) hx hb hX hbl hbA hS hin2 hy2 dL_law_1543 ?_
  refine lv_aload_n hx hb dL_law_1544 rfl (lv_at hl 0 rfl) ?_
  refine lv_iload hx hb dL_law_1545 (lv_at hl 4 rfl) ?_
  refine lv_iconst (v := 3) hx hb dL_law_1547 (by decide) ?_
  refine lv_iadd hx hb dL_law_1548 ?_
  refine sld9 (v := y3) hx hb hX hbl hbA hS hin3 hy3 dL_law_1549 ?_
  refine lv_aload_n hx hb dL_law_1550 rfl (lv_at hl 0 rfl) ?_
  refine lv_iload hx hb dL_law_1551 (lv_at hl 4 rfl) ?_
  refine lv_iconst (v := 4) hx hb dL_law_1553 (by decide) ?_
  refine lv_iadd hx hb dL_law_1554 ?_
  refine sld9 (v := y4) hx hb hX hbl hbA hS hin4 hy4 dL_law_1555 ?_
  obtain ⟨⟨r, uA⟩, hfX, hqX⟩ := tfX11_next_0 y1 y2 y3 y4 u hIX
  refine lg_i (V := VX cy aX st) (Ad := AX aX) (As := [.int y1, .int y2, .int y3, .int y4]) (rest := []) ⟨hx, hb, hml, hown, fun w h => hts0 w (gw_X11_next w h)⟩ hA0 hK hPX hS (fun q h => h.elim (hAX q) (fun z => Nat.le_trans hS.1 z)) (metX11_next_0 l D cy aX st hJX H.size y1 y2 y3 y4 hfX) (cwV 4 (fun w h => hts0 w (gw_X11_next w h)) gx_X11_next rfl rfl rfl (by decide +kernel) ⟨Nat.le_of_ble_eq_true rfl, Nat.le_of_ble_eq_true rfl⟩) 0 11 rfl rfl rfl hl.1 rfl (Nat.le_of_ble_eq_true rfl) dL_law_1556 hfit (fun H1 locs1 hP1 hkeep hS1 => ?_)
  have hPM1 := hkeep _ hPM (fun k q hq => hdis _ (VM_mem hq))
  have hPo1 := hkeep _ hPo (fun k q hq => by rw [oat hq]; exact hoX)
  have hIX1 : IX uA := hqX.1.1
  have hFX := hqX.1.2
  have hTX := hqX.1.2.2.2.2.2
  have hfrX := hqX.1.2.1
  have hrwX := hqX.1.2.2.1
  clear hPX hPM hPo hS hkeep
  have hPX := hP1
  have hPM := hPM1
  have hPo := hPo1
  have hS := hS1
  clear hP1 hPM1 hPo1 hS1 hqX
  generalize H1 = H at hPX hPo hPM hS ⊢
  generalize locs1 = locs at hS ⊢
  refine lv_pop hx hb dL_law_1559 rfl ?_
  refine lv_aload_n hx hb dL_law_1560 rfl (lv_at hl 2 rfl) ?_
  refine lv_aload_n hx hb dL_law_1561 rfl (lv_at hl 0 rfl) ?_
  refine lv_iload hx hb dL_law_1562 (lv_at hl 4 rfl) ?_
  refine lv_iconst (v := 1) hx hb dL_law_1564 (by decide) ?_
  refine lv_iadd hx hb dL_law_1565 ?_
  refine sld9 (v := y1) hx hb hX hbl hbA hS hin1 hy1 dL_law_1566 ?_
  refine lv_aload_n hx hb dL_law_1567 rfl (lv_at hl 0 rfl) ?_
  refine lv_iload hx hb dL_law_1568 (lv_at hl 4 rfl) ?_
  refine lv_iconst (v := 2) hx hb dL_law_1570 (by decide) ?_
  refine lv_iadd hx hb dL_law_1571 ?_
  refine sld9 (v := y2) hx hb hX hbl hbA hS hin2 hy2 dL_law_1572 ?_
  refine lv_aload_n hx hb dL_law_1573 rfl (lv_at hl 0 rfl) ?_
  refine lv_iload hx hb dL_law_1574 (lv_at hl 4 rfl) ?_
  refine lv_iconst (v := 3) hx hb dL_law_1576 (by decide) ?_
  refine lv_iadd hx hb dL_law_1577 ?_
  refine sld9 (v := y3) hx hb hX hbl hbA hS hin3 hy3 dL_law_1578 ?_
  refine lv_aload_n hx hb dL_law_1579 rfl (lv_at hl 0 rfl) ?_
  refine lv_iload hx hb dL_law_1580 (lv_at hl 4 rfl) ?_
  refine lv_iconst (v := 4) hx hb dL_law_1582 (by decide) ?_
  refine lv_iadd hx hb dL_law_1583 ?_
  refine sld9 (v := y4) hx hb hX hbl hbA hS hin4 hy4 dL_law_1584 ?_
  obtain ⟨⟨rM, vA⟩, hfM, hqM⟩ := tfX12_next_0 y1 y2 y3 y4 v hIM
  refine lg_i (V := VM cy aM st) (Ad := AM aM) (As := [.int y1, .int y2, .int y3, .int y4]) (rest := []) ⟨hx, hb, hml, hown, fun w h => hts0 w (gw_X12_next w h)⟩ hA0 hK hPM hS (fun q h => h.elim (hAM q) (fun z => Nat.le_trans hS.1 z)) (metX12_next_0 l D cy aM st hJM H.size y1 y2 y3 y4 hfM) (cwV 4 (fun w h => hts0 w (gw_X12_next w h)) gx_X12_next rfl rfl rfl (by decide +kernel) ⟨Nat.le_of_ble_eq_true rfl, Nat.le_of_ble_eq_true rfl⟩) 0 12 rfl rfl rfl hl.1 rfl (Nat.le_of_ble_eq_true rfl) dL_law_1585 hfit (fun H1 locs1 hP1 hkeep hS1 => ?_)
  have hPX1 := hkeep _ hPX (fun k q hq hz => hdis _ hz ⟨k, (VX_adr hq).1⟩)
  have hPo1 := hkeep _ hPo (fun k q hq => by rw [oat hq]; exact hoM)
  have hEv1 : EvM vA := EvM_fr (hqM.1.2.1 13 (by decide)) (hqM.1.2.1 14 (by decide)) (hqM.1.2.1 21 (by decide)) (hqM.1.2.2.1 33 (by decide)) hEv
  have htie1 : Tie uA vA := Tie_fr hfrX hqM.1.2.1 (by decide) htie
  have hrow1 : TieR uA vA := TieR_fr (hfrX 36 (by decide)) (hrwX 63 (by decide)) (hrwX 64 (by decide)) (hrwX 65 (by decide)) (hqM.1.2.2.1 36 (by decide)) (hqM.1.2.2.1 37 (by decide)) (hqM.1.2.2.1 38 (by decide)) hrow
  have htape1 : TieT uA vA := TieT_fr (hfrX 1 (by decide)) (hrwX 13 (by decide)) (hqM.1.2.1 3 (by decide)) (hqM.1.2.2.1 1 (by decide)) htape
  have hcnt1 : TieC uA vA := TieC_fr (hfrX 5 (by decide)) (hfrX 6 (by decide)) (hfrX 7 (by decide)) (hqM.1.2.2.1 4 (by decide)) hcnt
  have hpar1 : TieP uA vA := TieP_fr (hfrX 8 (by decide)) (hfrX 29 (by decide)) (hfrX 9 (by decide)) (hfrX 0 (by decide)) (hrwX 52 (by decide)) (hqM.1.2.1 12 (by decide)) (hqM.1.2.1 21 (by decide)) (hqM.1.2.1 14 (by decide)) (hqM.1.2.2.1 33 (by decide)) hpar
  have hspn1 : TieS uA vA := TieS_fr hfrX hrwX hqM.1.2.1 hqM.1.2.2.1 (by decide) hspn
  have hcx1 : CX uA := (Tot_at (cfX11_next_0 _ _ _ _ u ⟨hIX, hcx⟩) hfX).1.1.2
  have hval1 : TieV uA vA := TieV_fr (hfrX 5 (by decide)) (hfrX 6 (by decide)) (hfrX 7 (by decide)) hTX (hqM.1.2.2.1 2 (by decide)) (hqM.1.2.2.1 3 (by decide)) hval
  have hpl1 : PL uA := PL_fr (hfrX 8 (by decide)) (hfrX 5 (by decide)) (hrwX 24 (by decide)) hpl
  have hgag1 : TieG uA vA := TieG_fr hfrX hrwX hqM.1.2.2.1 (by decide) hgag
  have hRK : RK u := ⟨⟨hIX, hcx, hpl, LVX_of hIX hIM hval hgag, hcw⟩, hck⟩
  have hMR : MR u v := ⟨hIM, hpar, hspn, hval, hgag⟩
  have hRK1 : RK uA := next_K hRK hfX
  have hcw1 : CW uA := hRK1.1.2.2.2.2
  have hck1 : CK uA := hRK1.2
  clear hRK hMR hRK1
  have hwg1 : WG uA := WG_fr (hfrX 13 (by decide)) (hrwX 36 (by decide)) hwg
  have hdn1 : TieD uA vA := TieD_fr (hfrX 29 (by decide)) (hrwX 52 (by decide)) (hqM.1.2.1 13 (by decide)) (hqM.1.2.2.1 11 (by decide)) (hqM.1.2.2.1 15 (by decide)) hdn
  have hIM1 : IM vA := hqM.1.1
  clear hPX hPM hPo hS hIM hEv htie hrow htape hcnt hpar hspn hcx hval hpl hgag hcw hck hwg hdn hkeep hfrX hrwX hIX
  have hPX := hPX1
  have hPM := hP1
  have hPo := hPo1
  have hS := hS1
  have hIM := hIM1
  have hEv := hEv1
  have htie := htie1
  have hrow := hrow1
  have htape := htape1
  have hcnt := hcnt1
  have hpar := hpar1
  have hspn := hspn1
  have hcx := hcx1
  have hval := hval1
  have hpl := hpl1
  have hgag := hgag1
  have hcw := hcw1
  have hck := hck1
  have hwg := hwg1
  have hdn := hdn1
  have hIX := hIX1
  clear hIX1
  clear hP1 hPX1 hPo1 hS1 hIM1 hEv1 htie1 hrow1 htape1 hcnt1 hpar1 hspn1 hcx1 hval1 hpl1 hgag1 hcw1 hck1 hwg1 hdn1 hqM
  generalize H1 = H at hPX hPo hPM hS ⊢
  generalize locs1 = locs at hS ⊢
  refine lv_pop hx hb dL_law_1588 rfl ?_
  refine lv_goto (tgt := 1958) hx hb dL_law_1589 (by decide) ?_
  refine W.widen (k := cells + 2) (n := slots + 122) (Nat.le_add_right _ _) (Nat.le_add_right _ _) ?_
  exact kk aX uA vA f H locs ls ⟨rfl, hJX, hAX, hdis, hoX, hPX, hPM, hPo, hS, hIX, hIM, hEv, htie, hrow, htape, hcnt, hpar, hspn, hcx, hval, hpl, hgag, hcw, hck, hwg, hdn⟩ hl
theorem dL_law_1592 : decode cL_law 1592 = .ok (.aload_n 1, 1) := by decide +kernel
theorem dL_law_1593 : decode cL_law 1593 = .ok (.invokevirtual 144, 3) := by decide +kernel
theorem dL_law_1596 : decode cL_law 1596 = .ok (.pop, 1) := by decide +kernel
theorem dL_law_1597 : decode cL_law 1597 = .ok (.aload_n 2, 1) := by decide +kernel
theorem dL_law_1598 : decode cL_law 1598 = .ok (.invokevirtual 147, 3) := by decide +kernel
theorem dL_law_1601 : decode cL_law 1601 = .ok (.pop, 1) := by decide +kernel
theorem dL_law_1602 : decode cL_law 1602 = .ok (.goto 356, 3) := by decide +kernel
set_option maxHeartbeats 4000000 in
set_option maxRecDepth 100000 in
theorem case_27 {p : Program} {e : Env} {s : State} {m : MethodId} {below : List Frame} {meth : Method} {c : Code} (l : Launch) (hfl : l.stackTraces = false) {b L : Nat} {xs : Nat → Int32} {D : va_G} {cy : Nat → ClassId} {st aM : Nat → Nat} {o x0 : Nat} {aX : Nat → Nat} {u v : SX} {f : Nat → Int64} {H : Heap} {locs : List Loc} {ls : Array Slot} {i : Int32} {cells slots : Nat} {Q : State → Prop} (F : LF p s m meth c b L xs D cy st aM o) (I : LI s D cy st aM o x0 aX u v f H locs) (hi0 : 0 ≤ i.toInt) (hi9 : i.toInt + 9 ≤ (L : Int)) (hcl : cells + 2 ≤ room_1.cells) (hsl : slots + 122 ≤ room_1.slots) (hl : lv_has ls 7 [(0, .ref b), (1, .ref x0), (2, .ref (aM 0)), (3, .ref o), (4, .int i)]) (kk : ∀ (aX : Nat → Nat) (u v : SX) (f : Nat → Int64) (H : Heap) (locs : List Loc) (ls : Array Slot), LI s D cy st aM o x0 aX u v f H locs → lv_has ls 7 [(0, .ref b), (1, .ref x0), (2, .ref (aM 0)), (3, .ref o), (4, .int i)] → W p l e room_1 s m #[Value.ref b] below meth c H locs (cells + 2) (slots + 122) Q (F0 m 1958 ls [])) : W p l e room_1 s m #[Value.ref b] below meth c H locs cells slots Q (F0 m 1592 ls []) := by
  obtain ⟨C0, hL, hK, hJM, hAM, hoM, hso, hst, hE, hCL⟩ := F
  obtain ⟨hx, hb, hr, hml, hown, hts0, hX, hbl, hlocks, hgv⟩ := C0
  obtain ⟨hx0, hJX, hAX, hdis, hoX, hPX, hPM, hPo, hS, hIX, hIM, hEv, htie, hrow, htape, hcnt, hpar, hspn, hcx, hval, hpl, hgag, hcw, hck, hwg, hdn⟩ := I
  have hts : ∀ w ∈ wsL_law, w.before #[Value.ref b] s = true := fun w h => hts0 w (wsL_law_in w h)
  have hbA : ¬ (fun q : Nat => s.heap.size ≤ q) b := Nat.not_le.mpr hbl
  have hA0 : ∀ q, (fun q : Nat => s.heap.size ≤ q) q → st 100 ≤ q := fun q h => by rw [hst]; exact h
  have hfit : cells ≤ room_1.cells ∧ slots ≤ room_1.slots := ⟨Nat.le_trans (Nat.le_add_right _ _) hcl, Nat.le_trans (Nat.le_add_right _ _) hsl⟩
  subst hx0
  refine lv_aload_n hx hb dL_law_1592 rfl (lv_at hl 1 rfl) ?_
  obtain ⟨⟨r, uA⟩, hfX, hqX⟩ := tfX11_house_0  u hIX
  refine lg_i (V := VX cy aX st) (Ad := AX aX) (As := []) (rest := []) ⟨hx, hb, hml, hown, fun w h => hts0 w (gw_X11_house w h)⟩ hA0 hK hPX hS (fun q h => h.elim (hAX q) (fun z => Nat.le_trans hS.1 z)) (metX11_house_0 l D cy aX st hJX H.size  hfX) (cwV 0 (fun w h => hts0 w (gw_X11_house w h)) gx_X11_house rfl rfl rfl (by decide +kernel) ⟨Nat.le_of_ble_eq_true rfl, Nat.le_of_ble_eq_true rfl⟩) 0 11 rfl rfl rfl hl.1 rfl (Nat.le_of_ble_eq_true rfl) dL_law_1593 hfit (fun H1 locs1 hP1 hkeep hS1 => ?_)
  have hPM1 := hkeep _ hPM (fun k q hq => hdis _ (VM_mem hq))
  have hPo1 := hkeep _ hPo (fun k q hq => by rw [oat hq]; exact hoX)
  have hIX1 : IX uA := hqX.1.1
  have hFX := hqX.1.2
  have hTX := hqX.1.2.2.2.2.2
  have hfrX := hqX.1.2.1
  have hrwX := hqX.1.2.2.1
  clear hPX hPM hPo hS hkeep
  have hPX := hP1
  have hPM := hPM1
  have hPo := hPo1
  have hS := hS1
  clear hP1 hPM1 hPo1 hS1 hqX
  generalize H1 = H at hPX hPo hPM hS ⊢
  generalize locs1 = locs at hS ⊢
  refine lv_pop hx hb dL_law_1596 rfl ?_
  refine lv_aload_n hx hb dL_law_1597 rfl (lv_at hl 2 rfl) ?_
  obtain ⟨⟨rM, vA⟩, hfM, hqM⟩ := tfX12_house_0  v hIM
  refine lg_i (V := VM cy aM st) (Ad := AM aM) (As := []) (rest := []) ⟨hx, hb, hml, hown, fun w h => hts0 w (gw_X12_house w h)⟩ hA0 hK hPM hS (fun q h => h.elim (hAM q) (fun z => Nat.le_trans hS.1 z)) (metX12_house_0 l D cy aM st hJM H.size  hfM) (cwV 0 (fun w h => hts0 w (gw_X12_house w h)) gx_X12_house rfl rfl rfl (by decide +kernel) ⟨Nat.le_of_ble_eq_true rfl, Nat.le_of_ble_eq_true rfl⟩) 0 12 rfl rfl rfl hl.1 rfl (Nat.le_of_ble_eq_true rfl) dL_law_1598 hfit (fun H1 locs1 hP1 hkeep hS1 => ?_)
  have hPX1 := hkeep _ hPX (fun k q hq hz => hdis _ hz ⟨k, (VX_adr hq).1⟩)
  have hPo1 := hkeep _ hPo (fun k q hq => by rw [oat hq]; exact hoM)
  have hEv1 : EvM vA := EvM_fr (hqM.1.2.1 13 (by decide)) (hqM.1.2.1 14 (by decide)) (hqM.1.2.1 21 (by decide)) (hqM.1.2.2.1 33 (by decide)) hEv
  obtain ⟨er, htie1⟩ := house_eq hIX hIM htie hfX hfM
  have hrow1 : TieR uA vA := TieR_fr (hfrX 36 (by decide)) (hrwX 63 (by decide)) (hrwX 64 (by decide)) (hrwX 65 (by decide)) (hqM.1.2.2.1 36 (by decide)) (hqM.1.2.2.1 37 (by decide)) (hqM.1.2.2.1 38 (by decide)) hrow
  have htape1 : TieT uA vA := TieT_fr (hfrX 1 (by decide)) (hrwX 13 (by decide)) (hqM.1.2.1 3 (by decide)) (hqM.1.2.2.1 1 (by decide)) htape
  have hcnt1 : TieC uA vA := TieC_fr (hfrX 5 (by decide)) (hfrX 6 (by decide)) (hfrX 7 (by decide)) (hqM.1.2.2.1 4 (by decide)) hcnt
  have hpar1 : TieP uA vA := TieP_fr (hfrX 8 (by decide)) (hfrX 29 (by decide)) (hfrX 9 (by decide)) (hfrX 0 (by decide)) (hrwX 52 (by decide)) (hqM.1.2.1 12 (by decide)) (hqM.1.2.1 21 (by decide)) (hqM.1.2.1 14 (by decide)) (hqM.1.2.2.1 33 (by decide)) hpar
  have hspn1 : TieS uA vA := TieS_fr hfrX hrwX hqM.1.2.1 hqM.1.2.2.1 (by decide) hspn
  have hcx1 : CX uA := CX_fr2 hfrX hrwX (by decide) hcx
  have hval1 : TieV uA vA := TieV_fr (hfrX 5 (by decide)) (hfrX 6 (by decide)) (hfrX 7 (by decide)) hTX (hqM.1.2.2.1 2 (by decide)) (hqM.1.2.2.1 3 (by decide)) hval
  have hpl1 : PL uA := PL_fr (hfrX 8 (by decide)) (hfrX 5 (by decide)) (hrwX 24 (by decide)) hpl
  have hgag1 : TieG uA vA := TieG_fr hfrX hrwX hqM.1.2.2.1 (by decide) hgag
  have hcw1 : CW uA := CW_md hFX (by decide) (by decide) hcw
  have hck1 : CK uA := CK_md hFX (by decide) (by decide) hck
  have hwg1 : WG uA := WG_fr (hfrX 13 (by decide)) (hrwX 36 (by decide)) hwg
  have hdn1 : TieD uA vA := TieD_fr (hfrX 29 (by decide)) (hrwX 52 (by decide)) (hqM.1.2.1 13 (by decide)) (hqM.1.2.2.1 11 (by decide)) (hqM.1.2.2.1 15 (by decide)) hdn
  have hIM1 : IM vA := hqM.1.1
  clear hPX hPM hPo hS hIM hEv htie hrow htape hcnt hpar hspn hcx hval hpl hgag hcw hck hwg hdn hkeep hfrX hrwX hIX
  have hPX := hPX1
  have hPM := hP1
  have hPo := hPo1
  have hS := hS1
  have hIM := hIM1
  have hEv := hEv1
  have htie := htie1
  have hrow := hrow1
  have htape := htape1
  have hcnt := hcnt1
  have hpar := hpar1
  have hspn := hspn1
  have hcx := hcx1
  have hval := hval1
  have hpl := hpl1
  have hgag := hgag1
  have hcw := hcw1
  have hck := hck1
  have hwg := hwg1
  have hdn := hdn1
  have hIX := hIX1
  clear hIX1
  clear hP1 hPX1 hPo1 hS1 hIM1 hEv1 htie1 hrow1 htape1 hcnt1 hpar1 hspn1 hcx1 hval1 hpl1 hgag1 hcw1 hck1 hwg1 hdn1 hqM
  generalize H1 = H at hPX hPo hPM hS ⊢
  generalize locs1 = locs at hS ⊢
  refine lv_pop hx hb dL_law_1601 rfl ?_
  refine lv_goto (tgt := 1958) hx hb dL_law_1602 (by decide) ?_
  refine W.widen (k := cells + 2) (n := slots + 122) (Nat.le_add_right _ _) (Nat.le_add_right _ _) ?_
  exact kk aX uA vA f H locs ls ⟨rfl, hJX, hAX, hdis, hoX, hPX, hPM, hPo, hS, hIX, hIM, hEv, htie, hrow, htape, hcnt, hpar, hspn, hcx, hval, hpl, hgag, hcw, hck, hwg, hdn⟩ hl
theorem dL_law_1605 : decode cL_law 1605 = .ok (.aload_n 1, 1) := by decide +kernel
theorem dL_law_1606 : decode cL_law 1606 = .ok (.aload_n 0, 1) := by decide +kernel
theorem dL_law_1607 : decode cL_law 1607 = .ok (.iload 4, 2) := by decide +kernel
theorem dL_law_1609 : decode cL_law 1609 = .ok (.iconst 1, 1) := by decide +kernel
theorem dL_law_1610 : decode cL_law 1610 = .ok (.iadd, 1) := by decide +kernel
theorem dL_law_1611 : decode cL_law 1611 = .ok (.iaload, 1) := by decide +kernel
theorem dL_law_1612 : decode cL_law 1612 = .ok (.aload_n 0, 1) := by decide +kernel
theorem dL_law_1613 : decode cL_law 1613 = .ok (.iload 4, 2) := by decide +kernel
theorem dL_law_1615 : decode cL_law 1615 = .ok (.iconst 2, 1) := by decide +kernel
theorem dL_law_1616 : decode cL_law 1616 = .ok (.iadd, 1) := by decide +kernel
theorem dL_law_1617 : decode cL_law 1617 = .ok (.iaload, 1) := by decide +kernel
theorem dL_law_1618 : decode cL_law 1618 = .ok (.ifCond .eq 7, 3) := by decide +kernel
theorem dL_law_1625 : decode cL_law 1625 = .ok (.iconst 0, 1) := by decide +kernel
theorem dL_law_1626 : decode cL_law 1626 = .ok (.aload_n 0, 1) := by decide +kernel
theorem dL_law_1627 : decode cL_law 1627 = .ok (.iload 4, 2) := by decide +kernel
theorem dL_law_1629 : decode cL_law 1629 = .ok (.iconst 3, 1) := by decide +kernel
theorem dL_law_1630 : decode cL_law 1630 = .ok (.iadd, 1) := by decide +kernel
theorem dL_law_1631 : decode cL_law 1631 = .ok (.iaload, 1) := by decide +kernel
theorem dL_law_1632 : decode cL_law 1632 = .ok (.aload_n 0, 1) := by decide +kernel
theorem dL_law_1633 : decode cL_law 1633 = .ok (.iload 4, 2) := by decide +kernel
theorem dL_law_1635 : decode cL_law 1635 = .ok (.iconst 4, 1) := by decide +kernel
theorem dL_law_1636 : decode cL_law 1636 = .ok (.iadd, 1) := by decide +kernel
theorem dL_law_1637 : decode cL_law 1637 = .ok (.iaload, 1) := by decide +kernel
theorem dL_law_1638 : decode cL_law 1638 = .ok (.invokevirtual 148, 3) := by decide +kernel
theorem dL_law_1641 : decode cL_law 1641 = .ok (.pop, 1) := by decide +kernel
theorem dL_law_1642 : decode cL_law 1642 = .ok (.aload_n 2, 1) := by decide +kernel
theorem dL_law_1643 : decode cL_law 1643 = .ok (.aload_n 0, 1) := by decide +kernel
theorem dL_law_1644 : decode cL_law 1644 = .ok (.iload 4, 2) := by decide +kernel
theorem dL_law_1646 : decode cL_law 1646 = .ok (.iconst 1, 1) := by decide +kernel
theorem dL_law_1647 : decode cL_law 1647 = .ok (.iadd, 1) := by decide +kernel
theorem dL_law_1648 : decode cL_law 1648 = .ok (.iaload, 1) := by decide +kernel
theorem dL_law_1649 : decode cL_law 1649 = .ok (.aload_n 0, 1) := by decide +kernel
theorem dL_law_1650 : decode cL_law 1650 = .ok (.iload 4, 2) := by decide +kernel
theorem dL_law_1652 : decode cL_law 1652 = .ok (.iconst 2, 1) := by decide +kernel
theorem dL_law_1653 : decode cL_law 1653 = .ok (.iadd, 1) := by decide +kernel
theorem dL_law_1654 : decode cL_law 1654 = .ok (.iaload, 1) := by decide +kernel
theorem dL_law_1655 : decode cL_law 1655 = .ok (.ifCond .eq 7, 3) := by decide +kernel
theorem dL_law_1662 : decode cL_law 1662 = .ok (.iconst 0, 1) := by decide +kernel
theorem dL_law_1663 : decode cL_law 1663 = .ok (.aload_n 0, 1) := by decide +kernel
theorem dL_law_1664 : decode cL_law 1664 = .ok (.iload 4, 2) := by decide +kernel
theorem dL_law_1666 : decode cL_law 1666 = .ok (.iconst 3, 1) := by decide +kernel
theorem dL_law_1667 : decode cL_law 1667 = .ok (.iadd, 1) := by decide +kernel
theorem dL_law_1668 : decode cL_law 1668 = .ok (.iaload, 1) := by decide +kernel
theorem dL_law_1669 : decode cL_law 1669 = .ok (.aload_n 0, 1) := by decide +kernel
theorem dL_law_1670 : decode cL_law 1670 = .ok (.iload 4, 2) := by decide +kernel
theorem dL_law_1672 : decode cL_law 1672 = .ok (.iconst 4, 1) := by decide +kernel
theorem dL_law_1673 : decode cL_law 1673 = .ok (.iadd, 1) := by decide +kernel
theorem dL_law_1674 : decode cL_law 1674 = .ok (.iaload, 1) := by decide +kernel
theorem dL_law_1675 : decode cL_law 1675 = .ok (.invokevirtual 152, 3) := by decide +kernel
theorem dL_law_1678 : decode cL_law 1678 = .ok (.pop, 1) := by decide +kernel
theorem dL_law_1679 : decode cL_law 1679 = .ok (.goto 279, 3) := by decide +kernel
theorem dL_law_1621 : decode cL_law 1621 = .ok (.iconst 1, 1) := by decide +kernel
theorem dL_law_1622 : decode cL_law 1622 = .ok (.goto 4, 3) := by decide +kernel
theorem dL_law_1658 : decode cL_law 1658 = .ok (.iconst 1, 1) := by decide +kernel
theorem dL_law_1659 : decode cL_law 1659 = .ok (.goto 4, 3) := by decide +kernel
set_option maxHeartbeats 4000000 in
set_option maxRecDepth 100000 in
theorem case_28 {p : Program} {e : Env} {s : State} {m : MethodId} {below : List Frame} {meth : Method} {c : Code} (l : Launch) (hfl : l.stackTraces = false) {b L : Nat} {xs : Nat → Int32} {D : va_G} {cy : Nat → ClassId} {st aM : Nat → Nat} {o x0 : Nat} {aX : Nat → Nat} {u v : SX} {f : Nat → Int64} {H : Heap} {locs : List Loc} {ls : Array Slot} {i : Int32} {cells slots : Nat} {Q : State → Prop} (F : LF p s m meth c b L xs D cy st aM o) (I : LI s D cy st aM o x0 aX u v f H locs) (hi0 : 0 ≤ i.toInt) (hi9 : i.toInt + 9 ≤ (L : Int)) (hcl : cells + 2 ≤ room_1.cells) (hsl : slots + 122 ≤ room_1.slots) (hl : lv_has ls 7 [(0, .ref b), (1, .ref x0), (2, .ref (aM 0)), (3, .ref o), (4, .int i)]) (kk : ∀ (aX : Nat → Nat) (u v : SX) (f : Nat → Int64) (H : Heap) (locs : List Loc) (ls : Array Slot), LI s D cy st aM o x0 aX u v f H locs → lv_has ls 7 [(0, .ref b), (1, .ref x0), (2, .ref (aM 0)), (3, .ref o), (4, .int i)] → W p l e room_1 s m #[Value.ref b] below meth c H locs (cells + 2) (slots + 122) Q (F0 m 1958 ls [])) : W p l e room_1 s m #[Value.ref b] below meth c H locs cells slots Q (F0 m 1605 ls []) := by
  obtain ⟨C0, hL, hK, hJM, hAM, hoM, hso, hst, hE, hCL⟩ := F
  obtain ⟨hx, hb, hr, hml, hown, hts0, hX, hbl, hlocks, hgv⟩ := C0
  obtain ⟨hx0, hJX, hAX, hdis, hoX, hPX, hPM, hPo, hS, hIX, hIM, hEv, htie, hrow, htape, hcnt, hpar, hspn, hcx, hval, hpl, hgag, hcw, hck, hwg, hdn⟩ := I
  have hts : ∀ w ∈ wsL_law, w.before #[Value.ref b] s = true := fun w h => hts0 w (wsL_law_in w h)
  have hbA : ¬ (fun q : Nat => s.heap.size ≤ q) b := Nat.not_le.mpr hbl
  have hA0 : ∀ q, (fun q : Nat => s.heap.size ≤ q) q → st 100 ≤ q := fun q h => by rw [hst]; exact h
  have hfit : cells ≤ room_1.cells ∧ slots ≤ room_1.slots := ⟨Nat.le_trans (Nat.le_add_right _ _) hcl, Nat.le_trans (Nat.le_add_right _ _) hsl⟩
  subst hx0
  obtain ⟨y1, hy1⟩ : ∃ y, xs (i + 1).toNatClampNeg = y := ⟨_, rfl⟩
  have hin1 : vp_in (i + 1) L := in9 (show (1 : Int32).toInt = 1 by decide) hi0 hi9 hL (by decide) (by decide)
  obtain ⟨y2, hy2⟩ : ∃ y, xs (i + 2).toNatClampNeg = y := ⟨_, rfl⟩
  have hin2 : vp_in (i + 2) L := in9 (show (2 : Int32).toInt = 2 by decide) hi0 hi9 hL (by decide) (by decide)
  obtain ⟨y3, hy3⟩ : ∃ y, xs (i + 3).toNatClampNeg = y := ⟨_, rfl⟩
  have hin3 : vp_in (i + 3) L := in9 (show (3 : Int32).toInt = 3 by decide) hi0 hi9 hL (by decide) (by decide)
  obtain ⟨y4, hy4⟩ : ∃ y, xs (i + 4).toNatClampNeg = y := ⟨_, rfl⟩
  have hin4 : vp_in (i + 4) L := in9 (show (4 : Int32).toInt = 4 by decide) hi0 hi9 hL (by decide) (by decide)
  refine lv_aload_n hx hb dL_law_1605 rfl (lv_at hl 1 rfl) ?_
  refine lv_aload_n hx hb dL_law_1606 rfl (lv_at hl 0 rfl) ?_
  refine lv_iload hx hb dL_law_1607 (lv_at hl 4 rfl) ?_
  refine lv_iconst (v := 1) hx hb dL_law_1609 (by decide) ?_
  refine lv_iadd hx hb dL_law_1610 ?_
  refine sld9 (v := y1) hx hb hX hbl hbA hS hin1 hy1 dL_law_1611 ?_
  refine lv_aload_n hx hb dL_law_1612 rfl (lv_at hl 0 rfl) ?_
  refine lv_iload hx hb dL_law_1613 (lv_at hl 4 rfl) ?_
  refine lv_iconst (v := 2) hx hb dL_law_1615 (by decide) ?_
  refine lv_iadd hx hb dL_law_1616 ?_
  refine sld9 (v := y2) hx hb hX hbl hbA hS hin2 hy2 dL_law_1617 ?_
  refine lv_if_eq (tgt := 1625) hx hb dL_law_1618 (by decide) (fun c1 => ?_) (fun c1 => ?_)
  · refine lv_iconst (v := 0) hx hb dL_law_1625 (by decide) ?_
    refine lv_aload_n hx hb dL_law_1626 rfl (lv_at hl 0 rfl) ?_
    refine lv_iload hx hb dL_law_1627 (lv_at hl 4 rfl) ?_
    refine lv_iconst (v := 3) hx hb dL_law_1629 (by decide) ?_
    refine lv_iadd hx hb dL_law_1630 ?_
    refine sld9 (v := y3) hx hb hX hbl hbA hS hin3 hy3 dL_law_1631 ?_
    refine lv_aload_n hx hb dL_law_1632 rfl (lv_at hl 0 rfl) ?_
    refine lv_iload hx hb dL_law_1633 (lv_at hl 4 rfl) ?_
    refine lv_iconst (v := 4) hx hb dL_law_1635 (by decide) ?_
    refine lv_iadd hx hb dL_law_1636 ?_
    refine sld9 (v := y4) hx hb hX hbl hbA hS hin4 hy4 dL_law_1637 ?_
    obtain ⟨⟨r, uA⟩, hfX, hqX⟩ := tfX11_print_0 y1 0 y3 y4 u hIX (by decide)
    refine lg_i (V := VX cy aX st) (Ad := AX aX) (As := [.int y1, .int 0, .int y3, .int y4]) (rest := []) ⟨hx, hb, hml, hown, fun w h => hts0 w (gw_X11_print w h)⟩ hA0 hK hPX hS (fun q h => h.elim (hAX q) (fun z => Nat.le_trans hS.1 z)) (metX11_print_0 l D cy aX st hJX H.size y1 0 y3 y4 hfX) (cwV 4 (fun w h => hts0 w (gw_X11_print w h)) gx_X11_print rfl rfl rfl (by decide +kernel) ⟨Nat.le_of_ble_eq_true rfl, Nat.le_of_ble_eq_true rfl⟩) 0 11 rfl rfl rfl hl.1 rfl (Nat.le_of_ble_eq_true rfl) dL_law_1638 hfit (fun H1 locs1 hP1 hkeep hS1 => ?_)
    have hPM1 := hkeep _ hPM (fun k q hq => hdis _ (VM_mem hq))
    have hPo1 := hkeep _ hPo (fun k q hq => by rw [oat hq]; exact hoX)
    have hIX1 : IX uA := hqX.1.1
    have hFX := hqX.1.2
    have hTX := hqX.1.2.2.2.2.2
    have hfrX := hqX.1.2.1
    have hrwX := hqX.1.2.2.1
    clear hPX hPM hPo hS hkeep
    have hPX := hP1
    have hPM := hPM1
    have hPo := hPo1
    have hS := hS1
    clear hP1 hPM1 hPo1 hS1 hqX
    generalize H1 = H at hPX hPo hPM hS ⊢
    generalize locs1 = locs at hS ⊢
    refine lv_pop hx hb dL_law_1641 rfl ?_
    refine lv_aload_n hx hb dL_law_1642 rfl (lv_at hl 2 rfl) ?_
    refine lv_aload_n hx hb dL_law_1643 rfl (lv_at hl 0 rfl) ?_
    refine lv_iload hx hb dL_law_1644 (lv_at hl 4 rfl) ?_
    refine lv_iconst (v := 1) hx hb dL_law_1646 (by decide) ?_
    refine lv_iadd hx hb dL_law_1647 ?_
    refine sld9 (v := y1) hx hb hX hbl hbA hS hin1 hy1 dL_law_1648 ?_
    refine lv_aload_n hx hb dL_law_1649 rfl (lv_at hl 0 rfl) ?_
    refine lv_iload hx hb dL_law_1650 (lv_at hl 4 rfl) ?_
    refine lv_iconst (v := 2) hx hb dL_law_1652 (by decide) ?_
    refine lv_iadd hx hb dL_law_1653 ?_
    refine sld9 (v := y2) hx hb hX hbl hbA hS hin2 hy2 dL_law_1654 ?_
    refine lv_if_eq (tgt := 1662) hx hb dL_law_1655 (by decide) (fun _ => ?_) (fun h => absurd c1 h)
    refine lv_iconst (v := 0) hx hb dL_law_1662 (by decide) ?_
    refine lv_aload_n hx hb dL_law_1663 rfl (lv_at hl 0 rfl) ?_
    refine lv_iload hx hb dL_law_1664 (lv_at hl 4 rfl) ?_
    refine lv_iconst (v := 3) hx hb dL_law_1666 (by decide) ?_
    refine lv_iadd hx hb dL_law_1667 ?_
    refine sld9 (v := y3) hx hb hX hbl hbA hS hin3 hy3 dL_law_1668 ?_
    refine lv_aload_n hx hb dL_law_1669 rfl (lv_at hl 0 rfl) ?_
    refine lv_iload hx hb dL_law_1670 (lv_at hl 4 rfl) ?_
    refine lv_iconst (v := 4) hx hb dL_law_1672 (by decide) ?_
    refine lv_iadd hx hb dL_law_1673 ?_
    refine sld9 (v := y4) hx hb hX hbl hbA hS hin4 hy4 dL_law_1674 ?_
    obtain ⟨⟨rM, vA⟩, hfM, hqM⟩ := tfX12_print_0 y1 0 y3 y4 v hIM (by decide)
    refine lg_i (V := VM cy aM st) (Ad := AM aM) (As := [.int y1, .int 0, .int y3, .int y4]) (rest := []) ⟨hx, hb, hml, hown, fun w h => hts0 w (gw_X12_print w h)⟩ hA0 hK hPM hS (fun q h => h.elim (hAM q) (fun z => Nat.le_trans hS.1 z)) (metX12_print_0 l D cy aM st hJM H.size y1 0 y3 y4 hfM) (cwV 4 (fun w h => hts0 w (gw_X12_print w h)) gx_X12_print rfl rfl rfl (by decide +kernel) ⟨Nat.le_of_ble_eq_true rfl, Nat.le_of_ble_eq_true rfl⟩) 0 12 rfl rfl rfl hl.1 rfl (Nat.le_of_ble_eq_true rfl) dL_law_1675 hfit (fun H1 locs1 hP1 hkeep hS1 => ?_)
    have hPX1 := hkeep _ hPX (fun k q hq hz => hdis _ hz ⟨k, (VX_adr hq).1⟩)
    have hPo1 := hkeep _ hPo (fun k q hq => by rw [oat hq]; exact hoM)
    have hEv1 : EvM vA := EvM_fr (hqM.1.2.1 13 (by decide)) (hqM.1.2.1 14 (by decide)) (hqM.1.2.1 21 (by decide)) (hqM.1.2.2.1 33 (by decide)) hEv
    obtain ⟨er, htie1, hrow1⟩ := print_eq2 hIX hIM htie hrow hfX hfM
    have htape1 : TieT uA vA := TieT_fr (hfrX 1 (by decide)) (hrwX 13 (by decide)) (hqM.1.2.1 3 (by decide)) (hqM.1.2.2.1 1 (by decide)) htape
    have hcnt1 : TieC uA vA := TieC_fr (hfrX 5 (by decide)) (hfrX 6 (by decide)) (hfrX 7 (by decide)) (hqM.1.2.2.1 4 (by decide)) hcnt
    have hpar1 : TieP uA vA := TieP_fr (hfrX 8 (by decide)) (hfrX 29 (by decide)) (hfrX 9 (by decide)) (hfrX 0 (by decide)) (hrwX 52 (by decide)) (hqM.1.2.1 12 (by decide)) (hqM.1.2.1 21 (by decide)) (hqM.1.2.1 14 (by decide)) (hqM.1.2.2.1 33 (by decide)) hpar
    have hspn1 : TieS uA vA := TieS_fr hfrX hrwX hqM.1.2.1 hqM.1.2.2.1 (by decide) hspn
    have hcx1 : CX uA := CX_fr2 hfrX hrwX (by decide) hcx
    have hval1 : TieV uA vA := TieV_fr (hfrX 5 (by decide)) (hfrX 6 (by decide)) (hfrX 7 (by decide)) hTX (hqM.1.2.2.1 2 (by decide)) (hqM.1.2.2.1 3 (by decide)) hval
    have hpl1 : PL uA := PL_fr (hfrX 8 (by decide)) (hfrX 5 (by decide)) (hrwX 24 (by decide)) hpl
    have hgag1 : TieG uA vA := TieG_fr hfrX hrwX hqM.1.2.2.1 (by decide) hgag
    have hcw1 : CW uA := CW_md hFX (by decide) (by decide) hcw
    have hck1 : CK uA := CK_md hFX (by decide) (by decide) hck
    have hwg1 : WG uA := WG_fr (hfrX 13 (by decide)) (hrwX 36 (by decide)) hwg
    have hdn1 : TieD uA vA := TieD_fr (hfrX 29 (by decide)) (hrwX 52 (by decide)) (hqM.1.2.1 13 (by decide)) (hqM.1.2.2.1 11 (by decide)) (hqM.1.2.2.1 15 (by decide)) hdn
    have hIM1 : IM vA := hqM.1.1
    clear hPX hPM hPo hS hIM hEv htie hrow htape hcnt hpar hspn hcx hval hpl hgag hcw hck hwg hdn hkeep hfrX hrwX hIX
    have hPX := hPX1
    have hPM := hP1
    have hPo := hPo1
    have hS := hS1
    have hIM := hIM1
    have hEv := hEv1
    have htie := htie1
    have hrow := hrow1
    have htape := htape1
    have hcnt := hcnt1
    have hpar := hpar1
    have hspn := hspn1
    have hcx := hcx1
    have hval := hval1
    have hpl := hpl1
    have hgag := hgag1
    have hcw := hcw1
    have hck := hck1
    have hwg := hwg1
    have hdn := hdn1
    have hIX := hIX1
    clear hIX1
    clear hP1 hPX1 hPo1 hS1 hIM1 hEv1 htie1 hrow1 htape1 hcnt1 hpar1 hspn1 hcx1 hval1 hpl1 hgag1 hcw1 hck1 hwg1 hdn1 hqM
    generalize H1 = H at hPX hPo hPM hS ⊢
    generalize locs1 = locs at hS ⊢
    refine lv_pop hx hb dL_law_1678 rfl ?_
    refine lv_goto (tgt := 1958) hx hb dL_law_1679 (by decide) ?_
    refine W.widen (k := cells + 2) (n := slots + 122) (Nat.le_add_right _ _) (Nat.le_add_right _ _) ?_
    exact kk aX uA vA f H locs ls ⟨rfl, hJX, hAX, hdis, hoX, hPX, hPM, hPo, hS, hIX, hIM, hEv, htie, hrow, htape, hcnt, hpar, hspn, hcx, hval, hpl, hgag, hcw, hck, hwg, hdn⟩ hl
  · refine lv_iconst (v := 1) hx hb dL_law_1621 (by decide) ?_
    refine lv_goto (tgt := 1626) hx hb dL_law_1622 (by decide) ?_
    refine lv_aload_n hx hb dL_law_1626 rfl (lv_at hl 0 rfl) ?_
    refine lv_iload hx hb dL_law_1627 (lv_at hl 4 rfl) ?_
    refine lv_iconst (v := 3) hx hb dL_law_1629 (by decide) ?_
    refine lv_iadd hx hb dL_law_1630 ?_
    refine sld9 (v := y3) hx hb hX hbl hbA hS hin3 hy3 dL_law_1631 ?_
    refine lv_aload_n hx hb dL_law_1632 rfl (lv_at hl 0 rfl) ?_
    refine lv_iload hx hb dL_law_1633 (lv_at hl 4 rfl) ?_
    refine lv_iconst (v := 4) hx hb dL_law_1635 (by decide) ?_
    refine lv_iadd hx hb dL_law_1636 ?_
    refine sld9 (v := y4) hx hb hX hbl hbA hS hin4 hy4 dL_law_1637 ?_
    obtain ⟨⟨r, uA⟩, hfX, hqX⟩ := tfX11_print_0 y1 1 y3 y4 u hIX (by decide)
    refine lg_i (V := VX cy aX st) (Ad := AX aX) (As := [.int y1, .int 1, .int y3, .int y4]) (rest := []) ⟨hx, hb, hml, hown, fun w h => hts0 w (gw_X11_print w h)⟩ hA0 hK hPX hS (fun q h => h.elim (hAX q) (fun z => Nat.le_trans hS.1 z)) (metX11_print_0 l D cy aX st hJX H.size y1 1 y3 y4 hfX) (cwV 4 (fun w h => hts0 w (gw_X11_print w h)) gx_X11_print rfl rfl rfl (by decide +kernel) ⟨Nat.le_of_ble_eq_true rfl, Nat.le_of_ble_eq_true rfl⟩) 0 11 rfl rfl rfl hl.1 rfl (Nat.le_of_ble_eq_true rfl) dL_law_1638 hfit (fun H1 locs1 hP1 hkeep hS1 => ?_)
    have hPM1 := hkeep _ hPM (fun k q hq => hdis _ (VM_mem hq))
    have hPo1 := hkeep _ hPo (fun k q hq => by rw [oat hq]; exact hoX)
    have hIX1 : IX uA := hqX.1.1
    have hFX := hqX.1.2
    have hTX := hqX.1.2.2.2.2.2
    have hfrX := hqX.1.2.1
    have hrwX := hqX.1.2.2.1
    clear hPX hPM hPo hS hkeep
    have hPX := hP1
    have hPM := hPM1
    have hPo := hPo1
    have hS := hS1
    clear hP1 hPM1 hPo1 hS1 hqX
    generalize H1 = H at hPX hPo hPM hS ⊢
    generalize locs1 = locs at hS ⊢
    refine lv_pop hx hb dL_law_1641 rfl ?_
    refine lv_aload_n hx hb dL_law_1642 rfl (lv_at hl 2 rfl) ?_
    refine lv_aload_n hx hb dL_law_1643 rfl (lv_at hl 0 rfl) ?_
    refine lv_iload hx hb dL_law_1644 (lv_at hl 4 rfl) ?_
    refine lv_iconst (v := 1) hx hb dL_law_1646 (by decide) ?_
    refine lv_iadd hx hb dL_law_1647 ?_
    refine sld9 (v := y1) hx hb hX hbl hbA hS hin1 hy1 dL_law_1648 ?_
    refine lv_aload_n hx hb dL_law_1649 rfl (lv_at hl 0 rfl) ?_
    refine lv_iload hx hb dL_law_1650 (lv_at hl 4 rfl) ?_
    refine lv_iconst (v := 2) hx hb dL_law_1652 (by decide) ?_
    refine lv_iadd hx hb dL_law_1653 ?_
    refine sld9 (v := y2) hx hb hX hbl hbA hS hin2 hy2 dL_law_1654 ?_
    refine lv_if_eq (tgt := 1662) hx hb dL_law_1655 (by decide) (fun h => absurd h c1) (fun _ => ?_)
    refine lv_iconst (v := 1) hx hb dL_law_1658 (by decide) ?_
    refine lv_goto (tgt := 1663) hx hb dL_law_1659 (by decide) ?_
    refine lv_aload_n hx hb dL_law_1663 rfl (lv_at hl 0 rfl) ?_
    refine lv_iload hx hb dL_law_1664 (lv_at hl 4 rfl) ?_
    refine lv_iconst (v := 3) hx hb dL_law_1666 (by decide) ?_
    refine lv_iadd hx hb dL_law_1667 ?_
    refine sld9 (v := y3) hx hb hX hbl hbA hS hin3 hy3 dL_law_1668 ?_
    refine lv_aload_n hx hb dL_law_1669 rfl (lv_at hl 0 rfl) ?_
    refine lv_iload hx hb dL_law_1670 (lv_at hl 4 rfl) ?_
    refine lv_iconst (v := 4) hx hb dL_law_1672 (by decide) ?_
    refine lv_iadd hx hb dL_law_1673 ?_
    refine sld9 (v := y4) hx hb hX hbl hbA hS hin4 hy4 dL_law_1674 ?_
    obtain ⟨⟨rM, vA⟩, hfM, hqM⟩ := tfX12_print_0 y1 1 y3 y4 v hIM (by decide)
    refine lg_i (V := VM cy aM st) (Ad := AM aM) (As := [.int y1, .int 1, .int y3, .int y4]) (rest := []) ⟨hx, hb, hml, hown, fun w h => hts0 w (gw_X12_print w h)⟩ hA0 hK hPM hS (fun q h => h.elim (hAM q) (fun z => Nat.le_trans hS.1 z)) (metX12_print_0 l D cy aM st hJM H.size y1 1 y3 y4 hfM) (cwV 4 (fun w h => hts0 w (gw_X12_print w h)) gx_X12_print rfl rfl rfl (by decide +kernel) ⟨Nat.le_of_ble_eq_true rfl, Nat.le_of_ble_eq_true rfl⟩) 0 12 rfl rfl rfl hl.1 rfl (Nat.le_of_ble_eq_true rfl) dL_law_1675 hfit (fun H1 locs1 hP1 hkeep hS1 => ?_)
    have hPX1 := hkeep _ hPX (fun k q hq hz => hdis _ hz ⟨k, (VX_adr hq).1⟩)
    have hPo1 := hkeep _ hPo (fun k q hq => by rw [oat hq]; exact hoM)
    have hEv1 : EvM vA := EvM_fr (hqM.1.2.1 13 (by decide)) (hqM.1.2.1 14 (by decide)) (hqM.1.2.1 21 (by decide)) (hqM.1.2.2.1 33 (by decide)) hEv
    obtain ⟨er, htie1, hrow1⟩ := print_eq2 hIX hIM htie hrow hfX hfM
    have htape1 : TieT uA vA := TieT_fr (hfrX 1 (by decide)) (hrwX 13 (by decide)) (hqM.1.2.1 3 (by decide)) (hqM.1.2.2.1 1 (by decide)) htape
    have hcnt1 : TieC uA vA := TieC_fr (hfrX 5 (by decide)) (hfrX 6 (by decide)) (hfrX 7 (by decide)) (hqM.1.2.2.1 4 (by decide)) hcnt
    have hpar1 : TieP uA vA := TieP_fr (hfrX 8 (by decide)) (hfrX 29 (by decide)) (hfrX 9 (by decide)) (hfrX 0 (by decide)) (hrwX 52 (by decide)) (hqM.1.2.1 12 (by decide)) (hqM.1.2.1 21 (by decide)) (hqM.1.2.1 14 (by decide)) (hqM.1.2.2.1 33 (by decide)) hpar
    have hspn1 : TieS uA vA := TieS_fr hfrX hrwX hqM.1.2.1 hqM.1.2.2.1 (by decide) hspn
    have hcx1 : CX uA := CX_fr2 hfrX hrwX (by decide) hcx
    have hval1 : TieV uA vA := TieV_fr (hfrX 5 (by decide)) (hfrX 6 (by decide)) (hfrX 7 (by decide)) hTX (hqM.1.2.2.1 2 (by decide)) (hqM.1.2.2.1 3 (by decide)) hval
    have hpl1 : PL uA := PL_fr (hfrX 8 (by decide)) (hfrX 5 (by decide)) (hrwX 24 (by decide)) hpl
    have hgag1 : TieG uA vA := TieG_fr hfrX hrwX hqM.1.2.2.1 (by decide) hgag
    have hcw1 : CW uA := CW_md hFX (by decide) (by decide) hcw
    have hck1 : CK uA := CK_md hFX (by decide) (by decide) hck
    have hwg1 : WG uA := WG_fr (hfrX 13 (by decide)) (hrwX 36 (by decide)) hwg
    have hdn1 : TieD uA vA := TieD_fr (hfrX 29 (by decide)) (hrwX 52 (by decide)) (hqM.1.2.1 13 (by decide)) (hqM.1.2.2.1 11 (by decide)) (hqM.1.2.2.1 15 (by decide)) hdn
    have hIM1 : IM vA := hqM.1.1
    clear hPX hPM hPo hS hIM hEv htie hrow htape hcnt hpar hspn hcx hval hpl hgag hcw hck hwg hdn hkeep hfrX hrwX hIX
    have hPX := hPX1
    have hPM := hP1
    have hPo := hPo1
    have hS := hS1
    have hIM := hIM1
    have hEv := hEv1
    have htie := htie1
    have hrow := hrow1
    have htape := htape1
    have hcnt := hcnt1
    have hpar := hpar1
    have hspn := hspn1
    have hcx := hcx1
    have hval := hval1
    have hpl := hpl1
    have hgag := hgag1
    have hcw := hcw1
    have hck := hck1
    have hwg := hwg1
    have hdn := hdn1
    have hIX := hIX1
    clear hIX1
    clear hP1 hPX1 hPo1 hS1 hIM1 hEv1 htie1 hrow1 htape1 hcnt1 hpar1 hspn1 hcx1 hval1 hpl1 hgag1 hcw1 hck1 hwg1 hdn1 hqM
    generalize H1 = H at hPX hPo hPM hS ⊢
    generalize locs1 = locs at hS ⊢
    refine lv_pop hx hb dL_law_1678 rfl ?_
    refine lv_goto (tgt := 1958) hx hb dL_law_1679 (by decide) ?_
    refine W.widen (k := cells + 2) (n := slots + 122) (Nat.le_add_right _ _) (Nat.le_add_right _ _) ?_
    exact kk aX uA vA f H locs ls ⟨rfl, hJX, hAX, hdis, hoX, hPX, hPM, hPo, hS, hIX, hIM, hEv, htie, hrow, htape, hcnt, hpar, hspn, hcx, hval, hpl, hgag, hcw, hck, hwg, hdn⟩ hl
theorem dL_law_1682 : decode cL_law 1682 = .ok (.aload_n 1, 1) := by decide +kernel
theorem dL_law_1683 : decode cL_law 1683 = .ok (.aload_n 0, 1) := by decide +kernel
theorem dL_law_1684 : decode cL_law 1684 = .ok (.iload 4, 2) := by decide +kernel
theorem dL_law_1686 : decode cL_law 1686 = .ok (.iconst 1, 1) := by decide +kernel
theorem dL_law_1687 : decode cL_law 1687 = .ok (.iadd, 1) := by decide +kernel
theorem dL_law_1688 : decode cL_law 1688 = .ok (.iaload, 1) := by decide +kernel
theorem dL_law_1689 : decode cL_law 1689 = .ok (.aload_n 0, 1) := by decide +kernel
theorem dL_law_1690 : decode cL_law 1690 = .ok (.iload 4, 2) := by decide +kernel
theorem dL_law_1692 : decode cL_law 1692 = .ok (.iconst 2, 1) := by decide +kernel
theorem dL_law_1693 : decode cL_law 1693 = .ok (.iadd, 1) := by decide +kernel
theorem dL_law_1694 : decode cL_law 1694 = .ok (.iaload, 1) := by decide +kernel
theorem dL_law_1695 : decode cL_law 1695 = .ok (.invokevirtual 153, 3) := by decide +kernel
theorem dL_law_1698 : decode cL_law 1698 = .ok (.pop, 1) := by decide +kernel
theorem dL_law_1699 : decode cL_law 1699 = .ok (.aload_n 2, 1) := by decide +kernel
theorem dL_law_1700 : decode cL_law 1700 = .ok (.aload_n 0, 1) := by decide +kernel
theorem dL_law_1701 : decode cL_law 1701 = .ok (.iload 4, 2) := by decide +kernel
theorem dL_law_1703 : decode cL_law 1703 = .ok (.iconst 1, 1) := by decide +kernel
theorem dL_law_1704 : decode cL_law 1704 = .ok (.iadd, 1) := by decide +kernel
theorem dL_law_1705 : decode cL_law 1705 = .ok (.iaload, 1) := by decide +kernel
theorem dL_law_1706 : decode cL_law 1706 = .ok (.aload_n 0, 1) := by decide +kernel
theorem dL_law_1707 : decode cL_law 1707 = .ok (.iload 4, 2) := by decide +kernel
theorem dL_law_1709 : decode cL_law 1709 = .ok (.iconst 2, 1) := by decide +kernel
theorem dL_law_1710 : decode cL_law 1710 = .ok (.iadd, 1) := by decide +kernel
theorem dL_law_1711 : decode cL_law 1711 = .ok (.iaload, 1) := by decide +kernel
theorem dL_law_1712 : decode cL_law 1712 = .ok (.invokevirtual 156, 3) := by decide +kernel
theorem dL_law_1715 : decode cL_law 1715 = .ok (.pop, 1) := by decide +kernel
theorem dL_law_1716 : decode cL_law 1716 = .ok (.goto 242, 3) := by decide +kernel
set_option maxHeartbeats 4000000 in
set_option maxRecDepth 100000 in
theorem case_29 {p : Program} {e : Env} {s : State} {m : MethodId} {below : List Frame} {meth : Method} {c : Code} (l : Launch) (hfl : l.stackTraces = false) {b L : Nat} {xs : Nat → Int32} {D : va_G} {cy : Nat → ClassId} {st aM : Nat → Nat} {o x0 : Nat} {aX : Nat → Nat} {u v : SX} {f : Nat → Int64} {H : Heap} {locs : List Loc} {ls : Array Slot} {i : Int32} {cells slots : Nat} {Q : State → Prop} (F : LF p s m meth c b L xs D cy st aM o) (I : LI s D cy st aM o x0 aX u v f H locs) (hi0 : 0 ≤ i.toInt) (hi9 : i.toInt + 9 ≤ (L : Int)) (hcl : cells + 2 ≤ room_1.cells) (hsl : slots + 122 ≤ room_1.slots) (hl : lv_has ls 7 [(0, .ref b), (1, .ref x0), (2, .ref (aM 0)), (3, .ref o), (4, .int i)]) (kk : ∀ (aX : Nat → Nat) (u v : SX) (f : Nat → Int64) (H : Heap) (locs : List Loc) (ls : Array Slot), LI s D cy st aM o x0 aX u v f H locs → lv_has ls 7 [(0, .ref b), (1, .ref x0), (2, .ref (aM 0)), (3, .ref o), (4, .int i)] → W p l e room_1 s m #[Value.ref b] below meth c H locs (cells + 2) (slots + 122) Q (F0 m 1958 ls [])) : W p l e room_1 s m #[Value.ref b] below meth c H locs cells slots Q (F0 m 1682 ls []) := by
  obtain ⟨C0, hL, hK, hJM, hAM, hoM, hso, hst, hE, hCL⟩ := F
  obtain ⟨hx, hb, hr, hml, hown, hts0, hX, hbl, hlocks, hgv⟩ := C0
  obtain ⟨hx0, hJX, hAX, hdis, hoX, hPX, hPM, hPo, hS, hIX, hIM, hEv, htie, hrow, htape, hcnt, hpar, hspn, hcx, hval, hpl, hgag, hcw, hck, hwg, hdn⟩ := I
  have hts : ∀ w ∈ wsL_law, w.before #[Value.ref b] s = true := fun w h => hts0 w (wsL_law_in w h)
  have hbA : ¬ (fun q : Nat => s.heap.size ≤ q) b := Nat.not_le.mpr hbl
  have hA0 : ∀ q, (fun q : Nat => s.heap.size ≤ q) q → st 100 ≤ q := fun q h => by rw [hst]; exact h
  have hfit : cells ≤ room_1.cells ∧ slots ≤ room_1.slots := ⟨Nat.le_trans (Nat.le_add_right _ _) hcl, Nat.le_trans (Nat.le_add_right _ _) hsl⟩
  subst hx0
  obtain ⟨y1, hy1⟩ : ∃ y, xs (i + 1).toNatClampNeg = y := ⟨_, rfl⟩
  have hin1 : vp_in (i + 1) L := in9 (show (1 : Int32).toInt = 1 by decide) hi0 hi9 hL (by decide) (by decide)
  obtain ⟨y2, hy2⟩ : ∃ y, xs (i + 2).toNatClampNeg = y := ⟨_, rfl⟩
  have hin2 : vp_in (i + 2) L := in9 (show (2 : Int32).toInt = 2 by decide) hi0 hi9 hL (by decide) (by decide)
  refine lv_aload_n hx hb dL_law_1682 rfl (lv_at hl 1 rfl) ?_
  refine lv_aload_n hx hb dL_law_1683 rfl (lv_at hl 0 rfl) ?_
  refine lv_iload hx hb dL_law_1684 (lv_at hl 4 rfl) ?_
  refine lv_iconst (v := 1) hx hb dL_law_1686 (by decide) ?_
  refine lv_iadd hx hb dL_law_1687 ?_
  refine sld9 (v := y1) hx hb hX hbl hbA hS hin1 hy1 dL_law_1688 ?_
  refine lv_aload_n hx hb dL_law_1689 rfl (lv_at hl 0 rfl) ?_
  refine lv_iload hx hb dL_law_1690 (lv_at hl 4 rfl) ?_
  refine lv_iconst (v := 2) hx hb dL_law_1692 (by decide) ?_
  refine lv_iadd hx hb dL_law_1693 ?_
  refine sld9 (v := y2) hx hb hX hbl hbA hS hin2 hy2 dL_law_1694 ?_
  obtain ⟨⟨r, uA⟩, hfX, hqX⟩ := tfX11_had_0 y1 y2 u hIX
  refine lg_i (V := VX cy aX st) (Ad := AX aX) (As := [.int y1, .int y2]) (rest := []) ⟨hx, hb, hml, hown, fun w h => hts0 w (gw_X11_had w h)⟩ hA0 hK hPX hS (fun q h => h.elim (hAX q) (fun z => Nat.le_trans hS.1 z)) (metX11_had_0 l D cy aX st hJX H.size y1 y2 hfX) (cwV 2 (fun w h => hts0 w (gw_X11_had w h)) gx_X11_had rfl rfl rfl (by decide +kernel) ⟨Nat.le_of_ble_eq_true rfl, Nat.le_of_ble_eq_true rfl⟩) 0 11 rfl rfl rfl hl.1 rfl (Nat.le_of_ble_eq_true rfl) dL_law_1695 hfit (fun H1 locs1 hP1 hkeep hS1 => ?_)
  have hPM1 := hkeep _ hPM (fun k q hq => hdis _ (VM_mem hq))
  have hPo1 := hkeep _ hPo (fun k q hq => by rw [oat hq]; exact hoX)
  have hIX1 : IX uA := hqX.1.1
  have hFX := hqX.1.2
  have hTX := hqX.1.2.2.2.2.2
  have hfrX := hqX.1.2.1
  have hrwX := hqX.1.2.2.1
  clear hPX hPM hPo hS hkeep
  have hPX := hP1
  have hPM := hPM1
  have hPo := hPo1
  have hS := hS1
  clear hP1 hPM1 hPo1 hS1 hqX
  generalize H1 = H at hPX hPo hPM hS ⊢
  generalize locs1 = locs at hS ⊢
  refine lv_pop hx hb dL_law_1698 rfl ?_
  refine lv_aload_n hx hb dL_law_1699 rfl (lv_at hl 2 rfl) ?_
  refine lv_aload_n hx hb dL_law_1700 rfl (lv_at hl 0 rfl) ?_
  refine lv_iload hx hb dL_law_1701 (lv_at hl 4 rfl) ?_
  refine lv_iconst (v := 1) hx hb dL_law_1703 (by decide) ?_
  refine lv_iadd hx hb dL_law_1704 ?_
  refine sld9 (v := y1) hx hb hX hbl hbA hS hin1 hy1 dL_law_1705 ?_
  refine lv_aload_n hx hb dL_law_1706 rfl (lv_at hl 0 rfl) ?_
  refine lv_iload hx hb dL_law_1707 (lv_at hl 4 rfl) ?_
  refine lv_iconst (v := 2) hx hb dL_law_1709 (by decide) ?_
  refine lv_iadd hx hb dL_law_1710 ?_
  refine sld9 (v := y2) hx hb hX hbl hbA hS hin2 hy2 dL_law_1711 ?_
  obtain ⟨⟨rM, vA⟩, hfM, hqM⟩ := tfX12_had_0 y1 y2 v hIM
  refine lg_i (V := VM cy aM st) (Ad := AM aM) (As := [.int y1, .int y2]) (rest := []) ⟨hx, hb, hml, hown, fun w h => hts0 w (gw_X12_had w h)⟩ hA0 hK hPM hS (fun q h => h.elim (hAM q) (fun z => Nat.le_trans hS.1 z)) (metX12_had_0 l D cy aM st hJM H.size y1 y2 hfM) (cwV 2 (fun w h => hts0 w (gw_X12_had w h)) gx_X12_had rfl rfl rfl (by decide +kernel) ⟨Nat.le_of_ble_eq_true rfl, Nat.le_of_ble_eq_true rfl⟩) 0 12 rfl rfl rfl hl.1 rfl (Nat.le_of_ble_eq_true rfl) dL_law_1712 hfit (fun H1 locs1 hP1 hkeep hS1 => ?_)
  have hPX1 := hkeep _ hPX (fun k q hq hz => hdis _ hz ⟨k, (VX_adr hq).1⟩)
  have hPo1 := hkeep _ hPo (fun k q hq => by rw [oat hq]; exact hoM)
  have hEv1 : EvM vA := EvM_fr (hqM.1.2.1 13 (by decide)) (hqM.1.2.1 14 (by decide)) (hqM.1.2.1 21 (by decide)) (hqM.1.2.2.1 33 (by decide)) hEv
  have htie1 : Tie uA vA := Tie_fr hfrX hqM.1.2.1 (by decide) htie
  have hrow1 : TieR uA vA := TieR_fr (hfrX 36 (by decide)) (hrwX 63 (by decide)) (hrwX 64 (by decide)) (hrwX 65 (by decide)) (hqM.1.2.2.1 36 (by decide)) (hqM.1.2.2.1 37 (by decide)) (hqM.1.2.2.1 38 (by decide)) hrow
  have htape1 : TieT uA vA := TieT_fr (hfrX 1 (by decide)) (hrwX 13 (by decide)) (hqM.1.2.1 3 (by decide)) (hqM.1.2.2.1 1 (by decide)) htape
  have hcnt1 : TieC uA vA := TieC_fr (hfrX 5 (by decide)) (hfrX 6 (by decide)) (hfrX 7 (by decide)) (hqM.1.2.2.1 4 (by decide)) hcnt
  have hpar1 : TieP uA vA := TieP_fr (hfrX 8 (by decide)) (hfrX 29 (by decide)) (hfrX 9 (by decide)) (hfrX 0 (by decide)) (hrwX 52 (by decide)) (hqM.1.2.1 12 (by decide)) (hqM.1.2.1 21 (by decide)) (hqM.1.2.1 14 (by decide)) (hqM.1.2.2.1 33 (by decide)) hpar
  have hspn1 : TieS uA vA := TieS_fr hfrX hrwX hqM.1.2.1 hqM.1.2.2.1 (by decide) hspn
  have hcx1 : CX uA := CX_fr2 hfrX hrwX (by decide) hcx
  have hval1 : TieV uA vA := TieV_fr (hfrX 5 (by decide)) (hfrX 6 (by decide)) (hfrX 7 (by decide)) hTX (hqM.1.2.2.1 2 (by decide)) (hqM.1.2.2.1 3 (by decide)) hval
  have hpl1 : PL uA := PL_fr (hfrX 8 (by decide)) (hfrX 5 (by decide)) (hrwX 24 (by decide)) hpl
  have hgag1 : TieG uA vA := TieG_fr hfrX hrwX hqM.1.2.2.1 (by decide) hgag
  have hcw1 : CW uA := CW_md hFX (by decide) (by decide) hcw
  have hck1 : CK uA := CK_md hFX (by decide) (by decide) hck
  have hwg1 : WG uA := WG_fr (hfrX 13 (by decide)) (hrwX 36 (by decide)) hwg
  have hdn1 : TieD uA vA := TieD_fr (hfrX 29 (by decide)) (hrwX 52 (by decide)) (hqM.1.2.1 13 (by decide)) (hqM.1.2.2.1 11 (by decide)) (hqM.1.2.2.1 15 (by decide)) hdn
  have hIM1 : IM vA := hqM.1.1
  clear hPX hPM hPo hS hIM hEv htie hrow htape hcnt hpar hspn hcx hval hpl hgag hcw hck hwg hdn hkeep hfrX hrwX hIX
  have hPX := hPX1
  have hPM := hP1
  have hPo := hPo1
  have hS := hS1
  have hIM := hIM1
  have hEv := hEv1
  have htie := htie1
  have hrow := hrow1
  have htape := htape1
  have hcnt := hcnt1
  have hpar := hpar1
  have hspn := hspn1
  have hcx := hcx1
  have hval := hval1
  have hpl := hpl1
  have hgag := hgag1
  have hcw := hcw1
  have hck := hck1
  have hwg := hwg1
  have hdn := hdn1
  have hIX := hIX1
  clear hIX1
  clear hP1 hPX1 hPo1 hS1 hIM1 hEv1 htie1 hrow1 htape1 hcnt1 hpar1 hspn1 hcx1 hval1 hpl1 hgag1 hcw1 hck1 hwg1 hdn1 hqM
  generalize H1 = H at hPX hPo hPM hS ⊢
  generalize locs1 = locs at hS ⊢
  refine lv_pop hx hb dL_law_1715 rfl ?_
  refine lv_goto (tgt := 1958) hx hb dL_law_1716 (by decide) ?_
  refine W.widen (k := cells + 2) (n := slots + 122) (Nat.le_add_right _ _) (Nat.le_add_right _ _) ?_
  exact kk aX uA vA f H locs ls ⟨rfl, hJX, hAX, hdis, hoX, hPX, hPM, hPo, hS, hIX, hIM, hEv, htie, hrow, htape, hcnt, hpar, hspn, hcx, hval, hpl, hgag, hcw, hck, hwg, hdn⟩ hl
