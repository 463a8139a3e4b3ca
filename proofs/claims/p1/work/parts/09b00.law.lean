theorem dL_law_204 : decode cL_law 204 = .ok (.aload_n 1, 1) := by decide +kernel
theorem dL_law_205 : decode cL_law 205 = .ok (.aload_n 0, 1) := by decide +kernel
theorem dL_law_206 : decode cL_law 206 = .ok (.iload 4, 2) := by decide +kernel
theorem dL_law_208 : decode cL_law 208 = .ok (.iconst 1, 1) := by decide +kernel
theorem dL_law_209 : decode cL_law 209 = .ok (.iadd, 1) := by decide +kernel
theorem dL_law_210 : decode cL_law 210 = .ok (.iaload, 1) := by decide +kernel
set_option maxRecDepth 20000 in
theorem ggL_law_X11_days : GoodIn wsL_law wsX11_days := goodIn_r _ [236, 56, 237, 238, 2, 239, 1449, 1450, 1451, 1452, 1453, 1454, 1455, 1456, 1457, 1458, 1459, 1460, 1461] (by decide +kernel) (by decide +kernel)
set_option maxRecDepth 20000 in
theorem gL_law_X11_days : GoodIn wsL_law (wsV RL 19 RX11 yX11_days wsX11_days) := goodIn_app (goodIn_of _ (by decide +kernel)) ggL_law_X11_days
theorem dL_law_211 : decode cL_law 211 = .ok (.invokevirtual 19, 3) := by decide +kernel
theorem dL_law_214 : decode cL_law 214 = .ok (.aload_n 2, 1) := by decide +kernel
theorem dL_law_215 : decode cL_law 215 = .ok (.aload_n 0, 1) := by decide +kernel
theorem dL_law_216 : decode cL_law 216 = .ok (.iload 4, 2) := by decide +kernel
theorem dL_law_218 : decode cL_law 218 = .ok (.iconst 1, 1) := by decide +kernel
theorem dL_law_219 : decode cL_law 219 = .ok (.iadd, 1) := by decide +kernel
theorem dL_law_220 : decode cL_law 220 = .ok (.iaload, 1) := by decide +kernel
set_option maxRecDepth 20000 in
theorem ggL_law_X12_days : GoodIn wsL_law wsX12_days := goodIn_r _ [243, 244, 245, 246, 247, 5, 248, 1462, 1463, 1464, 1465, 1466, 1467, 1468, 1469, 1470, 1471, 1472, 1473, 1474, 1475, 1476, 1477, 1478, 1479, 1480, 1481, 1482, 1483, 1484, 1485, 1486, 1487, 1488, 1489, 1490, 1491, 1492, 1493, 1494, 1495, 1496, 1497, 1498, 1499, 1500, 1501, 1502, 1503, 1504, 1505, 1506, 1507, 1508, 1509, 1510, 1511, 1512, 1513, 1514, 1515, 1516, 1517, 1518, 1519, 1520, 1521, 1522, 1523, 1524, 1525, 1526, 1527, 1528, 1529, 1530] (by decide +kernel) (by decide +kernel)
set_option maxRecDepth 20000 in
theorem gL_law_X12_days : GoodIn wsL_law (wsV RL 23 RX12 yX12_days wsX12_days) := goodIn_app (goodIn_of _ (by decide +kernel)) ggL_law_X12_days
theorem dL_law_221 : decode cL_law 221 = .ok (.invokevirtual 23, 3) := by decide +kernel
theorem dL_law_224 : decode cL_law 224 = .ok (.if_icmp .eq 1734, 3) := by decide +kernel
set_option maxHeartbeats 4000000 in
set_option maxRecDepth 100000 in
theorem case_0 {p : Program} {e : Env} {s : State} {m : MethodId} {below : List Frame} {meth : Method} {c : Code} (l : Launch) {b : Nat} {xs : Nat → Int32} {D : va_G} {cy : Nat → ClassId} {st aX aM : Nat → Nat} {o : Nat} {H : Heap} {locs : List Loc} {ls : Array Slot} (hW : LW p s m meth c b xs D cy st aX aM o H locs) (hl : lv_has ls 7 [(0, .ref b), (1, .ref (aX 0)), (2, .ref (aM 0)), (3, .ref o), (4, .int 0)]) : W p l e room_1 s m #[Value.ref b] below meth c H locs 118 17833 (lw_Z below #[Value.ref b] s) (F0 m 204 ls []) := by
  obtain ⟨C0, hK, hJX, hJM, hAX, hAM, hdis, hPX, hPM, hS⟩ := hW
  obtain ⟨hx, hb, hr, hml, hown, hts0, hX, hbl, hlocks, hgv⟩ := C0
  have hts : ∀ w ∈ wsL_law, w.before #[Value.ref b] s = true := fun w h => hts0 w (wsL_law_in w h)
  have hbA : ¬ (fun q : Nat => s.heap.size ≤ q) b := Nat.not_le.mpr hbl
  obtain ⟨y1, hy1⟩ : ∃ y, xs ((0 : Int32) + 1).toNatClampNeg = y := ⟨_, rfl⟩
  refine lv_aload_n hx hb dL_law_204 rfl (lv_at hl 1 rfl) ?_
  refine lv_aload_n hx hb dL_law_205 rfl (lv_at hl 0 rfl) ?_
  refine lv_iload hx hb dL_law_206 (lv_at hl 4 rfl) ?_
  refine lv_iconst (v := 1) hx hb dL_law_208 (by decide) ?_
  refine lv_iadd hx hb dL_law_209 ?_
  refine sld9 (v := y1) hx hb hX hbl hbA hS (by show ¬ _; decide) hy1 dL_law_210 ?_
  obtain ⟨r, uA, uB, hfX, hfM⟩ := agr_ex (pf_days y1)
  refine lg_i (V := VX cy aX st) (Ad := AX aX) (As := [.int y1]) (rest := []) ⟨hx, hb, hml, hown, hts⟩ hK hPX hS (fun q h => h.elim (hAX q) (fun z => Nat.le_trans hS.1 z)) (metX11_days_0 l D cy aX st hJX H.size y1 hfX) (cwV 1 hts gL_law_X11_days rfl rfl rfl (by decide +kernel) ⟨Nat.le_of_ble_eq_true rfl, Nat.le_of_ble_eq_true rfl⟩) 0 11 rfl rfl rfl hl.1 rfl (Nat.le_of_ble_eq_true rfl) dL_law_211 ⟨Nat.le_of_ble_eq_true rfl, Nat.le_of_ble_eq_true rfl⟩ (fun H locs hPX hkeep hS => ?_)
  have hPM := hkeep _ hPM (fun k q hq => hdis _ (VM_mem hq))
  refine lv_aload_n hx hb dL_law_214 rfl (lv_at hl 2 rfl) ?_
  refine lv_aload_n hx hb dL_law_215 rfl (lv_at hl 0 rfl) ?_
  refine lv_iload hx hb dL_law_216 (lv_at hl 4 rfl) ?_
  refine lv_iconst (v := 1) hx hb dL_law_218 (by decide) ?_
  refine lv_iadd hx hb dL_law_219 ?_
  refine sld9 (v := y1) hx hb hX hbl hbA hS (by show ¬ _; decide) hy1 dL_law_220 ?_
  refine lg_i (V := VM cy aM st) (Ad := AM aM) (As := [.int y1]) (rest := [.int r]) ⟨hx, hb, hml, hown, hts⟩ hK hPM hS (fun q h => h.elim (hAM q) (fun z => Nat.le_trans hS.1 z)) (metX12_days_0 l D cy aM st hJM _ y1 hfM) (cwV 1 hts gL_law_X12_days rfl rfl rfl (by decide +kernel) ⟨Nat.le_of_ble_eq_true rfl, Nat.le_of_ble_eq_true rfl⟩) 0 12 rfl rfl rfl hl.1 rfl (Nat.le_of_ble_eq_true rfl) dL_law_221 ⟨Nat.le_of_ble_eq_true rfl, Nat.le_of_ble_eq_true rfl⟩ (fun H locs hPM hkeep hS => ?_)
  refine lv_icmp_eq (tgt := 1958) hx hb dL_law_224 (by decide) (fun _ => ?_) (fun h => absurd rfl h)
  exact law_end l (by decide) (by decide) hx hb hr hlocks hX hbl hbA hS hl
theorem dL_law_229 : decode cL_law 229 = .ok (.aload_n 1, 1) := by decide +kernel
theorem dL_law_230 : decode cL_law 230 = .ok (.aload_n 0, 1) := by decide +kernel
theorem dL_law_231 : decode cL_law 231 = .ok (.iload 4, 2) := by decide +kernel
theorem dL_law_233 : decode cL_law 233 = .ok (.iconst 1, 1) := by decide +kernel
theorem dL_law_234 : decode cL_law 234 = .ok (.iadd, 1) := by decide +kernel
theorem dL_law_235 : decode cL_law 235 = .ok (.iaload, 1) := by decide +kernel
theorem dL_law_236 : decode cL_law 236 = .ok (.aload_n 0, 1) := by decide +kernel
theorem dL_law_237 : decode cL_law 237 = .ok (.iload 4, 2) := by decide +kernel
theorem dL_law_239 : decode cL_law 239 = .ok (.iconst 2, 1) := by decide +kernel
theorem dL_law_240 : decode cL_law 240 = .ok (.iadd, 1) := by decide +kernel
theorem dL_law_241 : decode cL_law 241 = .ok (.iaload, 1) := by decide +kernel
theorem dL_law_242 : decode cL_law 242 = .ok (.aload_n 0, 1) := by decide +kernel
theorem dL_law_243 : decode cL_law 243 = .ok (.iload 4, 2) := by decide +kernel
theorem dL_law_245 : decode cL_law 245 = .ok (.iconst 3, 1) := by decide +kernel
theorem dL_law_246 : decode cL_law 246 = .ok (.iadd, 1) := by decide +kernel
theorem dL_law_247 : decode cL_law 247 = .ok (.iaload, 1) := by decide +kernel
theorem dL_law_248 : decode cL_law 248 = .ok (.aload_n 0, 1) := by decide +kernel
theorem dL_law_249 : decode cL_law 249 = .ok (.iload 4, 2) := by decide +kernel
theorem dL_law_251 : decode cL_law 251 = .ok (.iconst 4, 1) := by decide +kernel
theorem dL_law_252 : decode cL_law 252 = .ok (.iadd, 1) := by decide +kernel
theorem dL_law_253 : decode cL_law 253 = .ok (.iaload, 1) := by decide +kernel
theorem dL_law_254 : decode cL_law 254 = .ok (.aload_n 0, 1) := by decide +kernel
theorem dL_law_255 : decode cL_law 255 = .ok (.iload 4, 2) := by decide +kernel
theorem dL_law_257 : decode cL_law 257 = .ok (.iconst 5, 1) := by decide +kernel
theorem dL_law_258 : decode cL_law 258 = .ok (.iadd, 1) := by decide +kernel
theorem dL_law_259 : decode cL_law 259 = .ok (.iaload, 1) := by decide +kernel
set_option maxRecDepth 20000 in
theorem ggL_law_X11_feed : GoodIn wsL_law wsX11_feed := goodIn_r _ [252, 17, 253, 254, 255, 16, 256, 257, 258, 259, 260, 261, 62, 1449, 1450, 1451, 1452, 1453, 1454, 1455, 1456, 1457, 1458, 1459, 1460, 1461, 1531, 1532] (by decide +kernel) (by decide +kernel)
set_option maxRecDepth 20000 in
theorem gL_law_X11_feed : GoodIn wsL_law (wsV RL 24 RX11 yX11_feed wsX11_feed) := goodIn_app (goodIn_of _ (by decide +kernel)) ggL_law_X11_feed
theorem dL_law_260 : decode cL_law 260 = .ok (.invokevirtual 24, 3) := by decide +kernel
theorem dL_law_263 : decode cL_law 263 = .ok (.aload_n 2, 1) := by decide +kernel
theorem dL_law_264 : decode cL_law 264 = .ok (.aload_n 0, 1) := by decide +kernel
theorem dL_law_265 : decode cL_law 265 = .ok (.iload 4, 2) := by decide +kernel
theorem dL_law_267 : decode cL_law 267 = .ok (.iconst 1, 1) := by decide +kernel
theorem dL_law_268 : decode cL_law 268 = .ok (.iadd, 1) := by decide +kernel
theorem dL_law_269 : decode cL_law 269 = .ok (.iaload, 1) := by decide +kernel
theorem dL_law_270 : decode cL_law 270 = .ok (.aload_n 0, 1) := by decide +kernel
theorem dL_law_271 : decode cL_law 271 = .ok (.iload 4, 2) := by decide +kernel
theorem dL_law_273 : decode cL_law 273 = .ok (.iconst 2, 1) := by decide +kernel
theorem dL_law_274 : decode cL_law 274 = .ok (.iadd, 1) := by decide +kernel
theorem dL_law_275 : decode cL_law 275 = .ok (.iaload, 1) := by decide +kernel
theorem dL_law_276 : decode cL_law 276 = .ok (.aload_n 0, 1) := by decide +kernel
theorem dL_law_277 : decode cL_law 277 = .ok (.iload 4, 2) := by decide +kernel
theorem dL_law_279 : decode cL_law 279 = .ok (.iconst 3, 1) := by decide +kernel
theorem dL_law_280 : decode cL_law 280 = .ok (.iadd, 1) := by decide +kernel
theorem dL_law_281 : decode cL_law 281 = .ok (.iaload, 1) := by decide +kernel
theorem dL_law_282 : decode cL_law 282 = .ok (.aload_n 0, 1) := by decide +kernel
theorem dL_law_283 : decode cL_law 283 = .ok (.iload 4, 2) := by decide +kernel
theorem dL_law_285 : decode cL_law 285 = .ok (.iconst 4, 1) := by decide +kernel
theorem dL_law_286 : decode cL_law 286 = .ok (.iadd, 1) := by decide +kernel
theorem dL_law_287 : decode cL_law 287 = .ok (.iaload, 1) := by decide +kernel
theorem dL_law_288 : decode cL_law 288 = .ok (.aload_n 0, 1) := by decide +kernel
theorem dL_law_289 : decode cL_law 289 = .ok (.iload 4, 2) := by decide +kernel
theorem dL_law_291 : decode cL_law 291 = .ok (.iconst 5, 1) := by decide +kernel
theorem dL_law_292 : decode cL_law 292 = .ok (.iadd, 1) := by decide +kernel
theorem dL_law_293 : decode cL_law 293 = .ok (.iaload, 1) := by decide +kernel
set_option maxRecDepth 20000 in
theorem ggL_law_X12_feed : GoodIn wsL_law wsX12_feed := goodIn_r _ [265, 244, 266, 267, 268, 5, 269, 270, 271, 272, 273, 188, 1462, 1463, 1464, 1465, 1466, 1467, 1468, 1469, 1470, 1471, 1472, 1473, 1474, 1475, 1476, 1477, 1478, 1479, 1480, 1481, 1482, 1483, 1484, 1485, 1486, 1487, 1488, 1489, 1490, 1491, 1492, 1493, 1494, 1495, 1496, 1497, 1498, 1499, 1500, 1501, 1502, 1503, 1504, 1505, 1506, 1507, 1508, 1509, 1510, 1511, 1512, 1513, 1514, 1515, 1516, 1517, 1518, 1519, 1520, 1521, 1522, 1523, 1524, 1525, 1526, 1527, 1528, 1529, 1530] (by decide +kernel) (by decide +kernel)
set_option maxRecDepth 20000 in
theorem gL_law_X12_feed : GoodIn wsL_law (wsV RL 28 RX12 yX12_feed wsX12_feed) := goodIn_app (goodIn_of _ (by decide +kernel)) ggL_law_X12_feed
theorem dL_law_294 : decode cL_law 294 = .ok (.invokevirtual 28, 3) := by decide +kernel
theorem dL_law_297 : decode cL_law 297 = .ok (.if_icmp .eq 1661, 3) := by decide +kernel
set_option maxHeartbeats 4000000 in
set_option maxRecDepth 100000 in
theorem case_1 {p : Program} {e : Env} {s : State} {m : MethodId} {below : List Frame} {meth : Method} {c : Code} (l : Launch) {b : Nat} {xs : Nat → Int32} {D : va_G} {cy : Nat → ClassId} {st aX aM : Nat → Nat} {o : Nat} {H : Heap} {locs : List Loc} {ls : Array Slot} (hW : LW p s m meth c b xs D cy st aX aM o H locs) (hl : lv_has ls 7 [(0, .ref b), (1, .ref (aX 0)), (2, .ref (aM 0)), (3, .ref o), (4, .int 0)]) : W p l e room_1 s m #[Value.ref b] below meth c H locs 118 17833 (lw_Z below #[Value.ref b] s) (F0 m 229 ls []) := by
  obtain ⟨C0, hK, hJX, hJM, hAX, hAM, hdis, hPX, hPM, hS⟩ := hW
  obtain ⟨hx, hb, hr, hml, hown, hts0, hX, hbl, hlocks, hgv⟩ := C0
  have hts : ∀ w ∈ wsL_law, w.before #[Value.ref b] s = true := fun w h => hts0 w (wsL_law_in w h)
  have hbA : ¬ (fun q : Nat => s.heap.size ≤ q) b := Nat.not_le.mpr hbl
  obtain ⟨y1, hy1⟩ : ∃ y, xs ((0 : Int32) + 1).toNatClampNeg = y := ⟨_, rfl⟩
  obtain ⟨y2, hy2⟩ : ∃ y, xs ((0 : Int32) + 2).toNatClampNeg = y := ⟨_, rfl⟩
  obtain ⟨y3, hy3⟩ : ∃ y, xs ((0 : Int32) + 3).toNatClampNeg = y := ⟨_, rfl⟩
  obtain ⟨y4, hy4⟩ : ∃ y, xs ((0 : Int32) + 4).toNatClampNeg = y := ⟨_, rfl⟩
  obtain ⟨y5, hy5⟩ : ∃ y, xs ((0 : Int32) + 5).toNatClampNeg = y := ⟨_, rfl⟩
  refine lv_aload_n hx hb dL_law_229 rfl (lv_at hl 1 rfl) ?_
  refine lv_aload_n hx hb dL_law_230 rfl (lv_at hl 0 rfl) ?_
  refine lv_iload hx hb dL_law_231 (lv_at hl 4 rfl) ?_
  refine lv_iconst (v := 1) hx hb dL_law_233 (by decide) ?_
  refine lv_iadd hx hb dL_law_234 ?_
  refine sld9 (v := y1) hx hb hX hbl hbA hS (by show ¬ _; decide) hy1 dL_law_235 ?_
  refine lv_aload_n hx hb dL_law_236 rfl (lv_at hl 0 rfl) ?_
  refine lv_iload hx hb dL_law_237 (lv_at hl 4 rfl) ?_
  refine lv_iconst (v := 2) hx hb dL_law_239 (by decide) ?_
  refine lv_iadd hx hb dL_law_240 ?_
  refine sld9 (v := y2) hx hb hX hbl hbA hS (by show ¬ _; decide) hy2 dL_law_241 ?_
  refine lv_aload_n hx hb dL_law_242 rfl (lv_at hl 0 rfl) ?_
  refine lv_iload hx hb dL_law_243 (lv_at hl 4 rfl) ?_
  refine lv_iconst (v := 3) hx hb dL_law_245 (by decide) ?_
  refine lv_iadd hx hb dL_law_246 ?_
  refine sld9 (v := y3) hx hb hX hbl hbA hS (by show ¬ _; decide) hy3 dL_law_247 ?_
  refine lv_aload_n hx hb dL_law_248 rfl (lv_at hl 0 rfl) ?_
  refine lv_iload hx hb dL_law_249 (lv_at hl 4 rfl) ?_
  refine lv_iconst (v := 4) hx hb dL_law_251 (by decide) ?_
  refine lv_iadd hx hb dL_law_252 ?_
  refine sld9 (v := y4) hx hb hX hbl hbA hS (by show ¬ _; decide) hy4 dL_law_253 ?_
  refine lv_aload_n hx hb dL_law_254 rfl (lv_at hl 0 rfl) ?_
  refine lv_iload hx hb dL_law_255 (lv_at hl 4 rfl) ?_
  refine lv_iconst (v := 5) hx hb dL_law_257 (by decide) ?_
  refine lv_iadd hx hb dL_law_258 ?_
  refine sld9 (v := y5) hx hb hX hbl hbA hS (by show ¬ _; decide) hy5 dL_law_259 ?_
  obtain ⟨r, uA, uB, hfX, hfM⟩ := agr_ex (pf_feed y1 y2 y3 y4 y5)
  refine lg_i (V := VX cy aX st) (Ad := AX aX) (As := [.int y1, .int y2, .int y3, .int y4, .int y5]) (rest := []) ⟨hx, hb, hml, hown, hts⟩ hK hPX hS (fun q h => h.elim (hAX q) (fun z => Nat.le_trans hS.1 z)) (metX11_feed_0 l D cy aX st hJX H.size y1 y2 y3 y4 y5 hfX) (cwV 5 hts gL_law_X11_feed rfl rfl rfl (by decide +kernel) ⟨Nat.le_of_ble_eq_true rfl, Nat.le_of_ble_eq_true rfl⟩) 0 11 rfl rfl rfl hl.1 rfl (Nat.le_of_ble_eq_true rfl) dL_law_260 ⟨Nat.le_of_ble_eq_true rfl, Nat.le_of_ble_eq_true rfl⟩ (fun H locs hPX hkeep hS => ?_)
  have hPM := hkeep _ hPM (fun k q hq => hdis _ (VM_mem hq))
  refine lv_aload_n hx hb dL_law_263 rfl (lv_at hl 2 rfl) ?_
  refine lv_aload_n hx hb dL_law_264 rfl (lv_at hl 0 rfl) ?_
  refine lv_iload hx hb dL_law_265 (lv_at hl 4 rfl) ?_
  refine lv_iconst (v := 1) hx hb dL_law_267 (by decide) ?_
  refine lv_iadd hx hb dL_law_268 ?_
  refine sld9 (v := y1) hx hb hX hbl hbA hS (by show ¬ _; decide) hy1 dL_law_269 ?_
  refine lv_aload_n hx hb dL_law_270 rfl (lv_at hl 0 rfl) ?_
  refine lv_iload hx hb dL_law_271 (lv_at hl 4 rfl) ?_
  refine lv_iconst (v := 2) hx hb dL_law_273 (by decide) ?_
  refine lv_iadd hx hb dL_law_274 ?_
  refine sld9 (v := y2) hx hb hX hbl hbA hS (by show ¬ _; decide) hy2 dL_law_275 ?_
  refine lv_aload_n hx hb dL_law_276 rfl (lv_at hl 0 rfl) ?_
  refine lv_iload hx hb dL_law_277 (lv_at hl 4 rfl) ?_
  refine lv_iconst (v := 3) hx hb dL_law_279 (by decide) ?_
  refine lv_iadd hx hb dL_law_280 ?_
  refine sld9 (v := y3) hx hb hX hbl hbA hS (by show ¬ _; decide) hy3 dL_law_281 ?_
  refine lv_aload_n hx hb dL_law_282 rfl (lv_at hl 0 rfl) ?_
  refine lv_iload hx hb dL_law_283 (lv_at hl 4 rfl) ?_
  refine lv_iconst (v := 4) hx hb dL_law_285 (by decide) ?_
  refine lv_iadd hx hb dL_law_286 ?_
  refine sld9 (v := y4) hx hb hX hbl hbA hS (by show ¬ _; decide) hy4 dL_law_287 ?_
  refine lv_aload_n hx hb dL_law_288 rfl (lv_at hl 0 rfl) ?_
  refine lv_iload hx hb dL_law_289 (lv_at hl 4 rfl) ?_
  refine lv_iconst (v := 5) hx hb dL_law_291 (by decide) ?_
  refine lv_iadd hx hb dL_law_292 ?_
  refine sld9 (v := y5) hx hb hX hbl hbA hS (by show ¬ _; decide) hy5 dL_law_293 ?_
  refine lg_i (V := VM cy aM st) (Ad := AM aM) (As := [.int y1, .int y2, .int y3, .int y4, .int y5]) (rest := [.int r]) ⟨hx, hb, hml, hown, hts⟩ hK hPM hS (fun q h => h.elim (hAM q) (fun z => Nat.le_trans hS.1 z)) (metX12_feed_0 l D cy aM st hJM _ y1 y2 y3 y4 y5 hfM) (cwV 5 hts gL_law_X12_feed rfl rfl rfl (by decide +kernel) ⟨Nat.le_of_ble_eq_true rfl, Nat.le_of_ble_eq_true rfl⟩) 0 12 rfl rfl rfl hl.1 rfl (Nat.le_of_ble_eq_true rfl) dL_law_294 ⟨Nat.le_of_ble_eq_true rfl, Nat.le_of_ble_eq_true rfl⟩ (fun H locs hPM hkeep hS => ?_)
  refine lv_icmp_eq (tgt := 1958) hx hb dL_law_297 (by decide) (fun _ => ?_) (fun h => absurd rfl h)
  exact law_end l (by decide) (by decide) hx hb hr hlocks hX hbl hbA hS hl
theorem dL_law_302 : decode cL_law 302 = .ok (.aload_n 1, 1) := by decide +kernel
theorem dL_law_303 : decode cL_law 303 = .ok (.aload_n 0, 1) := by decide +kernel
theorem dL_law_304 : decode cL_law 304 = .ok (.iload 4, 2) := by decide +kernel
theorem dL_law_306 : decode cL_law 306 = .ok (.iconst 1, 1) := by decide +kernel
theorem dL_law_307 : decode cL_law 307 = .ok (.iadd, 1) := by decide +kernel
theorem dL_law_308 : decode cL_law 308 = .ok (.iaload, 1) := by decide +kernel
set_option maxRecDepth 20000 in
theorem ggL_law_X11_end : GoodIn wsL_law wsX11_end := goodIn_r _ [277, 17, 253, 237, 238, 2, 239, 1449, 1450, 1451, 1452, 1453, 1454, 1455, 1456, 1457, 1458, 1459, 1460, 1461, 1531, 1532] (by decide +kernel) (by decide +kernel)
set_option maxRecDepth 20000 in
theorem gL_law_X11_end : GoodIn wsL_law (wsV RL 29 RX11 yX11_end wsX11_end) := goodIn_app (goodIn_of _ (by decide +kernel)) ggL_law_X11_end
theorem dL_law_309 : decode cL_law 309 = .ok (.invokevirtual 29, 3) := by decide +kernel
theorem dL_law_312 : decode cL_law 312 = .ok (.aload_n 2, 1) := by decide +kernel
theorem dL_law_313 : decode cL_law 313 = .ok (.aload_n 0, 1) := by decide +kernel
theorem dL_law_314 : decode cL_law 314 = .ok (.iload 4, 2) := by decide +kernel
theorem dL_law_316 : decode cL_law 316 = .ok (.iconst 1, 1) := by decide +kernel
theorem dL_law_317 : decode cL_law 317 = .ok (.iadd, 1) := by decide +kernel
theorem dL_law_318 : decode cL_law 318 = .ok (.iaload, 1) := by decide +kernel
set_option maxRecDepth 20000 in
theorem ggL_law_X12_end : GoodIn wsL_law wsX12_end := goodIn_r _ [281, 244, 266, 1462, 1463, 1464, 1465, 1466, 1467, 1468, 1469, 1470, 1471, 1472, 1473, 1474, 1475, 1476, 1477, 1478, 1479, 1480, 1481, 1482, 1483, 1484, 1485, 1486, 1487, 1488, 1489, 1490, 1491, 1492, 1493, 1494, 1495, 1496, 1497, 1498, 1499, 1500, 1501, 1502, 1503, 1504, 1505, 1506, 1507, 1508, 1509, 1510, 1511, 1512, 1513, 1514, 1515, 1516, 1517, 1518, 1519, 1520, 1521, 1522, 1523, 1524, 1525, 1526, 1527, 1528, 1529, 1530] (by decide +kernel) (by decide +kernel)
set_option maxRecDepth 20000 in
theorem gL_law_X12_end : GoodIn wsL_law (wsV RL 33 RX12 yX12_end wsX12_end) := goodIn_app (goodIn_of _ (by decide +kernel)) ggL_law_X12_end
theorem dL_law_319 : decode cL_law 319 = .ok (.invokevirtual 33, 3) := by decide +kernel
theorem dL_law_322 : decode cL_law 322 = .ok (.if_icmp .eq 1636, 3) := by decide +kernel
set_option maxHeartbeats 4000000 in
set_option maxRecDepth 100000 in
theorem case_2 {p : Program} {e : Env} {s : State} {m : MethodId} {below : List Frame} {meth : Method} {c : Code} (l : Launch) {b : Nat} {xs : Nat → Int32} {D : va_G} {cy : Nat → ClassId} {st aX aM : Nat → Nat} {o : Nat} {H : Heap} {locs : List Loc} {ls : Array Slot} (hW : LW p s m meth c b xs D cy st aX aM o H locs) (hl : lv_has ls 7 [(0, .ref b), (1, .ref (aX 0)), (2, .ref (aM 0)), (3, .ref o), (4, .int 0)]) : W p l e room_1 s m #[Value.ref b] below meth c H locs 118 17833 (lw_Z below #[Value.ref b] s) (F0 m 302 ls []) := by
  obtain ⟨C0, hK, hJX, hJM, hAX, hAM, hdis, hPX, hPM, hS⟩ := hW
  obtain ⟨hx, hb, hr, hml, hown, hts0, hX, hbl, hlocks, hgv⟩ := C0
  have hts : ∀ w ∈ wsL_law, w.before #[Value.ref b] s = true := fun w h => hts0 w (wsL_law_in w h)
  have hbA : ¬ (fun q : Nat => s.heap.size ≤ q) b := Nat.not_le.mpr hbl
  obtain ⟨y1, hy1⟩ : ∃ y, xs ((0 : Int32) + 1).toNatClampNeg = y := ⟨_, rfl⟩
  refine lv_aload_n hx hb dL_law_302 rfl (lv_at hl 1 rfl) ?_
  refine lv_aload_n hx hb dL_law_303 rfl (lv_at hl 0 rfl) ?_
  refine lv_iload hx hb dL_law_304 (lv_at hl 4 rfl) ?_
  refine lv_iconst (v := 1) hx hb dL_law_306 (by decide) ?_
  refine lv_iadd hx hb dL_law_307 ?_
  refine sld9 (v := y1) hx hb hX hbl hbA hS (by show ¬ _; decide) hy1 dL_law_308 ?_
  obtain ⟨r, uA, uB, hfX, hfM⟩ := agr_ex (pf_end y1)
  refine lg_i (V := VX cy aX st) (Ad := AX aX) (As := [.int y1]) (rest := []) ⟨hx, hb, hml, hown, hts⟩ hK hPX hS (fun q h => h.elim (hAX q) (fun z => Nat.le_trans hS.1 z)) (metX11_end_0 l D cy aX st hJX H.size y1 hfX) (cwV 1 hts gL_law_X11_end rfl rfl rfl (by decide +kernel) ⟨Nat.le_of_ble_eq_true rfl, Nat.le_of_ble_eq_true rfl⟩) 0 11 rfl rfl rfl hl.1 rfl (Nat.le_of_ble_eq_true rfl) dL_law_309 ⟨Nat.le_of_ble_eq_true rfl, Nat.le_of_ble_eq_true rfl⟩ (fun H locs hPX hkeep hS => ?_)
  have hPM := hkeep _ hPM (fun k q hq => hdis _ (VM_mem hq))
  refine lv_aload_n hx hb dL_law_312 rfl (lv_at hl 2 rfl) ?_
  refine lv_aload_n hx hb dL_law_313 rfl (lv_at hl 0 rfl) ?_
  refine lv_iload hx hb dL_law_314 (lv_at hl 4 rfl) ?_
  refine lv_iconst (v := 1) hx hb dL_law_316 (by decide) ?_
  refine lv_iadd hx hb dL_law_317 ?_
  refine sld9 (v := y1) hx hb hX hbl hbA hS (by show ¬ _; decide) hy1 dL_law_318 ?_
  refine lg_i (V := VM cy aM st) (Ad := AM aM) (As := [.int y1]) (rest := [.int r]) ⟨hx, hb, hml, hown, hts⟩ hK hPM hS (fun q h => h.elim (hAM q) (fun z => Nat.le_trans hS.1 z)) (metX12_end_0 l D cy aM st hJM _ y1 hfM) (cwV 1 hts gL_law_X12_end rfl rfl rfl (by decide +kernel) ⟨Nat.le_of_ble_eq_true rfl, Nat.le_of_ble_eq_true rfl⟩) 0 12 rfl rfl rfl hl.1 rfl (Nat.le_of_ble_eq_true rfl) dL_law_319 ⟨Nat.le_of_ble_eq_true rfl, Nat.le_of_ble_eq_true rfl⟩ (fun H locs hPM hkeep hS => ?_)
  refine lv_icmp_eq (tgt := 1958) hx hb dL_law_322 (by decide) (fun _ => ?_) (fun h => absurd rfl h)
  exact law_end l (by decide) (by decide) hx hb hr hlocks hX hbl hbA hS hl
theorem dL_law_327 : decode cL_law 327 = .ok (.aload_n 1, 1) := by decide +kernel
theorem dL_law_328 : decode cL_law 328 = .ok (.aload_n 0, 1) := by decide +kernel
theorem dL_law_329 : decode cL_law 329 = .ok (.iload 4, 2) := by decide +kernel
theorem dL_law_331 : decode cL_law 331 = .ok (.iconst 1, 1) := by decide +kernel
theorem dL_law_332 : decode cL_law 332 = .ok (.iadd, 1) := by decide +kernel
theorem dL_law_333 : decode cL_law 333 = .ok (.iaload, 1) := by decide +kernel
set_option maxRecDepth 20000 in
theorem ggL_law_X11_fault : GoodIn wsL_law wsX11_fault := goodIn_r _ [285, 21, 286, 287, 288, 289, 2, 290, 25, 26, 27, 291, 292, 293, 20, 294, 68, 295, 296, 69, 297, 298, 299, 300, 301, 302, 303, 304, 305, 306, 307, 308, 309, 310, 311, 312, 313, 314, 315, 316, 317, 318, 319, 320, 321, 67, 322, 323, 324, 325, 326, 327, 328, 329, 82, 330, 331, 332, 333, 334, 84, 335, 336, 337, 338, 89, 90, 339, 80, 81, 83, 85, 86, 87, 88, 340, 341, 342, 343, 344, 345, 346, 347, 348, 349, 350, 351, 352, 353, 354, 355, 356, 357, 358, 359, 360, 361, 362, 363, 364, 365, 366, 367, 368, 369, 370, 371, 372, 373, 374, 375, 376, 377, 378, 379, 380, 381, 382, 383, 384, 385, 386, 387, 388, 389, 390, 391, 392, 393, 394, 395, 396, 397, 398, 399, 400, 401, 402, 403, 404, 405, 406, 407, 408, 409, 410, 411, 412, 413, 414, 415, 1449, 1450, 1451, 1452, 1453, 1454, 1455, 1456, 1457, 1458, 1459, 1460, 1461, 1538, 1539, 1540, 1541, 1542, 1533, 1534, 1535, 1536, 1537, 1531, 1532] (by decide +kernel) (by decide +kernel)
set_option maxRecDepth 20000 in
theorem gL_law_X11_fault : GoodIn wsL_law (wsV RL 34 RX11 yX11_fault wsX11_fault) := goodIn_app (goodIn_of _ (by decide +kernel)) ggL_law_X11_fault
theorem dL_law_334 : decode cL_law 334 = .ok (.invokevirtual 34, 3) := by decide +kernel
theorem dL_law_337 : decode cL_law 337 = .ok (.aload_n 2, 1) := by decide +kernel
theorem dL_law_338 : decode cL_law 338 = .ok (.aload_n 0, 1) := by decide +kernel
theorem dL_law_339 : decode cL_law 339 = .ok (.iload 4, 2) := by decide +kernel
theorem dL_law_341 : decode cL_law 341 = .ok (.iconst 1, 1) := by decide +kernel
theorem dL_law_342 : decode cL_law 342 = .ok (.iadd, 1) := by decide +kernel
theorem dL_law_343 : decode cL_law 343 = .ok (.iaload, 1) := by decide +kernel
set_option maxRecDepth 20000 in
theorem ggL_law_X12_fault : GoodIn wsL_law wsX12_fault := goodIn_r _ [419, 244, 188, 266, 420, 246, 247, 5, 248, 421, 422, 423, 424, 193, 425, 426, 194, 427, 428, 429, 430, 431, 432, 433, 434, 435, 436, 437, 438, 439, 440, 441, 442, 443, 444, 445, 446, 447, 448, 449, 450, 451, 452, 453, 454, 455, 456, 457, 458, 459, 460, 461, 462, 463, 464, 465, 466, 467, 468, 469, 470, 471, 472, 346, 473, 474, 475, 476, 477, 192, 478, 328, 329, 82, 330, 331, 332, 333, 334, 84, 335, 336, 337, 338, 89, 90, 339, 80, 81, 83, 85, 86, 87, 88, 340, 341, 342, 343, 344, 345, 347, 348, 349, 350, 351, 352, 353, 354, 355, 356, 357, 358, 359, 360, 361, 362, 363, 364, 365, 366, 367, 368, 369, 370, 371, 372, 373, 374, 375, 376, 377, 378, 379, 380, 381, 382, 383, 384, 385, 386, 387, 388, 389, 390, 391, 392, 393, 394, 395, 396, 397, 398, 399, 400, 401, 402, 403, 404, 479, 480, 481, 482, 483, 484, 485, 486, 487, 488, 489, 490, 491, 492, 493, 494, 495, 496, 497, 1462, 1463, 1464, 1465, 1466, 1467, 1468, 1469, 1470, 1471, 1472, 1473, 1474, 1475, 1476, 1477, 1478, 1479, 1480, 1481, 1482, 1483, 1484, 1485, 1486, 1487, 1488, 1489, 1490, 1491, 1492, 1493, 1494, 1495, 1496, 1497, 1498, 1499, 1500, 1501, 1502, 1503, 1504, 1505, 1506, 1507, 1508, 1509, 1510, 1511, 1512, 1513, 1514, 1515, 1516, 1517, 1518, 1519, 1520, 1521, 1522, 1523, 1524, 1525, 1526, 1527, 1528, 1529, 1530] (by decide +kernel) (by decide +kernel)
set_option maxRecDepth 20000 in
theorem gL_law_X12_fault : GoodIn wsL_law (wsV RL 37 RX12 yX12_fault wsX12_fault) := goodIn_app (goodIn_of _ (by decide +kernel)) ggL_law_X12_fault
theorem dL_law_344 : decode cL_law 344 = .ok (.invokevirtual 37, 3) := by decide +kernel
theorem dL_law_347 : decode cL_law 347 = .ok (.if_icmp .eq 1611, 3) := by decide +kernel
set_option maxHeartbeats 4000000 in
set_option maxRecDepth 100000 in
theorem case_3 {p : Program} {e : Env} {s : State} {m : MethodId} {below : List Frame} {meth : Method} {c : Code} (l : Launch) {b : Nat} {xs : Nat → Int32} {D : va_G} {cy : Nat → ClassId} {st aX aM : Nat → Nat} {o : Nat} {H : Heap} {locs : List Loc} {ls : Array Slot} (hW : LW p s m meth c b xs D cy st aX aM o H locs) (hl : lv_has ls 7 [(0, .ref b), (1, .ref (aX 0)), (2, .ref (aM 0)), (3, .ref o), (4, .int 0)]) : W p l e room_1 s m #[Value.ref b] below meth c H locs 118 17833 (lw_Z below #[Value.ref b] s) (F0 m 327 ls []) := by
  obtain ⟨C0, hK, hJX, hJM, hAX, hAM, hdis, hPX, hPM, hS⟩ := hW
  obtain ⟨hx, hb, hr, hml, hown, hts0, hX, hbl, hlocks, hgv⟩ := C0
  have hts : ∀ w ∈ wsL_law, w.before #[Value.ref b] s = true := fun w h => hts0 w (wsL_law_in w h)
  have hbA : ¬ (fun q : Nat => s.heap.size ≤ q) b := Nat.not_le.mpr hbl
  obtain ⟨y1, hy1⟩ : ∃ y, xs ((0 : Int32) + 1).toNatClampNeg = y := ⟨_, rfl⟩
  refine lv_aload_n hx hb dL_law_327 rfl (lv_at hl 1 rfl) ?_
  refine lv_aload_n hx hb dL_law_328 rfl (lv_at hl 0 rfl) ?_
  refine lv_iload hx hb dL_law_329 (lv_at hl 4 rfl) ?_
  refine lv_iconst (v := 1) hx hb dL_law_331 (by decide) ?_
  refine lv_iadd hx hb dL_law_332 ?_
  refine sld9 (v := y1) hx hb hX hbl hbA hS (by show ¬ _; decide) hy1 dL_law_333 ?_
  obtain ⟨r, uA, uB, hfX, hfM⟩ := agr_ex (pf_fault y1)
  refine lg_i (V := VX cy aX st) (Ad := AX aX) (As := [.int y1]) (rest := []) ⟨hx, hb, hml, hown, hts⟩ hK hPX hS (fun q h => h.elim (hAX q) (fun z => Nat.le_trans hS.1 z)) (metX11_fault_0 l D cy aX st hJX H.size y1 hfX) (cwV 1 hts gL_law_X11_fault rfl rfl rfl (by decide +kernel) ⟨Nat.le_of_ble_eq_true rfl, Nat.le_of_ble_eq_true rfl⟩) 0 11 rfl rfl rfl hl.1 rfl (Nat.le_of_ble_eq_true rfl) dL_law_334 ⟨Nat.le_of_ble_eq_true rfl, Nat.le_of_ble_eq_true rfl⟩ (fun H locs hPX hkeep hS => ?_)
  have hPM := hkeep _ hPM (fun k q hq => hdis _ (VM_mem hq))
  refine lv_aload_n hx hb dL_law_337 rfl (lv_at hl 2 rfl) ?_
  refine lv_aload_n hx hb dL_law_338 rfl (lv_at hl 0 rfl) ?_
  refine lv_iload hx hb dL_law_339 (lv_at hl 4 rfl) ?_
  refine lv_iconst (v := 1) hx hb dL_law_341 (by decide) ?_
  refine lv_iadd hx hb dL_law_342 ?_
  refine sld9 (v := y1) hx hb hX hbl hbA hS (by show ¬ _; decide) hy1 dL_law_343 ?_
  refine lg_i (V := VM cy aM st) (Ad := AM aM) (As := [.int y1]) (rest := [.int r]) ⟨hx, hb, hml, hown, hts⟩ hK hPM hS (fun q h => h.elim (hAM q) (fun z => Nat.le_trans hS.1 z)) (metX12_fault_0 l D cy aM st hJM _ y1 hfM) (cwV 1 hts gL_law_X12_fault rfl rfl rfl (by decide +kernel) ⟨Nat.le_of_ble_eq_true rfl, Nat.le_of_ble_eq_true rfl⟩) 0 12 rfl rfl rfl hl.1 rfl (Nat.le_of_ble_eq_true rfl) dL_law_344 ⟨Nat.le_of_ble_eq_true rfl, Nat.le_of_ble_eq_true rfl⟩ (fun H locs hPM hkeep hS => ?_)
  refine lv_icmp_eq (tgt := 1958) hx hb dL_law_347 (by decide) (fun _ => ?_) (fun h => absurd rfl h)
  exact law_end l (by decide) (by decide) hx hb hr hlocks hX hbl hbA hS hl
theorem dL_law_352 : decode cL_law 352 = .ok (.aload_n 1, 1) := by decide +kernel
theorem dL_law_353 : decode cL_law 353 = .ok (.aload_n 0, 1) := by decide +kernel
theorem dL_law_354 : decode cL_law 354 = .ok (.iload 4, 2) := by decide +kernel
theorem dL_law_356 : decode cL_law 356 = .ok (.iconst 1, 1) := by decide +kernel
theorem dL_law_357 : decode cL_law 357 = .ok (.iadd, 1) := by decide +kernel
theorem dL_law_358 : decode cL_law 358 = .ok (.iaload, 1) := by decide +kernel
set_option maxRecDepth 20000 in
theorem ggL_law_X11_text : GoodIn wsL_law wsX11_text := goodIn_r _ [501, 21, 286, 17, 253, 287, 288, 289, 2, 290, 25, 26, 27, 502, 503, 504, 24, 505, 506, 77, 291, 292, 293, 20, 294, 68, 295, 296, 69, 297, 298, 299, 300, 301, 302, 303, 304, 305, 306, 307, 308, 309, 310, 311, 312, 313, 314, 315, 316, 317, 318, 319, 320, 321, 67, 322, 323, 324, 325, 326, 327, 328, 329, 82, 330, 331, 332, 333, 334, 84, 335, 336, 337, 338, 89, 90, 339, 80, 81, 83, 85, 86, 87, 88, 340, 341, 342, 343, 344, 345, 346, 347, 348, 349, 350, 351, 352, 353, 354, 355, 356, 357, 358, 359, 360, 361, 362, 363, 364, 365, 366, 367, 368, 369, 370, 371, 372, 373, 374, 375, 376, 377, 378, 379, 380, 381, 382, 383, 384, 385, 386, 387, 388, 389, 390, 391, 392, 393, 394, 395, 396, 397, 398, 399, 400, 401, 402, 403, 404, 405, 406, 407, 408, 409, 410, 411, 412, 413, 414, 415, 507, 508, 509, 510, 511, 512, 513, 514, 515, 123, 516, 517, 518, 519, 520, 521, 522, 61, 523, 524, 525, 526, 527, 528, 529, 530, 531, 12, 13, 532, 533, 534, 535, 536, 537, 1449, 1450, 1451, 1452, 1453, 1454, 1455, 1456, 1457, 1458, 1459, 1460, 1461, 1538, 1539, 1540, 1541, 1542, 1531, 1532, 1533, 1534, 1535, 1536, 1537, 1638] (by decide +kernel) (by decide +kernel)
set_option maxRecDepth 20000 in
theorem gL_law_X11_text : GoodIn wsL_law (wsV RL 38 RX11 yX11_text wsX11_text) := goodIn_app (goodIn_of _ (by decide +kernel)) ggL_law_X11_text
theorem dL_law_359 : decode cL_law 359 = .ok (.invokevirtual 38, 3) := by decide +kernel
theorem dL_law_362 : decode cL_law 362 = .ok (.aload_n 2, 1) := by decide +kernel
theorem dL_law_363 : decode cL_law 363 = .ok (.aload_n 0, 1) := by decide +kernel
theorem dL_law_364 : decode cL_law 364 = .ok (.iload 4, 2) := by decide +kernel
theorem dL_law_366 : decode cL_law 366 = .ok (.iconst 1, 1) := by decide +kernel
theorem dL_law_367 : decode cL_law 367 = .ok (.iadd, 1) := by decide +kernel
theorem dL_law_368 : decode cL_law 368 = .ok (.iaload, 1) := by decide +kernel
set_option maxRecDepth 20000 in
theorem ggL_law_X12_text : GoodIn wsL_law wsX12_text := goodIn_r _ [541, 244, 191, 188, 266, 420, 189, 190, 246, 247, 5, 248, 421, 422, 423, 424, 193, 425, 426, 194, 427, 428, 429, 430, 431, 432, 433, 434, 435, 436, 437, 438, 439, 440, 441, 442, 443, 444, 445, 446, 447, 448, 449, 450, 451, 452, 453, 454, 455, 456, 457, 458, 459, 460, 461, 462, 463, 464, 465, 466, 467, 468, 469, 470, 471, 472, 346, 473, 474, 475, 476, 477, 192, 478, 328, 329, 82, 330, 331, 332, 333, 334, 84, 335, 336, 337, 338, 89, 90, 339, 80, 81, 83, 85, 86, 87, 88, 340, 341, 342, 343, 344, 345, 347, 348, 349, 350, 351, 352, 353, 354, 355, 356, 357, 358, 359, 360, 361, 362, 363, 364, 365, 366, 367, 368, 369, 370, 371, 372, 373, 374, 375, 376, 377, 378, 379, 380, 381, 382, 383, 384, 385, 386, 387, 388, 389, 390, 391, 392, 393, 394, 395, 396, 397, 398, 399, 400, 401, 402, 403, 404, 479, 480, 481, 482, 483, 484, 485, 486, 487, 488, 489, 490, 491, 492, 493, 494, 495, 496, 497, 1462, 1463, 1464, 1465, 1466, 1467, 1468, 1469, 1470, 1471, 1472, 1473, 1474, 1475, 1476, 1477, 1478, 1479, 1480, 1481, 1482, 1483, 1484, 1485, 1486, 1487, 1488, 1489, 1490, 1491, 1492, 1493, 1494, 1495, 1496, 1497, 1498, 1499, 1500, 1501, 1502, 1503, 1504, 1505, 1506, 1507, 1508, 1509, 1510, 1511, 1512, 1513, 1514, 1515, 1516, 1517, 1518, 1519, 1520, 1521, 1522, 1523, 1524, 1525, 1526, 1527, 1528, 1529, 1530] (by decide +kernel) (by decide +kernel)
set_option maxRecDepth 20000 in
theorem gL_law_X12_text : GoodIn wsL_law (wsV RL 41 RX12 yX12_text wsX12_text) := goodIn_app (goodIn_of _ (by decide +kernel)) ggL_law_X12_text
theorem dL_law_369 : decode cL_law 369 = .ok (.invokevirtual 41, 3) := by decide +kernel
theorem dL_law_372 : decode cL_law 372 = .ok (.if_icmp .eq 1586, 3) := by decide +kernel
set_option maxHeartbeats 4000000 in
set_option maxRecDepth 100000 in
theorem case_4 {p : Program} {e : Env} {s : State} {m : MethodId} {below : List Frame} {meth : Method} {c : Code} (l : Launch) {b : Nat} {xs : Nat → Int32} {D : va_G} {cy : Nat → ClassId} {st aX aM : Nat → Nat} {o : Nat} {H : Heap} {locs : List Loc} {ls : Array Slot} (hW : LW p s m meth c b xs D cy st aX aM o H locs) (hl : lv_has ls 7 [(0, .ref b), (1, .ref (aX 0)), (2, .ref (aM 0)), (3, .ref o), (4, .int 0)]) : W p l e room_1 s m #[Value.ref b] below meth c H locs 118 17833 (lw_Z below #[Value.ref b] s) (F0 m 352 ls []) := by
  obtain ⟨C0, hK, hJX, hJM, hAX, hAM, hdis, hPX, hPM, hS⟩ := hW
  obtain ⟨hx, hb, hr, hml, hown, hts0, hX, hbl, hlocks, hgv⟩ := C0
  have hts : ∀ w ∈ wsL_law, w.before #[Value.ref b] s = true := fun w h => hts0 w (wsL_law_in w h)
  have hbA : ¬ (fun q : Nat => s.heap.size ≤ q) b := Nat.not_le.mpr hbl
  obtain ⟨y1, hy1⟩ : ∃ y, xs ((0 : Int32) + 1).toNatClampNeg = y := ⟨_, rfl⟩
  refine lv_aload_n hx hb dL_law_352 rfl (lv_at hl 1 rfl) ?_
  refine lv_aload_n hx hb dL_law_353 rfl (lv_at hl 0 rfl) ?_
  refine lv_iload hx hb dL_law_354 (lv_at hl 4 rfl) ?_
  refine lv_iconst (v := 1) hx hb dL_law_356 (by decide) ?_
  refine lv_iadd hx hb dL_law_357 ?_
  refine sld9 (v := y1) hx hb hX hbl hbA hS (by show ¬ _; decide) hy1 dL_law_358 ?_
  obtain ⟨r, uA, uB, hfX, hfM⟩ := agr_ex (pf_text y1)
  refine lg_i (V := VX cy aX st) (Ad := AX aX) (As := [.int y1]) (rest := []) ⟨hx, hb, hml, hown, hts⟩ hK hPX hS (fun q h => h.elim (hAX q) (fun z => Nat.le_trans hS.1 z)) (metX11_text_0 l D cy aX st hJX H.size y1 hfX) (cwV 1 hts gL_law_X11_text rfl rfl rfl (by decide +kernel) ⟨Nat.le_of_ble_eq_true rfl, Nat.le_of_ble_eq_true rfl⟩) 0 11 rfl rfl rfl hl.1 rfl (Nat.le_of_ble_eq_true rfl) dL_law_359 ⟨Nat.le_of_ble_eq_true rfl, Nat.le_of_ble_eq_true rfl⟩ (fun H locs hPX hkeep hS => ?_)
  have hPM := hkeep _ hPM (fun k q hq => hdis _ (VM_mem hq))
  refine lv_aload_n hx hb dL_law_362 rfl (lv_at hl 2 rfl) ?_
  refine lv_aload_n hx hb dL_law_363 rfl (lv_at hl 0 rfl) ?_
  refine lv_iload hx hb dL_law_364 (lv_at hl 4 rfl) ?_
  refine lv_iconst (v := 1) hx hb dL_law_366 (by decide) ?_
  refine lv_iadd hx hb dL_law_367 ?_
  refine sld9 (v := y1) hx hb hX hbl hbA hS (by show ¬ _; decide) hy1 dL_law_368 ?_
  refine lg_i (V := VM cy aM st) (Ad := AM aM) (As := [.int y1]) (rest := [.int r]) ⟨hx, hb, hml, hown, hts⟩ hK hPM hS (fun q h => h.elim (hAM q) (fun z => Nat.le_trans hS.1 z)) (metX12_text_0 l D cy aM st hJM _ y1 hfM) (cwV 1 hts gL_law_X12_text rfl rfl rfl (by decide +kernel) ⟨Nat.le_of_ble_eq_true rfl, Nat.le_of_ble_eq_true rfl⟩) 0 12 rfl rfl rfl hl.1 rfl (Nat.le_of_ble_eq_true rfl) dL_law_369 ⟨Nat.le_of_ble_eq_true rfl, Nat.le_of_ble_eq_true rfl⟩ (fun H locs hPM hkeep hS => ?_)
  refine lv_icmp_eq (tgt := 1958) hx hb dL_law_372 (by decide) (fun _ => ?_) (fun h => absurd rfl h)
  exact law_end l (by decide) (by decide) hx hb hr hlocks hX hbl hbA hS hl
theorem dL_law_509 : decode cL_law 509 = .ok (.aload_n 1, 1) := by decide +kernel
theorem dL_law_510 : decode cL_law 510 = .ok (.aload_n 0, 1) := by decide +kernel
theorem dL_law_511 : decode cL_law 511 = .ok (.iload 4, 2) := by decide +kernel
theorem dL_law_513 : decode cL_law 513 = .ok (.iconst 1, 1) := by decide +kernel
theorem dL_law_514 : decode cL_law 514 = .ok (.iadd, 1) := by decide +kernel
theorem dL_law_515 : decode cL_law 515 = .ok (.iaload, 1) := by decide +kernel
theorem dL_law_516 : decode cL_law 516 = .ok (.aload_n 0, 1) := by decide +kernel
theorem dL_law_517 : decode cL_law 517 = .ok (.iload 4, 2) := by decide +kernel
theorem dL_law_519 : decode cL_law 519 = .ok (.iconst 2, 1) := by decide +kernel
theorem dL_law_520 : decode cL_law 520 = .ok (.iadd, 1) := by decide +kernel
theorem dL_law_521 : decode cL_law 521 = .ok (.iaload, 1) := by decide +kernel
theorem dL_law_522 : decode cL_law 522 = .ok (.aload_n 0, 1) := by decide +kernel
theorem dL_law_523 : decode cL_law 523 = .ok (.iload 4, 2) := by decide +kernel
theorem dL_law_525 : decode cL_law 525 = .ok (.iconst 3, 1) := by decide +kernel
theorem dL_law_526 : decode cL_law 526 = .ok (.iadd, 1) := by decide +kernel
theorem dL_law_527 : decode cL_law 527 = .ok (.iaload, 1) := by decide +kernel
theorem dL_law_528 : decode cL_law 528 = .ok (.aload_n 0, 1) := by decide +kernel
theorem dL_law_529 : decode cL_law 529 = .ok (.iload 4, 2) := by decide +kernel
theorem dL_law_531 : decode cL_law 531 = .ok (.iconst 4, 1) := by decide +kernel
theorem dL_law_532 : decode cL_law 532 = .ok (.iadd, 1) := by decide +kernel
theorem dL_law_533 : decode cL_law 533 = .ok (.iaload, 1) := by decide +kernel
set_option maxRecDepth 20000 in
theorem ggL_law_X11_part : GoodIn wsL_law wsX11_part := goodIn_r _ [613, 25, 31, 614, 56, 553, 554, 555, 24, 556, 506, 615, 616, 2, 617, 237, 238, 239, 618, 619, 620, 30, 621, 622, 95, 97, 100, 101, 96, 1449, 1450, 1451, 1452, 1453, 1454, 1455, 1456, 1457, 1458, 1459, 1460, 1461, 1543, 1544, 1545, 1546, 1547, 1548, 1549, 1550, 1551, 1552, 1553, 1554, 1555, 1556, 1557, 1558, 1559, 1538, 1539, 1540, 1541, 1542] (by decide +kernel) (by decide +kernel)
set_option maxRecDepth 20000 in
theorem gL_law_X11_part : GoodIn wsL_law (wsV RL 52 RX11 yX11_part wsX11_part) := goodIn_app (goodIn_of _ (by decide +kernel)) ggL_law_X11_part
theorem dL_law_534 : decode cL_law 534 = .ok (.invokevirtual 52, 3) := by decide +kernel
theorem dL_law_537 : decode cL_law 537 = .ok (.aload_n 2, 1) := by decide +kernel
theorem dL_law_538 : decode cL_law 538 = .ok (.aload_n 0, 1) := by decide +kernel
theorem dL_law_539 : decode cL_law 539 = .ok (.iload 4, 2) := by decide +kernel
theorem dL_law_541 : decode cL_law 541 = .ok (.iconst 1, 1) := by decide +kernel
theorem dL_law_542 : decode cL_law 542 = .ok (.iadd, 1) := by decide +kernel
theorem dL_law_543 : decode cL_law 543 = .ok (.iaload, 1) := by decide +kernel
theorem dL_law_544 : decode cL_law 544 = .ok (.aload_n 0, 1) := by decide +kernel
theorem dL_law_545 : decode cL_law 545 = .ok (.iload 4, 2) := by decide +kernel
theorem dL_law_547 : decode cL_law 547 = .ok (.iconst 2, 1) := by decide +kernel
theorem dL_law_548 : decode cL_law 548 = .ok (.iadd, 1) := by decide +kernel
theorem dL_law_549 : decode cL_law 549 = .ok (.iaload, 1) := by decide +kernel
theorem dL_law_550 : decode cL_law 550 = .ok (.aload_n 0, 1) := by decide +kernel
theorem dL_law_551 : decode cL_law 551 = .ok (.iload 4, 2) := by decide +kernel
theorem dL_law_553 : decode cL_law 553 = .ok (.iconst 3, 1) := by decide +kernel
theorem dL_law_554 : decode cL_law 554 = .ok (.iadd, 1) := by decide +kernel
theorem dL_law_555 : decode cL_law 555 = .ok (.iaload, 1) := by decide +kernel
theorem dL_law_556 : decode cL_law 556 = .ok (.aload_n 0, 1) := by decide +kernel
theorem dL_law_557 : decode cL_law 557 = .ok (.iload 4, 2) := by decide +kernel
theorem dL_law_559 : decode cL_law 559 = .ok (.iconst 4, 1) := by decide +kernel
theorem dL_law_560 : decode cL_law 560 = .ok (.iadd, 1) := by decide +kernel
theorem dL_law_561 : decode cL_law 561 = .ok (.iaload, 1) := by decide +kernel
set_option maxRecDepth 20000 in
theorem ggL_law_X12_part_ : GoodIn wsL_law wsX12_part_ := goodIn_r _ [626, 244, 627, 191, 195, 196, 197, 198, 199, 245, 246, 247, 5, 248, 628, 629, 630, 1462, 1463, 1464, 1465, 1466, 1467, 1468, 1469, 1470, 1471, 1472, 1473, 1474, 1475, 1476, 1477, 1478, 1479, 1480, 1481, 1482, 1483, 1484, 1485, 1486, 1487, 1488, 1489, 1490, 1491, 1492, 1493, 1494, 1495, 1496, 1497, 1498, 1499, 1500, 1501, 1502, 1503, 1504, 1505, 1506, 1507, 1508, 1509, 1510, 1511, 1512, 1513, 1514, 1515, 1516, 1517, 1518, 1519, 1520, 1521, 1522, 1523, 1524, 1525, 1526, 1527, 1528, 1529, 1530] (by decide +kernel) (by decide +kernel)
set_option maxRecDepth 20000 in
theorem gL_law_X12_part_ : GoodIn wsL_law (wsV RL 56 RX12 yX12_part_ wsX12_part_) := goodIn_app (goodIn_of _ (by decide +kernel)) ggL_law_X12_part_
theorem dL_law_562 : decode cL_law 562 = .ok (.invokevirtual 56, 3) := by decide +kernel
theorem dL_law_565 : decode cL_law 565 = .ok (.if_icmp .eq 1393, 3) := by decide +kernel
set_option maxHeartbeats 4000000 in
set_option maxRecDepth 100000 in
theorem case_6 {p : Program} {e : Env} {s : State} {m : MethodId} {below : List Frame} {meth : Method} {c : Code} (l : Launch) {b : Nat} {xs : Nat → Int32} {D : va_G} {cy : Nat → ClassId} {st aX aM : Nat → Nat} {o : Nat} {H : Heap} {locs : List Loc} {ls : Array Slot} (hW : LW p s m meth c b xs D cy st aX aM o H locs) (hl : lv_has ls 7 [(0, .ref b), (1, .ref (aX 0)), (2, .ref (aM 0)), (3, .ref o), (4, .int 0)]) : W p l e room_1 s m #[Value.ref b] below meth c H locs 118 17833 (lw_Z below #[Value.ref b] s) (F0 m 509 ls []) := by
  obtain ⟨C0, hK, hJX, hJM, hAX, hAM, hdis, hPX, hPM, hS⟩ := hW
  obtain ⟨hx, hb, hr, hml, hown, hts0, hX, hbl, hlocks, hgv⟩ := C0
  have hts : ∀ w ∈ wsL_law, w.before #[Value.ref b] s = true := fun w h => hts0 w (wsL_law_in w h)
  have hbA : ¬ (fun q : Nat => s.heap.size ≤ q) b := Nat.not_le.mpr hbl
  obtain ⟨y1, hy1⟩ : ∃ y, xs ((0 : Int32) + 1).toNatClampNeg = y := ⟨_, rfl⟩
  obtain ⟨y2, hy2⟩ : ∃ y, xs ((0 : Int32) + 2).toNatClampNeg = y := ⟨_, rfl⟩
  obtain ⟨y3, hy3⟩ : ∃ y, xs ((0 : Int32) + 3).toNatClampNeg = y := ⟨_, rfl⟩
  obtain ⟨y4, hy4⟩ : ∃ y, xs ((0 : Int32) + 4).toNatClampNeg = y := ⟨_, rfl⟩
  refine lv_aload_n hx hb dL_law_509 rfl (lv_at hl 1 rfl) ?_
  refine lv_aload_n hx hb dL_law_510 rfl (lv_at hl 0 rfl) ?_
  refine lv_iload hx hb dL_law_511 (lv_at hl 4 rfl) ?_
  refine lv_iconst (v := 1) hx hb dL_law_513 (by decide) ?_
  refine lv_iadd hx hb dL_law_514 ?_
  refine sld9 (v := y1) hx hb hX hbl hbA hS (by show ¬ _; decide) hy1 dL_law_515 ?_
  refine lv_aload_n hx hb dL_law_516 rfl (lv_at hl 0 rfl) ?_
  refine lv_iload hx hb dL_law_517 (lv_at hl 4 rfl) ?_
  refine lv_iconst (v := 2) hx hb dL_law_519 (by decide) ?_
  refine lv_iadd hx hb dL_law_520 ?_
  refine sld9 (v := y2) hx hb hX hbl hbA hS (by show ¬ _; decide) hy2 dL_law_521 ?_
  refine lv_aload_n hx hb dL_law_522 rfl (lv_at hl 0 rfl) ?_
  refine lv_iload hx hb dL_law_523 (lv_at hl 4 rfl) ?_
  refine lv_iconst (v := 3) hx hb dL_law_525 (by decide) ?_
  refine lv_iadd hx hb dL_law_526 ?_
  refine sld9 (v := y3) hx hb hX hbl hbA hS (by show ¬ _; decide) hy3 dL_law_527 ?_
  refine lv_aload_n hx hb dL_law_528 rfl (lv_at hl 0 rfl) ?_
  refine lv_iload hx hb dL_law_529 (lv_at hl 4 rfl) ?_
  refine lv_iconst (v := 4) hx hb dL_law_531 (by decide) ?_
  refine lv_iadd hx hb dL_law_532 ?_
  refine sld9 (v := y4) hx hb hX hbl hbA hS (by show ¬ _; decide) hy4 dL_law_533 ?_
  obtain ⟨r, uA, uB, hfX, hfM⟩ := agr_ex (pf_part y1 y2 y3 y4)
  refine lg_i (V := VX cy aX st) (Ad := AX aX) (As := [.int y1, .int y2, .int y3, .int y4]) (rest := []) ⟨hx, hb, hml, hown, hts⟩ hK hPX hS (fun q h => h.elim (hAX q) (fun z => Nat.le_trans hS.1 z)) (metX11_part_0 l D cy aX st hJX H.size y1 y2 y3 y4 hfX) (cwV 4 hts gL_law_X11_part rfl rfl rfl (by decide +kernel) ⟨Nat.le_of_ble_eq_true rfl, Nat.le_of_ble_eq_true rfl⟩) 0 11 rfl rfl rfl hl.1 rfl (Nat.le_of_ble_eq_true rfl) dL_law_534 ⟨Nat.le_of_ble_eq_true rfl, Nat.le_of_ble_eq_true rfl⟩ (fun H locs hPX hkeep hS => ?_)
  have hPM := hkeep _ hPM (fun k q hq => hdis _ (VM_mem hq))
  refine lv_aload_n hx hb dL_law_537 rfl (lv_at hl 2 rfl) ?_
  refine lv_aload_n hx hb dL_law_538 rfl (lv_at hl 0 rfl) ?_
  refine lv_iload hx hb dL_law_539 (lv_at hl 4 rfl) ?_
  refine lv_iconst (v := 1) hx hb dL_law_541 (by decide) ?_
  refine lv_iadd hx hb dL_law_542 ?_
  refine sld9 (v := y1) hx hb hX hbl hbA hS (by show ¬ _; decide) hy1 dL_law_543 ?_
  refine lv_aload_n hx hb dL_law_544 rfl (lv_at hl 0 rfl) ?_
  refine lv_iload hx hb dL_law_545 (lv_at hl 4 rfl) ?_
  refine lv_iconst (v := 2) hx hb dL_law_547 (by decide) ?_
  refine lv_iadd hx hb dL_law_548 ?_
  refine sld9 (v := y2) hx hb hX hbl hbA hS (by show ¬ _; decide) hy2 dL_law_549 ?_
  refine lv_aload_n hx hb dL_law_550 rfl (lv_at hl 0 rfl) ?_
  refine lv_iload hx hb dL_law_551 (lv_at hl 4 rfl) ?_
  refine lv_iconst (v := 3) hx hb dL_law_553 (by decide) ?_
  refine lv_iadd hx hb dL_law_554 ?_
  refine sld9 (v := y3) hx hb hX hbl hbA hS (by show ¬ _; decide) hy3 dL_law_555 ?_
  refine lv_aload_n hx hb dL_law_556 rfl (lv_at hl 0 rfl) ?_
  refine lv_iload hx hb dL_law_557 (lv_at hl 4 rfl) ?_
  refine lv_iconst (v := 4) hx hb dL_law_559 (by decide) ?_
  refine lv_iadd hx hb dL_law_560 ?_
  refine sld9 (v := y4) hx hb hX hbl hbA hS (by show ¬ _; decide) hy4 dL_law_561 ?_
  refine lg_i (V := VM cy aM st) (Ad := AM aM) (As := [.int y1, .int y2, .int y3, .int y4]) (rest := [.int r]) ⟨hx, hb, hml, hown, hts⟩ hK hPM hS (fun q h => h.elim (hAM q) (fun z => Nat.le_trans hS.1 z)) (metX12_part__0 l D cy aM st hJM _ y1 y2 y3 y4 hfM) (cwV 4 hts gL_law_X12_part_ rfl rfl rfl (by decide +kernel) ⟨Nat.le_of_ble_eq_true rfl, Nat.le_of_ble_eq_true rfl⟩) 0 12 rfl rfl rfl hl.1 rfl (Nat.le_of_ble_eq_true rfl) dL_law_562 ⟨Nat.le_of_ble_eq_true rfl, Nat.le_of_ble_eq_true rfl⟩ (fun H locs hPM hkeep hS => ?_)
  refine lv_icmp_eq (tgt := 1958) hx hb dL_law_565 (by decide) (fun _ => ?_) (fun h => absurd rfl h)
  exact law_end l (by decide) (by decide) hx hb hr hlocks hX hbl hbA hS hl
