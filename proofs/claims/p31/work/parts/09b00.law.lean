theorem mL_0 : Cond.constantLong RL 63 (4294967295) ∈ wsL_law := by decide +kernel
theorem dL_law_204 : decode cL_law 204 = .ok (.aload_n 1, 1) := by decide +kernel
theorem dL_law_205 : decode cL_law 205 = .ok (.aload_n 0, 1) := by decide +kernel
theorem dL_law_206 : decode cL_law 206 = .ok (.iload 4, 2) := by decide +kernel
theorem dL_law_208 : decode cL_law 208 = .ok (.iconst 1, 1) := by decide +kernel
theorem dL_law_209 : decode cL_law 209 = .ok (.iadd, 1) := by decide +kernel
theorem dL_law_210 : decode cL_law 210 = .ok (.iaload, 1) := by decide +kernel
theorem dL_law_211 : decode cL_law 211 = .ok (.invokevirtual 19, 3) := by decide +kernel
theorem dL_law_214 : decode cL_law 214 = .ok (.pop, 1) := by decide +kernel
theorem dL_law_215 : decode cL_law 215 = .ok (.aload_n 2, 1) := by decide +kernel
theorem dL_law_216 : decode cL_law 216 = .ok (.aload_n 0, 1) := by decide +kernel
theorem dL_law_217 : decode cL_law 217 = .ok (.iload 4, 2) := by decide +kernel
theorem dL_law_219 : decode cL_law 219 = .ok (.iconst 1, 1) := by decide +kernel
theorem dL_law_220 : decode cL_law 220 = .ok (.iadd, 1) := by decide +kernel
theorem dL_law_221 : decode cL_law 221 = .ok (.iaload, 1) := by decide +kernel
theorem dL_law_222 : decode cL_law 222 = .ok (.invokevirtual 23, 3) := by decide +kernel
theorem dL_law_225 : decode cL_law 225 = .ok (.pop, 1) := by decide +kernel
theorem dL_law_226 : decode cL_law 226 = .ok (.goto 1704, 3) := by decide +kernel
set_option maxHeartbeats 4000000 in
set_option maxRecDepth 100000 in
theorem case_0 {p : Program} {e : Env} {s : State} {m : MethodId} {below : List Frame} {meth : Method} {c : Code} (l : Launch) (hfl : l.stackTraces = false) {b L : Nat} {xs : Nat → Int32} {D : va_G} {cy : Nat → ClassId} {st aM : Nat → Nat} {o x0 : Nat} {aX : Nat → Nat} {u v : SX} {f : Nat → Int64} {H : Heap} {locs : List Loc} {ls : Array Slot} {i : Int32} {cells slots : Nat} {Q : State → Prop} (F : LF p s m meth c b L xs D cy st aM o) (I : LI s D cy st aM o x0 aX u v f H locs) (hi0 : 0 ≤ i.toInt) (hi9 : i.toInt + 9 ≤ (L : Int)) (hcl : cells + 2 ≤ room_1.cells) (hsl : slots + 122 ≤ room_1.slots) (hl : lv_has ls 7 [(0, .ref b), (1, .ref x0), (2, .ref (aM 0)), (3, .ref o), (4, .int i)]) (kk : ∀ (aX : Nat → Nat) (u v : SX) (f : Nat → Int64) (H : Heap) (locs : List Loc) (ls : Array Slot), LI s D cy st aM o x0 aX u v f H locs → lv_has ls 7 [(0, .ref b), (1, .ref x0), (2, .ref (aM 0)), (3, .ref o), (4, .int i)] → W p l e room_1 s m #[Value.ref b] below meth c H locs (cells + 2) (slots + 122) Q (F0 m 1930 ls [])) : W p l e room_1 s m #[Value.ref b] below meth c H locs cells slots Q (F0 m 204 ls []) := by
  obtain ⟨C0, hL, hK, hJM, hAM, hoM, hso, hst, hE, hCL⟩ := F
  obtain ⟨hx, hb, hr, hml, hown, hts0, hX, hbl, hlocks, hgv⟩ := C0
  obtain ⟨hx0, hJX, hAX, hdis, hoX, hPX, hPM, hPo, hS, hIX, hIM, hEv, htie, hrow, htape, hcnt, hpar⟩ := I
  have hts : ∀ w ∈ wsL_law, w.before #[Value.ref b] s = true := fun w h => hts0 w (wsL_law_in w h)
  have hbA : ¬ (fun q : Nat => s.heap.size ≤ q) b := Nat.not_le.mpr hbl
  have hA0 : ∀ q, (fun q : Nat => s.heap.size ≤ q) q → st 100 ≤ q := fun q h => by rw [hst]; exact h
  have hfit : cells ≤ room_1.cells ∧ slots ≤ room_1.slots := ⟨Nat.le_trans (Nat.le_add_right _ _) hcl, Nat.le_trans (Nat.le_add_right _ _) hsl⟩
  subst hx0
  obtain ⟨y1, hy1⟩ : ∃ y, xs (i + 1).toNatClampNeg = y := ⟨_, rfl⟩
  have hin1 : vp_in (i + 1) L := in9 (show (1 : Int32).toInt = 1 by decide) hi0 hi9 hL (by decide) (by decide)
  refine lv_aload_n hx hb dL_law_204 rfl (lv_at hl 1 rfl) ?_
  refine lv_aload_n hx hb dL_law_205 rfl (lv_at hl 0 rfl) ?_
  refine lv_iload hx hb dL_law_206 (lv_at hl 4 rfl) ?_
  refine lv_iconst (v := 1) hx hb dL_law_208 (by decide) ?_
  refine lv_iadd hx hb dL_law_209 ?_
  refine sld9 (v := y1) hx hb hX hbl hbA hS hin1 hy1 dL_law_210 ?_
  obtain ⟨⟨r, uA⟩, hfX, hqX⟩ := tfX11_days_0 y1 u hIX
  refine lg_i (V := VX cy aX st) (Ad := AX aX) (As := [.int y1]) (rest := []) ⟨hx, hb, hml, hown, fun w h => hts0 w (gw_X11_days w h)⟩ hA0 hK hPX hS (fun q h => h.elim (hAX q) (fun z => Nat.le_trans hS.1 z)) (metX11_days_0 l D cy aX st hJX H.size y1 hfX) (cwV 1 (fun w h => hts0 w (gw_X11_days w h)) gx_X11_days rfl rfl rfl (by decide +kernel) ⟨Nat.le_of_ble_eq_true rfl, Nat.le_of_ble_eq_true rfl⟩) 0 11 rfl rfl rfl hl.1 rfl (Nat.le_of_ble_eq_true rfl) dL_law_211 hfit (fun H1 locs1 hP1 hkeep hS1 => ?_)
  have hPM1 := hkeep _ hPM (fun k q hq => hdis _ (VM_mem hq))
  have hPo1 := hkeep _ hPo (fun k q hq => by rw [oat hq]; exact hoX)
  have hIX1 : IX uA := hqX.1.1
  have hFX := hqX.1.2
  have hfrX := hqX.1.2.1
  have hrwX := hqX.1.2.2.1
  clear hPX hPM hPo hS hkeep
  have hPX := hP1
  have hPM := hPM1
  have hPo := hPo1
  have hS := hS1
  clear hP1 hPM1 hPo1 hS1 hqX
  generalize H1 = H at hPX hPo hPM hS ⊢
  generalize locs1 = locs at hS ⊢
  refine lv_pop hx hb dL_law_214 rfl ?_
  refine lv_aload_n hx hb dL_law_215 rfl (lv_at hl 2 rfl) ?_
  refine lv_aload_n hx hb dL_law_216 rfl (lv_at hl 0 rfl) ?_
  refine lv_iload hx hb dL_law_217 (lv_at hl 4 rfl) ?_
  refine lv_iconst (v := 1) hx hb dL_law_219 (by decide) ?_
  refine lv_iadd hx hb dL_law_220 ?_
  refine sld9 (v := y1) hx hb hX hbl hbA hS hin1 hy1 dL_law_221 ?_
  obtain ⟨⟨rM, vA⟩, hfM, hqM⟩ := tfX12_days_0 y1 v hIM
  refine lg_i (V := VM cy aM st) (Ad := AM aM) (As := [.int y1]) (rest := []) ⟨hx, hb, hml, hown, fun w h => hts0 w (gw_X12_days w h)⟩ hA0 hK hPM hS (fun q h => h.elim (hAM q) (fun z => Nat.le_trans hS.1 z)) (metX12_days_0 l D cy aM st hJM H.size y1 hfM) (cwV 1 (fun w h => hts0 w (gw_X12_days w h)) gx_X12_days rfl rfl rfl (by decide +kernel) ⟨Nat.le_of_ble_eq_true rfl, Nat.le_of_ble_eq_true rfl⟩) 0 12 rfl rfl rfl hl.1 rfl (Nat.le_of_ble_eq_true rfl) dL_law_222 hfit (fun H1 locs1 hP1 hkeep hS1 => ?_)
  have hPX1 := hkeep _ hPX (fun k q hq hz => hdis _ hz ⟨k, (VX_adr hq).1⟩)
  have hPo1 := hkeep _ hPo (fun k q hq => by rw [oat hq]; exact hoM)
  have hEv1 : EvM vA := EvM_fr (hqM.1.2.1 13 (by decide)) (hqM.1.2.1 14 (by decide)) (hqM.1.2.1 21 (by decide)) (hqM.1.2.2.1 33 (by decide)) hEv
  obtain ⟨er, htie1⟩ := days_eq hIX hIM htie hfX hfM
  have hrow1 : TieR uA vA := TieR_fr (hfrX 36 (by decide)) (hrwX 63 (by decide)) (hrwX 64 (by decide)) (hrwX 65 (by decide)) (hqM.1.2.2.1 36 (by decide)) (hqM.1.2.2.1 37 (by decide)) (hqM.1.2.2.1 38 (by decide)) hrow
  have htape1 : TieT uA vA := TieT_fr (hfrX 1 (by decide)) (hrwX 13 (by decide)) (hqM.1.2.1 3 (by decide)) (hqM.1.2.2.1 1 (by decide)) htape
  have hcnt1 : TieC uA vA := TieC_fr (hfrX 5 (by decide)) (hfrX 6 (by decide)) (hfrX 7 (by decide)) (hqM.1.2.2.1 4 (by decide)) hcnt
  have hpar1 := daysP hIX hpar hfX hfM
  have hIM1 : IM vA := hqM.1.1
  clear hPX hPM hPo hS hIM hEv htie hrow htape hcnt hpar hkeep hfrX hrwX hIX
  have hPX := hPX1
  have hPM := hP1
  have hPo := hPo1
  have hS := hS1
  have hIM := hIM1
  have hEv := hEv1
  have htie := htie1
  have hrow := hrow1
  have htape := htape1
  have hcnt := hcnt1
  have hpar := hpar1
  have hIX := hIX1
  clear hIX1
  clear hP1 hPX1 hPo1 hS1 hIM1 hEv1 htie1 hrow1 htape1 hcnt1 hpar1 hqM
  generalize H1 = H at hPX hPo hPM hS ⊢
  generalize locs1 = locs at hS ⊢
  refine lv_pop hx hb dL_law_225 rfl ?_
  refine lv_goto (tgt := 1930) hx hb dL_law_226 (by decide) ?_
  refine W.widen (k := cells + 2) (n := slots + 122) (Nat.le_add_right _ _) (Nat.le_add_right _ _) ?_
  exact kk aX uA vA f H locs ls ⟨rfl, hJX, hAX, hdis, hoX, hPX, hPM, hPo, hS, hIX, hIM, hEv, htie, hrow, htape, hcnt, hpar⟩ hl
theorem dL_law_229 : decode cL_law 229 = .ok (.aload_n 1, 1) := by decide +kernel
theorem dL_law_230 : decode cL_law 230 = .ok (.aload_n 0, 1) := by decide +kernel
theorem dL_law_231 : decode cL_law 231 = .ok (.iload 4, 2) := by decide +kernel
theorem dL_law_233 : decode cL_law 233 = .ok (.iconst 1, 1) := by decide +kernel
theorem dL_law_234 : decode cL_law 234 = .ok (.iadd, 1) := by decide +kernel
theorem dL_law_235 : decode cL_law 235 = .ok (.iaload, 1) := by decide +kernel
theorem dL_law_236 : decode cL_law 236 = .ok (.aload_n 0, 1) := by decide +kernel
theorem dL_law_237 : decode cL_law 237 = .ok (.iload 4, 2) := by decide +kernel
theorem dL_law_239 : decode cL_law 239 = .ok (.iconst 2, 1) := by decide +kernel
theorem dL_law_240 : decode cL_law 240 = .ok (.iadd, 1) := by decide +kernel
theorem dL_law_241 : decode cL_law 241 = .ok (.iaload, 1) := by decide +kernel
theorem dL_law_242 : decode cL_law 242 = .ok (.aload_n 0, 1) := by decide +kernel
theorem dL_law_243 : decode cL_law 243 = .ok (.iload 4, 2) := by decide +kernel
theorem dL_law_245 : decode cL_law 245 = .ok (.iconst 3, 1) := by decide +kernel
theorem dL_law_246 : decode cL_law 246 = .ok (.iadd, 1) := by decide +kernel
theorem dL_law_247 : decode cL_law 247 = .ok (.iaload, 1) := by decide +kernel
theorem dL_law_248 : decode cL_law 248 = .ok (.aload_n 0, 1) := by decide +kernel
theorem dL_law_249 : decode cL_law 249 = .ok (.iload 4, 2) := by decide +kernel
theorem dL_law_251 : decode cL_law 251 = .ok (.iconst 4, 1) := by decide +kernel
theorem dL_law_252 : decode cL_law 252 = .ok (.iadd, 1) := by decide +kernel
theorem dL_law_253 : decode cL_law 253 = .ok (.iaload, 1) := by decide +kernel
theorem dL_law_254 : decode cL_law 254 = .ok (.aload_n 0, 1) := by decide +kernel
theorem dL_law_255 : decode cL_law 255 = .ok (.iload 4, 2) := by decide +kernel
theorem dL_law_257 : decode cL_law 257 = .ok (.iconst 5, 1) := by decide +kernel
theorem dL_law_258 : decode cL_law 258 = .ok (.iadd, 1) := by decide +kernel
theorem dL_law_259 : decode cL_law 259 = .ok (.iaload, 1) := by decide +kernel
theorem dL_law_260 : decode cL_law 260 = .ok (.invokevirtual 24, 3) := by decide +kernel
theorem dL_law_263 : decode cL_law 263 = .ok (.pop, 1) := by decide +kernel
theorem dL_law_264 : decode cL_law 264 = .ok (.aload_n 2, 1) := by decide +kernel
theorem dL_law_265 : decode cL_law 265 = .ok (.aload_n 0, 1) := by decide +kernel
theorem dL_law_266 : decode cL_law 266 = .ok (.iload 4, 2) := by decide +kernel
theorem dL_law_268 : decode cL_law 268 = .ok (.iconst 1, 1) := by decide +kernel
theorem dL_law_269 : decode cL_law 269 = .ok (.iadd, 1) := by decide +kernel
theorem dL_law_270 : decode cL_law 270 = .ok (.iaload, 1) := by decide +kernel
theorem dL_law_271 : decode cL_law 271 = .ok (.aload_n 0, 1) := by decide +kernel
theorem dL_law_272 : decode cL_law 272 = .ok (.iload 4, 2) := by decide +kernel
theorem dL_law_274 : decode cL_law 274 = .ok (.iconst 2, 1) := by decide +kernel
theorem dL_law_275 : decode cL_law 275 = .ok (.iadd, 1) := by decide +kernel
theorem dL_law_276 : decode cL_law 276 = .ok (.iaload, 1) := by decide +kernel
theorem dL_law_277 : decode cL_law 277 = .ok (.aload_n 0, 1) := by decide +kernel
theorem dL_law_278 : decode cL_law 278 = .ok (.iload 4, 2) := by decide +kernel
theorem dL_law_280 : decode cL_law 280 = .ok (.iconst 3, 1) := by decide +kernel
theorem dL_law_281 : decode cL_law 281 = .ok (.iadd, 1) := by decide +kernel
theorem dL_law_282 : decode cL_law 282 = .ok (.iaload, 1) := by decide +kernel
theorem dL_law_283 : decode cL_law 283 = .ok (.aload_n 0, 1) := by decide +kernel
theorem dL_law_284 : decode cL_law 284 = .ok (.iload 4, 2) := by decide +kernel
theorem dL_law_286 : decode cL_law 286 = .ok (.iconst 4, 1) := by decide +kernel
theorem dL_law_287 : decode cL_law 287 = .ok (.iadd, 1) := by decide +kernel
theorem dL_law_288 : decode cL_law 288 = .ok (.iaload, 1) := by decide +kernel
theorem dL_law_289 : decode cL_law 289 = .ok (.aload_n 0, 1) := by decide +kernel
theorem dL_law_290 : decode cL_law 290 = .ok (.iload 4, 2) := by decide +kernel
theorem dL_law_292 : decode cL_law 292 = .ok (.iconst 5, 1) := by decide +kernel
theorem dL_law_293 : decode cL_law 293 = .ok (.iadd, 1) := by decide +kernel
theorem dL_law_294 : decode cL_law 294 = .ok (.iaload, 1) := by decide +kernel
theorem dL_law_295 : decode cL_law 295 = .ok (.invokevirtual 28, 3) := by decide +kernel
theorem dL_law_298 : decode cL_law 298 = .ok (.pop, 1) := by decide +kernel
theorem dL_law_299 : decode cL_law 299 = .ok (.goto 1631, 3) := by decide +kernel
set_option maxHeartbeats 4000000 in
set_option maxRecDepth 100000 in
theorem case_1 {p : Program} {e : Env} {s : State} {m : MethodId} {below : List Frame} {meth : Method} {c : Code} (l : Launch) (hfl : l.stackTraces = false) {b L : Nat} {xs : Nat → Int32} {D : va_G} {cy : Nat → ClassId} {st aM : Nat → Nat} {o x0 : Nat} {aX : Nat → Nat} {u v : SX} {f : Nat → Int64} {H : Heap} {locs : List Loc} {ls : Array Slot} {i : Int32} {cells slots : Nat} {Q : State → Prop} (F : LF p s m meth c b L xs D cy st aM o) (I : LI s D cy st aM o x0 aX u v f H locs) (hi0 : 0 ≤ i.toInt) (hi9 : i.toInt + 9 ≤ (L : Int)) (hcl : cells + 2 ≤ room_1.cells) (hsl : slots + 122 ≤ room_1.slots) (hl : lv_has ls 7 [(0, .ref b), (1, .ref x0), (2, .ref (aM 0)), (3, .ref o), (4, .int i)]) (kk : ∀ (aX : Nat → Nat) (u v : SX) (f : Nat → Int64) (H : Heap) (locs : List Loc) (ls : Array Slot), LI s D cy st aM o x0 aX u v f H locs → lv_has ls 7 [(0, .ref b), (1, .ref x0), (2, .ref (aM 0)), (3, .ref o), (4, .int i)] → W p l e room_1 s m #[Value.ref b] below meth c H locs (cells + 2) (slots + 122) Q (F0 m 1930 ls [])) : W p l e room_1 s m #[Value.ref b] below meth c H locs cells slots Q (F0 m 229 ls []) := by
  obtain ⟨C0, hL, hK, hJM, hAM, hoM, hso, hst, hE, hCL⟩ := F
  obtain ⟨hx, hb, hr, hml, hown, hts0, hX, hbl, hlocks, hgv⟩ := C0
  obtain ⟨hx0, hJX, hAX, hdis, hoX, hPX, hPM, hPo, hS, hIX, hIM, hEv, htie, hrow, htape, hcnt, hpar⟩ := I
  have hts : ∀ w ∈ wsL_law, w.before #[Value.ref b] s = true := fun w h => hts0 w (wsL_law_in w h)
  have hbA : ¬ (fun q : Nat => s.heap.size ≤ q) b := Nat.not_le.mpr hbl
  have hA0 : ∀ q, (fun q : Nat => s.heap.size ≤ q) q → st 100 ≤ q := fun q h => by rw [hst]; exact h
  have hfit : cells ≤ room_1.cells ∧ slots ≤ room_1.slots := ⟨Nat.le_trans (Nat.le_add_right _ _) hcl, Nat.le_trans (Nat.le_add_right _ _) hsl⟩
  subst hx0
  obtain ⟨y1, hy1⟩ : ∃ y, xs (i + 1).toNatClampNeg = y := ⟨_, rfl⟩
  have hin1 : vp_in (i + 1) L := in9 (show (1 : Int32).toInt = 1 by decide) hi0 hi9 hL (by decide) (by decide)
  obtain ⟨y2, hy2⟩ : ∃ y, xs (i + 2).toNatClampNeg = y := ⟨_, rfl⟩
  have hin2 : vp_in (i + 2) L := in9 (show (2 : Int32).toInt = 2 by decide) hi0 hi9 hL (by decide) (by decide)
  obtain ⟨y3, hy3⟩ : ∃ y, xs (i + 3).toNatClampNeg = y := ⟨_, rfl⟩
  have hin3 : vp_in (i + 3) L := in9 (show (3 : Int32).toInt = 3 by decide) hi0 hi9 hL (by decide) (by decide)
  obtain ⟨y4, hy4⟩ : ∃ y, xs (i + 4).toNatClampNeg = y := ⟨_, rfl⟩
  have hin4 : vp_in (i + 4) L := in9 (show (4 : Int32).toInt = 4 by decide) hi0 hi9 hL (by decide) (by decide)
  obtain ⟨y5, hy5⟩ : ∃ y, xs (i + 5).toNatClampNeg = y := ⟨_, rfl⟩
  have hin5 : vp_in (i + 5) L := in9 (show (5 : Int32).toInt = 5 by decide) hi0 hi9 hL (by decide) (by decide)
  refine lv_aload_n hx hb dL_law_229 rfl (lv_at hl 1 rfl) ?_
  refine lv_aload_n hx hb dL_law_230 rfl (lv_at hl 0 rfl) ?_
  refine lv_iload hx hb dL_law_231 (lv_at hl 4 rfl) ?_
  refine lv_iconst (v := 1) hx hb dL_law_233 (by decide) ?_
  refine lv_iadd hx hb dL_law_234 ?_
  refine sld9 (v := y1) hx hb hX hbl hbA hS hin1 hy1 dL_law_235 ?_
  refine lv_aload_n hx hb dL_law_236 rfl (lv_at hl 0 rfl) ?_
  refine lv_iload hx hb dL_law_237 (lv_at hl 4 rfl) ?_
  refine lv_iconst (v := 2) hx hb dL_law_239 (by decide) ?_
  refine lv_iadd hx hb dL_law_240 ?_
  refine sld9 (v := y2) hx hb hX hbl hbA hS hin2 hy2 dL_law_241 ?_
  refine lv_aload_n hx hb dL_law_242 rfl (lv_at hl 0 rfl) ?_
  refine lv_iload hx hb dL_law_243 (lv_at hl 4 rfl) ?_
  refine lv_iconst (v := 3) hx hb dL_law_245 (by decide) ?_
  refine lv_iadd hx hb dL_law_246 ?_
  refine sld9 (v := y3) hx hb hX hbl hbA hS hin3 hy3 dL_law_247 ?_
  refine lv_aload_n hx hb dL_law_248 rfl (lv_at hl 0 rfl) ?_
  refine lv_iload hx hb dL_law_249 (lv_at hl 4 rfl) ?_
  refine lv_iconst (v := 4) hx hb dL_law_251 (by decide) ?_
  refine lv_iadd hx hb dL_law_252 ?_
  refine sld9 (v := y4) hx hb hX hbl hbA hS hin4 hy4 dL_law_253 ?_
  refine lv_aload_n hx hb dL_law_254 rfl (lv_at hl 0 rfl) ?_
  refine lv_iload hx hb dL_law_255 (lv_at hl 4 rfl) ?_
  refine lv_iconst (v := 5) hx hb dL_law_257 (by decide) ?_
  refine lv_iadd hx hb dL_law_258 ?_
  refine sld9 (v := y5) hx hb hX hbl hbA hS hin5 hy5 dL_law_259 ?_
  obtain ⟨⟨r, uA⟩, hfX, hqX⟩ := tfX11_feed_0 y1 y2 y3 y4 y5 u hIX
  refine lg_i (V := VX cy aX st) (Ad := AX aX) (As := [.int y1, .int y2, .int y3, .int y4, .int y5]) (rest := []) ⟨hx, hb, hml, hown, fun w h => hts0 w (gw_X11_feed w h)⟩ hA0 hK hPX hS (fun q h => h.elim (hAX q) (fun z => Nat.le_trans hS.1 z)) (metX11_feed_0 l D cy aX st hJX H.size y1 y2 y3 y4 y5 hfX) (cwV 5 (fun w h => hts0 w (gw_X11_feed w h)) gx_X11_feed rfl rfl rfl (by decide +kernel) ⟨Nat.le_of_ble_eq_true rfl, Nat.le_of_ble_eq_true rfl⟩) 0 11 rfl rfl rfl hl.1 rfl (Nat.le_of_ble_eq_true rfl) dL_law_260 hfit (fun H1 locs1 hP1 hkeep hS1 => ?_)
  have hPM1 := hkeep _ hPM (fun k q hq => hdis _ (VM_mem hq))
  have hPo1 := hkeep _ hPo (fun k q hq => by rw [oat hq]; exact hoX)
  have hIX1 : IX uA := hqX.1.1
  have hFX := hqX.1.2
  have hfrX := hqX.1.2.1
  have hrwX := hqX.1.2.2.1
  clear hPX hPM hPo hS hkeep
  have hPX := hP1
  have hPM := hPM1
  have hPo := hPo1
  have hS := hS1
  clear hP1 hPM1 hPo1 hS1 hqX
  generalize H1 = H at hPX hPo hPM hS ⊢
  generalize locs1 = locs at hS ⊢
  refine lv_pop hx hb dL_law_263 rfl ?_
  refine lv_aload_n hx hb dL_law_264 rfl (lv_at hl 2 rfl) ?_
  refine lv_aload_n hx hb dL_law_265 rfl (lv_at hl 0 rfl) ?_
  refine lv_iload hx hb dL_law_266 (lv_at hl 4 rfl) ?_
  refine lv_iconst (v := 1) hx hb dL_law_268 (by decide) ?_
  refine lv_iadd hx hb dL_law_269 ?_
  refine sld9 (v := y1) hx hb hX hbl hbA hS hin1 hy1 dL_law_270 ?_
  refine lv_aload_n hx hb dL_law_271 rfl (lv_at hl 0 rfl) ?_
  refine lv_iload hx hb dL_law_272 (lv_at hl 4 rfl) ?_
  refine lv_iconst (v := 2) hx hb dL_law_274 (by decide) ?_
  refine lv_iadd hx hb dL_law_275 ?_
  refine sld9 (v := y2) hx hb hX hbl hbA hS hin2 hy2 dL_law_276 ?_
  refine lv_aload_n hx hb dL_law_277 rfl (lv_at hl 0 rfl) ?_
  refine lv_iload hx hb dL_law_278 (lv_at hl 4 rfl) ?_
  refine lv_iconst (v := 3) hx hb dL_law_280 (by decide) ?_
  refine lv_iadd hx hb dL_law_281 ?_
  refine sld9 (v := y3) hx hb hX hbl hbA hS hin3 hy3 dL_law_282 ?_
  refine lv_aload_n hx hb dL_law_283 rfl (lv_at hl 0 rfl) ?_
  refine lv_iload hx hb dL_law_284 (lv_at hl 4 rfl) ?_
  refine lv_iconst (v := 4) hx hb dL_law_286 (by decide) ?_
  refine lv_iadd hx hb dL_law_287 ?_
  refine sld9 (v := y4) hx hb hX hbl hbA hS hin4 hy4 dL_law_288 ?_
  refine lv_aload_n hx hb dL_law_289 rfl (lv_at hl 0 rfl) ?_
  refine lv_iload hx hb dL_law_290 (lv_at hl 4 rfl) ?_
  refine lv_iconst (v := 5) hx hb dL_law_292 (by decide) ?_
  refine lv_iadd hx hb dL_law_293 ?_
  refine sld9 (v := y5) hx hb hX hbl hbA hS hin5 hy5 dL_law_294 ?_
  obtain ⟨⟨rM, vA⟩, hfM, hqM⟩ := tfX12_feed_0 y1 y2 y3 y4 y5 v hIM
  refine lg_i (V := VM cy aM st) (Ad := AM aM) (As := [.int y1, .int y2, .int y3, .int y4, .int y5]) (rest := []) ⟨hx, hb, hml, hown, fun w h => hts0 w (gw_X12_feed w h)⟩ hA0 hK hPM hS (fun q h => h.elim (hAM q) (fun z => Nat.le_trans hS.1 z)) (metX12_feed_0 l D cy aM st hJM H.size y1 y2 y3 y4 y5 hfM) (cwV 5 (fun w h => hts0 w (gw_X12_feed w h)) gx_X12_feed rfl rfl rfl (by decide +kernel) ⟨Nat.le_of_ble_eq_true rfl, Nat.le_of_ble_eq_true rfl⟩) 0 12 rfl rfl rfl hl.1 rfl (Nat.le_of_ble_eq_true rfl) dL_law_295 hfit (fun H1 locs1 hP1 hkeep hS1 => ?_)
  have hPX1 := hkeep _ hPX (fun k q hq hz => hdis _ hz ⟨k, (VX_adr hq).1⟩)
  have hPo1 := hkeep _ hPo (fun k q hq => by rw [oat hq]; exact hoM)
  have hEv1 : EvM vA := EvM_fr (hqM.1.2.1 13 (by decide)) (hqM.1.2.1 14 (by decide)) (hqM.1.2.1 21 (by decide)) (hqM.1.2.2.1 33 (by decide)) hEv
  have htie1 : Tie uA vA := Tie_fr hfrX hqM.1.2.1 (by decide) htie
  have hrow1 : TieR uA vA := TieR_fr (hfrX 36 (by decide)) (hrwX 63 (by decide)) (hrwX 64 (by decide)) (hrwX 65 (by decide)) (hqM.1.2.2.1 36 (by decide)) (hqM.1.2.2.1 37 (by decide)) (hqM.1.2.2.1 38 (by decide)) hrow
  obtain ⟨er, htape1⟩ := feed_eq hIX htape hfX hfM
  have hcnt1 : TieC uA vA := TieC_fr (hfrX 5 (by decide)) (hfrX 6 (by decide)) (hfrX 7 (by decide)) (hqM.1.2.2.1 4 (by decide)) hcnt
  have hpar1 : TieP uA vA := TieP_fr (hfrX 8 (by decide)) (hfrX 29 (by decide)) (hfrX 9 (by decide)) (hfrX 0 (by decide)) (hrwX 52 (by decide)) (hqM.1.2.1 12 (by decide)) (hqM.1.2.1 21 (by decide)) (hqM.1.2.1 14 (by decide)) (hqM.1.2.2.1 33 (by decide)) hpar
  have hIM1 : IM vA := hqM.1.1
  clear hPX hPM hPo hS hIM hEv htie hrow htape hcnt hpar hkeep hfrX hrwX hIX
  have hPX := hPX1
  have hPM := hP1
  have hPo := hPo1
  have hS := hS1
  have hIM := hIM1
  have hEv := hEv1
  have htie := htie1
  have hrow := hrow1
  have htape := htape1
  have hcnt := hcnt1
  have hpar := hpar1
  have hIX := hIX1
  clear hIX1
  clear hP1 hPX1 hPo1 hS1 hIM1 hEv1 htie1 hrow1 htape1 hcnt1 hpar1 hqM
  generalize H1 = H at hPX hPo hPM hS ⊢
  generalize locs1 = locs at hS ⊢
  refine lv_pop hx hb dL_law_298 rfl ?_
  refine lv_goto (tgt := 1930) hx hb dL_law_299 (by decide) ?_
  refine W.widen (k := cells + 2) (n := slots + 122) (Nat.le_add_right _ _) (Nat.le_add_right _ _) ?_
  exact kk aX uA vA f H locs ls ⟨rfl, hJX, hAX, hdis, hoX, hPX, hPM, hPo, hS, hIX, hIM, hEv, htie, hrow, htape, hcnt, hpar⟩ hl
theorem dL_law_302 : decode cL_law 302 = .ok (.aload_n 1, 1) := by decide +kernel
theorem dL_law_303 : decode cL_law 303 = .ok (.aload_n 0, 1) := by decide +kernel
theorem dL_law_304 : decode cL_law 304 = .ok (.iload 4, 2) := by decide +kernel
theorem dL_law_306 : decode cL_law 306 = .ok (.iconst 1, 1) := by decide +kernel
theorem dL_law_307 : decode cL_law 307 = .ok (.iadd, 1) := by decide +kernel
theorem dL_law_308 : decode cL_law 308 = .ok (.iaload, 1) := by decide +kernel
theorem dL_law_309 : decode cL_law 309 = .ok (.invokevirtual 29, 3) := by decide +kernel
theorem dL_law_312 : decode cL_law 312 = .ok (.pop, 1) := by decide +kernel
theorem dL_law_313 : decode cL_law 313 = .ok (.aload_n 2, 1) := by decide +kernel
theorem dL_law_314 : decode cL_law 314 = .ok (.aload_n 0, 1) := by decide +kernel
theorem dL_law_315 : decode cL_law 315 = .ok (.iload 4, 2) := by decide +kernel
theorem dL_law_317 : decode cL_law 317 = .ok (.iconst 1, 1) := by decide +kernel
theorem dL_law_318 : decode cL_law 318 = .ok (.iadd, 1) := by decide +kernel
theorem dL_law_319 : decode cL_law 319 = .ok (.iaload, 1) := by decide +kernel
theorem dL_law_320 : decode cL_law 320 = .ok (.invokevirtual 33, 3) := by decide +kernel
theorem dL_law_323 : decode cL_law 323 = .ok (.pop, 1) := by decide +kernel
theorem dL_law_324 : decode cL_law 324 = .ok (.goto 1606, 3) := by decide +kernel
set_option maxHeartbeats 4000000 in
set_option maxRecDepth 100000 in
theorem case_2 {p : Program} {e : Env} {s : State} {m : MethodId} {below : List Frame} {meth : Method} {c : Code} (l : Launch) (hfl : l.stackTraces = false) {b L : Nat} {xs : Nat → Int32} {D : va_G} {cy : Nat → ClassId} {st aM : Nat → Nat} {o x0 : Nat} {aX : Nat → Nat} {u v : SX} {f : Nat → Int64} {H : Heap} {locs : List Loc} {ls : Array Slot} {i : Int32} {cells slots : Nat} {Q : State → Prop} (F : LF p s m meth c b L xs D cy st aM o) (I : LI s D cy st aM o x0 aX u v f H locs) (hi0 : 0 ≤ i.toInt) (hi9 : i.toInt + 9 ≤ (L : Int)) (hcl : cells + 2 ≤ room_1.cells) (hsl : slots + 122 ≤ room_1.slots) (hl : lv_has ls 7 [(0, .ref b), (1, .ref x0), (2, .ref (aM 0)), (3, .ref o), (4, .int i)]) (kk : ∀ (aX : Nat → Nat) (u v : SX) (f : Nat → Int64) (H : Heap) (locs : List Loc) (ls : Array Slot), LI s D cy st aM o x0 aX u v f H locs → lv_has ls 7 [(0, .ref b), (1, .ref x0), (2, .ref (aM 0)), (3, .ref o), (4, .int i)] → W p l e room_1 s m #[Value.ref b] below meth c H locs (cells + 2) (slots + 122) Q (F0 m 1930 ls [])) : W p l e room_1 s m #[Value.ref b] below meth c H locs cells slots Q (F0 m 302 ls []) := by
  obtain ⟨C0, hL, hK, hJM, hAM, hoM, hso, hst, hE, hCL⟩ := F
  obtain ⟨hx, hb, hr, hml, hown, hts0, hX, hbl, hlocks, hgv⟩ := C0
  obtain ⟨hx0, hJX, hAX, hdis, hoX, hPX, hPM, hPo, hS, hIX, hIM, hEv, htie, hrow, htape, hcnt, hpar⟩ := I
  have hts : ∀ w ∈ wsL_law, w.before #[Value.ref b] s = true := fun w h => hts0 w (wsL_law_in w h)
  have hbA : ¬ (fun q : Nat => s.heap.size ≤ q) b := Nat.not_le.mpr hbl
  have hA0 : ∀ q, (fun q : Nat => s.heap.size ≤ q) q → st 100 ≤ q := fun q h => by rw [hst]; exact h
  have hfit : cells ≤ room_1.cells ∧ slots ≤ room_1.slots := ⟨Nat.le_trans (Nat.le_add_right _ _) hcl, Nat.le_trans (Nat.le_add_right _ _) hsl⟩
  subst hx0
  obtain ⟨y1, hy1⟩ : ∃ y, xs (i + 1).toNatClampNeg = y := ⟨_, rfl⟩
  have hin1 : vp_in (i + 1) L := in9 (show (1 : Int32).toInt = 1 by decide) hi0 hi9 hL (by decide) (by decide)
  refine lv_aload_n hx hb dL_law_302 rfl (lv_at hl 1 rfl) ?_
  refine lv_aload_n hx hb dL_law_303 rfl (lv_at hl 0 rfl) ?_
  refine lv_iload hx hb dL_law_304 (lv_at hl 4 rfl) ?_
  refine lv_iconst (v := 1) hx hb dL_law_306 (by decide) ?_
  refine lv_iadd hx hb dL_law_307 ?_
  refine sld9 (v := y1) hx hb hX hbl hbA hS hin1 hy1 dL_law_308 ?_
  obtain ⟨⟨r, uA⟩, hfX, hqX⟩ := tfX11_end_0 y1 u hIX
  refine lg_i (V := VX cy aX st) (Ad := AX aX) (As := [.int y1]) (rest := []) ⟨hx, hb, hml, hown, fun w h => hts0 w (gw_X11_end w h)⟩ hA0 hK hPX hS (fun q h => h.elim (hAX q) (fun z => Nat.le_trans hS.1 z)) (metX11_end_0 l D cy aX st hJX H.size y1 hfX) (cwV 1 (fun w h => hts0 w (gw_X11_end w h)) gx_X11_end rfl rfl rfl (by decide +kernel) ⟨Nat.le_of_ble_eq_true rfl, Nat.le_of_ble_eq_true rfl⟩) 0 11 rfl rfl rfl hl.1 rfl (Nat.le_of_ble_eq_true rfl) dL_law_309 hfit (fun H1 locs1 hP1 hkeep hS1 => ?_)
  have hPM1 := hkeep _ hPM (fun k q hq => hdis _ (VM_mem hq))
  have hPo1 := hkeep _ hPo (fun k q hq => by rw [oat hq]; exact hoX)
  have hIX1 : IX uA := hqX.1.1
  have hFX := hqX.1.2
  have hfrX := hqX.1.2.1
  have hrwX := hqX.1.2.2.1
  clear hPX hPM hPo hS hkeep
  have hPX := hP1
  have hPM := hPM1
  have hPo := hPo1
  have hS := hS1
  clear hP1 hPM1 hPo1 hS1 hqX
  generalize H1 = H at hPX hPo hPM hS ⊢
  generalize locs1 = locs at hS ⊢
  refine lv_pop hx hb dL_law_312 rfl ?_
  refine lv_aload_n hx hb dL_law_313 rfl (lv_at hl 2 rfl) ?_
  refine lv_aload_n hx hb dL_law_314 rfl (lv_at hl 0 rfl) ?_
  refine lv_iload hx hb dL_law_315 (lv_at hl 4 rfl) ?_
  refine lv_iconst (v := 1) hx hb dL_law_317 (by decide) ?_
  refine lv_iadd hx hb dL_law_318 ?_
  refine sld9 (v := y1) hx hb hX hbl hbA hS hin1 hy1 dL_law_319 ?_
  obtain ⟨⟨rM, vA⟩, hfM, hqM⟩ := tfX12_end_0 y1 v hIM
  refine lg_i (V := VM cy aM st) (Ad := AM aM) (As := [.int y1]) (rest := []) ⟨hx, hb, hml, hown, fun w h => hts0 w (gw_X12_end w h)⟩ hA0 hK hPM hS (fun q h => h.elim (hAM q) (fun z => Nat.le_trans hS.1 z)) (metX12_end_0 l D cy aM st hJM H.size y1 hfM) (cwV 1 (fun w h => hts0 w (gw_X12_end w h)) gx_X12_end rfl rfl rfl (by decide +kernel) ⟨Nat.le_of_ble_eq_true rfl, Nat.le_of_ble_eq_true rfl⟩) 0 12 rfl rfl rfl hl.1 rfl (Nat.le_of_ble_eq_true rfl) dL_law_320 hfit (fun H1 locs1 hP1 hkeep hS1 => ?_)
  have hPX1 := hkeep _ hPX (fun k q hq hz => hdis _ hz ⟨k, (VX_adr hq).1⟩)
  have hPo1 := hkeep _ hPo (fun k q hq => by rw [oat hq]; exact hoM)
  have hEv1 : EvM vA := EvM_fr (hqM.1.2.1 13 (by decide)) (hqM.1.2.1 14 (by decide)) (hqM.1.2.1 21 (by decide)) (hqM.1.2.2.1 33 (by decide)) hEv
  have htie1 : Tie uA vA := Tie_fr hfrX hqM.1.2.1 (by decide) htie
  have hrow1 : TieR uA vA := TieR_fr (hfrX 36 (by decide)) (hrwX 63 (by decide)) (hrwX 64 (by decide)) (hrwX 65 (by decide)) (hqM.1.2.2.1 36 (by decide)) (hqM.1.2.2.1 37 (by decide)) (hqM.1.2.2.1 38 (by decide)) hrow
  obtain ⟨er, htape1⟩ := end_eq hIX htape hfX hfM
  have hcnt1 : TieC uA vA := TieC_fr (hfrX 5 (by decide)) (hfrX 6 (by decide)) (hfrX 7 (by decide)) (hqM.1.2.2.1 4 (by decide)) hcnt
  have hpar1 : TieP uA vA := TieP_fr (hfrX 8 (by decide)) (hfrX 29 (by decide)) (hfrX 9 (by decide)) (hfrX 0 (by decide)) (hrwX 52 (by decide)) (hqM.1.2.1 12 (by decide)) (hqM.1.2.1 21 (by decide)) (hqM.1.2.1 14 (by decide)) (hqM.1.2.2.1 33 (by decide)) hpar
  have hIM1 : IM vA := hqM.1.1
  clear hPX hPM hPo hS hIM hEv htie hrow htape hcnt hpar hkeep hfrX hrwX hIX
  have hPX := hPX1
  have hPM := hP1
  have hPo := hPo1
  have hS := hS1
  have hIM := hIM1
  have hEv := hEv1
  have htie := htie1
  have hrow := hrow1
  have htape := htape1
  have hcnt := hcnt1
  have hpar := hpar1
  have hIX := hIX1
  clear hIX1
  clear hP1 hPX1 hPo1 hS1 hIM1 hEv1 htie1 hrow1 htape1 hcnt1 hpar1 hqM
  generalize H1 = H at hPX hPo hPM hS ⊢
  generalize locs1 = locs at hS ⊢
  refine lv_pop hx hb dL_law_323 rfl ?_
  refine lv_goto (tgt := 1930) hx hb dL_law_324 (by decide) ?_
  refine W.widen (k := cells + 2) (n := slots + 122) (Nat.le_add_right _ _) (Nat.le_add_right _ _) ?_
  exact kk aX uA vA f H locs ls ⟨rfl, hJX, hAX, hdis, hoX, hPX, hPM, hPo, hS, hIX, hIM, hEv, htie, hrow, htape, hcnt, hpar⟩ hl
theorem dL_law_327 : decode cL_law 327 = .ok (.aload_n 1, 1) := by decide +kernel
theorem dL_law_328 : decode cL_law 328 = .ok (.aload_n 0, 1) := by decide +kernel
theorem dL_law_329 : decode cL_law 329 = .ok (.iload 4, 2) := by decide +kernel
theorem dL_law_331 : decode cL_law 331 = .ok (.iconst 1, 1) := by decide +kernel
theorem dL_law_332 : decode cL_law 332 = .ok (.iadd, 1) := by decide +kernel
theorem dL_law_333 : decode cL_law 333 = .ok (.iaload, 1) := by decide +kernel
theorem dL_law_334 : decode cL_law 334 = .ok (.invokevirtual 34, 3) := by decide +kernel
theorem dL_law_337 : decode cL_law 337 = .ok (.pop, 1) := by decide +kernel
theorem dL_law_338 : decode cL_law 338 = .ok (.aload_n 2, 1) := by decide +kernel
theorem dL_law_339 : decode cL_law 339 = .ok (.aload_n 0, 1) := by decide +kernel
theorem dL_law_340 : decode cL_law 340 = .ok (.iload 4, 2) := by decide +kernel
theorem dL_law_342 : decode cL_law 342 = .ok (.iconst 1, 1) := by decide +kernel
theorem dL_law_343 : decode cL_law 343 = .ok (.iadd, 1) := by decide +kernel
theorem dL_law_344 : decode cL_law 344 = .ok (.iaload, 1) := by decide +kernel
theorem dL_law_345 : decode cL_law 345 = .ok (.invokevirtual 37, 3) := by decide +kernel
theorem dL_law_348 : decode cL_law 348 = .ok (.pop, 1) := by decide +kernel
theorem dL_law_349 : decode cL_law 349 = .ok (.goto 1581, 3) := by decide +kernel
set_option maxHeartbeats 4000000 in
set_option maxRecDepth 100000 in
theorem case_3 {p : Program} {e : Env} {s : State} {m : MethodId} {below : List Frame} {meth : Method} {c : Code} (l : Launch) (hfl : l.stackTraces = false) {b L : Nat} {xs : Nat → Int32} {D : va_G} {cy : Nat → ClassId} {st aM : Nat → Nat} {o x0 : Nat} {aX : Nat → Nat} {u v : SX} {f : Nat → Int64} {H : Heap} {locs : List Loc} {ls : Array Slot} {i : Int32} {cells slots : Nat} {Q : State → Prop} (F : LF p s m meth c b L xs D cy st aM o) (I : LI s D cy st aM o x0 aX u v f H locs) (hi0 : 0 ≤ i.toInt) (hi9 : i.toInt + 9 ≤ (L : Int)) (hcl : cells + 2 ≤ room_1.cells) (hsl : slots + 122 ≤ room_1.slots) (hl : lv_has ls 7 [(0, .ref b), (1, .ref x0), (2, .ref (aM 0)), (3, .ref o), (4, .int i)]) (kk : ∀ (aX : Nat → Nat) (u v : SX) (f : Nat → Int64) (H : Heap) (locs : List Loc) (ls : Array Slot), LI s D cy st aM o x0 aX u v f H locs → lv_has ls 7 [(0, .ref b), (1, .ref x0), (2, .ref (aM 0)), (3, .ref o), (4, .int i)] → W p l e room_1 s m #[Value.ref b] below meth c H locs (cells + 2) (slots + 122) Q (F0 m 1930 ls [])) : W p l e room_1 s m #[Value.ref b] below meth c H locs cells slots Q (F0 m 327 ls []) := by
  obtain ⟨C0, hL, hK, hJM, hAM, hoM, hso, hst, hE, hCL⟩ := F
  obtain ⟨hx, hb, hr, hml, hown, hts0, hX, hbl, hlocks, hgv⟩ := C0
  obtain ⟨hx0, hJX, hAX, hdis, hoX, hPX, hPM, hPo, hS, hIX, hIM, hEv, htie, hrow, htape, hcnt, hpar⟩ := I
  have hts : ∀ w ∈ wsL_law, w.before #[Value.ref b] s = true := fun w h => hts0 w (wsL_law_in w h)
  have hbA : ¬ (fun q : Nat => s.heap.size ≤ q) b := Nat.not_le.mpr hbl
  have hA0 : ∀ q, (fun q : Nat => s.heap.size ≤ q) q → st 100 ≤ q := fun q h => by rw [hst]; exact h
  have hfit : cells ≤ room_1.cells ∧ slots ≤ room_1.slots := ⟨Nat.le_trans (Nat.le_add_right _ _) hcl, Nat.le_trans (Nat.le_add_right _ _) hsl⟩
  subst hx0
  obtain ⟨y1, hy1⟩ : ∃ y, xs (i + 1).toNatClampNeg = y := ⟨_, rfl⟩
  have hin1 : vp_in (i + 1) L := in9 (show (1 : Int32).toInt = 1 by decide) hi0 hi9 hL (by decide) (by decide)
  refine lv_aload_n hx hb dL_law_327 rfl (lv_at hl 1 rfl) ?_
  refine lv_aload_n hx hb dL_law_328 rfl (lv_at hl 0 rfl) ?_
  refine lv_iload hx hb dL_law_329 (lv_at hl 4 rfl) ?_
  refine lv_iconst (v := 1) hx hb dL_law_331 (by decide) ?_
  refine lv_iadd hx hb dL_law_332 ?_
  refine sld9 (v := y1) hx hb hX hbl hbA hS hin1 hy1 dL_law_333 ?_
  obtain ⟨⟨r, uA⟩, hfX, hqX⟩ := tfX11_fault_0 y1 u hIX
  refine lg_i (V := VX cy aX st) (Ad := AX aX) (As := [.int y1]) (rest := []) ⟨hx, hb, hml, hown, fun w h => hts0 w (gw_X11_fault w h)⟩ hA0 hK hPX hS (fun q h => h.elim (hAX q) (fun z => Nat.le_trans hS.1 z)) (metX11_fault_0 l D cy aX st hJX H.size y1 hfX) (cwV 1 (fun w h => hts0 w (gw_X11_fault w h)) gx_X11_fault rfl rfl rfl (by decide +kernel) ⟨Nat.le_of_ble_eq_true rfl, Nat.le_of_ble_eq_true rfl⟩) 0 11 rfl rfl rfl hl.1 rfl (Nat.le_of_ble_eq_true rfl) dL_law_334 hfit (fun H1 locs1 hP1 hkeep hS1 => ?_)
  have hPM1 := hkeep _ hPM (fun k q hq => hdis _ (VM_mem hq))
  have hPo1 := hkeep _ hPo (fun k q hq => by rw [oat hq]; exact hoX)
  have hIX1 : IX uA := hqX.1.1
  have hFX := hqX.1.2
  have hfrX := hqX.1.2.1
  have hrwX := hqX.1.2.2.1
  clear hPX hPM hPo hS hkeep
  have hPX := hP1
  have hPM := hPM1
  have hPo := hPo1
  have hS := hS1
  clear hP1 hPM1 hPo1 hS1 hqX
  generalize H1 = H at hPX hPo hPM hS ⊢
  generalize locs1 = locs at hS ⊢
  refine lv_pop hx hb dL_law_337 rfl ?_
  refine lv_aload_n hx hb dL_law_338 rfl (lv_at hl 2 rfl) ?_
  refine lv_aload_n hx hb dL_law_339 rfl (lv_at hl 0 rfl) ?_
  refine lv_iload hx hb dL_law_340 (lv_at hl 4 rfl) ?_
  refine lv_iconst (v := 1) hx hb dL_law_342 (by decide) ?_
  refine lv_iadd hx hb dL_law_343 ?_
  refine sld9 (v := y1) hx hb hX hbl hbA hS hin1 hy1 dL_law_344 ?_
  obtain ⟨⟨rM, vA⟩, hfM, hqM⟩ := tfX12_fault_0 y1 v hIM
  refine lg_i (V := VM cy aM st) (Ad := AM aM) (As := [.int y1]) (rest := []) ⟨hx, hb, hml, hown, fun w h => hts0 w (gw_X12_fault w h)⟩ hA0 hK hPM hS (fun q h => h.elim (hAM q) (fun z => Nat.le_trans hS.1 z)) (metX12_fault_0 l D cy aM st hJM H.size y1 hfM) (cwV 1 (fun w h => hts0 w (gw_X12_fault w h)) gx_X12_fault rfl rfl rfl (by decide +kernel) ⟨Nat.le_of_ble_eq_true rfl, Nat.le_of_ble_eq_true rfl⟩) 0 12 rfl rfl rfl hl.1 rfl (Nat.le_of_ble_eq_true rfl) dL_law_345 hfit (fun H1 locs1 hP1 hkeep hS1 => ?_)
  have hPX1 := hkeep _ hPX (fun k q hq hz => hdis _ hz ⟨k, (VX_adr hq).1⟩)
  have hPo1 := hkeep _ hPo (fun k q hq => by rw [oat hq]; exact hoM)
  have hEv1 : EvM vA := EvM_fr (hqM.1.2.1 13 (by decide)) (hqM.1.2.1 14 (by decide)) (hqM.1.2.1 21 (by decide)) (hqM.1.2.2.1 33 (by decide)) hEv
  have htie1 : Tie uA vA := Tie_fr hfrX hqM.1.2.1 (by decide) htie
  have hrow1 : TieR uA vA := TieR_fr (hfrX 36 (by decide)) (hrwX 63 (by decide)) (hrwX 64 (by decide)) (hrwX 65 (by decide)) (hqM.1.2.2.1 36 (by decide)) (hqM.1.2.2.1 37 (by decide)) (hqM.1.2.2.1 38 (by decide)) hrow
  have htape1 : TieT uA vA := TieT_fr (hfrX 1 (by decide)) (hrwX 13 (by decide)) (hqM.1.2.1 3 (by decide)) (hqM.1.2.2.1 1 (by decide)) htape
  have hcnt1 : TieC uA vA := TieC_fr (hfrX 5 (by decide)) (hfrX 6 (by decide)) (hfrX 7 (by decide)) (hqM.1.2.2.1 4 (by decide)) hcnt
  have hpar1 : TieP uA vA := TieP_fr (hfrX 8 (by decide)) (hfrX 29 (by decide)) (hfrX 9 (by decide)) (hfrX 0 (by decide)) (hrwX 52 (by decide)) (hqM.1.2.1 12 (by decide)) (hqM.1.2.1 21 (by decide)) (hqM.1.2.1 14 (by decide)) (hqM.1.2.2.1 33 (by decide)) hpar
  have hIM1 : IM vA := hqM.1.1
  clear hPX hPM hPo hS hIM hEv htie hrow htape hcnt hpar hkeep hfrX hrwX hIX
  have hPX := hPX1
  have hPM := hP1
  have hPo := hPo1
  have hS := hS1
  have hIM := hIM1
  have hEv := hEv1
  have htie := htie1
  have hrow := hrow1
  have htape := htape1
  have hcnt := hcnt1
  have hpar := hpar1
  have hIX := hIX1
  clear hIX1
  clear hP1 hPX1 hPo1 hS1 hIM1 hEv1 htie1 hrow1 htape1 hcnt1 hpar1 hqM
  generalize H1 = H at hPX hPo hPM hS ⊢
  generalize locs1 = locs at hS ⊢
  refine lv_pop hx hb dL_law_348 rfl ?_
  refine lv_goto (tgt := 1930) hx hb dL_law_349 (by decide) ?_
  refine W.widen (k := cells + 2) (n := slots + 122) (Nat.le_add_right _ _) (Nat.le_add_right _ _) ?_
  exact kk aX uA vA f H locs ls ⟨rfl, hJX, hAX, hdis, hoX, hPX, hPM, hPo, hS, hIX, hIM, hEv, htie, hrow, htape, hcnt, hpar⟩ hl
theorem dL_law_352 : decode cL_law 352 = .ok (.aload_n 1, 1) := by decide +kernel
theorem dL_law_353 : decode cL_law 353 = .ok (.aload_n 0, 1) := by decide +kernel
theorem dL_law_354 : decode cL_law 354 = .ok (.iload 4, 2) := by decide +kernel
theorem dL_law_356 : decode cL_law 356 = .ok (.iconst 1, 1) := by decide +kernel
theorem dL_law_357 : decode cL_law 357 = .ok (.iadd, 1) := by decide +kernel
theorem dL_law_358 : decode cL_law 358 = .ok (.iaload, 1) := by decide +kernel
theorem dL_law_359 : decode cL_law 359 = .ok (.invokevirtual 38, 3) := by decide +kernel
theorem dL_law_362 : decode cL_law 362 = .ok (.pop, 1) := by decide +kernel
theorem dL_law_363 : decode cL_law 363 = .ok (.aload_n 2, 1) := by decide +kernel
theorem dL_law_364 : decode cL_law 364 = .ok (.aload_n 0, 1) := by decide +kernel
theorem dL_law_365 : decode cL_law 365 = .ok (.iload 4, 2) := by decide +kernel
theorem dL_law_367 : decode cL_law 367 = .ok (.iconst 1, 1) := by decide +kernel
theorem dL_law_368 : decode cL_law 368 = .ok (.iadd, 1) := by decide +kernel
theorem dL_law_369 : decode cL_law 369 = .ok (.iaload, 1) := by decide +kernel
theorem dL_law_370 : decode cL_law 370 = .ok (.invokevirtual 41, 3) := by decide +kernel
theorem dL_law_373 : decode cL_law 373 = .ok (.pop, 1) := by decide +kernel
theorem dL_law_374 : decode cL_law 374 = .ok (.goto 1556, 3) := by decide +kernel
set_option maxHeartbeats 4000000 in
set_option maxRecDepth 100000 in
theorem case_4 {p : Program} {e : Env} {s : State} {m : MethodId} {below : List Frame} {meth : Method} {c : Code} (l : Launch) (hfl : l.stackTraces = false) {b L : Nat} {xs : Nat → Int32} {D : va_G} {cy : Nat → ClassId} {st aM : Nat → Nat} {o x0 : Nat} {aX : Nat → Nat} {u v : SX} {f : Nat → Int64} {H : Heap} {locs : List Loc} {ls : Array Slot} {i : Int32} {cells slots : Nat} {Q : State → Prop} (F : LF p s m meth c b L xs D cy st aM o) (I : LI s D cy st aM o x0 aX u v f H locs) (hi0 : 0 ≤ i.toInt) (hi9 : i.toInt + 9 ≤ (L : Int)) (hcl : cells + 2 ≤ room_1.cells) (hsl : slots + 122 ≤ room_1.slots) (hl : lv_has ls 7 [(0, .ref b), (1, .ref x0), (2, .ref (aM 0)), (3, .ref o), (4, .int i)]) (kk : ∀ (aX : Nat → Nat) (u v : SX) (f : Nat → Int64) (H : Heap) (locs : List Loc) (ls : Array Slot), LI s D cy st aM o x0 aX u v f H locs → lv_has ls 7 [(0, .ref b), (1, .ref x0), (2, .ref (aM 0)), (3, .ref o), (4, .int i)] → W p l e room_1 s m #[Value.ref b] below meth c H locs (cells + 2) (slots + 122) Q (F0 m 1930 ls [])) : W p l e room_1 s m #[Value.ref b] below meth c H locs cells slots Q (F0 m 352 ls []) := by
  obtain ⟨C0, hL, hK, hJM, hAM, hoM, hso, hst, hE, hCL⟩ := F
  obtain ⟨hx, hb, hr, hml, hown, hts0, hX, hbl, hlocks, hgv⟩ := C0
  obtain ⟨hx0, hJX, hAX, hdis, hoX, hPX, hPM, hPo, hS, hIX, hIM, hEv, htie, hrow, htape, hcnt, hpar⟩ := I
  have hts : ∀ w ∈ wsL_law, w.before #[Value.ref b] s = true := fun w h => hts0 w (wsL_law_in w h)
  have hbA : ¬ (fun q : Nat => s.heap.size ≤ q) b := Nat.not_le.mpr hbl
  have hA0 : ∀ q, (fun q : Nat => s.heap.size ≤ q) q → st 100 ≤ q := fun q h => by rw [hst]; exact h
  have hfit : cells ≤ room_1.cells ∧ slots ≤ room_1.slots := ⟨Nat.le_trans (Nat.le_add_right _ _) hcl, Nat.le_trans (Nat.le_add_right _ _) hsl⟩
  subst hx0
  obtain ⟨y1, hy1⟩ : ∃ y, xs (i + 1).toNatClampNeg = y := ⟨_, rfl⟩
  have hin1 : vp_in (i + 1) L := in9 (show (1 : Int32).toInt = 1 by decide) hi0 hi9 hL (by decide) (by decide)
  refine lv_aload_n hx hb dL_law_352 rfl (lv_at hl 1 rfl) ?_
  refine lv_aload_n hx hb dL_law_353 rfl (lv_at hl 0 rfl) ?_
  refine lv_iload hx hb dL_law_354 (lv_at hl 4 rfl) ?_
  refine lv_iconst (v := 1) hx hb dL_law_356 (by decide) ?_
  refine lv_iadd hx hb dL_law_357 ?_
  refine sld9 (v := y1) hx hb hX hbl hbA hS hin1 hy1 dL_law_358 ?_
  refine lg_text l ⟨hx, hb, hml, hown, fun w h => hts0 w (gw_X11_text w h)⟩ hA0 hK hCL hJX hPX hS hAX hIX (x1 := y1) (cwV 1 (fun w h => hts0 w (gw_X11_text w h)) gx_X11_text rfl rfl rfl (by decide +kernel) ⟨Nat.le_of_ble_eq_true rfl, Nat.le_of_ble_eq_true rfl⟩) hl.1 dL_law_359 ⟨hcl, hsl⟩ (fun r aY uA H1 locs1 g1 g2 g3 g4 g5 g7 g6 hkeep hS1 => ?_)
  have hPM1 := hkeep _ hPM (fun k q hq => hdis _ (VM_mem hq))
  have hPo1 := hkeep _ hPo (fun k q hq => by rw [oat hq]; exact hoX)
  have hAY : ∀ q, AX aY q → s.heap.size ≤ q := fun q h => (g3 q h).elim (hAX q) (fun z => Nat.le_trans hS.1 z)
  have hdY : ∀ q, AM aM q → ¬ AX aY q := fun q h z => (g3 q z).elim (hdis q h) (fun z => absurd (AM_lt hPM q h) (Nat.not_lt.mpr z))
  have hoY : ¬ AX aY o := fun z => (g3 o z).elim hoX (fun z => absurd (hPo 0 _ rfl).lt (Nat.not_lt.mpr z))
  have hfrX := g5.1
  have hrwX := g5.2
  clear hPX hPM hPo hAX hdis hoX hS hJX hkeep
  have hPX := g6
  have hPM := hPM1
  have hPo := hPo1
  have hAX := hAY
  have hdis := hdY
  have hoX := hoY
  have hS := hS1
  have hIX1 := g4
  have hJX := g2
  clear g6 hPM1 hPo1 hAY hdY hoY hS1 g4 g2 g3
  generalize H1 = H at hPX hPo hPM hS ⊢
  generalize locs1 = locs at hS ⊢
  have hfit1 : cells + 2 ≤ room_1.cells ∧ slots + 122 ≤ room_1.slots := ⟨hcl, hsl⟩
  refine lv_pop hx hb dL_law_362 rfl ?_
  refine lv_aload_n hx hb dL_law_363 rfl (lv_at hl 2 rfl) ?_
  refine lv_aload_n hx hb dL_law_364 rfl (lv_at hl 0 rfl) ?_
  refine lv_iload hx hb dL_law_365 (lv_at hl 4 rfl) ?_
  refine lv_iconst (v := 1) hx hb dL_law_367 (by decide) ?_
  refine lv_iadd hx hb dL_law_368 ?_
  refine sld9 (v := y1) hx hb hX hbl hbA hS hin1 hy1 dL_law_369 ?_
  obtain ⟨⟨rM, vA⟩, hfM, hqM⟩ := tfX12_text_0 y1 v hIM
  refine lg_i (V := VM cy aM st) (Ad := AM aM) (As := [.int y1]) (rest := []) ⟨hx, hb, hml, hown, fun w h => hts0 w (gw_X12_text w h)⟩ hA0 hK hPM hS (fun q h => h.elim (hAM q) (fun z => Nat.le_trans hS.1 z)) (metX12_text_0 l D cy aM st hJM H.size y1 hfM) (cwV 1 (fun w h => hts0 w (gw_X12_text w h)) gx_X12_text rfl rfl rfl (by decide +kernel) ⟨Nat.le_of_ble_eq_true rfl, Nat.le_of_ble_eq_true rfl⟩) 0 12 rfl rfl rfl hl.1 rfl (Nat.le_of_ble_eq_true rfl) dL_law_370 hfit1 (fun H1 locs1 hP1 hkeep hS1 => ?_)
  have hPX1 := hkeep _ hPX (fun k q hq hz => hdis _ hz ⟨k, (VX_adr hq).1⟩)
  have hPo1 := hkeep _ hPo (fun k q hq => by rw [oat hq]; exact hoM)
  have hEv1 : EvM vA := EvM_fr (hqM.1.2.1 13 (by decide)) (hqM.1.2.1 14 (by decide)) (hqM.1.2.1 21 (by decide)) (hqM.1.2.2.1 33 (by decide)) hEv
  have htie1 : Tie uA vA := Tie_fr hfrX hqM.1.2.1 (by decide) htie
  have hrow1 : TieR uA vA := TieR_fr (hfrX 36 (by decide)) (hrwX 63 (by decide)) (hrwX 64 (by decide)) (hrwX 65 (by decide)) (hqM.1.2.2.1 36 (by decide)) (hqM.1.2.2.1 37 (by decide)) (hqM.1.2.2.1 38 (by decide)) hrow
  obtain ⟨er, htape1, hcnt1⟩ := text_eq hIX hIM htape hcnt g7 hfM
  have hpar1 : TieP uA vA := TieP_fr (hfrX 8 (by decide)) (hfrX 29 (by decide)) (hfrX 9 (by decide)) (hfrX 0 (by decide)) (hrwX 52 (by decide)) (hqM.1.2.1 12 (by decide)) (hqM.1.2.1 21 (by decide)) (hqM.1.2.1 14 (by decide)) (hqM.1.2.2.1 33 (by decide)) hpar
  have hIM1 : IM vA := hqM.1.1
  clear hPX hPM hPo hS hIM hEv htie hrow htape hcnt hpar hkeep hfrX hrwX hIX
  have hPX := hPX1
  have hPM := hP1
  have hPo := hPo1
  have hS := hS1
  have hIM := hIM1
  have hEv := hEv1
  have htie := htie1
  have hrow := hrow1
  have htape := htape1
  have hcnt := hcnt1
  have hpar := hpar1
  have hIX := hIX1
  clear hIX1
  clear hP1 hPX1 hPo1 hS1 hIM1 hEv1 htie1 hrow1 htape1 hcnt1 hpar1 hqM
  generalize H1 = H at hPX hPo hPM hS ⊢
  generalize locs1 = locs at hS ⊢
  refine lv_pop hx hb dL_law_373 rfl ?_
  refine lv_goto (tgt := 1930) hx hb dL_law_374 (by decide) ?_
  exact kk aY uA vA f H locs ls ⟨g1, hJX, hAX, hdis, hoX, hPX, hPM, hPo, hS, hIX, hIM, hEv, htie, hrow, htape, hcnt, hpar⟩ hl
theorem dL_law_377 : decode cL_law 377 = .ok (.aload_n 1, 1) := by decide +kernel
theorem dL_law_378 : decode cL_law 378 = .ok (.aload_n 0, 1) := by decide +kernel
theorem dL_law_379 : decode cL_law 379 = .ok (.iload 4, 2) := by decide +kernel
theorem dL_law_381 : decode cL_law 381 = .ok (.iconst 1, 1) := by decide +kernel
theorem dL_law_382 : decode cL_law 382 = .ok (.iadd, 1) := by decide +kernel
theorem dL_law_383 : decode cL_law 383 = .ok (.iaload, 1) := by decide +kernel
theorem dL_law_384 : decode cL_law 384 = .ok (.aload_n 0, 1) := by decide +kernel
theorem dL_law_385 : decode cL_law 385 = .ok (.iload 4, 2) := by decide +kernel
theorem dL_law_387 : decode cL_law 387 = .ok (.iconst 2, 1) := by decide +kernel
theorem dL_law_388 : decode cL_law 388 = .ok (.iadd, 1) := by decide +kernel
theorem dL_law_389 : decode cL_law 389 = .ok (.iaload, 1) := by decide +kernel
theorem dL_law_390 : decode cL_law 390 = .ok (.aload_n 0, 1) := by decide +kernel
theorem dL_law_391 : decode cL_law 391 = .ok (.iload 4, 2) := by decide +kernel
theorem dL_law_393 : decode cL_law 393 = .ok (.iconst 3, 1) := by decide +kernel
theorem dL_law_394 : decode cL_law 394 = .ok (.iadd, 1) := by decide +kernel
theorem dL_law_395 : decode cL_law 395 = .ok (.iaload, 1) := by decide +kernel
theorem dL_law_396 : decode cL_law 396 = .ok (.aload_n 0, 1) := by decide +kernel
theorem dL_law_397 : decode cL_law 397 = .ok (.iload 4, 2) := by decide +kernel
theorem dL_law_399 : decode cL_law 399 = .ok (.iconst 4, 1) := by decide +kernel
theorem dL_law_400 : decode cL_law 400 = .ok (.iadd, 1) := by decide +kernel
theorem dL_law_401 : decode cL_law 401 = .ok (.iaload, 1) := by decide +kernel
theorem dL_law_402 : decode cL_law 402 = .ok (.aload_n 0, 1) := by decide +kernel
theorem dL_law_403 : decode cL_law 403 = .ok (.iload 4, 2) := by decide +kernel
theorem dL_law_405 : decode cL_law 405 = .ok (.iconst 5, 1) := by decide +kernel
theorem dL_law_406 : decode cL_law 406 = .ok (.iadd, 1) := by decide +kernel
theorem dL_law_407 : decode cL_law 407 = .ok (.iaload, 1) := by decide +kernel
theorem dL_law_408 : decode cL_law 408 = .ok (.aload_n 0, 1) := by decide +kernel
theorem dL_law_409 : decode cL_law 409 = .ok (.iload 4, 2) := by decide +kernel
theorem dL_law_411 : decode cL_law 411 = .ok (.bipush 6, 2) := by decide +kernel
theorem dL_law_413 : decode cL_law 413 = .ok (.iadd, 1) := by decide +kernel
theorem dL_law_414 : decode cL_law 414 = .ok (.iaload, 1) := by decide +kernel
theorem dL_law_415 : decode cL_law 415 = .ok (.aload_n 0, 1) := by decide +kernel
theorem dL_law_416 : decode cL_law 416 = .ok (.iload 4, 2) := by decide +kernel
theorem dL_law_418 : decode cL_law 418 = .ok (.bipush 7, 2) := by decide +kernel
theorem dL_law_420 : decode cL_law 420 = .ok (.iadd, 1) := by decide +kernel
theorem dL_law_421 : decode cL_law 421 = .ok (.iaload, 1) := by decide +kernel
theorem dL_law_422 : decode cL_law 422 = .ok (.aload_n 3, 1) := by decide +kernel
set_option maxRecDepth 20000 in
theorem ggL_law_L_worth : GoodIn wsL_law wsL_worth := goodIn_ca (goodIn_r _ [545, 546, 547, 548, 549, 2, 550, 551, 552, 25, 553, 554, 555, 24, 556, 506, 557, 558, 559, 237, 238, 239, 560, 561, 562, 563, 564, 565, 566, 567, 78, 568, 569, 570, 571, 77, 74, 572, 573, 574, 575, 513, 576, 532, 577, 578, 579, 580, 581, 582, 583, 584, 585, 472, 346, 473, 586, 475, 476, 1445, 1446, 1447, 1448, 1449, 1450, 1451, 1452, 1453, 1454, 1455, 1456, 1457, 1534, 1535, 1536, 1537, 1538, 1634] rfl (by decide +kernel)) (goodIn_sub (fun _ h => List.mem_append_right _ h) (by decide +kernel))
set_option maxRecDepth 20000 in
theorem gL_law_L_worth : GoodIn wsL_law (va_wsS RL 42 yL_worth wsL_worth) := goodIn_app (goodIn_of _ (by decide +kernel)) ggL_law_L_worth
theorem dL_law_423 : decode cL_law 423 = .ok (.invokestatic 42, 3) := by decide +kernel
theorem dL_law_426 : decode cL_law 426 = .ok (.istore 5, 2) := by decide +kernel
theorem dL_law_428 : decode cL_law 428 = .ok (.aload_n 2, 1) := by decide +kernel
theorem dL_law_429 : decode cL_law 429 = .ok (.aload_n 0, 1) := by decide +kernel
theorem dL_law_430 : decode cL_law 430 = .ok (.iload 4, 2) := by decide +kernel
theorem dL_law_432 : decode cL_law 432 = .ok (.iconst 1, 1) := by decide +kernel
theorem dL_law_433 : decode cL_law 433 = .ok (.iadd, 1) := by decide +kernel
theorem dL_law_434 : decode cL_law 434 = .ok (.iaload, 1) := by decide +kernel
theorem dL_law_435 : decode cL_law 435 = .ok (.aload_n 0, 1) := by decide +kernel
theorem dL_law_436 : decode cL_law 436 = .ok (.iload 4, 2) := by decide +kernel
theorem dL_law_438 : decode cL_law 438 = .ok (.iconst 2, 1) := by decide +kernel
theorem dL_law_439 : decode cL_law 439 = .ok (.iadd, 1) := by decide +kernel
theorem dL_law_440 : decode cL_law 440 = .ok (.iaload, 1) := by decide +kernel
theorem dL_law_441 : decode cL_law 441 = .ok (.aload_n 0, 1) := by decide +kernel
theorem dL_law_442 : decode cL_law 442 = .ok (.iload 4, 2) := by decide +kernel
theorem dL_law_444 : decode cL_law 444 = .ok (.iconst 3, 1) := by decide +kernel
theorem dL_law_445 : decode cL_law 445 = .ok (.iadd, 1) := by decide +kernel
theorem dL_law_446 : decode cL_law 446 = .ok (.iaload, 1) := by decide +kernel
theorem dL_law_447 : decode cL_law 447 = .ok (.aload_n 0, 1) := by decide +kernel
theorem dL_law_448 : decode cL_law 448 = .ok (.iload 4, 2) := by decide +kernel
theorem dL_law_450 : decode cL_law 450 = .ok (.iconst 4, 1) := by decide +kernel
theorem dL_law_451 : decode cL_law 451 = .ok (.iadd, 1) := by decide +kernel
theorem dL_law_452 : decode cL_law 452 = .ok (.iaload, 1) := by decide +kernel
theorem dL_law_453 : decode cL_law 453 = .ok (.aload_n 0, 1) := by decide +kernel
theorem dL_law_454 : decode cL_law 454 = .ok (.iload 4, 2) := by decide +kernel
theorem dL_law_456 : decode cL_law 456 = .ok (.iconst 5, 1) := by decide +kernel
theorem dL_law_457 : decode cL_law 457 = .ok (.iadd, 1) := by decide +kernel
theorem dL_law_458 : decode cL_law 458 = .ok (.iaload, 1) := by decide +kernel
theorem dL_law_459 : decode cL_law 459 = .ok (.aload_n 0, 1) := by decide +kernel
theorem dL_law_460 : decode cL_law 460 = .ok (.iload 4, 2) := by decide +kernel
theorem dL_law_462 : decode cL_law 462 = .ok (.bipush 6, 2) := by decide +kernel
theorem dL_law_464 : decode cL_law 464 = .ok (.iadd, 1) := by decide +kernel
theorem dL_law_465 : decode cL_law 465 = .ok (.iaload, 1) := by decide +kernel
theorem dL_law_466 : decode cL_law 466 = .ok (.aload_n 0, 1) := by decide +kernel
theorem dL_law_467 : decode cL_law 467 = .ok (.iload 4, 2) := by decide +kernel
theorem dL_law_469 : decode cL_law 469 = .ok (.bipush 7, 2) := by decide +kernel
theorem dL_law_471 : decode cL_law 471 = .ok (.iadd, 1) := by decide +kernel
theorem dL_law_472 : decode cL_law 472 = .ok (.iaload, 1) := by decide +kernel
theorem dL_law_473 : decode cL_law 473 = .ok (.invokevirtual 47, 3) := by decide +kernel
theorem dL_law_476 : decode cL_law 476 = .ok (.istore 6, 2) := by decide +kernel
theorem dL_law_478 : decode cL_law 478 = .ok (.goto 1452, 3) := by decide +kernel
set_option maxHeartbeats 4000000 in
set_option maxRecDepth 100000 in
theorem case_5 {p : Program} {e : Env} {s : State} {m : MethodId} {below : List Frame} {meth : Method} {c : Code} (l : Launch) (hfl : l.stackTraces = false) {b L : Nat} {xs : Nat → Int32} {D : va_G} {cy : Nat → ClassId} {st aM : Nat → Nat} {o x0 : Nat} {aX : Nat → Nat} {u v : SX} {f : Nat → Int64} {H : Heap} {locs : List Loc} {ls : Array Slot} {i : Int32} {cells slots : Nat} {Q : State → Prop} (F : LF p s m meth c b L xs D cy st aM o) (I : LI s D cy st aM o x0 aX u v f H locs) (hi0 : 0 ≤ i.toInt) (hi9 : i.toInt + 9 ≤ (L : Int)) (hcl : cells + 2 ≤ room_1.cells) (hsl : slots + 122 ≤ room_1.slots) (hl : lv_has ls 7 [(0, .ref b), (1, .ref x0), (2, .ref (aM 0)), (3, .ref o), (4, .int i)]) (kk : ∀ (aX : Nat → Nat) (u v : SX) (f : Nat → Int64) (H : Heap) (locs : List Loc) (ls : Array Slot), LI s D cy st aM o x0 aX u v f H locs → lv_has ls 7 [(0, .ref b), (1, .ref x0), (2, .ref (aM 0)), (3, .ref o), (4, .int i)] → W p l e room_1 s m #[Value.ref b] below meth c H locs (cells + 2) (slots + 122) Q (F0 m 1930 ls [])) : W p l e room_1 s m #[Value.ref b] below meth c H locs cells slots Q (F0 m 377 ls []) := by
  obtain ⟨C0, hL, hK, hJM, hAM, hoM, hso, hst, hE, hCL⟩ := F
  obtain ⟨hx, hb, hr, hml, hown, hts0, hX, hbl, hlocks, hgv⟩ := C0
  obtain ⟨hx0, hJX, hAX, hdis, hoX, hPX, hPM, hPo, hS, hIX, hIM, hEv, htie, hrow, htape, hcnt, hpar⟩ := I
  have hts : ∀ w ∈ wsL_law, w.before #[Value.ref b] s = true := fun w h => hts0 w (wsL_law_in w h)
  have hbA : ¬ (fun q : Nat => s.heap.size ≤ q) b := Nat.not_le.mpr hbl
  have hA0 : ∀ q, (fun q : Nat => s.heap.size ≤ q) q → st 100 ≤ q := fun q h => by rw [hst]; exact h
  have hfit : cells ≤ room_1.cells ∧ slots ≤ room_1.slots := ⟨Nat.le_trans (Nat.le_add_right _ _) hcl, Nat.le_trans (Nat.le_add_right _ _) hsl⟩
  subst hx0
  obtain ⟨y1, hy1⟩ : ∃ y, xs (i + 1).toNatClampNeg = y := ⟨_, rfl⟩
  have hin1 : vp_in (i + 1) L := in9 (show (1 : Int32).toInt = 1 by decide) hi0 hi9 hL (by decide) (by decide)
  obtain ⟨y2, hy2⟩ : ∃ y, xs (i + 2).toNatClampNeg = y := ⟨_, rfl⟩
  have hin2 : vp_in (i + 2) L := in9 (show (2 : Int32).toInt = 2 by decide) hi0 hi9 hL (by decide) (by decide)
  obtain ⟨y3, hy3⟩ : ∃ y, xs (i + 3).toNatClampNeg = y := ⟨_, rfl⟩
  have hin3 : vp_in (i + 3) L := in9 (show (3 : Int32).toInt = 3 by decide) hi0 hi9 hL (by decide) (by decide)
  obtain ⟨y4, hy4⟩ : ∃ y, xs (i + 4).toNatClampNeg = y := ⟨_, rfl⟩
  have hin4 : vp_in (i + 4) L := in9 (show (4 : Int32).toInt = 4 by decide) hi0 hi9 hL (by decide) (by decide)
  obtain ⟨y5, hy5⟩ : ∃ y, xs (i + 5).toNatClampNeg = y := ⟨_, rfl⟩
  have hin5 : vp_in (i + 5) L := in9 (show (5 : Int32).toInt = 5 by decide) hi0 hi9 hL (by decide) (by decide)
  obtain ⟨y6, hy6⟩ : ∃ y, xs (i + 6).toNatClampNeg = y := ⟨_, rfl⟩
  have hin6 : vp_in (i + 6) L := in9 (show (6 : Int32).toInt = 6 by decide) hi0 hi9 hL (by decide) (by decide)
  obtain ⟨y7, hy7⟩ : ∃ y, xs (i + 7).toNatClampNeg = y := ⟨_, rfl⟩
  have hin7 : vp_in (i + 7) L := in9 (show (7 : Int32).toInt = 7 by decide) hi0 hi9 hL (by decide) (by decide)
  refine lv_aload_n hx hb dL_law_377 rfl (lv_at hl 1 rfl) ?_
  refine lv_aload_n hx hb dL_law_378 rfl (lv_at hl 0 rfl) ?_
  refine lv_iload hx hb dL_law_379 (lv_at hl 4 rfl) ?_
  refine lv_iconst (v := 1) hx hb dL_law_381 (by decide) ?_
  refine lv_iadd hx hb dL_law_382 ?_
  refine sld9 (v := y1) hx hb hX hbl hbA hS hin1 hy1 dL_law_383 ?_
  refine lv_aload_n hx hb dL_law_384 rfl (lv_at hl 0 rfl) ?_
  refine lv_iload hx hb dL_law_385 (lv_at hl 4 rfl) ?_
  refine lv_iconst (v := 2) hx hb dL_law_387 (by decide) ?_
  refine lv_iadd hx hb dL_law_388 ?_
  refine sld9 (v := y2) hx hb hX hbl hbA hS hin2 hy2 dL_law_389 ?_
  refine lv_aload_n hx hb dL_law_390 rfl (lv_at hl 0 rfl) ?_
  refine lv_iload hx hb dL_law_391 (lv_at hl 4 rfl) ?_
  refine lv_iconst (v := 3) hx hb dL_law_393 (by decide) ?_
  refine lv_iadd hx hb dL_law_394 ?_
  refine sld9 (v := y3) hx hb hX hbl hbA hS hin3 hy3 dL_law_395 ?_
  refine lv_aload_n hx hb dL_law_396 rfl (lv_at hl 0 rfl) ?_
  refine lv_iload hx hb dL_law_397 (lv_at hl 4 rfl) ?_
  refine lv_iconst (v := 4) hx hb dL_law_399 (by decide) ?_
  refine lv_iadd hx hb dL_law_400 ?_
  refine sld9 (v := y4) hx hb hX hbl hbA hS hin4 hy4 dL_law_401 ?_
  refine lv_aload_n hx hb dL_law_402 rfl (lv_at hl 0 rfl) ?_
  refine lv_iload hx hb dL_law_403 (lv_at hl 4 rfl) ?_
  refine lv_iconst (v := 5) hx hb dL_law_405 (by decide) ?_
  refine lv_iadd hx hb dL_law_406 ?_
  refine sld9 (v := y5) hx hb hX hbl hbA hS hin5 hy5 dL_law_407 ?_
  refine lv_aload_n hx hb dL_law_408 rfl (lv_at hl 0 rfl) ?_
  refine lv_iload hx hb dL_law_409 (lv_at hl 4 rfl) ?_
  refine lv_bipush (v := 6) hx hb dL_law_411 (by decide) ?_
  refine lv_iadd hx hb dL_law_413 ?_
  refine sld9 (v := y6) hx hb hX hbl hbA hS hin6 hy6 dL_law_414 ?_
  refine lv_aload_n hx hb dL_law_415 rfl (lv_at hl 0 rfl) ?_
  refine lv_iload hx hb dL_law_416 (lv_at hl 4 rfl) ?_
  refine lv_bipush (v := 7) hx hb dL_law_418 (by decide) ?_
  refine lv_iadd hx hb dL_law_420 ?_
  refine sld9 (v := y7) hx hb hX hbl hbA hS hin7 hy7 dL_law_421 ?_
  refine lv_aload_n hx hb dL_law_422 rfl (lv_at hl 3 rfl) ?_
  obtain ⟨⟨r0, uA⟩, hfX, hqX⟩ := worth_tot y1 y2 y3 y4 y5 y6 y7 u hIX
  refine va_calli (vx_runSW (As := [.ref (aX 0), .int y1, .int y2, .int y3, .int y4, .int y5, .int y6, .int y7, .ref o]) (rest := []) ⟨hx, hb, hml, hown, hts⟩ (lworth_met l hfl D cy aX st hJX o H.size y1 y2 y3 y4 y5 y6 y7 hfX f hoX) (vx_cwSW 9 hts gL_law_L_worth rfl rfl rfl (by decide +kernel) ⟨Nat.le_of_ble_eq_true rfl, Nat.le_of_ble_eq_true rfl⟩) ⟨Exo_blind, fun U hU hWm => ⟨rfl, ⟨⟨by rw [hU], by rw [hU]; exact hPX, Ky_mA hA0 hS hU hWm hK⟩, Exs_mv hE (Nw4_warm hWm hE.1) hWm.alike (fun q h1 h2 => by rw [hU]; exact hS.2.1 q h1 h2) (fun q h1 h2 => h2.elim (hAX q) (fun z => Nat.le_trans hS.1 z))⟩, by rw [hU]; exact hPo⟩⟩ rfl rfl hl.1 rfl (lv_room (Nat.le_of_ble_eq_true rfl)) dL_law_423 ⟨Nat.le_trans (Nat.add_le_add_left (by decide) _) hcl, Nat.le_trans (Nat.add_le_add_left (by decide) _) hsl⟩) hS (fun q _ h => h.elim (fun h => h.elim (hAX q) (fun z => Nat.le_trans hS.1 z)) (fun z => by rw [z]; exact hso)) (fun q h => h.elim (fun h => h.elim (hAX q) (fun z => Nat.le_trans hS.1 z)) (fun z => by rw [z]; exact hso)) (fun r f1 t H1 locs1 ht hvm hr9 hB hz hk hS1 => ?_)
  obtain ⟨hP1, hPo1⟩ : va_P D vwCl (VX cy aX st uA) t.heap ∧ va_P D vwCl [(o, .inl (cy 1, 1, .inr (.inl f1)))] t.heap := hB
  rw [ht] at hP1 hPo1
  have hPM1 : va_P D vwCl (VM cy aM st v) H1 := hPM.kept fun k q hq => hk q.1 (hPM k q hq).lt (fun z => z.elim (fun z => z.elim (hdis _ (VM_mem hq)) (fun z => absurd (hPM k q hq).lt (Nat.not_lt.mpr z))) (fun z => hoM (by rw [← z]; exact VM_mem hq)))
  have hIX1 : IX uA := hqX.1
  have hfrX := hqX.2.1
  have hrwX := hqX.2.2.1
  refine W.widen (k := cells + 2) (n := slots + 122) (Nat.add_le_add_left (by decide) _) (Nat.add_le_add_left (by decide) _) ?_
  clear hPX hPo hPM hIX hS hr9
  have hPX := hP1
  have hPo := hPo1
  have hPM := hPM1
  have hIX := hIX1
  have hS := hS1
  clear hP1 hPo1 hPM1 hIX1 hS1 hk
  generalize H1 = H at hPX hPo hPM hS ⊢
  generalize locs1 = locs at hS ⊢
  have hfit1 : cells + 2 ≤ room_1.cells ∧ slots + 122 ≤ room_1.slots := ⟨hcl, hsl⟩
  refine lv_istore (lv' := [(5, .int r), (0, .ref b), (1, .ref (aX 0)), (2, .ref (aM 0)), (3, .ref o), (4, .int i)]) hx hb dL_law_426 hl (by decide) rfl (fun ls hl => ?_)
  refine lv_aload_n hx hb dL_law_428 rfl (lv_at hl 3 rfl) ?_
  refine lv_aload_n hx hb dL_law_429 rfl (lv_at hl 1 rfl) ?_
  refine lv_iload hx hb dL_law_430 (lv_at hl 5 rfl) ?_
  refine lv_iconst (v := 1) hx hb dL_law_432 (by decide) ?_
  refine lv_iadd hx hb dL_law_433 ?_
  refine sld9 (v := y1) hx hb hX hbl hbA hS hin1 hy1 dL_law_434 ?_
  refine lv_aload_n hx hb dL_law_435 rfl (lv_at hl 1 rfl) ?_
  refine lv_iload hx hb dL_law_436 (lv_at hl 5 rfl) ?_
  refine lv_iconst (v := 2) hx hb dL_law_438 (by decide) ?_
  refine lv_iadd hx hb dL_law_439 ?_
  refine sld9 (v := y2) hx hb hX hbl hbA hS hin2 hy2 dL_law_440 ?_
  refine lv_aload_n hx hb dL_law_441 rfl (lv_at hl 1 rfl) ?_
  refine lv_iload hx hb dL_law_442 (lv_at hl 5 rfl) ?_
  refine lv_iconst (v := 3) hx hb dL_law_444 (by decide) ?_
  refine lv_iadd hx hb dL_law_445 ?_
  refine sld9 (v := y3) hx hb hX hbl hbA hS hin3 hy3 dL_law_446 ?_
  refine lv_aload_n hx hb dL_law_447 rfl (lv_at hl 1 rfl) ?_
  refine lv_iload hx hb dL_law_448 (lv_at hl 5 rfl) ?_
  refine lv_iconst (v := 4) hx hb dL_law_450 (by decide) ?_
  refine lv_iadd hx hb dL_law_451 ?_
  refine sld9 (v := y4) hx hb hX hbl hbA hS hin4 hy4 dL_law_452 ?_
  refine lv_aload_n hx hb dL_law_453 rfl (lv_at hl 1 rfl) ?_
  refine lv_iload hx hb dL_law_454 (lv_at hl 5 rfl) ?_
  refine lv_iconst (v := 5) hx hb dL_law_456 (by decide) ?_
  refine lv_iadd hx hb dL_law_457 ?_
  refine sld9 (v := y5) hx hb hX hbl hbA hS hin5 hy5 dL_law_458 ?_
  refine lv_aload_n hx hb dL_law_459 rfl (lv_at hl 1 rfl) ?_
  refine lv_iload hx hb dL_law_460 (lv_at hl 5 rfl) ?_
  refine lv_bipush (v := 6) hx hb dL_law_462 (by decide) ?_
  refine lv_iadd hx hb dL_law_464 ?_
  refine sld9 (v := y6) hx hb hX hbl hbA hS hin6 hy6 dL_law_465 ?_
  refine lv_aload_n hx hb dL_law_466 rfl (lv_at hl 1 rfl) ?_
  refine lv_iload hx hb dL_law_467 (lv_at hl 5 rfl) ?_
  refine lv_bipush (v := 7) hx hb dL_law_469 (by decide) ?_
  refine lv_iadd hx hb dL_law_471 ?_
  refine sld9 (v := y7) hx hb hX hbl hbA hS hin7 hy7 dL_law_472 ?_
  obtain ⟨⟨rM, vA⟩, hfM, hqM⟩ := tfX12_worth_0 y1 y2 y3 y4 y5 y6 y7 v hIM
  refine lg_i (V := VM cy aM st) (Ad := AM aM) (As := [.int y1, .int y2, .int y3, .int y4, .int y5, .int y6, .int y7]) (rest := []) ⟨hx, hb, hml, hown, fun w h => hts0 w (gw_X12_worth w h)⟩ hA0 hK hPM hS (fun q h => h.elim (hAM q) (fun z => Nat.le_trans hS.1 z)) (metX12_worth_0 l D cy aM st hJM H.size y1 y2 y3 y4 y5 y6 y7 hfM) (cwV 7 (fun w h => hts0 w (gw_X12_worth w h)) gx_X12_worth rfl rfl rfl (by decide +kernel) ⟨Nat.le_of_ble_eq_true rfl, Nat.le_of_ble_eq_true rfl⟩) 0 12 rfl rfl rfl hl.1 rfl (Nat.le_of_ble_eq_true rfl) dL_law_473 hfit1 (fun H1 locs1 hP1 hkeep hS1 => ?_)
  have hPX1 := hkeep _ hPX (fun k q hq hz => hdis _ hz ⟨k, (VX_adr hq).1⟩)
  have hPo1 := hkeep _ hPo (fun k q hq => by rw [oat hq]; exact hoM)
  have hEv1 : EvM vA := EvM_fr (hqM.1.2.1 13 (by decide)) (hqM.1.2.1 14 (by decide)) (hqM.1.2.1 21 (by decide)) (hqM.1.2.2.1 33 (by decide)) hEv
  have htie1 : Tie uA vA := Tie_fr hfrX hqM.1.2.1 (by decide) htie
  have hrow1 : TieR uA vA := TieR_fr (hfrX 36 (by decide)) (hrwX 63 (by decide)) (hrwX 64 (by decide)) (hrwX 65 (by decide)) (hqM.1.2.2.1 36 (by decide)) (hqM.1.2.2.1 37 (by decide)) (hqM.1.2.2.1 38 (by decide)) hrow
  have htape1 : TieT uA vA := TieT_fr (hfrX 1 (by decide)) (hrwX 13 (by decide)) (hqM.1.2.1 3 (by decide)) (hqM.1.2.2.1 1 (by decide)) htape
  have hcnt1 : TieC uA vA := TieC_fr (hfrX 5 (by decide)) (hfrX 6 (by decide)) (hfrX 7 (by decide)) (hqM.1.2.2.1 4 (by decide)) hcnt
  have hpar1 : TieP uA vA := TieP_fr (hfrX 8 (by decide)) (hfrX 29 (by decide)) (hfrX 9 (by decide)) (hfrX 0 (by decide)) (hrwX 52 (by decide)) (hqM.1.2.1 12 (by decide)) (hqM.1.2.1 21 (by decide)) (hqM.1.2.1 14 (by decide)) (hqM.1.2.2.1 33 (by decide)) hpar
  have hIM1 : IM vA := hqM.1.1
  clear hPX hPM hPo hS hIM hEv htie hrow htape hcnt hpar hkeep hfrX hrwX
  have hPX := hPX1
  have hPM := hP1
  have hPo := hPo1
  have hS := hS1
  have hIM := hIM1
  have hEv := hEv1
  have htie := htie1
  have hrow := hrow1
  have htape := htape1
  have hcnt := hcnt1
  have hpar := hpar1
  clear hP1 hPX1 hPo1 hS1 hIM1 hEv1 htie1 hrow1 htape1 hcnt1 hpar1 hqM
  generalize H1 = H at hPX hPo hPM hS ⊢
  generalize locs1 = locs at hS ⊢
  refine lv_istore (lv' := [(6, .int rM), (5, .int r), (0, .ref b), (1, .ref (aX 0)), (2, .ref (aM 0)), (3, .ref o), (4, .int i)]) hx hb dL_law_476 hl (by decide) rfl (fun ls hl => ?_)
  refine lv_goto (tgt := 1930) hx hb dL_law_478 (by decide) ?_
  exact kk aX uA vA f1 H locs ls ⟨rfl, hJX, hAX, hdis, hoX, hPX, hPM, hPo, hS, hIX, hIM, hEv, htie, hrow, htape, hcnt, hpar⟩ (lv_sub hl [2, 3, 4, 5, 6] rfl)
theorem dL_law_481 : decode cL_law 481 = .ok (.aload_n 1, 1) := by decide +kernel
theorem dL_law_482 : decode cL_law 482 = .ok (.aload_n 0, 1) := by decide +kernel
theorem dL_law_483 : decode cL_law 483 = .ok (.iload 4, 2) := by decide +kernel
theorem dL_law_485 : decode cL_law 485 = .ok (.iconst 1, 1) := by decide +kernel
theorem dL_law_486 : decode cL_law 486 = .ok (.iadd, 1) := by decide +kernel
theorem dL_law_487 : decode cL_law 487 = .ok (.iaload, 1) := by decide +kernel
theorem dL_law_488 : decode cL_law 488 = .ok (.aload_n 0, 1) := by decide +kernel
theorem dL_law_489 : decode cL_law 489 = .ok (.iload 4, 2) := by decide +kernel
theorem dL_law_491 : decode cL_law 491 = .ok (.iconst 2, 1) := by decide +kernel
theorem dL_law_492 : decode cL_law 492 = .ok (.iadd, 1) := by decide +kernel
theorem dL_law_493 : decode cL_law 493 = .ok (.iaload, 1) := by decide +kernel
theorem dL_law_494 : decode cL_law 494 = .ok (.aload_n 0, 1) := by decide +kernel
theorem dL_law_495 : decode cL_law 495 = .ok (.iload 4, 2) := by decide +kernel
theorem dL_law_497 : decode cL_law 497 = .ok (.iconst 3, 1) := by decide +kernel
theorem dL_law_498 : decode cL_law 498 = .ok (.iadd, 1) := by decide +kernel
theorem dL_law_499 : decode cL_law 499 = .ok (.iaload, 1) := by decide +kernel
theorem dL_law_500 : decode cL_law 500 = .ok (.aload_n 0, 1) := by decide +kernel
theorem dL_law_501 : decode cL_law 501 = .ok (.iload 4, 2) := by decide +kernel
theorem dL_law_503 : decode cL_law 503 = .ok (.iconst 4, 1) := by decide +kernel
theorem dL_law_504 : decode cL_law 504 = .ok (.iadd, 1) := by decide +kernel
theorem dL_law_505 : decode cL_law 505 = .ok (.iaload, 1) := by decide +kernel
theorem dL_law_506 : decode cL_law 506 = .ok (.invokevirtual 48, 3) := by decide +kernel
theorem dL_law_509 : decode cL_law 509 = .ok (.pop, 1) := by decide +kernel
theorem dL_law_510 : decode cL_law 510 = .ok (.aload_n 2, 1) := by decide +kernel
theorem dL_law_511 : decode cL_law 511 = .ok (.aload_n 0, 1) := by decide +kernel
theorem dL_law_512 : decode cL_law 512 = .ok (.iload 4, 2) := by decide +kernel
theorem dL_law_514 : decode cL_law 514 = .ok (.iconst 1, 1) := by decide +kernel
theorem dL_law_515 : decode cL_law 515 = .ok (.iadd, 1) := by decide +kernel
theorem dL_law_516 : decode cL_law 516 = .ok (.iaload, 1) := by decide +kernel
theorem dL_law_517 : decode cL_law 517 = .ok (.aload_n 0, 1) := by decide +kernel
theorem dL_law_518 : decode cL_law 518 = .ok (.iload 4, 2) := by decide +kernel
theorem dL_law_520 : decode cL_law 520 = .ok (.iconst 2, 1) := by decide +kernel
theorem dL_law_521 : decode cL_law 521 = .ok (.iadd, 1) := by decide +kernel
theorem dL_law_522 : decode cL_law 522 = .ok (.iaload, 1) := by decide +kernel
theorem dL_law_523 : decode cL_law 523 = .ok (.aload_n 0, 1) := by decide +kernel
theorem dL_law_524 : decode cL_law 524 = .ok (.iload 4, 2) := by decide +kernel
theorem dL_law_526 : decode cL_law 526 = .ok (.iconst 3, 1) := by decide +kernel
theorem dL_law_527 : decode cL_law 527 = .ok (.iadd, 1) := by decide +kernel
theorem dL_law_528 : decode cL_law 528 = .ok (.iaload, 1) := by decide +kernel
theorem dL_law_529 : decode cL_law 529 = .ok (.aload_n 0, 1) := by decide +kernel
theorem dL_law_530 : decode cL_law 530 = .ok (.iload 4, 2) := by decide +kernel
theorem dL_law_532 : decode cL_law 532 = .ok (.iconst 4, 1) := by decide +kernel
theorem dL_law_533 : decode cL_law 533 = .ok (.iadd, 1) := by decide +kernel
theorem dL_law_534 : decode cL_law 534 = .ok (.iaload, 1) := by decide +kernel
theorem dL_law_535 : decode cL_law 535 = .ok (.invokevirtual 52, 3) := by decide +kernel
theorem dL_law_538 : decode cL_law 538 = .ok (.pop, 1) := by decide +kernel
theorem dL_law_539 : decode cL_law 539 = .ok (.goto 1391, 3) := by decide +kernel
set_option maxHeartbeats 4000000 in
set_option maxRecDepth 100000 in
theorem case_6 {p : Program} {e : Env} {s : State} {m : MethodId} {below : List Frame} {meth : Method} {c : Code} (l : Launch) (hfl : l.stackTraces = false) {b L : Nat} {xs : Nat → Int32} {D : va_G} {cy : Nat → ClassId} {st aM : Nat → Nat} {o x0 : Nat} {aX : Nat → Nat} {u v : SX} {f : Nat → Int64} {H : Heap} {locs : List Loc} {ls : Array Slot} {i : Int32} {cells slots : Nat} {Q : State → Prop} (F : LF p s m meth c b L xs D cy st aM o) (I : LI s D cy st aM o x0 aX u v f H locs) (hi0 : 0 ≤ i.toInt) (hi9 : i.toInt + 9 ≤ (L : Int)) (hcl : cells + 2 ≤ room_1.cells) (hsl : slots + 122 ≤ room_1.slots) (hl : lv_has ls 7 [(0, .ref b), (1, .ref x0), (2, .ref (aM 0)), (3, .ref o), (4, .int i)]) (kk : ∀ (aX : Nat → Nat) (u v : SX) (f : Nat → Int64) (H : Heap) (locs : List Loc) (ls : Array Slot), LI s D cy st aM o x0 aX u v f H locs → lv_has ls 7 [(0, .ref b), (1, .ref x0), (2, .ref (aM 0)), (3, .ref o), (4, .int i)] → W p l e room_1 s m #[Value.ref b] below meth c H locs (cells + 2) (slots + 122) Q (F0 m 1930 ls [])) : W p l e room_1 s m #[Value.ref b] below meth c H locs cells slots Q (F0 m 481 ls []) := by
  obtain ⟨C0, hL, hK, hJM, hAM, hoM, hso, hst, hE, hCL⟩ := F
  obtain ⟨hx, hb, hr, hml, hown, hts0, hX, hbl, hlocks, hgv⟩ := C0
  obtain ⟨hx0, hJX, hAX, hdis, hoX, hPX, hPM, hPo, hS, hIX, hIM, hEv, htie, hrow, htape, hcnt, hpar⟩ := I
  have hts : ∀ w ∈ wsL_law, w.before #[Value.ref b] s = true := fun w h => hts0 w (wsL_law_in w h)
  have hbA : ¬ (fun q : Nat => s.heap.size ≤ q) b := Nat.not_le.mpr hbl
  have hA0 : ∀ q, (fun q : Nat => s.heap.size ≤ q) q → st 100 ≤ q := fun q h => by rw [hst]; exact h
  have hfit : cells ≤ room_1.cells ∧ slots ≤ room_1.slots := ⟨Nat.le_trans (Nat.le_add_right _ _) hcl, Nat.le_trans (Nat.le_add_right _ _) hsl⟩
  subst hx0
  obtain ⟨y1, hy1⟩ : ∃ y, xs (i + 1).toNatClampNeg = y := ⟨_, rfl⟩
  have hin1 : vp_in (i + 1) L := in9 (show (1 : Int32).toInt = 1 by decide) hi0 hi9 hL (by decide) (by decide)
  obtain ⟨y2, hy2⟩ : ∃ y, xs (i + 2).toNatClampNeg = y := ⟨_, rfl⟩
  have hin2 : vp_in (i + 2) L := in9 (show (2 : Int32).toInt = 2 by decide) hi0 hi9 hL (by decide) (by decide)
  obtain ⟨y3, hy3⟩ : ∃ y, xs (i + 3).toNatClampNeg = y := ⟨_, rfl⟩
  have hin3 : vp_in (i + 3) L := in9 (show (3 : Int32).toInt = 3 by decide) hi0 hi9 hL (by decide) (by decide)
  obtain ⟨y4, hy4⟩ : ∃ y, xs (i + 4).toNatClampNeg = y := ⟨_, rfl⟩
  have hin4 : vp_in (i + 4) L := in9 (show (4 : Int32).toInt = 4 by decide) hi0 hi9 hL (by decide) (by decide)
  refine lv_aload_n hx hb dL_law_481 rfl (lv_at hl 1 rfl) ?_
  refine lv_aload_n hx hb dL_law_482 rfl (lv_at hl 0 rfl) ?_
  refine lv_iload hx hb dL_law_483 (lv_at hl 4 rfl) ?_
  refine lv_iconst (v := 1) hx hb dL_law_485 (by decide) ?_
  refine lv_iadd hx hb dL_law_486 ?_
  refine sld9 (v := y1) hx hb hX hbl hbA hS hin1 hy1 dL_law_487 ?_
  refine lv_aload_n hx hb dL_law_488 rfl (lv_at hl 0 rfl) ?_
  refine lv_iload hx hb dL_law_489 (lv_at hl 4 rfl) ?_
  refine lv_iconst (v := 2) hx hb dL_law_491 (by decide) ?_
  refine lv_iadd hx hb dL_law_492 ?_
  refine sld9 (v := y2) hx hb hX hbl hbA hS hin2 hy2 dL_law_493 ?_
  refine lv_aload_n hx hb dL_law_494 rfl (lv_at hl 0 rfl) ?_
  refine lv_iload hx hb dL_law_495 (lv_at hl 4 rfl) ?_
  refine lv_iconst (v := 3) hx hb dL_law_497 (by decide) ?_
  refine lv_iadd hx hb dL_law_498 ?_
  refine sld9 (v := y3) hx hb hX hbl hbA hS hin3 hy3 dL_law_499 ?_
  refine lv_aload_n hx hb dL_law_500 rfl (lv_at hl 0 rfl) ?_
  refine lv_iload hx hb dL_law_501 (lv_at hl 4 rfl) ?_
  refine lv_iconst (v := 4) hx hb dL_law_503 (by decide) ?_
  refine lv_iadd hx hb dL_law_504 ?_
  refine sld9 (v := y4) hx hb hX hbl hbA hS hin4 hy4 dL_law_505 ?_
  obtain ⟨⟨r, uA⟩, hfX, hqX⟩ := tfX11_part_0 y1 y2 y3 y4 u hIX
  refine lg_i (V := VX cy aX st) (Ad := AX aX) (As := [.int y1, .int y2, .int y3, .int y4]) (rest := []) ⟨hx, hb, hml, hown, fun w h => hts0 w (gw_X11_part w h)⟩ hA0 hK hPX hS (fun q h => h.elim (hAX q) (fun z => Nat.le_trans hS.1 z)) (metX11_part_0 l D cy aX st hJX H.size y1 y2 y3 y4 hfX) (cwV 4 (fun w h => hts0 w (gw_X11_part w h)) gx_X11_part rfl rfl rfl (by decide +kernel) ⟨Nat.le_of_ble_eq_true rfl, Nat.le_of_ble_eq_true rfl⟩) 0 11 rfl rfl rfl hl.1 rfl (Nat.le_of_ble_eq_true rfl) dL_law_506 hfit (fun H1 locs1 hP1 hkeep hS1 => ?_)
  have hPM1 := hkeep _ hPM (fun k q hq => hdis _ (VM_mem hq))
  have hPo1 := hkeep _ hPo (fun k q hq => by rw [oat hq]; exact hoX)
  have hIX1 : IX uA := hqX.1.1
  have hFX := hqX.1.2
  have hfrX := hqX.1.2.1
  have hrwX := hqX.1.2.2.1
  clear hPX hPM hPo hS hkeep
  have hPX := hP1
  have hPM := hPM1
  have hPo := hPo1
  have hS := hS1
  clear hP1 hPM1 hPo1 hS1 hqX
  generalize H1 = H at hPX hPo hPM hS ⊢
  generalize locs1 = locs at hS ⊢
  refine lv_pop hx hb dL_law_509 rfl ?_
  refine lv_aload_n hx hb dL_law_510 rfl (lv_at hl 2 rfl) ?_
  refine lv_aload_n hx hb dL_law_511 rfl (lv_at hl 0 rfl) ?_
  refine lv_iload hx hb dL_law_512 (lv_at hl 4 rfl) ?_
  refine lv_iconst (v := 1) hx hb dL_law_514 (by decide) ?_
  refine lv_iadd hx hb dL_law_515 ?_
  refine sld9 (v := y1) hx hb hX hbl hbA hS hin1 hy1 dL_law_516 ?_
  refine lv_aload_n hx hb dL_law_517 rfl (lv_at hl 0 rfl) ?_
  refine lv_iload hx hb dL_law_518 (lv_at hl 4 rfl) ?_
  refine lv_iconst (v := 2) hx hb dL_law_520 (by decide) ?_
  refine lv_iadd hx hb dL_law_521 ?_
  refine sld9 (v := y2) hx hb hX hbl hbA hS hin2 hy2 dL_law_522 ?_
  refine lv_aload_n hx hb dL_law_523 rfl (lv_at hl 0 rfl) ?_
  refine lv_iload hx hb dL_law_524 (lv_at hl 4 rfl) ?_
  refine lv_iconst (v := 3) hx hb dL_law_526 (by decide) ?_
  refine lv_iadd hx hb dL_law_527 ?_
  refine sld9 (v := y3) hx hb hX hbl hbA hS hin3 hy3 dL_law_528 ?_
  refine lv_aload_n hx hb dL_law_529 rfl (lv_at hl 0 rfl) ?_
  refine lv_iload hx hb dL_law_530 (lv_at hl 4 rfl) ?_
  refine lv_iconst (v := 4) hx hb dL_law_532 (by decide) ?_
  refine lv_iadd hx hb dL_law_533 ?_
  refine sld9 (v := y4) hx hb hX hbl hbA hS hin4 hy4 dL_law_534 ?_
  obtain ⟨⟨rM, vA⟩, hfM, hqM⟩ := tfX12_part__0 y1 y2 y3 y4 v hIM
  refine lg_i (V := VM cy aM st) (Ad := AM aM) (As := [.int y1, .int y2, .int y3, .int y4]) (rest := []) ⟨hx, hb, hml, hown, fun w h => hts0 w (gw_X12_part_ w h)⟩ hA0 hK hPM hS (fun q h => h.elim (hAM q) (fun z => Nat.le_trans hS.1 z)) (metX12_part__0 l D cy aM st hJM H.size y1 y2 y3 y4 hfM) (cwV 4 (fun w h => hts0 w (gw_X12_part_ w h)) gx_X12_part_ rfl rfl rfl (by decide +kernel) ⟨Nat.le_of_ble_eq_true rfl, Nat.le_of_ble_eq_true rfl⟩) 0 12 rfl rfl rfl hl.1 rfl (Nat.le_of_ble_eq_true rfl) dL_law_535 hfit (fun H1 locs1 hP1 hkeep hS1 => ?_)
  have hPX1 := hkeep _ hPX (fun k q hq hz => hdis _ hz ⟨k, (VX_adr hq).1⟩)
  have hPo1 := hkeep _ hPo (fun k q hq => by rw [oat hq]; exact hoM)
  have hEv1 : EvM vA := EvM_fr (hqM.1.2.1 13 (by decide)) (hqM.1.2.1 14 (by decide)) (hqM.1.2.1 21 (by decide)) (hqM.1.2.2.1 33 (by decide)) hEv
  have htie1 : Tie uA vA := Tie_fr hfrX hqM.1.2.1 (by decide) htie
  have hrow1 : TieR uA vA := TieR_fr (hfrX 36 (by decide)) (hrwX 63 (by decide)) (hrwX 64 (by decide)) (hrwX 65 (by decide)) (hqM.1.2.2.1 36 (by decide)) (hqM.1.2.2.1 37 (by decide)) (hqM.1.2.2.1 38 (by decide)) hrow
  have htape1 : TieT uA vA := TieT_fr (hfrX 1 (by decide)) (hrwX 13 (by decide)) (hqM.1.2.1 3 (by decide)) (hqM.1.2.2.1 1 (by decide)) htape
  have hcnt1 : TieC uA vA := TieC_fr (hfrX 5 (by decide)) (hfrX 6 (by decide)) (hfrX 7 (by decide)) (hqM.1.2.2.1 4 (by decide)) hcnt
  obtain ⟨er, hpar1⟩ := part_eq hIX hcnt hpar hfX hfM
  have hIM1 : IM vA := hqM.1.1
  clear hPX hPM hPo hS hIM hEv htie hrow htape hcnt hpar hkeep hfrX hrwX hIX
  have hPX := hPX1
  have hPM := hP1
  have hPo := hPo1
  have hS := hS1
  have hIM := hIM1
  have hEv := hEv1
  have htie := htie1
  have hrow := hrow1
  have htape := htape1
  have hcnt := hcnt1
  have hpar := hpar1
  have hIX := hIX1
  clear hIX1
  clear hP1 hPX1 hPo1 hS1 hIM1 hEv1 htie1 hrow1 htape1 hcnt1 hpar1 hqM
  generalize H1 = H at hPX hPo hPM hS ⊢
  generalize locs1 = locs at hS ⊢
  refine lv_pop hx hb dL_law_538 rfl ?_
  refine lv_goto (tgt := 1930) hx hb dL_law_539 (by decide) ?_
  refine W.widen (k := cells + 2) (n := slots + 122) (Nat.le_add_right _ _) (Nat.le_add_right _ _) ?_
  exact kk aX uA vA f H locs ls ⟨rfl, hJX, hAX, hdis, hoX, hPX, hPM, hPo, hS, hIX, hIM, hEv, htie, hrow, htape, hcnt, hpar⟩ hl
theorem dL_law_542 : decode cL_law 542 = .ok (.aload_n 1, 1) := by decide +kernel
theorem dL_law_543 : decode cL_law 543 = .ok (.aload_n 0, 1) := by decide +kernel
theorem dL_law_544 : decode cL_law 544 = .ok (.iload 4, 2) := by decide +kernel
theorem dL_law_546 : decode cL_law 546 = .ok (.iconst 1, 1) := by decide +kernel
theorem dL_law_547 : decode cL_law 547 = .ok (.iadd, 1) := by decide +kernel
theorem dL_law_548 : decode cL_law 548 = .ok (.iaload, 1) := by decide +kernel
theorem dL_law_549 : decode cL_law 549 = .ok (.aload_n 0, 1) := by decide +kernel
theorem dL_law_550 : decode cL_law 550 = .ok (.iload 4, 2) := by decide +kernel
theorem dL_law_552 : decode cL_law 552 = .ok (.iconst 2, 1) := by decide +kernel
theorem dL_law_553 : decode cL_law 553 = .ok (.iadd, 1) := by decide +kernel
theorem dL_law_554 : decode cL_law 554 = .ok (.iaload, 1) := by decide +kernel
theorem dL_law_555 : decode cL_law 555 = .ok (.aload_n 0, 1) := by decide +kernel
theorem dL_law_556 : decode cL_law 556 = .ok (.iload 4, 2) := by decide +kernel
theorem dL_law_558 : decode cL_law 558 = .ok (.iconst 3, 1) := by decide +kernel
theorem dL_law_559 : decode cL_law 559 = .ok (.iadd, 1) := by decide +kernel
theorem dL_law_560 : decode cL_law 560 = .ok (.iaload, 1) := by decide +kernel
theorem dL_law_561 : decode cL_law 561 = .ok (.invokevirtual 53, 3) := by decide +kernel
theorem dL_law_564 : decode cL_law 564 = .ok (.pop, 1) := by decide +kernel
theorem dL_law_565 : decode cL_law 565 = .ok (.aload_n 2, 1) := by decide +kernel
theorem dL_law_566 : decode cL_law 566 = .ok (.aload_n 0, 1) := by decide +kernel
theorem dL_law_567 : decode cL_law 567 = .ok (.iload 4, 2) := by decide +kernel
theorem dL_law_569 : decode cL_law 569 = .ok (.iconst 1, 1) := by decide +kernel
theorem dL_law_570 : decode cL_law 570 = .ok (.iadd, 1) := by decide +kernel
theorem dL_law_571 : decode cL_law 571 = .ok (.iaload, 1) := by decide +kernel
theorem dL_law_572 : decode cL_law 572 = .ok (.aload_n 0, 1) := by decide +kernel
theorem dL_law_573 : decode cL_law 573 = .ok (.iload 4, 2) := by decide +kernel
theorem dL_law_575 : decode cL_law 575 = .ok (.iconst 2, 1) := by decide +kernel
theorem dL_law_576 : decode cL_law 576 = .ok (.iadd, 1) := by decide +kernel
theorem dL_law_577 : decode cL_law 577 = .ok (.iaload, 1) := by decide +kernel
theorem dL_law_578 : decode cL_law 578 = .ok (.aload_n 0, 1) := by decide +kernel
theorem dL_law_579 : decode cL_law 579 = .ok (.iload 4, 2) := by decide +kernel
theorem dL_law_581 : decode cL_law 581 = .ok (.iconst 3, 1) := by decide +kernel
theorem dL_law_582 : decode cL_law 582 = .ok (.iadd, 1) := by decide +kernel
theorem dL_law_583 : decode cL_law 583 = .ok (.iaload, 1) := by decide +kernel
theorem dL_law_584 : decode cL_law 584 = .ok (.invokevirtual 57, 3) := by decide +kernel
theorem dL_law_587 : decode cL_law 587 = .ok (.pop, 1) := by decide +kernel
theorem dL_law_588 : decode cL_law 588 = .ok (.goto 1342, 3) := by decide +kernel
set_option maxHeartbeats 4000000 in
set_option maxRecDepth 100000 in
theorem case_7 {p : Program} {e : Env} {s : State} {m : MethodId} {below : List Frame} {meth : Method} {c : Code} (l : Launch) (hfl : l.stackTraces = false) {b L : Nat} {xs : Nat → Int32} {D : va_G} {cy : Nat → ClassId} {st aM : Nat → Nat} {o x0 : Nat} {aX : Nat → Nat} {u v : SX} {f : Nat → Int64} {H : Heap} {locs : List Loc} {ls : Array Slot} {i : Int32} {cells slots : Nat} {Q : State → Prop} (F : LF p s m meth c b L xs D cy st aM o) (I : LI s D cy st aM o x0 aX u v f H locs) (hi0 : 0 ≤ i.toInt) (hi9 : i.toInt + 9 ≤ (L : Int)) (hcl : cells + 2 ≤ room_1.cells) (hsl : slots + 122 ≤ room_1.slots) (hl : lv_has ls 7 [(0, .ref b), (1, .ref x0), (2, .ref (aM 0)), (3, .ref o), (4, .int i)]) (kk : ∀ (aX : Nat → Nat) (u v : SX) (f : Nat → Int64) (H : Heap) (locs : List Loc) (ls : Array Slot), LI s D cy st aM o x0 aX u v f H locs → lv_has ls 7 [(0, .ref b), (1, .ref x0), (2, .ref (aM 0)), (3, .ref o), (4, .int i)] → W p l e room_1 s m #[Value.ref b] below meth c H locs (cells + 2) (slots + 122) Q (F0 m 1930 ls [])) : W p l e room_1 s m #[Value.ref b] below meth c H locs cells slots Q (F0 m 542 ls []) := by
  obtain ⟨C0, hL, hK, hJM, hAM, hoM, hso, hst, hE, hCL⟩ := F
  obtain ⟨hx, hb, hr, hml, hown, hts0, hX, hbl, hlocks, hgv⟩ := C0
  obtain ⟨hx0, hJX, hAX, hdis, hoX, hPX, hPM, hPo, hS, hIX, hIM, hEv, htie, hrow, htape, hcnt, hpar⟩ := I
  have hts : ∀ w ∈ wsL_law, w.before #[Value.ref b] s = true := fun w h => hts0 w (wsL_law_in w h)
  have hbA : ¬ (fun q : Nat => s.heap.size ≤ q) b := Nat.not_le.mpr hbl
  have hA0 : ∀ q, (fun q : Nat => s.heap.size ≤ q) q → st 100 ≤ q := fun q h => by rw [hst]; exact h
  have hfit : cells ≤ room_1.cells ∧ slots ≤ room_1.slots := ⟨Nat.le_trans (Nat.le_add_right _ _) hcl, Nat.le_trans (Nat.le_add_right _ _) hsl⟩
  subst hx0
  obtain ⟨y1, hy1⟩ : ∃ y, xs (i + 1).toNatClampNeg = y := ⟨_, rfl⟩
  have hin1 : vp_in (i + 1) L := in9 (show (1 : Int32).toInt = 1 by decide) hi0 hi9 hL (by decide) (by decide)
  obtain ⟨y2, hy2⟩ : ∃ y, xs (i + 2).toNatClampNeg = y := ⟨_, rfl⟩
  have hin2 : vp_in (i + 2) L := in9 (show (2 : Int32).toInt = 2 by decide) hi0 hi9 hL (by decide) (by decide)
  obtain ⟨y3, hy3⟩ : ∃ y, xs (i + 3).toNatClampNeg = y := ⟨_, rfl⟩
  have hin3 : vp_in (i + 3) L := in9 (show (3 : Int32).toInt = 3 by decide) hi0 hi9 hL (by decide) (by decide)
  refine lv_aload_n hx hb dL_law_542 rfl (lv_at hl 1 rfl) ?_
  refine lv_aload_n hx hb dL_law_543 rfl (lv_at hl 0 rfl) ?_
  refine lv_iload hx hb dL_law_544 (lv_at hl 4 rfl) ?_
  refine lv_iconst (v := 1) hx hb dL_law_546 (by decide) ?_
  refine lv_iadd hx hb dL_law_547 ?_
  refine sld9 (v := y1) hx hb hX hbl hbA hS hin1 hy1 dL_law_548 ?_
  refine lv_aload_n hx hb dL_law_549 rfl (lv_at hl 0 rfl) ?_
  refine lv_iload hx hb dL_law_550 (lv_at hl 4 rfl) ?_
  refine lv_iconst (v := 2) hx hb dL_law_552 (by decide) ?_
  refine lv_iadd hx hb dL_law_553 ?_
  refine sld9 (v := y2) hx hb hX hbl hbA hS hin2 hy2 dL_law_554 ?_
  refine lv_aload_n hx hb dL_law_555 rfl (lv_at hl 0 rfl) ?_
  refine lv_iload hx hb dL_law_556 (lv_at hl 4 rfl) ?_
  refine lv_iconst (v := 3) hx hb dL_law_558 (by decide) ?_
  refine lv_iadd hx hb dL_law_559 ?_
  refine sld9 (v := y3) hx hb hX hbl hbA hS hin3 hy3 dL_law_560 ?_
  obtain ⟨⟨r, uA⟩, hfX, hqX⟩ := tfX11_span_0 y1 y2 y3 u hIX
  refine lg_i (V := VX cy aX st) (Ad := AX aX) (As := [.int y1, .int y2, .int y3]) (rest := []) ⟨hx, hb, hml, hown, fun w h => hts0 w (gw_X11_span w h)⟩ hA0 hK hPX hS (fun q h => h.elim (hAX q) (fun z => Nat.le_trans hS.1 z)) (metX11_span_0 l D cy aX st hJX H.size y1 y2 y3 hfX) (cwV 3 (fun w h => hts0 w (gw_X11_span w h)) gx_X11_span rfl rfl rfl (by decide +kernel) ⟨Nat.le_of_ble_eq_true rfl, Nat.le_of_ble_eq_true rfl⟩) 0 11 rfl rfl rfl hl.1 rfl (Nat.le_of_ble_eq_true rfl) dL_law_561 hfit (fun H1 locs1 hP1 hkeep hS1 => ?_)
  have hPM1 := hkeep _ hPM (fun k q hq => hdis _ (VM_mem hq))
  have hPo1 := hkeep _ hPo (fun k q hq => by rw [oat hq]; exact hoX)
  have hIX1 : IX uA := hqX.1.1
  have hFX := hqX.1.2
  have hfrX := hqX.1.2.1
  have hrwX := hqX.1.2.2.1
  clear hPX hPM hPo hS hkeep
  have hPX := hP1
  have hPM := hPM1
  have hPo := hPo1
  have hS := hS1
  clear hP1 hPM1 hPo1 hS1 hqX
  generalize H1 = H at hPX hPo hPM hS ⊢
  generalize locs1 = locs at hS ⊢
  refine lv_pop hx hb dL_law_564 rfl ?_
  refine lv_aload_n hx hb dL_law_565 rfl (lv_at hl 2 rfl) ?_
  refine lv_aload_n hx hb dL_law_566 rfl (lv_at hl 0 rfl) ?_
  refine lv_iload hx hb dL_law_567 (lv_at hl 4 rfl) ?_
  refine lv_iconst (v := 1) hx hb dL_law_569 (by decide) ?_
  refine lv_iadd hx hb dL_law_570 ?_
  refine sld9 (v := y1) hx hb hX hbl hbA hS hin1 hy1 dL_law_571 ?_
  refine lv_aload_n hx hb dL_law_572 rfl (lv_at hl 0 rfl) ?_
  refine lv_iload hx hb dL_law_573 (lv_at hl 4 rfl) ?_
  refine lv_iconst (v := 2) hx hb dL_law_575 (by decide) ?_
  refine lv_iadd hx hb dL_law_576 ?_
  refine sld9 (v := y2) hx hb hX hbl hbA hS hin2 hy2 dL_law_577 ?_
  refine lv_aload_n hx hb dL_law_578 rfl (lv_at hl 0 rfl) ?_
  refine lv_iload hx hb dL_law_579 (lv_at hl 4 rfl) ?_
  refine lv_iconst (v := 3) hx hb dL_law_581 (by decide) ?_
  refine lv_iadd hx hb dL_law_582 ?_
  refine sld9 (v := y3) hx hb hX hbl hbA hS hin3 hy3 dL_law_583 ?_
  obtain ⟨⟨rM, vA⟩, hfM, hqM⟩ := tfX12_span_0 y1 y2 y3 v hIM
  refine lg_i (V := VM cy aM st) (Ad := AM aM) (As := [.int y1, .int y2, .int y3]) (rest := []) ⟨hx, hb, hml, hown, fun w h => hts0 w (gw_X12_span w h)⟩ hA0 hK hPM hS (fun q h => h.elim (hAM q) (fun z => Nat.le_trans hS.1 z)) (metX12_span_0 l D cy aM st hJM H.size y1 y2 y3 hfM) (cwV 3 (fun w h => hts0 w (gw_X12_span w h)) gx_X12_span rfl rfl rfl (by decide +kernel) ⟨Nat.le_of_ble_eq_true rfl, Nat.le_of_ble_eq_true rfl⟩) 0 12 rfl rfl rfl hl.1 rfl (Nat.le_of_ble_eq_true rfl) dL_law_584 hfit (fun H1 locs1 hP1 hkeep hS1 => ?_)
  have hPX1 := hkeep _ hPX (fun k q hq hz => hdis _ hz ⟨k, (VX_adr hq).1⟩)
  have hPo1 := hkeep _ hPo (fun k q hq => by rw [oat hq]; exact hoM)
  have hEv1 : EvM vA := EvM_fr (hqM.1.2.1 13 (by decide)) (hqM.1.2.1 14 (by decide)) (hqM.1.2.1 21 (by decide)) (hqM.1.2.2.1 33 (by decide)) hEv
  have htie1 : Tie uA vA := Tie_fr hfrX hqM.1.2.1 (by decide) htie
  have hrow1 : TieR uA vA := TieR_fr (hfrX 36 (by decide)) (hrwX 63 (by decide)) (hrwX 64 (by decide)) (hrwX 65 (by decide)) (hqM.1.2.2.1 36 (by decide)) (hqM.1.2.2.1 37 (by decide)) (hqM.1.2.2.1 38 (by decide)) hrow
  have htape1 : TieT uA vA := TieT_fr (hfrX 1 (by decide)) (hrwX 13 (by decide)) (hqM.1.2.1 3 (by decide)) (hqM.1.2.2.1 1 (by decide)) htape
  have hcnt1 : TieC uA vA := TieC_fr (hfrX 5 (by decide)) (hfrX 6 (by decide)) (hfrX 7 (by decide)) (hqM.1.2.2.1 4 (by decide)) hcnt
  have hpar1 : TieP uA vA := TieP_fr (hfrX 8 (by decide)) (hfrX 29 (by decide)) (hfrX 9 (by decide)) (hfrX 0 (by decide)) (hrwX 52 (by decide)) (hqM.1.2.1 12 (by decide)) (hqM.1.2.1 21 (by decide)) (hqM.1.2.1 14 (by decide)) (hqM.1.2.2.1 33 (by decide)) hpar
  have hIM1 : IM vA := hqM.1.1
  clear hPX hPM hPo hS hIM hEv htie hrow htape hcnt hpar hkeep hfrX hrwX hIX
  have hPX := hPX1
  have hPM := hP1
  have hPo := hPo1
  have hS := hS1
  have hIM := hIM1
  have hEv := hEv1
  have htie := htie1
  have hrow := hrow1
  have htape := htape1
  have hcnt := hcnt1
  have hpar := hpar1
  have hIX := hIX1
  clear hIX1
  clear hP1 hPX1 hPo1 hS1 hIM1 hEv1 htie1 hrow1 htape1 hcnt1 hpar1 hqM
  generalize H1 = H at hPX hPo hPM hS ⊢
  generalize locs1 = locs at hS ⊢
  refine lv_pop hx hb dL_law_587 rfl ?_
  refine lv_goto (tgt := 1930) hx hb dL_law_588 (by decide) ?_
  refine W.widen (k := cells + 2) (n := slots + 122) (Nat.le_add_right _ _) (Nat.le_add_right _ _) ?_
  exact kk aX uA vA f H locs ls ⟨rfl, hJX, hAX, hdis, hoX, hPX, hPM, hPo, hS, hIX, hIM, hEv, htie, hrow, htape, hcnt, hpar⟩ hl
theorem dL_law_591 : decode cL_law 591 = .ok (.aload_n 1, 1) := by decide +kernel
theorem dL_law_592 : decode cL_law 592 = .ok (.aload_n 0, 1) := by decide +kernel
theorem dL_law_593 : decode cL_law 593 = .ok (.iload 4, 2) := by decide +kernel
theorem dL_law_595 : decode cL_law 595 = .ok (.iconst 1, 1) := by decide +kernel
theorem dL_law_596 : decode cL_law 596 = .ok (.iadd, 1) := by decide +kernel
theorem dL_law_597 : decode cL_law 597 = .ok (.iaload, 1) := by decide +kernel
theorem dL_law_598 : decode cL_law 598 = .ok (.aload_n 0, 1) := by decide +kernel
theorem dL_law_599 : decode cL_law 599 = .ok (.iload 4, 2) := by decide +kernel
theorem dL_law_601 : decode cL_law 601 = .ok (.iconst 2, 1) := by decide +kernel
theorem dL_law_602 : decode cL_law 602 = .ok (.iadd, 1) := by decide +kernel
theorem dL_law_603 : decode cL_law 603 = .ok (.iaload, 1) := by decide +kernel
theorem dL_law_604 : decode cL_law 604 = .ok (.aload_n 0, 1) := by decide +kernel
theorem dL_law_605 : decode cL_law 605 = .ok (.iload 4, 2) := by decide +kernel
theorem dL_law_607 : decode cL_law 607 = .ok (.iconst 3, 1) := by decide +kernel
theorem dL_law_608 : decode cL_law 608 = .ok (.iadd, 1) := by decide +kernel
theorem dL_law_609 : decode cL_law 609 = .ok (.iaload, 1) := by decide +kernel
theorem dL_law_610 : decode cL_law 610 = .ok (.aload_n 0, 1) := by decide +kernel
theorem dL_law_611 : decode cL_law 611 = .ok (.iload 4, 2) := by decide +kernel
theorem dL_law_613 : decode cL_law 613 = .ok (.iconst 4, 1) := by decide +kernel
theorem dL_law_614 : decode cL_law 614 = .ok (.iadd, 1) := by decide +kernel
theorem dL_law_615 : decode cL_law 615 = .ok (.iaload, 1) := by decide +kernel
theorem dL_law_616 : decode cL_law 616 = .ok (.aload_n 0, 1) := by decide +kernel
theorem dL_law_617 : decode cL_law 617 = .ok (.iload 4, 2) := by decide +kernel
theorem dL_law_619 : decode cL_law 619 = .ok (.iconst 5, 1) := by decide +kernel
theorem dL_law_620 : decode cL_law 620 = .ok (.iadd, 1) := by decide +kernel
theorem dL_law_621 : decode cL_law 621 = .ok (.iaload, 1) := by decide +kernel
theorem dL_law_622 : decode cL_law 622 = .ok (.aload_n 0, 1) := by decide +kernel
theorem dL_law_623 : decode cL_law 623 = .ok (.iload 4, 2) := by decide +kernel
theorem dL_law_625 : decode cL_law 625 = .ok (.bipush 6, 2) := by decide +kernel
theorem dL_law_627 : decode cL_law 627 = .ok (.iadd, 1) := by decide +kernel
theorem dL_law_628 : decode cL_law 628 = .ok (.iaload, 1) := by decide +kernel
theorem dL_law_629 : decode cL_law 629 = .ok (.invokevirtual 58, 3) := by decide +kernel
theorem dL_law_632 : decode cL_law 632 = .ok (.pop, 1) := by decide +kernel
theorem dL_law_633 : decode cL_law 633 = .ok (.aload_n 2, 1) := by decide +kernel
theorem dL_law_634 : decode cL_law 634 = .ok (.aload_n 0, 1) := by decide +kernel
theorem dL_law_635 : decode cL_law 635 = .ok (.iload 4, 2) := by decide +kernel
theorem dL_law_637 : decode cL_law 637 = .ok (.iconst 1, 1) := by decide +kernel
theorem dL_law_638 : decode cL_law 638 = .ok (.iadd, 1) := by decide +kernel
theorem dL_law_639 : decode cL_law 639 = .ok (.iaload, 1) := by decide +kernel
theorem dL_law_640 : decode cL_law 640 = .ok (.aload_n 0, 1) := by decide +kernel
theorem dL_law_641 : decode cL_law 641 = .ok (.iload 4, 2) := by decide +kernel
theorem dL_law_643 : decode cL_law 643 = .ok (.iconst 2, 1) := by decide +kernel
theorem dL_law_644 : decode cL_law 644 = .ok (.iadd, 1) := by decide +kernel
theorem dL_law_645 : decode cL_law 645 = .ok (.iaload, 1) := by decide +kernel
theorem dL_law_646 : decode cL_law 646 = .ok (.aload_n 0, 1) := by decide +kernel
theorem dL_law_647 : decode cL_law 647 = .ok (.iload 4, 2) := by decide +kernel
theorem dL_law_649 : decode cL_law 649 = .ok (.iconst 3, 1) := by decide +kernel
theorem dL_law_650 : decode cL_law 650 = .ok (.iadd, 1) := by decide +kernel
theorem dL_law_651 : decode cL_law 651 = .ok (.iaload, 1) := by decide +kernel
theorem dL_law_652 : decode cL_law 652 = .ok (.aload_n 0, 1) := by decide +kernel
theorem dL_law_653 : decode cL_law 653 = .ok (.iload 4, 2) := by decide +kernel
theorem dL_law_655 : decode cL_law 655 = .ok (.iconst 4, 1) := by decide +kernel
theorem dL_law_656 : decode cL_law 656 = .ok (.iadd, 1) := by decide +kernel
theorem dL_law_657 : decode cL_law 657 = .ok (.iaload, 1) := by decide +kernel
theorem dL_law_658 : decode cL_law 658 = .ok (.aload_n 0, 1) := by decide +kernel
theorem dL_law_659 : decode cL_law 659 = .ok (.iload 4, 2) := by decide +kernel
theorem dL_law_661 : decode cL_law 661 = .ok (.iconst 5, 1) := by decide +kernel
theorem dL_law_662 : decode cL_law 662 = .ok (.iadd, 1) := by decide +kernel
theorem dL_law_663 : decode cL_law 663 = .ok (.iaload, 1) := by decide +kernel
theorem dL_law_664 : decode cL_law 664 = .ok (.aload_n 0, 1) := by decide +kernel
theorem dL_law_665 : decode cL_law 665 = .ok (.iload 4, 2) := by decide +kernel
theorem dL_law_667 : decode cL_law 667 = .ok (.bipush 6, 2) := by decide +kernel
theorem dL_law_669 : decode cL_law 669 = .ok (.iadd, 1) := by decide +kernel
theorem dL_law_670 : decode cL_law 670 = .ok (.iaload, 1) := by decide +kernel
theorem dL_law_671 : decode cL_law 671 = .ok (.invokevirtual 62, 3) := by decide +kernel
theorem dL_law_674 : decode cL_law 674 = .ok (.pop, 1) := by decide +kernel
theorem dL_law_675 : decode cL_law 675 = .ok (.goto 1255, 3) := by decide +kernel
set_option maxHeartbeats 4000000 in
set_option maxRecDepth 100000 in
theorem case_8 {p : Program} {e : Env} {s : State} {m : MethodId} {below : List Frame} {meth : Method} {c : Code} (l : Launch) (hfl : l.stackTraces = false) {b L : Nat} {xs : Nat → Int32} {D : va_G} {cy : Nat → ClassId} {st aM : Nat → Nat} {o x0 : Nat} {aX : Nat → Nat} {u v : SX} {f : Nat → Int64} {H : Heap} {locs : List Loc} {ls : Array Slot} {i : Int32} {cells slots : Nat} {Q : State → Prop} (F : LF p s m meth c b L xs D cy st aM o) (I : LI s D cy st aM o x0 aX u v f H locs) (hi0 : 0 ≤ i.toInt) (hi9 : i.toInt + 9 ≤ (L : Int)) (hcl : cells + 2 ≤ room_1.cells) (hsl : slots + 122 ≤ room_1.slots) (hl : lv_has ls 7 [(0, .ref b), (1, .ref x0), (2, .ref (aM 0)), (3, .ref o), (4, .int i)]) (kk : ∀ (aX : Nat → Nat) (u v : SX) (f : Nat → Int64) (H : Heap) (locs : List Loc) (ls : Array Slot), LI s D cy st aM o x0 aX u v f H locs → lv_has ls 7 [(0, .ref b), (1, .ref x0), (2, .ref (aM 0)), (3, .ref o), (4, .int i)] → W p l e room_1 s m #[Value.ref b] below meth c H locs (cells + 2) (slots + 122) Q (F0 m 1930 ls [])) : W p l e room_1 s m #[Value.ref b] below meth c H locs cells slots Q (F0 m 591 ls []) := by
  obtain ⟨C0, hL, hK, hJM, hAM, hoM, hso, hst, hE, hCL⟩ := F
  obtain ⟨hx, hb, hr, hml, hown, hts0, hX, hbl, hlocks, hgv⟩ := C0
  obtain ⟨hx0, hJX, hAX, hdis, hoX, hPX, hPM, hPo, hS, hIX, hIM, hEv, htie, hrow, htape, hcnt, hpar⟩ := I
  have hts : ∀ w ∈ wsL_law, w.before #[Value.ref b] s = true := fun w h => hts0 w (wsL_law_in w h)
  have hbA : ¬ (fun q : Nat => s.heap.size ≤ q) b := Nat.not_le.mpr hbl
  have hA0 : ∀ q, (fun q : Nat => s.heap.size ≤ q) q → st 100 ≤ q := fun q h => by rw [hst]; exact h
  have hfit : cells ≤ room_1.cells ∧ slots ≤ room_1.slots := ⟨Nat.le_trans (Nat.le_add_right _ _) hcl, Nat.le_trans (Nat.le_add_right _ _) hsl⟩
  subst hx0
  obtain ⟨y1, hy1⟩ : ∃ y, xs (i + 1).toNatClampNeg = y := ⟨_, rfl⟩
  have hin1 : vp_in (i + 1) L := in9 (show (1 : Int32).toInt = 1 by decide) hi0 hi9 hL (by decide) (by decide)
  obtain ⟨y2, hy2⟩ : ∃ y, xs (i + 2).toNatClampNeg = y := ⟨_, rfl⟩
  have hin2 : vp_in (i + 2) L := in9 (show (2 : Int32).toInt = 2 by decide) hi0 hi9 hL (by decide) (by decide)
  obtain ⟨y3, hy3⟩ : ∃ y, xs (i + 3).toNatClampNeg = y := ⟨_, rfl⟩
  have hin3 : vp_in (i + 3) L := in9 (show (3 : Int32).toInt = 3 by decide) hi0 hi9 hL (by decide) (by decide)
  obtain ⟨y4, hy4⟩ : ∃ y, xs (i + 4).toNatClampNeg = y := ⟨_, rfl⟩
  have hin4 : vp_in (i + 4) L := in9 (show (4 : Int32).toInt = 4 by decide) hi0 hi9 hL (by decide) (by decide)
  obtain ⟨y5, hy5⟩ : ∃ y, xs (i + 5).toNatClampNeg = y := ⟨_, rfl⟩
  have hin5 : vp_in (i + 5) L := in9 (show (5 : Int32).toInt = 5 by decide) hi0 hi9 hL (by decide) (by decide)
  obtain ⟨y6, hy6⟩ : ∃ y, xs (i + 6).toNatClampNeg = y := ⟨_, rfl⟩
  have hin6 : vp_in (i + 6) L := in9 (show (6 : Int32).toInt = 6 by decide) hi0 hi9 hL (by decide) (by decide)
  refine lv_aload_n hx hb dL_law_591 rfl (lv_at hl 1 rfl) ?_
  refine lv_aload_n hx hb dL_law_592 rfl (lv_at hl 0 rfl) ?_
  refine lv_iload hx hb dL_law_593 (lv_at hl 4 rfl) ?_
  refine lv_iconst (v := 1) hx hb dL_law_595 (by decide) ?_
  refine lv_iadd hx hb dL_law_596 ?_
  refine sld9 (v := y1) hx hb hX hbl hbA hS hin1 hy1 dL_law_597 ?_
  refine lv_aload_n hx hb dL_law_598 rfl (lv_at hl 0 rfl) ?_
  refine lv_iload hx hb dL_law_599 (lv_at hl 4 rfl) ?_
  refine lv_iconst (v := 2) hx hb dL_law_601 (by decide) ?_
  refine lv_iadd hx hb dL_law_602 ?_
  refine sld9 (v := y2) hx hb hX hbl hbA hS hin2 hy2 dL_law_603 ?_
  refine lv_aload_n hx hb dL_law_604 rfl (lv_at hl 0 rfl) ?_
  refine lv_iload hx hb dL_law_605 (lv_at hl 4 rfl) ?_
  refine lv_iconst (v := 3) hx hb dL_law_607 (by decide) ?_
  refine lv_iadd hx hb dL_law_608 ?_
  refine sld9 (v := y3) hx hb hX hbl hbA hS hin3 hy3 dL_law_609 ?_
  refine lv_aload_n hx hb dL_law_610 rfl (lv_at hl 0 rfl) ?_
  refine lv_iload hx hb dL_law_611 (lv_at hl 4 rfl) ?_
  refine lv_iconst (v := 4) hx hb dL_law_613 (by decide) ?_
  refine lv_iadd hx hb dL_law_614 ?_
  refine sld9 (v := y4) hx hb hX hbl hbA hS hin4 hy4 dL_law_615 ?_
  refine lv_aload_n hx hb dL_law_616 rfl (lv_at hl 0 rfl) ?_
  refine lv_iload hx hb dL_law_617 (lv_at hl 4 rfl) ?_
  refine lv_iconst (v := 5) hx hb dL_law_619 (by decide) ?_
  refine lv_iadd hx hb dL_law_620 ?_
  refine sld9 (v := y5) hx hb hX hbl hbA hS hin5 hy5 dL_law_621 ?_
  refine lv_aload_n hx hb dL_law_622 rfl (lv_at hl 0 rfl) ?_
  refine lv_iload hx hb dL_law_623 (lv_at hl 4 rfl) ?_
  refine lv_bipush (v := 6) hx hb dL_law_625 (by decide) ?_
  refine lv_iadd hx hb dL_law_627 ?_
  refine sld9 (v := y6) hx hb hX hbl hbA hS hin6 hy6 dL_law_628 ?_
  obtain ⟨⟨r, uA⟩, hfX, hqX⟩ := tfX11_sum_0 y1 y2 y3 y4 y5 y6 u hIX
  refine lg_i (V := VX cy aX st) (Ad := AX aX) (As := [.int y1, .int y2, .int y3, .int y4, .int y5, .int y6]) (rest := []) ⟨hx, hb, hml, hown, fun w h => hts0 w (gw_X11_sum w h)⟩ hA0 hK hPX hS (fun q h => h.elim (hAX q) (fun z => Nat.le_trans hS.1 z)) (metX11_sum_0 l D cy aX st hJX H.size y1 y2 y3 y4 y5 y6 hfX) (cwV 6 (fun w h => hts0 w (gw_X11_sum w h)) gx_X11_sum rfl rfl rfl (by decide +kernel) ⟨Nat.le_of_ble_eq_true rfl, Nat.le_of_ble_eq_true rfl⟩) 0 11 rfl rfl rfl hl.1 rfl (Nat.le_of_ble_eq_true rfl) dL_law_629 hfit (fun H1 locs1 hP1 hkeep hS1 => ?_)
  have hPM1 := hkeep _ hPM (fun k q hq => hdis _ (VM_mem hq))
  have hPo1 := hkeep _ hPo (fun k q hq => by rw [oat hq]; exact hoX)
  have hIX1 : IX uA := hqX.1.1
  have hFX := hqX.1.2
  have hfrX := hqX.1.2.1
  have hrwX := hqX.1.2.2.1
  clear hPX hPM hPo hS hkeep
  have hPX := hP1
  have hPM := hPM1
  have hPo := hPo1
  have hS := hS1
  clear hP1 hPM1 hPo1 hS1 hqX
  generalize H1 = H at hPX hPo hPM hS ⊢
  generalize locs1 = locs at hS ⊢
  refine lv_pop hx hb dL_law_632 rfl ?_
  refine lv_aload_n hx hb dL_law_633 rfl (lv_at hl 2 rfl) ?_
  refine lv_aload_n hx hb dL_law_634 rfl (lv_at hl 0 rfl) ?_
  refine lv_iload hx hb dL_law_635 (lv_at hl 4 rfl) ?_
  refine lv_iconst (v := 1) hx hb dL_law_637 (by decide) ?_
  refine lv_iadd hx hb dL_law_638 ?_
  refine sld9 (v := y1) hx hb hX hbl hbA hS hin1 hy1 dL_law_639 ?_
  refine lv_aload_n hx hb dL_law_640 rfl (lv_at hl 0 rfl) ?_
  refine lv_iload hx hb dL_law_641 (lv_at hl 4 rfl) ?_
  refine lv_iconst (v := 2) hx hb dL_law_643 (by decide) ?_
  refine lv_iadd hx hb dL_law_644 ?_
  refine sld9 (v := y2) hx hb hX hbl hbA hS hin2 hy2 dL_law_645 ?_
  refine lv_aload_n hx hb dL_law_646 rfl (lv_at hl 0 rfl) ?_
  refine lv_iload hx hb dL_law_647 (lv_at hl 4 rfl) ?_
  refine lv_iconst (v := 3) hx hb dL_law_649 (by decide) ?_
  refine lv_iadd hx hb dL_law_650 ?_
  refine sld9 (v := y3) hx hb hX hbl hbA hS hin3 hy3 dL_law_651 ?_
  refine lv_aload_n hx hb dL_law_652 rfl (lv_at hl 0 rfl) ?_
  refine lv_iload hx hb dL_law_653 (lv_at hl 4 rfl) ?_
  refine lv_iconst (v := 4) hx hb dL_law_655 (by decide) ?_
  refine lv_iadd hx hb dL_law_656 ?_
  refine sld9 (v := y4) hx hb hX hbl hbA hS hin4 hy4 dL_law_657 ?_
  refine lv_aload_n hx hb dL_law_658 rfl (lv_at hl 0 rfl) ?_
  refine lv_iload hx hb dL_law_659 (lv_at hl 4 rfl) ?_
  refine lv_iconst (v := 5) hx hb dL_law_661 (by decide) ?_
  refine lv_iadd hx hb dL_law_662 ?_
  refine sld9 (v := y5) hx hb hX hbl hbA hS hin5 hy5 dL_law_663 ?_
  refine lv_aload_n hx hb dL_law_664 rfl (lv_at hl 0 rfl) ?_
  refine lv_iload hx hb dL_law_665 (lv_at hl 4 rfl) ?_
  refine lv_bipush (v := 6) hx hb dL_law_667 (by decide) ?_
  refine lv_iadd hx hb dL_law_669 ?_
  refine sld9 (v := y6) hx hb hX hbl hbA hS hin6 hy6 dL_law_670 ?_
  obtain ⟨⟨rM, vA⟩, hfM, hqM⟩ := tfX12_sum__0 y1 y2 y3 y4 y5 y6 v hIM
  refine lg_i (V := VM cy aM st) (Ad := AM aM) (As := [.int y1, .int y2, .int y3, .int y4, .int y5, .int y6]) (rest := []) ⟨hx, hb, hml, hown, fun w h => hts0 w (gw_X12_sum_ w h)⟩ hA0 hK hPM hS (fun q h => h.elim (hAM q) (fun z => Nat.le_trans hS.1 z)) (metX12_sum__0 l D cy aM st hJM H.size y1 y2 y3 y4 y5 y6 hfM) (cwV 6 (fun w h => hts0 w (gw_X12_sum_ w h)) gx_X12_sum_ rfl rfl rfl (by decide +kernel) ⟨Nat.le_of_ble_eq_true rfl, Nat.le_of_ble_eq_true rfl⟩) 0 12 rfl rfl rfl hl.1 rfl (Nat.le_of_ble_eq_true rfl) dL_law_671 hfit (fun H1 locs1 hP1 hkeep hS1 => ?_)
  have hPX1 := hkeep _ hPX (fun k q hq hz => hdis _ hz ⟨k, (VX_adr hq).1⟩)
  have hPo1 := hkeep _ hPo (fun k q hq => by rw [oat hq]; exact hoM)
  have hEv1 : EvM vA := EvM_fr (hqM.1.2.1 13 (by decide)) (hqM.1.2.1 14 (by decide)) (hqM.1.2.1 21 (by decide)) (hqM.1.2.2.1 33 (by decide)) hEv
  have htie1 : Tie uA vA := Tie_fr hfrX hqM.1.2.1 (by decide) htie
  have hrow1 : TieR uA vA := TieR_fr (hfrX 36 (by decide)) (hrwX 63 (by decide)) (hrwX 64 (by decide)) (hrwX 65 (by decide)) (hqM.1.2.2.1 36 (by decide)) (hqM.1.2.2.1 37 (by decide)) (hqM.1.2.2.1 38 (by decide)) hrow
  have htape1 : TieT uA vA := TieT_fr (hfrX 1 (by decide)) (hrwX 13 (by decide)) (hqM.1.2.1 3 (by decide)) (hqM.1.2.2.1 1 (by decide)) htape
  have hcnt1 : TieC uA vA := TieC_fr (hfrX 5 (by decide)) (hfrX 6 (by decide)) (hfrX 7 (by decide)) (hqM.1.2.2.1 4 (by decide)) hcnt
  have hpar1 : TieP uA vA := TieP_fr (hfrX 8 (by decide)) (hfrX 29 (by decide)) (hfrX 9 (by decide)) (hfrX 0 (by decide)) (hrwX 52 (by decide)) (hqM.1.2.1 12 (by decide)) (hqM.1.2.1 21 (by decide)) (hqM.1.2.1 14 (by decide)) (hqM.1.2.2.1 33 (by decide)) hpar
  have hIM1 : IM vA := hqM.1.1
  clear hPX hPM hPo hS hIM hEv htie hrow htape hcnt hpar hkeep hfrX hrwX hIX
  have hPX := hPX1
  have hPM := hP1
  have hPo := hPo1
  have hS := hS1
  have hIM := hIM1
  have hEv := hEv1
  have htie := htie1
  have hrow := hrow1
  have htape := htape1
  have hcnt := hcnt1
  have hpar := hpar1
  have hIX := hIX1
  clear hIX1
  clear hP1 hPX1 hPo1 hS1 hIM1 hEv1 htie1 hrow1 htape1 hcnt1 hpar1 hqM
  generalize H1 = H at hPX hPo hPM hS ⊢
  generalize locs1 = locs at hS ⊢
  refine lv_pop hx hb dL_law_674 rfl ?_
  refine lv_goto (tgt := 1930) hx hb dL_law_675 (by decide) ?_
  refine W.widen (k := cells + 2) (n := slots + 122) (Nat.le_add_right _ _) (Nat.le_add_right _ _) ?_
  exact kk aX uA vA f H locs ls ⟨rfl, hJX, hAX, hdis, hoX, hPX, hPM, hPo, hS, hIX, hIM, hEv, htie, hrow, htape, hcnt, hpar⟩ hl
theorem dL_law_678 : decode cL_law 678 = .ok (.aload_n 1, 1) := by decide +kernel
theorem dL_law_679 : decode cL_law 679 = .ok (.aload_n 0, 1) := by decide +kernel
theorem dL_law_680 : decode cL_law 680 = .ok (.iload 4, 2) := by decide +kernel
theorem dL_law_682 : decode cL_law 682 = .ok (.iconst 1, 1) := by decide +kernel
theorem dL_law_683 : decode cL_law 683 = .ok (.iadd, 1) := by decide +kernel
theorem dL_law_684 : decode cL_law 684 = .ok (.iaload, 1) := by decide +kernel
theorem dL_law_685 : decode cL_law 685 = .ok (.aload_n 0, 1) := by decide +kernel
theorem dL_law_686 : decode cL_law 686 = .ok (.iload 4, 2) := by decide +kernel
theorem dL_law_688 : decode cL_law 688 = .ok (.iconst 2, 1) := by decide +kernel
theorem dL_law_689 : decode cL_law 689 = .ok (.iadd, 1) := by decide +kernel
theorem dL_law_690 : decode cL_law 690 = .ok (.iaload, 1) := by decide +kernel
theorem dL_law_691 : decode cL_law 691 = .ok (.aload_n 0, 1) := by decide +kernel
theorem dL_law_692 : decode cL_law 692 = .ok (.iload 4, 2) := by decide +kernel
theorem dL_law_694 : decode cL_law 694 = .ok (.iconst 3, 1) := by decide +kernel
theorem dL_law_695 : decode cL_law 695 = .ok (.iadd, 1) := by decide +kernel
theorem dL_law_696 : decode cL_law 696 = .ok (.iaload, 1) := by decide +kernel
theorem dL_law_697 : decode cL_law 697 = .ok (.aload_n 0, 1) := by decide +kernel
theorem dL_law_698 : decode cL_law 698 = .ok (.iload 4, 2) := by decide +kernel
theorem dL_law_700 : decode cL_law 700 = .ok (.iconst 4, 1) := by decide +kernel
theorem dL_law_701 : decode cL_law 701 = .ok (.iadd, 1) := by decide +kernel
theorem dL_law_702 : decode cL_law 702 = .ok (.iaload, 1) := by decide +kernel
theorem dL_law_703 : decode cL_law 703 = .ok (.aload_n 0, 1) := by decide +kernel
theorem dL_law_704 : decode cL_law 704 = .ok (.iload 4, 2) := by decide +kernel
theorem dL_law_706 : decode cL_law 706 = .ok (.iconst 5, 1) := by decide +kernel
theorem dL_law_707 : decode cL_law 707 = .ok (.iadd, 1) := by decide +kernel
theorem dL_law_708 : decode cL_law 708 = .ok (.iaload, 1) := by decide +kernel
theorem dL_law_709 : decode cL_law 709 = .ok (.aload_n 0, 1) := by decide +kernel
theorem dL_law_710 : decode cL_law 710 = .ok (.iload 4, 2) := by decide +kernel
theorem dL_law_712 : decode cL_law 712 = .ok (.bipush 6, 2) := by decide +kernel
theorem dL_law_714 : decode cL_law 714 = .ok (.iadd, 1) := by decide +kernel
theorem dL_law_715 : decode cL_law 715 = .ok (.iaload, 1) := by decide +kernel
theorem dL_law_716 : decode cL_law 716 = .ok (.aload_n 0, 1) := by decide +kernel
theorem dL_law_717 : decode cL_law 717 = .ok (.iload 4, 2) := by decide +kernel
theorem dL_law_719 : decode cL_law 719 = .ok (.bipush 7, 2) := by decide +kernel
theorem dL_law_721 : decode cL_law 721 = .ok (.iadd, 1) := by decide +kernel
theorem dL_law_722 : decode cL_law 722 = .ok (.iaload, 1) := by decide +kernel
theorem dL_law_723 : decode cL_law 723 = .ok (.i2l, 1) := by decide +kernel
theorem dL_law_724 : decode cL_law 724 = .ok (.bipush 32, 2) := by decide +kernel
theorem dL_law_726 : decode cL_law 726 = .ok (.lshl, 1) := by decide +kernel
theorem dL_law_727 : decode cL_law 727 = .ok (.aload_n 0, 1) := by decide +kernel
theorem dL_law_728 : decode cL_law 728 = .ok (.iload 4, 2) := by decide +kernel
theorem dL_law_730 : decode cL_law 730 = .ok (.bipush 8, 2) := by decide +kernel
theorem dL_law_732 : decode cL_law 732 = .ok (.iadd, 1) := by decide +kernel
theorem dL_law_733 : decode cL_law 733 = .ok (.iaload, 1) := by decide +kernel
theorem dL_law_734 : decode cL_law 734 = .ok (.i2l, 1) := by decide +kernel
theorem dL_law_735 : decode cL_law 735 = .ok (.ldc2_w 63, 3) := by decide +kernel
theorem dL_law_738 : decode cL_law 738 = .ok (.land, 1) := by decide +kernel
theorem dL_law_739 : decode cL_law 739 = .ok (.lor, 1) := by decide +kernel
theorem dL_law_740 : decode cL_law 740 = .ok (.invokevirtual 65, 3) := by decide +kernel
theorem dL_law_743 : decode cL_law 743 = .ok (.pop, 1) := by decide +kernel
theorem dL_law_744 : decode cL_law 744 = .ok (.aload_n 2, 1) := by decide +kernel
theorem dL_law_745 : decode cL_law 745 = .ok (.aload_n 0, 1) := by decide +kernel
theorem dL_law_746 : decode cL_law 746 = .ok (.iload 4, 2) := by decide +kernel
theorem dL_law_748 : decode cL_law 748 = .ok (.iconst 1, 1) := by decide +kernel
theorem dL_law_749 : decode cL_law 749 = .ok (.iadd, 1) := by decide +kernel
theorem dL_law_750 : decode cL_law 750 = .ok (.iaload, 1) := by decide +kernel
theorem dL_law_751 : decode cL_law 751 = .ok (.aload_n 0, 1) := by decide +kernel
theorem dL_law_752 : decode cL_law 752 = .ok (.iload 4, 2) := by decide +kernel
theorem dL_law_754 : decode cL_law 754 = .ok (.iconst 2, 1) := by decide +kernel
theorem dL_law_755 : decode cL_law 755 = .ok (.iadd, 1) := by decide +kernel
theorem dL_law_756 : decode cL_law 756 = .ok (.iaload, 1) := by decide +kernel
theorem dL_law_757 : decode cL_law 757 = .ok (.aload_n 0, 1) := by decide +kernel
theorem dL_law_758 : decode cL_law 758 = .ok (.iload 4, 2) := by decide +kernel
theorem dL_law_760 : decode cL_law 760 = .ok (.iconst 3, 1) := by decide +kernel
theorem dL_law_761 : decode cL_law 761 = .ok (.iadd, 1) := by decide +kernel
theorem dL_law_762 : decode cL_law 762 = .ok (.iaload, 1) := by decide +kernel
theorem dL_law_763 : decode cL_law 763 = .ok (.aload_n 0, 1) := by decide +kernel
theorem dL_law_764 : decode cL_law 764 = .ok (.iload 4, 2) := by decide +kernel
theorem dL_law_766 : decode cL_law 766 = .ok (.iconst 4, 1) := by decide +kernel
theorem dL_law_767 : decode cL_law 767 = .ok (.iadd, 1) := by decide +kernel
theorem dL_law_768 : decode cL_law 768 = .ok (.iaload, 1) := by decide +kernel
theorem dL_law_769 : decode cL_law 769 = .ok (.aload_n 0, 1) := by decide +kernel
theorem dL_law_770 : decode cL_law 770 = .ok (.iload 4, 2) := by decide +kernel
theorem dL_law_772 : decode cL_law 772 = .ok (.iconst 5, 1) := by decide +kernel
theorem dL_law_773 : decode cL_law 773 = .ok (.iadd, 1) := by decide +kernel
theorem dL_law_774 : decode cL_law 774 = .ok (.iaload, 1) := by decide +kernel
theorem dL_law_775 : decode cL_law 775 = .ok (.aload_n 0, 1) := by decide +kernel
theorem dL_law_776 : decode cL_law 776 = .ok (.iload 4, 2) := by decide +kernel
theorem dL_law_778 : decode cL_law 778 = .ok (.bipush 6, 2) := by decide +kernel
theorem dL_law_780 : decode cL_law 780 = .ok (.iadd, 1) := by decide +kernel
theorem dL_law_781 : decode cL_law 781 = .ok (.iaload, 1) := by decide +kernel
theorem dL_law_782 : decode cL_law 782 = .ok (.aload_n 0, 1) := by decide +kernel
theorem dL_law_783 : decode cL_law 783 = .ok (.iload 4, 2) := by decide +kernel
theorem dL_law_785 : decode cL_law 785 = .ok (.bipush 7, 2) := by decide +kernel
theorem dL_law_787 : decode cL_law 787 = .ok (.iadd, 1) := by decide +kernel
theorem dL_law_788 : decode cL_law 788 = .ok (.iaload, 1) := by decide +kernel
theorem dL_law_789 : decode cL_law 789 = .ok (.i2l, 1) := by decide +kernel
theorem dL_law_790 : decode cL_law 790 = .ok (.bipush 32, 2) := by decide +kernel
theorem dL_law_792 : decode cL_law 792 = .ok (.lshl, 1) := by decide +kernel
theorem dL_law_793 : decode cL_law 793 = .ok (.aload_n 0, 1) := by decide +kernel
theorem dL_law_794 : decode cL_law 794 = .ok (.iload 4, 2) := by decide +kernel
theorem dL_law_796 : decode cL_law 796 = .ok (.bipush 8, 2) := by decide +kernel
theorem dL_law_798 : decode cL_law 798 = .ok (.iadd, 1) := by decide +kernel
theorem dL_law_799 : decode cL_law 799 = .ok (.iaload, 1) := by decide +kernel
theorem dL_law_800 : decode cL_law 800 = .ok (.i2l, 1) := by decide +kernel
theorem dL_law_801 : decode cL_law 801 = .ok (.ldc2_w 63, 3) := by decide +kernel
theorem dL_law_804 : decode cL_law 804 = .ok (.land, 1) := by decide +kernel
theorem dL_law_805 : decode cL_law 805 = .ok (.lor, 1) := by decide +kernel
theorem dL_law_806 : decode cL_law 806 = .ok (.invokevirtual 69, 3) := by decide +kernel
theorem dL_law_809 : decode cL_law 809 = .ok (.pop, 1) := by decide +kernel
theorem dL_law_810 : decode cL_law 810 = .ok (.goto 1120, 3) := by decide +kernel
set_option maxHeartbeats 4000000 in
set_option maxRecDepth 100000 in
theorem case_9 {p : Program} {e : Env} {s : State} {m : MethodId} {below : List Frame} {meth : Method} {c : Code} (l : Launch) (hfl : l.stackTraces = false) {b L : Nat} {xs : Nat → Int32} {D : va_G} {cy : Nat → ClassId} {st aM : Nat → Nat} {o x0 : Nat} {aX : Nat → Nat} {u v : SX} {f : Nat → Int64} {H : Heap} {locs : List Loc} {ls : Array Slot} {i : Int32} {cells slots : Nat} {Q : State → Prop} (F : LF p s m meth c b L xs D cy st aM o) (I : LI s D cy st aM o x0 aX u v f H locs) (hi0 : 0 ≤ i.toInt) (hi9 : i.toInt + 9 ≤ (L : Int)) (hcl : cells + 2 ≤ room_1.cells) (hsl : slots + 122 ≤ room_1.slots) (hl : lv_has ls 7 [(0, .ref b), (1, .ref x0), (2, .ref (aM 0)), (3, .ref o), (4, .int i)]) (kk : ∀ (aX : Nat → Nat) (u v : SX) (f : Nat → Int64) (H : Heap) (locs : List Loc) (ls : Array Slot), LI s D cy st aM o x0 aX u v f H locs → lv_has ls 7 [(0, .ref b), (1, .ref x0), (2, .ref (aM 0)), (3, .ref o), (4, .int i)] → W p l e room_1 s m #[Value.ref b] below meth c H locs (cells + 2) (slots + 122) Q (F0 m 1930 ls [])) : W p l e room_1 s m #[Value.ref b] below meth c H locs cells slots Q (F0 m 678 ls []) := by
  obtain ⟨C0, hL, hK, hJM, hAM, hoM, hso, hst, hE, hCL⟩ := F
  obtain ⟨hx, hb, hr, hml, hown, hts0, hX, hbl, hlocks, hgv⟩ := C0
  obtain ⟨hx0, hJX, hAX, hdis, hoX, hPX, hPM, hPo, hS, hIX, hIM, hEv, htie, hrow, htape, hcnt, hpar⟩ := I
  have hts : ∀ w ∈ wsL_law, w.before #[Value.ref b] s = true := fun w h => hts0 w (wsL_law_in w h)
  have hbA : ¬ (fun q : Nat => s.heap.size ≤ q) b := Nat.not_le.mpr hbl
  have hA0 : ∀ q, (fun q : Nat => s.heap.size ≤ q) q → st 100 ≤ q := fun q h => by rw [hst]; exact h
  have hfit : cells ≤ room_1.cells ∧ slots ≤ room_1.slots := ⟨Nat.le_trans (Nat.le_add_right _ _) hcl, Nat.le_trans (Nat.le_add_right _ _) hsl⟩
  subst hx0
  obtain ⟨y1, hy1⟩ : ∃ y, xs (i + 1).toNatClampNeg = y := ⟨_, rfl⟩
  have hin1 : vp_in (i + 1) L := in9 (show (1 : Int32).toInt = 1 by decide) hi0 hi9 hL (by decide) (by decide)
  obtain ⟨y2, hy2⟩ : ∃ y, xs (i + 2).toNatClampNeg = y := ⟨_, rfl⟩
  have hin2 : vp_in (i + 2) L := in9 (show (2 : Int32).toInt = 2 by decide) hi0 hi9 hL (by decide) (by decide)
  obtain ⟨y3, hy3⟩ : ∃ y, xs (i + 3).toNatClampNeg = y := ⟨_, rfl⟩
  have hin3 : vp_in (i + 3) L := in9 (show (3 : Int32).toInt = 3 by decide) hi0 hi9 hL (by decide) (by decide)
  obtain ⟨y4, hy4⟩ : ∃ y, xs (i + 4).toNatClampNeg = y := ⟨_, rfl⟩
  have hin4 : vp_in (i + 4) L := in9 (show (4 : Int32).toInt = 4 by decide) hi0 hi9 hL (by decide) (by decide)
  obtain ⟨y5, hy5⟩ : ∃ y, xs (i + 5).toNatClampNeg = y := ⟨_, rfl⟩
  have hin5 : vp_in (i + 5) L := in9 (show (5 : Int32).toInt = 5 by decide) hi0 hi9 hL (by decide) (by decide)
  obtain ⟨y6, hy6⟩ : ∃ y, xs (i + 6).toNatClampNeg = y := ⟨_, rfl⟩
  have hin6 : vp_in (i + 6) L := in9 (show (6 : Int32).toInt = 6 by decide) hi0 hi9 hL (by decide) (by decide)
  obtain ⟨y7, hy7⟩ : ∃ y, xs (i + 7).toNatClampNeg = y := ⟨_, rfl⟩
  have hin7 : vp_in (i + 7) L := in9 (show (7 : Int32).toInt = 7 by decide) hi0 hi9 hL (by decide) (by decide)
  obtain ⟨y8, hy8⟩ : ∃ y, xs (i + 8).toNatClampNeg = y := ⟨_, rfl⟩
  have hin8 : vp_in (i + 8) L := in9 (show (8 : Int32).toInt = 8 by decide) hi0 hi9 hL (by decide) (by decide)
  refine lv_aload_n hx hb dL_law_678 rfl (lv_at hl 1 rfl) ?_
  refine lv_aload_n hx hb dL_law_679 rfl (lv_at hl 0 rfl) ?_
  refine lv_iload hx hb dL_law_680 (lv_at hl 4 rfl) ?_
  refine lv_iconst (v := 1) hx hb dL_law_682 (by decide) ?_
  refine lv_iadd hx hb dL_law_683 ?_
  refine sld9 (v := y1) hx hb hX hbl hbA hS hin1 hy1 dL_law_684 ?_
  refine lv_aload_n hx hb dL_law_685 rfl (lv_at hl 0 rfl) ?_
  refine lv_iload hx hb dL_law_686 (lv_at hl 4 rfl) ?_
  refine lv_iconst (v := 2) hx hb dL_law_688 (by decide) ?_
  refine lv_iadd hx hb dL_law_689 ?_
  refine sld9 (v := y2) hx hb hX hbl hbA hS hin2 hy2 dL_law_690 ?_
  refine lv_aload_n hx hb dL_law_691 rfl (lv_at hl 0 rfl) ?_
  refine lv_iload hx hb dL_law_692 (lv_at hl 4 rfl) ?_
  refine lv_iconst (v := 3) hx hb dL_law_694 (by decide) ?_
  refine lv_iadd hx hb dL_law_695 ?_
  refine sld9 (v := y3) hx hb hX hbl hbA hS hin3 hy3 dL_law_696 ?_
  refine lv_aload_n hx hb dL_law_697 rfl (lv_at hl 0 rfl) ?_
  refine lv_iload hx hb dL_law_698 (lv_at hl 4 rfl) ?_
  refine lv_iconst (v := 4) hx hb dL_law_700 (by decide) ?_
  refine lv_iadd hx hb dL_law_701 ?_
  refine sld9 (v := y4) hx hb hX hbl hbA hS hin4 hy4 dL_law_702 ?_
  refine lv_aload_n hx hb dL_law_703 rfl (lv_at hl 0 rfl) ?_
  refine lv_iload hx hb dL_law_704 (lv_at hl 4 rfl) ?_
  refine lv_iconst (v := 5) hx hb dL_law_706 (by decide) ?_
  refine lv_iadd hx hb dL_law_707 ?_
  refine sld9 (v := y5) hx hb hX hbl hbA hS hin5 hy5 dL_law_708 ?_
  refine lv_aload_n hx hb dL_law_709 rfl (lv_at hl 0 rfl) ?_
  refine lv_iload hx hb dL_law_710 (lv_at hl 4 rfl) ?_
  refine lv_bipush (v := 6) hx hb dL_law_712 (by decide) ?_
  refine lv_iadd hx hb dL_law_714 ?_
  refine sld9 (v := y6) hx hb hX hbl hbA hS hin6 hy6 dL_law_715 ?_
  refine lv_aload_n hx hb dL_law_716 rfl (lv_at hl 0 rfl) ?_
  refine lv_iload hx hb dL_law_717 (lv_at hl 4 rfl) ?_
  refine lv_bipush (v := 7) hx hb dL_law_719 (by decide) ?_
  refine lv_iadd hx hb dL_law_721 ?_
  refine sld9 (v := y7) hx hb hX hbl hbA hS hin7 hy7 dL_law_722 ?_
  refine lv_i2l (v := y7.toInt64) hx hb dL_law_723 rfl ?_
  refine lv_bipush (v := 32) hx hb dL_law_724 (by decide) ?_
  refine lv_lshl hx hb dL_law_726 rfl ?_
  refine lv_aload_n hx hb dL_law_727 rfl (lv_at hl 0 rfl) ?_
  refine lv_iload hx hb dL_law_728 (lv_at hl 4 rfl) ?_
  refine lv_bipush (v := 8) hx hb dL_law_730 (by decide) ?_
  refine lv_iadd hx hb dL_law_732 ?_
  refine sld9 (v := y8) hx hb hX hbl hbA hS hin8 hy8 dL_law_733 ?_
  refine lv_i2l (v := y8.toInt64) hx hb dL_law_734 rfl ?_
  refine lv_ldc2 hx hb hown (hts _ mL_0) dL_law_735 ?_
  refine lv_land hx hb dL_law_738 ?_
  refine lv_lor hx hb dL_law_739 ?_
  refine lv_topl (fun z1 ez1 => ?_)
  clear ez1
  obtain ⟨⟨r, uA⟩, hfX, hqX⟩ := tfX11_heard_0 y1 y2 y3 y4 y5 y6 z1 u hIX
  refine lg_i (V := VX cy aX st) (Ad := AX aX) (As := [.int y1, .int y2, .int y3, .int y4, .int y5, .int y6, .long z1]) (rest := []) ⟨hx, hb, hml, hown, fun w h => hts0 w (gw_X11_heard w h)⟩ hA0 hK hPX hS (fun q h => h.elim (hAX q) (fun z => Nat.le_trans hS.1 z)) (metX11_heard_0 l D cy aX st hJX H.size y1 y2 y3 y4 y5 y6 z1 hfX) (cwV 7 (fun w h => hts0 w (gw_X11_heard w h)) gx_X11_heard rfl rfl rfl (by decide +kernel) ⟨Nat.le_of_ble_eq_true rfl, Nat.le_of_ble_eq_true rfl⟩) 0 11 rfl rfl rfl hl.1 rfl (Nat.le_of_ble_eq_true rfl) dL_law_740 hfit (fun H1 locs1 hP1 hkeep hS1 => ?_)
  have hPM1 := hkeep _ hPM (fun k q hq => hdis _ (VM_mem hq))
  have hPo1 := hkeep _ hPo (fun k q hq => by rw [oat hq]; exact hoX)
  have hIX1 : IX uA := hqX.1.1
  have hFX := hqX.1.2
  have hfrX := hqX.1.2.1
  have hrwX := hqX.1.2.2.1
  clear hPX hPM hPo hS hkeep
  have hPX := hP1
  have hPM := hPM1
  have hPo := hPo1
  have hS := hS1
  clear hP1 hPM1 hPo1 hS1 hqX
  generalize H1 = H at hPX hPo hPM hS ⊢
  generalize locs1 = locs at hS ⊢
  refine lv_pop hx hb dL_law_743 rfl ?_
  refine lv_aload_n hx hb dL_law_744 rfl (lv_at hl 2 rfl) ?_
  refine lv_aload_n hx hb dL_law_745 rfl (lv_at hl 0 rfl) ?_
  refine lv_iload hx hb dL_law_746 (lv_at hl 4 rfl) ?_
  refine lv_iconst (v := 1) hx hb dL_law_748 (by decide) ?_
  refine lv_iadd hx hb dL_law_749 ?_
  refine sld9 (v := y1) hx hb hX hbl hbA hS hin1 hy1 dL_law_750 ?_
  refine lv_aload_n hx hb dL_law_751 rfl (lv_at hl 0 rfl) ?_
  refine lv_iload hx hb dL_law_752 (lv_at hl 4 rfl) ?_
  refine lv_iconst (v := 2) hx hb dL_law_754 (by decide) ?_
  refine lv_iadd hx hb dL_law_755 ?_
  refine sld9 (v := y2) hx hb hX hbl hbA hS hin2 hy2 dL_law_756 ?_
  refine lv_aload_n hx hb dL_law_757 rfl (lv_at hl 0 rfl) ?_
  refine lv_iload hx hb dL_law_758 (lv_at hl 4 rfl) ?_
  refine lv_iconst (v := 3) hx hb dL_law_760 (by decide) ?_
  refine lv_iadd hx hb dL_law_761 ?_
  refine sld9 (v := y3) hx hb hX hbl hbA hS hin3 hy3 dL_law_762 ?_
  refine lv_aload_n hx hb dL_law_763 rfl (lv_at hl 0 rfl) ?_
  refine lv_iload hx hb dL_law_764 (lv_at hl 4 rfl) ?_
  refine lv_iconst (v := 4) hx hb dL_law_766 (by decide) ?_
  refine lv_iadd hx hb dL_law_767 ?_
  refine sld9 (v := y4) hx hb hX hbl hbA hS hin4 hy4 dL_law_768 ?_
  refine lv_aload_n hx hb dL_law_769 rfl (lv_at hl 0 rfl) ?_
  refine lv_iload hx hb dL_law_770 (lv_at hl 4 rfl) ?_
  refine lv_iconst (v := 5) hx hb dL_law_772 (by decide) ?_
  refine lv_iadd hx hb dL_law_773 ?_
  refine sld9 (v := y5) hx hb hX hbl hbA hS hin5 hy5 dL_law_774 ?_
  refine lv_aload_n hx hb dL_law_775 rfl (lv_at hl 0 rfl) ?_
  refine lv_iload hx hb dL_law_776 (lv_at hl 4 rfl) ?_
  refine lv_bipush (v := 6) hx hb dL_law_778 (by decide) ?_
  refine lv_iadd hx hb dL_law_780 ?_
  refine sld9 (v := y6) hx hb hX hbl hbA hS hin6 hy6 dL_law_781 ?_
  refine lv_aload_n hx hb dL_law_782 rfl (lv_at hl 0 rfl) ?_
  refine lv_iload hx hb dL_law_783 (lv_at hl 4 rfl) ?_
  refine lv_bipush (v := 7) hx hb dL_law_785 (by decide) ?_
  refine lv_iadd hx hb dL_law_787 ?_
  refine sld9 (v := y7) hx hb hX hbl hbA hS hin7 hy7 dL_law_788 ?_
  refine lv_i2l (v := y7.toInt64) hx hb dL_law_789 rfl ?_
  refine lv_bipush (v := 32) hx hb dL_law_790 (by decide) ?_
  refine lv_lshl hx hb dL_law_792 rfl ?_
  refine lv_aload_n hx hb dL_law_793 rfl (lv_at hl 0 rfl) ?_
  refine lv_iload hx hb dL_law_794 (lv_at hl 4 rfl) ?_
  refine lv_bipush (v := 8) hx hb dL_law_796 (by decide) ?_
  refine lv_iadd hx hb dL_law_798 ?_
  refine sld9 (v := y8) hx hb hX hbl hbA hS hin8 hy8 dL_law_799 ?_
  refine lv_i2l (v := y8.toInt64) hx hb dL_law_800 rfl ?_
  refine lv_ldc2 hx hb hown (hts _ mL_0) dL_law_801 ?_
  refine lv_land hx hb dL_law_804 ?_
  refine lv_lor hx hb dL_law_805 ?_
  refine lv_topl (fun z2 ez2 => ?_)
  clear ez2
  obtain ⟨⟨rM, vA⟩, hfM, hqM⟩ := tfX12_heard_0 y1 y2 y3 y4 y5 y6 z2 v hIM
  refine lg_i (V := VM cy aM st) (Ad := AM aM) (As := [.int y1, .int y2, .int y3, .int y4, .int y5, .int y6, .long z2]) (rest := []) ⟨hx, hb, hml, hown, fun w h => hts0 w (gw_X12_heard w h)⟩ hA0 hK hPM hS (fun q h => h.elim (hAM q) (fun z => Nat.le_trans hS.1 z)) (metX12_heard_0 l D cy aM st hJM H.size y1 y2 y3 y4 y5 y6 z2 hfM) (cwV 7 (fun w h => hts0 w (gw_X12_heard w h)) gx_X12_heard rfl rfl rfl (by decide +kernel) ⟨Nat.le_of_ble_eq_true rfl, Nat.le_of_ble_eq_true rfl⟩) 0 12 rfl rfl rfl hl.1 rfl (Nat.le_of_ble_eq_true rfl) dL_law_806 hfit (fun H1 locs1 hP1 hkeep hS1 => ?_)
  have hPX1 := hkeep _ hPX (fun k q hq hz => hdis _ hz ⟨k, (VX_adr hq).1⟩)
  have hPo1 := hkeep _ hPo (fun k q hq => by rw [oat hq]; exact hoM)
  have hEv1 : EvM vA := EvM_fr (hqM.1.2.1 13 (by decide)) (hqM.1.2.1 14 (by decide)) (hqM.1.2.1 21 (by decide)) (hqM.1.2.2.1 33 (by decide)) hEv
  have htie1 : Tie uA vA := Tie_fr hfrX hqM.1.2.1 (by decide) htie
  have hrow1 : TieR uA vA := TieR_fr (hfrX 36 (by decide)) (hrwX 63 (by decide)) (hrwX 64 (by decide)) (hrwX 65 (by decide)) (hqM.1.2.2.1 36 (by decide)) (hqM.1.2.2.1 37 (by decide)) (hqM.1.2.2.1 38 (by decide)) hrow
  have htape1 : TieT uA vA := TieT_fr (hfrX 1 (by decide)) (hrwX 13 (by decide)) (hqM.1.2.1 3 (by decide)) (hqM.1.2.2.1 1 (by decide)) htape
  have hcnt1 : TieC uA vA := TieC_fr (hfrX 5 (by decide)) (hfrX 6 (by decide)) (hfrX 7 (by decide)) (hqM.1.2.2.1 4 (by decide)) hcnt
  have hpar1 : TieP uA vA := TieP_fr (hfrX 8 (by decide)) (hfrX 29 (by decide)) (hfrX 9 (by decide)) (hfrX 0 (by decide)) (hrwX 52 (by decide)) (hqM.1.2.1 12 (by decide)) (hqM.1.2.1 21 (by decide)) (hqM.1.2.1 14 (by decide)) (hqM.1.2.2.1 33 (by decide)) hpar
  have hIM1 : IM vA := hqM.1.1
  clear hPX hPM hPo hS hIM hEv htie hrow htape hcnt hpar hkeep hfrX hrwX hIX
  have hPX := hPX1
  have hPM := hP1
  have hPo := hPo1
  have hS := hS1
  have hIM := hIM1
  have hEv := hEv1
  have htie := htie1
  have hrow := hrow1
  have htape := htape1
  have hcnt := hcnt1
  have hpar := hpar1
  have hIX := hIX1
  clear hIX1
  clear hP1 hPX1 hPo1 hS1 hIM1 hEv1 htie1 hrow1 htape1 hcnt1 hpar1 hqM
  generalize H1 = H at hPX hPo hPM hS ⊢
  generalize locs1 = locs at hS ⊢
  refine lv_pop hx hb dL_law_809 rfl ?_
  refine lv_goto (tgt := 1930) hx hb dL_law_810 (by decide) ?_
  refine W.widen (k := cells + 2) (n := slots + 122) (Nat.le_add_right _ _) (Nat.le_add_right _ _) ?_
  exact kk aX uA vA f H locs ls ⟨rfl, hJX, hAX, hdis, hoX, hPX, hPM, hPo, hS, hIX, hIM, hEv, htie, hrow, htape, hcnt, hpar⟩ hl
