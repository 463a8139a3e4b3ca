theorem zdX11_worth_35 : (and (and (zk cX11_worth 35 (.new 154) 3) (zk cX11_worth 38 (.dup) 1)) (and (zk cX11_worth 39 (.invokespecial 156) 3) (zk cX11_worth 42 (.athrow) 1))) = true := by decide +kernel
theorem dX11_worth_35 : decode cX11_worth 35 = .ok (.new 154, 3) := zk_of (zk_l (zk_l zdX11_worth_35))
theorem dX11_worth_38 : decode cX11_worth 38 = .ok (.dup, 1) := zk_of (zk_r (zk_l zdX11_worth_35))
theorem dX11_worth_39 : decode cX11_worth 39 = .ok (.invokespecial 156, 3) := zk_of (zk_l (zk_r zdX11_worth_35))
theorem dX11_worth_42 : decode cX11_worth 42 = .ok (.athrow, 1) := zk_of (zk_r (zk_r zdX11_worth_35))
theorem zdL_worth_0 : (and (and (and (and (and (zk cL_worth 0 (.aload 8) 2) (zk cL_worth 2 (.iconst 0) 1)) (zk cL_worth 3 (.aload_n 0) 1)) (and (zk cL_worth 4 (.iload_n 1) 1) (zk cL_worth 5 (.iload_n 2) 1))) (and (and (and (zk cL_worth 6 (.iload_n 3) 1) (zk cL_worth 7 (.iload 4) 2)) (zk cL_worth 9 (.iload 5) 2)) (and (zk cL_worth 11 (.iload 6) 2) (zk cL_worth 13 (.iload 7) 2)))) (and (and (and (and (zk cL_worth 15 (.invokevirtual 7) 3) (zk cL_worth 23 (.astore 9) 2)) (zk cL_worth 25 (.iconst 1) 1)) (and (zk cL_worth 26 (.ireturn) 1) (zk cL_worth 18 (.i2l) 1))) (and (and (zk cL_worth 19 (.lastore) 1) (zk cL_worth 20 (.goto 7) 3)) (and (zk cL_worth 27 (.iconst 0) 1) (zk cL_worth 28 (.ireturn) 1))))) = true := by decide +kernel
theorem dL_worth_0 : decode cL_worth 0 = .ok (.aload 8, 2) := zk_of (zk_l (zk_l (zk_l (zk_l (zk_l zdL_worth_0)))))
theorem dL_worth_2 : decode cL_worth 2 = .ok (.iconst 0, 1) := zk_of (zk_r (zk_l (zk_l (zk_l (zk_l zdL_worth_0)))))
theorem dL_worth_3 : decode cL_worth 3 = .ok (.aload_n 0, 1) := zk_of (zk_r (zk_l (zk_l (zk_l zdL_worth_0))))
theorem dL_worth_4 : decode cL_worth 4 = .ok (.iload_n 1, 1) := zk_of (zk_l (zk_r (zk_l (zk_l zdL_worth_0))))
theorem dL_worth_5 : decode cL_worth 5 = .ok (.iload_n 2, 1) := zk_of (zk_r (zk_r (zk_l (zk_l zdL_worth_0))))
theorem dL_worth_6 : decode cL_worth 6 = .ok (.iload_n 3, 1) := zk_of (zk_l (zk_l (zk_l (zk_r (zk_l zdL_worth_0)))))
theorem dL_worth_7 : decode cL_worth 7 = .ok (.iload 4, 2) := zk_of (zk_r (zk_l (zk_l (zk_r (zk_l zdL_worth_0)))))
theorem dL_worth_9 : decode cL_worth 9 = .ok (.iload 5, 2) := zk_of (zk_r (zk_l (zk_r (zk_l zdL_worth_0))))
theorem dL_worth_11 : decode cL_worth 11 = .ok (.iload 6, 2) := zk_of (zk_l (zk_r (zk_r (zk_l zdL_worth_0))))
theorem dL_worth_13 : decode cL_worth 13 = .ok (.iload 7, 2) := zk_of (zk_r (zk_r (zk_r (zk_l zdL_worth_0))))
theorem dL_worth_15 : decode cL_worth 15 = .ok (.invokevirtual 7, 3) := zk_of (zk_l (zk_l (zk_l (zk_l (zk_r zdL_worth_0)))))
theorem dL_worth_23 : decode cL_worth 23 = .ok (.astore 9, 2) := zk_of (zk_r (zk_l (zk_l (zk_l (zk_r zdL_worth_0)))))
theorem dL_worth_25 : decode cL_worth 25 = .ok (.iconst 1, 1) := zk_of (zk_r (zk_l (zk_l (zk_r zdL_worth_0))))
theorem dL_worth_26 : decode cL_worth 26 = .ok (.ireturn, 1) := zk_of (zk_l (zk_r (zk_l (zk_r zdL_worth_0))))
theorem dL_worth_18 : decode cL_worth 18 = .ok (.i2l, 1) := zk_of (zk_r (zk_r (zk_l (zk_r zdL_worth_0))))
theorem dL_worth_19 : decode cL_worth 19 = .ok (.lastore, 1) := zk_of (zk_l (zk_l (zk_r (zk_r zdL_worth_0))))
theorem dL_worth_20 : decode cL_worth 20 = .ok (.goto 7, 3) := zk_of (zk_r (zk_l (zk_r (zk_r zdL_worth_0))))
theorem dL_worth_27 : decode cL_worth 27 = .ok (.iconst 0, 1) := zk_of (zk_l (zk_r (zk_r (zk_r zdL_worth_0))))
theorem dL_worth_28 : decode cL_worth 28 = .ok (.ireturn, 1) := zk_of (zk_r (zk_r (zk_r (zk_r zdL_worth_0))))
set_option maxRecDepth 20000 in
theorem ggL_worth_X11_worth : GoodIn wsL_worth wsX11_worth := goodIn_ca (goodIn_r _ [6, 7, 8, 9, 10, 11, 12, 13, 14, 15, 16, 17, 5, 18, 19, 20, 21, 22, 23, 24, 25, 26, 27, 28, 29, 30, 31, 32, 33, 34, 35, 36, 37, 38, 39, 40, 41, 42, 43, 44, 45, 46, 47, 48, 49, 50, 51, 52, 53, 54, 55, 56, 57, 58, 59, 60, 61, 62, 63, 64, 65, 66, 67, 68, 69, 70, 71, 72, 73, 74, 75, 76, 77] rfl (by decide +kernel)) (goodIn_sub (fun _ h => List.mem_cons_of_mem _ (List.mem_append_right _ h)) (by decide +kernel))
set_option maxRecDepth 20000 in
theorem gL_worth_X11_worth : GoodIn wsL_worth (wsV RL 7 RX11 yX11_worth wsX11_worth) := goodIn_app (goodIn_of _ (by decide +kernel)) ggL_worth_X11_worth
/-! HissHorn.worth, thrown or returned; the law's worth. -/
theorem oat {a : Nat} {e : va_E} {k : Nat} {q : Nat × va_E} (h : [(a, e)][k]? = some q) : q = (a, e) := by
  have hi : k < 1 := (List.getElem?_eq_some_iff.mp h).1
  obtain rfl : k = 0 := by omega
  exact (Option.some.inj h).symm
theorem lst1 {p : Program} {l : Launch} {e : Env} {R : Room} {s : State} {m : MethodId} {args : Array Value} {below : List Frame} {meth : Method} {c : Code} {H H0 : Heap} {locs : List Loc} {cells slots : Nat} {Q : State → Prop} {cc : ByteArray} {pc : Nat} {ls : Array Slot} {rest : List Value} {D : va_G} {cl : List vw_C} {tys : List (ClassId × FieldType)} {A : Nat → Prop} {a : Nat}
    (hexec : p.tables.exec = Jvm.exec) (hb : c.code = cc) (hK : va_K D cl tys s) {cA : ClassId} {n : Nat} {f : Nat → Int64} (hP : va_P D cl [(a, .inl (cA, n, .inr (.inl f)))] H) (hAa : A a) (hS : va_S A H0 H locs) (t0 : Nat) (ht : tys[t0]? = some (cA, .long)) {i : Int32} {x : Int64} (hin : vp_in i n) (hdg : decode cc pc = .ok (.lastore, 1))
    (kk : ∀ (H1 : Heap) (locs1 : List Loc), va_P D cl [(a, .inl (cA, n, .inr (.inl (vp_updL f i.toNatClampNeg x))))] H1 → (∀ q : Nat, q ≠ a → H1[q]? = H[q]?) → va_S A H0 H1 locs1 → W p l e R s m args below meth c H1 locs1 cells slots Q (F0 m (pc + 1) ls rest)) : W p l e R s m args below meth c H locs cells slots Q (F0 m pc ls (.long x :: .int i :: .ref a :: rest)) := by
  refine W.last hexec hb (hP 0 _ rfl) ((hK.2 t0 _ ht).1 n (fun j => .long (f j))) (fun q => by cases q) (by show ¬ (i < 0 ∨ (arrV _ _ _).slots.size ≤ _); rw [arrV_size]; exact hin) rfl rfl hdg fun H1 e z oq => ?_
  refine kk H1 _ (fun k q hq => ?_) oq (hS.put z oq hAa)
  rw [oat hq]
  show H1[a]? = some (vp_cell _ _)
  rw [e]
  rw [vp_cell_l, vp_cell_l, arrV_store]
  congr 2
  funext q
  by_cases hq : q = i.toNatClampNeg
  · subst hq
    simp [updV, vp_updL]
  · simp [updV, vp_updL, hq]
set_option maxHeartbeats 8000000 in
set_option maxRecDepth 100000 in
theorem wx_met (l : Launch) (hfl : l.stackTraces = false) (D : va_G) (cy : Nat → ClassId) (ad st : Nat → Nat) (hJ : JX ad st) (sz : Nat) (x1 x2 x3 x4 x5 x6 x7 : Int32) {u u' : SX} {r : Int32} (h : fX11_worthK (fun w => some (0, w)) x1 x2 x3 x4 x5 x6 x7 u = some (r, u')) : vx_Met l yX11_worth wsX11_worth rmWK (va_Pc [.ref (ad 0), .int x1, .int x2, .int x3, .int x4, .int x5, .int x6, .int x7] (fun U => Px D [(cy 0, .int), (cy 1, .long), (cy 2, .boolean), (cy 3, .byte), (cy 4, .object "HissHorn$Text")] st (VX cy ad st) sz u U ∧ Exs (Ax (AX ad) sz) U)) (va_Qi (fun (_ : Int32) (_ : Unit) => True) (fun _ t => va_P D vwCl (VX cy ad st u') t.heap) (Ax (AX ad) sz)) (vx_X (fun (_ : Unit) => True) (fun E _ t => E = "java/util/NoSuchElementException" ∧ va_P D vwCl (VX cy ad st u') t.heap) (Ax (AX ad) sz)) 1 6 (Ax (AX ad) sz) := by
  refine vx_ofW (cc := cX11_worth) (maxL := 8) (ret := some .int) (by decide) rfl ?_
  intro p e s m args below meth c s₁ B hml htab hv
  obtain ⟨rfl, ⟨hsz, hP, hK⟩, hE⟩ := hv
  subst hsz
  have C : Cx RX11 cX11_worth 8 (some .int) wsX11_worth p s m _ meth c := ⟨B.exec, B.bytes, hml, B.returns, findClass_of_methodNamed B.named, atoms_spec (ws := wsX11_worth) B.pre, B.notSynchronized⟩
  have hl := lv_entry ([.ref (ad 0), .int x1, .int x2, .int x3, .int x4, .int x5, .int x6, .int x7]) (n := 8) (Nat.le_of_ble_eq_true rfl)
  rw [lg_entry_eq]
  generalize (lg_sl ([.ref (ad 0), .int x1, .int x2, .int x3, .int x4, .int x5, .int x6, .int x7]) ++ List.replicate (8 - (lg_sl ([.ref (ad 0), .int x1, .int x2, .int x3, .int x4, .int x5, .int x6, .int x7])).length) Slot.unset).toArray = ls at hl ⊢
  have hl : lv_has ls 8 [(0, .ref (ad 0)), (1, .int x1), (2, .int x2), (3, .int x3), (4, .int x4), (5, .int x5), (6, .int x6), (7, .int x7)] := hl
  refine wX11_worthK C hK hJ x1 x2 x3 x4 x5 x6 x7 (fun v w H locs ls hh hP hS => ?_) (fun w H locs ls hh hP hS hl => ?_) h hP va_S.rf hl
  · cases hh
    refine vx_ret ?_
    refine W.widen (k := 1) (n := 6) (Nat.zero_le _) (Nat.zero_le _) ?_
    exact W.iret C.1 C.2.1 C.2.2.2.1 (fun t ht _ => ⟨⟨_, (), rfl, trivial, by show va_P D vwCl (VX cy ad st u') t.heap; rw [ht]; exact hP⟩, hS.F ht⟩) hS.2.2 dX11_worth_68 C.2.2.2.2.2.2
  · have hh : (some (0, w) : Option (Int32 × SX)) = some (r, u') := hh
    cases hh
    exact vx_throw0 (own := RX11) (cls := "java/util/NoSuchElementException") (names := ["java/lang/RuntimeException", "java/lang/Exception"]) (A := Ax (AX ad) s.heap.size) C.1 C.2.1 hfl C.2.2.2.2.1 (by decide +kernel) (by decide +kernel) (C.2.2.2.2.2.1 _ mW_0) (C.2.2.2.2.2.1 _ mW_1) (vx_hat (fun w h => C.2.2.2.2.2.1 w (mW_2 w h)) ng_words (vx_c (va_tabs rfl rfl hE.1.1) (vx_c (va_tabs rfl rfl hE.1.2.1) (vx_c (va_tabs rfl rfl hE.1.2.2.1) (vx_c (va_tabs rfl rfl hE.1.2.2.2) vx_n))))) ok_words hE.2.1 hE.2.2 hS (hl.1.trans C.2.2.1.symm) dX11_worth_35 dX11_worth_38 dX11_worth_39 dX11_worth_42 (fun x hx => (htab x hx).elim) (Nat.le_of_ble_eq_true rfl) (Nat.le_of_ble_eq_true rfl) (Nat.le_of_ble_eq_true rfl) (Nat.le_of_ble_eq_true rfl) C.2.2.2.2.2.2 (fun t h1 h2 h3 => ⟨(), trivial, ⟨rfl, hP.kept fun k q hq => h3 q.1 (hP k q hq).lt⟩, Nat.le_trans hS.1 h2, fun q hq hn => (h3 q (Nat.lt_of_lt_of_le hq hS.1)).trans (hS.2.1 q hq hn)⟩) hS.2.2 (Nat.le_refl 1) (Nat.le_refl 6)
theorem Exs_blind {D : va_G} {tys : List (ClassId × FieldType)} {sg : Nat → Nat} {V : SX → va_W} {A : Nat → Prop} {sz : Nat} {u : SX} {As : List Value} : FrameBlind (va_Pc As (fun U => Px D tys sg V sz u U ∧ Exs A U)) := fun a U g mk q => by
  obtain ⟨q0, q1, q2⟩ := q
  exact ⟨q0, (Px_blind (As := As) a U g mk ⟨q0, q1⟩).2, Exs_mv (U := U.calling g mk a) q2 (Nw4_same rfl q2.1) (Vm.Alike.refl U.vm) (fun _ _ _ => rfl) (fun _ _ h => h)⟩
theorem Exo_blind {D : va_G} {tys : List (ClassId × FieldType)} {sg : Nat → Nat} {V : SX → va_W} {A : Nat → Prop} {sz : Nat} {u : SX} {wo : va_W} {As : List Value} : FrameBlind (va_Pc As (fun U => (Px D tys sg V sz u U ∧ Exs A U) ∧ va_P D vwCl wo U.heap)) := fun a U g mk q => by
  obtain ⟨q0, q1, q2⟩ := q
  exact ⟨q0, (Exs_blind (As := As) a U g mk ⟨q0, q1⟩).2, q2⟩
def rmLW : Room := { frames := 7, cells := 1, slots := 6, locals := 114 }
theorem mLW_0 : Cond.classLink RL 13 "java/util/NoSuchElementException" ∈ wsL_worth := by decide +kernel
/-- what the law's worth may write -/
def Ao (Ad : Nat → Prop) (sz o : Nat) : Nat → Prop := fun q => Ax Ad sz q ∨ q = o
set_option maxHeartbeats 8000000 in
set_option maxRecDepth 100000 in
theorem lworth_met (l : Launch) (hfl : l.stackTraces = false) (D : va_G) (cy : Nat → ClassId) (ad st : Nat → Nat) (hJ : JX ad st) (o sz : Nat) (x1 x2 x3 x4 x5 x6 x7 : Int32) {u u' : SX} {r : Int32} (h : fX11_worthK (fun w => some (0, w)) x1 x2 x3 x4 x5 x6 x7 u = some (r, u')) (f : Nat → Int64) (ho : ¬ AX ad o) : Met l yL_worth wsL_worth rmLW (va_Pc [.ref (ad 0), .int x1, .int x2, .int x3, .int x4, .int x5, .int x6, .int x7, .ref o] (fun U => (Px D [(cy 0, .int), (cy 1, .long), (cy 2, .boolean), (cy 3, .byte), (cy 4, .object "HissHorn$Text")] st (VX cy ad st) sz u U ∧ Exs (Ax (AX ad) sz) U) ∧ va_P D vwCl [(o, .inl (cy 1, 1, .inr (.inl f)))] U.heap)) (va_Qi (fun (_ : Int32) (_ : Nat → Int64) => True) (fun f' t => va_P D vwCl (VX cy ad st u') t.heap ∧ va_P D vwCl [(o, .inl (cy 1, 1, .inr (.inl f')))] t.heap) (Ao (AX ad) sz o)) 1 6 (Ao (AX ad) sz o) := by
  refine met_ofWH (cc := cL_worth) (maxL := 10) (ret := some .int) (by decide) rfl ?_
  intro p e s m args below meth c s₁ B hml hv
  obtain ⟨rfl, ⟨⟨hsz, hP, hK⟩, hE⟩, hO⟩ := hv
  subst hsz
  have C : Cx RL cL_worth 10 (some .int) wsL_worth p s m _ meth c := ⟨B.exec, B.bytes, hml, B.returns, findClass_of_methodNamed B.named, atoms_spec (ws := wsL_worth) B.pre, B.notSynchronized⟩
  have htab : c.exceptionTable.toList = [⟨0, 20, 23, 13⟩] := vx_table (x := yL_worth) B (C.2.2.2.2.2.1 _ List.mem_cons_self)
  have hS : va_S (Ao (AX ad) s.heap.size o) s.heap s.heap [] := va_S.rf
  have hoA : ¬ Ax (AX ad) s.heap.size o := fun z => z.elim ho (fun z => absurd (hO 0 _ rfl).lt (Nat.not_lt.mpr z))
  have hl := lv_entry ([.ref (ad 0), .int x1, .int x2, .int x3, .int x4, .int x5, .int x6, .int x7, .ref o]) (n := 10) (Nat.le_of_ble_eq_true rfl)
  rw [lg_entry_eq]
  generalize (lg_sl ([.ref (ad 0), .int x1, .int x2, .int x3, .int x4, .int x5, .int x6, .int x7, .ref o]) ++ List.replicate (10 - (lg_sl ([.ref (ad 0), .int x1, .int x2, .int x3, .int x4, .int x5, .int x6, .int x7, .ref o])).length) Slot.unset).toArray = ls at hl ⊢
  have hl : lv_has ls 10 [(0, .ref (ad 0)), (1, .int x1), (2, .int x2), (3, .int x3), (4, .int x4), (5, .int x5), (6, .int x6), (7, .int x7), (8, .ref o)] := hl
  refine lv_aload C.1 C.2.1 dL_worth_0 (lv_at hl 8 rfl) ?_
  refine lv_iconst (v := 0) C.1 C.2.1 dL_worth_2 (by decide) ?_
  refine lv_aload_n C.1 C.2.1 dL_worth_3 rfl (lv_at hl 0 rfl) ?_
  refine lv_iload_n C.1 C.2.1 dL_worth_4 rfl (lv_at hl 1 rfl) ?_
  refine lv_iload_n C.1 C.2.1 dL_worth_5 rfl (lv_at hl 2 rfl) ?_
  refine lv_iload_n C.1 C.2.1 dL_worth_6 rfl (lv_at hl 3 rfl) ?_
  refine lv_iload C.1 C.2.1 dL_worth_7 (lv_at hl 4 rfl) ?_
  refine lv_iload C.1 C.2.1 dL_worth_9 (lv_at hl 5 rfl) ?_
  refine lv_iload C.1 C.2.1 dL_worth_11 (lv_at hl 6 rfl) ?_
  refine lv_iload C.1 C.2.1 dL_worth_13 (lv_at hl 7 rfl) ?_
  refine vx_calli (vx_runV (As := [.int x1, .int x2, .int x3, .int x4, .int x5, .int x6, .int x7]) (rest := [.int 0, .ref o]) ⟨C.1, C.2.1, C.2.2.1, C.2.2.2.2.1, C.2.2.2.2.2.1⟩ (wx_met l hfl D cy ad st hJ s.heap.size x1 x2 x3 x4 x5 x6 x7 h) (cwV 7 C.2.2.2.2.2.1 gL_worth_X11_worth rfl rfl rfl (by decide +kernel) ⟨Nat.le_of_ble_eq_true rfl, Nat.le_of_ble_eq_true rfl⟩) ⟨Exs_blind, va_recv hK.1 hP (ci := 11) (q0 := 0) rfl rfl, fun U hU hW => ⟨rfl, ⟨by rw [hU], by rw [hU]; exact hP, Ky_mv (AX_ge hJ) va_S.rf hU hW hK⟩, Exs_mv hE (Nw4_warm hW hE.1) hW.alike (fun q h1 h2 => by rw [hU]) (fun _ _ h => h)⟩⟩ rfl rfl hl.1 rfl (lv_room (Nat.le_of_ble_eq_true rfl)) dL_worth_15 ⟨Nat.le_of_ble_eq_true rfl, Nat.le_of_ble_eq_true rfl⟩) hS (fun q _ h => Or.inl h) (fun q h => Or.inl h) (fun q _ h => Or.inl h) (fun E ce q9 u9 t H1 locs1 ht hvm hpx hBX hz hk hS1 hce hcv hcl => ?_) (fun r9 u9 t H1 locs1 ht hvm hr hB hz hk hS1 => ?_)
  · obtain ⟨e9, hP1⟩ : E = "java/util/NoSuchElementException" ∧ va_P D vwCl (VX cy ad st u') t.heap := hBX
    subst e9
    rw [ht] at hP1
    have hO1 : va_P D vwCl [(o, .inl (cy 1, 1, .inr (.inl f)))] H1 := hO.kept fun k q hq => hk q.1 (hO k q hq).lt (by rw [oat hq]; exact hoA)
    refine catch1 C.2.2.2.2.1 ⟨0, 20, 23, 13⟩ htab (by decide) (by decide) (C.2.2.2.2.2.1 _ mLW_0) (va_tabs rfl rfl hE.1.1) hce hcv hcl ?_
    refine lv_astore (lv' := [(9, .ref q9), (0, .ref (ad 0)), (1, .int x1), (2, .int x2), (3, .int x3), (4, .int x4), (5, .int x5), (6, .int x6), (7, .int x7), (8, .ref o)]) C.1 C.2.1 dL_worth_23 hl (by decide) rfl (fun ls hl => ?_)
    refine lv_iconst (v := 1) C.1 C.2.1 dL_worth_25 (by decide) ?_
    exact W.cs (cells' := 1) (slots' := 6) rfl rfl (W.iret C.1 C.2.1 C.2.2.2.1 (fun t9 ht9 _ => ⟨⟨1, f, rfl, trivial, by rw [ht9]; exact hP1, by rw [ht9]; exact hO1⟩, hS1.F ht9⟩) hS1.2.2 dL_worth_26 C.2.2.2.2.2.2)
  · have hP1 : va_P D vwCl (VX cy ad st u') t.heap := hB
    rw [ht] at hP1
    have hO1 : va_P D vwCl [(o, .inl (cy 1, 1, .inr (.inl f)))] H1 := hO.kept fun k q hq => hk q.1 (hO k q hq).lt (by rw [oat hq]; exact hoA)
    refine lv_i2l (v := r9.toInt64) C.1 C.2.1 dL_worth_18 rfl ?_
    refine lst1 C.1 C.2.1 hK.1 hO1 (Or.inr rfl) hS1 1 rfl (by show ¬ _; decide) dL_worth_19 (fun H2 locs2 hO2 hk2 hS2 => ?_)
    have hP2 : va_P D vwCl (VX cy ad st u') H2 := hP1.kept fun k q hq => hk2 q.1 (fun z => ho (by rw [← z]; exact ⟨k, (VX_adr hq).1⟩))
    refine lv_goto (tgt := 27) C.1 C.2.1 dL_worth_20 (by decide) ?_
    refine lv_iconst (v := 0) C.1 C.2.1 dL_worth_27 (by decide) ?_
    exact W.cs (cells' := 1) (slots' := 6) rfl rfl (W.iret C.1 C.2.1 C.2.2.2.1 (fun t9 ht9 _ => ⟨⟨0, _, rfl, trivial, by rw [ht9]; exact hP2, by rw [ht9]; exact hO2⟩, hS2.F ht9⟩) hS2.2.2 dL_worth_28 C.2.2.2.2.2.2)
