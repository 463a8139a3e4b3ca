theorem dX11_worth_35 : decode cX11_worth 35 = .ok (.new 154, 3) := by decide +kernel
theorem dX11_worth_38 : decode cX11_worth 38 = .ok (.dup, 1) := by decide +kernel
theorem dX11_worth_39 : decode cX11_worth 39 = .ok (.invokespecial 156, 3) := by decide +kernel
theorem dX11_worth_42 : decode cX11_worth 42 = .ok (.athrow, 1) := by decide +kernel
theorem dL_worth_0 : decode cL_worth 0 = .ok (.aload 8, 2) := by decide +kernel
theorem dL_worth_2 : decode cL_worth 2 = .ok (.iconst 0, 1) := by decide +kernel
theorem dL_worth_3 : decode cL_worth 3 = .ok (.aload_n 0, 1) := by decide +kernel
theorem dL_worth_4 : decode cL_worth 4 = .ok (.iload_n 1, 1) := by decide +kernel
theorem dL_worth_5 : decode cL_worth 5 = .ok (.iload_n 2, 1) := by decide +kernel
theorem dL_worth_6 : decode cL_worth 6 = .ok (.iload_n 3, 1) := by decide +kernel
theorem dL_worth_7 : decode cL_worth 7 = .ok (.iload 4, 2) := by decide +kernel
theorem dL_worth_9 : decode cL_worth 9 = .ok (.iload 5, 2) := by decide +kernel
theorem dL_worth_11 : decode cL_worth 11 = .ok (.iload 6, 2) := by decide +kernel
theorem dL_worth_13 : decode cL_worth 13 = .ok (.iload 7, 2) := by decide +kernel
set_option maxRecDepth 20000 in
theorem ggL_worth_X11_worth : GoodIn wsL_worth wsX11_worth := goodIn_ca (goodIn_r _ [6, 7, 8, 9, 10, 11, 12, 13, 14, 15, 16, 17, 5, 18, 19, 20, 21, 22, 23, 24, 25, 26, 27, 28, 29, 30, 31, 32, 33, 34, 35, 36, 37, 38, 39, 40, 41, 42, 43, 44, 45, 46, 47, 48, 49, 50, 51, 52, 53, 54, 55, 56, 57, 58, 59, 60, 61, 62, 63, 64, 65, 66, 67, 68, 69, 70, 71, 72, 73, 74, 75, 76, 77] (by decide +kernel) (by decide +kernel)) (goodIn_sub (fun _ h => List.mem_cons_of_mem _ (List.mem_append_right _ h)) (by decide +kernel))
set_option maxRecDepth 20000 in
theorem gL_worth_X11_worth : GoodIn wsL_worth (wsV RL 7 RX11 yX11_worth wsX11_worth) := goodIn_app (goodIn_of _ (by decide +kernel)) ggL_worth_X11_worth
theorem dL_worth_15 : decode cL_worth 15 = .ok (.invokevirtual 7, 3) := by decide +kernel
theorem dL_worth_23 : decode cL_worth 23 = .ok (.astore 9, 2) := by decide +kernel
theorem dL_worth_25 : decode cL_worth 25 = .ok (.iconst 1, 1) := by decide +kernel
theorem dL_worth_26 : decode cL_worth 26 = .ok (.ireturn, 1) := by decide +kernel
/-! worth throws on a new object; the law catches it. -/
theorem met_ofWH {l : Launch} {y : MethodName} {ws ws' : List Cond} {rm : Room} {Pc : Array Value → State → Prop} {Qc : Array Value → State → Outcome → State → Prop} {mc ms : Nat} {free : Addr → Prop} {cc : ByteArray} {maxL : Nat} {ret : Option FieldType} {hh : List (Nat × Nat × Nat × Nat)}
    (hy : plainName y.cls = true) (hw : ws = Cond.codeWith y cc maxL ret hh :: ws')
    (body : ∀ p e s m args below meth c s₁, BodyLoose p l y (headSpec ws rm) cc maxL ret e s m args below meth c s₁ → c.maxLocals = maxL → Pc args s →
      W p l e (headSpec ws rm).room s m args below meth c s.heap [] 0 0 (MQ below Qc args s mc ms free) (entryFrame m args maxL)) : Met l y ws rm Pc Qc mc ms free := by
  refine MetFree.of_bodyS (code := cc) (maxLocals := maxL) (ret := ret) hy ?_ ?_
  · intro args s m h hn
    obtain ⟨m9, meth, c, hn9, h1, h2, h3, h4, -, h5, h6, -⟩ := Cond.codeWith_spec (atoms_spec (ws := ws) h _ (by rw [hw]; exact List.mem_cons_self))
    cases hn.symm.trans hn9
    exact ⟨meth, c, h1, h2, h3, h4, h5, h6⟩
  · intro p e s m args below meth c s₁ B hml hP _
    have hh0 : s₁.heap = s.heap := by rw [B.state]; rfl
    obtain ⟨t, a1, o, b1, b2, b3⟩ := body p e s m args below meth c s₁ B hml hP s₁ hh0 (Stand.of_body B)
    exact ⟨t, o, a1, b1, b2, ⟨b3.1, b3.2⟩⟩
/-- one step: the thrower's frame has a handler -/
theorem thr_found {e : Env} {s : State} {a : Addr} {f : JFrame} {r : List Frame} {pc : Nat} {vm' : Vm} (hf : ∀ (Q : Handler → Pre) (E : CtlPost) (d : Bool) (acts : List Action), wp (findHandler f a) Q E e d acts s ↔ Q (.found pc) d acts (s.setVm vm')) :
    (stepThrowing e s a (.java f :: r)).Is ((s.setVm vm').setFrames (.java { f with pc := pc, stack := [.ref a] } :: r)) [] := by
  simp only [stepThrowing, searchFrame, vmDo]
  generalize hr : Sem.go _ e false [] s = res
  obtain ⟨as, rfl, ha⟩ := Sem.eq_ok_of hr (a := Handler.found pc) (s' := s.setVm vm') (acts' := []) (by simp [hf _ _ _ _])
  exact ⟨rfl, ha⟩
/-- a table's row that covers the place and names a class that takes the thrown one -/
theorem go_link {Q : Handler → Pre} {E : CtlPost} {e : Env} {d : Bool} {acts : List Action} {s : State} {f : JFrame} {a : Addr} {x : ExceptionTableEntry} {t : List ExceptionTableEntry} {c : ClassId} {cell : Cell} (hx : covers x f.pc = true) (h0 : x.catchType ≠ 0)
    (hl : s.vm.ClassLinks e.platform f.method.cls x.catchType c) (hcell : s.heap[a]? = some cell) (hobj : ∀ k, cell.vm ≠ .statics k)
    (hk : ∃ k, s.vm.classes[cell.cls]? = some k) (hc : ∃ k, s.vm.classes[c]? = some k) (hfit : s.vm.assignable cell.cls c = true) :
    wp (findHandler.go f a (x :: t)) Q E e d acts s ↔ Q (.found x.handlerPc) d acts (s.setVm (s.vm.noted f.method.cls x.catchType (.cls c))) := by
  simp only [covers] at hx
  obtain ⟨ha, ht⟩ := (resolveClass_links e.toSetting hl).op (op := VmOp.resolveClass f.method.cls x.catchType) rfl
  have hal : s.vm.Alike (s.vm.noted f.method.cls x.catchType (.cls c)) := (Vm.Alike.refl s.vm).noted _ _ _
  obtain ⟨k1, hk1⟩ := hk
  obtain ⟨k2, hk2⟩ := hc
  obtain ⟨k1', hk1', -⟩ := hal.2.2 _ _ hk1
  obtain ⟨k2', hk2', -⟩ := hal.2.2 _ _ hk2
  have hfit' : (s.vm.noted f.method.cls x.catchType (.cls c)).assignable cell.cls c = true := by rw [hal.assignable]; exact hfit
  simp [findHandler.go, hx, h0, ha, ht, hcell, hobj, hk1', hk2', hfit', VmOp.dirties, VmOp.acts]
/-- caught by a table's only row -/
theorem catch1 {p : Program} {l : Launch} {e : Env} {R : Room} {s : State} {m : MethodId} {args : Array Value} {below : List Frame} {meth : Method} {c : Code} {H : Heap} {locs : List Loc} {cells slots : Nat} {Q : State → Prop} {ls : Array Slot} {rest : List Value} {pc : Nat}
    {own name E : String} {ce : Cell} {q : Addr} (hown : s.vm.findClass own = some m.cls) (x : ExceptionTableEntry) (htab : c.exceptionTable.toList = [x]) (hx : covers x pc = true) (h0 : x.catchType ≠ 0)
    (hlink : (Cond.classLink own x.catchType name).before args s = true) (hcast : (Cond.castable E name).before args s = true) (hcell : H[q]? = some ce) (hv : ce.vm = .none) (hcl : s.vm.findClass E = some ce.cls)
    (kk : W p l e R s m args below meth c H locs cells slots Q (F0 m x.handlerPc ls [.ref q])) : vx_W p l e R s m args below meth c H locs cells slots Q (F0 m pc ls rest) q := by
  intro T hT X
  have hpl : e.platform.magicAccessors = ({} : Platform).magicAccessors := by rw [X.admits.platform]
  obtain ⟨c3, c4, hc3, hc4, hasg⟩ := Cond.castable_spec hcast
  cases Option.some.inj (hc3.symm.trans hcl)
  obtain ⟨c5, hc5, hl5⟩ := Cond.classLink_spec hown hlink e.platform hpl
  cases Option.some.inj (hc4.symm.trans hc5)
  obtain ⟨k9, h9, -⟩ := Vm.findClass_spec hcl
  obtain ⟨dk, _, _, kt, hd, _, _, _, _, hkt, _, hopen⟩ := hl5.here
  obtain ⟨k9', h9', -⟩ := X.warmed.alike.2.2 _ _ h9
  obtain ⟨kt', hkt', -⟩ := X.warmed.alike.2.2 _ _ hkt
  have hl' : T.vm.ClassLinks e.platform m.cls x.catchType c4 := X.warmed.classLinks hl5
  have hfit : T.vm.assignable ce.cls c4 = true := by rw [X.warmed.alike.assignable]; exact hasg
  have hW' : s.WarmedH (T.vm.noted m.cls x.catchType (.cls c4)) := X.warmed.noted hd hopen (State.rightAt_cls hl5)
  obtain ⟨t, a1, b1⟩ := kk (T.setVm (T.vm.noted m.cls x.catchType (.cls c4))) hT (X.noted hW')
  refine ⟨t, ?_, b1⟩
  have hcellT : T.heap[q]? = some ce := by rw [hT]; exact hcell
  have hobj : ∀ k, ce.vm ≠ .statics k := VmData.ne_statics_of (by rw [hv]; rfl)
  obtain ⟨hgo, hw⟩ := X.here.throwing (g := F0 m pc ls rest) q
  refine Steps.head hgo hw ?_
  have hm : ((T.setTop (F0 m pc ls rest)).pushFrame (.throwing q)).vm.method? (F0 m pc ls rest).method = some meth := X.method'
  have hf : ∀ (Q : Handler → Pre) (E : CtlPost) (d : Bool) (acts : List Action), wp (findHandler (F0 m pc ls rest) q) Q E e d acts ((T.setTop (F0 m pc ls rest)).pushFrame (.throwing q)) ↔ Q (.found x.handlerPc) d acts (((T.setTop (F0 m pc ls rest)).pushFrame (.throwing q)).setVm (T.vm.noted m.cls x.catchType (.cls c4))) := by
    intro Q E d acts
    rw [Jvm.W.findHandler_eq hm X.code, htab]
    exact go_link (f := F0 m pc ls rest) hx h0 hl' hcellT hobj ⟨_, h9'⟩ ⟨_, hkt'⟩ hfit
  rw [stepThread_throwing (frames_entered X.here.top _), (thr_found hf).1]
  obtain ⟨g₀, hg⟩ := Option.isSome_iff_exists.mp X.here.top
  obtain ⟨r, hr⟩ := State.topJava?_eq_some.mp hg
  have hr' : (T.setVm (T.vm.noted m.cls x.catchType (.cls c4))).frames = .java g₀ :: r := hr
  rw [State.setTop_of_frames _ hr'] at a1
  have e1 : ∀ (u : State) (v : Vm) (F G : List Frame), ((u.setFrames F).setVm v).setFrames G = (u.setVm v).setFrames G := fun u v F G => by
    have h1 : (u.setFrames F).setVm v = (u.setVm v).setFrames F := rfl
    rw [h1, State.setFrames_setFrames]
  rw [hr, List.tail_cons, State.pushFrame, e1, State.setTop_of_frames _ hr, e1]
  exact a1
theorem Z_mv {C n d : String} {v : Value} {A B : Nat → Prop} {u U : State} (h : va_Z C n d v A u u.heap) (hv : u.vm.Alike U.vm) (hk : ∀ q : Nat, q < u.heap.size → ¬ A q → U.heap[q]? = u.heap[q]?) (hB : ∀ q : Nat, q < u.heap.size → B q → A q) : va_Z C n d v B U U.heap := by
  obtain ⟨cf, kf, fi, f, a, cell, h1, h2, h3, h4, h5, h6, h7, h8⟩ := h
  have hlt : a < u.heap.size := (Array.getElem?_eq_some_iff.mp h5).1
  have hz : va_Z C n d v (fun q => ¬ (q = a)) u u.heap := ⟨cf, kf, fi, f, a, cell, h1, h2, h3, h4, h5, h6, h7, fun z => z rfl⟩
  obtain ⟨cf', kf', fi', f', a', cell', g1, g2, g3, g4, g5, g6, g7, g8⟩ := (va_Z.moved hv hz).kept (H1 := U.heap) (fun q _ hq => by
    have e : q = a := Classical.byContradiction fun z => hq z
    rw [e]; exact hk a hlt h8)
  have e : a' = a := Classical.byContradiction fun z => g8 z
  exact ⟨cf', kf', fi', f', a', cell', g1, g2, g3, g4, g5, g6, g7, fun z => h8 (hB a hlt (by rw [← e]; exact z))⟩
theorem L_mv {C n d : String} {A B : Nat → Prop} {u U : State} (h : vx_L C n d A u u.heap) (hv : u.vm.Alike U.vm) (hk : ∀ q : Nat, q < u.heap.size → ¬ A q → U.heap[q]? = u.heap[q]?) (hB : ∀ q : Nat, q < u.heap.size → B q → A q) : vx_L C n d B U U.heap := by
  obtain ⟨c, k, i, f, a, cell, h1, h2, h3, h4, h5, h6, h7, h8, h9, h10⟩ := h
  have hlt : a < u.heap.size := (Array.getElem?_eq_some_iff.mp h5).1
  have hz : vx_L C n d (fun q => ¬ (q = a)) u u.heap := ⟨c, k, i, f, a, cell, h1, h2, h3, h4, h5, h6, h7, h8, h9, fun z => z rfl⟩
  obtain ⟨c', k', i', f', a', cell', g1, g2, g3, g4, g5, g6, g7, g8, g9, g10⟩ := (vx_L.moved hv hz).kept (H1 := U.heap) (fun q _ hq => by
    have e : q = a := Classical.byContradiction fun z => hq z
    rw [e]; exact hk a hlt h10)
  have e : a' = a := Classical.byContradiction fun z => g10 z
  exact ⟨c', k', i', f', a', cell', g1, g2, g3, g4, g5, g6, g7, g8, g9, fun z => h10 (hB a hlt (by rw [← e]; exact z))⟩
theorem Zq_mv {C n d : String} {A B : Nat → Prop} {u U : State} (h : vx_Zq C n d A u u.heap) (hv : u.vm.Alike U.vm) (hk : ∀ q : Nat, q < u.heap.size → ¬ A q → U.heap[q]? = u.heap[q]?) (hB : ∀ q : Nat, q < u.heap.size → B q → A q) : vx_Zq C n d B U U.heap := by
  refine ⟨?_, L_mv h.2 hv hk hB⟩
  rcases h.1 with h | ⟨t, h⟩
  · exact Or.inl (Z_mv h hv hk hB)
  · exact Or.inr ⟨t, Z_mv h hv hk hB⟩
/-- what a throw of the class's own asks of the start -/
def Nw4 (U : State) : Prop := va_Nw (.castable "java/util/NoSuchElementException" "java/util/NoSuchElementException") U ∧ va_Nw (.declares ⟨"java/lang/RuntimeException", "<init>", "()V"⟩) U ∧ va_Nw (.declares ⟨"java/lang/Exception", "<init>", "()V"⟩) U ∧ va_Nw (.declares ⟨"java/lang/Throwable", "<init>", "()V"⟩) U
theorem Nw4_warm {s U : State} (hW : s.WarmedH U.vm) (h : Nw4 s) : Nw4 U := ⟨va_Nw.warmC hW h.1, va_Nw.warmD hW h.2.1, va_Nw.warmD hW h.2.2.1, va_Nw.warmD hW h.2.2.2⟩
theorem Nw4_same {s U : State} (hv : s.vm = U.vm) (h : Nw4 s) : Nw4 U := ⟨va_Nw.same rfl hv h.1, va_Nw.same rfl hv h.2.1, va_Nw.same rfl hv h.2.2.1, va_Nw.same rfl hv h.2.2.2⟩
def Exs (A : Nat → Prop) (U : State) : Prop := Nw4 U ∧ vx_Zq Bundle.tN "UNASSIGNED_STACK" Bundle.steD A U U.heap ∧ vx_Zq Bundle.tN "SUPPRESSED_SENTINEL" Bundle.listD A U U.heap
theorem Exs_mv {A B : Nat → Prop} {u U : State} (h : Exs A u) (hc : Nw4 U) (hv : u.vm.Alike U.vm) (hk : ∀ q : Nat, q < u.heap.size → ¬ A q → U.heap[q]? = u.heap[q]?) (hB : ∀ q : Nat, q < u.heap.size → B q → A q) : Exs B U := ⟨hc, Zq_mv h.2.1 hv hk hB, Zq_mv h.2.2 hv hk hB⟩
def rmWX : Room := { frames := 6, cells := 1, slots := 6, locals := 81 }
theorem ng_words : ∀ w ∈ (vx_at0 RX11 156 "java/util/NoSuchElementException" ["java/lang/RuntimeException", "java/lang/Exception"]).filter (fun w => !goodWord w), w ∈ [Cond.castable "java/util/NoSuchElementException" "java/util/NoSuchElementException", Cond.declares ⟨"java/lang/RuntimeException", "<init>", "()V"⟩, Cond.declares ⟨"java/lang/Exception", "<init>", "()V"⟩, Cond.declares ⟨"java/lang/Throwable", "<init>", "()V"⟩] := by decide +kernel
theorem ok_words : ∀ w ∈ Cond.classLink RX11 154 "java/util/NoSuchElementException" :: Cond.initialized "java/util/NoSuchElementException" :: vx_at0 RX11 156 "java/util/NoSuchElementException" ["java/lang/RuntimeException", "java/lang/Exception"], vx_ot w = true := by decide +kernel
theorem mW_0 : Cond.classLink RX11 154 "java/util/NoSuchElementException" ∈ wsX11_worth := by decide +kernel
theorem mW_1 : Cond.initialized "java/util/NoSuchElementException" ∈ wsX11_worth := by decide +kernel
theorem mW_2 : ∀ w ∈ (vx_at0 RX11 156 "java/util/NoSuchElementException" ["java/lang/RuntimeException", "java/lang/Exception"]).filter goodWord, w ∈ wsX11_worth := fun w h => List.mem_cons_of_mem _ (List.mem_append_right _ h)
set_option maxHeartbeats 8000000 in
set_option maxRecDepth 100000 in
theorem wx_met (l : Launch) (hfl : l.stackTraces = false) (D : va_G) (cy : Nat → ClassId) (ad st : Nat → Nat) (hJ : JX ad) (sz : Nat) (x1 x2 x3 x4 x5 x6 x7 : Int32) : vx_Met l yX11_worth wsX11_worth rmWX (va_Pc [.ref (ad 0), .int x1, .int x2, .int x3, .int x4, .int x5, .int x6, .int x7] (fun U => Px D [(cy 0, .int), (cy 1, .long), (cy 2, .boolean), (cy 3, .byte), (cy 4, .object "HissHorn$Text")] st (VX cy ad st) sz uX U ∧ Exs (Ax (AX ad) sz) U)) (va_Qi (fun (_ : Int32) (_ : Unit) => False) (fun _ _ => True) (Ax (AX ad) sz)) (vx_X (fun (_ : Unit) => True) (fun E _ _ => E = "java/util/NoSuchElementException") (Ax (AX ad) sz)) 1 6 (Ax (AX ad) sz) := by
  refine vx_ofW (cc := cX11_worth) (maxL := 8) (ret := some .int) (by decide) rfl ?_
  intro p e s m args below meth c s₁ B hml htab hv
  obtain ⟨rfl, ⟨hsz, hP, hK⟩, hE⟩ := hv
  subst hsz
  have C : Cx RX11 cX11_worth 8 (some .int) wsX11_worth p s m _ meth c := ⟨B.exec, B.bytes, hml, B.returns, findClass_of_methodNamed B.named, atoms_spec (ws := wsX11_worth) B.pre, B.notSynchronized⟩
  have hS : va_S (Ax (AX ad) s.heap.size) s.heap s.heap [] := va_S.rf
  have hl := lv_entry ([.ref (ad 0), .int x1, .int x2, .int x3, .int x4, .int x5, .int x6, .int x7]) (n := 8) (Nat.le_of_ble_eq_true rfl)
  rw [lg_entry_eq]
  generalize (lg_sl ([.ref (ad 0), .int x1, .int x2, .int x3, .int x4, .int x5, .int x6, .int x7]) ++ List.replicate (8 - (lg_sl ([.ref (ad 0), .int x1, .int x2, .int x3, .int x4, .int x5, .int x6, .int x7])).length) Slot.unset).toArray = ls at hl ⊢
  have hl : lv_has ls 8 [(0, .ref (ad 0)), (1, .int x1), (2, .int x2), (3, .int x3), (4, .int x4), (5, .int x5), (6, .int x6), (7, .int x7)] := hl
  refine lv_aload_n C.1 C.2.1 dX11_worth_0 rfl (lv_at hl 0 rfl) ?_
  refine gX_0_laws C hX11_worth_0_X11 hK hP mX11_worth_0_1 dX11_worth_1 ?_
  refine lv_iload_n C.1 C.2.1 dX11_worth_4 rfl (lv_at hl 1 rfl) ?_
  refine cg_i (As := [.int x1]) (rest := []) C hK hP hS (metX8_has_3 l D cy ad st hJ _ x1 (nX8_has_3 x1)) (cwV 1 C.2.2.2.2.2.1 gX11_worth_X8_has rfl rfl rfl (by decide +kernel) ⟨(Nat.le_of_ble_eq_true rfl), (Nat.le_of_ble_eq_true rfl)⟩) 3 8 rfl rfl rfl hl.1 rfl (Nat.le_of_ble_eq_true rfl) dX11_worth_5 ⟨Nat.zero_le _, Nat.zero_le _⟩ (fun H locs hP hS => ?_)
  refine lv_if_eq (tgt := 35) C.1 C.2.1 dX11_worth_8 (by decide) (fun _ => ?_) (fun h => absurd rfl h)
  refine vx_throw0 (own := RX11) (cls := "java/util/NoSuchElementException") (names := ["java/lang/RuntimeException", "java/lang/Exception"]) (A := Ax (AX ad) s.heap.size) C.1 C.2.1 hfl C.2.2.2.2.1 (by decide +kernel) (by decide +kernel) (C.2.2.2.2.2.1 _ mW_0) (C.2.2.2.2.2.1 _ mW_1) (vx_hat (fun w h => C.2.2.2.2.2.1 w (mW_2 w h)) ng_words (vx_c (va_tabs rfl rfl hE.1.1) (vx_c (va_tabs rfl rfl hE.1.2.1) (vx_c (va_tabs rfl rfl hE.1.2.2.1) (vx_c (va_tabs rfl rfl hE.1.2.2.2) vx_n))))) ok_words hE.2.1 hE.2.2 hS (hl.1.trans C.2.2.1.symm) dX11_worth_35 dX11_worth_38 dX11_worth_39 dX11_worth_42 (fun x hx => (htab x hx).elim) (Nat.le_of_ble_eq_true rfl) (Nat.le_of_ble_eq_true rfl) (Nat.le_of_ble_eq_true rfl) (Nat.le_of_ble_eq_true rfl) C.2.2.2.2.2.2 (fun t h1 h2 h3 => ⟨(), trivial, rfl, Nat.le_trans hS.1 h2, fun q hq hn => (h3 q (Nat.lt_of_lt_of_le hq hS.1)).trans (hS.2.1 q hq hn)⟩) hS.2.2 (Nat.le_refl 1) (Nat.le_refl 6)
theorem Exs_blind {D : va_G} {tys : List (ClassId × FieldType)} {sg : Nat → Nat} {V : SX → va_W} {A : Nat → Prop} {sz : Nat} {u : SX} {As : List Value} : FrameBlind (va_Pc As (fun U => Px D tys sg V sz u U ∧ Exs A U)) := fun a U g mk q => by
  obtain ⟨q0, q1, q2⟩ := q
  exact ⟨q0, (Px_blind (As := As) a U g mk ⟨q0, q1⟩).2, Exs_mv (U := U.calling g mk a) q2 (Nw4_same rfl q2.1) (Vm.Alike.refl U.vm) (fun _ _ _ => rfl) (fun _ _ h => h)⟩
def rmLW : Room := { frames := 7, cells := 1, slots := 6, locals := 108 }
theorem mLW_0 : Cond.classLink RL 13 "java/util/NoSuchElementException" ∈ wsL_worth := by decide +kernel
set_option maxHeartbeats 8000000 in
set_option maxRecDepth 100000 in
theorem lworth_met (l : Launch) (hfl : l.stackTraces = false) (D : va_G) (cy : Nat → ClassId) (ad st : Nat → Nat) (hJ : JX ad) (o sz : Nat) (x1 x2 x3 x4 x5 x6 x7 : Int32) : Met l yL_worth wsL_worth rmLW (va_Pc [.ref (ad 0), .int x1, .int x2, .int x3, .int x4, .int x5, .int x6, .int x7, .ref o] (fun U => Px D [(cy 0, .int), (cy 1, .long), (cy 2, .boolean), (cy 3, .byte), (cy 4, .object "HissHorn$Text")] st (VX cy ad st) sz uX U ∧ Exs (Ax (AX ad) sz) U)) (va_Qi (fun r (_ : Unit) => r = 1) (fun _ _ => True) (Ax (AX ad) sz)) 1 6 (Ax (AX ad) sz) := by
  refine met_ofWH (cc := cL_worth) (maxL := 10) (ret := some .int) (by decide) rfl ?_
  intro p e s m args below meth c s₁ B hml hv
  obtain ⟨rfl, ⟨hsz, hP, hK⟩, hE⟩ := hv
  subst hsz
  have C : Cx RL cL_worth 10 (some .int) wsL_worth p s m _ meth c := ⟨B.exec, B.bytes, hml, B.returns, findClass_of_methodNamed B.named, atoms_spec (ws := wsL_worth) B.pre, B.notSynchronized⟩
  have htab : c.exceptionTable.toList = [⟨0, 20, 23, 13⟩] := vx_table (x := yL_worth) B (C.2.2.2.2.2.1 _ List.mem_cons_self)
  have hS : va_S (Ax (AX ad) s.heap.size) s.heap s.heap [] := va_S.rf
  have hl := lv_entry ([.ref (ad 0), .int x1, .int x2, .int x3, .int x4, .int x5, .int x6, .int x7, .ref o]) (n := 10) (Nat.le_of_ble_eq_true rfl)
  rw [lg_entry_eq]
  generalize (lg_sl ([.ref (ad 0), .int x1, .int x2, .int x3, .int x4, .int x5, .int x6, .int x7, .ref o]) ++ List.replicate (10 - (lg_sl ([.ref (ad 0), .int x1, .int x2, .int x3, .int x4, .int x5, .int x6, .int x7, .ref o])).length) Slot.unset).toArray = ls at hl ⊢
  have hl : lv_has ls 10 [(0, .ref (ad 0)), (1, .int x1), (2, .int x2), (3, .int x3), (4, .int x4), (5, .int x5), (6, .int x6), (7, .int x7), (8, .ref o)] := hl
  refine lv_aload C.1 C.2.1 dL_worth_0 (lv_at hl 8 rfl) ?_
  refine lv_iconst (v := 0) C.1 C.2.1 dL_worth_2 (by decide) ?_
  refine lv_aload_n C.1 C.2.1 dL_worth_3 rfl (lv_at hl 0 rfl) ?_
  refine lv_iload_n C.1 C.2.1 dL_worth_4 rfl (lv_at hl 1 rfl) ?_
  refine lv_iload_n C.1 C.2.1 dL_worth_5 rfl (lv_at hl 2 rfl) ?_
  refine lv_iload_n C.1 C.2.1 dL_worth_6 rfl (lv_at hl 3 rfl) ?_
  refine lv_iload C.1 C.2.1 dL_worth_7 (lv_at hl 4 rfl) ?_
  refine lv_iload C.1 C.2.1 dL_worth_9 (lv_at hl 5 rfl) ?_
  refine lv_iload C.1 C.2.1 dL_worth_11 (lv_at hl 6 rfl) ?_
  refine lv_iload C.1 C.2.1 dL_worth_13 (lv_at hl 7 rfl) ?_
  refine vx_calli (vx_runV (As := [.int x1, .int x2, .int x3, .int x4, .int x5, .int x6, .int x7]) (rest := [.int 0, .ref o]) ⟨C.1, C.2.1, C.2.2.1, C.2.2.2.2.1, C.2.2.2.2.2.1⟩ (wx_met l hfl D cy ad st hJ s.heap.size x1 x2 x3 x4 x5 x6 x7) (cwV 7 C.2.2.2.2.2.1 gL_worth_X11_worth rfl rfl rfl (by decide +kernel) ⟨Nat.le_of_ble_eq_true rfl, Nat.le_of_ble_eq_true rfl⟩) ⟨Exs_blind, va_recv hK.1 hP (ci := 11) (q0 := 0) rfl rfl, fun U hU hW => ⟨rfl, ⟨by rw [hU], by rw [hU]; exact hP, Kx_warm hW hK⟩, Exs_mv hE (Nw4_warm hW hE.1) hW.alike (fun q h1 h2 => by rw [hU]) (fun _ _ h => h)⟩⟩ rfl rfl hl.1 rfl (lv_room (Nat.le_of_ble_eq_true rfl)) dL_worth_15 ⟨Nat.le_of_ble_eq_true rfl, Nat.le_of_ble_eq_true rfl⟩) hS (fun q _ h => h) (fun q h => h) (fun q _ h => h) (fun E ce q9 u t H1 locs1 ht hvm hpx hBX hz hk hS1 hce hcv hcl => ?_) (fun r u t H1 locs1 ht hvm hr hB hz hk hS1 => hr.elim)
  have hBX : E = "java/util/NoSuchElementException" := hBX
  subst hBX
  refine catch1 C.2.2.2.2.1 ⟨0, 20, 23, 13⟩ htab (by decide) (by decide) (C.2.2.2.2.2.1 _ mLW_0) (va_tabs rfl rfl hE.1.1) hce hcv hcl ?_
  refine lv_astore (lv' := [(9, .ref q9), (0, .ref (ad 0)), (1, .int x1), (2, .int x2), (3, .int x3), (4, .int x4), (5, .int x5), (6, .int x6), (7, .int x7), (8, .ref o)]) C.1 C.2.1 dL_worth_23 hl (by decide) rfl (fun ls hl => ?_)
  refine lv_iconst (v := 1) C.1 C.2.1 dL_worth_25 (by decide) ?_
  exact W.cs (cells' := 1) (slots' := 6) rfl rfl (W.iret C.1 C.2.1 C.2.2.2.1 (fun t ht _ => ⟨⟨1, (), rfl, rfl, trivial⟩, hS1.F ht⟩) hS1.2.2 dL_worth_26 C.2.2.2.2.2.2)
theorem pf_worth (x1 x2 x3 x4 x5 x6 x7 : Int32) : ∃ u', fX12_worth_0 x1 x2 x3 x4 x5 x6 x7 uM = some (0, u') ∧ fX12_thrown_0 u' = some (1, u') := by
  show ∃ u', (fX11_within x1 0 (-1)).bind _ = some (0, u') ∧ _
  rw [wi_empty]
  exact ⟨_, rfl, rfl⟩

theorem dL_law_377 : decode cL_law 377 = .ok (.aload_n 1, 1) := by decide +kernel
theorem dL_law_378 : decode cL_law 378 = .ok (.aload_n 0, 1) := by decide +kernel
theorem dL_law_379 : decode cL_law 379 = .ok (.iload 4, 2) := by decide +kernel
theorem dL_law_381 : decode cL_law 381 = .ok (.iconst 1, 1) := by decide +kernel
theorem dL_law_382 : decode cL_law 382 = .ok (.iadd, 1) := by decide +kernel
theorem dL_law_383 : decode cL_law 383 = .ok (.iaload, 1) := by decide +kernel
theorem dL_law_384 : decode cL_law 384 = .ok (.aload_n 0, 1) := by decide +kernel
theorem dL_law_385 : decode cL_law 385 = .ok (.iload 4, 2) := by decide +kernel
theorem dL_law_387 : decode cL_law 387 = .ok (.iconst 2, 1) := by decide +kernel
theorem dL_law_388 : decode cL_law 388 = .ok (.iadd, 1) := by decide +kernel
theorem dL_law_389 : decode cL_law 389 = .ok (.iaload, 1) := by decide +kernel
theorem dL_law_390 : decode cL_law 390 = .ok (.aload_n 0, 1) := by decide +kernel
theorem dL_law_391 : decode cL_law 391 = .ok (.iload 4, 2) := by decide +kernel
theorem dL_law_393 : decode cL_law 393 = .ok (.iconst 3, 1) := by decide +kernel
theorem dL_law_394 : decode cL_law 394 = .ok (.iadd, 1) := by decide +kernel
theorem dL_law_395 : decode cL_law 395 = .ok (.iaload, 1) := by decide +kernel
theorem dL_law_396 : decode cL_law 396 = .ok (.aload_n 0, 1) := by decide +kernel
theorem dL_law_397 : decode cL_law 397 = .ok (.iload 4, 2) := by decide +kernel
theorem dL_law_399 : decode cL_law 399 = .ok (.iconst 4, 1) := by decide +kernel
theorem dL_law_400 : decode cL_law 400 = .ok (.iadd, 1) := by decide +kernel
theorem dL_law_401 : decode cL_law 401 = .ok (.iaload, 1) := by decide +kernel
theorem dL_law_402 : decode cL_law 402 = .ok (.aload_n 0, 1) := by decide +kernel
theorem dL_law_403 : decode cL_law 403 = .ok (.iload 4, 2) := by decide +kernel
theorem dL_law_405 : decode cL_law 405 = .ok (.iconst 5, 1) := by decide +kernel
theorem dL_law_406 : decode cL_law 406 = .ok (.iadd, 1) := by decide +kernel
theorem dL_law_407 : decode cL_law 407 = .ok (.iaload, 1) := by decide +kernel
theorem dL_law_408 : decode cL_law 408 = .ok (.aload_n 0, 1) := by decide +kernel
theorem dL_law_409 : decode cL_law 409 = .ok (.iload 4, 2) := by decide +kernel
theorem dL_law_411 : decode cL_law 411 = .ok (.bipush 6, 2) := by decide +kernel
theorem dL_law_413 : decode cL_law 413 = .ok (.iadd, 1) := by decide +kernel
theorem dL_law_414 : decode cL_law 414 = .ok (.iaload, 1) := by decide +kernel
theorem dL_law_415 : decode cL_law 415 = .ok (.aload_n 0, 1) := by decide +kernel
theorem dL_law_416 : decode cL_law 416 = .ok (.iload 4, 2) := by decide +kernel
theorem dL_law_418 : decode cL_law 418 = .ok (.bipush 7, 2) := by decide +kernel
theorem dL_law_420 : decode cL_law 420 = .ok (.iadd, 1) := by decide +kernel
theorem dL_law_421 : decode cL_law 421 = .ok (.iaload, 1) := by decide +kernel
theorem dL_law_422 : decode cL_law 422 = .ok (.aload_n 3, 1) := by decide +kernel
set_option maxRecDepth 20000 in
theorem ggL_law_L_worth : GoodIn wsL_law wsL_worth := goodIn_ca (goodIn_r _ [545, 546, 547, 548, 549, 2, 550, 551, 552, 25, 553, 554, 555, 24, 556, 506, 557, 558, 559, 237, 238, 239, 560, 561, 562, 563, 564, 565, 566, 567, 78, 568, 569, 570, 571, 77, 74, 572, 573, 574, 575, 513, 576, 532, 577, 578, 579, 580, 581, 582, 583, 584, 585, 472, 346, 473, 586, 475, 476, 1449, 1450, 1451, 1452, 1453, 1454, 1455, 1456, 1457, 1458, 1459, 1460, 1461, 1538, 1539, 1540, 1541, 1542, 1638] (by decide +kernel) (by decide +kernel)) (goodIn_sub (fun _ h => List.mem_append_right _ h) (by decide +kernel))
set_option maxRecDepth 20000 in
theorem gL_law_L_worth : GoodIn wsL_law (va_wsS RL 42 yL_worth wsL_worth) := goodIn_app (goodIn_of _ (by decide +kernel)) ggL_law_L_worth
theorem dL_law_423 : decode cL_law 423 = .ok (.invokestatic 42, 3) := by decide +kernel
theorem dL_law_426 : decode cL_law 426 = .ok (.istore 5, 2) := by decide +kernel
theorem dL_law_428 : decode cL_law 428 = .ok (.aload_n 2, 1) := by decide +kernel
theorem dL_law_429 : decode cL_law 429 = .ok (.aload_n 0, 1) := by decide +kernel
theorem dL_law_430 : decode cL_law 430 = .ok (.iload 4, 2) := by decide +kernel
theorem dL_law_432 : decode cL_law 432 = .ok (.iconst 1, 1) := by decide +kernel
theorem dL_law_433 : decode cL_law 433 = .ok (.iadd, 1) := by decide +kernel
theorem dL_law_434 : decode cL_law 434 = .ok (.iaload, 1) := by decide +kernel
theorem dL_law_435 : decode cL_law 435 = .ok (.aload_n 0, 1) := by decide +kernel
theorem dL_law_436 : decode cL_law 436 = .ok (.iload 4, 2) := by decide +kernel
theorem dL_law_438 : decode cL_law 438 = .ok (.iconst 2, 1) := by decide +kernel
theorem dL_law_439 : decode cL_law 439 = .ok (.iadd, 1) := by decide +kernel
theorem dL_law_440 : decode cL_law 440 = .ok (.iaload, 1) := by decide +kernel
theorem dL_law_441 : decode cL_law 441 = .ok (.aload_n 0, 1) := by decide +kernel
theorem dL_law_442 : decode cL_law 442 = .ok (.iload 4, 2) := by decide +kernel
theorem dL_law_444 : decode cL_law 444 = .ok (.iconst 3, 1) := by decide +kernel
theorem dL_law_445 : decode cL_law 445 = .ok (.iadd, 1) := by decide +kernel
theorem dL_law_446 : decode cL_law 446 = .ok (.iaload, 1) := by decide +kernel
theorem dL_law_447 : decode cL_law 447 = .ok (.aload_n 0, 1) := by decide +kernel
theorem dL_law_448 : decode cL_law 448 = .ok (.iload 4, 2) := by decide +kernel
theorem dL_law_450 : decode cL_law 450 = .ok (.iconst 4, 1) := by decide +kernel
theorem dL_law_451 : decode cL_law 451 = .ok (.iadd, 1) := by decide +kernel
theorem dL_law_452 : decode cL_law 452 = .ok (.iaload, 1) := by decide +kernel
theorem dL_law_453 : decode cL_law 453 = .ok (.aload_n 0, 1) := by decide +kernel
theorem dL_law_454 : decode cL_law 454 = .ok (.iload 4, 2) := by decide +kernel
theorem dL_law_456 : decode cL_law 456 = .ok (.iconst 5, 1) := by decide +kernel
theorem dL_law_457 : decode cL_law 457 = .ok (.iadd, 1) := by decide +kernel
theorem dL_law_458 : decode cL_law 458 = .ok (.iaload, 1) := by decide +kernel
theorem dL_law_459 : decode cL_law 459 = .ok (.aload_n 0, 1) := by decide +kernel
theorem dL_law_460 : decode cL_law 460 = .ok (.iload 4, 2) := by decide +kernel
theorem dL_law_462 : decode cL_law 462 = .ok (.bipush 6, 2) := by decide +kernel
theorem dL_law_464 : decode cL_law 464 = .ok (.iadd, 1) := by decide +kernel
theorem dL_law_465 : decode cL_law 465 = .ok (.iaload, 1) := by decide +kernel
theorem dL_law_466 : decode cL_law 466 = .ok (.aload_n 0, 1) := by decide +kernel
theorem dL_law_467 : decode cL_law 467 = .ok (.iload 4, 2) := by decide +kernel
theorem dL_law_469 : decode cL_law 469 = .ok (.bipush 7, 2) := by decide +kernel
theorem dL_law_471 : decode cL_law 471 = .ok (.iadd, 1) := by decide +kernel
theorem dL_law_472 : decode cL_law 472 = .ok (.iaload, 1) := by decide +kernel
set_option maxRecDepth 20000 in
theorem ggL_law_X12_worth : GoodIn wsL_law wsX12_worth := goodIn_r _ [590, 191, 244, 246, 247, 5, 248, 591, 592, 593, 594, 595, 596, 597, 192, 598, 599, 600, 601, 602, 603, 604, 605, 189, 190, 430, 421, 422, 423, 424, 193, 425, 426, 194, 427, 420, 428, 429, 431, 432, 433, 434, 435, 436, 437, 438, 439, 440, 441, 442, 443, 444, 445, 446, 447, 448, 449, 450, 451, 452, 453, 454, 455, 456, 457, 458, 459, 460, 461, 462, 463, 464, 465, 466, 467, 468, 469, 470, 471, 472, 346, 473, 474, 475, 476, 477, 478, 328, 329, 82, 330, 331, 332, 333, 334, 84, 335, 336, 337, 338, 89, 90, 339, 80, 81, 83, 85, 86, 87, 88, 340, 341, 342, 343, 344, 345, 347, 348, 349, 350, 351, 352, 353, 354, 355, 356, 357, 358, 359, 360, 361, 362, 363, 364, 365, 366, 367, 368, 369, 370, 371, 372, 373, 374, 375, 376, 377, 378, 379, 380, 381, 382, 383, 384, 385, 386, 387, 388, 389, 390, 391, 392, 393, 394, 395, 396, 397, 398, 399, 400, 401, 402, 403, 404, 479, 480, 481, 482, 483, 484, 485, 486, 487, 488, 489, 490, 491, 492, 493, 494, 495, 496, 497, 1462, 1463, 1464, 1465, 1466, 1467, 1468, 1469, 1470, 1471, 1472, 1473, 1474, 1475, 1476, 1477, 1478, 1479, 1480, 1481, 1482, 1483, 1484, 1485, 1486, 1487, 1488, 1489, 1490, 1491, 1492, 1493, 1494, 1495, 1496, 1497, 1498, 1499, 1500, 1501, 1502, 1503, 1504, 1505, 1506, 1507, 1508, 1509, 1510, 1511, 1512, 1513, 1514, 1515, 1516, 1517, 1518, 1519, 1520, 1521, 1522, 1523, 1524, 1525, 1526, 1527, 1528, 1529, 1530] (by decide +kernel) (by decide +kernel)
set_option maxRecDepth 20000 in
theorem gL_law_X12_worth : GoodIn wsL_law (wsV RL 47 RX12 yX12_worth wsX12_worth) := goodIn_app (goodIn_of _ (by decide +kernel)) ggL_law_X12_worth
theorem dL_law_473 : decode cL_law 473 = .ok (.invokevirtual 47, 3) := by decide +kernel
theorem dL_law_476 : decode cL_law 476 = .ok (.istore 6, 2) := by decide +kernel
theorem dL_law_478 : decode cL_law 478 = .ok (.aload_n 2, 1) := by decide +kernel
set_option maxRecDepth 20000 in
theorem ggL_law_X12_thrown : GoodIn wsL_law wsX12_thrown := goodIn_r _ [609, 244, 1462, 1463, 1464, 1465, 1466, 1467, 1468, 1469, 1470, 1471, 1472, 1473, 1474, 1475, 1476, 1477, 1478, 1479, 1480, 1481, 1482, 1483, 1484, 1485, 1486, 1487, 1488, 1489, 1490, 1491, 1492, 1493, 1494, 1495, 1496, 1497, 1498, 1499, 1500, 1501, 1502, 1503, 1504, 1505, 1506, 1507, 1508, 1509, 1510, 1511, 1512, 1513, 1514, 1515, 1516, 1517, 1518, 1519, 1520, 1521, 1522, 1523, 1524, 1525, 1526, 1527, 1528, 1529, 1530] (by decide +kernel) (by decide +kernel)
set_option maxRecDepth 20000 in
theorem gL_law_X12_thrown : GoodIn wsL_law (wsV RL 48 RX12 yX12_thrown wsX12_thrown) := goodIn_app (goodIn_of _ (by decide +kernel)) ggL_law_X12_thrown
theorem dL_law_479 : decode cL_law 479 = .ok (.invokevirtual 48, 3) := by decide +kernel
theorem dL_law_482 : decode cL_law 482 = .ok (.iload 5, 2) := by decide +kernel
theorem dL_law_484 : decode cL_law 484 = .ok (.if_icmp .eq 5, 3) := by decide +kernel
theorem dL_law_489 : decode cL_law 489 = .ok (.iload 5, 2) := by decide +kernel
theorem dL_law_491 : decode cL_law 491 = .ok (.ifCond .ne 15, 3) := by decide +kernel
theorem dL_law_506 : decode cL_law 506 = .ok (.goto 1452, 3) := by decide +kernel
set_option maxHeartbeats 8000000 in
set_option maxRecDepth 100000 in
theorem case_5 {p : Program} {e : Env} {s : State} {m : MethodId} {below : List Frame} {meth : Method} {c : Code} (l : Launch) {b : Nat} {xs : Nat → Int32} {D : va_G} {cy : Nat → ClassId} {st aX aM : Nat → Nat} {o : Nat} {H : Heap} {locs : List Loc} {ls : Array Slot} (hW : LW p s m meth c b xs D cy st aX aM o H locs) (hl : lv_has ls 7 [(0, .ref b), (1, .ref (aX 0)), (2, .ref (aM 0)), (3, .ref o), (4, .int 0)]) (hfl : l.stackTraces = false) (hE : Exs (fun q : Nat => s.heap.size ≤ q) s) : W p l e room_1 s m #[Value.ref b] below meth c H locs 118 17833 (lw_Z below #[Value.ref b] s) (F0 m 377 ls []) := by
  obtain ⟨C0, hK, hJX, hJM, hAX, hAM, hdis, hPX, hPM, hS⟩ := hW
  obtain ⟨hx, hb, hr, hml, hown, hts0, hX, hbl, hlocks, hgv⟩ := C0
  have hts : ∀ w ∈ wsL_law, w.before #[Value.ref b] s = true := fun w h => hts0 w (wsL_law_in w h)
  have hbA : ¬ (fun q : Nat => s.heap.size ≤ q) b := Nat.not_le.mpr hbl
  obtain ⟨y1, hy1⟩ : ∃ y, xs ((0 : Int32) + 1).toNatClampNeg = y := ⟨_, rfl⟩
  obtain ⟨y2, hy2⟩ : ∃ y, xs ((0 : Int32) + 2).toNatClampNeg = y := ⟨_, rfl⟩
  obtain ⟨y3, hy3⟩ : ∃ y, xs ((0 : Int32) + 3).toNatClampNeg = y := ⟨_, rfl⟩
  obtain ⟨y4, hy4⟩ : ∃ y, xs ((0 : Int32) + 4).toNatClampNeg = y := ⟨_, rfl⟩
  obtain ⟨y5, hy5⟩ : ∃ y, xs ((0 : Int32) + 5).toNatClampNeg = y := ⟨_, rfl⟩
  obtain ⟨y6, hy6⟩ : ∃ y, xs ((0 : Int32) + 6).toNatClampNeg = y := ⟨_, rfl⟩
  obtain ⟨y7, hy7⟩ : ∃ y, xs ((0 : Int32) + 7).toNatClampNeg = y := ⟨_, rfl⟩
  refine lv_aload_n hx hb dL_law_377 rfl (lv_at hl 1 rfl) ?_
  refine lv_aload_n hx hb dL_law_378 rfl (lv_at hl 0 rfl) ?_
  refine lv_iload hx hb dL_law_379 (lv_at hl 4 rfl) ?_
  refine lv_iconst (v := 1) hx hb dL_law_381 (by decide) ?_
  refine lv_iadd hx hb dL_law_382 ?_
  refine sld9 (v := y1) hx hb hX hbl hbA hS (by show ¬ _; decide) hy1 dL_law_383 ?_
  refine lv_aload_n hx hb dL_law_384 rfl (lv_at hl 0 rfl) ?_
  refine lv_iload hx hb dL_law_385 (lv_at hl 4 rfl) ?_
  refine lv_iconst (v := 2) hx hb dL_law_387 (by decide) ?_
  refine lv_iadd hx hb dL_law_388 ?_
  refine sld9 (v := y2) hx hb hX hbl hbA hS (by show ¬ _; decide) hy2 dL_law_389 ?_
  refine lv_aload_n hx hb dL_law_390 rfl (lv_at hl 0 rfl) ?_
  refine lv_iload hx hb dL_law_391 (lv_at hl 4 rfl) ?_
  refine lv_iconst (v := 3) hx hb dL_law_393 (by decide) ?_
  refine lv_iadd hx hb dL_law_394 ?_
  refine sld9 (v := y3) hx hb hX hbl hbA hS (by show ¬ _; decide) hy3 dL_law_395 ?_
  refine lv_aload_n hx hb dL_law_396 rfl (lv_at hl 0 rfl) ?_
  refine lv_iload hx hb dL_law_397 (lv_at hl 4 rfl) ?_
  refine lv_iconst (v := 4) hx hb dL_law_399 (by decide) ?_
  refine lv_iadd hx hb dL_law_400 ?_
  refine sld9 (v := y4) hx hb hX hbl hbA hS (by show ¬ _; decide) hy4 dL_law_401 ?_
  refine lv_aload_n hx hb dL_law_402 rfl (lv_at hl 0 rfl) ?_
  refine lv_iload hx hb dL_law_403 (lv_at hl 4 rfl) ?_
  refine lv_iconst (v := 5) hx hb dL_law_405 (by decide) ?_
  refine lv_iadd hx hb dL_law_406 ?_
  refine sld9 (v := y5) hx hb hX hbl hbA hS (by show ¬ _; decide) hy5 dL_law_407 ?_
  refine lv_aload_n hx hb dL_law_408 rfl (lv_at hl 0 rfl) ?_
  refine lv_iload hx hb dL_law_409 (lv_at hl 4 rfl) ?_
  refine lv_bipush (v := 6) hx hb dL_law_411 (by decide) ?_
  refine lv_iadd hx hb dL_law_413 ?_
  refine sld9 (v := y6) hx hb hX hbl hbA hS (by show ¬ _; decide) hy6 dL_law_414 ?_
  refine lv_aload_n hx hb dL_law_415 rfl (lv_at hl 0 rfl) ?_
  refine lv_iload hx hb dL_law_416 (lv_at hl 4 rfl) ?_
  refine lv_bipush (v := 7) hx hb dL_law_418 (by decide) ?_
  refine lv_iadd hx hb dL_law_420 ?_
  refine sld9 (v := y7) hx hb hX hbl hbA hS (by show ¬ _; decide) hy7 dL_law_421 ?_
  refine lv_aload_n hx hb dL_law_422 rfl (lv_at hl 3 rfl) ?_
  refine va_calli (vx_runSW (As := [.ref (aX 0), .int y1, .int y2, .int y3, .int y4, .int y5, .int y6, .int y7, .ref o]) (rest := []) ⟨hx, hb, hml, hown, hts⟩ (lworth_met l hfl D cy aX st hJX o H.size y1 y2 y3 y4 y5 y6 y7) (vx_cwSW 9 hts gL_law_L_worth rfl rfl rfl (by decide +kernel) ⟨Nat.le_of_ble_eq_true rfl, Nat.le_of_ble_eq_true rfl⟩) ⟨Exs_blind, fun U hU hWm => ⟨rfl, ⟨by rw [hU], by rw [hU]; exact hPX, Kx_warm hWm hK⟩, Exs_mv hE (Nw4_warm hWm hE.1) hWm.alike (fun q h1 h2 => by rw [hU]; exact hS.2.1 q h1 h2) (fun q h1 h2 => h2.elim (hAX q) (fun z => Nat.le_trans hS.1 z))⟩⟩ rfl rfl hl.1 rfl (lv_room (Nat.le_of_ble_eq_true rfl)) dL_law_423 ⟨Nat.le_of_ble_eq_true rfl, Nat.le_of_ble_eq_true rfl⟩) hS (fun q _ h => h.elim (hAX q) (fun z => Nat.le_trans hS.1 z)) (fun q h => h.elim (hAX q) (fun z => Nat.le_trans hS.1 z)) (fun r u t H1 locs ht hvm hr9 hB hz hk hS => ?_)
  have hr9 : r = 1 := hr9
  subst hr9
  have hPM : va_P D vwCl (VM cy aM st uM) H1 := hPM.kept fun k q hq => hk q.1 (hPM k q hq).lt (fun z => z.elim (hdis _ (VM_mem hq)) (fun z => absurd (hPM k q hq).lt (Nat.not_lt.mpr z)))
  refine lv_istore (lv' := [(5, .int 1), (0, .ref b), (1, .ref (aX 0)), (2, .ref (aM 0)), (3, .ref o), (4, .int 0)]) hx hb dL_law_426 hl (by decide) rfl (fun ls hl => ?_)
  refine lv_aload_n hx hb dL_law_428 rfl (lv_at hl 3 rfl) ?_
  refine lv_aload_n hx hb dL_law_429 rfl (lv_at hl 1 rfl) ?_
  refine lv_iload hx hb dL_law_430 (lv_at hl 5 rfl) ?_
  refine lv_iconst (v := 1) hx hb dL_law_432 (by decide) ?_
  refine lv_iadd hx hb dL_law_433 ?_
  refine sld9 (v := y1) hx hb hX hbl hbA hS (by show ¬ _; decide) hy1 dL_law_434 ?_
  refine lv_aload_n hx hb dL_law_435 rfl (lv_at hl 1 rfl) ?_
  refine lv_iload hx hb dL_law_436 (lv_at hl 5 rfl) ?_
  refine lv_iconst (v := 2) hx hb dL_law_438 (by decide) ?_
  refine lv_iadd hx hb dL_law_439 ?_
  refine sld9 (v := y2) hx hb hX hbl hbA hS (by show ¬ _; decide) hy2 dL_law_440 ?_
  refine lv_aload_n hx hb dL_law_441 rfl (lv_at hl 1 rfl) ?_
  refine lv_iload hx hb dL_law_442 (lv_at hl 5 rfl) ?_
  refine lv_iconst (v := 3) hx hb dL_law_444 (by decide) ?_
  refine lv_iadd hx hb dL_law_445 ?_
  refine sld9 (v := y3) hx hb hX hbl hbA hS (by show ¬ _; decide) hy3 dL_law_446 ?_
  refine lv_aload_n hx hb dL_law_447 rfl (lv_at hl 1 rfl) ?_
  refine lv_iload hx hb dL_law_448 (lv_at hl 5 rfl) ?_
  refine lv_iconst (v := 4) hx hb dL_law_450 (by decide) ?_
  refine lv_iadd hx hb dL_law_451 ?_
  refine sld9 (v := y4) hx hb hX hbl hbA hS (by show ¬ _; decide) hy4 dL_law_452 ?_
  refine lv_aload_n hx hb dL_law_453 rfl (lv_at hl 1 rfl) ?_
  refine lv_iload hx hb dL_law_454 (lv_at hl 5 rfl) ?_
  refine lv_iconst (v := 5) hx hb dL_law_456 (by decide) ?_
  refine lv_iadd hx hb dL_law_457 ?_
  refine sld9 (v := y5) hx hb hX hbl hbA hS (by show ¬ _; decide) hy5 dL_law_458 ?_
  refine lv_aload_n hx hb dL_law_459 rfl (lv_at hl 1 rfl) ?_
  refine lv_iload hx hb dL_law_460 (lv_at hl 5 rfl) ?_
  refine lv_bipush (v := 6) hx hb dL_law_462 (by decide) ?_
  refine lv_iadd hx hb dL_law_464 ?_
  refine sld9 (v := y6) hx hb hX hbl hbA hS (by show ¬ _; decide) hy6 dL_law_465 ?_
  refine lv_aload_n hx hb dL_law_466 rfl (lv_at hl 1 rfl) ?_
  refine lv_iload hx hb dL_law_467 (lv_at hl 5 rfl) ?_
  refine lv_bipush (v := 7) hx hb dL_law_469 (by decide) ?_
  refine lv_iadd hx hb dL_law_471 ?_
  refine sld9 (v := y7) hx hb hX hbl hbA hS (by show ¬ _; decide) hy7 dL_law_472 ?_
  obtain ⟨uB, hfM, hfT⟩ := pf_worth y1 y2 y3 y4 y5 y6 y7
  refine lg_i (V := VM cy aM st) (Ad := AM aM) (As := [.int y1, .int y2, .int y3, .int y4, .int y5, .int y6, .int y7]) (rest := []) ⟨hx, hb, hml, hown, hts⟩ hK hPM hS (fun q h => h.elim (hAM q) (fun z => Nat.le_trans hS.1 z)) (metX12_worth_0 l D cy aM st hJM _ y1 y2 y3 y4 y5 y6 y7 hfM) (cwV 7 hts gL_law_X12_worth rfl rfl rfl (by decide +kernel) ⟨Nat.le_of_ble_eq_true rfl, Nat.le_of_ble_eq_true rfl⟩) 0 12 rfl rfl rfl hl.1 rfl (Nat.le_of_ble_eq_true rfl) dL_law_473 ⟨Nat.le_of_ble_eq_true rfl, Nat.le_of_ble_eq_true rfl⟩ (fun H locs hPM hkeep hS => ?_)
  refine lv_istore (lv' := [(6, .int 0), (5, .int 1), (0, .ref b), (1, .ref (aX 0)), (2, .ref (aM 0)), (3, .ref o), (4, .int 0)]) hx hb dL_law_476 hl (by decide) rfl (fun ls hl => ?_)
  refine lv_aload_n hx hb dL_law_478 rfl (lv_at hl 4 rfl) ?_
  refine lg_i (V := VM cy aM st) (Ad := AM aM) (As := []) (rest := []) ⟨hx, hb, hml, hown, hts⟩ hK hPM hS (fun q h => h.elim (hAM q) (fun z => Nat.le_trans hS.1 z)) (metX12_thrown_0 l D cy aM st hJM _ hfT) (cwV 0 hts gL_law_X12_thrown rfl rfl rfl (by decide +kernel) ⟨Nat.le_of_ble_eq_true rfl, Nat.le_of_ble_eq_true rfl⟩) 0 12 rfl rfl rfl hl.1 rfl (Nat.le_of_ble_eq_true rfl) dL_law_479 ⟨Nat.le_of_ble_eq_true rfl, Nat.le_of_ble_eq_true rfl⟩ (fun H locs hPM hkeep hS => ?_)
  refine lv_iload hx hb dL_law_482 (lv_at hl 1 rfl) ?_
  refine lv_icmp_eq (tgt := 489) hx hb dL_law_484 (by decide) (fun _ => ?_) (fun h => absurd rfl h)
  refine lv_iload hx hb dL_law_489 (lv_at hl 1 rfl) ?_
  refine lv_if_ne (tgt := 506) hx hb dL_law_491 (by decide) (fun _ => ?_) (fun h => absurd h (by decide))
  refine lv_goto (tgt := 1958) hx hb dL_law_506 (by decide) ?_
  exact law_end l (by decide) (by decide) hx hb hr hlocks hX hbl hbA hS (lv_sub hl [2, 3, 4, 5, 6] rfl)
