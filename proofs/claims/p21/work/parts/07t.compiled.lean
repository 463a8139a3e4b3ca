theorem zdX5_compiled_0 : (and (and (and (and (zk cX5_compiled 0 (.new 49) 3) (zk cX5_compiled 3 (.dup) 1)) (zk cX5_compiled 4 (.aload_n 0) 1)) (and (zk cX5_compiled 5 (.getfield 11) 3) (zk cX5_compiled 8 (.aload_n 0) 1))) (and (and (zk cX5_compiled 9 (.getfield 31) 3) (zk cX5_compiled 12 (.invokestatic 51) 3)) (and (zk cX5_compiled 15 (.invokespecial 57) 3) (zk cX5_compiled 18 (.areturn) 1)))) = true := by decide +kernel
theorem dX5_compiled_0 : decode cX5_compiled 0 = .ok (.new 49, 3) := zk_of (zk_l (zk_l (zk_l (zk_l zdX5_compiled_0))))
theorem dX5_compiled_3 : decode cX5_compiled 3 = .ok (.dup, 1) := zk_of (zk_r (zk_l (zk_l (zk_l zdX5_compiled_0))))
theorem dX5_compiled_4 : decode cX5_compiled 4 = .ok (.aload_n 0, 1) := zk_of (zk_r (zk_l (zk_l zdX5_compiled_0)))
theorem dX5_compiled_5 : decode cX5_compiled 5 = .ok (.getfield 11, 3) := zk_of (zk_l (zk_r (zk_l zdX5_compiled_0)))
theorem dX5_compiled_8 : decode cX5_compiled 8 = .ok (.aload_n 0, 1) := zk_of (zk_r (zk_r (zk_l zdX5_compiled_0)))
theorem dX5_compiled_9 : decode cX5_compiled 9 = .ok (.getfield 31, 3) := zk_of (zk_l (zk_l (zk_r zdX5_compiled_0)))
theorem dX5_compiled_12 : decode cX5_compiled 12 = .ok (.invokestatic 51, 3) := zk_of (zk_r (zk_l (zk_r zdX5_compiled_0)))
theorem dX5_compiled_15 : decode cX5_compiled 15 = .ok (.invokespecial 57, 3) := zk_of (zk_l (zk_r (zk_r zdX5_compiled_0)))
theorem dX5_compiled_18 : decode cX5_compiled 18 = .ok (.areturn, 1) := zk_of (zk_r (zk_r (zk_r zdX5_compiled_0)))
set_option maxRecDepth 20000 in
theorem ggX5_compiled_J7_copyOf_59c91 : GoodIn wsX5_compiled wsJ7_copyOf_59c91 := goodIn_r _ [9, 10, 11, 12, 13, 14, 15, 16, 17, 18, 19, 20, 21, 22, 23, 24] rfl (by decide +kernel)
set_option maxRecDepth 20000 in
theorem gX5_compiled_J7_copyOf_59c91 : GoodIn wsX5_compiled (va_wsS RX5 51 yJ7_copyOf_59c91 wsJ7_copyOf_59c91) := goodIn_app (goodIn_of _ (by decide +kernel)) ggX5_compiled_J7_copyOf_59c91
set_option maxRecDepth 20000 in
theorem ggX5_compiled_X10_init : GoodIn wsX5_compiled wsX10_init := goodIn_r _ [27, 28, 29, 30, 31, 32] rfl (by decide +kernel)
set_option maxRecDepth 20000 in
theorem gX5_compiled_X10_init : GoodIn wsX5_compiled (wsX10_init) := ggX5_compiled_X10_init
theorem mCM_0 : Cond.classLink RX5 49 RX10 ∈ wsX5_compiled := (List.mem_cons_of_mem _ (List.mem_append_left _ (List.mem_append_left _ (List.mem_append_left _ (List.mem_of_getElem? (i := 0) rfl)))))
theorem mCM_1 : Cond.instantiable RX10 1 ∈ wsX5_compiled := (List.mem_cons_of_mem _ (List.mem_append_left _ (List.mem_append_left _ (List.mem_append_left _ (List.mem_of_getElem? (i := 1) rfl)))))
theorem mCM_2 : Cond.initialized RX10 ∈ wsX5_compiled := (List.mem_cons_of_mem _ (List.mem_append_left _ (List.mem_append_left _ (List.mem_append_left _ (List.mem_of_getElem? (i := 2) rfl)))))
theorem mCM_3 : Cond.fieldLink RX5 11 "HissHorn$Parser" "code" "[I" ∈ wsX5_compiled := (List.mem_cons_of_mem _ (List.mem_append_left _ (List.mem_append_left _ (List.mem_append_left _ (List.mem_of_getElem? (i := 3) rfl)))))
theorem mCM_4 : Cond.fieldLink RX5 31 "HissHorn$Parser" "size" "I" ∈ wsX5_compiled := (List.mem_cons_of_mem _ (List.mem_append_left _ (List.mem_append_left _ (List.mem_append_left _ (List.mem_of_getElem? (i := 4) rfl)))))
theorem mCM_5 : Cond.methodLink RX5 57 yX10_init ∈ wsX5_compiled := (List.mem_cons_of_mem _ (List.mem_append_left _ (List.mem_append_left _ (List.mem_append_right _ (List.mem_of_getElem? (i := 0) rfl)))))
theorem mCM_6 : Cond.instanceMethod yX10_init ∈ wsX5_compiled := (List.mem_cons_of_mem _ (List.mem_append_left _ (List.mem_append_left _ (List.mem_append_right _ (List.mem_of_getElem? (i := 1) rfl)))))
theorem hCM_t : ∀ w ∈ u_ws RX10 TX10 1, w ∈ wsX5_compiled := fun w h => (List.mem_cons_of_mem _ (List.mem_append_left _ (List.mem_append_right _ h)))
theorem hCM_p : ∀ w ∈ u_ws RX5 TX5 5, w ∈ wsX5_compiled := fun w h => (List.mem_cons_of_mem _ (List.mem_append_right _ h))
theorem P_l {D : va_G} {w1 w2 : va_W} {H : Heap} (h : va_P D vwCl (w1 ++ w2) H) : va_P D vwCl w1 H := fun k q hq => h k q (by rw [List.getElem?_append_left (List.getElem?_eq_some_iff.mp hq).1]; exact hq)
theorem P_r {D : va_G} {w1 w2 : va_W} {H : Heap} (h : va_P D vwCl (w1 ++ w2) H) : va_P D vwCl w2 H := fun k q hq => h (w1.length + k) q (by rw [List.getElem?_append_right (Nat.le_add_right _ _), Nat.add_sub_cancel_left]; exact hq)
theorem P_app {D : va_G} {w1 w2 : va_W} {H : Heap} (h1 : va_P D vwCl w1 H) (h2 : va_P D vwCl w2 H) : va_P D vwCl (w1 ++ w2) H := fun k q hq => by
  rcases Nat.lt_or_ge k w1.length with z | z
  · rw [List.getElem?_append_left z] at hq; exact h1 k q hq
  · rw [List.getElem?_append_right z] at hq; exact h2 _ q hq
theorem P_one {D : va_G} {q : Nat × va_E} {H : Heap} (h : va_at D vwCl q H) : va_P D vwCl [q] H := fun k r hr => by
  have hi : k < 1 := (List.getElem?_eq_some_iff.mp hr).1
  obtain rfl : k = 0 := by omega
  cases hr
  exact h
theorem txW_len {cy : Nat → ClassId} {ad : Nat → Nat} {t : TX} : ∀ (n k : Nat), (txW cy ad t n k).length = 2 * n := by
  intro n
  induction n with
  | zero => intro k; rfl
  | succ n ih => intro k; rw [txW, List.length_cons, List.length_cons, ih]; omega
theorem VX_len {cy : Nat → ClassId} {ad st : Nat → Nat} {u : SX} : (VX cy ad st u).length = 73 + 2 * tN u := by
  rw [VX, List.length_append, txW_len]
  rfl
theorem VX_adr {cy : Nat → ClassId} {ad st : Nat → Nat} {u : SX} {k : Nat} {q : Nat × va_E} (hk : (VX cy ad st u)[k]? = some q) : q.1 = ad k ∧ k < 73 + 2 * tN u := by
  have hlt : k < 73 + 2 * tN u := by rw [← VX_len (cy := cy) (ad := ad) (st := st)]; exact (List.getElem?_eq_some_iff.mp hk).1
  refine ⟨?_, hlt⟩
  rcases Nat.lt_or_ge k 73 with z | z
  · rw [VX, List.getElem?_append_left (by exact z)] at hk
    have h1 : ((VX0 cy ad st u).map (fun q => q.1))[k]? = some q.1 := by rw [List.getElem?_map, hk]; rfl
    rw [VX0_ad, List.getElem?_map, List.getElem?_range z] at h1
    exact (Option.some.inj h1).symm
  · rw [VX, List.getElem?_append_right (by exact z)] at hk
    have e := txW_ad _ _ _ _ hk
    rw [e]
    congr 1
    show 73 + 2 * 0 + (k - 73) = k
    omega
/-- the cells that are there -/
def AXn (ad : Nat → Nat) (n : Nat) : Nat → Prop := fun q => ∃ k, k < 73 + 2 * n ∧ q = ad k
theorem VX_Dn {cy : Nat → ClassId} {ad st : Nat → Nat} (h : JX ad st) (u : SX) (sz : Nat) : va_D (Ax (AXn ad (tN u)) sz) (VX cy ad st u) := ⟨(VX_D h u sz).1, fun k q hq => Or.inl ⟨k, (VX_adr hq).2, (VX_adr hq).1⟩⟩
def rmCM : Room := { frames := 2, cells := 2, slots := 122, locals := 80 }
set_option maxHeartbeats 4000000 in
set_option maxRecDepth 100000 in
theorem met_compiled (l : Launch) (D : va_G) (cy : Nat → ClassId) (ad st : Nat → Nat) (hJ : JX ad st) (sz : Nat) (u : SX) (h0 : 0 ≤ (u.1 2).toInt) (h1 : (u.1 2).toInt ≤ 121) : Met l yX5_compiled wsX5_compiled rmCM (va_Pc [.ref (ad 2)] (fun U => Px D [(cy 0, .int), (cy 1, .long), (cy 2, .boolean), (cy 3, .byte), (cy 4, .object "HissHorn$Text")] st (VX cy ad st) sz u U ∧ CLn U)) (va_Qr (fun g : Nat → Int32 => ∀ i, g i = u.2.1 14 i ∨ g i = 0) (fun g a t => ∃ a2, sz ≤ a ∧ sz ≤ a2 ∧ a ≠ a2 ∧ va_P D vwCl (VX cy ad st u ++ [(a, .inr (10, [.ref a2])), (a2, .inl (cy 0, (u.1 2).toNatClampNeg, .inl g))]) t.heap) (Ax (AXn ad (tN u)) sz)) 2 122 (Ax (AXn ad (tN u)) sz) := by
  refine Met.ofW (cc := cX5_compiled) (maxL := 1) (ret := some (.object "HissHorn$Text")) (by decide) rfl ?_
  intro p e s m args below meth c s₁ B hml hv
  obtain ⟨rfl, ⟨hsz, hP, hK⟩, hCL⟩ := hv
  subst hsz
  have C : Cx RX5 cX5_compiled 1 (some (.object "HissHorn$Text")) wsX5_compiled p s m _ meth c := ⟨B.exec, B.bytes, hml, B.returns, findClass_of_methodNamed B.named, atoms_spec (ws := wsX5_compiled) B.pre, B.notSynchronized⟩
  have hS : va_S (Ax (AXn ad (tN u)) s.heap.size) s.heap s.heap [] := va_S.rf
  have hl := lv_entry ([.ref (ad 2)]) (n := 1) (Nat.le_of_ble_eq_true rfl)
  rw [lg_entry_eq]
  generalize (lg_sl ([.ref (ad 2)]) ++ List.replicate (1 - (lg_sl ([.ref (ad 2)])).length) Slot.unset).toArray = ls at hl ⊢
  have hl : lv_has ls 1 [(0, .ref (ad 2))] := hl
  have h14 : ad 14 < s.heap.size := (hP 14 _ rfl).lt
  have hPs := hP
  refine va_new (ci := 10) (fs := [.null]) (C := RX10) (T := TX10) (N := 1) C.1 C.2.1 C.2.2.2.2.2.1 hCM_t tyX10 tyX10_ok C.2.2.2.2.1 (C.2.2.2.2.2.1 _ mCM_0) (C.2.2.2.2.2.1 _ mCM_1) (C.2.2.2.2.2.1 _ mCM_2) hK.1 hP (VX_Dn hJ u s.heap.size) hS (fun q h => Or.inr h) rfl (by decide) (Nat.le_of_ble_eq_true rfl) (Nat.le_of_ble_eq_true rfl) dX5_compiled_0 (fun q1 H hP hD hS => ?_)
  have hlast : (VX cy ad st u ++ [(q1, .inr (10, [.null]))])[73 + 2 * tN u]? = some (q1, .inr (10, [.null])) := by
    rw [List.getElem?_append_right (by rw [VX_len]; exact Nat.le_refl _), VX_len, Nat.sub_self]
    rfl
  have hq1 : s.heap.size ≤ q1 := by
    rcases hD.2 _ _ hlast with ⟨k, hk, e⟩ | z
    · obtain ⟨x, hx⟩ : ∃ x, (VX cy ad st u)[k]? = some x := ⟨_, List.getElem?_eq_getElem (by rw [VX_len]; exact hk)⟩
      have hx2 : (VX cy ad st u ++ [(q1, .inr (10, [.null]))])[k]? = some x := by rw [List.getElem?_append_left (by rw [VX_len]; exact hk)]; exact hx
      have := hD.1 _ _ _ _ hx2 hlast ((VX_adr hx).1.trans e.symm)
      omega
    · exact z
  have hq1l : q1 < H.size := (hP _ _ hlast).lt
  refine lv_dup C.1 C.2.1 dX5_compiled_3 rfl ?_
  refine lv_aload_n C.1 C.2.1 dX5_compiled_4 rfl (lv_at hl 0 rfl) ?_
  refine gX_2_code C hCM_p hK (P_l hP) mCM_3 dX5_compiled_5 ?_
  refine lv_aload_n C.1 C.2.1 dX5_compiled_8 rfl (lv_at hl 0 rfl) ?_
  refine gX_2_size C hCM_p hK (P_l hP) mCM_4 dX5_compiled_9 ?_
  have hP14 : va_P D vwCl [(ad 14, .inl (cy 0, 121, .inl (u.2.1 14)))] H := P_one (P_l hP 14 _ rfl)
  have h14H : ad 14 < H.size := (P_l hP 14 _ rfl).lt
  have hA1 : ∀ q, Ax (fun a => a = ad 14) H.size q → Ax (AXn ad (tN u)) s.heap.size q := fun q z => z.elim (fun w => Or.inl ⟨14, by omega, w⟩) (fun w => Or.inr (Nat.le_trans hS.1 w))
  refine va_callr (va_runS (As := [.ref (ad 14), .int (u.1 2)]) (rest := [.ref q1, .ref q1]) ⟨C.1, C.2.1, C.2.2.1, C.2.2.2.2.1, C.2.2.2.2.2.1⟩ (met_copyOf l D cy (ad 14) H.size (u.2.1 14) (u.1 2) h0 h1) (va_cwS 2 C.2.2.2.2.2.1 gX5_compiled_J7_copyOf_59c91 rfl rfl rfl (by decide +kernel) ⟨Nat.le_of_ble_eq_true rfl, Nat.le_of_ble_eq_true rfl⟩) ⟨fun a U g mk q => by obtain ⟨b0, b1, b2, b3, b4⟩ := q; exact ⟨b0, b1, b2, va_K.moved (u := U) (U := U.calling g mk a) (Vm.Alike.refl U.vm) b3, va_Nw.same rfl rfl b4⟩, fun U hU hW => ⟨rfl, by rw [hU], by rw [hU]; exact hP14, va_K.moved hW.alike hK.1, va_Nw.warmC hW hCL⟩⟩ rfl rfl hl.1 rfl (lv_room (Nat.le_of_ble_eq_true rfl)) dX5_compiled_12 ⟨Nat.le_of_ble_eq_true rfl, Nat.le_of_ble_eq_true rfl⟩) hS (fun q _ h => hA1 q h) hA1 (fun g q2 t H1 locs1 ht hvm hpost hB hz1 hk1 hS1 => ?_)
  obtain ⟨hq2, hB⟩ := hB
  rw [ht] at hB
  have hPV : va_P D vwCl (VX cy ad st u) H1 := fun k q hq => by
    by_cases z : q.1 = ad 14
    · have e : k = 14 := (VX_D hJ u s.heap.size).1 k 14 q _ hq rfl z
      subst e
      cases (show (VX cy ad st u)[14]? = some (ad 14, .inl (cy 0, 121, .inl (u.2.1 14))) from rfl).symm.trans hq
      exact hB 0 _ rfl
    · exact (P_l hP k q hq).kept (hk1 q.1 (P_l hP k q hq).lt (fun w => w.elim z (fun v => absurd (P_l hP k q hq).lt (Nat.not_lt.mpr v))))
  have hPq : va_at D vwCl (q1, .inr (10, [.null])) H1 := (hP _ _ hlast).kept (hk1 q1 hq1l (fun w => w.elim (fun v => by have v : q1 = ad 14 := v; omega) (fun v => absurd hq1l (Nat.not_lt.mpr v))))
  have hA2 : ∀ q, Ax (fun a => a = q1) H1.size q → Ax (AXn ad (tN u)) s.heap.size q := fun q z => z.elim (fun w => Or.inr (by have w : q = q1 := w; omega)) (fun w => Or.inr (Nat.le_trans hS1.1 w))
  refine va_callv (va_runI (As := [.ref q2]) (rest := [.ref q1]) ⟨C.1, C.2.1, C.2.2.1, C.2.2.2.2.1, C.2.2.2.2.2.1⟩ (met_Tinit l D cy q1 q2 H1.size) (cwI 1 C.2.2.2.2.2.1 gX5_compiled_X10_init rfl rfl rfl (C.2.2.2.2.2.1 _ mCM_2) (C.2.2.2.2.2.1 _ mCM_5) (C.2.2.2.2.2.1 _ mCM_6) rfl (by decide +kernel) ⟨Nat.le_of_ble_eq_true rfl, Nat.le_of_ble_eq_true rfl⟩) ⟨fun a U g mk q => by obtain ⟨b0, b1, b2, b3⟩ := q; exact ⟨b0, b1, b2, va_K.moved (u := U) (U := U.calling g mk a) (Vm.Alike.refl U.vm) b3⟩, fun U hU hW => ⟨rfl, by rw [hU], by rw [hU]; exact P_one hPq, va_K.moved hW.alike hK.1⟩⟩ rfl rfl hl.1 rfl (lv_room (Nat.le_of_ble_eq_true rfl)) dX5_compiled_15 ⟨Nat.le_of_ble_eq_true rfl, Nat.le_of_ble_eq_true rfl⟩) hS1 (fun q _ h => hA2 q h) hA2 (fun w9 t9 H2 locs2 ht9 hvm9 hw9 hB9 hz9 hk9 hS9 => ?_)
  have hB9 : va_P D vwCl [(q1, .inr (10, [.ref q2]))] t9.heap := hB9
  rw [ht9] at hB9
  have hq2l : q2 < H1.size := (hB 1 _ rfl).lt
  have hne : q1 ≠ q2 := by omega
  have hPV2 : va_P D vwCl (VX cy ad st u) H2 := fun k q hq => (hPV k q hq).kept (hk9 q.1 (hPV k q hq).lt (fun w => w.elim (fun v => by
    have v : q.1 = q1 := v
    have := (va_at.lt (P_l hP k q hq))
    have hz : q.1 < s.heap.size := by
      obtain ⟨e1, e2⟩ := VX_adr hq
      exact (hPs k q hq).lt
    omega) (fun v => absurd (hPV k q hq).lt (Nat.not_lt.mpr v))))
  have hPq2 : va_at D vwCl (q2, .inl (cy 0, (u.1 2).toNatClampNeg, .inl g)) H2 := (hB 1 _ rfl).kept (hk9 q2 hq2l (fun w => w.elim (fun v => hne (show q2 = q1 from v).symm) (fun v => absurd hq2l (Nat.not_lt.mpr v))))
  refine W.cs (cells' := 2) (slots' := 122) rfl rfl ?_
  exact W.aret C.1 C.2.1 C.2.2.2.1 (Or.inl ⟨_, rfl⟩) (Or.inr ⟨_, rfl⟩) (fun t0 ht0 _ => ⟨⟨g, q1, rfl, hpost, q2, hq1, by omega, hne, by rw [ht0]; exact P_app hPV2 (P_app (w1 := [(q1, .inr (10, [.ref q2]))]) hB9 (P_one hPq2))⟩, hS9.F ht0⟩) hS9.2.2 dX5_compiled_18 C.2.2.2.2.2.2
