/-! Constructors. -/
theorem Ky_mA {D : va_G} {tys : List (ClassId × FieldType)} {sg : Nat → Nat} {s U : State} {A : Nat → Prop} {H : Heap} {locs : List Loc} (hA : ∀ q, A q → sg 100 ≤ q) (hS : va_S A s.heap H locs) (hU : U.heap = H) (hW : s.WarmedH U.vm) (hK : Ky D tys sg s) : Ky D tys sg U := ⟨va_K.moved hW.alike hK.1, fun q hq => va_Nw.warmM hW (hK.2.1 q hq), fun q hq => vk_R.warm hW (hK.2.2.1 q hq), Zx_mv hK.2.2.2 hW.alike (by rw [hU]; exact hS.1) (fun q h1 h2 => by rw [hU]; exact hS.2.1 q h1 (fun z => h2 (hA q z)))⟩
theorem D_mono {A B : Nat → Prop} {ws : va_W} (h : ∀ q, A q → B q) (hD : va_D A ws) : va_D B ws := ⟨hD.1, fun k q hk => h _ (hD.2 k q hk)⟩
theorem one_at {a q : Nat} {e e9 : va_E} {k : Nat} (h : [(a, e)][k]? = some (q, e9)) : a = q ∧ e = e9 := by
  have hi : k < 1 := (List.getElem?_eq_some_iff.mp h).1
  obtain rfl : k = 0 := by omega
  cases h
  exact ⟨rfl, rfl⟩
theorem A_one {a q sz : Nat} {e : va_E} (z : q = a) : va_A [(a, e)] sz q := by
  subst z
  exact Or.inl ⟨0, e, rfl⟩
/-- a String of n signs of one byte each, outside A -/
def Zs (A : Nat → Prop) (a n : Nat) (U : State) : Prop := va_O "java/lang/String" a A U U.heap ∧ va_OF "java/lang/String" "coder" "B" (.int 0) a A U U.heap ∧ ∃ (v : Nat) (f : Nat → Value), va_OF "java/lang/String" "value" "[B" (.ref v) a A U U.heap ∧ va_T .byte v n f A U U.heap
theorem Zs_mv {A B : Nat → Prop} {a n : Nat} {u U : State} (h : Zs A a n u) (hv : u.vm.Alike U.vm) (hk : ∀ q : Nat, q < u.heap.size → ¬ A q → U.heap[q]? = u.heap[q]?) (hB : ∀ q : Nat, q < u.heap.size → B q → A q) : Zs B a n U := by
  obtain ⟨h1, h2, v, f, h3, h4⟩ := h
  exact ⟨O_mv h1 hv hk hB, OF_mv h2 hv hk hB, v, f, OF_mv h3 hv hk hB, T_mv h4 hv hk hB⟩
theorem Zs_recv {A : Nat → Prop} {a n : Nat} {s : State} {H : Heap} {locs : List Loc} (h : Zs A a n s) (hS : va_S A s.heap H locs) : ∃ cell : Cell, H[a]? = some cell ∧ cell.vm.isStatics = false ∧ s.vm.findClass RJ0 = some cell.cls := by
  obtain ⟨cell, h1, h2, h3, -⟩ := h.1.kept hS.2.1
  exact ⟨cell, h1, h2, h3⟩
theorem Zs_blind {a n sz : Nat} : FrameBlind (va_Pc [.ref a] (fun U => U.heap.size = sz ∧ Zs (fun q => sz ≤ q) a n U ∧ Zc (fun q => sz ≤ q) U)) := fun a' U g mk q => by
  obtain ⟨q0, q1, qZ, qC⟩ := q
  exact ⟨q0, q1, Zs_mv (U := U.calling g mk a') qZ (Vm.Alike.refl U.vm) (fun _ _ _ => rfl) (fun _ _ h => h), Zc_mv (U := U.calling g mk a') qC (Vm.Alike.refl U.vm) (fun _ _ _ => rfl) (fun _ _ h => h)⟩

/-- String.coder() of a String of one byte a sign -/
theorem mcod0 : Cond.fieldLink RJ0 38 "java/lang/String" "COMPACT_STRINGS" "Z" ∈ wsJ0_coder_7d493 := List.mem_cons_of_mem _ (List.mem_of_getElem? (i := 0) rfl)
theorem mcod1 : Cond.fieldLink RJ0 15 "java/lang/String" "coder" "B" ∈ wsJ0_coder_7d493 := List.mem_cons_of_mem _ (List.mem_of_getElem? (i := 1) rfl)
def rmCod : Room := { frames := 0, cells := 0, slots := 0, locals := 0 }
set_option maxHeartbeats 4000000 in
theorem met_coder (l : Launch) (a n sz : Nat) : Met l yJ0_coder_7d493 wsJ0_coder_7d493 rmCod (va_Pc [.ref a] (fun U => U.heap.size = sz ∧ Zs (fun q => sz ≤ q) a n U ∧ Zc (fun q => sz ≤ q) U)) (va_Qi (fun r (_ : Unit) => r = 0) (fun _ _ => True) (fun q => sz ≤ q)) 0 0 (fun q => sz ≤ q) := by
  refine Met.ofW (cc := cJ0_coder_7d493) (maxL := 1) (ret := some .byte) (by decide) rfl ?_
  intro p e s m args below meth c s₁ B hml hv
  obtain ⟨rfl, hsz, hZs, hZc⟩ := hv
  subst hsz
  have C : Cx RJ0 cJ0_coder_7d493 1 (some .byte) wsJ0_coder_7d493 p s m _ meth c := ⟨B.exec, B.bytes, hml, B.returns, findClass_of_methodNamed B.named, atoms_spec (ws := wsJ0_coder_7d493) B.pre, B.notSynchronized⟩
  have hS : va_S (fun q => s.heap.size ≤ q) s.heap s.heap [] := va_S.rf
  have hl := lv_entry ([.ref a]) (n := 1) (Nat.le_of_ble_eq_true rfl)
  rw [lg_entry_eq]
  generalize (lg_sl ([.ref a]) ++ List.replicate (1 - (lg_sl ([.ref a])).length) Slot.unset).toArray = ls at hl ⊢
  have hl : lv_has ls 1 [(0, .ref a)] := hl
  refine va_gets C.1 C.2.1 hZc hS C.2.2.2.2.1 (C.2.2.2.2.2.1 _ mcod0) (fun _ h => h) dJ0_coder_7d493_0 ?_
  refine lv_if_eq (tgt := 13) C.1 C.2.1 dJ0_coder_7d493_3 (by decide) (fun h => absurd h (by decide)) (fun _ => ?_)
  refine lv_aload_n C.1 C.2.1 dJ0_coder_7d493_6 rfl (lv_at hl 0 rfl) ?_
  refine vk_getf C.1 C.2.1 hZs.2.1 hS C.2.2.2.2.1 (C.2.2.2.2.2.1 _ mcod1) (fun _ h => h) dJ0_coder_7d493_7 ?_
  refine lv_goto (tgt := 14) C.1 C.2.1 dJ0_coder_7d493_10 (by decide) ?_
  exact W.zret C.1 C.2.1 C.2.2.2.1 rfl (fun t ht _ => ⟨⟨0, (), rfl, rfl, trivial⟩, hS.F ht⟩) hS.2.2 dJ0_coder_7d493_14 C.2.2.2.2.2.2
theorem mlen0 : Cond.fieldLink RJ0 9 "java/lang/String" "value" "[B" ∈ wsJ0_length_8abf5 := List.mem_cons_of_mem _ (List.mem_of_getElem? (i := 0) rfl)
def rmLen : Room := { frames := 1, cells := 0, slots := 0, locals := 20 }
set_option maxHeartbeats 4000000 in
theorem met_strlen (l : Launch) (a n sz : Nat) : Met l yJ0_length_8abf5 wsJ0_length_8abf5 rmLen (va_Pc [.ref a] (fun U => U.heap.size = sz ∧ Zs (fun q => sz ≤ q) a n U ∧ Zc (fun q => sz ≤ q) U)) (va_Qi (fun r (_ : Unit) => r = Int32.ofNat n >>> ((0 : Int32) &&& 31)) (fun _ _ => True) (fun q => sz ≤ q)) 0 0 (fun q => sz ≤ q) := by
  refine Met.ofW (cc := cJ0_length_8abf5) (maxL := 1) (ret := some .int) (by decide) rfl ?_
  intro p e s m args below meth c s₁ B hml hv
  obtain ⟨rfl, hsz, hZs, hZc⟩ := hv
  subst hsz
  have C : Cx RJ0 cJ0_length_8abf5 1 (some .int) wsJ0_length_8abf5 p s m _ meth c := ⟨B.exec, B.bytes, hml, B.returns, findClass_of_methodNamed B.named, atoms_spec (ws := wsJ0_length_8abf5) B.pre, B.notSynchronized⟩
  have hS : va_S (fun q => s.heap.size ≤ q) s.heap s.heap [] := va_S.rf
  have hl := lv_entry ([.ref a]) (n := 1) (Nat.le_of_ble_eq_true rfl)
  rw [lg_entry_eq]
  generalize (lg_sl ([.ref a]) ++ List.replicate (1 - (lg_sl ([.ref a])).length) Slot.unset).toArray = ls at hl ⊢
  have hl : lv_has ls 1 [(0, .ref a)] := hl
  have hZ9 := hZs
  obtain ⟨-, -, v, f, hV, hT⟩ := hZ9
  refine lv_aload_n C.1 C.2.1 dJ0_length_8abf5_0 rfl (lv_at hl 0 rfl) ?_
  refine vk_getf C.1 C.2.1 hV hS C.2.2.2.2.1 (C.2.2.2.2.2.1 _ mlen0) (fun _ h => h) dJ0_length_8abf5_1 ?_
  refine va_tlen C.1 C.2.1 hT hS rfl dJ0_length_8abf5_4 ?_
  refine lv_aload_n C.1 C.2.1 dJ0_length_8abf5_5 rfl (lv_at hl 0 rfl) ?_
  refine va_calli (va_runV (As := []) (rest := [.int (Int32.ofNat n)]) ⟨C.1, C.2.1, C.2.2.1, C.2.2.2.2.1, C.2.2.2.2.2.1⟩ (met_coder l a n s.heap.size) (cwV 0 C.2.2.2.2.2.1 gJ0_length_8abf5_J0_coder_7d493 rfl rfl rfl (by decide +kernel) ⟨Nat.le_of_ble_eq_true rfl, Nat.le_of_ble_eq_true rfl⟩) ⟨Zs_blind, Zs_recv hZs hS, fun U hU hW => ⟨rfl, by rw [hU], Zs_mv hZs hW.alike (fun q _ _ => by rw [hU]) (fun _ _ h => h), Zc_mv hZc hW.alike (fun q _ _ => by rw [hU]) (fun _ _ h => h)⟩⟩ rfl rfl hl.1 rfl (lv_room (Nat.le_of_ble_eq_true rfl)) dJ0_length_8abf5_6 ⟨Nat.zero_le _, Nat.zero_le _⟩) hS (fun q _ h => h) (fun q h => h) (fun r u t H1 locs ht hvm hr hB hz1 hk1 hS => ?_)
  obtain rfl : r = 0 := hr
  refine lv_ishr C.1 C.2.1 dJ0_length_8abf5_9 ?_
  exact W.iret C.1 C.2.1 C.2.2.2.1 (fun t ht _ => ⟨⟨_, (), rfl, rfl, trivial⟩, hS.F ht⟩) hS.2.2 dJ0_length_8abf5_10 C.2.2.2.2.2.2

/-- the cells of side F -/
def VF0 (cy : Nat → ClassId) (ad st : Nat → Nat) (u : SX) : va_W := [(ad 0, .inl (cy 0, 960, .inl (u.2.1 0)))]
def VF (cy : Nat → ClassId) (ad st : Nat → Nat) (u : SX) : va_W := VF0 cy ad st u
def AF (ad : Nat → Nat) : Nat → Prop := fun q => ∃ k, k < 1 ∧ q = ad k
def JF (ad st : Nat → Nat) : Prop := (∀ i j, i < 1 → j < 1 → ad i = ad j → i = j) ∧ ∀ i, i < 1 → st 100 ≤ ad i
theorem AF_ge {ad st : Nat → Nat} (h : JF ad st) : ∀ q, AF ad q → st 100 ≤ q := fun q z => by obtain ⟨k, hk, e⟩ := z; rw [e]; exact h.2 k hk
theorem VF0_ad (cy : Nat → ClassId) (ad st : Nat → Nat) (u : SX) : (VF0 cy ad st u).map (fun q => q.1) = (List.range 1).map ad := rfl
theorem VF_D {cy : Nat → ClassId} {ad st : Nat → Nat} (h : JF ad st) (u : SX) (sz : Nat) : va_D (Ax (AF ad) sz) (VF cy ad st u) := by
  have key0 : ∀ (k : Nat) (q : Nat × va_E), (VF0 cy ad st u)[k]? = some q → k < 1 ∧ q.1 = ad k := by
    intro k q hk
    have h1 : ((VF0 cy ad st u).map (fun q => q.1))[k]? = some q.1 := by rw [List.getElem?_map, hk]; rfl
    rw [VF0_ad, List.getElem?_map] at h1
    rcases Nat.lt_or_ge k 1 with z | z
    · rw [List.getElem?_range z] at h1
      exact ⟨z, (Option.some.inj h1).symm⟩
    · rw [List.getElem?_eq_none (by simpa using z)] at h1
      cases h1
  have key : ∀ (k : Nat) (q : Nat × va_E), (VF cy ad st u)[k]? = some q → k < 1 ∧ q.1 = ad k := by
    intro k q hk
    exact key0 k q hk
  refine ⟨fun i j p q hp hq e => ?_, fun k q hq => ?_⟩
  · exact h.1 i j (key i p hp).1 (key j q hq).1 (by rw [← (key i p hp).2, ← (key j q hq).2]; exact e)
  · exact Or.inl ⟨k, key k q hq⟩
section ROWSF
variable {p : Program} {l : Launch} {e : Env} {R : Room} {s : State} {m : MethodId} {args : Array Value} {below : List Frame} {meth : Method} {c : Code} {H : Heap} {locs : List Loc} {cells slots : Nat} {Q : State → Prop}
variable {own : String} {cc : ByteArray} {nL index pc : Nat} {rt : Option FieldType} {Ts : List Cond} {rest : List Value} {ls : Array Slot}
variable {D : va_G} {cy : Nat → ClassId} {ad st : Nat → Nat} {u : SX}

theorem tF_0 (C : Cx own cc nL rt Ts p s m args meth c) (hK : Ky D [(cy 0, .int), (cy 1, .long), (cy 2, .boolean), (cy 3, .byte), (cy 4, .object "HissHorn$Text")] st s) (hP : va_P D vwCl (VF cy ad st u) H) (hJ : JF ad st) (hS : va_S (Ax (AF ad) s.heap.size) s.heap H locs) {i : Int32} {x : Int32} (hi : inb i 960 = true) (hdg : decode cc pc = .ok (.iastore, 1)) (kk : ∀ (H1 : Heap) (locs1 : List Loc), va_P D vwCl (VF cy ad st (sA u 0 (upd (u.2.1 0) i.toNatClampNeg x))) H1 → va_S (Ax (AF ad) s.heap.size) s.heap H1 locs1 → W p l e R s m args below meth c H1 locs1 cells slots Q (F0 m (pc + 1) ls rest)) : W p l e R s m args below meth c H locs cells slots Q (F0 m pc ls (.int x :: .int i :: .ref (ad 0) :: rest)) :=
  va_iast C.1 C.2.1 hK.1 hP (VF_D hJ u s.heap.size) hS 0 0 rfl rfl (inb_in hi) hdg (fun H1 locs1 h1 _ h3 => kk H1 locs1 h1 h3)
end ROWSF

/-- java/util/Arrays.fill([II)V -/
def rmJ7_fill_53178_a0 : Room := { frames := 0, cells := 0, slots := 0, locals := 0 }
def LJ7_fill_53178_a0_5  : Nat → Int32 → Int32 → Int32 → SX → Option (Int32 × SX)
  | 0, _, _, _, _ => none
  | n + 1, z1, z2, z3, u => (if z3 ≤ z2 then (some (0, u)) else (gd (inb z2 960) (lt (sA u 0 (upd (u.2.1 0) z2.toNatClampNeg z1)) fun u2 => ((LJ7_fill_53178_a0_5 n) z1 (z2 + 1) z3 u2))))
def fJ7_fill_53178_a0 (x1 : Int32) (u : SX) : Option (Int32 × SX) := (LJ7_fill_53178_a0_5  5000 x1 0 960 u)
set_option maxHeartbeats 4000000 in
set_option maxRecDepth 100000 in
theorem wLJ7_fill_53178_a0_5 {p : Program} {l : Launch} {e : Env} {s : State} {m : MethodId} {args : Array Value} {below : List Frame} {meth : Method} {c : Code} {D : va_G} {cy : Nat → ClassId} {ad st : Nat → Nat} (C : Cx RJ7 cJ7_fill_53178 4 none wsJ7_fill_53178 p s m args meth c) (hK : Ky D [(cy 0, .int), (cy 1, .long), (cy 2, .boolean), (cy 3, .byte), (cy 4, .object "HissHorn$Text")] st s) (hJ : JF ad st) {r : Int32} {u' : SX}   : ∀ (n : Nat) (z1 : Int32) (z2 : Int32) (z3 : Int32) (u : SX) (H : Heap) (locs : List Loc) (ls : Array Slot), LJ7_fill_53178_a0_5  n z1 z2 z3 u = some (r, u') → va_P D vwCl (VF cy ad st u) H → va_S (Ax (AF ad) s.heap.size) s.heap H locs → lv_has ls 4 [(0, .ref (ad 0)), (1, .int z1), (2, .int z2), (3, .int z3)] → W p l e rmJ7_fill_53178_a0 s m args below meth c H locs 0 0 (MQ below (Qv D (VF cy ad st) (AF ad) s.heap.size r u') args s 0 0 (Ax (AF ad) s.heap.size)) (F0 m 5 ls []) := by
  intro n
  induction n with
  | zero =>
    intro z1 z2 z3 u H locs ls h
    exact absurd h (by intro q; cases q)
  | succ n ih =>
    intro z1 z2 z3 u H locs ls h hP hS hl
    rw [LJ7_fill_53178_a0_5] at h
    refine lv_iload_n C.1 C.2.1 dJ7_fill_53178_5 rfl (lv_at hl 2 rfl) ?_
    refine lv_iload_n C.1 C.2.1 dJ7_fill_53178_6 rfl (lv_at hl 3 rfl) ?_
    refine lv_icmp_ge (tgt := 20) C.1 C.2.1 dJ7_fill_53178_7 (by decide) (fun c7 => ?_) (fun c7 => ?_)
    · rw [if_pos c7] at h
      cases h
      exact rt_v C hP hS dJ7_fill_53178_20
    · rw [if_neg c7] at h
      refine lv_aload_n C.1 C.2.1 dJ7_fill_53178_10 rfl (lv_at hl 0 rfl) ?_
      refine lv_iload_n C.1 C.2.1 dJ7_fill_53178_11 rfl (lv_at hl 2 rfl) ?_
      refine lv_iload_n C.1 C.2.1 dJ7_fill_53178_12 rfl (lv_at hl 1 rfl) ?_
      obtain ⟨hg1, h⟩ := gd_some h
      refine tF_0 C hK hP hJ hS hg1 dJ7_fill_53178_13 (fun H locs hP hS => ?_)
      obtain ⟨u2, hu3, h⟩ := lt_some h
      rw [← hu3] at hP
      refine lv_iinc (v := z2 + 1) (lv' := [(2, .int (z2 + 1)), (0, .ref (ad 0)), (1, .int z1), (3, .int z3)]) C.1 C.2.1 dJ7_fill_53178_14 hl (k := 2) rfl rfl (by decide) rfl (fun ls hl => ?_)
      replace hl := lv_sub (l' := [(0, .ref (ad 0)), (1, .int z1), (2, .int (z2 + 1)), (3, .int z3)]) hl [1, 2, 0, 3] rfl
      refine lv_goto (tgt := 5) C.1 C.2.1 dJ7_fill_53178_17 (by decide) ?_
      exact ih _ _ _ _ _ _ _ h hP hS hl
set_option maxHeartbeats 4000000 in
set_option maxRecDepth 100000 in
theorem wJ7_fill_53178_a0 {p : Program} {l : Launch} {e : Env} {s : State} {m : MethodId} {args : Array Value} {below : List Frame} {meth : Method} {c : Code} {D : va_G} {cy : Nat → ClassId} {ad st : Nat → Nat} (C : Cx RJ7 cJ7_fill_53178 4 none wsJ7_fill_53178 p s m args meth c) (hK : Ky D [(cy 0, .int), (cy 1, .long), (cy 2, .boolean), (cy 3, .byte), (cy 4, .object "HissHorn$Text")] st s) (hJ : JF ad st) (x1 : Int32) {u : SX} {r : Int32} {u' : SX} {H : Heap} {locs : List Loc} {ls : Array Slot} (h : fJ7_fill_53178_a0 x1 u = some (r, u')) (hP : va_P D vwCl (VF cy ad st u) H) (hS : va_S (Ax (AF ad) s.heap.size) s.heap H locs) (hl : lv_has ls 4 [(0, .ref (ad 0)), (1, .int x1)]) : W p l e rmJ7_fill_53178_a0 s m args below meth c H locs 0 0 (MQ below (Qv D (VF cy ad st) (AF ad) s.heap.size r u') args s 0 0 (Ax (AF ad) s.heap.size)) (F0 m 0 ls []) := by
  unfold fJ7_fill_53178_a0 at h
  refine lv_iconst (v := 0) C.1 C.2.1 dJ7_fill_53178_0 (by decide) ?_
  refine lv_istore_n (lv' := [(2, .int 0), (0, .ref (ad 0)), (1, .int x1)]) C.1 C.2.1 dJ7_fill_53178_1 rfl hl (by decide) rfl (fun ls hl => ?_)
  replace hl := lv_sub (l' := [(0, .ref (ad 0)), (1, .int x1), (2, .int 0)]) hl [1, 2, 0] rfl
  refine lv_aload_n C.1 C.2.1 dJ7_fill_53178_2 rfl (lv_at hl 0 rfl) ?_
  refine va_alen (v := 960) C.1 C.2.1 hK.1 hP 0 0 rfl rfl rfl dJ7_fill_53178_3 ?_
  refine lv_istore_n (lv' := [(3, .int 960), (0, .ref (ad 0)), (1, .int x1), (2, .int 0)]) C.1 C.2.1 dJ7_fill_53178_4 rfl hl (by decide) rfl (fun ls hl => ?_)
  replace hl := lv_sub (l' := [(0, .ref (ad 0)), (1, .int x1), (2, .int 0), (3, .int 960)]) hl [1, 2, 3, 0] rfl
  exact wLJ7_fill_53178_a0_5 C hK hJ  5000 _ _ _ _ _ _ _ h hP hS hl
theorem metJ7_fill_53178_a0 (l : Launch) (D : va_G) (cy : Nat → ClassId) (ad st : Nat → Nat) (hJ : JF ad st) (sz : Nat) (x1 : Int32) {u : SX} {r : Int32} {u' : SX} (h : fJ7_fill_53178_a0 x1 u = some (r, u')) : Met l yJ7_fill_53178 wsJ7_fill_53178 rmJ7_fill_53178_a0 (va_Pc [.ref (ad 0), .int x1] (Px D [(cy 0, .int), (cy 1, .long), (cy 2, .boolean), (cy 3, .byte), (cy 4, .object "HissHorn$Text")] st (VF cy ad st) sz u)) (Qv D (VF cy ad st) (AF ad) sz r u') 0 0 (Ax (AF ad) sz) := by
  refine Met.ofW (cc := cJ7_fill_53178) (maxL := 4) (ret := none) (by decide) rfl ?_
  intro p e s m args below meth c s₁ B hml hv
  obtain ⟨rfl, hsz, hP, hK⟩ := hv
  subst hsz
  have C : Cx RJ7 cJ7_fill_53178 4 none wsJ7_fill_53178 p s m _ meth c := ⟨B.exec, B.bytes, hml, B.returns, findClass_of_methodNamed B.named, atoms_spec (ws := wsJ7_fill_53178) B.pre, B.notSynchronized⟩
  have hl := lv_entry ([.ref (ad 0), .int x1]) (n := 4) (Nat.le_of_ble_eq_true rfl)
  rw [lg_entry_eq]
  exact wJ7_fill_53178_a0 C hK hJ x1 h hP va_S.rf hl

theorem JF_one {a : Nat} {st : Nat → Nat} (h : st 100 ≤ a) : JF (fun _ => a) st := ⟨fun i j hi hj _ => by omega, fun _ _ => h⟩
/-- the row of worths behind Arrays.fill -/
def uF : SX := ((fJ7_fill_53178_a0 (-100000000) u00).getD (0, u00)).2
set_option maxRecDepth 100000 in
theorem fill_ends : fJ7_fill_53178_a0 (-100000000) u00 = some (0, uF) := by
  have h : ((fJ7_fill_53178_a0 (-100000000) u00).map Prod.fst) = some 0 := by decide +kernel
  unfold uF
  cases e : fJ7_fill_53178_a0 (-100000000) u00 with
  | none => rw [e] at h; cases h
  | some x =>
    obtain ⟨r, u⟩ := x
    rw [e] at h
    cases h
    rfl
theorem zdX9_init_0 : (and (and (and (zk cX9_init 0 (.aload_n 0) 1) (zk cX9_init 1 (.invokespecial 1) 3)) (and (zk cX9_init 4 (.aload_n 0) 1) (zk cX9_init 5 (.bipush 120) 2))) (and (and (zk cX9_init 7 (.newarray .int) 2) (zk cX9_init 9 (.putfield 9) 3)) (zk cX9_init 12 (.return_) 1))) = true := by decide +kernel
theorem dX9_init_0 : decode cX9_init 0 = .ok (.aload_n 0, 1) := zk_of (zk_l (zk_l (zk_l zdX9_init_0)))
theorem dX9_init_1 : decode cX9_init 1 = .ok (.invokespecial 1, 3) := zk_of (zk_r (zk_l (zk_l zdX9_init_0)))
theorem dX9_init_4 : decode cX9_init 4 = .ok (.aload_n 0, 1) := zk_of (zk_l (zk_r (zk_l zdX9_init_0)))
theorem dX9_init_5 : decode cX9_init 5 = .ok (.bipush 120, 2) := zk_of (zk_r (zk_r (zk_l zdX9_init_0)))
theorem dX9_init_7 : decode cX9_init 7 = .ok (.newarray .int, 2) := zk_of (zk_l (zk_l (zk_r zdX9_init_0)))
theorem dX9_init_9 : decode cX9_init 9 = .ok (.putfield 9, 3) := zk_of (zk_r (zk_l (zk_r zdX9_init_0)))
theorem dX9_init_12 : decode cX9_init 12 = .ok (.return_, 1) := zk_of (zk_r (zk_r zdX9_init_0))
/-- HissHorn$Tape() -/
theorem mX9_0 : Cond.methodLink RX9 1 objectInit ∈ wsX9_init := (List.mem_cons_of_mem _ (List.mem_append_left _ (List.mem_of_getElem? (i := 0) rfl)))
theorem mX9_1 : Cond.instanceMethod objectInit ∈ wsX9_init := (List.mem_cons_of_mem _ (List.mem_append_left _ (List.mem_of_getElem? (i := 1) rfl)))
theorem mX9_2 : Cond.code objectInit ⟨#[0xb1]⟩ 1 none ∈ wsX9_init := (List.mem_cons_of_mem _ (List.mem_append_left _ (List.mem_of_getElem? (i := 2) rfl)))
theorem mX9_3 : Cond.arrayClass .int ∈ wsX9_init := (List.mem_cons_of_mem _ (List.mem_append_left _ (List.mem_of_getElem? (i := 3) rfl)))
theorem mX9_4 : Cond.fieldLink RX9 9 "HissHorn$Tape" "bytes" "[I" ∈ wsX9_init := (List.mem_cons_of_mem _ (List.mem_append_left _ (List.mem_of_getElem? (i := 4) rfl)))
theorem hX9_X9 : ∀ w ∈ u_ws RX9 TX9 2, w ∈ wsX9_init := fun w h => (List.mem_cons_of_mem _ (List.mem_append_right _ h))
abbrev atX9 (cy : Nat → ClassId) (st : Nat → Nat) (h0 : Nat) (q : Nat) : va_W := match q with
  | q1 => [(h0, .inr (9, [.ref q1, .int 0])), (q1, .inl (cy 0, 120, .inl (fun _ => 0)))]
def rmkX9 : Room := { frames := 1, cells := 1, slots := 120, locals := 12 }
set_option maxHeartbeats 8000000 in
set_option maxRecDepth 100000 in
theorem kcX9 (l : Launch) (D : va_G) (cy : Nat → ClassId) (st : Nat → Nat) (h0 sz : Nat) (hst : st 100 ≤ h0) : Met l yX9_init wsX9_init rmkX9 (va_Pc [.ref h0] (fun U => U.heap.size = sz ∧ va_P D vwCl [(h0, .inr (9, [.null, .int 0]))] U.heap ∧ Ky D [(cy 0, .int), (cy 1, .long), (cy 2, .boolean), (cy 3, .byte), (cy 4, .object "HissHorn$Text")] st U)) (va_Qv (fun (_ : Nat) => True) (fun q t => va_P D vwCl (atX9 cy st h0 q) t.heap ∧ va_D (Ax (fun a => a = h0) sz) (atX9 cy st h0 q)) (Ax (fun a => a = h0) sz)) 1 120 (Ax (fun a => a = h0) sz) := by
  refine Met.ofW (cc := cX9_init) (maxL := 1) (ret := none) (by decide) rfl ?_
  intro p e s m args below meth c s₁ B hml hv
  obtain ⟨rfl, hsz, hP, hK⟩ := hv
  subst hsz
  have C : Cx RX9 cX9_init 1 none wsX9_init p s m _ meth c := ⟨B.exec, B.bytes, hml, B.returns, findClass_of_methodNamed B.named, atoms_spec (ws := wsX9_init) B.pre, B.notSynchronized⟩
  have hin : meth.name = "<init>" := (name_of_methodNamed B.named B.method).1
  generalize hAe : Ax (fun a => a = h0) s.heap.size = A
  have hA : ∀ q : Nat, s.heap.size ≤ q → A q := fun q h => by rw [← hAe]; exact Or.inr h
  have hAs : ∀ q : Nat, A q → st 100 ≤ q := fun q h => by
    rw [← hAe] at h
    exact h.elim (fun z => by rw [z]; exact hst) (fun z => Nat.le_trans hK.2.2.2.1 z)
  have hD : va_D A [(h0, .inr (9, [.null, .int 0]))] := D_one (by rw [← hAe]; exact Or.inl rfl)
  have hS : va_S A s.heap s.heap [] := va_S.rf
  have hl := lv_entry ([.ref h0]) (n := 1) (Nat.le_of_ble_eq_true rfl)
  rw [lg_entry_eq]
  generalize (lg_sl ([.ref h0]) ++ List.replicate (1 - (lg_sl ([.ref h0])).length) Slot.unset).toArray = ls at hl ⊢
  have hl : lv_has ls 1 [(0, .ref h0)] := hl
  refine lv_aload_n C.1 C.2.1 dX9_init_0 rfl (lv_at hl 0 rfl) ?_
  refine W.objInit C.1 C.2.1 C.2.2.2.2.1 (C.2.2.2.2.2.1 _ mX9_0) (C.2.2.2.2.2.1 _ mX9_1) (C.2.2.2.2.2.1 _ mX9_2) rfl (by rw [C.2.2.1]; exact hl.1) rfl dX9_init_1 (Nat.le_of_ble_eq_true rfl) (Nat.le_of_ble_eq_true rfl) ?_
  refine W.eq (g2 := F0 m 4 ls []) rfl ?_
  refine lv_aload_n C.1 C.2.1 dX9_init_4 rfl (lv_at hl 0 rfl) ?_
  refine lv_bipush (v := 120) C.1 C.2.1 dX9_init_5 (by decide) ?_
  refine va_newa (atype := .int) (a0 := (120, .inl (fun _ => 0))) (ty := .int) C.1 C.2.1 (C.2.2.2.2.2.1 _ mX9_3) rfl hK.1 hP hD hS hA (fun cA => by first | rfl | exact vp_cell_i _ _ _ | exact vp_cell_l _ _ _) (by decide) (N' := 120) rfl (Nat.le_of_ble_eq_true rfl) (Nat.le_of_ble_eq_true rfl) (Nat.le_of_ble_eq_true rfl) dX9_init_7 (fun q1 cA H hK9 hP hD hS => ?_)
  obtain rfl : cA = cy 0 := arr_same hK9 hK.1 0 rfl 5 rfl
  have hP : va_P D vwCl [(h0, .inr (9, [.null, .int 0])), (q1, .inl (cy 0, 120, .inl (fun _ => 0)))] H := hP
  have hD : va_D A [(h0, .inr (9, [.null, .int 0])), (q1, .inl (cy 0, 120, .inl (fun _ => 0)))] := hD
  clear hK9
  refine va_putF (D := D) (ci := 9) (v := .ref q1) (ty := .array .int) C.1 C.2.1 C.2.2.2.2.2.1 hX9_X9 tyX9 tyX9_ok nmX9 C.2.2.2.2.1 hK.1 hP hD hS 0 rfl rfl 0 (by decide) (C.2.2.2.2.2.1 _ mX9_4) (fun _ h => h) rfl hin rfl (by decide +kernel) rfl rfl (Nat.le_of_ble_eq_true rfl) dX9_init_9 (fun H locs hP hD hS => ?_)
  have hP : va_P D vwCl [(h0, .inr (9, [.ref q1, .int 0])), (q1, .inl (cy 0, 120, .inl (fun _ => 0)))] H := hP
  have hD : va_D A [(h0, .inr (9, [.ref q1, .int 0])), (q1, .inl (cy 0, 120, .inl (fun _ => 0)))] := hD
  exact W.cs (cells' := 1) (slots' := 120) rfl rfl (W.vret C.1 C.2.1 C.2.2.2.1 (fun t ht _ => ⟨⟨(q1), rfl, trivial, by rw [ht]; exact hP, hD⟩, hS.F ht⟩) hS.2.2 dX9_init_12 C.2.2.2.2.2.2)

theorem zdX5_init_0 : (and (and (and (and (zk cX5_init 0 (.aload_n 0) 1) (zk cX5_init 1 (.invokespecial 3) 3)) (and (zk cX5_init 4 (.aload_n 0) 1) (zk cX5_init 5 (.bipush 121) 2))) (and (and (zk cX5_init 7 (.newarray .int) 2) (zk cX5_init 9 (.putfield 11) 3)) (zk cX5_init 12 (.aload_n 0) 1))) (and (and (and (zk cX5_init 13 (.ldc 17) 2) (zk cX5_init 15 (.putfield 19) 3)) (zk cX5_init 18 (.aload_n 0) 1)) (and (and (zk cX5_init 19 (.aload_n 1) 1) (zk cX5_init 20 (.putfield 23) 3)) (zk cX5_init 23 (.return_) 1)))) = true := by decide +kernel
theorem dX5_init_0 : decode cX5_init 0 = .ok (.aload_n 0, 1) := zk_of (zk_l (zk_l (zk_l (zk_l zdX5_init_0))))
theorem dX5_init_1 : decode cX5_init 1 = .ok (.invokespecial 3, 3) := zk_of (zk_r (zk_l (zk_l (zk_l zdX5_init_0))))
theorem dX5_init_4 : decode cX5_init 4 = .ok (.aload_n 0, 1) := zk_of (zk_l (zk_r (zk_l (zk_l zdX5_init_0))))
theorem dX5_init_5 : decode cX5_init 5 = .ok (.bipush 121, 2) := zk_of (zk_r (zk_r (zk_l (zk_l zdX5_init_0))))
theorem dX5_init_7 : decode cX5_init 7 = .ok (.newarray .int, 2) := zk_of (zk_l (zk_l (zk_r (zk_l zdX5_init_0))))
theorem dX5_init_9 : decode cX5_init 9 = .ok (.putfield 11, 3) := zk_of (zk_r (zk_l (zk_r (zk_l zdX5_init_0))))
theorem dX5_init_12 : decode cX5_init 12 = .ok (.aload_n 0, 1) := zk_of (zk_r (zk_r (zk_l zdX5_init_0)))
theorem dX5_init_13 : decode cX5_init 13 = .ok (.ldc 17, 2) := zk_of (zk_l (zk_l (zk_l (zk_r zdX5_init_0))))
theorem dX5_init_15 : decode cX5_init 15 = .ok (.putfield 19, 3) := zk_of (zk_r (zk_l (zk_l (zk_r zdX5_init_0))))
theorem dX5_init_18 : decode cX5_init 18 = .ok (.aload_n 0, 1) := zk_of (zk_r (zk_l (zk_r zdX5_init_0)))
theorem dX5_init_19 : decode cX5_init 19 = .ok (.aload_n 1, 1) := zk_of (zk_l (zk_l (zk_r (zk_r zdX5_init_0))))
theorem dX5_init_20 : decode cX5_init 20 = .ok (.putfield 23, 3) := zk_of (zk_r (zk_l (zk_r (zk_r zdX5_init_0))))
theorem dX5_init_23 : decode cX5_init 23 = .ok (.return_, 1) := zk_of (zk_r (zk_r (zk_r zdX5_init_0)))
/-- HissHorn$Parser() -/
theorem mX5_0 : Cond.methodLink RX5 3 objectInit ∈ wsX5_init := (List.mem_cons_of_mem _ (List.mem_append_left _ (List.mem_of_getElem? (i := 0) rfl)))
theorem mX5_1 : Cond.instanceMethod objectInit ∈ wsX5_init := (List.mem_cons_of_mem _ (List.mem_append_left _ (List.mem_of_getElem? (i := 1) rfl)))
theorem mX5_2 : Cond.code objectInit ⟨#[0xb1]⟩ 1 none ∈ wsX5_init := (List.mem_cons_of_mem _ (List.mem_append_left _ (List.mem_of_getElem? (i := 2) rfl)))
theorem mX5_3 : Cond.arrayClass .int ∈ wsX5_init := (List.mem_cons_of_mem _ (List.mem_append_left _ (List.mem_of_getElem? (i := 3) rfl)))
theorem mX5_4 : Cond.fieldLink RX5 11 "HissHorn$Parser" "code" "[I" ∈ wsX5_init := (List.mem_cons_of_mem _ (List.mem_append_left _ (List.mem_of_getElem? (i := 4) rfl)))
theorem hX5_X5 : ∀ w ∈ u_ws RX5 TX5 5, w ∈ wsX5_init := fun w h => (List.mem_cons_of_mem _ (List.mem_append_right _ h))
theorem mX5_6 : Cond.fieldLink RX5 19 "HissHorn$Parser" "letters" "Ljava/lang/String;" ∈ wsX5_init := (List.mem_cons_of_mem _ (List.mem_append_left _ (List.mem_of_getElem? (i := 5) rfl)))
theorem mX5_7 : Cond.fieldLink RX5 23 "HissHorn$Parser" "tape" "LHissHorn$Tape;" ∈ wsX5_init := (List.mem_cons_of_mem _ (List.mem_append_left _ (List.mem_of_getElem? (i := 6) rfl)))
abbrev atX5 (cy : Nat → ClassId) (st : Nat → Nat) (h0 b1 : Nat) (q : Nat) : va_W := match q with
  | q1 => [(h0, .inr (5, [.ref q1, .ref b1, .int 0, .ref (st 3), .int 0])), (q1, .inl (cy 0, 121, .inl (fun _ => 0)))]
def rmkX5 : Room := { frames := 1, cells := 1, slots := 121, locals := 12 }
set_option maxHeartbeats 8000000 in
set_option maxRecDepth 100000 in
theorem kcX5 (l : Launch) (D : va_G) (cy : Nat → ClassId) (st : Nat → Nat) (h0 b1 sz : Nat) (hst : st 100 ≤ h0) : Met l yX5_init wsX5_init rmkX5 (va_Pc [.ref h0, .ref b1] (fun U => U.heap.size = sz ∧ va_P D vwCl [(h0, .inr (5, [.null, .null, .int 0, .null, .int 0]))] U.heap ∧ Ky D [(cy 0, .int), (cy 1, .long), (cy 2, .boolean), (cy 3, .byte), (cy 4, .object "HissHorn$Text")] st U)) (va_Qv (fun (_ : Nat) => True) (fun q t => va_P D vwCl (atX5 cy st h0 b1 q) t.heap ∧ va_D (Ax (fun a => a = h0) sz) (atX5 cy st h0 b1 q)) (Ax (fun a => a = h0) sz)) 1 121 (Ax (fun a => a = h0) sz) := by
  refine Met.ofW (cc := cX5_init) (maxL := 2) (ret := none) (by decide) rfl ?_
  intro p e s m args below meth c s₁ B hml hv
  obtain ⟨rfl, hsz, hP, hK⟩ := hv
  subst hsz
  have C : Cx RX5 cX5_init 2 none wsX5_init p s m _ meth c := ⟨B.exec, B.bytes, hml, B.returns, findClass_of_methodNamed B.named, atoms_spec (ws := wsX5_init) B.pre, B.notSynchronized⟩
  have hin : meth.name = "<init>" := (name_of_methodNamed B.named B.method).1
  generalize hAe : Ax (fun a => a = h0) s.heap.size = A
  have hA : ∀ q : Nat, s.heap.size ≤ q → A q := fun q h => by rw [← hAe]; exact Or.inr h
  have hAs : ∀ q : Nat, A q → st 100 ≤ q := fun q h => by
    rw [← hAe] at h
    exact h.elim (fun z => by rw [z]; exact hst) (fun z => Nat.le_trans hK.2.2.2.1 z)
  have hD : va_D A [(h0, .inr (5, [.null, .null, .int 0, .null, .int 0]))] := D_one (by rw [← hAe]; exact Or.inl rfl)
  have hS : va_S A s.heap s.heap [] := va_S.rf
  have hl := lv_entry ([.ref h0, .ref b1]) (n := 2) (Nat.le_of_ble_eq_true rfl)
  rw [lg_entry_eq]
  generalize (lg_sl ([.ref h0, .ref b1]) ++ List.replicate (2 - (lg_sl ([.ref h0, .ref b1])).length) Slot.unset).toArray = ls at hl ⊢
  have hl : lv_has ls 2 [(0, .ref h0), (1, .ref b1)] := hl
  refine lv_aload_n C.1 C.2.1 dX5_init_0 rfl (lv_at hl 0 rfl) ?_
  refine W.objInit C.1 C.2.1 C.2.2.2.2.1 (C.2.2.2.2.2.1 _ mX5_0) (C.2.2.2.2.2.1 _ mX5_1) (C.2.2.2.2.2.1 _ mX5_2) rfl (by rw [C.2.2.1]; exact hl.1) rfl dX5_init_1 (Nat.le_of_ble_eq_true rfl) (Nat.le_of_ble_eq_true rfl) ?_
  refine W.eq (g2 := F0 m 4 ls []) rfl ?_
  refine lv_aload_n C.1 C.2.1 dX5_init_4 rfl (lv_at hl 0 rfl) ?_
  refine lv_bipush (v := 121) C.1 C.2.1 dX5_init_5 (by decide) ?_
  refine va_newa (atype := .int) (a0 := (121, .inl (fun _ => 0))) (ty := .int) C.1 C.2.1 (C.2.2.2.2.2.1 _ mX5_3) rfl hK.1 hP hD hS hA (fun cA => by first | rfl | exact vp_cell_i _ _ _ | exact vp_cell_l _ _ _) (by decide) (N' := 121) rfl (Nat.le_of_ble_eq_true rfl) (Nat.le_of_ble_eq_true rfl) (Nat.le_of_ble_eq_true rfl) dX5_init_7 (fun q1 cA H hK9 hP hD hS => ?_)
  obtain rfl : cA = cy 0 := arr_same hK9 hK.1 0 rfl 5 rfl
  have hP : va_P D vwCl [(h0, .inr (5, [.null, .null, .int 0, .null, .int 0])), (q1, .inl (cy 0, 121, .inl (fun _ => 0)))] H := hP
  have hD : va_D A [(h0, .inr (5, [.null, .null, .int 0, .null, .int 0])), (q1, .inl (cy 0, 121, .inl (fun _ => 0)))] := hD
  clear hK9
  refine va_putF (D := D) (ci := 5) (v := .ref q1) (ty := .array .int) C.1 C.2.1 C.2.2.2.2.2.1 hX5_X5 tyX5 tyX5_ok nmX5 C.2.2.2.2.1 hK.1 hP hD hS 0 rfl rfl 0 (by decide) (C.2.2.2.2.2.1 _ mX5_4) (fun _ h => h) rfl hin rfl (by decide +kernel) rfl rfl (Nat.le_of_ble_eq_true rfl) dX5_init_9 (fun H locs hP hD hS => ?_)
  have hP : va_P D vwCl [(h0, .inr (5, [.ref q1, .null, .int 0, .null, .int 0])), (q1, .inl (cy 0, 121, .inl (fun _ => 0)))] H := hP
  have hD : va_D A [(h0, .inr (5, [.ref q1, .null, .int 0, .null, .int 0])), (q1, .inl (cy 0, 121, .inl (fun _ => 0)))] := hD
  refine lv_aload_n C.1 C.2.1 dX5_init_12 rfl (lv_at hl 0 rfl) ?_
  refine va_ldcS C.1 C.2.1 C.2.2.2.2.1 (hK.2.2.1 (RX5, 17, "", 3) (by decide +kernel)) dX5_init_13 ?_
  refine va_put (D := D) (ci := 5) (v := .ref (st 3)) (ty := .object "java/lang/String") C.1 C.2.1 C.2.2.2.2.2.1 hX5_X5 tyX5 tyX5_ok nmX5 C.2.2.2.2.1 hK.1 hP hD hS 0 rfl rfl 3 (by decide) (C.2.2.2.2.2.1 _ mX5_6) (fun _ h => h) rfl (by decide +kernel) rfl rfl (Nat.le_of_ble_eq_true rfl) dX5_init_15 (fun H locs hP hD hS => ?_)
  have hP : va_P D vwCl [(h0, .inr (5, [.ref q1, .null, .int 0, .ref (st 3), .int 0])), (q1, .inl (cy 0, 121, .inl (fun _ => 0)))] H := hP
  have hD : va_D A [(h0, .inr (5, [.ref q1, .null, .int 0, .ref (st 3), .int 0])), (q1, .inl (cy 0, 121, .inl (fun _ => 0)))] := hD
  refine lv_aload_n C.1 C.2.1 dX5_init_18 rfl (lv_at hl 0 rfl) ?_
  refine lv_aload_n C.1 C.2.1 dX5_init_19 rfl (lv_at hl 1 rfl) ?_
  refine va_putF (D := D) (ci := 5) (v := .ref b1) (ty := .object "HissHorn$Tape") C.1 C.2.1 C.2.2.2.2.2.1 hX5_X5 tyX5 tyX5_ok nmX5 C.2.2.2.2.1 hK.1 hP hD hS 0 rfl rfl 1 (by decide) (C.2.2.2.2.2.1 _ mX5_7) (fun _ h => h) rfl hin rfl (by decide +kernel) rfl rfl (Nat.le_of_ble_eq_true rfl) dX5_init_20 (fun H locs hP hD hS => ?_)
  have hP : va_P D vwCl [(h0, .inr (5, [.ref q1, .ref b1, .int 0, .ref (st 3), .int 0])), (q1, .inl (cy 0, 121, .inl (fun _ => 0)))] H := hP
  have hD : va_D A [(h0, .inr (5, [.ref q1, .ref b1, .int 0, .ref (st 3), .int 0])), (q1, .inl (cy 0, 121, .inl (fun _ => 0)))] := hD
  exact W.cs (cells' := 1) (slots' := 121) rfl rfl (W.vret C.1 C.2.1 C.2.2.2.1 (fun t ht _ => ⟨⟨(q1), rfl, trivial, by rw [ht]; exact hP, hD⟩, hS.F ht⟩) hS.2.2 dX5_init_23 C.2.2.2.2.2.2)

theorem zdX6_init_0 : (and (and (and (and (and (zk cX6_init 0 (.aload_n 0) 1) (zk cX6_init 1 (.invokespecial 3) 3)) (and (zk cX6_init 4 (.aload_n 0) 1) (zk cX6_init 5 (.bipush 12) 2))) (and (and (zk cX6_init 7 (.newarray .int) 2) (zk cX6_init 9 (.putfield 9) 3)) (and (zk cX6_init 12 (.aload_n 0) 1) (zk cX6_init 13 (.bipush 12) 2)))) (and (and (and (zk cX6_init 15 (.newarray .int) 2) (zk cX6_init 17 (.putfield 15) 3)) (and (zk cX6_init 20 (.aload_n 0) 1) (zk cX6_init 21 (.bipush 12) 2))) (and (and (zk cX6_init 23 (.newarray .int) 2) (zk cX6_init 25 (.putfield 18) 3)) (and (zk cX6_init 28 (.aload_n 0) 1) (zk cX6_init 29 (.bipush 12) 2))))) (and (and (and (and (zk cX6_init 31 (.newarray .int) 2) (zk cX6_init 33 (.putfield 21) 3)) (and (zk cX6_init 36 (.aload_n 0) 1) (zk cX6_init 37 (.bipush 12) 2))) (and (and (zk cX6_init 39 (.newarray .int) 2) (zk cX6_init 41 (.putfield 24) 3)) (and (zk cX6_init 44 (.aload_n 0) 1) (zk cX6_init 45 (.bipush 12) 2)))) (and (and (and (zk cX6_init 47 (.newarray .int) 2) (zk cX6_init 49 (.putfield 27) 3)) (and (zk cX6_init 52 (.aload_n 0) 1) (zk cX6_init 53 (.bipush 12) 2))) (and (and (zk cX6_init 55 (.newarray .int) 2) (zk cX6_init 57 (.putfield 30) 3)) (and (zk cX6_init 60 (.aload_n 0) 1) (zk cX6_init 61 (.bipush 30) 2)))))) = true := by decide +kernel
theorem dX6_init_0 : decode cX6_init 0 = .ok (.aload_n 0, 1) := zk_of (zk_l (zk_l (zk_l (zk_l (zk_l zdX6_init_0)))))
theorem dX6_init_1 : decode cX6_init 1 = .ok (.invokespecial 3, 3) := zk_of (zk_r (zk_l (zk_l (zk_l (zk_l zdX6_init_0)))))
theorem dX6_init_4 : decode cX6_init 4 = .ok (.aload_n 0, 1) := zk_of (zk_l (zk_r (zk_l (zk_l (zk_l zdX6_init_0)))))
theorem dX6_init_5 : decode cX6_init 5 = .ok (.bipush 12, 2) := zk_of (zk_r (zk_r (zk_l (zk_l (zk_l zdX6_init_0)))))
theorem dX6_init_7 : decode cX6_init 7 = .ok (.newarray .int, 2) := zk_of (zk_l (zk_l (zk_r (zk_l (zk_l zdX6_init_0)))))
theorem dX6_init_9 : decode cX6_init 9 = .ok (.putfield 9, 3) := zk_of (zk_r (zk_l (zk_r (zk_l (zk_l zdX6_init_0)))))
theorem dX6_init_12 : decode cX6_init 12 = .ok (.aload_n 0, 1) := zk_of (zk_l (zk_r (zk_r (zk_l (zk_l zdX6_init_0)))))
theorem dX6_init_13 : decode cX6_init 13 = .ok (.bipush 12, 2) := zk_of (zk_r (zk_r (zk_r (zk_l (zk_l zdX6_init_0)))))
theorem dX6_init_15 : decode cX6_init 15 = .ok (.newarray .int, 2) := zk_of (zk_l (zk_l (zk_l (zk_r (zk_l zdX6_init_0)))))
theorem dX6_init_17 : decode cX6_init 17 = .ok (.putfield 15, 3) := zk_of (zk_r (zk_l (zk_l (zk_r (zk_l zdX6_init_0)))))
theorem dX6_init_20 : decode cX6_init 20 = .ok (.aload_n 0, 1) := zk_of (zk_l (zk_r (zk_l (zk_r (zk_l zdX6_init_0)))))
theorem dX6_init_21 : decode cX6_init 21 = .ok (.bipush 12, 2) := zk_of (zk_r (zk_r (zk_l (zk_r (zk_l zdX6_init_0)))))
theorem dX6_init_23 : decode cX6_init 23 = .ok (.newarray .int, 2) := zk_of (zk_l (zk_l (zk_r (zk_r (zk_l zdX6_init_0)))))
theorem dX6_init_25 : decode cX6_init 25 = .ok (.putfield 18, 3) := zk_of (zk_r (zk_l (zk_r (zk_r (zk_l zdX6_init_0)))))
theorem dX6_init_28 : decode cX6_init 28 = .ok (.aload_n 0, 1) := zk_of (zk_l (zk_r (zk_r (zk_r (zk_l zdX6_init_0)))))
theorem dX6_init_29 : decode cX6_init 29 = .ok (.bipush 12, 2) := zk_of (zk_r (zk_r (zk_r (zk_r (zk_l zdX6_init_0)))))
theorem dX6_init_31 : decode cX6_init 31 = .ok (.newarray .int, 2) := zk_of (zk_l (zk_l (zk_l (zk_l (zk_r zdX6_init_0)))))
theorem dX6_init_33 : decode cX6_init 33 = .ok (.putfield 21, 3) := zk_of (zk_r (zk_l (zk_l (zk_l (zk_r zdX6_init_0)))))
theorem dX6_init_36 : decode cX6_init 36 = .ok (.aload_n 0, 1) := zk_of (zk_l (zk_r (zk_l (zk_l (zk_r zdX6_init_0)))))
theorem dX6_init_37 : decode cX6_init 37 = .ok (.bipush 12, 2) := zk_of (zk_r (zk_r (zk_l (zk_l (zk_r zdX6_init_0)))))
theorem dX6_init_39 : decode cX6_init 39 = .ok (.newarray .int, 2) := zk_of (zk_l (zk_l (zk_r (zk_l (zk_r zdX6_init_0)))))
theorem dX6_init_41 : decode cX6_init 41 = .ok (.putfield 24, 3) := zk_of (zk_r (zk_l (zk_r (zk_l (zk_r zdX6_init_0)))))
theorem dX6_init_44 : decode cX6_init 44 = .ok (.aload_n 0, 1) := zk_of (zk_l (zk_r (zk_r (zk_l (zk_r zdX6_init_0)))))
theorem dX6_init_45 : decode cX6_init 45 = .ok (.bipush 12, 2) := zk_of (zk_r (zk_r (zk_r (zk_l (zk_r zdX6_init_0)))))
theorem dX6_init_47 : decode cX6_init 47 = .ok (.newarray .int, 2) := zk_of (zk_l (zk_l (zk_l (zk_r (zk_r zdX6_init_0)))))
theorem dX6_init_49 : decode cX6_init 49 = .ok (.putfield 27, 3) := zk_of (zk_r (zk_l (zk_l (zk_r (zk_r zdX6_init_0)))))
theorem dX6_init_52 : decode cX6_init 52 = .ok (.aload_n 0, 1) := zk_of (zk_l (zk_r (zk_l (zk_r (zk_r zdX6_init_0)))))
theorem dX6_init_53 : decode cX6_init 53 = .ok (.bipush 12, 2) := zk_of (zk_r (zk_r (zk_l (zk_r (zk_r zdX6_init_0)))))
theorem dX6_init_55 : decode cX6_init 55 = .ok (.newarray .int, 2) := zk_of (zk_l (zk_l (zk_r (zk_r (zk_r zdX6_init_0)))))
theorem dX6_init_57 : decode cX6_init 57 = .ok (.putfield 30, 3) := zk_of (zk_r (zk_l (zk_r (zk_r (zk_r zdX6_init_0)))))
theorem dX6_init_60 : decode cX6_init 60 = .ok (.aload_n 0, 1) := zk_of (zk_l (zk_r (zk_r (zk_r (zk_r zdX6_init_0)))))
theorem dX6_init_61 : decode cX6_init 61 = .ok (.bipush 30, 2) := zk_of (zk_r (zk_r (zk_r (zk_r (zk_r zdX6_init_0)))))
theorem zdX6_init_63 : (and (and (and (and (and (zk cX6_init 63 (.newarray .int) 2) (zk cX6_init 65 (.putfield 33) 3)) (zk cX6_init 68 (.aload_n 0) 1)) (and (zk cX6_init 69 (.bipush 30) 2) (zk cX6_init 71 (.newarray .int) 2))) (and (and (and (zk cX6_init 73 (.putfield 36) 3) (zk cX6_init 76 (.aload_n 0) 1)) (zk cX6_init 77 (.bipush 30) 2)) (and (zk cX6_init 79 (.newarray .int) 2) (zk cX6_init 81 (.putfield 39) 3)))) (and (and (and (and (zk cX6_init 84 (.aload_n 0) 1) (zk cX6_init 85 (.bipush 30) 2)) (zk cX6_init 87 (.newarray .int) 2)) (and (zk cX6_init 89 (.putfield 42) 3) (zk cX6_init 92 (.aload_n 0) 1))) (and (and (zk cX6_init 93 (.bipush 30) 2) (zk cX6_init 95 (.newarray .boolean) 2)) (and (zk cX6_init 97 (.putfield 45) 3) (zk cX6_init 100 (.return_) 1))))) = true := by decide +kernel
theorem dX6_init_63 : decode cX6_init 63 = .ok (.newarray .int, 2) := zk_of (zk_l (zk_l (zk_l (zk_l (zk_l zdX6_init_63)))))
theorem dX6_init_65 : decode cX6_init 65 = .ok (.putfield 33, 3) := zk_of (zk_r (zk_l (zk_l (zk_l (zk_l zdX6_init_63)))))
theorem dX6_init_68 : decode cX6_init 68 = .ok (.aload_n 0, 1) := zk_of (zk_r (zk_l (zk_l (zk_l zdX6_init_63))))
theorem dX6_init_69 : decode cX6_init 69 = .ok (.bipush 30, 2) := zk_of (zk_l (zk_r (zk_l (zk_l zdX6_init_63))))
theorem dX6_init_71 : decode cX6_init 71 = .ok (.newarray .int, 2) := zk_of (zk_r (zk_r (zk_l (zk_l zdX6_init_63))))
theorem dX6_init_73 : decode cX6_init 73 = .ok (.putfield 36, 3) := zk_of (zk_l (zk_l (zk_l (zk_r (zk_l zdX6_init_63)))))
theorem dX6_init_76 : decode cX6_init 76 = .ok (.aload_n 0, 1) := zk_of (zk_r (zk_l (zk_l (zk_r (zk_l zdX6_init_63)))))
theorem dX6_init_77 : decode cX6_init 77 = .ok (.bipush 30, 2) := zk_of (zk_r (zk_l (zk_r (zk_l zdX6_init_63))))
theorem dX6_init_79 : decode cX6_init 79 = .ok (.newarray .int, 2) := zk_of (zk_l (zk_r (zk_r (zk_l zdX6_init_63))))
theorem dX6_init_81 : decode cX6_init 81 = .ok (.putfield 39, 3) := zk_of (zk_r (zk_r (zk_r (zk_l zdX6_init_63))))
theorem dX6_init_84 : decode cX6_init 84 = .ok (.aload_n 0, 1) := zk_of (zk_l (zk_l (zk_l (zk_l (zk_r zdX6_init_63)))))
theorem dX6_init_85 : decode cX6_init 85 = .ok (.bipush 30, 2) := zk_of (zk_r (zk_l (zk_l (zk_l (zk_r zdX6_init_63)))))
theorem dX6_init_87 : decode cX6_init 87 = .ok (.newarray .int, 2) := zk_of (zk_r (zk_l (zk_l (zk_r zdX6_init_63))))
theorem dX6_init_89 : decode cX6_init 89 = .ok (.putfield 42, 3) := zk_of (zk_l (zk_r (zk_l (zk_r zdX6_init_63))))
theorem dX6_init_92 : decode cX6_init 92 = .ok (.aload_n 0, 1) := zk_of (zk_r (zk_r (zk_l (zk_r zdX6_init_63))))
theorem dX6_init_93 : decode cX6_init 93 = .ok (.bipush 30, 2) := zk_of (zk_l (zk_l (zk_r (zk_r zdX6_init_63))))
theorem dX6_init_95 : decode cX6_init 95 = .ok (.newarray .boolean, 2) := zk_of (zk_r (zk_l (zk_r (zk_r zdX6_init_63))))
theorem dX6_init_97 : decode cX6_init 97 = .ok (.putfield 45, 3) := zk_of (zk_l (zk_r (zk_r (zk_r zdX6_init_63))))
theorem dX6_init_100 : decode cX6_init 100 = .ok (.return_, 1) := zk_of (zk_r (zk_r (zk_r (zk_r zdX6_init_63))))
/-- HissHorn$Parts() -/
theorem mX6_0 : Cond.methodLink RX6 3 objectInit ∈ wsX6_init := (List.mem_cons_of_mem _ (List.mem_append_left _ (List.mem_of_getElem? (i := 0) rfl)))
theorem mX6_1 : Cond.instanceMethod objectInit ∈ wsX6_init := (List.mem_cons_of_mem _ (List.mem_append_left _ (List.mem_of_getElem? (i := 1) rfl)))
theorem mX6_2 : Cond.code objectInit ⟨#[0xb1]⟩ 1 none ∈ wsX6_init := (List.mem_cons_of_mem _ (List.mem_append_left _ (List.mem_of_getElem? (i := 2) rfl)))
theorem mX6_3 : Cond.arrayClass .int ∈ wsX6_init := (List.mem_cons_of_mem _ (List.mem_append_left _ (List.mem_of_getElem? (i := 3) rfl)))
theorem mX6_4 : Cond.fieldLink RX6 9 "HissHorn$Parts" "law" "[I" ∈ wsX6_init := (List.mem_cons_of_mem _ (List.mem_append_left _ (List.mem_of_getElem? (i := 4) rfl)))
theorem hX6_X6 : ∀ w ∈ u_ws RX6 TX6 17, w ∈ wsX6_init := fun w h => (List.mem_cons_of_mem _ (List.mem_append_right _ h))
theorem mX6_6 : Cond.fieldLink RX6 15 "HissHorn$Parts" "day" "[I" ∈ wsX6_init := (List.mem_cons_of_mem _ (List.mem_append_left _ (List.mem_of_getElem? (i := 5) rfl)))
theorem mX6_7 : Cond.fieldLink RX6 18 "HissHorn$Parts" "truly" "[I" ∈ wsX6_init := (List.mem_cons_of_mem _ (List.mem_append_left _ (List.mem_of_getElem? (i := 6) rfl)))
theorem mX6_8 : Cond.fieldLink RX6 21 "HissHorn$Parts" "low" "[I" ∈ wsX6_init := (List.mem_cons_of_mem _ (List.mem_append_left _ (List.mem_of_getElem? (i := 7) rfl)))
theorem mX6_9 : Cond.fieldLink RX6 24 "HissHorn$Parts" "high" "[I" ∈ wsX6_init := (List.mem_cons_of_mem _ (List.mem_append_left _ (List.mem_of_getElem? (i := 8) rfl)))
theorem mX6_10 : Cond.fieldLink RX6 27 "HissHorn$Parts" "toldFrom" "[I" ∈ wsX6_init := (List.mem_cons_of_mem _ (List.mem_append_left _ (List.mem_of_getElem? (i := 9) rfl)))
theorem mX6_11 : Cond.fieldLink RX6 30 "HissHorn$Parts" "toldTo" "[I" ∈ wsX6_init := (List.mem_cons_of_mem _ (List.mem_append_left _ (List.mem_of_getElem? (i := 10) rfl)))
theorem mX6_12 : Cond.fieldLink RX6 33 "HissHorn$Parts" "changePart" "[I" ∈ wsX6_init := (List.mem_cons_of_mem _ (List.mem_append_left _ (List.mem_of_getElem? (i := 11) rfl)))
theorem mX6_13 : Cond.fieldLink RX6 36 "HissHorn$Parts" "changeFrom" "[I" ∈ wsX6_init := (List.mem_cons_of_mem _ (List.mem_append_left _ (List.mem_of_getElem? (i := 12) rfl)))
theorem mX6_14 : Cond.fieldLink RX6 39 "HissHorn$Parts" "changeTo" "[I" ∈ wsX6_init := (List.mem_cons_of_mem _ (List.mem_append_left _ (List.mem_of_getElem? (i := 13) rfl)))
theorem mX6_15 : Cond.fieldLink RX6 42 "HissHorn$Parts" "changeDay" "[I" ∈ wsX6_init := (List.mem_cons_of_mem _ (List.mem_append_left _ (List.mem_of_getElem? (i := 14) rfl)))
theorem mX6_16 : Cond.arrayClass .boolean ∈ wsX6_init := (List.mem_cons_of_mem _ (List.mem_append_left _ (List.mem_of_getElem? (i := 15) rfl)))
theorem mX6_17 : Cond.fieldLink RX6 45 "HissHorn$Parts" "cleaned" "[Z" ∈ wsX6_init := (List.mem_cons_of_mem _ (List.mem_append_left _ (List.mem_of_getElem? (i := 16) rfl)))
abbrev atX6 (cy : Nat → ClassId) (st : Nat → Nat) (h0 : Nat) (q : Nat × Nat × Nat × Nat × Nat × Nat × Nat × Nat × Nat × Nat × Nat × Nat) : va_W := match q with
  | (q1, q2, q3, q4, q5, q6, q7, q8, q9, q10, q11, q12) => [(h0, .inr (6, [.ref q1, .ref q2, .ref q3, .int 0, .int 0, .int 0, .int 0, .ref q4, .ref q5, .ref q6, .ref q7, .ref q8, .ref q9, .ref q10, .ref q11, .ref q12, .int 0])), (q1, .inl (cy 0, 12, .inl (fun _ => 0))), (q2, .inl (cy 0, 12, .inl (fun _ => 0))), (q3, .inl (cy 0, 12, .inl (fun _ => 0))), (q4, .inl (cy 0, 12, .inl (fun _ => 0))), (q5, .inl (cy 0, 12, .inl (fun _ => 0))), (q6, .inl (cy 0, 12, .inl (fun _ => 0))), (q7, .inl (cy 0, 12, .inl (fun _ => 0))), (q8, .inl (cy 0, 30, .inl (fun _ => 0))), (q9, .inl (cy 0, 30, .inl (fun _ => 0))), (q10, .inl (cy 0, 30, .inl (fun _ => 0))), (q11, .inl (cy 0, 30, .inl (fun _ => 0))), (q12, .inl (cy 2, 30, .inl (fun _ => 0)))]
def rmkX6 : Room := { frames := 1, cells := 12, slots := 234, locals := 12 }
set_option maxHeartbeats 8000000 in
set_option maxRecDepth 100000 in
theorem kcX6 (l : Launch) (D : va_G) (cy : Nat → ClassId) (st : Nat → Nat) (h0 sz : Nat) (hst : st 100 ≤ h0) : Met l yX6_init wsX6_init rmkX6 (va_Pc [.ref h0] (fun U => U.heap.size = sz ∧ va_P D vwCl [(h0, .inr (6, [.null, .null, .null, .int 0, .int 0, .int 0, .int 0, .null, .null, .null, .null, .null, .null, .null, .null, .null, .int 0]))] U.heap ∧ Ky D [(cy 0, .int), (cy 1, .long), (cy 2, .boolean), (cy 3, .byte), (cy 4, .object "HissHorn$Text")] st U)) (va_Qv (fun (_ : Nat × Nat × Nat × Nat × Nat × Nat × Nat × Nat × Nat × Nat × Nat × Nat) => True) (fun q t => va_P D vwCl (atX6 cy st h0 q) t.heap ∧ va_D (Ax (fun a => a = h0) sz) (atX6 cy st h0 q)) (Ax (fun a => a = h0) sz)) 12 234 (Ax (fun a => a = h0) sz) := by
  refine Met.ofW (cc := cX6_init) (maxL := 1) (ret := none) (by decide) rfl ?_
  intro p e s m args below meth c s₁ B hml hv
  obtain ⟨rfl, hsz, hP, hK⟩ := hv
  subst hsz
  have C : Cx RX6 cX6_init 1 none wsX6_init p s m _ meth c := ⟨B.exec, B.bytes, hml, B.returns, findClass_of_methodNamed B.named, atoms_spec (ws := wsX6_init) B.pre, B.notSynchronized⟩
  have hin : meth.name = "<init>" := (name_of_methodNamed B.named B.method).1
  generalize hAe : Ax (fun a => a = h0) s.heap.size = A
  have hA : ∀ q : Nat, s.heap.size ≤ q → A q := fun q h => by rw [← hAe]; exact Or.inr h
  have hAs : ∀ q : Nat, A q → st 100 ≤ q := fun q h => by
    rw [← hAe] at h
    exact h.elim (fun z => by rw [z]; exact hst) (fun z => Nat.le_trans hK.2.2.2.1 z)
  have hD : va_D A [(h0, .inr (6, [.null, .null, .null, .int 0, .int 0, .int 0, .int 0, .null, .null, .null, .null, .null, .null, .null, .null, .null, .int 0]))] := D_one (by rw [← hAe]; exact Or.inl rfl)
  have hS : va_S A s.heap s.heap [] := va_S.rf
  have hl := lv_entry ([.ref h0]) (n := 1) (Nat.le_of_ble_eq_true rfl)
  rw [lg_entry_eq]
  generalize (lg_sl ([.ref h0]) ++ List.replicate (1 - (lg_sl ([.ref h0])).length) Slot.unset).toArray = ls at hl ⊢
  have hl : lv_has ls 1 [(0, .ref h0)] := hl
  refine lv_aload_n C.1 C.2.1 dX6_init_0 rfl (lv_at hl 0 rfl) ?_
  refine W.objInit C.1 C.2.1 C.2.2.2.2.1 (C.2.2.2.2.2.1 _ mX6_0) (C.2.2.2.2.2.1 _ mX6_1) (C.2.2.2.2.2.1 _ mX6_2) rfl (by rw [C.2.2.1]; exact hl.1) rfl dX6_init_1 (Nat.le_of_ble_eq_true rfl) (Nat.le_of_ble_eq_true rfl) ?_
  refine W.eq (g2 := F0 m 4 ls []) rfl ?_
  refine lv_aload_n C.1 C.2.1 dX6_init_4 rfl (lv_at hl 0 rfl) ?_
  refine lv_bipush (v := 12) C.1 C.2.1 dX6_init_5 (by decide) ?_
  refine va_newa (atype := .int) (a0 := (12, .inl (fun _ => 0))) (ty := .int) C.1 C.2.1 (C.2.2.2.2.2.1 _ mX6_3) rfl hK.1 hP hD hS hA (fun cA => by first | rfl | exact vp_cell_i _ _ _ | exact vp_cell_l _ _ _) (by decide) (N' := 12) rfl (Nat.le_of_ble_eq_true rfl) (Nat.le_of_ble_eq_true rfl) (Nat.le_of_ble_eq_true rfl) dX6_init_7 (fun q1 cA H hK9 hP hD hS => ?_)
  obtain rfl : cA = cy 0 := arr_same hK9 hK.1 0 rfl 5 rfl
  have hP : va_P D vwCl [(h0, .inr (6, [.null, .null, .null, .int 0, .int 0, .int 0, .int 0, .null, .null, .null, .null, .null, .null, .null, .null, .null, .int 0])), (q1, .inl (cy 0, 12, .inl (fun _ => 0)))] H := hP
  have hD : va_D A [(h0, .inr (6, [.null, .null, .null, .int 0, .int 0, .int 0, .int 0, .null, .null, .null, .null, .null, .null, .null, .null, .null, .int 0])), (q1, .inl (cy 0, 12, .inl (fun _ => 0)))] := hD
  clear hK9
  refine va_putF (D := D) (ci := 6) (v := .ref q1) (ty := .array .int) C.1 C.2.1 C.2.2.2.2.2.1 hX6_X6 tyX6 tyX6_ok nmX6 C.2.2.2.2.1 hK.1 hP hD hS 0 rfl rfl 0 (by decide) (C.2.2.2.2.2.1 _ mX6_4) (fun _ h => h) rfl hin rfl (by decide +kernel) rfl rfl (Nat.le_of_ble_eq_true rfl) dX6_init_9 (fun H locs hP hD hS => ?_)
  have hP : va_P D vwCl [(h0, .inr (6, [.ref q1, .null, .null, .int 0, .int 0, .int 0, .int 0, .null, .null, .null, .null, .null, .null, .null, .null, .null, .int 0])), (q1, .inl (cy 0, 12, .inl (fun _ => 0)))] H := hP
  have hD : va_D A [(h0, .inr (6, [.ref q1, .null, .null, .int 0, .int 0, .int 0, .int 0, .null, .null, .null, .null, .null, .null, .null, .null, .null, .int 0])), (q1, .inl (cy 0, 12, .inl (fun _ => 0)))] := hD
  refine lv_aload_n C.1 C.2.1 dX6_init_12 rfl (lv_at hl 0 rfl) ?_
  refine lv_bipush (v := 12) C.1 C.2.1 dX6_init_13 (by decide) ?_
  refine va_newa (atype := .int) (a0 := (12, .inl (fun _ => 0))) (ty := .int) C.1 C.2.1 (C.2.2.2.2.2.1 _ mX6_3) rfl hK.1 hP hD hS hA (fun cA => by first | rfl | exact vp_cell_i _ _ _ | exact vp_cell_l _ _ _) (by decide) (N' := 12) rfl (Nat.le_of_ble_eq_true rfl) (Nat.le_of_ble_eq_true rfl) (Nat.le_of_ble_eq_true rfl) dX6_init_15 (fun q2 cA H hK9 hP hD hS => ?_)
  obtain rfl : cA = cy 0 := arr_same hK9 hK.1 0 rfl 5 rfl
  have hP : va_P D vwCl [(h0, .inr (6, [.ref q1, .null, .null, .int 0, .int 0, .int 0, .int 0, .null, .null, .null, .null, .null, .null, .null, .null, .null, .int 0])), (q1, .inl (cy 0, 12, .inl (fun _ => 0))), (q2, .inl (cy 0, 12, .inl (fun _ => 0)))] H := hP
  have hD : va_D A [(h0, .inr (6, [.ref q1, .null, .null, .int 0, .int 0, .int 0, .int 0, .null, .null, .null, .null, .null, .null, .null, .null, .null, .int 0])), (q1, .inl (cy 0, 12, .inl (fun _ => 0))), (q2, .inl (cy 0, 12, .inl (fun _ => 0)))] := hD
  clear hK9
  refine va_putF (D := D) (ci := 6) (v := .ref q2) (ty := .array .int) C.1 C.2.1 C.2.2.2.2.2.1 hX6_X6 tyX6 tyX6_ok nmX6 C.2.2.2.2.1 hK.1 hP hD hS 0 rfl rfl 1 (by decide) (C.2.2.2.2.2.1 _ mX6_6) (fun _ h => h) rfl hin rfl (by decide +kernel) rfl rfl (Nat.le_of_ble_eq_true rfl) dX6_init_17 (fun H locs hP hD hS => ?_)
  have hP : va_P D vwCl [(h0, .inr (6, [.ref q1, .ref q2, .null, .int 0, .int 0, .int 0, .int 0, .null, .null, .null, .null, .null, .null, .null, .null, .null, .int 0])), (q1, .inl (cy 0, 12, .inl (fun _ => 0))), (q2, .inl (cy 0, 12, .inl (fun _ => 0)))] H := hP
  have hD : va_D A [(h0, .inr (6, [.ref q1, .ref q2, .null, .int 0, .int 0, .int 0, .int 0, .null, .null, .null, .null, .null, .null, .null, .null, .null, .int 0])), (q1, .inl (cy 0, 12, .inl (fun _ => 0))), (q2, .inl (cy 0, 12, .inl (fun _ => 0)))] := hD
  refine lv_aload_n C.1 C.2.1 dX6_init_20 rfl (lv_at hl 0 rfl) ?_
  refine lv_bipush (v := 12) C.1 C.2.1 dX6_init_21 (by decide) ?_
  refine va_newa (atype := .int) (a0 := (12, .inl (fun _ => 0))) (ty := .int) C.1 C.2.1 (C.2.2.2.2.2.1 _ mX6_3) rfl hK.1 hP hD hS hA (fun cA => by first | rfl | exact vp_cell_i _ _ _ | exact vp_cell_l _ _ _) (by decide) (N' := 12) rfl (Nat.le_of_ble_eq_true rfl) (Nat.le_of_ble_eq_true rfl) (Nat.le_of_ble_eq_true rfl) dX6_init_23 (fun q3 cA H hK9 hP hD hS => ?_)
  obtain rfl : cA = cy 0 := arr_same hK9 hK.1 0 rfl 5 rfl
  have hP : va_P D vwCl [(h0, .inr (6, [.ref q1, .ref q2, .null, .int 0, .int 0, .int 0, .int 0, .null, .null, .null, .null, .null, .null, .null, .null, .null, .int 0])), (q1, .inl (cy 0, 12, .inl (fun _ => 0))), (q2, .inl (cy 0, 12, .inl (fun _ => 0))), (q3, .inl (cy 0, 12, .inl (fun _ => 0)))] H := hP
  have hD : va_D A [(h0, .inr (6, [.ref q1, .ref q2, .null, .int 0, .int 0, .int 0, .int 0, .null, .null, .null, .null, .null, .null, .null, .null, .null, .int 0])), (q1, .inl (cy 0, 12, .inl (fun _ => 0))), (q2, .inl (cy 0, 12, .inl (fun _ => 0))), (q3, .inl (cy 0, 12, .inl (fun _ => 0)))] := hD
  clear hK9
  refine va_putF (D := D) (ci := 6) (v := .ref q3) (ty := .array .int) C.1 C.2.1 C.2.2.2.2.2.1 hX6_X6 tyX6 tyX6_ok nmX6 C.2.2.2.2.1 hK.1 hP hD hS 0 rfl rfl 2 (by decide) (C.2.2.2.2.2.1 _ mX6_7) (fun _ h => h) rfl hin rfl (by decide +kernel) rfl rfl (Nat.le_of_ble_eq_true rfl) dX6_init_25 (fun H locs hP hD hS => ?_)
  have hP : va_P D vwCl [(h0, .inr (6, [.ref q1, .ref q2, .ref q3, .int 0, .int 0, .int 0, .int 0, .null, .null, .null, .null, .null, .null, .null, .null, .null, .int 0])), (q1, .inl (cy 0, 12, .inl (fun _ => 0))), (q2, .inl (cy 0, 12, .inl (fun _ => 0))), (q3, .inl (cy 0, 12, .inl (fun _ => 0)))] H := hP
  have hD : va_D A [(h0, .inr (6, [.ref q1, .ref q2, .ref q3, .int 0, .int 0, .int 0, .int 0, .null, .null, .null, .null, .null, .null, .null, .null, .null, .int 0])), (q1, .inl (cy 0, 12, .inl (fun _ => 0))), (q2, .inl (cy 0, 12, .inl (fun _ => 0))), (q3, .inl (cy 0, 12, .inl (fun _ => 0)))] := hD
  refine lv_aload_n C.1 C.2.1 dX6_init_28 rfl (lv_at hl 0 rfl) ?_
  refine lv_bipush (v := 12) C.1 C.2.1 dX6_init_29 (by decide) ?_
  refine va_newa (atype := .int) (a0 := (12, .inl (fun _ => 0))) (ty := .int) C.1 C.2.1 (C.2.2.2.2.2.1 _ mX6_3) rfl hK.1 hP hD hS hA (fun cA => by first | rfl | exact vp_cell_i _ _ _ | exact vp_cell_l _ _ _) (by decide) (N' := 12) rfl (Nat.le_of_ble_eq_true rfl) (Nat.le_of_ble_eq_true rfl) (Nat.le_of_ble_eq_true rfl) dX6_init_31 (fun q4 cA H hK9 hP hD hS => ?_)
  obtain rfl : cA = cy 0 := arr_same hK9 hK.1 0 rfl 5 rfl
  have hP : va_P D vwCl [(h0, .inr (6, [.ref q1, .ref q2, .ref q3, .int 0, .int 0, .int 0, .int 0, .null, .null, .null, .null, .null, .null, .null, .null, .null, .int 0])), (q1, .inl (cy 0, 12, .inl (fun _ => 0))), (q2, .inl (cy 0, 12, .inl (fun _ => 0))), (q3, .inl (cy 0, 12, .inl (fun _ => 0))), (q4, .inl (cy 0, 12, .inl (fun _ => 0)))] H := hP
  have hD : va_D A [(h0, .inr (6, [.ref q1, .ref q2, .ref q3, .int 0, .int 0, .int 0, .int 0, .null, .null, .null, .null, .null, .null, .null, .null, .null, .int 0])), (q1, .inl (cy 0, 12, .inl (fun _ => 0))), (q2, .inl (cy 0, 12, .inl (fun _ => 0))), (q3, .inl (cy 0, 12, .inl (fun _ => 0))), (q4, .inl (cy 0, 12, .inl (fun _ => 0)))] := hD
  clear hK9
  refine va_putF (D := D) (ci := 6) (v := .ref q4) (ty := .array .int) C.1 C.2.1 C.2.2.2.2.2.1 hX6_X6 tyX6 tyX6_ok nmX6 C.2.2.2.2.1 hK.1 hP hD hS 0 rfl rfl 7 (by decide) (C.2.2.2.2.2.1 _ mX6_8) (fun _ h => h) rfl hin rfl (by decide +kernel) rfl rfl (Nat.le_of_ble_eq_true rfl) dX6_init_33 (fun H locs hP hD hS => ?_)
  have hP : va_P D vwCl [(h0, .inr (6, [.ref q1, .ref q2, .ref q3, .int 0, .int 0, .int 0, .int 0, .ref q4, .null, .null, .null, .null, .null, .null, .null, .null, .int 0])), (q1, .inl (cy 0, 12, .inl (fun _ => 0))), (q2, .inl (cy 0, 12, .inl (fun _ => 0))), (q3, .inl (cy 0, 12, .inl (fun _ => 0))), (q4, .inl (cy 0, 12, .inl (fun _ => 0)))] H := hP
  have hD : va_D A [(h0, .inr (6, [.ref q1, .ref q2, .ref q3, .int 0, .int 0, .int 0, .int 0, .ref q4, .null, .null, .null, .null, .null, .null, .null, .null, .int 0])), (q1, .inl (cy 0, 12, .inl (fun _ => 0))), (q2, .inl (cy 0, 12, .inl (fun _ => 0))), (q3, .inl (cy 0, 12, .inl (fun _ => 0))), (q4, .inl (cy 0, 12, .inl (fun _ => 0)))] := hD
  refine lv_aload_n C.1 C.2.1 dX6_init_36 rfl (lv_at hl 0 rfl) ?_
  refine lv_bipush (v := 12) C.1 C.2.1 dX6_init_37 (by decide) ?_
  refine va_newa (atype := .int) (a0 := (12, .inl (fun _ => 0))) (ty := .int) C.1 C.2.1 (C.2.2.2.2.2.1 _ mX6_3) rfl hK.1 hP hD hS hA (fun cA => by first | rfl | exact vp_cell_i _ _ _ | exact vp_cell_l _ _ _) (by decide) (N' := 12) rfl (Nat.le_of_ble_eq_true rfl) (Nat.le_of_ble_eq_true rfl) (Nat.le_of_ble_eq_true rfl) dX6_init_39 (fun q5 cA H hK9 hP hD hS => ?_)
  obtain rfl : cA = cy 0 := arr_same hK9 hK.1 0 rfl 5 rfl
  have hP : va_P D vwCl [(h0, .inr (6, [.ref q1, .ref q2, .ref q3, .int 0, .int 0, .int 0, .int 0, .ref q4, .null, .null, .null, .null, .null, .null, .null, .null, .int 0])), (q1, .inl (cy 0, 12, .inl (fun _ => 0))), (q2, .inl (cy 0, 12, .inl (fun _ => 0))), (q3, .inl (cy 0, 12, .inl (fun _ => 0))), (q4, .inl (cy 0, 12, .inl (fun _ => 0))), (q5, .inl (cy 0, 12, .inl (fun _ => 0)))] H := hP
  have hD : va_D A [(h0, .inr (6, [.ref q1, .ref q2, .ref q3, .int 0, .int 0, .int 0, .int 0, .ref q4, .null, .null, .null, .null, .null, .null, .null, .null, .int 0])), (q1, .inl (cy 0, 12, .inl (fun _ => 0))), (q2, .inl (cy 0, 12, .inl (fun _ => 0))), (q3, .inl (cy 0, 12, .inl (fun _ => 0))), (q4, .inl (cy 0, 12, .inl (fun _ => 0))), (q5, .inl (cy 0, 12, .inl (fun _ => 0)))] := hD
  clear hK9
  refine va_putF (D := D) (ci := 6) (v := .ref q5) (ty := .array .int) C.1 C.2.1 C.2.2.2.2.2.1 hX6_X6 tyX6 tyX6_ok nmX6 C.2.2.2.2.1 hK.1 hP hD hS 0 rfl rfl 8 (by decide) (C.2.2.2.2.2.1 _ mX6_9) (fun _ h => h) rfl hin rfl (by decide +kernel) rfl rfl (Nat.le_of_ble_eq_true rfl) dX6_init_41 (fun H locs hP hD hS => ?_)
  have hP : va_P D vwCl [(h0, .inr (6, [.ref q1, .ref q2, .ref q3, .int 0, .int 0, .int 0, .int 0, .ref q4, .ref q5, .null, .null, .null, .null, .null, .null, .null, .int 0])), (q1, .inl (cy 0, 12, .inl (fun _ => 0))), (q2, .inl (cy 0, 12, .inl (fun _ => 0))), (q3, .inl (cy 0, 12, .inl (fun _ => 0))), (q4, .inl (cy 0, 12, .inl (fun _ => 0))), (q5, .inl (cy 0, 12, .inl (fun _ => 0)))] H := hP
  have hD : va_D A [(h0, .inr (6, [.ref q1, .ref q2, .ref q3, .int 0, .int 0, .int 0, .int 0, .ref q4, .ref q5, .null, .null, .null, .null, .null, .null, .null, .int 0])), (q1, .inl (cy 0, 12, .inl (fun _ => 0))), (q2, .inl (cy 0, 12, .inl (fun _ => 0))), (q3, .inl (cy 0, 12, .inl (fun _ => 0))), (q4, .inl (cy 0, 12, .inl (fun _ => 0))), (q5, .inl (cy 0, 12, .inl (fun _ => 0)))] := hD
  refine lv_aload_n C.1 C.2.1 dX6_init_44 rfl (lv_at hl 0 rfl) ?_
  refine lv_bipush (v := 12) C.1 C.2.1 dX6_init_45 (by decide) ?_
  refine va_newa (atype := .int) (a0 := (12, .inl (fun _ => 0))) (ty := .int) C.1 C.2.1 (C.2.2.2.2.2.1 _ mX6_3) rfl hK.1 hP hD hS hA (fun cA => by first | rfl | exact vp_cell_i _ _ _ | exact vp_cell_l _ _ _) (by decide) (N' := 12) rfl (Nat.le_of_ble_eq_true rfl) (Nat.le_of_ble_eq_true rfl) (Nat.le_of_ble_eq_true rfl) dX6_init_47 (fun q6 cA H hK9 hP hD hS => ?_)
  obtain rfl : cA = cy 0 := arr_same hK9 hK.1 0 rfl 5 rfl
  have hP : va_P D vwCl [(h0, .inr (6, [.ref q1, .ref q2, .ref q3, .int 0, .int 0, .int 0, .int 0, .ref q4, .ref q5, .null, .null, .null, .null, .null, .null, .null, .int 0])), (q1, .inl (cy 0, 12, .inl (fun _ => 0))), (q2, .inl (cy 0, 12, .inl (fun _ => 0))), (q3, .inl (cy 0, 12, .inl (fun _ => 0))), (q4, .inl (cy 0, 12, .inl (fun _ => 0))), (q5, .inl (cy 0, 12, .inl (fun _ => 0))), (q6, .inl (cy 0, 12, .inl (fun _ => 0)))] H := hP
  have hD : va_D A [(h0, .inr (6, [.ref q1, .ref q2, .ref q3, .int 0, .int 0, .int 0, .int 0, .ref q4, .ref q5, .null, .null, .null, .null, .null, .null, .null, .int 0])), (q1, .inl (cy 0, 12, .inl (fun _ => 0))), (q2, .inl (cy 0, 12, .inl (fun _ => 0))), (q3, .inl (cy 0, 12, .inl (fun _ => 0))), (q4, .inl (cy 0, 12, .inl (fun _ => 0))), (q5, .inl (cy 0, 12, .inl (fun _ => 0))), (q6, .inl (cy 0, 12, .inl (fun _ => 0)))] := hD
  clear hK9
  refine va_putF (D := D) (ci := 6) (v := .ref q6) (ty := .array .int) C.1 C.2.1 C.2.2.2.2.2.1 hX6_X6 tyX6 tyX6_ok nmX6 C.2.2.2.2.1 hK.1 hP hD hS 0 rfl rfl 9 (by decide) (C.2.2.2.2.2.1 _ mX6_10) (fun _ h => h) rfl hin rfl (by decide +kernel) rfl rfl (Nat.le_of_ble_eq_true rfl) dX6_init_49 (fun H locs hP hD hS => ?_)
  have hP : va_P D vwCl [(h0, .inr (6, [.ref q1, .ref q2, .ref q3, .int 0, .int 0, .int 0, .int 0, .ref q4, .ref q5, .ref q6, .null, .null, .null, .null, .null, .null, .int 0])), (q1, .inl (cy 0, 12, .inl (fun _ => 0))), (q2, .inl (cy 0, 12, .inl (fun _ => 0))), (q3, .inl (cy 0, 12, .inl (fun _ => 0))), (q4, .inl (cy 0, 12, .inl (fun _ => 0))), (q5, .inl (cy 0, 12, .inl (fun _ => 0))), (q6, .inl (cy 0, 12, .inl (fun _ => 0)))] H := hP
  have hD : va_D A [(h0, .inr (6, [.ref q1, .ref q2, .ref q3, .int 0, .int 0, .int 0, .int 0, .ref q4, .ref q5, .ref q6, .null, .null, .null, .null, .null, .null, .int 0])), (q1, .inl (cy 0, 12, .inl (fun _ => 0))), (q2, .inl (cy 0, 12, .inl (fun _ => 0))), (q3, .inl (cy 0, 12, .inl (fun _ => 0))), (q4, .inl (cy 0, 12, .inl (fun _ => 0))), (q5, .inl (cy 0, 12, .inl (fun _ => 0))), (q6, .inl (cy 0, 12, .inl (fun _ => 0)))] := hD
  refine lv_aload_n C.1 C.2.1 dX6_init_52 rfl (lv_at hl 0 rfl) ?_
  refine lv_bipush (v := 12) C.1 C.2.1 dX6_init_53 (by decide) ?_
  refine va_newa (atype := .int) (a0 := (12, .inl (fun _ => 0))) (ty := .int) C.1 C.2.1 (C.2.2.2.2.2.1 _ mX6_3) rfl hK.1 hP hD hS hA (fun cA => by first | rfl | exact vp_cell_i _ _ _ | exact vp_cell_l _ _ _) (by decide) (N' := 12) rfl (Nat.le_of_ble_eq_true rfl) (Nat.le_of_ble_eq_true rfl) (Nat.le_of_ble_eq_true rfl) dX6_init_55 (fun q7 cA H hK9 hP hD hS => ?_)
  obtain rfl : cA = cy 0 := arr_same hK9 hK.1 0 rfl 5 rfl
  have hP : va_P D vwCl [(h0, .inr (6, [.ref q1, .ref q2, .ref q3, .int 0, .int 0, .int 0, .int 0, .ref q4, .ref q5, .ref q6, .null, .null, .null, .null, .null, .null, .int 0])), (q1, .inl (cy 0, 12, .inl (fun _ => 0))), (q2, .inl (cy 0, 12, .inl (fun _ => 0))), (q3, .inl (cy 0, 12, .inl (fun _ => 0))), (q4, .inl (cy 0, 12, .inl (fun _ => 0))), (q5, .inl (cy 0, 12, .inl (fun _ => 0))), (q6, .inl (cy 0, 12, .inl (fun _ => 0))), (q7, .inl (cy 0, 12, .inl (fun _ => 0)))] H := hP
  have hD : va_D A [(h0, .inr (6, [.ref q1, .ref q2, .ref q3, .int 0, .int 0, .int 0, .int 0, .ref q4, .ref q5, .ref q6, .null, .null, .null, .null, .null, .null, .int 0])), (q1, .inl (cy 0, 12, .inl (fun _ => 0))), (q2, .inl (cy 0, 12, .inl (fun _ => 0))), (q3, .inl (cy 0, 12, .inl (fun _ => 0))), (q4, .inl (cy 0, 12, .inl (fun _ => 0))), (q5, .inl (cy 0, 12, .inl (fun _ => 0))), (q6, .inl (cy 0, 12, .inl (fun _ => 0))), (q7, .inl (cy 0, 12, .inl (fun _ => 0)))] := hD
  clear hK9
  refine va_putF (D := D) (ci := 6) (v := .ref q7) (ty := .array .int) C.1 C.2.1 C.2.2.2.2.2.1 hX6_X6 tyX6 tyX6_ok nmX6 C.2.2.2.2.1 hK.1 hP hD hS 0 rfl rfl 10 (by decide) (C.2.2.2.2.2.1 _ mX6_11) (fun _ h => h) rfl hin rfl (by decide +kernel) rfl rfl (Nat.le_of_ble_eq_true rfl) dX6_init_57 (fun H locs hP hD hS => ?_)
  have hP : va_P D vwCl [(h0, .inr (6, [.ref q1, .ref q2, .ref q3, .int 0, .int 0, .int 0, .int 0, .ref q4, .ref q5, .ref q6, .ref q7, .null, .null, .null, .null, .null, .int 0])), (q1, .inl (cy 0, 12, .inl (fun _ => 0))), (q2, .inl (cy 0, 12, .inl (fun _ => 0))), (q3, .inl (cy 0, 12, .inl (fun _ => 0))), (q4, .inl (cy 0, 12, .inl (fun _ => 0))), (q5, .inl (cy 0, 12, .inl (fun _ => 0))), (q6, .inl (cy 0, 12, .inl (fun _ => 0))), (q7, .inl (cy 0, 12, .inl (fun _ => 0)))] H := hP
  have hD : va_D A [(h0, .inr (6, [.ref q1, .ref q2, .ref q3, .int 0, .int 0, .int 0, .int 0, .ref q4, .ref q5, .ref q6, .ref q7, .null, .null, .null, .null, .null, .int 0])), (q1, .inl (cy 0, 12, .inl (fun _ => 0))), (q2, .inl (cy 0, 12, .inl (fun _ => 0))), (q3, .inl (cy 0, 12, .inl (fun _ => 0))), (q4, .inl (cy 0, 12, .inl (fun _ => 0))), (q5, .inl (cy 0, 12, .inl (fun _ => 0))), (q6, .inl (cy 0, 12, .inl (fun _ => 0))), (q7, .inl (cy 0, 12, .inl (fun _ => 0)))] := hD
  refine lv_aload_n C.1 C.2.1 dX6_init_60 rfl (lv_at hl 0 rfl) ?_
  refine lv_bipush (v := 30) C.1 C.2.1 dX6_init_61 (by decide) ?_
  refine va_newa (atype := .int) (a0 := (30, .inl (fun _ => 0))) (ty := .int) C.1 C.2.1 (C.2.2.2.2.2.1 _ mX6_3) rfl hK.1 hP hD hS hA (fun cA => by first | rfl | exact vp_cell_i _ _ _ | exact vp_cell_l _ _ _) (by decide) (N' := 30) rfl (Nat.le_of_ble_eq_true rfl) (Nat.le_of_ble_eq_true rfl) (Nat.le_of_ble_eq_true rfl) dX6_init_63 (fun q8 cA H hK9 hP hD hS => ?_)
  obtain rfl : cA = cy 0 := arr_same hK9 hK.1 0 rfl 5 rfl
  have hP : va_P D vwCl [(h0, .inr (6, [.ref q1, .ref q2, .ref q3, .int 0, .int 0, .int 0, .int 0, .ref q4, .ref q5, .ref q6, .ref q7, .null, .null, .null, .null, .null, .int 0])), (q1, .inl (cy 0, 12, .inl (fun _ => 0))), (q2, .inl (cy 0, 12, .inl (fun _ => 0))), (q3, .inl (cy 0, 12, .inl (fun _ => 0))), (q4, .inl (cy 0, 12, .inl (fun _ => 0))), (q5, .inl (cy 0, 12, .inl (fun _ => 0))), (q6, .inl (cy 0, 12, .inl (fun _ => 0))), (q7, .inl (cy 0, 12, .inl (fun _ => 0))), (q8, .inl (cy 0, 30, .inl (fun _ => 0)))] H := hP
  have hD : va_D A [(h0, .inr (6, [.ref q1, .ref q2, .ref q3, .int 0, .int 0, .int 0, .int 0, .ref q4, .ref q5, .ref q6, .ref q7, .null, .null, .null, .null, .null, .int 0])), (q1, .inl (cy 0, 12, .inl (fun _ => 0))), (q2, .inl (cy 0, 12, .inl (fun _ => 0))), (q3, .inl (cy 0, 12, .inl (fun _ => 0))), (q4, .inl (cy 0, 12, .inl (fun _ => 0))), (q5, .inl (cy 0, 12, .inl (fun _ => 0))), (q6, .inl (cy 0, 12, .inl (fun _ => 0))), (q7, .inl (cy 0, 12, .inl (fun _ => 0))), (q8, .inl (cy 0, 30, .inl (fun _ => 0)))] := hD
  clear hK9
  refine va_putF (D := D) (ci := 6) (v := .ref q8) (ty := .array .int) C.1 C.2.1 C.2.2.2.2.2.1 hX6_X6 tyX6 tyX6_ok nmX6 C.2.2.2.2.1 hK.1 hP hD hS 0 rfl rfl 11 (by decide) (C.2.2.2.2.2.1 _ mX6_12) (fun _ h => h) rfl hin rfl (by decide +kernel) rfl rfl (Nat.le_of_ble_eq_true rfl) dX6_init_65 (fun H locs hP hD hS => ?_)
  have hP : va_P D vwCl [(h0, .inr (6, [.ref q1, .ref q2, .ref q3, .int 0, .int 0, .int 0, .int 0, .ref q4, .ref q5, .ref q6, .ref q7, .ref q8, .null, .null, .null, .null, .int 0])), (q1, .inl (cy 0, 12, .inl (fun _ => 0))), (q2, .inl (cy 0, 12, .inl (fun _ => 0))), (q3, .inl (cy 0, 12, .inl (fun _ => 0))), (q4, .inl (cy 0, 12, .inl (fun _ => 0))), (q5, .inl (cy 0, 12, .inl (fun _ => 0))), (q6, .inl (cy 0, 12, .inl (fun _ => 0))), (q7, .inl (cy 0, 12, .inl (fun _ => 0))), (q8, .inl (cy 0, 30, .inl (fun _ => 0)))] H := hP
  have hD : va_D A [(h0, .inr (6, [.ref q1, .ref q2, .ref q3, .int 0, .int 0, .int 0, .int 0, .ref q4, .ref q5, .ref q6, .ref q7, .ref q8, .null, .null, .null, .null, .int 0])), (q1, .inl (cy 0, 12, .inl (fun _ => 0))), (q2, .inl (cy 0, 12, .inl (fun _ => 0))), (q3, .inl (cy 0, 12, .inl (fun _ => 0))), (q4, .inl (cy 0, 12, .inl (fun _ => 0))), (q5, .inl (cy 0, 12, .inl (fun _ => 0))), (q6, .inl (cy 0, 12, .inl (fun _ => 0))), (q7, .inl (cy 0, 12, .inl (fun _ => 0))), (q8, .inl (cy 0, 30, .inl (fun _ => 0)))] := hD
  refine lv_aload_n C.1 C.2.1 dX6_init_68 rfl (lv_at hl 0 rfl) ?_
  refine lv_bipush (v := 30) C.1 C.2.1 dX6_init_69 (by decide) ?_
  refine va_newa (atype := .int) (a0 := (30, .inl (fun _ => 0))) (ty := .int) C.1 C.2.1 (C.2.2.2.2.2.1 _ mX6_3) rfl hK.1 hP hD hS hA (fun cA => by first | rfl | exact vp_cell_i _ _ _ | exact vp_cell_l _ _ _) (by decide) (N' := 30) rfl (Nat.le_of_ble_eq_true rfl) (Nat.le_of_ble_eq_true rfl) (Nat.le_of_ble_eq_true rfl) dX6_init_71 (fun q9 cA H hK9 hP hD hS => ?_)
  obtain rfl : cA = cy 0 := arr_same hK9 hK.1 0 rfl 5 rfl
  have hP : va_P D vwCl [(h0, .inr (6, [.ref q1, .ref q2, .ref q3, .int 0, .int 0, .int 0, .int 0, .ref q4, .ref q5, .ref q6, .ref q7, .ref q8, .null, .null, .null, .null, .int 0])), (q1, .inl (cy 0, 12, .inl (fun _ => 0))), (q2, .inl (cy 0, 12, .inl (fun _ => 0))), (q3, .inl (cy 0, 12, .inl (fun _ => 0))), (q4, .inl (cy 0, 12, .inl (fun _ => 0))), (q5, .inl (cy 0, 12, .inl (fun _ => 0))), (q6, .inl (cy 0, 12, .inl (fun _ => 0))), (q7, .inl (cy 0, 12, .inl (fun _ => 0))), (q8, .inl (cy 0, 30, .inl (fun _ => 0))), (q9, .inl (cy 0, 30, .inl (fun _ => 0)))] H := hP
  have hD : va_D A [(h0, .inr (6, [.ref q1, .ref q2, .ref q3, .int 0, .int 0, .int 0, .int 0, .ref q4, .ref q5, .ref q6, .ref q7, .ref q8, .null, .null, .null, .null, .int 0])), (q1, .inl (cy 0, 12, .inl (fun _ => 0))), (q2, .inl (cy 0, 12, .inl (fun _ => 0))), (q3, .inl (cy 0, 12, .inl (fun _ => 0))), (q4, .inl (cy 0, 12, .inl (fun _ => 0))), (q5, .inl (cy 0, 12, .inl (fun _ => 0))), (q6, .inl (cy 0, 12, .inl (fun _ => 0))), (q7, .inl (cy 0, 12, .inl (fun _ => 0))), (q8, .inl (cy 0, 30, .inl (fun _ => 0))), (q9, .inl (cy 0, 30, .inl (fun _ => 0)))] := hD
  clear hK9
  refine va_putF (D := D) (ci := 6) (v := .ref q9) (ty := .array .int) C.1 C.2.1 C.2.2.2.2.2.1 hX6_X6 tyX6 tyX6_ok nmX6 C.2.2.2.2.1 hK.1 hP hD hS 0 rfl rfl 12 (by decide) (C.2.2.2.2.2.1 _ mX6_13) (fun _ h => h) rfl hin rfl (by decide +kernel) rfl rfl (Nat.le_of_ble_eq_true rfl) dX6_init_73 (fun H locs hP hD hS => ?_)
  have hP : va_P D vwCl [(h0, .inr (6, [.ref q1, .ref q2, .ref q3, .int 0, .int 0, .int 0, .int 0, .ref q4, .ref q5, .ref q6, .ref q7, .ref q8, .ref q9, .null, .null, .null, .int 0])), (q1, .inl (cy 0, 12, .inl (fun _ => 0))), (q2, .inl (cy 0, 12, .inl (fun _ => 0))), (q3, .inl (cy 0, 12, .inl (fun _ => 0))), (q4, .inl (cy 0, 12, .inl (fun _ => 0))), (q5, .inl (cy 0, 12, .inl (fun _ => 0))), (q6, .inl (cy 0, 12, .inl (fun _ => 0))), (q7, .inl (cy 0, 12, .inl (fun _ => 0))), (q8, .inl (cy 0, 30, .inl (fun _ => 0))), (q9, .inl (cy 0, 30, .inl (fun _ => 0)))] H := hP
  have hD : va_D A [(h0, .inr (6, [.ref q1, .ref q2, .ref q3, .int 0, .int 0, .int 0, .int 0, .ref q4, .ref q5, .ref q6, .ref q7, .ref q8, .ref q9, .null, .null, .null, .int 0])), (q1, .inl (cy 0, 12, .inl (fun _ => 0))), (q2, .inl (cy 0, 12, .inl (fun _ => 0))), (q3, .inl (cy 0, 12, .inl (fun _ => 0))), (q4, .inl (cy 0, 12, .inl (fun _ => 0))), (q5, .inl (cy 0, 12, .inl (fun _ => 0))), (q6, .inl (cy 0, 12, .inl (fun _ => 0))), (q7, .inl (cy 0, 12, .inl (fun _ => 0))), (q8, .inl (cy 0, 30, .inl (fun _ => 0))), (q9, .inl (cy 0, 30, .inl (fun _ => 0)))] := hD
  refine lv_aload_n C.1 C.2.1 dX6_init_76 rfl (lv_at hl 0 rfl) ?_
  refine lv_bipush (v := 30) C.1 C.2.1 dX6_init_77 (by decide) ?_
  refine va_newa (atype := .int) (a0 := (30, .inl (fun _ => 0))) (ty := .int) C.1 C.2.1 (C.2.2.2.2.2.1 _ mX6_3) rfl hK.1 hP hD hS hA (fun cA => by first | rfl | exact vp_cell_i _ _ _ | exact vp_cell_l _ _ _) (by decide) (N' := 30) rfl (Nat.le_of_ble_eq_true rfl) (Nat.le_of_ble_eq_true rfl) (Nat.le_of_ble_eq_true rfl) dX6_init_79 (fun q10 cA H hK9 hP hD hS => ?_)
  obtain rfl : cA = cy 0 := arr_same hK9 hK.1 0 rfl 5 rfl
  have hP : va_P D vwCl [(h0, .inr (6, [.ref q1, .ref q2, .ref q3, .int 0, .int 0, .int 0, .int 0, .ref q4, .ref q5, .ref q6, .ref q7, .ref q8, .ref q9, .null, .null, .null, .int 0])), (q1, .inl (cy 0, 12, .inl (fun _ => 0))), (q2, .inl (cy 0, 12, .inl (fun _ => 0))), (q3, .inl (cy 0, 12, .inl (fun _ => 0))), (q4, .inl (cy 0, 12, .inl (fun _ => 0))), (q5, .inl (cy 0, 12, .inl (fun _ => 0))), (q6, .inl (cy 0, 12, .inl (fun _ => 0))), (q7, .inl (cy 0, 12, .inl (fun _ => 0))), (q8, .inl (cy 0, 30, .inl (fun _ => 0))), (q9, .inl (cy 0, 30, .inl (fun _ => 0))), (q10, .inl (cy 0, 30, .inl (fun _ => 0)))] H := hP
  have hD : va_D A [(h0, .inr (6, [.ref q1, .ref q2, .ref q3, .int 0, .int 0, .int 0, .int 0, .ref q4, .ref q5, .ref q6, .ref q7, .ref q8, .ref q9, .null, .null, .null, .int 0])), (q1, .inl (cy 0, 12, .inl (fun _ => 0))), (q2, .inl (cy 0, 12, .inl (fun _ => 0))), (q3, .inl (cy 0, 12, .inl (fun _ => 0))), (q4, .inl (cy 0, 12, .inl (fun _ => 0))), (q5, .inl (cy 0, 12, .inl (fun _ => 0))), (q6, .inl (cy 0, 12, .inl (fun _ => 0))), (q7, .inl (cy 0, 12, .inl (fun _ => 0))), (q8, .inl (cy 0, 30, .inl (fun _ => 0))), (q9, .inl (cy 0, 30, .inl (fun _ => 0))), (q10, .inl (cy 0, 30, .inl (fun _ => 0)))] := hD
  clear hK9
  refine va_putF (D := D) (ci := 6) (v := .ref q10) (ty := .array .int) C.1 C.2.1 C.2.2.2.2.2.1 hX6_X6 tyX6 tyX6_ok nmX6 C.2.2.2.2.1 hK.1 hP hD hS 0 rfl rfl 13 (by decide) (C.2.2.2.2.2.1 _ mX6_14) (fun _ h => h) rfl hin rfl (by decide +kernel) rfl rfl (Nat.le_of_ble_eq_true rfl) dX6_init_81 (fun H locs hP hD hS => ?_)
  have hP : va_P D vwCl [(h0, .inr (6, [.ref q1, .ref q2, .ref q3, .int 0, .int 0, .int 0, .int 0, .ref q4, .ref q5, .ref q6, .ref q7, .ref q8, .ref q9, .ref q10, .null, .null, .int 0])), (q1, .inl (cy 0, 12, .inl (fun _ => 0))), (q2, .inl (cy 0, 12, .inl (fun _ => 0))), (q3, .inl (cy 0, 12, .inl (fun _ => 0))), (q4, .inl (cy 0, 12, .inl (fun _ => 0))), (q5, .inl (cy 0, 12, .inl (fun _ => 0))), (q6, .inl (cy 0, 12, .inl (fun _ => 0))), (q7, .inl (cy 0, 12, .inl (fun _ => 0))), (q8, .inl (cy 0, 30, .inl (fun _ => 0))), (q9, .inl (cy 0, 30, .inl (fun _ => 0))), (q10, .inl (cy 0, 30, .inl (fun _ => 0)))] H := hP
  have hD : va_D A [(h0, .inr (6, [.ref q1, .ref q2, .ref q3, .int 0, .int 0, .int 0, .int 0, .ref q4, .ref q5, .ref q6, .ref q7, .ref q8, .ref q9, .ref q10, .null, .null, .int 0])), (q1, .inl (cy 0, 12, .inl (fun _ => 0))), (q2, .inl (cy 0, 12, .inl (fun _ => 0))), (q3, .inl (cy 0, 12, .inl (fun _ => 0))), (q4, .inl (cy 0, 12, .inl (fun _ => 0))), (q5, .inl (cy 0, 12, .inl (fun _ => 0))), (q6, .inl (cy 0, 12, .inl (fun _ => 0))), (q7, .inl (cy 0, 12, .inl (fun _ => 0))), (q8, .inl (cy 0, 30, .inl (fun _ => 0))), (q9, .inl (cy 0, 30, .inl (fun _ => 0))), (q10, .inl (cy 0, 30, .inl (fun _ => 0)))] := hD
  refine lv_aload_n C.1 C.2.1 dX6_init_84 rfl (lv_at hl 0 rfl) ?_
  refine lv_bipush (v := 30) C.1 C.2.1 dX6_init_85 (by decide) ?_
  refine va_newa (atype := .int) (a0 := (30, .inl (fun _ => 0))) (ty := .int) C.1 C.2.1 (C.2.2.2.2.2.1 _ mX6_3) rfl hK.1 hP hD hS hA (fun cA => by first | rfl | exact vp_cell_i _ _ _ | exact vp_cell_l _ _ _) (by decide) (N' := 30) rfl (Nat.le_of_ble_eq_true rfl) (Nat.le_of_ble_eq_true rfl) (Nat.le_of_ble_eq_true rfl) dX6_init_87 (fun q11 cA H hK9 hP hD hS => ?_)
  obtain rfl : cA = cy 0 := arr_same hK9 hK.1 0 rfl 5 rfl
  have hP : va_P D vwCl [(h0, .inr (6, [.ref q1, .ref q2, .ref q3, .int 0, .int 0, .int 0, .int 0, .ref q4, .ref q5, .ref q6, .ref q7, .ref q8, .ref q9, .ref q10, .null, .null, .int 0])), (q1, .inl (cy 0, 12, .inl (fun _ => 0))), (q2, .inl (cy 0, 12, .inl (fun _ => 0))), (q3, .inl (cy 0, 12, .inl (fun _ => 0))), (q4, .inl (cy 0, 12, .inl (fun _ => 0))), (q5, .inl (cy 0, 12, .inl (fun _ => 0))), (q6, .inl (cy 0, 12, .inl (fun _ => 0))), (q7, .inl (cy 0, 12, .inl (fun _ => 0))), (q8, .inl (cy 0, 30, .inl (fun _ => 0))), (q9, .inl (cy 0, 30, .inl (fun _ => 0))), (q10, .inl (cy 0, 30, .inl (fun _ => 0))), (q11, .inl (cy 0, 30, .inl (fun _ => 0)))] H := hP
  have hD : va_D A [(h0, .inr (6, [.ref q1, .ref q2, .ref q3, .int 0, .int 0, .int 0, .int 0, .ref q4, .ref q5, .ref q6, .ref q7, .ref q8, .ref q9, .ref q10, .null, .null, .int 0])), (q1, .inl (cy 0, 12, .inl (fun _ => 0))), (q2, .inl (cy 0, 12, .inl (fun _ => 0))), (q3, .inl (cy 0, 12, .inl (fun _ => 0))), (q4, .inl (cy 0, 12, .inl (fun _ => 0))), (q5, .inl (cy 0, 12, .inl (fun _ => 0))), (q6, .inl (cy 0, 12, .inl (fun _ => 0))), (q7, .inl (cy 0, 12, .inl (fun _ => 0))), (q8, .inl (cy 0, 30, .inl (fun _ => 0))), (q9, .inl (cy 0, 30, .inl (fun _ => 0))), (q10, .inl (cy 0, 30, .inl (fun _ => 0))), (q11, .inl (cy 0, 30, .inl (fun _ => 0)))] := hD
  clear hK9
  refine va_putF (D := D) (ci := 6) (v := .ref q11) (ty := .array .int) C.1 C.2.1 C.2.2.2.2.2.1 hX6_X6 tyX6 tyX6_ok nmX6 C.2.2.2.2.1 hK.1 hP hD hS 0 rfl rfl 14 (by decide) (C.2.2.2.2.2.1 _ mX6_15) (fun _ h => h) rfl hin rfl (by decide +kernel) rfl rfl (Nat.le_of_ble_eq_true rfl) dX6_init_89 (fun H locs hP hD hS => ?_)
  have hP : va_P D vwCl [(h0, .inr (6, [.ref q1, .ref q2, .ref q3, .int 0, .int 0, .int 0, .int 0, .ref q4, .ref q5, .ref q6, .ref q7, .ref q8, .ref q9, .ref q10, .ref q11, .null, .int 0])), (q1, .inl (cy 0, 12, .inl (fun _ => 0))), (q2, .inl (cy 0, 12, .inl (fun _ => 0))), (q3, .inl (cy 0, 12, .inl (fun _ => 0))), (q4, .inl (cy 0, 12, .inl (fun _ => 0))), (q5, .inl (cy 0, 12, .inl (fun _ => 0))), (q6, .inl (cy 0, 12, .inl (fun _ => 0))), (q7, .inl (cy 0, 12, .inl (fun _ => 0))), (q8, .inl (cy 0, 30, .inl (fun _ => 0))), (q9, .inl (cy 0, 30, .inl (fun _ => 0))), (q10, .inl (cy 0, 30, .inl (fun _ => 0))), (q11, .inl (cy 0, 30, .inl (fun _ => 0)))] H := hP
  have hD : va_D A [(h0, .inr (6, [.ref q1, .ref q2, .ref q3, .int 0, .int 0, .int 0, .int 0, .ref q4, .ref q5, .ref q6, .ref q7, .ref q8, .ref q9, .ref q10, .ref q11, .null, .int 0])), (q1, .inl (cy 0, 12, .inl (fun _ => 0))), (q2, .inl (cy 0, 12, .inl (fun _ => 0))), (q3, .inl (cy 0, 12, .inl (fun _ => 0))), (q4, .inl (cy 0, 12, .inl (fun _ => 0))), (q5, .inl (cy 0, 12, .inl (fun _ => 0))), (q6, .inl (cy 0, 12, .inl (fun _ => 0))), (q7, .inl (cy 0, 12, .inl (fun _ => 0))), (q8, .inl (cy 0, 30, .inl (fun _ => 0))), (q9, .inl (cy 0, 30, .inl (fun _ => 0))), (q10, .inl (cy 0, 30, .inl (fun _ => 0))), (q11, .inl (cy 0, 30, .inl (fun _ => 0)))] := hD
  refine lv_aload_n C.1 C.2.1 dX6_init_92 rfl (lv_at hl 0 rfl) ?_
  refine lv_bipush (v := 30) C.1 C.2.1 dX6_init_93 (by decide) ?_
  refine va_newa (atype := .boolean) (a0 := (30, .inl (fun _ => 0))) (ty := .boolean) C.1 C.2.1 (C.2.2.2.2.2.1 _ mX6_16) rfl hK.1 hP hD hS hA (fun cA => by first | rfl | exact vp_cell_i _ _ _ | exact vp_cell_l _ _ _) (by decide) (N' := 30) rfl (Nat.le_of_ble_eq_true rfl) (Nat.le_of_ble_eq_true rfl) (Nat.le_of_ble_eq_true rfl) dX6_init_95 (fun q12 cA H hK9 hP hD hS => ?_)
  obtain rfl : cA = cy 2 := arr_same hK9 hK.1 2 rfl 5 rfl
  have hP : va_P D vwCl [(h0, .inr (6, [.ref q1, .ref q2, .ref q3, .int 0, .int 0, .int 0, .int 0, .ref q4, .ref q5, .ref q6, .ref q7, .ref q8, .ref q9, .ref q10, .ref q11, .null, .int 0])), (q1, .inl (cy 0, 12, .inl (fun _ => 0))), (q2, .inl (cy 0, 12, .inl (fun _ => 0))), (q3, .inl (cy 0, 12, .inl (fun _ => 0))), (q4, .inl (cy 0, 12, .inl (fun _ => 0))), (q5, .inl (cy 0, 12, .inl (fun _ => 0))), (q6, .inl (cy 0, 12, .inl (fun _ => 0))), (q7, .inl (cy 0, 12, .inl (fun _ => 0))), (q8, .inl (cy 0, 30, .inl (fun _ => 0))), (q9, .inl (cy 0, 30, .inl (fun _ => 0))), (q10, .inl (cy 0, 30, .inl (fun _ => 0))), (q11, .inl (cy 0, 30, .inl (fun _ => 0))), (q12, .inl (cy 2, 30, .inl (fun _ => 0)))] H := hP
  have hD : va_D A [(h0, .inr (6, [.ref q1, .ref q2, .ref q3, .int 0, .int 0, .int 0, .int 0, .ref q4, .ref q5, .ref q6, .ref q7, .ref q8, .ref q9, .ref q10, .ref q11, .null, .int 0])), (q1, .inl (cy 0, 12, .inl (fun _ => 0))), (q2, .inl (cy 0, 12, .inl (fun _ => 0))), (q3, .inl (cy 0, 12, .inl (fun _ => 0))), (q4, .inl (cy 0, 12, .inl (fun _ => 0))), (q5, .inl (cy 0, 12, .inl (fun _ => 0))), (q6, .inl (cy 0, 12, .inl (fun _ => 0))), (q7, .inl (cy 0, 12, .inl (fun _ => 0))), (q8, .inl (cy 0, 30, .inl (fun _ => 0))), (q9, .inl (cy 0, 30, .inl (fun _ => 0))), (q10, .inl (cy 0, 30, .inl (fun _ => 0))), (q11, .inl (cy 0, 30, .inl (fun _ => 0))), (q12, .inl (cy 2, 30, .inl (fun _ => 0)))] := hD
  clear hK9
  refine va_putF (D := D) (ci := 6) (v := .ref q12) (ty := .array .boolean) C.1 C.2.1 C.2.2.2.2.2.1 hX6_X6 tyX6 tyX6_ok nmX6 C.2.2.2.2.1 hK.1 hP hD hS 0 rfl rfl 15 (by decide) (C.2.2.2.2.2.1 _ mX6_17) (fun _ h => h) rfl hin rfl (by decide +kernel) rfl rfl (Nat.le_of_ble_eq_true rfl) dX6_init_97 (fun H locs hP hD hS => ?_)
  have hP : va_P D vwCl [(h0, .inr (6, [.ref q1, .ref q2, .ref q3, .int 0, .int 0, .int 0, .int 0, .ref q4, .ref q5, .ref q6, .ref q7, .ref q8, .ref q9, .ref q10, .ref q11, .ref q12, .int 0])), (q1, .inl (cy 0, 12, .inl (fun _ => 0))), (q2, .inl (cy 0, 12, .inl (fun _ => 0))), (q3, .inl (cy 0, 12, .inl (fun _ => 0))), (q4, .inl (cy 0, 12, .inl (fun _ => 0))), (q5, .inl (cy 0, 12, .inl (fun _ => 0))), (q6, .inl (cy 0, 12, .inl (fun _ => 0))), (q7, .inl (cy 0, 12, .inl (fun _ => 0))), (q8, .inl (cy 0, 30, .inl (fun _ => 0))), (q9, .inl (cy 0, 30, .inl (fun _ => 0))), (q10, .inl (cy 0, 30, .inl (fun _ => 0))), (q11, .inl (cy 0, 30, .inl (fun _ => 0))), (q12, .inl (cy 2, 30, .inl (fun _ => 0)))] H := hP
  have hD : va_D A [(h0, .inr (6, [.ref q1, .ref q2, .ref q3, .int 0, .int 0, .int 0, .int 0, .ref q4, .ref q5, .ref q6, .ref q7, .ref q8, .ref q9, .ref q10, .ref q11, .ref q12, .int 0])), (q1, .inl (cy 0, 12, .inl (fun _ => 0))), (q2, .inl (cy 0, 12, .inl (fun _ => 0))), (q3, .inl (cy 0, 12, .inl (fun _ => 0))), (q4, .inl (cy 0, 12, .inl (fun _ => 0))), (q5, .inl (cy 0, 12, .inl (fun _ => 0))), (q6, .inl (cy 0, 12, .inl (fun _ => 0))), (q7, .inl (cy 0, 12, .inl (fun _ => 0))), (q8, .inl (cy 0, 30, .inl (fun _ => 0))), (q9, .inl (cy 0, 30, .inl (fun _ => 0))), (q10, .inl (cy 0, 30, .inl (fun _ => 0))), (q11, .inl (cy 0, 30, .inl (fun _ => 0))), (q12, .inl (cy 2, 30, .inl (fun _ => 0)))] := hD
  exact W.cs (cells' := 12) (slots' := 234) rfl rfl (W.vret C.1 C.2.1 C.2.2.2.1 (fun t ht _ => ⟨⟨(q1, q2, q3, q4, q5, q6, q7, q8, q9, q10, q11, q12), rfl, trivial, by rw [ht]; exact hP, hD⟩, hS.F ht⟩) hS.2.2 dX6_init_100 C.2.2.2.2.2.2)

theorem zdX1_init_0 : (and (and (and (and (and (zk cX1_init 0 (.aload_n 0) 1) (zk cX1_init 1 (.invokespecial 3) 3)) (and (zk cX1_init 4 (.aload_n 0) 1) (zk cX1_init 5 (.bipush 41) 2))) (and (and (zk cX1_init 7 (.newarray .long) 2) (zk cX1_init 9 (.putfield 11) 3)) (zk cX1_init 12 (.aload_n 0) 1))) (and (and (and (zk cX1_init 13 (.bipush 41) 2) (zk cX1_init 15 (.newarray .int) 2)) (zk cX1_init 17 (.putfield 15) 3)) (and (and (zk cX1_init 20 (.aload_n 0) 1) (zk cX1_init 21 (.bipush 41) 2)) (zk cX1_init 23 (.newarray .int) 2)))) (and (and (and (and (zk cX1_init 25 (.putfield 19) 3) (zk cX1_init 28 (.aload_n 0) 1)) (zk cX1_init 29 (.bipush 41) 2)) (and (and (zk cX1_init 31 (.newarray .int) 2) (zk cX1_init 33 (.putfield 22) 3)) (zk cX1_init 36 (.aload_n 0) 1))) (and (and (and (zk cX1_init 37 (.aload_n 1) 1) (zk cX1_init 38 (.putfield 25) 3)) (zk cX1_init 41 (.aload_n 0) 1)) (and (and (zk cX1_init 42 (.aload_n 2) 1) (zk cX1_init 43 (.putfield 29) 3)) (zk cX1_init 46 (.return_) 1))))) = true := by decide +kernel
theorem dX1_init_0 : decode cX1_init 0 = .ok (.aload_n 0, 1) := zk_of (zk_l (zk_l (zk_l (zk_l (zk_l zdX1_init_0)))))
theorem dX1_init_1 : decode cX1_init 1 = .ok (.invokespecial 3, 3) := zk_of (zk_r (zk_l (zk_l (zk_l (zk_l zdX1_init_0)))))
theorem dX1_init_4 : decode cX1_init 4 = .ok (.aload_n 0, 1) := zk_of (zk_l (zk_r (zk_l (zk_l (zk_l zdX1_init_0)))))
theorem dX1_init_5 : decode cX1_init 5 = .ok (.bipush 41, 2) := zk_of (zk_r (zk_r (zk_l (zk_l (zk_l zdX1_init_0)))))
theorem dX1_init_7 : decode cX1_init 7 = .ok (.newarray .long, 2) := zk_of (zk_l (zk_l (zk_r (zk_l (zk_l zdX1_init_0)))))
theorem dX1_init_9 : decode cX1_init 9 = .ok (.putfield 11, 3) := zk_of (zk_r (zk_l (zk_r (zk_l (zk_l zdX1_init_0)))))
theorem dX1_init_12 : decode cX1_init 12 = .ok (.aload_n 0, 1) := zk_of (zk_r (zk_r (zk_l (zk_l zdX1_init_0))))
theorem dX1_init_13 : decode cX1_init 13 = .ok (.bipush 41, 2) := zk_of (zk_l (zk_l (zk_l (zk_r (zk_l zdX1_init_0)))))
theorem dX1_init_15 : decode cX1_init 15 = .ok (.newarray .int, 2) := zk_of (zk_r (zk_l (zk_l (zk_r (zk_l zdX1_init_0)))))
theorem dX1_init_17 : decode cX1_init 17 = .ok (.putfield 15, 3) := zk_of (zk_r (zk_l (zk_r (zk_l zdX1_init_0))))
theorem dX1_init_20 : decode cX1_init 20 = .ok (.aload_n 0, 1) := zk_of (zk_l (zk_l (zk_r (zk_r (zk_l zdX1_init_0)))))
theorem dX1_init_21 : decode cX1_init 21 = .ok (.bipush 41, 2) := zk_of (zk_r (zk_l (zk_r (zk_r (zk_l zdX1_init_0)))))
theorem dX1_init_23 : decode cX1_init 23 = .ok (.newarray .int, 2) := zk_of (zk_r (zk_r (zk_r (zk_l zdX1_init_0))))
theorem dX1_init_25 : decode cX1_init 25 = .ok (.putfield 19, 3) := zk_of (zk_l (zk_l (zk_l (zk_l (zk_r zdX1_init_0)))))
theorem dX1_init_28 : decode cX1_init 28 = .ok (.aload_n 0, 1) := zk_of (zk_r (zk_l (zk_l (zk_l (zk_r zdX1_init_0)))))
theorem dX1_init_29 : decode cX1_init 29 = .ok (.bipush 41, 2) := zk_of (zk_r (zk_l (zk_l (zk_r zdX1_init_0))))
theorem dX1_init_31 : decode cX1_init 31 = .ok (.newarray .int, 2) := zk_of (zk_l (zk_l (zk_r (zk_l (zk_r zdX1_init_0)))))
theorem dX1_init_33 : decode cX1_init 33 = .ok (.putfield 22, 3) := zk_of (zk_r (zk_l (zk_r (zk_l (zk_r zdX1_init_0)))))
theorem dX1_init_36 : decode cX1_init 36 = .ok (.aload_n 0, 1) := zk_of (zk_r (zk_r (zk_l (zk_r zdX1_init_0))))
theorem dX1_init_37 : decode cX1_init 37 = .ok (.aload_n 1, 1) := zk_of (zk_l (zk_l (zk_l (zk_r (zk_r zdX1_init_0)))))
theorem dX1_init_38 : decode cX1_init 38 = .ok (.putfield 25, 3) := zk_of (zk_r (zk_l (zk_l (zk_r (zk_r zdX1_init_0)))))
theorem dX1_init_41 : decode cX1_init 41 = .ok (.aload_n 0, 1) := zk_of (zk_r (zk_l (zk_r (zk_r zdX1_init_0))))
theorem dX1_init_42 : decode cX1_init 42 = .ok (.aload_n 2, 1) := zk_of (zk_l (zk_l (zk_r (zk_r (zk_r zdX1_init_0)))))
theorem dX1_init_43 : decode cX1_init 43 = .ok (.putfield 29, 3) := zk_of (zk_r (zk_l (zk_r (zk_r (zk_r zdX1_init_0)))))
theorem dX1_init_46 : decode cX1_init 46 = .ok (.return_, 1) := zk_of (zk_r (zk_r (zk_r (zk_r zdX1_init_0))))
/-- HissHorn$Findings() -/
theorem mX1_0 : Cond.methodLink RX1 3 objectInit ∈ wsX1_init := (List.mem_cons_of_mem _ (List.mem_append_left _ (List.mem_of_getElem? (i := 0) rfl)))
theorem mX1_1 : Cond.instanceMethod objectInit ∈ wsX1_init := (List.mem_cons_of_mem _ (List.mem_append_left _ (List.mem_of_getElem? (i := 1) rfl)))
theorem mX1_2 : Cond.code objectInit ⟨#[0xb1]⟩ 1 none ∈ wsX1_init := (List.mem_cons_of_mem _ (List.mem_append_left _ (List.mem_of_getElem? (i := 2) rfl)))
theorem mX1_3 : Cond.arrayClass .long ∈ wsX1_init := (List.mem_cons_of_mem _ (List.mem_append_left _ (List.mem_of_getElem? (i := 3) rfl)))
theorem mX1_4 : Cond.fieldLink RX1 11 "HissHorn$Findings" "middles" "[J" ∈ wsX1_init := (List.mem_cons_of_mem _ (List.mem_append_left _ (List.mem_of_getElem? (i := 4) rfl)))
theorem hX1_X1 : ∀ w ∈ u_ws RX1 TX1 13, w ∈ wsX1_init := fun w h => (List.mem_cons_of_mem _ (List.mem_append_right _ h))
theorem mX1_6 : Cond.arrayClass .int ∈ wsX1_init := (List.mem_cons_of_mem _ (List.mem_append_left _ (List.mem_of_getElem? (i := 5) rfl)))
theorem mX1_7 : Cond.fieldLink RX1 15 "HissHorn$Findings" "many" "[I" ∈ wsX1_init := (List.mem_cons_of_mem _ (List.mem_append_left _ (List.mem_of_getElem? (i := 6) rfl)))
theorem mX1_8 : Cond.fieldLink RX1 19 "HissHorn$Findings" "floor" "[I" ∈ wsX1_init := (List.mem_cons_of_mem _ (List.mem_append_left _ (List.mem_of_getElem? (i := 7) rfl)))
theorem mX1_9 : Cond.fieldLink RX1 22 "HissHorn$Findings" "ceiling" "[I" ∈ wsX1_init := (List.mem_cons_of_mem _ (List.mem_append_left _ (List.mem_of_getElem? (i := 8) rfl)))
theorem mX1_10 : Cond.fieldLink RX1 25 "HissHorn$Findings" "readings" "LHissHorn$Readings;" ∈ wsX1_init := (List.mem_cons_of_mem _ (List.mem_append_left _ (List.mem_of_getElem? (i := 9) rfl)))
theorem mX1_11 : Cond.fieldLink RX1 29 "HissHorn$Findings" "guesses" "LHissHorn$Shelf;" ∈ wsX1_init := (List.mem_cons_of_mem _ (List.mem_append_left _ (List.mem_of_getElem? (i := 10) rfl)))
abbrev atX1 (cy : Nat → ClassId) (st : Nat → Nat) (h0 b1 b2 : Nat) (q : Nat × Nat × Nat × Nat) : va_W := match q with
  | (q1, q2, q3, q4) => [(h0, .inr (1, [.int 0, .int 0, .int 0, .int 0, .int 0, .int 0, .int 0, .ref b1, .ref b2, .ref q1, .ref q2, .ref q3, .ref q4])), (q1, .inl (cy 1, 41, .inr (.inl (fun _ => 0)))), (q2, .inl (cy 0, 41, .inl (fun _ => 0))), (q3, .inl (cy 0, 41, .inl (fun _ => 0))), (q4, .inl (cy 0, 41, .inl (fun _ => 0)))]
def rmkX1 : Room := { frames := 1, cells := 4, slots := 164, locals := 12 }
set_option maxHeartbeats 8000000 in
set_option maxRecDepth 100000 in
theorem kcX1 (l : Launch) (D : va_G) (cy : Nat → ClassId) (st : Nat → Nat) (h0 b1 b2 sz : Nat) (hst : st 100 ≤ h0) : Met l yX1_init wsX1_init rmkX1 (va_Pc [.ref h0, .ref b1, .ref b2] (fun U => U.heap.size = sz ∧ va_P D vwCl [(h0, .inr (1, [.int 0, .int 0, .int 0, .int 0, .int 0, .int 0, .int 0, .null, .null, .null, .null, .null, .null]))] U.heap ∧ Ky D [(cy 0, .int), (cy 1, .long), (cy 2, .boolean), (cy 3, .byte), (cy 4, .object "HissHorn$Text")] st U)) (va_Qv (fun (_ : Nat × Nat × Nat × Nat) => True) (fun q t => va_P D vwCl (atX1 cy st h0 b1 b2 q) t.heap ∧ va_D (Ax (fun a => a = h0) sz) (atX1 cy st h0 b1 b2 q)) (Ax (fun a => a = h0) sz)) 4 164 (Ax (fun a => a = h0) sz) := by
  refine Met.ofW (cc := cX1_init) (maxL := 3) (ret := none) (by decide) rfl ?_
  intro p e s m args below meth c s₁ B hml hv
  obtain ⟨rfl, hsz, hP, hK⟩ := hv
  subst hsz
  have C : Cx RX1 cX1_init 3 none wsX1_init p s m _ meth c := ⟨B.exec, B.bytes, hml, B.returns, findClass_of_methodNamed B.named, atoms_spec (ws := wsX1_init) B.pre, B.notSynchronized⟩
  have hin : meth.name = "<init>" := (name_of_methodNamed B.named B.method).1
  generalize hAe : Ax (fun a => a = h0) s.heap.size = A
  have hA : ∀ q : Nat, s.heap.size ≤ q → A q := fun q h => by rw [← hAe]; exact Or.inr h
  have hAs : ∀ q : Nat, A q → st 100 ≤ q := fun q h => by
    rw [← hAe] at h
    exact h.elim (fun z => by rw [z]; exact hst) (fun z => Nat.le_trans hK.2.2.2.1 z)
  have hD : va_D A [(h0, .inr (1, [.int 0, .int 0, .int 0, .int 0, .int 0, .int 0, .int 0, .null, .null, .null, .null, .null, .null]))] := D_one (by rw [← hAe]; exact Or.inl rfl)
  have hS : va_S A s.heap s.heap [] := va_S.rf
  have hl := lv_entry ([.ref h0, .ref b1, .ref b2]) (n := 3) (Nat.le_of_ble_eq_true rfl)
  rw [lg_entry_eq]
  generalize (lg_sl ([.ref h0, .ref b1, .ref b2]) ++ List.replicate (3 - (lg_sl ([.ref h0, .ref b1, .ref b2])).length) Slot.unset).toArray = ls at hl ⊢
  have hl : lv_has ls 3 [(0, .ref h0), (1, .ref b1), (2, .ref b2)] := hl
  refine lv_aload_n C.1 C.2.1 dX1_init_0 rfl (lv_at hl 0 rfl) ?_
  refine W.objInit C.1 C.2.1 C.2.2.2.2.1 (C.2.2.2.2.2.1 _ mX1_0) (C.2.2.2.2.2.1 _ mX1_1) (C.2.2.2.2.2.1 _ mX1_2) rfl (by rw [C.2.2.1]; exact hl.1) rfl dX1_init_1 (Nat.le_of_ble_eq_true rfl) (Nat.le_of_ble_eq_true rfl) ?_
  refine W.eq (g2 := F0 m 4 ls []) rfl ?_
  refine lv_aload_n C.1 C.2.1 dX1_init_4 rfl (lv_at hl 0 rfl) ?_
  refine lv_bipush (v := 41) C.1 C.2.1 dX1_init_5 (by decide) ?_
  refine va_newa (atype := .long) (a0 := (41, .inr (.inl (fun _ => 0)))) (ty := .long) C.1 C.2.1 (C.2.2.2.2.2.1 _ mX1_3) rfl hK.1 hP hD hS hA (fun cA => by first | rfl | exact vp_cell_i _ _ _ | exact vp_cell_l _ _ _) (by decide) (N' := 41) rfl (Nat.le_of_ble_eq_true rfl) (Nat.le_of_ble_eq_true rfl) (Nat.le_of_ble_eq_true rfl) dX1_init_7 (fun q1 cA H hK9 hP hD hS => ?_)
  obtain rfl : cA = cy 1 := arr_same hK9 hK.1 1 rfl 5 rfl
  have hP : va_P D vwCl [(h0, .inr (1, [.int 0, .int 0, .int 0, .int 0, .int 0, .int 0, .int 0, .null, .null, .null, .null, .null, .null])), (q1, .inl (cy 1, 41, .inr (.inl (fun _ => 0))))] H := hP
  have hD : va_D A [(h0, .inr (1, [.int 0, .int 0, .int 0, .int 0, .int 0, .int 0, .int 0, .null, .null, .null, .null, .null, .null])), (q1, .inl (cy 1, 41, .inr (.inl (fun _ => 0))))] := hD
  clear hK9
  refine va_putF (D := D) (ci := 1) (v := .ref q1) (ty := .array .long) C.1 C.2.1 C.2.2.2.2.2.1 hX1_X1 tyX1 tyX1_ok nmX1 C.2.2.2.2.1 hK.1 hP hD hS 0 rfl rfl 9 (by decide) (C.2.2.2.2.2.1 _ mX1_4) (fun _ h => h) rfl hin rfl (by decide +kernel) rfl rfl (Nat.le_of_ble_eq_true rfl) dX1_init_9 (fun H locs hP hD hS => ?_)
  have hP : va_P D vwCl [(h0, .inr (1, [.int 0, .int 0, .int 0, .int 0, .int 0, .int 0, .int 0, .null, .null, .ref q1, .null, .null, .null])), (q1, .inl (cy 1, 41, .inr (.inl (fun _ => 0))))] H := hP
  have hD : va_D A [(h0, .inr (1, [.int 0, .int 0, .int 0, .int 0, .int 0, .int 0, .int 0, .null, .null, .ref q1, .null, .null, .null])), (q1, .inl (cy 1, 41, .inr (.inl (fun _ => 0))))] := hD
  refine lv_aload_n C.1 C.2.1 dX1_init_12 rfl (lv_at hl 0 rfl) ?_
  refine lv_bipush (v := 41) C.1 C.2.1 dX1_init_13 (by decide) ?_
  refine va_newa (atype := .int) (a0 := (41, .inl (fun _ => 0))) (ty := .int) C.1 C.2.1 (C.2.2.2.2.2.1 _ mX1_6) rfl hK.1 hP hD hS hA (fun cA => by first | rfl | exact vp_cell_i _ _ _ | exact vp_cell_l _ _ _) (by decide) (N' := 41) rfl (Nat.le_of_ble_eq_true rfl) (Nat.le_of_ble_eq_true rfl) (Nat.le_of_ble_eq_true rfl) dX1_init_15 (fun q2 cA H hK9 hP hD hS => ?_)
  obtain rfl : cA = cy 0 := arr_same hK9 hK.1 0 rfl 5 rfl
  have hP : va_P D vwCl [(h0, .inr (1, [.int 0, .int 0, .int 0, .int 0, .int 0, .int 0, .int 0, .null, .null, .ref q1, .null, .null, .null])), (q1, .inl (cy 1, 41, .inr (.inl (fun _ => 0)))), (q2, .inl (cy 0, 41, .inl (fun _ => 0)))] H := hP
  have hD : va_D A [(h0, .inr (1, [.int 0, .int 0, .int 0, .int 0, .int 0, .int 0, .int 0, .null, .null, .ref q1, .null, .null, .null])), (q1, .inl (cy 1, 41, .inr (.inl (fun _ => 0)))), (q2, .inl (cy 0, 41, .inl (fun _ => 0)))] := hD
  clear hK9
  refine va_putF (D := D) (ci := 1) (v := .ref q2) (ty := .array .int) C.1 C.2.1 C.2.2.2.2.2.1 hX1_X1 tyX1 tyX1_ok nmX1 C.2.2.2.2.1 hK.1 hP hD hS 0 rfl rfl 10 (by decide) (C.2.2.2.2.2.1 _ mX1_7) (fun _ h => h) rfl hin rfl (by decide +kernel) rfl rfl (Nat.le_of_ble_eq_true rfl) dX1_init_17 (fun H locs hP hD hS => ?_)
  have hP : va_P D vwCl [(h0, .inr (1, [.int 0, .int 0, .int 0, .int 0, .int 0, .int 0, .int 0, .null, .null, .ref q1, .ref q2, .null, .null])), (q1, .inl (cy 1, 41, .inr (.inl (fun _ => 0)))), (q2, .inl (cy 0, 41, .inl (fun _ => 0)))] H := hP
  have hD : va_D A [(h0, .inr (1, [.int 0, .int 0, .int 0, .int 0, .int 0, .int 0, .int 0, .null, .null, .ref q1, .ref q2, .null, .null])), (q1, .inl (cy 1, 41, .inr (.inl (fun _ => 0)))), (q2, .inl (cy 0, 41, .inl (fun _ => 0)))] := hD
  refine lv_aload_n C.1 C.2.1 dX1_init_20 rfl (lv_at hl 0 rfl) ?_
  refine lv_bipush (v := 41) C.1 C.2.1 dX1_init_21 (by decide) ?_
  refine va_newa (atype := .int) (a0 := (41, .inl (fun _ => 0))) (ty := .int) C.1 C.2.1 (C.2.2.2.2.2.1 _ mX1_6) rfl hK.1 hP hD hS hA (fun cA => by first | rfl | exact vp_cell_i _ _ _ | exact vp_cell_l _ _ _) (by decide) (N' := 41) rfl (Nat.le_of_ble_eq_true rfl) (Nat.le_of_ble_eq_true rfl) (Nat.le_of_ble_eq_true rfl) dX1_init_23 (fun q3 cA H hK9 hP hD hS => ?_)
  obtain rfl : cA = cy 0 := arr_same hK9 hK.1 0 rfl 5 rfl
  have hP : va_P D vwCl [(h0, .inr (1, [.int 0, .int 0, .int 0, .int 0, .int 0, .int 0, .int 0, .null, .null, .ref q1, .ref q2, .null, .null])), (q1, .inl (cy 1, 41, .inr (.inl (fun _ => 0)))), (q2, .inl (cy 0, 41, .inl (fun _ => 0))), (q3, .inl (cy 0, 41, .inl (fun _ => 0)))] H := hP
  have hD : va_D A [(h0, .inr (1, [.int 0, .int 0, .int 0, .int 0, .int 0, .int 0, .int 0, .null, .null, .ref q1, .ref q2, .null, .null])), (q1, .inl (cy 1, 41, .inr (.inl (fun _ => 0)))), (q2, .inl (cy 0, 41, .inl (fun _ => 0))), (q3, .inl (cy 0, 41, .inl (fun _ => 0)))] := hD
  clear hK9
  refine va_putF (D := D) (ci := 1) (v := .ref q3) (ty := .array .int) C.1 C.2.1 C.2.2.2.2.2.1 hX1_X1 tyX1 tyX1_ok nmX1 C.2.2.2.2.1 hK.1 hP hD hS 0 rfl rfl 11 (by decide) (C.2.2.2.2.2.1 _ mX1_8) (fun _ h => h) rfl hin rfl (by decide +kernel) rfl rfl (Nat.le_of_ble_eq_true rfl) dX1_init_25 (fun H locs hP hD hS => ?_)
  have hP : va_P D vwCl [(h0, .inr (1, [.int 0, .int 0, .int 0, .int 0, .int 0, .int 0, .int 0, .null, .null, .ref q1, .ref q2, .ref q3, .null])), (q1, .inl (cy 1, 41, .inr (.inl (fun _ => 0)))), (q2, .inl (cy 0, 41, .inl (fun _ => 0))), (q3, .inl (cy 0, 41, .inl (fun _ => 0)))] H := hP
  have hD : va_D A [(h0, .inr (1, [.int 0, .int 0, .int 0, .int 0, .int 0, .int 0, .int 0, .null, .null, .ref q1, .ref q2, .ref q3, .null])), (q1, .inl (cy 1, 41, .inr (.inl (fun _ => 0)))), (q2, .inl (cy 0, 41, .inl (fun _ => 0))), (q3, .inl (cy 0, 41, .inl (fun _ => 0)))] := hD
  refine lv_aload_n C.1 C.2.1 dX1_init_28 rfl (lv_at hl 0 rfl) ?_
  refine lv_bipush (v := 41) C.1 C.2.1 dX1_init_29 (by decide) ?_
  refine va_newa (atype := .int) (a0 := (41, .inl (fun _ => 0))) (ty := .int) C.1 C.2.1 (C.2.2.2.2.2.1 _ mX1_6) rfl hK.1 hP hD hS hA (fun cA => by first | rfl | exact vp_cell_i _ _ _ | exact vp_cell_l _ _ _) (by decide) (N' := 41) rfl (Nat.le_of_ble_eq_true rfl) (Nat.le_of_ble_eq_true rfl) (Nat.le_of_ble_eq_true rfl) dX1_init_31 (fun q4 cA H hK9 hP hD hS => ?_)
  obtain rfl : cA = cy 0 := arr_same hK9 hK.1 0 rfl 5 rfl
  have hP : va_P D vwCl [(h0, .inr (1, [.int 0, .int 0, .int 0, .int 0, .int 0, .int 0, .int 0, .null, .null, .ref q1, .ref q2, .ref q3, .null])), (q1, .inl (cy 1, 41, .inr (.inl (fun _ => 0)))), (q2, .inl (cy 0, 41, .inl (fun _ => 0))), (q3, .inl (cy 0, 41, .inl (fun _ => 0))), (q4, .inl (cy 0, 41, .inl (fun _ => 0)))] H := hP
  have hD : va_D A [(h0, .inr (1, [.int 0, .int 0, .int 0, .int 0, .int 0, .int 0, .int 0, .null, .null, .ref q1, .ref q2, .ref q3, .null])), (q1, .inl (cy 1, 41, .inr (.inl (fun _ => 0)))), (q2, .inl (cy 0, 41, .inl (fun _ => 0))), (q3, .inl (cy 0, 41, .inl (fun _ => 0))), (q4, .inl (cy 0, 41, .inl (fun _ => 0)))] := hD
  clear hK9
  refine va_putF (D := D) (ci := 1) (v := .ref q4) (ty := .array .int) C.1 C.2.1 C.2.2.2.2.2.1 hX1_X1 tyX1 tyX1_ok nmX1 C.2.2.2.2.1 hK.1 hP hD hS 0 rfl rfl 12 (by decide) (C.2.2.2.2.2.1 _ mX1_9) (fun _ h => h) rfl hin rfl (by decide +kernel) rfl rfl (Nat.le_of_ble_eq_true rfl) dX1_init_33 (fun H locs hP hD hS => ?_)
  have hP : va_P D vwCl [(h0, .inr (1, [.int 0, .int 0, .int 0, .int 0, .int 0, .int 0, .int 0, .null, .null, .ref q1, .ref q2, .ref q3, .ref q4])), (q1, .inl (cy 1, 41, .inr (.inl (fun _ => 0)))), (q2, .inl (cy 0, 41, .inl (fun _ => 0))), (q3, .inl (cy 0, 41, .inl (fun _ => 0))), (q4, .inl (cy 0, 41, .inl (fun _ => 0)))] H := hP
  have hD : va_D A [(h0, .inr (1, [.int 0, .int 0, .int 0, .int 0, .int 0, .int 0, .int 0, .null, .null, .ref q1, .ref q2, .ref q3, .ref q4])), (q1, .inl (cy 1, 41, .inr (.inl (fun _ => 0)))), (q2, .inl (cy 0, 41, .inl (fun _ => 0))), (q3, .inl (cy 0, 41, .inl (fun _ => 0))), (q4, .inl (cy 0, 41, .inl (fun _ => 0)))] := hD
  refine lv_aload_n C.1 C.2.1 dX1_init_36 rfl (lv_at hl 0 rfl) ?_
  refine lv_aload_n C.1 C.2.1 dX1_init_37 rfl (lv_at hl 1 rfl) ?_
  refine va_putF (D := D) (ci := 1) (v := .ref b1) (ty := .object "HissHorn$Readings") C.1 C.2.1 C.2.2.2.2.2.1 hX1_X1 tyX1 tyX1_ok nmX1 C.2.2.2.2.1 hK.1 hP hD hS 0 rfl rfl 7 (by decide) (C.2.2.2.2.2.1 _ mX1_10) (fun _ h => h) rfl hin rfl (by decide +kernel) rfl rfl (Nat.le_of_ble_eq_true rfl) dX1_init_38 (fun H locs hP hD hS => ?_)
  have hP : va_P D vwCl [(h0, .inr (1, [.int 0, .int 0, .int 0, .int 0, .int 0, .int 0, .int 0, .ref b1, .null, .ref q1, .ref q2, .ref q3, .ref q4])), (q1, .inl (cy 1, 41, .inr (.inl (fun _ => 0)))), (q2, .inl (cy 0, 41, .inl (fun _ => 0))), (q3, .inl (cy 0, 41, .inl (fun _ => 0))), (q4, .inl (cy 0, 41, .inl (fun _ => 0)))] H := hP
  have hD : va_D A [(h0, .inr (1, [.int 0, .int 0, .int 0, .int 0, .int 0, .int 0, .int 0, .ref b1, .null, .ref q1, .ref q2, .ref q3, .ref q4])), (q1, .inl (cy 1, 41, .inr (.inl (fun _ => 0)))), (q2, .inl (cy 0, 41, .inl (fun _ => 0))), (q3, .inl (cy 0, 41, .inl (fun _ => 0))), (q4, .inl (cy 0, 41, .inl (fun _ => 0)))] := hD
  refine lv_aload_n C.1 C.2.1 dX1_init_41 rfl (lv_at hl 0 rfl) ?_
  refine lv_aload_n C.1 C.2.1 dX1_init_42 rfl (lv_at hl 2 rfl) ?_
  refine va_putF (D := D) (ci := 1) (v := .ref b2) (ty := .object "HissHorn$Shelf") C.1 C.2.1 C.2.2.2.2.2.1 hX1_X1 tyX1 tyX1_ok nmX1 C.2.2.2.2.1 hK.1 hP hD hS 0 rfl rfl 8 (by decide) (C.2.2.2.2.2.1 _ mX1_11) (fun _ h => h) rfl hin rfl (by decide +kernel) rfl rfl (Nat.le_of_ble_eq_true rfl) dX1_init_43 (fun H locs hP hD hS => ?_)
  have hP : va_P D vwCl [(h0, .inr (1, [.int 0, .int 0, .int 0, .int 0, .int 0, .int 0, .int 0, .ref b1, .ref b2, .ref q1, .ref q2, .ref q3, .ref q4])), (q1, .inl (cy 1, 41, .inr (.inl (fun _ => 0)))), (q2, .inl (cy 0, 41, .inl (fun _ => 0))), (q3, .inl (cy 0, 41, .inl (fun _ => 0))), (q4, .inl (cy 0, 41, .inl (fun _ => 0)))] H := hP
  have hD : va_D A [(h0, .inr (1, [.int 0, .int 0, .int 0, .int 0, .int 0, .int 0, .int 0, .ref b1, .ref b2, .ref q1, .ref q2, .ref q3, .ref q4])), (q1, .inl (cy 1, 41, .inr (.inl (fun _ => 0)))), (q2, .inl (cy 0, 41, .inl (fun _ => 0))), (q3, .inl (cy 0, 41, .inl (fun _ => 0))), (q4, .inl (cy 0, 41, .inl (fun _ => 0)))] := hD
  exact W.cs (cells' := 4) (slots' := 164) rfl rfl (W.vret C.1 C.2.1 C.2.2.2.1 (fun t ht _ => ⟨⟨(q1, q2, q3, q4), rfl, trivial, by rw [ht]; exact hP, hD⟩, hS.F ht⟩) hS.2.2 dX1_init_46 C.2.2.2.2.2.2)

theorem zdX0_init_0 : (and (and (and (and (and (zk cX0_init 0 (.aload_n 0) 1) (zk cX0_init 1 (.invokespecial 3) 3)) (zk cX0_init 4 (.aload_n 0) 1)) (and (zk cX0_init 5 (.bipush 80) 2) (zk cX0_init 7 (.newarray .int) 2))) (and (and (zk cX0_init 9 (.putfield 9) 3) (zk cX0_init 12 (.aload_n 0) 1)) (and (zk cX0_init 13 (.sipush 960) 3) (zk cX0_init 16 (.newarray .int) 2)))) (and (and (and (zk cX0_init 18 (.putfield 15) 3) (zk cX0_init 21 (.aload_n 0) 1)) (and (zk cX0_init 22 (.aload_n 1) 1) (zk cX0_init 23 (.putfield 18) 3))) (and (and (zk cX0_init 26 (.aload_n 0) 1) (zk cX0_init 27 (.aload_n 2) 1)) (and (zk cX0_init 28 (.putfield 22) 3) (zk cX0_init 31 (.return_) 1))))) = true := by decide +kernel
theorem dX0_init_0 : decode cX0_init 0 = .ok (.aload_n 0, 1) := zk_of (zk_l (zk_l (zk_l (zk_l (zk_l zdX0_init_0)))))
theorem dX0_init_1 : decode cX0_init 1 = .ok (.invokespecial 3, 3) := zk_of (zk_r (zk_l (zk_l (zk_l (zk_l zdX0_init_0)))))
theorem dX0_init_4 : decode cX0_init 4 = .ok (.aload_n 0, 1) := zk_of (zk_r (zk_l (zk_l (zk_l zdX0_init_0))))
theorem dX0_init_5 : decode cX0_init 5 = .ok (.bipush 80, 2) := zk_of (zk_l (zk_r (zk_l (zk_l zdX0_init_0))))
theorem dX0_init_7 : decode cX0_init 7 = .ok (.newarray .int, 2) := zk_of (zk_r (zk_r (zk_l (zk_l zdX0_init_0))))
theorem dX0_init_9 : decode cX0_init 9 = .ok (.putfield 9, 3) := zk_of (zk_l (zk_l (zk_r (zk_l zdX0_init_0))))
theorem dX0_init_12 : decode cX0_init 12 = .ok (.aload_n 0, 1) := zk_of (zk_r (zk_l (zk_r (zk_l zdX0_init_0))))
theorem dX0_init_13 : decode cX0_init 13 = .ok (.sipush 960, 3) := zk_of (zk_l (zk_r (zk_r (zk_l zdX0_init_0))))
theorem dX0_init_16 : decode cX0_init 16 = .ok (.newarray .int, 2) := zk_of (zk_r (zk_r (zk_r (zk_l zdX0_init_0))))
theorem dX0_init_18 : decode cX0_init 18 = .ok (.putfield 15, 3) := zk_of (zk_l (zk_l (zk_l (zk_r zdX0_init_0))))
theorem dX0_init_21 : decode cX0_init 21 = .ok (.aload_n 0, 1) := zk_of (zk_r (zk_l (zk_l (zk_r zdX0_init_0))))
theorem dX0_init_22 : decode cX0_init 22 = .ok (.aload_n 1, 1) := zk_of (zk_l (zk_r (zk_l (zk_r zdX0_init_0))))
theorem dX0_init_23 : decode cX0_init 23 = .ok (.putfield 18, 3) := zk_of (zk_r (zk_r (zk_l (zk_r zdX0_init_0))))
theorem dX0_init_26 : decode cX0_init 26 = .ok (.aload_n 0, 1) := zk_of (zk_l (zk_l (zk_r (zk_r zdX0_init_0))))
theorem dX0_init_27 : decode cX0_init 27 = .ok (.aload_n 2, 1) := zk_of (zk_r (zk_l (zk_r (zk_r zdX0_init_0))))
theorem dX0_init_28 : decode cX0_init 28 = .ok (.putfield 22, 3) := zk_of (zk_l (zk_r (zk_r (zk_r zdX0_init_0))))
theorem dX0_init_31 : decode cX0_init 31 = .ok (.return_, 1) := zk_of (zk_r (zk_r (zk_r (zk_r zdX0_init_0))))
/-- HissHorn$Blame() -/
theorem mX0_0 : Cond.methodLink RX0 3 objectInit ∈ wsX0_init := (List.mem_cons_of_mem _ (List.mem_append_left _ (List.mem_of_getElem? (i := 0) rfl)))
theorem mX0_1 : Cond.instanceMethod objectInit ∈ wsX0_init := (List.mem_cons_of_mem _ (List.mem_append_left _ (List.mem_of_getElem? (i := 1) rfl)))
theorem mX0_2 : Cond.code objectInit ⟨#[0xb1]⟩ 1 none ∈ wsX0_init := (List.mem_cons_of_mem _ (List.mem_append_left _ (List.mem_of_getElem? (i := 2) rfl)))
theorem mX0_3 : Cond.arrayClass .int ∈ wsX0_init := (List.mem_cons_of_mem _ (List.mem_append_left _ (List.mem_of_getElem? (i := 3) rfl)))
theorem mX0_4 : Cond.fieldLink RX0 9 "HissHorn$Blame" "lack" "[I" ∈ wsX0_init := (List.mem_cons_of_mem _ (List.mem_append_left _ (List.mem_of_getElem? (i := 4) rfl)))
theorem hX0_X0 : ∀ w ∈ u_ws RX0 TX0 9, w ∈ wsX0_init := fun w h => (List.mem_cons_of_mem _ (List.mem_append_right _ h))
theorem mX0_6 : Cond.fieldLink RX0 15 "HissHorn$Blame" "gain" "[I" ∈ wsX0_init := (List.mem_cons_of_mem _ (List.mem_append_left _ (List.mem_of_getElem? (i := 5) rfl)))
theorem mX0_7 : Cond.fieldLink RX0 18 "HissHorn$Blame" "readings" "LHissHorn$Readings;" ∈ wsX0_init := (List.mem_cons_of_mem _ (List.mem_append_left _ (List.mem_of_getElem? (i := 6) rfl)))
theorem mX0_8 : Cond.fieldLink RX0 22 "HissHorn$Blame" "parts" "LHissHorn$Parts;" ∈ wsX0_init := (List.mem_cons_of_mem _ (List.mem_append_left _ (List.mem_of_getElem? (i := 7) rfl)))
abbrev atX0 (cy : Nat → ClassId) (st : Nat → Nat) (h0 b1 b2 : Nat) (q : Nat × Nat) : va_W := match q with
  | (q1, q2) => [(h0, .inr (0, [.int 0, .int 0, .ref b1, .ref b2, .ref q1, .ref q2, .int 0, .int 0, .int 0])), (q1, .inl (cy 0, 80, .inl (fun _ => 0))), (q2, .inl (cy 0, 960, .inl (fun _ => 0)))]
def rmkX0 : Room := { frames := 1, cells := 2, slots := 1040, locals := 12 }
set_option maxHeartbeats 8000000 in
set_option maxRecDepth 100000 in
theorem kcX0 (l : Launch) (D : va_G) (cy : Nat → ClassId) (st : Nat → Nat) (h0 b1 b2 sz : Nat) (hst : st 100 ≤ h0) : Met l yX0_init wsX0_init rmkX0 (va_Pc [.ref h0, .ref b1, .ref b2] (fun U => U.heap.size = sz ∧ va_P D vwCl [(h0, .inr (0, [.int 0, .int 0, .null, .null, .null, .null, .int 0, .int 0, .int 0]))] U.heap ∧ Ky D [(cy 0, .int), (cy 1, .long), (cy 2, .boolean), (cy 3, .byte), (cy 4, .object "HissHorn$Text")] st U)) (va_Qv (fun (_ : Nat × Nat) => True) (fun q t => va_P D vwCl (atX0 cy st h0 b1 b2 q) t.heap ∧ va_D (Ax (fun a => a = h0) sz) (atX0 cy st h0 b1 b2 q)) (Ax (fun a => a = h0) sz)) 2 1040 (Ax (fun a => a = h0) sz) := by
  refine Met.ofW (cc := cX0_init) (maxL := 3) (ret := none) (by decide) rfl ?_
  intro p e s m args below meth c s₁ B hml hv
  obtain ⟨rfl, hsz, hP, hK⟩ := hv
  subst hsz
  have C : Cx RX0 cX0_init 3 none wsX0_init p s m _ meth c := ⟨B.exec, B.bytes, hml, B.returns, findClass_of_methodNamed B.named, atoms_spec (ws := wsX0_init) B.pre, B.notSynchronized⟩
  have hin : meth.name = "<init>" := (name_of_methodNamed B.named B.method).1
  generalize hAe : Ax (fun a => a = h0) s.heap.size = A
  have hA : ∀ q : Nat, s.heap.size ≤ q → A q := fun q h => by rw [← hAe]; exact Or.inr h
  have hAs : ∀ q : Nat, A q → st 100 ≤ q := fun q h => by
    rw [← hAe] at h
    exact h.elim (fun z => by rw [z]; exact hst) (fun z => Nat.le_trans hK.2.2.2.1 z)
  have hD : va_D A [(h0, .inr (0, [.int 0, .int 0, .null, .null, .null, .null, .int 0, .int 0, .int 0]))] := D_one (by rw [← hAe]; exact Or.inl rfl)
  have hS : va_S A s.heap s.heap [] := va_S.rf
  have hl := lv_entry ([.ref h0, .ref b1, .ref b2]) (n := 3) (Nat.le_of_ble_eq_true rfl)
  rw [lg_entry_eq]
  generalize (lg_sl ([.ref h0, .ref b1, .ref b2]) ++ List.replicate (3 - (lg_sl ([.ref h0, .ref b1, .ref b2])).length) Slot.unset).toArray = ls at hl ⊢
  have hl : lv_has ls 3 [(0, .ref h0), (1, .ref b1), (2, .ref b2)] := hl
  refine lv_aload_n C.1 C.2.1 dX0_init_0 rfl (lv_at hl 0 rfl) ?_
  refine W.objInit C.1 C.2.1 C.2.2.2.2.1 (C.2.2.2.2.2.1 _ mX0_0) (C.2.2.2.2.2.1 _ mX0_1) (C.2.2.2.2.2.1 _ mX0_2) rfl (by rw [C.2.2.1]; exact hl.1) rfl dX0_init_1 (Nat.le_of_ble_eq_true rfl) (Nat.le_of_ble_eq_true rfl) ?_
  refine W.eq (g2 := F0 m 4 ls []) rfl ?_
  refine lv_aload_n C.1 C.2.1 dX0_init_4 rfl (lv_at hl 0 rfl) ?_
  refine lv_bipush (v := 80) C.1 C.2.1 dX0_init_5 (by decide) ?_
  refine va_newa (atype := .int) (a0 := (80, .inl (fun _ => 0))) (ty := .int) C.1 C.2.1 (C.2.2.2.2.2.1 _ mX0_3) rfl hK.1 hP hD hS hA (fun cA => by first | rfl | exact vp_cell_i _ _ _ | exact vp_cell_l _ _ _) (by decide) (N' := 80) rfl (Nat.le_of_ble_eq_true rfl) (Nat.le_of_ble_eq_true rfl) (Nat.le_of_ble_eq_true rfl) dX0_init_7 (fun q1 cA H hK9 hP hD hS => ?_)
  obtain rfl : cA = cy 0 := arr_same hK9 hK.1 0 rfl 5 rfl
  have hP : va_P D vwCl [(h0, .inr (0, [.int 0, .int 0, .null, .null, .null, .null, .int 0, .int 0, .int 0])), (q1, .inl (cy 0, 80, .inl (fun _ => 0)))] H := hP
  have hD : va_D A [(h0, .inr (0, [.int 0, .int 0, .null, .null, .null, .null, .int 0, .int 0, .int 0])), (q1, .inl (cy 0, 80, .inl (fun _ => 0)))] := hD
  clear hK9
  refine va_putF (D := D) (ci := 0) (v := .ref q1) (ty := .array .int) C.1 C.2.1 C.2.2.2.2.2.1 hX0_X0 tyX0 tyX0_ok nmX0 C.2.2.2.2.1 hK.1 hP hD hS 0 rfl rfl 4 (by decide) (C.2.2.2.2.2.1 _ mX0_4) (fun _ h => h) rfl hin rfl (by decide +kernel) rfl rfl (Nat.le_of_ble_eq_true rfl) dX0_init_9 (fun H locs hP hD hS => ?_)
  have hP : va_P D vwCl [(h0, .inr (0, [.int 0, .int 0, .null, .null, .ref q1, .null, .int 0, .int 0, .int 0])), (q1, .inl (cy 0, 80, .inl (fun _ => 0)))] H := hP
  have hD : va_D A [(h0, .inr (0, [.int 0, .int 0, .null, .null, .ref q1, .null, .int 0, .int 0, .int 0])), (q1, .inl (cy 0, 80, .inl (fun _ => 0)))] := hD
  refine lv_aload_n C.1 C.2.1 dX0_init_12 rfl (lv_at hl 0 rfl) ?_
  refine lv_sipush (v := 960) C.1 C.2.1 dX0_init_13 (by decide) ?_
  refine va_newa (atype := .int) (a0 := (960, .inl (fun _ => 0))) (ty := .int) C.1 C.2.1 (C.2.2.2.2.2.1 _ mX0_3) rfl hK.1 hP hD hS hA (fun cA => by first | rfl | exact vp_cell_i _ _ _ | exact vp_cell_l _ _ _) (by decide) (N' := 960) rfl (Nat.le_of_ble_eq_true rfl) (Nat.le_of_ble_eq_true rfl) (Nat.le_of_ble_eq_true rfl) dX0_init_16 (fun q2 cA H hK9 hP hD hS => ?_)
  obtain rfl : cA = cy 0 := arr_same hK9 hK.1 0 rfl 5 rfl
  have hP : va_P D vwCl [(h0, .inr (0, [.int 0, .int 0, .null, .null, .ref q1, .null, .int 0, .int 0, .int 0])), (q1, .inl (cy 0, 80, .inl (fun _ => 0))), (q2, .inl (cy 0, 960, .inl (fun _ => 0)))] H := hP
  have hD : va_D A [(h0, .inr (0, [.int 0, .int 0, .null, .null, .ref q1, .null, .int 0, .int 0, .int 0])), (q1, .inl (cy 0, 80, .inl (fun _ => 0))), (q2, .inl (cy 0, 960, .inl (fun _ => 0)))] := hD
  clear hK9
  refine va_putF (D := D) (ci := 0) (v := .ref q2) (ty := .array .int) C.1 C.2.1 C.2.2.2.2.2.1 hX0_X0 tyX0 tyX0_ok nmX0 C.2.2.2.2.1 hK.1 hP hD hS 0 rfl rfl 5 (by decide) (C.2.2.2.2.2.1 _ mX0_6) (fun _ h => h) rfl hin rfl (by decide +kernel) rfl rfl (Nat.le_of_ble_eq_true rfl) dX0_init_18 (fun H locs hP hD hS => ?_)
  have hP : va_P D vwCl [(h0, .inr (0, [.int 0, .int 0, .null, .null, .ref q1, .ref q2, .int 0, .int 0, .int 0])), (q1, .inl (cy 0, 80, .inl (fun _ => 0))), (q2, .inl (cy 0, 960, .inl (fun _ => 0)))] H := hP
  have hD : va_D A [(h0, .inr (0, [.int 0, .int 0, .null, .null, .ref q1, .ref q2, .int 0, .int 0, .int 0])), (q1, .inl (cy 0, 80, .inl (fun _ => 0))), (q2, .inl (cy 0, 960, .inl (fun _ => 0)))] := hD
  refine lv_aload_n C.1 C.2.1 dX0_init_21 rfl (lv_at hl 0 rfl) ?_
  refine lv_aload_n C.1 C.2.1 dX0_init_22 rfl (lv_at hl 1 rfl) ?_
  refine va_putF (D := D) (ci := 0) (v := .ref b1) (ty := .object "HissHorn$Readings") C.1 C.2.1 C.2.2.2.2.2.1 hX0_X0 tyX0 tyX0_ok nmX0 C.2.2.2.2.1 hK.1 hP hD hS 0 rfl rfl 2 (by decide) (C.2.2.2.2.2.1 _ mX0_7) (fun _ h => h) rfl hin rfl (by decide +kernel) rfl rfl (Nat.le_of_ble_eq_true rfl) dX0_init_23 (fun H locs hP hD hS => ?_)
  have hP : va_P D vwCl [(h0, .inr (0, [.int 0, .int 0, .ref b1, .null, .ref q1, .ref q2, .int 0, .int 0, .int 0])), (q1, .inl (cy 0, 80, .inl (fun _ => 0))), (q2, .inl (cy 0, 960, .inl (fun _ => 0)))] H := hP
  have hD : va_D A [(h0, .inr (0, [.int 0, .int 0, .ref b1, .null, .ref q1, .ref q2, .int 0, .int 0, .int 0])), (q1, .inl (cy 0, 80, .inl (fun _ => 0))), (q2, .inl (cy 0, 960, .inl (fun _ => 0)))] := hD
  refine lv_aload_n C.1 C.2.1 dX0_init_26 rfl (lv_at hl 0 rfl) ?_
  refine lv_aload_n C.1 C.2.1 dX0_init_27 rfl (lv_at hl 2 rfl) ?_
  refine va_putF (D := D) (ci := 0) (v := .ref b2) (ty := .object "HissHorn$Parts") C.1 C.2.1 C.2.2.2.2.2.1 hX0_X0 tyX0 tyX0_ok nmX0 C.2.2.2.2.1 hK.1 hP hD hS 0 rfl rfl 3 (by decide) (C.2.2.2.2.2.1 _ mX0_8) (fun _ h => h) rfl hin rfl (by decide +kernel) rfl rfl (Nat.le_of_ble_eq_true rfl) dX0_init_28 (fun H locs hP hD hS => ?_)
  have hP : va_P D vwCl [(h0, .inr (0, [.int 0, .int 0, .ref b1, .ref b2, .ref q1, .ref q2, .int 0, .int 0, .int 0])), (q1, .inl (cy 0, 80, .inl (fun _ => 0))), (q2, .inl (cy 0, 960, .inl (fun _ => 0)))] H := hP
  have hD : va_D A [(h0, .inr (0, [.int 0, .int 0, .ref b1, .ref b2, .ref q1, .ref q2, .int 0, .int 0, .int 0])), (q1, .inl (cy 0, 80, .inl (fun _ => 0))), (q2, .inl (cy 0, 960, .inl (fun _ => 0)))] := hD
  exact W.cs (cells' := 2) (slots' := 1040) rfl rfl (W.vret C.1 C.2.1 C.2.2.2.1 (fun t ht _ => ⟨⟨(q1, q2), rfl, trivial, by rw [ht]; exact hP, hD⟩, hS.F ht⟩) hS.2.2 dX0_init_31 C.2.2.2.2.2.2)

theorem zdX3_init_0 : (and (and (and (and (and (zk cX3_init 0 (.aload_n 0) 1) (zk cX3_init 1 (.invokespecial 3) 3)) (and (zk cX3_init 4 (.aload_n 0) 1) (zk cX3_init 5 (.bipush 10) 2))) (and (and (zk cX3_init 7 (.newarray .int) 2) (zk cX3_init 9 (.putfield 9) 3)) (and (zk cX3_init 12 (.aload_n 0) 1) (zk cX3_init 13 (.bipush 10) 2)))) (and (and (and (zk cX3_init 15 (.newarray .int) 2) (zk cX3_init 17 (.putfield 15) 3)) (and (zk cX3_init 20 (.aload_n 0) 1) (zk cX3_init 21 (.bipush 10) 2))) (and (and (zk cX3_init 23 (.newarray .int) 2) (zk cX3_init 25 (.putfield 18) 3)) (and (zk cX3_init 28 (.aload_n 0) 1) (zk cX3_init 29 (.bipush 10) 2))))) (and (and (and (and (zk cX3_init 31 (.newarray .int) 2) (zk cX3_init 33 (.putfield 21) 3)) (and (zk cX3_init 36 (.aload_n 0) 1) (zk cX3_init 37 (.bipush 10) 2))) (and (and (zk cX3_init 39 (.newarray .int) 2) (zk cX3_init 41 (.putfield 24) 3)) (and (zk cX3_init 44 (.aload_n 0) 1) (zk cX3_init 45 (.bipush 10) 2)))) (and (and (and (zk cX3_init 47 (.newarray .int) 2) (zk cX3_init 49 (.putfield 27) 3)) (and (zk cX3_init 52 (.aload_n 0) 1) (zk cX3_init 53 (.bipush 10) 2))) (and (and (zk cX3_init 55 (.newarray .int) 2) (zk cX3_init 57 (.putfield 30) 3)) (and (zk cX3_init 60 (.aload_n 0) 1) (zk cX3_init 61 (.bipush 10) 2)))))) = true := by decide +kernel
theorem dX3_init_0 : decode cX3_init 0 = .ok (.aload_n 0, 1) := zk_of (zk_l (zk_l (zk_l (zk_l (zk_l zdX3_init_0)))))
theorem dX3_init_1 : decode cX3_init 1 = .ok (.invokespecial 3, 3) := zk_of (zk_r (zk_l (zk_l (zk_l (zk_l zdX3_init_0)))))
theorem dX3_init_4 : decode cX3_init 4 = .ok (.aload_n 0, 1) := zk_of (zk_l (zk_r (zk_l (zk_l (zk_l zdX3_init_0)))))
theorem dX3_init_5 : decode cX3_init 5 = .ok (.bipush 10, 2) := zk_of (zk_r (zk_r (zk_l (zk_l (zk_l zdX3_init_0)))))
theorem dX3_init_7 : decode cX3_init 7 = .ok (.newarray .int, 2) := zk_of (zk_l (zk_l (zk_r (zk_l (zk_l zdX3_init_0)))))
theorem dX3_init_9 : decode cX3_init 9 = .ok (.putfield 9, 3) := zk_of (zk_r (zk_l (zk_r (zk_l (zk_l zdX3_init_0)))))
theorem dX3_init_12 : decode cX3_init 12 = .ok (.aload_n 0, 1) := zk_of (zk_l (zk_r (zk_r (zk_l (zk_l zdX3_init_0)))))
theorem dX3_init_13 : decode cX3_init 13 = .ok (.bipush 10, 2) := zk_of (zk_r (zk_r (zk_r (zk_l (zk_l zdX3_init_0)))))
theorem dX3_init_15 : decode cX3_init 15 = .ok (.newarray .int, 2) := zk_of (zk_l (zk_l (zk_l (zk_r (zk_l zdX3_init_0)))))
theorem dX3_init_17 : decode cX3_init 17 = .ok (.putfield 15, 3) := zk_of (zk_r (zk_l (zk_l (zk_r (zk_l zdX3_init_0)))))
theorem dX3_init_20 : decode cX3_init 20 = .ok (.aload_n 0, 1) := zk_of (zk_l (zk_r (zk_l (zk_r (zk_l zdX3_init_0)))))
theorem dX3_init_21 : decode cX3_init 21 = .ok (.bipush 10, 2) := zk_of (zk_r (zk_r (zk_l (zk_r (zk_l zdX3_init_0)))))
theorem dX3_init_23 : decode cX3_init 23 = .ok (.newarray .int, 2) := zk_of (zk_l (zk_l (zk_r (zk_r (zk_l zdX3_init_0)))))
theorem dX3_init_25 : decode cX3_init 25 = .ok (.putfield 18, 3) := zk_of (zk_r (zk_l (zk_r (zk_r (zk_l zdX3_init_0)))))
theorem dX3_init_28 : decode cX3_init 28 = .ok (.aload_n 0, 1) := zk_of (zk_l (zk_r (zk_r (zk_r (zk_l zdX3_init_0)))))
theorem dX3_init_29 : decode cX3_init 29 = .ok (.bipush 10, 2) := zk_of (zk_r (zk_r (zk_r (zk_r (zk_l zdX3_init_0)))))
theorem dX3_init_31 : decode cX3_init 31 = .ok (.newarray .int, 2) := zk_of (zk_l (zk_l (zk_l (zk_l (zk_r zdX3_init_0)))))
theorem dX3_init_33 : decode cX3_init 33 = .ok (.putfield 21, 3) := zk_of (zk_r (zk_l (zk_l (zk_l (zk_r zdX3_init_0)))))
theorem dX3_init_36 : decode cX3_init 36 = .ok (.aload_n 0, 1) := zk_of (zk_l (zk_r (zk_l (zk_l (zk_r zdX3_init_0)))))
theorem dX3_init_37 : decode cX3_init 37 = .ok (.bipush 10, 2) := zk_of (zk_r (zk_r (zk_l (zk_l (zk_r zdX3_init_0)))))
theorem dX3_init_39 : decode cX3_init 39 = .ok (.newarray .int, 2) := zk_of (zk_l (zk_l (zk_r (zk_l (zk_r zdX3_init_0)))))
theorem dX3_init_41 : decode cX3_init 41 = .ok (.putfield 24, 3) := zk_of (zk_r (zk_l (zk_r (zk_l (zk_r zdX3_init_0)))))
theorem dX3_init_44 : decode cX3_init 44 = .ok (.aload_n 0, 1) := zk_of (zk_l (zk_r (zk_r (zk_l (zk_r zdX3_init_0)))))
theorem dX3_init_45 : decode cX3_init 45 = .ok (.bipush 10, 2) := zk_of (zk_r (zk_r (zk_r (zk_l (zk_r zdX3_init_0)))))
theorem dX3_init_47 : decode cX3_init 47 = .ok (.newarray .int, 2) := zk_of (zk_l (zk_l (zk_l (zk_r (zk_r zdX3_init_0)))))
theorem dX3_init_49 : decode cX3_init 49 = .ok (.putfield 27, 3) := zk_of (zk_r (zk_l (zk_l (zk_r (zk_r zdX3_init_0)))))
theorem dX3_init_52 : decode cX3_init 52 = .ok (.aload_n 0, 1) := zk_of (zk_l (zk_r (zk_l (zk_r (zk_r zdX3_init_0)))))
theorem dX3_init_53 : decode cX3_init 53 = .ok (.bipush 10, 2) := zk_of (zk_r (zk_r (zk_l (zk_r (zk_r zdX3_init_0)))))
theorem dX3_init_55 : decode cX3_init 55 = .ok (.newarray .int, 2) := zk_of (zk_l (zk_l (zk_r (zk_r (zk_r zdX3_init_0)))))
theorem dX3_init_57 : decode cX3_init 57 = .ok (.putfield 30, 3) := zk_of (zk_r (zk_l (zk_r (zk_r (zk_r zdX3_init_0)))))
theorem dX3_init_60 : decode cX3_init 60 = .ok (.aload_n 0, 1) := zk_of (zk_l (zk_r (zk_r (zk_r (zk_r zdX3_init_0)))))
theorem dX3_init_61 : decode cX3_init 61 = .ok (.bipush 10, 2) := zk_of (zk_r (zk_r (zk_r (zk_r (zk_r zdX3_init_0)))))
theorem zdX3_init_63 : (and (and (and (and (and (zk cX3_init 63 (.newarray .int) 2) (zk cX3_init 65 (.putfield 33) 3)) (zk cX3_init 68 (.aload_n 0) 1)) (and (and (zk cX3_init 69 (.bipush 10) 2) (zk cX3_init 71 (.newarray .int) 2)) (zk cX3_init 73 (.putfield 36) 3))) (and (and (and (zk cX3_init 76 (.aload_n 0) 1) (zk cX3_init 77 (.bipush 12) 2)) (zk cX3_init 79 (.newarray .int) 2)) (and (zk cX3_init 81 (.putfield 39) 3) (zk cX3_init 84 (.aload_n 0) 1)))) (and (and (and (and (zk cX3_init 85 (.bipush 12) 2) (zk cX3_init 87 (.newarray .int) 2)) (zk cX3_init 89 (.putfield 42) 3)) (and (zk cX3_init 92 (.aload_n 0) 1) (zk cX3_init 93 (.aload_n 1) 1))) (and (and (and (zk cX3_init 94 (.putfield 45) 3) (zk cX3_init 97 (.aload_n 0) 1)) (zk cX3_init 98 (.aload_n 2) 1)) (and (zk cX3_init 99 (.putfield 49) 3) (zk cX3_init 102 (.return_) 1))))) = true := by decide +kernel
theorem dX3_init_63 : decode cX3_init 63 = .ok (.newarray .int, 2) := zk_of (zk_l (zk_l (zk_l (zk_l (zk_l zdX3_init_63)))))
theorem dX3_init_65 : decode cX3_init 65 = .ok (.putfield 33, 3) := zk_of (zk_r (zk_l (zk_l (zk_l (zk_l zdX3_init_63)))))
theorem dX3_init_68 : decode cX3_init 68 = .ok (.aload_n 0, 1) := zk_of (zk_r (zk_l (zk_l (zk_l zdX3_init_63))))
theorem dX3_init_69 : decode cX3_init 69 = .ok (.bipush 10, 2) := zk_of (zk_l (zk_l (zk_r (zk_l (zk_l zdX3_init_63)))))
theorem dX3_init_71 : decode cX3_init 71 = .ok (.newarray .int, 2) := zk_of (zk_r (zk_l (zk_r (zk_l (zk_l zdX3_init_63)))))
theorem dX3_init_73 : decode cX3_init 73 = .ok (.putfield 36, 3) := zk_of (zk_r (zk_r (zk_l (zk_l zdX3_init_63))))
theorem dX3_init_76 : decode cX3_init 76 = .ok (.aload_n 0, 1) := zk_of (zk_l (zk_l (zk_l (zk_r (zk_l zdX3_init_63)))))
theorem dX3_init_77 : decode cX3_init 77 = .ok (.bipush 12, 2) := zk_of (zk_r (zk_l (zk_l (zk_r (zk_l zdX3_init_63)))))
theorem dX3_init_79 : decode cX3_init 79 = .ok (.newarray .int, 2) := zk_of (zk_r (zk_l (zk_r (zk_l zdX3_init_63))))
theorem dX3_init_81 : decode cX3_init 81 = .ok (.putfield 39, 3) := zk_of (zk_l (zk_r (zk_r (zk_l zdX3_init_63))))
theorem dX3_init_84 : decode cX3_init 84 = .ok (.aload_n 0, 1) := zk_of (zk_r (zk_r (zk_r (zk_l zdX3_init_63))))
theorem dX3_init_85 : decode cX3_init 85 = .ok (.bipush 12, 2) := zk_of (zk_l (zk_l (zk_l (zk_l (zk_r zdX3_init_63)))))
theorem dX3_init_87 : decode cX3_init 87 = .ok (.newarray .int, 2) := zk_of (zk_r (zk_l (zk_l (zk_l (zk_r zdX3_init_63)))))
theorem dX3_init_89 : decode cX3_init 89 = .ok (.putfield 42, 3) := zk_of (zk_r (zk_l (zk_l (zk_r zdX3_init_63))))
theorem dX3_init_92 : decode cX3_init 92 = .ok (.aload_n 0, 1) := zk_of (zk_l (zk_r (zk_l (zk_r zdX3_init_63))))
theorem dX3_init_93 : decode cX3_init 93 = .ok (.aload_n 1, 1) := zk_of (zk_r (zk_r (zk_l (zk_r zdX3_init_63))))
theorem dX3_init_94 : decode cX3_init 94 = .ok (.putfield 45, 3) := zk_of (zk_l (zk_l (zk_l (zk_r (zk_r zdX3_init_63)))))
theorem dX3_init_97 : decode cX3_init 97 = .ok (.aload_n 0, 1) := zk_of (zk_r (zk_l (zk_l (zk_r (zk_r zdX3_init_63)))))
theorem dX3_init_98 : decode cX3_init 98 = .ok (.aload_n 2, 1) := zk_of (zk_r (zk_l (zk_r (zk_r zdX3_init_63))))
theorem dX3_init_99 : decode cX3_init 99 = .ok (.putfield 49, 3) := zk_of (zk_l (zk_r (zk_r (zk_r zdX3_init_63))))
theorem dX3_init_102 : decode cX3_init 102 = .ok (.return_, 1) := zk_of (zk_r (zk_r (zk_r (zk_r zdX3_init_63))))
/-- HissHorn$Looks() -/
theorem mX3_0 : Cond.methodLink RX3 3 objectInit ∈ wsX3_init := (List.mem_cons_of_mem _ (List.mem_append_left _ (List.mem_of_getElem? (i := 0) rfl)))
theorem mX3_1 : Cond.instanceMethod objectInit ∈ wsX3_init := (List.mem_cons_of_mem _ (List.mem_append_left _ (List.mem_of_getElem? (i := 1) rfl)))
theorem mX3_2 : Cond.code objectInit ⟨#[0xb1]⟩ 1 none ∈ wsX3_init := (List.mem_cons_of_mem _ (List.mem_append_left _ (List.mem_of_getElem? (i := 2) rfl)))
theorem mX3_3 : Cond.arrayClass .int ∈ wsX3_init := (List.mem_cons_of_mem _ (List.mem_append_left _ (List.mem_of_getElem? (i := 3) rfl)))
theorem mX3_4 : Cond.fieldLink RX3 9 "HissHorn$Looks" "part" "[I" ∈ wsX3_init := (List.mem_cons_of_mem _ (List.mem_append_left _ (List.mem_of_getElem? (i := 4) rfl)))
theorem hX3_X3 : ∀ w ∈ u_ws RX3 TX3 19, w ∈ wsX3_init := fun w h => (List.mem_cons_of_mem _ (List.mem_append_right _ h))
theorem mX3_6 : Cond.fieldLink RX3 15 "HissHorn$Looks" "from" "[I" ∈ wsX3_init := (List.mem_cons_of_mem _ (List.mem_append_left _ (List.mem_of_getElem? (i := 5) rfl)))
theorem mX3_7 : Cond.fieldLink RX3 18 "HissHorn$Looks" "to" "[I" ∈ wsX3_init := (List.mem_cons_of_mem _ (List.mem_append_left _ (List.mem_of_getElem? (i := 6) rfl)))
theorem mX3_8 : Cond.fieldLink RX3 21 "HissHorn$Looks" "cost" "[I" ∈ wsX3_init := (List.mem_cons_of_mem _ (List.mem_append_left _ (List.mem_of_getElem? (i := 7) rfl)))
theorem mX3_9 : Cond.fieldLink RX3 24 "HissHorn$Looks" "doneDay" "[I" ∈ wsX3_init := (List.mem_cons_of_mem _ (List.mem_append_left _ (List.mem_of_getElem? (i := 8) rfl)))
theorem mX3_10 : Cond.fieldLink RX3 27 "HissHorn$Looks" "aheadFrom" "[I" ∈ wsX3_init := (List.mem_cons_of_mem _ (List.mem_append_left _ (List.mem_of_getElem? (i := 9) rfl)))
theorem mX3_11 : Cond.fieldLink RX3 30 "HissHorn$Looks" "aheadTo" "[I" ∈ wsX3_init := (List.mem_cons_of_mem _ (List.mem_append_left _ (List.mem_of_getElem? (i := 10) rfl)))
theorem mX3_12 : Cond.fieldLink RX3 33 "HissHorn$Looks" "behindFrom" "[I" ∈ wsX3_init := (List.mem_cons_of_mem _ (List.mem_append_left _ (List.mem_of_getElem? (i := 11) rfl)))
theorem mX3_13 : Cond.fieldLink RX3 36 "HissHorn$Looks" "behindTo" "[I" ∈ wsX3_init := (List.mem_cons_of_mem _ (List.mem_append_left _ (List.mem_of_getElem? (i := 12) rfl)))
theorem mX3_14 : Cond.fieldLink RX3 39 "HissHorn$Looks" "rowLow" "[I" ∈ wsX3_init := (List.mem_cons_of_mem _ (List.mem_append_left _ (List.mem_of_getElem? (i := 13) rfl)))
theorem mX3_15 : Cond.fieldLink RX3 42 "HissHorn$Looks" "rowHigh" "[I" ∈ wsX3_init := (List.mem_cons_of_mem _ (List.mem_append_left _ (List.mem_of_getElem? (i := 14) rfl)))
theorem mX3_16 : Cond.fieldLink RX3 45 "HissHorn$Looks" "readings" "LHissHorn$Readings;" ∈ wsX3_init := (List.mem_cons_of_mem _ (List.mem_append_left _ (List.mem_of_getElem? (i := 15) rfl)))
theorem mX3_17 : Cond.fieldLink RX3 49 "HissHorn$Looks" "parts" "LHissHorn$Parts;" ∈ wsX3_init := (List.mem_cons_of_mem _ (List.mem_append_left _ (List.mem_of_getElem? (i := 16) rfl)))
abbrev atX3 (cy : Nat → ClassId) (st : Nat → Nat) (h0 b1 b2 : Nat) (q : Nat × Nat × Nat × Nat × Nat × Nat × Nat × Nat × Nat × Nat × Nat) : va_W := match q with
  | (q1, q2, q3, q4, q5, q6, q7, q8, q9, q10, q11) => [(h0, .inr (3, [.int 0, .int 0, .int 0, .ref q1, .ref q2, .ref q3, .ref q4, .ref q5, .ref q6, .ref q7, .ref q8, .ref q9, .ref q10, .ref q11, .ref b1, .ref b2, .int 0, .int 0, .int 0])), (q1, .inl (cy 0, 10, .inl (fun _ => 0))), (q2, .inl (cy 0, 10, .inl (fun _ => 0))), (q3, .inl (cy 0, 10, .inl (fun _ => 0))), (q4, .inl (cy 0, 10, .inl (fun _ => 0))), (q5, .inl (cy 0, 10, .inl (fun _ => 0))), (q6, .inl (cy 0, 10, .inl (fun _ => 0))), (q7, .inl (cy 0, 10, .inl (fun _ => 0))), (q8, .inl (cy 0, 10, .inl (fun _ => 0))), (q9, .inl (cy 0, 10, .inl (fun _ => 0))), (q10, .inl (cy 0, 12, .inl (fun _ => 0))), (q11, .inl (cy 0, 12, .inl (fun _ => 0)))]
def rmkX3 : Room := { frames := 1, cells := 11, slots := 114, locals := 12 }
set_option maxHeartbeats 8000000 in
set_option maxRecDepth 100000 in
theorem kcX3 (l : Launch) (D : va_G) (cy : Nat → ClassId) (st : Nat → Nat) (h0 b1 b2 sz : Nat) (hst : st 100 ≤ h0) : Met l yX3_init wsX3_init rmkX3 (va_Pc [.ref h0, .ref b1, .ref b2] (fun U => U.heap.size = sz ∧ va_P D vwCl [(h0, .inr (3, [.int 0, .int 0, .int 0, .null, .null, .null, .null, .null, .null, .null, .null, .null, .null, .null, .null, .null, .int 0, .int 0, .int 0]))] U.heap ∧ Ky D [(cy 0, .int), (cy 1, .long), (cy 2, .boolean), (cy 3, .byte), (cy 4, .object "HissHorn$Text")] st U)) (va_Qv (fun (_ : Nat × Nat × Nat × Nat × Nat × Nat × Nat × Nat × Nat × Nat × Nat) => True) (fun q t => va_P D vwCl (atX3 cy st h0 b1 b2 q) t.heap ∧ va_D (Ax (fun a => a = h0) sz) (atX3 cy st h0 b1 b2 q)) (Ax (fun a => a = h0) sz)) 11 114 (Ax (fun a => a = h0) sz) := by
  refine Met.ofW (cc := cX3_init) (maxL := 3) (ret := none) (by decide) rfl ?_
  intro p e s m args below meth c s₁ B hml hv
  obtain ⟨rfl, hsz, hP, hK⟩ := hv
  subst hsz
  have C : Cx RX3 cX3_init 3 none wsX3_init p s m _ meth c := ⟨B.exec, B.bytes, hml, B.returns, findClass_of_methodNamed B.named, atoms_spec (ws := wsX3_init) B.pre, B.notSynchronized⟩
  have hin : meth.name = "<init>" := (name_of_methodNamed B.named B.method).1
  generalize hAe : Ax (fun a => a = h0) s.heap.size = A
  have hA : ∀ q : Nat, s.heap.size ≤ q → A q := fun q h => by rw [← hAe]; exact Or.inr h
  have hAs : ∀ q : Nat, A q → st 100 ≤ q := fun q h => by
    rw [← hAe] at h
    exact h.elim (fun z => by rw [z]; exact hst) (fun z => Nat.le_trans hK.2.2.2.1 z)
  have hD : va_D A [(h0, .inr (3, [.int 0, .int 0, .int 0, .null, .null, .null, .null, .null, .null, .null, .null, .null, .null, .null, .null, .null, .int 0, .int 0, .int 0]))] := D_one (by rw [← hAe]; exact Or.inl rfl)
  have hS : va_S A s.heap s.heap [] := va_S.rf
  have hl := lv_entry ([.ref h0, .ref b1, .ref b2]) (n := 3) (Nat.le_of_ble_eq_true rfl)
  rw [lg_entry_eq]
  generalize (lg_sl ([.ref h0, .ref b1, .ref b2]) ++ List.replicate (3 - (lg_sl ([.ref h0, .ref b1, .ref b2])).length) Slot.unset).toArray = ls at hl ⊢
  have hl : lv_has ls 3 [(0, .ref h0), (1, .ref b1), (2, .ref b2)] := hl
  refine lv_aload_n C.1 C.2.1 dX3_init_0 rfl (lv_at hl 0 rfl) ?_
  refine W.objInit C.1 C.2.1 C.2.2.2.2.1 (C.2.2.2.2.2.1 _ mX3_0) (C.2.2.2.2.2.1 _ mX3_1) (C.2.2.2.2.2.1 _ mX3_2) rfl (by rw [C.2.2.1]; exact hl.1) rfl dX3_init_1 (Nat.le_of_ble_eq_true rfl) (Nat.le_of_ble_eq_true rfl) ?_
  refine W.eq (g2 := F0 m 4 ls []) rfl ?_
  refine lv_aload_n C.1 C.2.1 dX3_init_4 rfl (lv_at hl 0 rfl) ?_
  refine lv_bipush (v := 10) C.1 C.2.1 dX3_init_5 (by decide) ?_
  refine va_newa (atype := .int) (a0 := (10, .inl (fun _ => 0))) (ty := .int) C.1 C.2.1 (C.2.2.2.2.2.1 _ mX3_3) rfl hK.1 hP hD hS hA (fun cA => by first | rfl | exact vp_cell_i _ _ _ | exact vp_cell_l _ _ _) (by decide) (N' := 10) rfl (Nat.le_of_ble_eq_true rfl) (Nat.le_of_ble_eq_true rfl) (Nat.le_of_ble_eq_true rfl) dX3_init_7 (fun q1 cA H hK9 hP hD hS => ?_)
  obtain rfl : cA = cy 0 := arr_same hK9 hK.1 0 rfl 5 rfl
  have hP : va_P D vwCl [(h0, .inr (3, [.int 0, .int 0, .int 0, .null, .null, .null, .null, .null, .null, .null, .null, .null, .null, .null, .null, .null, .int 0, .int 0, .int 0])), (q1, .inl (cy 0, 10, .inl (fun _ => 0)))] H := hP
  have hD : va_D A [(h0, .inr (3, [.int 0, .int 0, .int 0, .null, .null, .null, .null, .null, .null, .null, .null, .null, .null, .null, .null, .null, .int 0, .int 0, .int 0])), (q1, .inl (cy 0, 10, .inl (fun _ => 0)))] := hD
  clear hK9
  refine va_putF (D := D) (ci := 3) (v := .ref q1) (ty := .array .int) C.1 C.2.1 C.2.2.2.2.2.1 hX3_X3 tyX3 tyX3_ok nmX3 C.2.2.2.2.1 hK.1 hP hD hS 0 rfl rfl 3 (by decide) (C.2.2.2.2.2.1 _ mX3_4) (fun _ h => h) rfl hin rfl (by decide +kernel) rfl rfl (Nat.le_of_ble_eq_true rfl) dX3_init_9 (fun H locs hP hD hS => ?_)
  have hP : va_P D vwCl [(h0, .inr (3, [.int 0, .int 0, .int 0, .ref q1, .null, .null, .null, .null, .null, .null, .null, .null, .null, .null, .null, .null, .int 0, .int 0, .int 0])), (q1, .inl (cy 0, 10, .inl (fun _ => 0)))] H := hP
  have hD : va_D A [(h0, .inr (3, [.int 0, .int 0, .int 0, .ref q1, .null, .null, .null, .null, .null, .null, .null, .null, .null, .null, .null, .null, .int 0, .int 0, .int 0])), (q1, .inl (cy 0, 10, .inl (fun _ => 0)))] := hD
  refine lv_aload_n C.1 C.2.1 dX3_init_12 rfl (lv_at hl 0 rfl) ?_
  refine lv_bipush (v := 10) C.1 C.2.1 dX3_init_13 (by decide) ?_
  refine va_newa (atype := .int) (a0 := (10, .inl (fun _ => 0))) (ty := .int) C.1 C.2.1 (C.2.2.2.2.2.1 _ mX3_3) rfl hK.1 hP hD hS hA (fun cA => by first | rfl | exact vp_cell_i _ _ _ | exact vp_cell_l _ _ _) (by decide) (N' := 10) rfl (Nat.le_of_ble_eq_true rfl) (Nat.le_of_ble_eq_true rfl) (Nat.le_of_ble_eq_true rfl) dX3_init_15 (fun q2 cA H hK9 hP hD hS => ?_)
  obtain rfl : cA = cy 0 := arr_same hK9 hK.1 0 rfl 5 rfl
  have hP : va_P D vwCl [(h0, .inr (3, [.int 0, .int 0, .int 0, .ref q1, .null, .null, .null, .null, .null, .null, .null, .null, .null, .null, .null, .null, .int 0, .int 0, .int 0])), (q1, .inl (cy 0, 10, .inl (fun _ => 0))), (q2, .inl (cy 0, 10, .inl (fun _ => 0)))] H := hP
  have hD : va_D A [(h0, .inr (3, [.int 0, .int 0, .int 0, .ref q1, .null, .null, .null, .null, .null, .null, .null, .null, .null, .null, .null, .null, .int 0, .int 0, .int 0])), (q1, .inl (cy 0, 10, .inl (fun _ => 0))), (q2, .inl (cy 0, 10, .inl (fun _ => 0)))] := hD
  clear hK9
  refine va_putF (D := D) (ci := 3) (v := .ref q2) (ty := .array .int) C.1 C.2.1 C.2.2.2.2.2.1 hX3_X3 tyX3 tyX3_ok nmX3 C.2.2.2.2.1 hK.1 hP hD hS 0 rfl rfl 4 (by decide) (C.2.2.2.2.2.1 _ mX3_6) (fun _ h => h) rfl hin rfl (by decide +kernel) rfl rfl (Nat.le_of_ble_eq_true rfl) dX3_init_17 (fun H locs hP hD hS => ?_)
  have hP : va_P D vwCl [(h0, .inr (3, [.int 0, .int 0, .int 0, .ref q1, .ref q2, .null, .null, .null, .null, .null, .null, .null, .null, .null, .null, .null, .int 0, .int 0, .int 0])), (q1, .inl (cy 0, 10, .inl (fun _ => 0))), (q2, .inl (cy 0, 10, .inl (fun _ => 0)))] H := hP
  have hD : va_D A [(h0, .inr (3, [.int 0, .int 0, .int 0, .ref q1, .ref q2, .null, .null, .null, .null, .null, .null, .null, .null, .null, .null, .null, .int 0, .int 0, .int 0])), (q1, .inl (cy 0, 10, .inl (fun _ => 0))), (q2, .inl (cy 0, 10, .inl (fun _ => 0)))] := hD
  refine lv_aload_n C.1 C.2.1 dX3_init_20 rfl (lv_at hl 0 rfl) ?_
  refine lv_bipush (v := 10) C.1 C.2.1 dX3_init_21 (by decide) ?_
  refine va_newa (atype := .int) (a0 := (10, .inl (fun _ => 0))) (ty := .int) C.1 C.2.1 (C.2.2.2.2.2.1 _ mX3_3) rfl hK.1 hP hD hS hA (fun cA => by first | rfl | exact vp_cell_i _ _ _ | exact vp_cell_l _ _ _) (by decide) (N' := 10) rfl (Nat.le_of_ble_eq_true rfl) (Nat.le_of_ble_eq_true rfl) (Nat.le_of_ble_eq_true rfl) dX3_init_23 (fun q3 cA H hK9 hP hD hS => ?_)
  obtain rfl : cA = cy 0 := arr_same hK9 hK.1 0 rfl 5 rfl
  have hP : va_P D vwCl [(h0, .inr (3, [.int 0, .int 0, .int 0, .ref q1, .ref q2, .null, .null, .null, .null, .null, .null, .null, .null, .null, .null, .null, .int 0, .int 0, .int 0])), (q1, .inl (cy 0, 10, .inl (fun _ => 0))), (q2, .inl (cy 0, 10, .inl (fun _ => 0))), (q3, .inl (cy 0, 10, .inl (fun _ => 0)))] H := hP
  have hD : va_D A [(h0, .inr (3, [.int 0, .int 0, .int 0, .ref q1, .ref q2, .null, .null, .null, .null, .null, .null, .null, .null, .null, .null, .null, .int 0, .int 0, .int 0])), (q1, .inl (cy 0, 10, .inl (fun _ => 0))), (q2, .inl (cy 0, 10, .inl (fun _ => 0))), (q3, .inl (cy 0, 10, .inl (fun _ => 0)))] := hD
  clear hK9
  refine va_putF (D := D) (ci := 3) (v := .ref q3) (ty := .array .int) C.1 C.2.1 C.2.2.2.2.2.1 hX3_X3 tyX3 tyX3_ok nmX3 C.2.2.2.2.1 hK.1 hP hD hS 0 rfl rfl 5 (by decide) (C.2.2.2.2.2.1 _ mX3_7) (fun _ h => h) rfl hin rfl (by decide +kernel) rfl rfl (Nat.le_of_ble_eq_true rfl) dX3_init_25 (fun H locs hP hD hS => ?_)
  have hP : va_P D vwCl [(h0, .inr (3, [.int 0, .int 0, .int 0, .ref q1, .ref q2, .ref q3, .null, .null, .null, .null, .null, .null, .null, .null, .null, .null, .int 0, .int 0, .int 0])), (q1, .inl (cy 0, 10, .inl (fun _ => 0))), (q2, .inl (cy 0, 10, .inl (fun _ => 0))), (q3, .inl (cy 0, 10, .inl (fun _ => 0)))] H := hP
  have hD : va_D A [(h0, .inr (3, [.int 0, .int 0, .int 0, .ref q1, .ref q2, .ref q3, .null, .null, .null, .null, .null, .null, .null, .null, .null, .null, .int 0, .int 0, .int 0])), (q1, .inl (cy 0, 10, .inl (fun _ => 0))), (q2, .inl (cy 0, 10, .inl (fun _ => 0))), (q3, .inl (cy 0, 10, .inl (fun _ => 0)))] := hD
  refine lv_aload_n C.1 C.2.1 dX3_init_28 rfl (lv_at hl 0 rfl) ?_
  refine lv_bipush (v := 10) C.1 C.2.1 dX3_init_29 (by decide) ?_
  refine va_newa (atype := .int) (a0 := (10, .inl (fun _ => 0))) (ty := .int) C.1 C.2.1 (C.2.2.2.2.2.1 _ mX3_3) rfl hK.1 hP hD hS hA (fun cA => by first | rfl | exact vp_cell_i _ _ _ | exact vp_cell_l _ _ _) (by decide) (N' := 10) rfl (Nat.le_of_ble_eq_true rfl) (Nat.le_of_ble_eq_true rfl) (Nat.le_of_ble_eq_true rfl) dX3_init_31 (fun q4 cA H hK9 hP hD hS => ?_)
  obtain rfl : cA = cy 0 := arr_same hK9 hK.1 0 rfl 5 rfl
  have hP : va_P D vwCl [(h0, .inr (3, [.int 0, .int 0, .int 0, .ref q1, .ref q2, .ref q3, .null, .null, .null, .null, .null, .null, .null, .null, .null, .null, .int 0, .int 0, .int 0])), (q1, .inl (cy 0, 10, .inl (fun _ => 0))), (q2, .inl (cy 0, 10, .inl (fun _ => 0))), (q3, .inl (cy 0, 10, .inl (fun _ => 0))), (q4, .inl (cy 0, 10, .inl (fun _ => 0)))] H := hP
  have hD : va_D A [(h0, .inr (3, [.int 0, .int 0, .int 0, .ref q1, .ref q2, .ref q3, .null, .null, .null, .null, .null, .null, .null, .null, .null, .null, .int 0, .int 0, .int 0])), (q1, .inl (cy 0, 10, .inl (fun _ => 0))), (q2, .inl (cy 0, 10, .inl (fun _ => 0))), (q3, .inl (cy 0, 10, .inl (fun _ => 0))), (q4, .inl (cy 0, 10, .inl (fun _ => 0)))] := hD
  clear hK9
  refine va_putF (D := D) (ci := 3) (v := .ref q4) (ty := .array .int) C.1 C.2.1 C.2.2.2.2.2.1 hX3_X3 tyX3 tyX3_ok nmX3 C.2.2.2.2.1 hK.1 hP hD hS 0 rfl rfl 6 (by decide) (C.2.2.2.2.2.1 _ mX3_8) (fun _ h => h) rfl hin rfl (by decide +kernel) rfl rfl (Nat.le_of_ble_eq_true rfl) dX3_init_33 (fun H locs hP hD hS => ?_)
  have hP : va_P D vwCl [(h0, .inr (3, [.int 0, .int 0, .int 0, .ref q1, .ref q2, .ref q3, .ref q4, .null, .null, .null, .null, .null, .null, .null, .null, .null, .int 0, .int 0, .int 0])), (q1, .inl (cy 0, 10, .inl (fun _ => 0))), (q2, .inl (cy 0, 10, .inl (fun _ => 0))), (q3, .inl (cy 0, 10, .inl (fun _ => 0))), (q4, .inl (cy 0, 10, .inl (fun _ => 0)))] H := hP
  have hD : va_D A [(h0, .inr (3, [.int 0, .int 0, .int 0, .ref q1, .ref q2, .ref q3, .ref q4, .null, .null, .null, .null, .null, .null, .null, .null, .null, .int 0, .int 0, .int 0])), (q1, .inl (cy 0, 10, .inl (fun _ => 0))), (q2, .inl (cy 0, 10, .inl (fun _ => 0))), (q3, .inl (cy 0, 10, .inl (fun _ => 0))), (q4, .inl (cy 0, 10, .inl (fun _ => 0)))] := hD
  refine lv_aload_n C.1 C.2.1 dX3_init_36 rfl (lv_at hl 0 rfl) ?_
  refine lv_bipush (v := 10) C.1 C.2.1 dX3_init_37 (by decide) ?_
  refine va_newa (atype := .int) (a0 := (10, .inl (fun _ => 0))) (ty := .int) C.1 C.2.1 (C.2.2.2.2.2.1 _ mX3_3) rfl hK.1 hP hD hS hA (fun cA => by first | rfl | exact vp_cell_i _ _ _ | exact vp_cell_l _ _ _) (by decide) (N' := 10) rfl (Nat.le_of_ble_eq_true rfl) (Nat.le_of_ble_eq_true rfl) (Nat.le_of_ble_eq_true rfl) dX3_init_39 (fun q5 cA H hK9 hP hD hS => ?_)
  obtain rfl : cA = cy 0 := arr_same hK9 hK.1 0 rfl 5 rfl
  have hP : va_P D vwCl [(h0, .inr (3, [.int 0, .int 0, .int 0, .ref q1, .ref q2, .ref q3, .ref q4, .null, .null, .null, .null, .null, .null, .null, .null, .null, .int 0, .int 0, .int 0])), (q1, .inl (cy 0, 10, .inl (fun _ => 0))), (q2, .inl (cy 0, 10, .inl (fun _ => 0))), (q3, .inl (cy 0, 10, .inl (fun _ => 0))), (q4, .inl (cy 0, 10, .inl (fun _ => 0))), (q5, .inl (cy 0, 10, .inl (fun _ => 0)))] H := hP
  have hD : va_D A [(h0, .inr (3, [.int 0, .int 0, .int 0, .ref q1, .ref q2, .ref q3, .ref q4, .null, .null, .null, .null, .null, .null, .null, .null, .null, .int 0, .int 0, .int 0])), (q1, .inl (cy 0, 10, .inl (fun _ => 0))), (q2, .inl (cy 0, 10, .inl (fun _ => 0))), (q3, .inl (cy 0, 10, .inl (fun _ => 0))), (q4, .inl (cy 0, 10, .inl (fun _ => 0))), (q5, .inl (cy 0, 10, .inl (fun _ => 0)))] := hD
  clear hK9
  refine va_putF (D := D) (ci := 3) (v := .ref q5) (ty := .array .int) C.1 C.2.1 C.2.2.2.2.2.1 hX3_X3 tyX3 tyX3_ok nmX3 C.2.2.2.2.1 hK.1 hP hD hS 0 rfl rfl 7 (by decide) (C.2.2.2.2.2.1 _ mX3_9) (fun _ h => h) rfl hin rfl (by decide +kernel) rfl rfl (Nat.le_of_ble_eq_true rfl) dX3_init_41 (fun H locs hP hD hS => ?_)
  have hP : va_P D vwCl [(h0, .inr (3, [.int 0, .int 0, .int 0, .ref q1, .ref q2, .ref q3, .ref q4, .ref q5, .null, .null, .null, .null, .null, .null, .null, .null, .int 0, .int 0, .int 0])), (q1, .inl (cy 0, 10, .inl (fun _ => 0))), (q2, .inl (cy 0, 10, .inl (fun _ => 0))), (q3, .inl (cy 0, 10, .inl (fun _ => 0))), (q4, .inl (cy 0, 10, .inl (fun _ => 0))), (q5, .inl (cy 0, 10, .inl (fun _ => 0)))] H := hP
  have hD : va_D A [(h0, .inr (3, [.int 0, .int 0, .int 0, .ref q1, .ref q2, .ref q3, .ref q4, .ref q5, .null, .null, .null, .null, .null, .null, .null, .null, .int 0, .int 0, .int 0])), (q1, .inl (cy 0, 10, .inl (fun _ => 0))), (q2, .inl (cy 0, 10, .inl (fun _ => 0))), (q3, .inl (cy 0, 10, .inl (fun _ => 0))), (q4, .inl (cy 0, 10, .inl (fun _ => 0))), (q5, .inl (cy 0, 10, .inl (fun _ => 0)))] := hD
  refine lv_aload_n C.1 C.2.1 dX3_init_44 rfl (lv_at hl 0 rfl) ?_
  refine lv_bipush (v := 10) C.1 C.2.1 dX3_init_45 (by decide) ?_
  refine va_newa (atype := .int) (a0 := (10, .inl (fun _ => 0))) (ty := .int) C.1 C.2.1 (C.2.2.2.2.2.1 _ mX3_3) rfl hK.1 hP hD hS hA (fun cA => by first | rfl | exact vp_cell_i _ _ _ | exact vp_cell_l _ _ _) (by decide) (N' := 10) rfl (Nat.le_of_ble_eq_true rfl) (Nat.le_of_ble_eq_true rfl) (Nat.le_of_ble_eq_true rfl) dX3_init_47 (fun q6 cA H hK9 hP hD hS => ?_)
  obtain rfl : cA = cy 0 := arr_same hK9 hK.1 0 rfl 5 rfl
  have hP : va_P D vwCl [(h0, .inr (3, [.int 0, .int 0, .int 0, .ref q1, .ref q2, .ref q3, .ref q4, .ref q5, .null, .null, .null, .null, .null, .null, .null, .null, .int 0, .int 0, .int 0])), (q1, .inl (cy 0, 10, .inl (fun _ => 0))), (q2, .inl (cy 0, 10, .inl (fun _ => 0))), (q3, .inl (cy 0, 10, .inl (fun _ => 0))), (q4, .inl (cy 0, 10, .inl (fun _ => 0))), (q5, .inl (cy 0, 10, .inl (fun _ => 0))), (q6, .inl (cy 0, 10, .inl (fun _ => 0)))] H := hP
  have hD : va_D A [(h0, .inr (3, [.int 0, .int 0, .int 0, .ref q1, .ref q2, .ref q3, .ref q4, .ref q5, .null, .null, .null, .null, .null, .null, .null, .null, .int 0, .int 0, .int 0])), (q1, .inl (cy 0, 10, .inl (fun _ => 0))), (q2, .inl (cy 0, 10, .inl (fun _ => 0))), (q3, .inl (cy 0, 10, .inl (fun _ => 0))), (q4, .inl (cy 0, 10, .inl (fun _ => 0))), (q5, .inl (cy 0, 10, .inl (fun _ => 0))), (q6, .inl (cy 0, 10, .inl (fun _ => 0)))] := hD
  clear hK9
  refine va_putF (D := D) (ci := 3) (v := .ref q6) (ty := .array .int) C.1 C.2.1 C.2.2.2.2.2.1 hX3_X3 tyX3 tyX3_ok nmX3 C.2.2.2.2.1 hK.1 hP hD hS 0 rfl rfl 8 (by decide) (C.2.2.2.2.2.1 _ mX3_10) (fun _ h => h) rfl hin rfl (by decide +kernel) rfl rfl (Nat.le_of_ble_eq_true rfl) dX3_init_49 (fun H locs hP hD hS => ?_)
  have hP : va_P D vwCl [(h0, .inr (3, [.int 0, .int 0, .int 0, .ref q1, .ref q2, .ref q3, .ref q4, .ref q5, .ref q6, .null, .null, .null, .null, .null, .null, .null, .int 0, .int 0, .int 0])), (q1, .inl (cy 0, 10, .inl (fun _ => 0))), (q2, .inl (cy 0, 10, .inl (fun _ => 0))), (q3, .inl (cy 0, 10, .inl (fun _ => 0))), (q4, .inl (cy 0, 10, .inl (fun _ => 0))), (q5, .inl (cy 0, 10, .inl (fun _ => 0))), (q6, .inl (cy 0, 10, .inl (fun _ => 0)))] H := hP
  have hD : va_D A [(h0, .inr (3, [.int 0, .int 0, .int 0, .ref q1, .ref q2, .ref q3, .ref q4, .ref q5, .ref q6, .null, .null, .null, .null, .null, .null, .null, .int 0, .int 0, .int 0])), (q1, .inl (cy 0, 10, .inl (fun _ => 0))), (q2, .inl (cy 0, 10, .inl (fun _ => 0))), (q3, .inl (cy 0, 10, .inl (fun _ => 0))), (q4, .inl (cy 0, 10, .inl (fun _ => 0))), (q5, .inl (cy 0, 10, .inl (fun _ => 0))), (q6, .inl (cy 0, 10, .inl (fun _ => 0)))] := hD
  refine lv_aload_n C.1 C.2.1 dX3_init_52 rfl (lv_at hl 0 rfl) ?_
  refine lv_bipush (v := 10) C.1 C.2.1 dX3_init_53 (by decide) ?_
  refine va_newa (atype := .int) (a0 := (10, .inl (fun _ => 0))) (ty := .int) C.1 C.2.1 (C.2.2.2.2.2.1 _ mX3_3) rfl hK.1 hP hD hS hA (fun cA => by first | rfl | exact vp_cell_i _ _ _ | exact vp_cell_l _ _ _) (by decide) (N' := 10) rfl (Nat.le_of_ble_eq_true rfl) (Nat.le_of_ble_eq_true rfl) (Nat.le_of_ble_eq_true rfl) dX3_init_55 (fun q7 cA H hK9 hP hD hS => ?_)
  obtain rfl : cA = cy 0 := arr_same hK9 hK.1 0 rfl 5 rfl
  have hP : va_P D vwCl [(h0, .inr (3, [.int 0, .int 0, .int 0, .ref q1, .ref q2, .ref q3, .ref q4, .ref q5, .ref q6, .null, .null, .null, .null, .null, .null, .null, .int 0, .int 0, .int 0])), (q1, .inl (cy 0, 10, .inl (fun _ => 0))), (q2, .inl (cy 0, 10, .inl (fun _ => 0))), (q3, .inl (cy 0, 10, .inl (fun _ => 0))), (q4, .inl (cy 0, 10, .inl (fun _ => 0))), (q5, .inl (cy 0, 10, .inl (fun _ => 0))), (q6, .inl (cy 0, 10, .inl (fun _ => 0))), (q7, .inl (cy 0, 10, .inl (fun _ => 0)))] H := hP
  have hD : va_D A [(h0, .inr (3, [.int 0, .int 0, .int 0, .ref q1, .ref q2, .ref q3, .ref q4, .ref q5, .ref q6, .null, .null, .null, .null, .null, .null, .null, .int 0, .int 0, .int 0])), (q1, .inl (cy 0, 10, .inl (fun _ => 0))), (q2, .inl (cy 0, 10, .inl (fun _ => 0))), (q3, .inl (cy 0, 10, .inl (fun _ => 0))), (q4, .inl (cy 0, 10, .inl (fun _ => 0))), (q5, .inl (cy 0, 10, .inl (fun _ => 0))), (q6, .inl (cy 0, 10, .inl (fun _ => 0))), (q7, .inl (cy 0, 10, .inl (fun _ => 0)))] := hD
  clear hK9
  refine va_putF (D := D) (ci := 3) (v := .ref q7) (ty := .array .int) C.1 C.2.1 C.2.2.2.2.2.1 hX3_X3 tyX3 tyX3_ok nmX3 C.2.2.2.2.1 hK.1 hP hD hS 0 rfl rfl 9 (by decide) (C.2.2.2.2.2.1 _ mX3_11) (fun _ h => h) rfl hin rfl (by decide +kernel) rfl rfl (Nat.le_of_ble_eq_true rfl) dX3_init_57 (fun H locs hP hD hS => ?_)
  have hP : va_P D vwCl [(h0, .inr (3, [.int 0, .int 0, .int 0, .ref q1, .ref q2, .ref q3, .ref q4, .ref q5, .ref q6, .ref q7, .null, .null, .null, .null, .null, .null, .int 0, .int 0, .int 0])), (q1, .inl (cy 0, 10, .inl (fun _ => 0))), (q2, .inl (cy 0, 10, .inl (fun _ => 0))), (q3, .inl (cy 0, 10, .inl (fun _ => 0))), (q4, .inl (cy 0, 10, .inl (fun _ => 0))), (q5, .inl (cy 0, 10, .inl (fun _ => 0))), (q6, .inl (cy 0, 10, .inl (fun _ => 0))), (q7, .inl (cy 0, 10, .inl (fun _ => 0)))] H := hP
  have hD : va_D A [(h0, .inr (3, [.int 0, .int 0, .int 0, .ref q1, .ref q2, .ref q3, .ref q4, .ref q5, .ref q6, .ref q7, .null, .null, .null, .null, .null, .null, .int 0, .int 0, .int 0])), (q1, .inl (cy 0, 10, .inl (fun _ => 0))), (q2, .inl (cy 0, 10, .inl (fun _ => 0))), (q3, .inl (cy 0, 10, .inl (fun _ => 0))), (q4, .inl (cy 0, 10, .inl (fun _ => 0))), (q5, .inl (cy 0, 10, .inl (fun _ => 0))), (q6, .inl (cy 0, 10, .inl (fun _ => 0))), (q7, .inl (cy 0, 10, .inl (fun _ => 0)))] := hD
  refine lv_aload_n C.1 C.2.1 dX3_init_60 rfl (lv_at hl 0 rfl) ?_
  refine lv_bipush (v := 10) C.1 C.2.1 dX3_init_61 (by decide) ?_
  refine va_newa (atype := .int) (a0 := (10, .inl (fun _ => 0))) (ty := .int) C.1 C.2.1 (C.2.2.2.2.2.1 _ mX3_3) rfl hK.1 hP hD hS hA (fun cA => by first | rfl | exact vp_cell_i _ _ _ | exact vp_cell_l _ _ _) (by decide) (N' := 10) rfl (Nat.le_of_ble_eq_true rfl) (Nat.le_of_ble_eq_true rfl) (Nat.le_of_ble_eq_true rfl) dX3_init_63 (fun q8 cA H hK9 hP hD hS => ?_)
  obtain rfl : cA = cy 0 := arr_same hK9 hK.1 0 rfl 5 rfl
  have hP : va_P D vwCl [(h0, .inr (3, [.int 0, .int 0, .int 0, .ref q1, .ref q2, .ref q3, .ref q4, .ref q5, .ref q6, .ref q7, .null, .null, .null, .null, .null, .null, .int 0, .int 0, .int 0])), (q1, .inl (cy 0, 10, .inl (fun _ => 0))), (q2, .inl (cy 0, 10, .inl (fun _ => 0))), (q3, .inl (cy 0, 10, .inl (fun _ => 0))), (q4, .inl (cy 0, 10, .inl (fun _ => 0))), (q5, .inl (cy 0, 10, .inl (fun _ => 0))), (q6, .inl (cy 0, 10, .inl (fun _ => 0))), (q7, .inl (cy 0, 10, .inl (fun _ => 0))), (q8, .inl (cy 0, 10, .inl (fun _ => 0)))] H := hP
  have hD : va_D A [(h0, .inr (3, [.int 0, .int 0, .int 0, .ref q1, .ref q2, .ref q3, .ref q4, .ref q5, .ref q6, .ref q7, .null, .null, .null, .null, .null, .null, .int 0, .int 0, .int 0])), (q1, .inl (cy 0, 10, .inl (fun _ => 0))), (q2, .inl (cy 0, 10, .inl (fun _ => 0))), (q3, .inl (cy 0, 10, .inl (fun _ => 0))), (q4, .inl (cy 0, 10, .inl (fun _ => 0))), (q5, .inl (cy 0, 10, .inl (fun _ => 0))), (q6, .inl (cy 0, 10, .inl (fun _ => 0))), (q7, .inl (cy 0, 10, .inl (fun _ => 0))), (q8, .inl (cy 0, 10, .inl (fun _ => 0)))] := hD
  clear hK9
  refine va_putF (D := D) (ci := 3) (v := .ref q8) (ty := .array .int) C.1 C.2.1 C.2.2.2.2.2.1 hX3_X3 tyX3 tyX3_ok nmX3 C.2.2.2.2.1 hK.1 hP hD hS 0 rfl rfl 10 (by decide) (C.2.2.2.2.2.1 _ mX3_12) (fun _ h => h) rfl hin rfl (by decide +kernel) rfl rfl (Nat.le_of_ble_eq_true rfl) dX3_init_65 (fun H locs hP hD hS => ?_)
  have hP : va_P D vwCl [(h0, .inr (3, [.int 0, .int 0, .int 0, .ref q1, .ref q2, .ref q3, .ref q4, .ref q5, .ref q6, .ref q7, .ref q8, .null, .null, .null, .null, .null, .int 0, .int 0, .int 0])), (q1, .inl (cy 0, 10, .inl (fun _ => 0))), (q2, .inl (cy 0, 10, .inl (fun _ => 0))), (q3, .inl (cy 0, 10, .inl (fun _ => 0))), (q4, .inl (cy 0, 10, .inl (fun _ => 0))), (q5, .inl (cy 0, 10, .inl (fun _ => 0))), (q6, .inl (cy 0, 10, .inl (fun _ => 0))), (q7, .inl (cy 0, 10, .inl (fun _ => 0))), (q8, .inl (cy 0, 10, .inl (fun _ => 0)))] H := hP
  have hD : va_D A [(h0, .inr (3, [.int 0, .int 0, .int 0, .ref q1, .ref q2, .ref q3, .ref q4, .ref q5, .ref q6, .ref q7, .ref q8, .null, .null, .null, .null, .null, .int 0, .int 0, .int 0])), (q1, .inl (cy 0, 10, .inl (fun _ => 0))), (q2, .inl (cy 0, 10, .inl (fun _ => 0))), (q3, .inl (cy 0, 10, .inl (fun _ => 0))), (q4, .inl (cy 0, 10, .inl (fun _ => 0))), (q5, .inl (cy 0, 10, .inl (fun _ => 0))), (q6, .inl (cy 0, 10, .inl (fun _ => 0))), (q7, .inl (cy 0, 10, .inl (fun _ => 0))), (q8, .inl (cy 0, 10, .inl (fun _ => 0)))] := hD
  refine lv_aload_n C.1 C.2.1 dX3_init_68 rfl (lv_at hl 0 rfl) ?_
  refine lv_bipush (v := 10) C.1 C.2.1 dX3_init_69 (by decide) ?_
  refine va_newa (atype := .int) (a0 := (10, .inl (fun _ => 0))) (ty := .int) C.1 C.2.1 (C.2.2.2.2.2.1 _ mX3_3) rfl hK.1 hP hD hS hA (fun cA => by first | rfl | exact vp_cell_i _ _ _ | exact vp_cell_l _ _ _) (by decide) (N' := 10) rfl (Nat.le_of_ble_eq_true rfl) (Nat.le_of_ble_eq_true rfl) (Nat.le_of_ble_eq_true rfl) dX3_init_71 (fun q9 cA H hK9 hP hD hS => ?_)
  obtain rfl : cA = cy 0 := arr_same hK9 hK.1 0 rfl 5 rfl
  have hP : va_P D vwCl [(h0, .inr (3, [.int 0, .int 0, .int 0, .ref q1, .ref q2, .ref q3, .ref q4, .ref q5, .ref q6, .ref q7, .ref q8, .null, .null, .null, .null, .null, .int 0, .int 0, .int 0])), (q1, .inl (cy 0, 10, .inl (fun _ => 0))), (q2, .inl (cy 0, 10, .inl (fun _ => 0))), (q3, .inl (cy 0, 10, .inl (fun _ => 0))), (q4, .inl (cy 0, 10, .inl (fun _ => 0))), (q5, .inl (cy 0, 10, .inl (fun _ => 0))), (q6, .inl (cy 0, 10, .inl (fun _ => 0))), (q7, .inl (cy 0, 10, .inl (fun _ => 0))), (q8, .inl (cy 0, 10, .inl (fun _ => 0))), (q9, .inl (cy 0, 10, .inl (fun _ => 0)))] H := hP
  have hD : va_D A [(h0, .inr (3, [.int 0, .int 0, .int 0, .ref q1, .ref q2, .ref q3, .ref q4, .ref q5, .ref q6, .ref q7, .ref q8, .null, .null, .null, .null, .null, .int 0, .int 0, .int 0])), (q1, .inl (cy 0, 10, .inl (fun _ => 0))), (q2, .inl (cy 0, 10, .inl (fun _ => 0))), (q3, .inl (cy 0, 10, .inl (fun _ => 0))), (q4, .inl (cy 0, 10, .inl (fun _ => 0))), (q5, .inl (cy 0, 10, .inl (fun _ => 0))), (q6, .inl (cy 0, 10, .inl (fun _ => 0))), (q7, .inl (cy 0, 10, .inl (fun _ => 0))), (q8, .inl (cy 0, 10, .inl (fun _ => 0))), (q9, .inl (cy 0, 10, .inl (fun _ => 0)))] := hD
  clear hK9
  refine va_putF (D := D) (ci := 3) (v := .ref q9) (ty := .array .int) C.1 C.2.1 C.2.2.2.2.2.1 hX3_X3 tyX3 tyX3_ok nmX3 C.2.2.2.2.1 hK.1 hP hD hS 0 rfl rfl 11 (by decide) (C.2.2.2.2.2.1 _ mX3_13) (fun _ h => h) rfl hin rfl (by decide +kernel) rfl rfl (Nat.le_of_ble_eq_true rfl) dX3_init_73 (fun H locs hP hD hS => ?_)
  have hP : va_P D vwCl [(h0, .inr (3, [.int 0, .int 0, .int 0, .ref q1, .ref q2, .ref q3, .ref q4, .ref q5, .ref q6, .ref q7, .ref q8, .ref q9, .null, .null, .null, .null, .int 0, .int 0, .int 0])), (q1, .inl (cy 0, 10, .inl (fun _ => 0))), (q2, .inl (cy 0, 10, .inl (fun _ => 0))), (q3, .inl (cy 0, 10, .inl (fun _ => 0))), (q4, .inl (cy 0, 10, .inl (fun _ => 0))), (q5, .inl (cy 0, 10, .inl (fun _ => 0))), (q6, .inl (cy 0, 10, .inl (fun _ => 0))), (q7, .inl (cy 0, 10, .inl (fun _ => 0))), (q8, .inl (cy 0, 10, .inl (fun _ => 0))), (q9, .inl (cy 0, 10, .inl (fun _ => 0)))] H := hP
  have hD : va_D A [(h0, .inr (3, [.int 0, .int 0, .int 0, .ref q1, .ref q2, .ref q3, .ref q4, .ref q5, .ref q6, .ref q7, .ref q8, .ref q9, .null, .null, .null, .null, .int 0, .int 0, .int 0])), (q1, .inl (cy 0, 10, .inl (fun _ => 0))), (q2, .inl (cy 0, 10, .inl (fun _ => 0))), (q3, .inl (cy 0, 10, .inl (fun _ => 0))), (q4, .inl (cy 0, 10, .inl (fun _ => 0))), (q5, .inl (cy 0, 10, .inl (fun _ => 0))), (q6, .inl (cy 0, 10, .inl (fun _ => 0))), (q7, .inl (cy 0, 10, .inl (fun _ => 0))), (q8, .inl (cy 0, 10, .inl (fun _ => 0))), (q9, .inl (cy 0, 10, .inl (fun _ => 0)))] := hD
  refine lv_aload_n C.1 C.2.1 dX3_init_76 rfl (lv_at hl 0 rfl) ?_
  refine lv_bipush (v := 12) C.1 C.2.1 dX3_init_77 (by decide) ?_
  refine va_newa (atype := .int) (a0 := (12, .inl (fun _ => 0))) (ty := .int) C.1 C.2.1 (C.2.2.2.2.2.1 _ mX3_3) rfl hK.1 hP hD hS hA (fun cA => by first | rfl | exact vp_cell_i _ _ _ | exact vp_cell_l _ _ _) (by decide) (N' := 12) rfl (Nat.le_of_ble_eq_true rfl) (Nat.le_of_ble_eq_true rfl) (Nat.le_of_ble_eq_true rfl) dX3_init_79 (fun q10 cA H hK9 hP hD hS => ?_)
  obtain rfl : cA = cy 0 := arr_same hK9 hK.1 0 rfl 5 rfl
  have hP : va_P D vwCl [(h0, .inr (3, [.int 0, .int 0, .int 0, .ref q1, .ref q2, .ref q3, .ref q4, .ref q5, .ref q6, .ref q7, .ref q8, .ref q9, .null, .null, .null, .null, .int 0, .int 0, .int 0])), (q1, .inl (cy 0, 10, .inl (fun _ => 0))), (q2, .inl (cy 0, 10, .inl (fun _ => 0))), (q3, .inl (cy 0, 10, .inl (fun _ => 0))), (q4, .inl (cy 0, 10, .inl (fun _ => 0))), (q5, .inl (cy 0, 10, .inl (fun _ => 0))), (q6, .inl (cy 0, 10, .inl (fun _ => 0))), (q7, .inl (cy 0, 10, .inl (fun _ => 0))), (q8, .inl (cy 0, 10, .inl (fun _ => 0))), (q9, .inl (cy 0, 10, .inl (fun _ => 0))), (q10, .inl (cy 0, 12, .inl (fun _ => 0)))] H := hP
  have hD : va_D A [(h0, .inr (3, [.int 0, .int 0, .int 0, .ref q1, .ref q2, .ref q3, .ref q4, .ref q5, .ref q6, .ref q7, .ref q8, .ref q9, .null, .null, .null, .null, .int 0, .int 0, .int 0])), (q1, .inl (cy 0, 10, .inl (fun _ => 0))), (q2, .inl (cy 0, 10, .inl (fun _ => 0))), (q3, .inl (cy 0, 10, .inl (fun _ => 0))), (q4, .inl (cy 0, 10, .inl (fun _ => 0))), (q5, .inl (cy 0, 10, .inl (fun _ => 0))), (q6, .inl (cy 0, 10, .inl (fun _ => 0))), (q7, .inl (cy 0, 10, .inl (fun _ => 0))), (q8, .inl (cy 0, 10, .inl (fun _ => 0))), (q9, .inl (cy 0, 10, .inl (fun _ => 0))), (q10, .inl (cy 0, 12, .inl (fun _ => 0)))] := hD
  clear hK9
  refine va_putF (D := D) (ci := 3) (v := .ref q10) (ty := .array .int) C.1 C.2.1 C.2.2.2.2.2.1 hX3_X3 tyX3 tyX3_ok nmX3 C.2.2.2.2.1 hK.1 hP hD hS 0 rfl rfl 12 (by decide) (C.2.2.2.2.2.1 _ mX3_14) (fun _ h => h) rfl hin rfl (by decide +kernel) rfl rfl (Nat.le_of_ble_eq_true rfl) dX3_init_81 (fun H locs hP hD hS => ?_)
  have hP : va_P D vwCl [(h0, .inr (3, [.int 0, .int 0, .int 0, .ref q1, .ref q2, .ref q3, .ref q4, .ref q5, .ref q6, .ref q7, .ref q8, .ref q9, .ref q10, .null, .null, .null, .int 0, .int 0, .int 0])), (q1, .inl (cy 0, 10, .inl (fun _ => 0))), (q2, .inl (cy 0, 10, .inl (fun _ => 0))), (q3, .inl (cy 0, 10, .inl (fun _ => 0))), (q4, .inl (cy 0, 10, .inl (fun _ => 0))), (q5, .inl (cy 0, 10, .inl (fun _ => 0))), (q6, .inl (cy 0, 10, .inl (fun _ => 0))), (q7, .inl (cy 0, 10, .inl (fun _ => 0))), (q8, .inl (cy 0, 10, .inl (fun _ => 0))), (q9, .inl (cy 0, 10, .inl (fun _ => 0))), (q10, .inl (cy 0, 12, .inl (fun _ => 0)))] H := hP
  have hD : va_D A [(h0, .inr (3, [.int 0, .int 0, .int 0, .ref q1, .ref q2, .ref q3, .ref q4, .ref q5, .ref q6, .ref q7, .ref q8, .ref q9, .ref q10, .null, .null, .null, .int 0, .int 0, .int 0])), (q1, .inl (cy 0, 10, .inl (fun _ => 0))), (q2, .inl (cy 0, 10, .inl (fun _ => 0))), (q3, .inl (cy 0, 10, .inl (fun _ => 0))), (q4, .inl (cy 0, 10, .inl (fun _ => 0))), (q5, .inl (cy 0, 10, .inl (fun _ => 0))), (q6, .inl (cy 0, 10, .inl (fun _ => 0))), (q7, .inl (cy 0, 10, .inl (fun _ => 0))), (q8, .inl (cy 0, 10, .inl (fun _ => 0))), (q9, .inl (cy 0, 10, .inl (fun _ => 0))), (q10, .inl (cy 0, 12, .inl (fun _ => 0)))] := hD
  refine lv_aload_n C.1 C.2.1 dX3_init_84 rfl (lv_at hl 0 rfl) ?_
  refine lv_bipush (v := 12) C.1 C.2.1 dX3_init_85 (by decide) ?_
  refine va_newa (atype := .int) (a0 := (12, .inl (fun _ => 0))) (ty := .int) C.1 C.2.1 (C.2.2.2.2.2.1 _ mX3_3) rfl hK.1 hP hD hS hA (fun cA => by first | rfl | exact vp_cell_i _ _ _ | exact vp_cell_l _ _ _) (by decide) (N' := 12) rfl (Nat.le_of_ble_eq_true rfl) (Nat.le_of_ble_eq_true rfl) (Nat.le_of_ble_eq_true rfl) dX3_init_87 (fun q11 cA H hK9 hP hD hS => ?_)
  obtain rfl : cA = cy 0 := arr_same hK9 hK.1 0 rfl 5 rfl
  have hP : va_P D vwCl [(h0, .inr (3, [.int 0, .int 0, .int 0, .ref q1, .ref q2, .ref q3, .ref q4, .ref q5, .ref q6, .ref q7, .ref q8, .ref q9, .ref q10, .null, .null, .null, .int 0, .int 0, .int 0])), (q1, .inl (cy 0, 10, .inl (fun _ => 0))), (q2, .inl (cy 0, 10, .inl (fun _ => 0))), (q3, .inl (cy 0, 10, .inl (fun _ => 0))), (q4, .inl (cy 0, 10, .inl (fun _ => 0))), (q5, .inl (cy 0, 10, .inl (fun _ => 0))), (q6, .inl (cy 0, 10, .inl (fun _ => 0))), (q7, .inl (cy 0, 10, .inl (fun _ => 0))), (q8, .inl (cy 0, 10, .inl (fun _ => 0))), (q9, .inl (cy 0, 10, .inl (fun _ => 0))), (q10, .inl (cy 0, 12, .inl (fun _ => 0))), (q11, .inl (cy 0, 12, .inl (fun _ => 0)))] H := hP
  have hD : va_D A [(h0, .inr (3, [.int 0, .int 0, .int 0, .ref q1, .ref q2, .ref q3, .ref q4, .ref q5, .ref q6, .ref q7, .ref q8, .ref q9, .ref q10, .null, .null, .null, .int 0, .int 0, .int 0])), (q1, .inl (cy 0, 10, .inl (fun _ => 0))), (q2, .inl (cy 0, 10, .inl (fun _ => 0))), (q3, .inl (cy 0, 10, .inl (fun _ => 0))), (q4, .inl (cy 0, 10, .inl (fun _ => 0))), (q5, .inl (cy 0, 10, .inl (fun _ => 0))), (q6, .inl (cy 0, 10, .inl (fun _ => 0))), (q7, .inl (cy 0, 10, .inl (fun _ => 0))), (q8, .inl (cy 0, 10, .inl (fun _ => 0))), (q9, .inl (cy 0, 10, .inl (fun _ => 0))), (q10, .inl (cy 0, 12, .inl (fun _ => 0))), (q11, .inl (cy 0, 12, .inl (fun _ => 0)))] := hD
  clear hK9
  refine va_putF (D := D) (ci := 3) (v := .ref q11) (ty := .array .int) C.1 C.2.1 C.2.2.2.2.2.1 hX3_X3 tyX3 tyX3_ok nmX3 C.2.2.2.2.1 hK.1 hP hD hS 0 rfl rfl 13 (by decide) (C.2.2.2.2.2.1 _ mX3_15) (fun _ h => h) rfl hin rfl (by decide +kernel) rfl rfl (Nat.le_of_ble_eq_true rfl) dX3_init_89 (fun H locs hP hD hS => ?_)
  have hP : va_P D vwCl [(h0, .inr (3, [.int 0, .int 0, .int 0, .ref q1, .ref q2, .ref q3, .ref q4, .ref q5, .ref q6, .ref q7, .ref q8, .ref q9, .ref q10, .ref q11, .null, .null, .int 0, .int 0, .int 0])), (q1, .inl (cy 0, 10, .inl (fun _ => 0))), (q2, .inl (cy 0, 10, .inl (fun _ => 0))), (q3, .inl (cy 0, 10, .inl (fun _ => 0))), (q4, .inl (cy 0, 10, .inl (fun _ => 0))), (q5, .inl (cy 0, 10, .inl (fun _ => 0))), (q6, .inl (cy 0, 10, .inl (fun _ => 0))), (q7, .inl (cy 0, 10, .inl (fun _ => 0))), (q8, .inl (cy 0, 10, .inl (fun _ => 0))), (q9, .inl (cy 0, 10, .inl (fun _ => 0))), (q10, .inl (cy 0, 12, .inl (fun _ => 0))), (q11, .inl (cy 0, 12, .inl (fun _ => 0)))] H := hP
  have hD : va_D A [(h0, .inr (3, [.int 0, .int 0, .int 0, .ref q1, .ref q2, .ref q3, .ref q4, .ref q5, .ref q6, .ref q7, .ref q8, .ref q9, .ref q10, .ref q11, .null, .null, .int 0, .int 0, .int 0])), (q1, .inl (cy 0, 10, .inl (fun _ => 0))), (q2, .inl (cy 0, 10, .inl (fun _ => 0))), (q3, .inl (cy 0, 10, .inl (fun _ => 0))), (q4, .inl (cy 0, 10, .inl (fun _ => 0))), (q5, .inl (cy 0, 10, .inl (fun _ => 0))), (q6, .inl (cy 0, 10, .inl (fun _ => 0))), (q7, .inl (cy 0, 10, .inl (fun _ => 0))), (q8, .inl (cy 0, 10, .inl (fun _ => 0))), (q9, .inl (cy 0, 10, .inl (fun _ => 0))), (q10, .inl (cy 0, 12, .inl (fun _ => 0))), (q11, .inl (cy 0, 12, .inl (fun _ => 0)))] := hD
  refine lv_aload_n C.1 C.2.1 dX3_init_92 rfl (lv_at hl 0 rfl) ?_
  refine lv_aload_n C.1 C.2.1 dX3_init_93 rfl (lv_at hl 1 rfl) ?_
  refine va_putF (D := D) (ci := 3) (v := .ref b1) (ty := .object "HissHorn$Readings") C.1 C.2.1 C.2.2.2.2.2.1 hX3_X3 tyX3 tyX3_ok nmX3 C.2.2.2.2.1 hK.1 hP hD hS 0 rfl rfl 14 (by decide) (C.2.2.2.2.2.1 _ mX3_16) (fun _ h => h) rfl hin rfl (by decide +kernel) rfl rfl (Nat.le_of_ble_eq_true rfl) dX3_init_94 (fun H locs hP hD hS => ?_)
  have hP : va_P D vwCl [(h0, .inr (3, [.int 0, .int 0, .int 0, .ref q1, .ref q2, .ref q3, .ref q4, .ref q5, .ref q6, .ref q7, .ref q8, .ref q9, .ref q10, .ref q11, .ref b1, .null, .int 0, .int 0, .int 0])), (q1, .inl (cy 0, 10, .inl (fun _ => 0))), (q2, .inl (cy 0, 10, .inl (fun _ => 0))), (q3, .inl (cy 0, 10, .inl (fun _ => 0))), (q4, .inl (cy 0, 10, .inl (fun _ => 0))), (q5, .inl (cy 0, 10, .inl (fun _ => 0))), (q6, .inl (cy 0, 10, .inl (fun _ => 0))), (q7, .inl (cy 0, 10, .inl (fun _ => 0))), (q8, .inl (cy 0, 10, .inl (fun _ => 0))), (q9, .inl (cy 0, 10, .inl (fun _ => 0))), (q10, .inl (cy 0, 12, .inl (fun _ => 0))), (q11, .inl (cy 0, 12, .inl (fun _ => 0)))] H := hP
  have hD : va_D A [(h0, .inr (3, [.int 0, .int 0, .int 0, .ref q1, .ref q2, .ref q3, .ref q4, .ref q5, .ref q6, .ref q7, .ref q8, .ref q9, .ref q10, .ref q11, .ref b1, .null, .int 0, .int 0, .int 0])), (q1, .inl (cy 0, 10, .inl (fun _ => 0))), (q2, .inl (cy 0, 10, .inl (fun _ => 0))), (q3, .inl (cy 0, 10, .inl (fun _ => 0))), (q4, .inl (cy 0, 10, .inl (fun _ => 0))), (q5, .inl (cy 0, 10, .inl (fun _ => 0))), (q6, .inl (cy 0, 10, .inl (fun _ => 0))), (q7, .inl (cy 0, 10, .inl (fun _ => 0))), (q8, .inl (cy 0, 10, .inl (fun _ => 0))), (q9, .inl (cy 0, 10, .inl (fun _ => 0))), (q10, .inl (cy 0, 12, .inl (fun _ => 0))), (q11, .inl (cy 0, 12, .inl (fun _ => 0)))] := hD
  refine lv_aload_n C.1 C.2.1 dX3_init_97 rfl (lv_at hl 0 rfl) ?_
  refine lv_aload_n C.1 C.2.1 dX3_init_98 rfl (lv_at hl 2 rfl) ?_
  refine va_putF (D := D) (ci := 3) (v := .ref b2) (ty := .object "HissHorn$Parts") C.1 C.2.1 C.2.2.2.2.2.1 hX3_X3 tyX3 tyX3_ok nmX3 C.2.2.2.2.1 hK.1 hP hD hS 0 rfl rfl 15 (by decide) (C.2.2.2.2.2.1 _ mX3_17) (fun _ h => h) rfl hin rfl (by decide +kernel) rfl rfl (Nat.le_of_ble_eq_true rfl) dX3_init_99 (fun H locs hP hD hS => ?_)
  have hP : va_P D vwCl [(h0, .inr (3, [.int 0, .int 0, .int 0, .ref q1, .ref q2, .ref q3, .ref q4, .ref q5, .ref q6, .ref q7, .ref q8, .ref q9, .ref q10, .ref q11, .ref b1, .ref b2, .int 0, .int 0, .int 0])), (q1, .inl (cy 0, 10, .inl (fun _ => 0))), (q2, .inl (cy 0, 10, .inl (fun _ => 0))), (q3, .inl (cy 0, 10, .inl (fun _ => 0))), (q4, .inl (cy 0, 10, .inl (fun _ => 0))), (q5, .inl (cy 0, 10, .inl (fun _ => 0))), (q6, .inl (cy 0, 10, .inl (fun _ => 0))), (q7, .inl (cy 0, 10, .inl (fun _ => 0))), (q8, .inl (cy 0, 10, .inl (fun _ => 0))), (q9, .inl (cy 0, 10, .inl (fun _ => 0))), (q10, .inl (cy 0, 12, .inl (fun _ => 0))), (q11, .inl (cy 0, 12, .inl (fun _ => 0)))] H := hP
  have hD : va_D A [(h0, .inr (3, [.int 0, .int 0, .int 0, .ref q1, .ref q2, .ref q3, .ref q4, .ref q5, .ref q6, .ref q7, .ref q8, .ref q9, .ref q10, .ref q11, .ref b1, .ref b2, .int 0, .int 0, .int 0])), (q1, .inl (cy 0, 10, .inl (fun _ => 0))), (q2, .inl (cy 0, 10, .inl (fun _ => 0))), (q3, .inl (cy 0, 10, .inl (fun _ => 0))), (q4, .inl (cy 0, 10, .inl (fun _ => 0))), (q5, .inl (cy 0, 10, .inl (fun _ => 0))), (q6, .inl (cy 0, 10, .inl (fun _ => 0))), (q7, .inl (cy 0, 10, .inl (fun _ => 0))), (q8, .inl (cy 0, 10, .inl (fun _ => 0))), (q9, .inl (cy 0, 10, .inl (fun _ => 0))), (q10, .inl (cy 0, 12, .inl (fun _ => 0))), (q11, .inl (cy 0, 12, .inl (fun _ => 0)))] := hD
  exact W.cs (cells' := 11) (slots' := 114) rfl rfl (W.vret C.1 C.2.1 C.2.2.2.1 (fun t ht _ => ⟨⟨(q1, q2, q3, q4, q5, q6, q7, q8, q9, q10, q11), rfl, trivial, by rw [ht]; exact hP, hD⟩, hS.F ht⟩) hS.2.2 dX3_init_102 C.2.2.2.2.2.2)

theorem zdX2_init_0 : (and (and (and (and (and (zk cX2_init 0 (.aload_n 0) 1) (zk cX2_init 1 (.invokespecial 3) 3)) (and (zk cX2_init 4 (.aload_n 0) 1) (zk cX2_init 5 (.bipush 121) 2))) (and (and (zk cX2_init 7 (.newarray .boolean) 2) (zk cX2_init 9 (.putfield 9) 3)) (and (zk cX2_init 12 (.aload_n 0) 1) (zk cX2_init 13 (.bipush 60) 2)))) (and (and (and (zk cX2_init 15 (.newarray .int) 2) (zk cX2_init 17 (.putfield 15) 3)) (and (zk cX2_init 20 (.aload_n 0) 1) (zk cX2_init 21 (.bipush 60) 2))) (and (and (zk cX2_init 23 (.newarray .int) 2) (zk cX2_init 25 (.putfield 19) 3)) (and (zk cX2_init 28 (.aload_n 0) 1) (zk cX2_init 29 (.bipush 60) 2))))) (and (and (and (and (zk cX2_init 31 (.newarray .int) 2) (zk cX2_init 33 (.putfield 22) 3)) (and (zk cX2_init 36 (.aload_n 0) 1) (zk cX2_init 37 (.bipush 40) 2))) (and (and (zk cX2_init 39 (.newarray .int) 2) (zk cX2_init 41 (.putfield 25) 3)) (and (zk cX2_init 44 (.aload_n 0) 1) (zk cX2_init 45 (.bipush 40) 2)))) (and (and (and (zk cX2_init 47 (.newarray .int) 2) (zk cX2_init 49 (.putfield 28) 3)) (and (zk cX2_init 52 (.aload_n 0) 1) (zk cX2_init 53 (.bipush 40) 2))) (and (and (zk cX2_init 55 (.newarray .int) 2) (zk cX2_init 57 (.putfield 31) 3)) (and (zk cX2_init 60 (.aload_n 0) 1) (zk cX2_init 61 (.bipush 20) 2)))))) = true := by decide +kernel
theorem dX2_init_0 : decode cX2_init 0 = .ok (.aload_n 0, 1) := zk_of (zk_l (zk_l (zk_l (zk_l (zk_l zdX2_init_0)))))
theorem dX2_init_1 : decode cX2_init 1 = .ok (.invokespecial 3, 3) := zk_of (zk_r (zk_l (zk_l (zk_l (zk_l zdX2_init_0)))))
theorem dX2_init_4 : decode cX2_init 4 = .ok (.aload_n 0, 1) := zk_of (zk_l (zk_r (zk_l (zk_l (zk_l zdX2_init_0)))))
theorem dX2_init_5 : decode cX2_init 5 = .ok (.bipush 121, 2) := zk_of (zk_r (zk_r (zk_l (zk_l (zk_l zdX2_init_0)))))
theorem dX2_init_7 : decode cX2_init 7 = .ok (.newarray .boolean, 2) := zk_of (zk_l (zk_l (zk_r (zk_l (zk_l zdX2_init_0)))))
theorem dX2_init_9 : decode cX2_init 9 = .ok (.putfield 9, 3) := zk_of (zk_r (zk_l (zk_r (zk_l (zk_l zdX2_init_0)))))
theorem dX2_init_12 : decode cX2_init 12 = .ok (.aload_n 0, 1) := zk_of (zk_l (zk_r (zk_r (zk_l (zk_l zdX2_init_0)))))
theorem dX2_init_13 : decode cX2_init 13 = .ok (.bipush 60, 2) := zk_of (zk_r (zk_r (zk_r (zk_l (zk_l zdX2_init_0)))))
theorem dX2_init_15 : decode cX2_init 15 = .ok (.newarray .int, 2) := zk_of (zk_l (zk_l (zk_l (zk_r (zk_l zdX2_init_0)))))
theorem dX2_init_17 : decode cX2_init 17 = .ok (.putfield 15, 3) := zk_of (zk_r (zk_l (zk_l (zk_r (zk_l zdX2_init_0)))))
theorem dX2_init_20 : decode cX2_init 20 = .ok (.aload_n 0, 1) := zk_of (zk_l (zk_r (zk_l (zk_r (zk_l zdX2_init_0)))))
theorem dX2_init_21 : decode cX2_init 21 = .ok (.bipush 60, 2) := zk_of (zk_r (zk_r (zk_l (zk_r (zk_l zdX2_init_0)))))
theorem dX2_init_23 : decode cX2_init 23 = .ok (.newarray .int, 2) := zk_of (zk_l (zk_l (zk_r (zk_r (zk_l zdX2_init_0)))))
theorem dX2_init_25 : decode cX2_init 25 = .ok (.putfield 19, 3) := zk_of (zk_r (zk_l (zk_r (zk_r (zk_l zdX2_init_0)))))
theorem dX2_init_28 : decode cX2_init 28 = .ok (.aload_n 0, 1) := zk_of (zk_l (zk_r (zk_r (zk_r (zk_l zdX2_init_0)))))
theorem dX2_init_29 : decode cX2_init 29 = .ok (.bipush 60, 2) := zk_of (zk_r (zk_r (zk_r (zk_r (zk_l zdX2_init_0)))))
theorem dX2_init_31 : decode cX2_init 31 = .ok (.newarray .int, 2) := zk_of (zk_l (zk_l (zk_l (zk_l (zk_r zdX2_init_0)))))
theorem dX2_init_33 : decode cX2_init 33 = .ok (.putfield 22, 3) := zk_of (zk_r (zk_l (zk_l (zk_l (zk_r zdX2_init_0)))))
theorem dX2_init_36 : decode cX2_init 36 = .ok (.aload_n 0, 1) := zk_of (zk_l (zk_r (zk_l (zk_l (zk_r zdX2_init_0)))))
theorem dX2_init_37 : decode cX2_init 37 = .ok (.bipush 40, 2) := zk_of (zk_r (zk_r (zk_l (zk_l (zk_r zdX2_init_0)))))
theorem dX2_init_39 : decode cX2_init 39 = .ok (.newarray .int, 2) := zk_of (zk_l (zk_l (zk_r (zk_l (zk_r zdX2_init_0)))))
theorem dX2_init_41 : decode cX2_init 41 = .ok (.putfield 25, 3) := zk_of (zk_r (zk_l (zk_r (zk_l (zk_r zdX2_init_0)))))
theorem dX2_init_44 : decode cX2_init 44 = .ok (.aload_n 0, 1) := zk_of (zk_l (zk_r (zk_r (zk_l (zk_r zdX2_init_0)))))
theorem dX2_init_45 : decode cX2_init 45 = .ok (.bipush 40, 2) := zk_of (zk_r (zk_r (zk_r (zk_l (zk_r zdX2_init_0)))))
theorem dX2_init_47 : decode cX2_init 47 = .ok (.newarray .int, 2) := zk_of (zk_l (zk_l (zk_l (zk_r (zk_r zdX2_init_0)))))
theorem dX2_init_49 : decode cX2_init 49 = .ok (.putfield 28, 3) := zk_of (zk_r (zk_l (zk_l (zk_r (zk_r zdX2_init_0)))))
theorem dX2_init_52 : decode cX2_init 52 = .ok (.aload_n 0, 1) := zk_of (zk_l (zk_r (zk_l (zk_r (zk_r zdX2_init_0)))))
theorem dX2_init_53 : decode cX2_init 53 = .ok (.bipush 40, 2) := zk_of (zk_r (zk_r (zk_l (zk_r (zk_r zdX2_init_0)))))
theorem dX2_init_55 : decode cX2_init 55 = .ok (.newarray .int, 2) := zk_of (zk_l (zk_l (zk_r (zk_r (zk_r zdX2_init_0)))))
theorem dX2_init_57 : decode cX2_init 57 = .ok (.putfield 31, 3) := zk_of (zk_r (zk_l (zk_r (zk_r (zk_r zdX2_init_0)))))
theorem dX2_init_60 : decode cX2_init 60 = .ok (.aload_n 0, 1) := zk_of (zk_l (zk_r (zk_r (zk_r (zk_r zdX2_init_0)))))
theorem dX2_init_61 : decode cX2_init 61 = .ok (.bipush 20, 2) := zk_of (zk_r (zk_r (zk_r (zk_r (zk_r zdX2_init_0)))))
theorem zdX2_init_63 : (and (and (and (and (and (zk cX2_init 63 (.newarray .int) 2) (zk cX2_init 65 (.putfield 34) 3)) (zk cX2_init 68 (.aload_n 0) 1)) (and (zk cX2_init 69 (.bipush 20) 2) (zk cX2_init 71 (.newarray .int) 2))) (and (and (and (zk cX2_init 73 (.putfield 37) 3) (zk cX2_init 76 (.aload_n 0) 1)) (zk cX2_init 77 (.bipush 40) 2)) (and (zk cX2_init 79 (.newarray .long) 2) (zk cX2_init 81 (.putfield 40) 3)))) (and (and (and (and (zk cX2_init 84 (.aload_n 0) 1) (zk cX2_init 85 (.sipush 968) 3)) (zk cX2_init 88 (.newarray .long) 2)) (and (zk cX2_init 90 (.putfield 44) 3) (zk cX2_init 93 (.aload_n 0) 1))) (and (and (zk cX2_init 94 (.sipush 968) 3) (zk cX2_init 97 (.newarray .long) 2)) (and (zk cX2_init 99 (.putfield 47) 3) (zk cX2_init 102 (.return_) 1))))) = true := by decide +kernel
theorem dX2_init_63 : decode cX2_init 63 = .ok (.newarray .int, 2) := zk_of (zk_l (zk_l (zk_l (zk_l (zk_l zdX2_init_63)))))
theorem dX2_init_65 : decode cX2_init 65 = .ok (.putfield 34, 3) := zk_of (zk_r (zk_l (zk_l (zk_l (zk_l zdX2_init_63)))))
theorem dX2_init_68 : decode cX2_init 68 = .ok (.aload_n 0, 1) := zk_of (zk_r (zk_l (zk_l (zk_l zdX2_init_63))))
theorem dX2_init_69 : decode cX2_init 69 = .ok (.bipush 20, 2) := zk_of (zk_l (zk_r (zk_l (zk_l zdX2_init_63))))
theorem dX2_init_71 : decode cX2_init 71 = .ok (.newarray .int, 2) := zk_of (zk_r (zk_r (zk_l (zk_l zdX2_init_63))))
theorem dX2_init_73 : decode cX2_init 73 = .ok (.putfield 37, 3) := zk_of (zk_l (zk_l (zk_l (zk_r (zk_l zdX2_init_63)))))
theorem dX2_init_76 : decode cX2_init 76 = .ok (.aload_n 0, 1) := zk_of (zk_r (zk_l (zk_l (zk_r (zk_l zdX2_init_63)))))
theorem dX2_init_77 : decode cX2_init 77 = .ok (.bipush 40, 2) := zk_of (zk_r (zk_l (zk_r (zk_l zdX2_init_63))))
theorem dX2_init_79 : decode cX2_init 79 = .ok (.newarray .long, 2) := zk_of (zk_l (zk_r (zk_r (zk_l zdX2_init_63))))
theorem dX2_init_81 : decode cX2_init 81 = .ok (.putfield 40, 3) := zk_of (zk_r (zk_r (zk_r (zk_l zdX2_init_63))))
theorem dX2_init_84 : decode cX2_init 84 = .ok (.aload_n 0, 1) := zk_of (zk_l (zk_l (zk_l (zk_l (zk_r zdX2_init_63)))))
theorem dX2_init_85 : decode cX2_init 85 = .ok (.sipush 968, 3) := zk_of (zk_r (zk_l (zk_l (zk_l (zk_r zdX2_init_63)))))
theorem dX2_init_88 : decode cX2_init 88 = .ok (.newarray .long, 2) := zk_of (zk_r (zk_l (zk_l (zk_r zdX2_init_63))))
theorem dX2_init_90 : decode cX2_init 90 = .ok (.putfield 44, 3) := zk_of (zk_l (zk_r (zk_l (zk_r zdX2_init_63))))
theorem dX2_init_93 : decode cX2_init 93 = .ok (.aload_n 0, 1) := zk_of (zk_r (zk_r (zk_l (zk_r zdX2_init_63))))
theorem dX2_init_94 : decode cX2_init 94 = .ok (.sipush 968, 3) := zk_of (zk_l (zk_l (zk_r (zk_r zdX2_init_63))))
theorem dX2_init_97 : decode cX2_init 97 = .ok (.newarray .long, 2) := zk_of (zk_r (zk_l (zk_r (zk_r zdX2_init_63))))
theorem dX2_init_99 : decode cX2_init 99 = .ok (.putfield 47, 3) := zk_of (zk_l (zk_r (zk_r (zk_r zdX2_init_63))))
theorem dX2_init_102 : decode cX2_init 102 = .ok (.return_, 1) := zk_of (zk_r (zk_r (zk_r (zk_r zdX2_init_63))))
/-- HissHorn$Houses() -/
theorem mX2_0 : Cond.methodLink RX2 3 objectInit ∈ wsX2_init := (List.mem_cons_of_mem _ (List.mem_append_left _ (List.mem_of_getElem? (i := 0) rfl)))
theorem mX2_1 : Cond.instanceMethod objectInit ∈ wsX2_init := (List.mem_cons_of_mem _ (List.mem_append_left _ (List.mem_of_getElem? (i := 1) rfl)))
theorem mX2_2 : Cond.code objectInit ⟨#[0xb1]⟩ 1 none ∈ wsX2_init := (List.mem_cons_of_mem _ (List.mem_append_left _ (List.mem_of_getElem? (i := 2) rfl)))
theorem mX2_3 : Cond.arrayClass .boolean ∈ wsX2_init := (List.mem_cons_of_mem _ (List.mem_append_left _ (List.mem_of_getElem? (i := 3) rfl)))
theorem mX2_4 : Cond.fieldLink RX2 9 "HissHorn$Houses" "busy" "[Z" ∈ wsX2_init := (List.mem_cons_of_mem _ (List.mem_append_left _ (List.mem_of_getElem? (i := 4) rfl)))
theorem hX2_X2 : ∀ w ∈ u_ws RX2 TX2 18, w ∈ wsX2_init := fun w h => (List.mem_cons_of_mem _ (List.mem_append_right _ h))
theorem mX2_6 : Cond.arrayClass .int ∈ wsX2_init := (List.mem_cons_of_mem _ (List.mem_append_left _ (List.mem_of_getElem? (i := 5) rfl)))
theorem mX2_7 : Cond.fieldLink RX2 15 "HissHorn$Houses" "letterFrom" "[I" ∈ wsX2_init := (List.mem_cons_of_mem _ (List.mem_append_left _ (List.mem_of_getElem? (i := 6) rfl)))
theorem mX2_8 : Cond.fieldLink RX2 19 "HissHorn$Houses" "letterTo" "[I" ∈ wsX2_init := (List.mem_cons_of_mem _ (List.mem_append_left _ (List.mem_of_getElem? (i := 7) rfl)))
theorem mX2_9 : Cond.fieldLink RX2 22 "HissHorn$Houses" "letterDay" "[I" ∈ wsX2_init := (List.mem_cons_of_mem _ (List.mem_append_left _ (List.mem_of_getElem? (i := 8) rfl)))
theorem mX2_10 : Cond.fieldLink RX2 25 "HissHorn$Houses" "printFrom" "[I" ∈ wsX2_init := (List.mem_cons_of_mem _ (List.mem_append_left _ (List.mem_of_getElem? (i := 9) rfl)))
theorem mX2_11 : Cond.fieldLink RX2 28 "HissHorn$Houses" "printTo" "[I" ∈ wsX2_init := (List.mem_cons_of_mem _ (List.mem_append_left _ (List.mem_of_getElem? (i := 10) rfl)))
theorem mX2_12 : Cond.fieldLink RX2 31 "HissHorn$Houses" "printDay" "[I" ∈ wsX2_init := (List.mem_cons_of_mem _ (List.mem_append_left _ (List.mem_of_getElem? (i := 11) rfl)))
theorem mX2_13 : Cond.fieldLink RX2 34 "HissHorn$Houses" "paperFrom" "[I" ∈ wsX2_init := (List.mem_cons_of_mem _ (List.mem_append_left _ (List.mem_of_getElem? (i := 12) rfl)))
theorem mX2_14 : Cond.fieldLink RX2 37 "HissHorn$Houses" "paperTo" "[I" ∈ wsX2_init := (List.mem_cons_of_mem _ (List.mem_append_left _ (List.mem_of_getElem? (i := 13) rfl)))
theorem mX2_15 : Cond.arrayClass .long ∈ wsX2_init := (List.mem_cons_of_mem _ (List.mem_append_left _ (List.mem_of_getElem? (i := 14) rfl)))
theorem mX2_16 : Cond.fieldLink RX2 40 "HissHorn$Houses" "meets" "[J" ∈ wsX2_init := (List.mem_cons_of_mem _ (List.mem_append_left _ (List.mem_of_getElem? (i := 15) rfl)))
theorem mX2_17 : Cond.fieldLink RX2 44 "HissHorn$Houses" "told" "[J" ∈ wsX2_init := (List.mem_cons_of_mem _ (List.mem_append_left _ (List.mem_of_getElem? (i := 16) rfl)))
theorem mX2_18 : Cond.fieldLink RX2 47 "HissHorn$Houses" "known" "[J" ∈ wsX2_init := (List.mem_cons_of_mem _ (List.mem_append_left _ (List.mem_of_getElem? (i := 17) rfl)))
abbrev atX2 (cy : Nat → ClassId) (st : Nat → Nat) (h0 : Nat) (q : Nat × Nat × Nat × Nat × Nat × Nat × Nat × Nat × Nat × Nat × Nat × Nat) : va_W := match q with
  | (q1, q2, q3, q4, q5, q6, q7, q8, q9, q10, q11, q12) => [(h0, .inr (2, [.int 0, .int 0, .int 0, .int 0, .ref q1, .ref q2, .ref q3, .ref q4, .ref q5, .ref q6, .ref q7, .ref q8, .ref q9, .ref q10, .long 0, .ref q11, .ref q12, .int 0])), (q1, .inl (cy 2, 121, .inl (fun _ => 0))), (q2, .inl (cy 0, 60, .inl (fun _ => 0))), (q3, .inl (cy 0, 60, .inl (fun _ => 0))), (q4, .inl (cy 0, 60, .inl (fun _ => 0))), (q5, .inl (cy 0, 40, .inl (fun _ => 0))), (q6, .inl (cy 0, 40, .inl (fun _ => 0))), (q7, .inl (cy 0, 40, .inl (fun _ => 0))), (q8, .inl (cy 0, 20, .inl (fun _ => 0))), (q9, .inl (cy 0, 20, .inl (fun _ => 0))), (q10, .inl (cy 1, 40, .inr (.inl (fun _ => 0)))), (q11, .inl (cy 1, 968, .inr (.inl (fun _ => 0)))), (q12, .inl (cy 1, 968, .inr (.inl (fun _ => 0))))]
def rmkX2 : Room := { frames := 1, cells := 12, slots := 2437, locals := 12 }
set_option maxHeartbeats 8000000 in
set_option maxRecDepth 100000 in
theorem kcX2 (l : Launch) (D : va_G) (cy : Nat → ClassId) (st : Nat → Nat) (h0 sz : Nat) (hst : st 100 ≤ h0) : Met l yX2_init wsX2_init rmkX2 (va_Pc [.ref h0] (fun U => U.heap.size = sz ∧ va_P D vwCl [(h0, .inr (2, [.int 0, .int 0, .int 0, .int 0, .null, .null, .null, .null, .null, .null, .null, .null, .null, .null, .long 0, .null, .null, .int 0]))] U.heap ∧ Ky D [(cy 0, .int), (cy 1, .long), (cy 2, .boolean), (cy 3, .byte), (cy 4, .object "HissHorn$Text")] st U)) (va_Qv (fun (_ : Nat × Nat × Nat × Nat × Nat × Nat × Nat × Nat × Nat × Nat × Nat × Nat) => True) (fun q t => va_P D vwCl (atX2 cy st h0 q) t.heap ∧ va_D (Ax (fun a => a = h0) sz) (atX2 cy st h0 q)) (Ax (fun a => a = h0) sz)) 12 2437 (Ax (fun a => a = h0) sz) := by
  refine Met.ofW (cc := cX2_init) (maxL := 1) (ret := none) (by decide) rfl ?_
  intro p e s m args below meth c s₁ B hml hv
  obtain ⟨rfl, hsz, hP, hK⟩ := hv
  subst hsz
  have C : Cx RX2 cX2_init 1 none wsX2_init p s m _ meth c := ⟨B.exec, B.bytes, hml, B.returns, findClass_of_methodNamed B.named, atoms_spec (ws := wsX2_init) B.pre, B.notSynchronized⟩
  have hin : meth.name = "<init>" := (name_of_methodNamed B.named B.method).1
  generalize hAe : Ax (fun a => a = h0) s.heap.size = A
  have hA : ∀ q : Nat, s.heap.size ≤ q → A q := fun q h => by rw [← hAe]; exact Or.inr h
  have hAs : ∀ q : Nat, A q → st 100 ≤ q := fun q h => by
    rw [← hAe] at h
    exact h.elim (fun z => by rw [z]; exact hst) (fun z => Nat.le_trans hK.2.2.2.1 z)
  have hD : va_D A [(h0, .inr (2, [.int 0, .int 0, .int 0, .int 0, .null, .null, .null, .null, .null, .null, .null, .null, .null, .null, .long 0, .null, .null, .int 0]))] := D_one (by rw [← hAe]; exact Or.inl rfl)
  have hS : va_S A s.heap s.heap [] := va_S.rf
  have hl := lv_entry ([.ref h0]) (n := 1) (Nat.le_of_ble_eq_true rfl)
  rw [lg_entry_eq]
  generalize (lg_sl ([.ref h0]) ++ List.replicate (1 - (lg_sl ([.ref h0])).length) Slot.unset).toArray = ls at hl ⊢
  have hl : lv_has ls 1 [(0, .ref h0)] := hl
  refine lv_aload_n C.1 C.2.1 dX2_init_0 rfl (lv_at hl 0 rfl) ?_
  refine W.objInit C.1 C.2.1 C.2.2.2.2.1 (C.2.2.2.2.2.1 _ mX2_0) (C.2.2.2.2.2.1 _ mX2_1) (C.2.2.2.2.2.1 _ mX2_2) rfl (by rw [C.2.2.1]; exact hl.1) rfl dX2_init_1 (Nat.le_of_ble_eq_true rfl) (Nat.le_of_ble_eq_true rfl) ?_
  refine W.eq (g2 := F0 m 4 ls []) rfl ?_
  refine lv_aload_n C.1 C.2.1 dX2_init_4 rfl (lv_at hl 0 rfl) ?_
  refine lv_bipush (v := 121) C.1 C.2.1 dX2_init_5 (by decide) ?_
  refine va_newa (atype := .boolean) (a0 := (121, .inl (fun _ => 0))) (ty := .boolean) C.1 C.2.1 (C.2.2.2.2.2.1 _ mX2_3) rfl hK.1 hP hD hS hA (fun cA => by first | rfl | exact vp_cell_i _ _ _ | exact vp_cell_l _ _ _) (by decide) (N' := 121) rfl (Nat.le_of_ble_eq_true rfl) (Nat.le_of_ble_eq_true rfl) (Nat.le_of_ble_eq_true rfl) dX2_init_7 (fun q1 cA H hK9 hP hD hS => ?_)
  obtain rfl : cA = cy 2 := arr_same hK9 hK.1 2 rfl 5 rfl
  have hP : va_P D vwCl [(h0, .inr (2, [.int 0, .int 0, .int 0, .int 0, .null, .null, .null, .null, .null, .null, .null, .null, .null, .null, .long 0, .null, .null, .int 0])), (q1, .inl (cy 2, 121, .inl (fun _ => 0)))] H := hP
  have hD : va_D A [(h0, .inr (2, [.int 0, .int 0, .int 0, .int 0, .null, .null, .null, .null, .null, .null, .null, .null, .null, .null, .long 0, .null, .null, .int 0])), (q1, .inl (cy 2, 121, .inl (fun _ => 0)))] := hD
  clear hK9
  refine va_putF (D := D) (ci := 2) (v := .ref q1) (ty := .array .boolean) C.1 C.2.1 C.2.2.2.2.2.1 hX2_X2 tyX2 tyX2_ok nmX2 C.2.2.2.2.1 hK.1 hP hD hS 0 rfl rfl 4 (by decide) (C.2.2.2.2.2.1 _ mX2_4) (fun _ h => h) rfl hin rfl (by decide +kernel) rfl rfl (Nat.le_of_ble_eq_true rfl) dX2_init_9 (fun H locs hP hD hS => ?_)
  have hP : va_P D vwCl [(h0, .inr (2, [.int 0, .int 0, .int 0, .int 0, .ref q1, .null, .null, .null, .null, .null, .null, .null, .null, .null, .long 0, .null, .null, .int 0])), (q1, .inl (cy 2, 121, .inl (fun _ => 0)))] H := hP
  have hD : va_D A [(h0, .inr (2, [.int 0, .int 0, .int 0, .int 0, .ref q1, .null, .null, .null, .null, .null, .null, .null, .null, .null, .long 0, .null, .null, .int 0])), (q1, .inl (cy 2, 121, .inl (fun _ => 0)))] := hD
  refine lv_aload_n C.1 C.2.1 dX2_init_12 rfl (lv_at hl 0 rfl) ?_
  refine lv_bipush (v := 60) C.1 C.2.1 dX2_init_13 (by decide) ?_
  refine va_newa (atype := .int) (a0 := (60, .inl (fun _ => 0))) (ty := .int) C.1 C.2.1 (C.2.2.2.2.2.1 _ mX2_6) rfl hK.1 hP hD hS hA (fun cA => by first | rfl | exact vp_cell_i _ _ _ | exact vp_cell_l _ _ _) (by decide) (N' := 60) rfl (Nat.le_of_ble_eq_true rfl) (Nat.le_of_ble_eq_true rfl) (Nat.le_of_ble_eq_true rfl) dX2_init_15 (fun q2 cA H hK9 hP hD hS => ?_)
  obtain rfl : cA = cy 0 := arr_same hK9 hK.1 0 rfl 5 rfl
  have hP : va_P D vwCl [(h0, .inr (2, [.int 0, .int 0, .int 0, .int 0, .ref q1, .null, .null, .null, .null, .null, .null, .null, .null, .null, .long 0, .null, .null, .int 0])), (q1, .inl (cy 2, 121, .inl (fun _ => 0))), (q2, .inl (cy 0, 60, .inl (fun _ => 0)))] H := hP
  have hD : va_D A [(h0, .inr (2, [.int 0, .int 0, .int 0, .int 0, .ref q1, .null, .null, .null, .null, .null, .null, .null, .null, .null, .long 0, .null, .null, .int 0])), (q1, .inl (cy 2, 121, .inl (fun _ => 0))), (q2, .inl (cy 0, 60, .inl (fun _ => 0)))] := hD
  clear hK9
  refine va_putF (D := D) (ci := 2) (v := .ref q2) (ty := .array .int) C.1 C.2.1 C.2.2.2.2.2.1 hX2_X2 tyX2 tyX2_ok nmX2 C.2.2.2.2.1 hK.1 hP hD hS 0 rfl rfl 5 (by decide) (C.2.2.2.2.2.1 _ mX2_7) (fun _ h => h) rfl hin rfl (by decide +kernel) rfl rfl (Nat.le_of_ble_eq_true rfl) dX2_init_17 (fun H locs hP hD hS => ?_)
  have hP : va_P D vwCl [(h0, .inr (2, [.int 0, .int 0, .int 0, .int 0, .ref q1, .ref q2, .null, .null, .null, .null, .null, .null, .null, .null, .long 0, .null, .null, .int 0])), (q1, .inl (cy 2, 121, .inl (fun _ => 0))), (q2, .inl (cy 0, 60, .inl (fun _ => 0)))] H := hP
  have hD : va_D A [(h0, .inr (2, [.int 0, .int 0, .int 0, .int 0, .ref q1, .ref q2, .null, .null, .null, .null, .null, .null, .null, .null, .long 0, .null, .null, .int 0])), (q1, .inl (cy 2, 121, .inl (fun _ => 0))), (q2, .inl (cy 0, 60, .inl (fun _ => 0)))] := hD
  refine lv_aload_n C.1 C.2.1 dX2_init_20 rfl (lv_at hl 0 rfl) ?_
  refine lv_bipush (v := 60) C.1 C.2.1 dX2_init_21 (by decide) ?_
  refine va_newa (atype := .int) (a0 := (60, .inl (fun _ => 0))) (ty := .int) C.1 C.2.1 (C.2.2.2.2.2.1 _ mX2_6) rfl hK.1 hP hD hS hA (fun cA => by first | rfl | exact vp_cell_i _ _ _ | exact vp_cell_l _ _ _) (by decide) (N' := 60) rfl (Nat.le_of_ble_eq_true rfl) (Nat.le_of_ble_eq_true rfl) (Nat.le_of_ble_eq_true rfl) dX2_init_23 (fun q3 cA H hK9 hP hD hS => ?_)
  obtain rfl : cA = cy 0 := arr_same hK9 hK.1 0 rfl 5 rfl
  have hP : va_P D vwCl [(h0, .inr (2, [.int 0, .int 0, .int 0, .int 0, .ref q1, .ref q2, .null, .null, .null, .null, .null, .null, .null, .null, .long 0, .null, .null, .int 0])), (q1, .inl (cy 2, 121, .inl (fun _ => 0))), (q2, .inl (cy 0, 60, .inl (fun _ => 0))), (q3, .inl (cy 0, 60, .inl (fun _ => 0)))] H := hP
  have hD : va_D A [(h0, .inr (2, [.int 0, .int 0, .int 0, .int 0, .ref q1, .ref q2, .null, .null, .null, .null, .null, .null, .null, .null, .long 0, .null, .null, .int 0])), (q1, .inl (cy 2, 121, .inl (fun _ => 0))), (q2, .inl (cy 0, 60, .inl (fun _ => 0))), (q3, .inl (cy 0, 60, .inl (fun _ => 0)))] := hD
  clear hK9
  refine va_putF (D := D) (ci := 2) (v := .ref q3) (ty := .array .int) C.1 C.2.1 C.2.2.2.2.2.1 hX2_X2 tyX2 tyX2_ok nmX2 C.2.2.2.2.1 hK.1 hP hD hS 0 rfl rfl 6 (by decide) (C.2.2.2.2.2.1 _ mX2_8) (fun _ h => h) rfl hin rfl (by decide +kernel) rfl rfl (Nat.le_of_ble_eq_true rfl) dX2_init_25 (fun H locs hP hD hS => ?_)
  have hP : va_P D vwCl [(h0, .inr (2, [.int 0, .int 0, .int 0, .int 0, .ref q1, .ref q2, .ref q3, .null, .null, .null, .null, .null, .null, .null, .long 0, .null, .null, .int 0])), (q1, .inl (cy 2, 121, .inl (fun _ => 0))), (q2, .inl (cy 0, 60, .inl (fun _ => 0))), (q3, .inl (cy 0, 60, .inl (fun _ => 0)))] H := hP
  have hD : va_D A [(h0, .inr (2, [.int 0, .int 0, .int 0, .int 0, .ref q1, .ref q2, .ref q3, .null, .null, .null, .null, .null, .null, .null, .long 0, .null, .null, .int 0])), (q1, .inl (cy 2, 121, .inl (fun _ => 0))), (q2, .inl (cy 0, 60, .inl (fun _ => 0))), (q3, .inl (cy 0, 60, .inl (fun _ => 0)))] := hD
  refine lv_aload_n C.1 C.2.1 dX2_init_28 rfl (lv_at hl 0 rfl) ?_
  refine lv_bipush (v := 60) C.1 C.2.1 dX2_init_29 (by decide) ?_
  refine va_newa (atype := .int) (a0 := (60, .inl (fun _ => 0))) (ty := .int) C.1 C.2.1 (C.2.2.2.2.2.1 _ mX2_6) rfl hK.1 hP hD hS hA (fun cA => by first | rfl | exact vp_cell_i _ _ _ | exact vp_cell_l _ _ _) (by decide) (N' := 60) rfl (Nat.le_of_ble_eq_true rfl) (Nat.le_of_ble_eq_true rfl) (Nat.le_of_ble_eq_true rfl) dX2_init_31 (fun q4 cA H hK9 hP hD hS => ?_)
  obtain rfl : cA = cy 0 := arr_same hK9 hK.1 0 rfl 5 rfl
  have hP : va_P D vwCl [(h0, .inr (2, [.int 0, .int 0, .int 0, .int 0, .ref q1, .ref q2, .ref q3, .null, .null, .null, .null, .null, .null, .null, .long 0, .null, .null, .int 0])), (q1, .inl (cy 2, 121, .inl (fun _ => 0))), (q2, .inl (cy 0, 60, .inl (fun _ => 0))), (q3, .inl (cy 0, 60, .inl (fun _ => 0))), (q4, .inl (cy 0, 60, .inl (fun _ => 0)))] H := hP
  have hD : va_D A [(h0, .inr (2, [.int 0, .int 0, .int 0, .int 0, .ref q1, .ref q2, .ref q3, .null, .null, .null, .null, .null, .null, .null, .long 0, .null, .null, .int 0])), (q1, .inl (cy 2, 121, .inl (fun _ => 0))), (q2, .inl (cy 0, 60, .inl (fun _ => 0))), (q3, .inl (cy 0, 60, .inl (fun _ => 0))), (q4, .inl (cy 0, 60, .inl (fun _ => 0)))] := hD
  clear hK9
  refine va_putF (D := D) (ci := 2) (v := .ref q4) (ty := .array .int) C.1 C.2.1 C.2.2.2.2.2.1 hX2_X2 tyX2 tyX2_ok nmX2 C.2.2.2.2.1 hK.1 hP hD hS 0 rfl rfl 7 (by decide) (C.2.2.2.2.2.1 _ mX2_9) (fun _ h => h) rfl hin rfl (by decide +kernel) rfl rfl (Nat.le_of_ble_eq_true rfl) dX2_init_33 (fun H locs hP hD hS => ?_)
  have hP : va_P D vwCl [(h0, .inr (2, [.int 0, .int 0, .int 0, .int 0, .ref q1, .ref q2, .ref q3, .ref q4, .null, .null, .null, .null, .null, .null, .long 0, .null, .null, .int 0])), (q1, .inl (cy 2, 121, .inl (fun _ => 0))), (q2, .inl (cy 0, 60, .inl (fun _ => 0))), (q3, .inl (cy 0, 60, .inl (fun _ => 0))), (q4, .inl (cy 0, 60, .inl (fun _ => 0)))] H := hP
  have hD : va_D A [(h0, .inr (2, [.int 0, .int 0, .int 0, .int 0, .ref q1, .ref q2, .ref q3, .ref q4, .null, .null, .null, .null, .null, .null, .long 0, .null, .null, .int 0])), (q1, .inl (cy 2, 121, .inl (fun _ => 0))), (q2, .inl (cy 0, 60, .inl (fun _ => 0))), (q3, .inl (cy 0, 60, .inl (fun _ => 0))), (q4, .inl (cy 0, 60, .inl (fun _ => 0)))] := hD
  refine lv_aload_n C.1 C.2.1 dX2_init_36 rfl (lv_at hl 0 rfl) ?_
  refine lv_bipush (v := 40) C.1 C.2.1 dX2_init_37 (by decide) ?_
  refine va_newa (atype := .int) (a0 := (40, .inl (fun _ => 0))) (ty := .int) C.1 C.2.1 (C.2.2.2.2.2.1 _ mX2_6) rfl hK.1 hP hD hS hA (fun cA => by first | rfl | exact vp_cell_i _ _ _ | exact vp_cell_l _ _ _) (by decide) (N' := 40) rfl (Nat.le_of_ble_eq_true rfl) (Nat.le_of_ble_eq_true rfl) (Nat.le_of_ble_eq_true rfl) dX2_init_39 (fun q5 cA H hK9 hP hD hS => ?_)
  obtain rfl : cA = cy 0 := arr_same hK9 hK.1 0 rfl 5 rfl
  have hP : va_P D vwCl [(h0, .inr (2, [.int 0, .int 0, .int 0, .int 0, .ref q1, .ref q2, .ref q3, .ref q4, .null, .null, .null, .null, .null, .null, .long 0, .null, .null, .int 0])), (q1, .inl (cy 2, 121, .inl (fun _ => 0))), (q2, .inl (cy 0, 60, .inl (fun _ => 0))), (q3, .inl (cy 0, 60, .inl (fun _ => 0))), (q4, .inl (cy 0, 60, .inl (fun _ => 0))), (q5, .inl (cy 0, 40, .inl (fun _ => 0)))] H := hP
  have hD : va_D A [(h0, .inr (2, [.int 0, .int 0, .int 0, .int 0, .ref q1, .ref q2, .ref q3, .ref q4, .null, .null, .null, .null, .null, .null, .long 0, .null, .null, .int 0])), (q1, .inl (cy 2, 121, .inl (fun _ => 0))), (q2, .inl (cy 0, 60, .inl (fun _ => 0))), (q3, .inl (cy 0, 60, .inl (fun _ => 0))), (q4, .inl (cy 0, 60, .inl (fun _ => 0))), (q5, .inl (cy 0, 40, .inl (fun _ => 0)))] := hD
  clear hK9
  refine va_putF (D := D) (ci := 2) (v := .ref q5) (ty := .array .int) C.1 C.2.1 C.2.2.2.2.2.1 hX2_X2 tyX2 tyX2_ok nmX2 C.2.2.2.2.1 hK.1 hP hD hS 0 rfl rfl 8 (by decide) (C.2.2.2.2.2.1 _ mX2_10) (fun _ h => h) rfl hin rfl (by decide +kernel) rfl rfl (Nat.le_of_ble_eq_true rfl) dX2_init_41 (fun H locs hP hD hS => ?_)
  have hP : va_P D vwCl [(h0, .inr (2, [.int 0, .int 0, .int 0, .int 0, .ref q1, .ref q2, .ref q3, .ref q4, .ref q5, .null, .null, .null, .null, .null, .long 0, .null, .null, .int 0])), (q1, .inl (cy 2, 121, .inl (fun _ => 0))), (q2, .inl (cy 0, 60, .inl (fun _ => 0))), (q3, .inl (cy 0, 60, .inl (fun _ => 0))), (q4, .inl (cy 0, 60, .inl (fun _ => 0))), (q5, .inl (cy 0, 40, .inl (fun _ => 0)))] H := hP
  have hD : va_D A [(h0, .inr (2, [.int 0, .int 0, .int 0, .int 0, .ref q1, .ref q2, .ref q3, .ref q4, .ref q5, .null, .null, .null, .null, .null, .long 0, .null, .null, .int 0])), (q1, .inl (cy 2, 121, .inl (fun _ => 0))), (q2, .inl (cy 0, 60, .inl (fun _ => 0))), (q3, .inl (cy 0, 60, .inl (fun _ => 0))), (q4, .inl (cy 0, 60, .inl (fun _ => 0))), (q5, .inl (cy 0, 40, .inl (fun _ => 0)))] := hD
  refine lv_aload_n C.1 C.2.1 dX2_init_44 rfl (lv_at hl 0 rfl) ?_
  refine lv_bipush (v := 40) C.1 C.2.1 dX2_init_45 (by decide) ?_
  refine va_newa (atype := .int) (a0 := (40, .inl (fun _ => 0))) (ty := .int) C.1 C.2.1 (C.2.2.2.2.2.1 _ mX2_6) rfl hK.1 hP hD hS hA (fun cA => by first | rfl | exact vp_cell_i _ _ _ | exact vp_cell_l _ _ _) (by decide) (N' := 40) rfl (Nat.le_of_ble_eq_true rfl) (Nat.le_of_ble_eq_true rfl) (Nat.le_of_ble_eq_true rfl) dX2_init_47 (fun q6 cA H hK9 hP hD hS => ?_)
  obtain rfl : cA = cy 0 := arr_same hK9 hK.1 0 rfl 5 rfl
  have hP : va_P D vwCl [(h0, .inr (2, [.int 0, .int 0, .int 0, .int 0, .ref q1, .ref q2, .ref q3, .ref q4, .ref q5, .null, .null, .null, .null, .null, .long 0, .null, .null, .int 0])), (q1, .inl (cy 2, 121, .inl (fun _ => 0))), (q2, .inl (cy 0, 60, .inl (fun _ => 0))), (q3, .inl (cy 0, 60, .inl (fun _ => 0))), (q4, .inl (cy 0, 60, .inl (fun _ => 0))), (q5, .inl (cy 0, 40, .inl (fun _ => 0))), (q6, .inl (cy 0, 40, .inl (fun _ => 0)))] H := hP
  have hD : va_D A [(h0, .inr (2, [.int 0, .int 0, .int 0, .int 0, .ref q1, .ref q2, .ref q3, .ref q4, .ref q5, .null, .null, .null, .null, .null, .long 0, .null, .null, .int 0])), (q1, .inl (cy 2, 121, .inl (fun _ => 0))), (q2, .inl (cy 0, 60, .inl (fun _ => 0))), (q3, .inl (cy 0, 60, .inl (fun _ => 0))), (q4, .inl (cy 0, 60, .inl (fun _ => 0))), (q5, .inl (cy 0, 40, .inl (fun _ => 0))), (q6, .inl (cy 0, 40, .inl (fun _ => 0)))] := hD
  clear hK9
  refine va_putF (D := D) (ci := 2) (v := .ref q6) (ty := .array .int) C.1 C.2.1 C.2.2.2.2.2.1 hX2_X2 tyX2 tyX2_ok nmX2 C.2.2.2.2.1 hK.1 hP hD hS 0 rfl rfl 9 (by decide) (C.2.2.2.2.2.1 _ mX2_11) (fun _ h => h) rfl hin rfl (by decide +kernel) rfl rfl (Nat.le_of_ble_eq_true rfl) dX2_init_49 (fun H locs hP hD hS => ?_)
  have hP : va_P D vwCl [(h0, .inr (2, [.int 0, .int 0, .int 0, .int 0, .ref q1, .ref q2, .ref q3, .ref q4, .ref q5, .ref q6, .null, .null, .null, .null, .long 0, .null, .null, .int 0])), (q1, .inl (cy 2, 121, .inl (fun _ => 0))), (q2, .inl (cy 0, 60, .inl (fun _ => 0))), (q3, .inl (cy 0, 60, .inl (fun _ => 0))), (q4, .inl (cy 0, 60, .inl (fun _ => 0))), (q5, .inl (cy 0, 40, .inl (fun _ => 0))), (q6, .inl (cy 0, 40, .inl (fun _ => 0)))] H := hP
  have hD : va_D A [(h0, .inr (2, [.int 0, .int 0, .int 0, .int 0, .ref q1, .ref q2, .ref q3, .ref q4, .ref q5, .ref q6, .null, .null, .null, .null, .long 0, .null, .null, .int 0])), (q1, .inl (cy 2, 121, .inl (fun _ => 0))), (q2, .inl (cy 0, 60, .inl (fun _ => 0))), (q3, .inl (cy 0, 60, .inl (fun _ => 0))), (q4, .inl (cy 0, 60, .inl (fun _ => 0))), (q5, .inl (cy 0, 40, .inl (fun _ => 0))), (q6, .inl (cy 0, 40, .inl (fun _ => 0)))] := hD
  refine lv_aload_n C.1 C.2.1 dX2_init_52 rfl (lv_at hl 0 rfl) ?_
  refine lv_bipush (v := 40) C.1 C.2.1 dX2_init_53 (by decide) ?_
  refine va_newa (atype := .int) (a0 := (40, .inl (fun _ => 0))) (ty := .int) C.1 C.2.1 (C.2.2.2.2.2.1 _ mX2_6) rfl hK.1 hP hD hS hA (fun cA => by first | rfl | exact vp_cell_i _ _ _ | exact vp_cell_l _ _ _) (by decide) (N' := 40) rfl (Nat.le_of_ble_eq_true rfl) (Nat.le_of_ble_eq_true rfl) (Nat.le_of_ble_eq_true rfl) dX2_init_55 (fun q7 cA H hK9 hP hD hS => ?_)
  obtain rfl : cA = cy 0 := arr_same hK9 hK.1 0 rfl 5 rfl
  have hP : va_P D vwCl [(h0, .inr (2, [.int 0, .int 0, .int 0, .int 0, .ref q1, .ref q2, .ref q3, .ref q4, .ref q5, .ref q6, .null, .null, .null, .null, .long 0, .null, .null, .int 0])), (q1, .inl (cy 2, 121, .inl (fun _ => 0))), (q2, .inl (cy 0, 60, .inl (fun _ => 0))), (q3, .inl (cy 0, 60, .inl (fun _ => 0))), (q4, .inl (cy 0, 60, .inl (fun _ => 0))), (q5, .inl (cy 0, 40, .inl (fun _ => 0))), (q6, .inl (cy 0, 40, .inl (fun _ => 0))), (q7, .inl (cy 0, 40, .inl (fun _ => 0)))] H := hP
  have hD : va_D A [(h0, .inr (2, [.int 0, .int 0, .int 0, .int 0, .ref q1, .ref q2, .ref q3, .ref q4, .ref q5, .ref q6, .null, .null, .null, .null, .long 0, .null, .null, .int 0])), (q1, .inl (cy 2, 121, .inl (fun _ => 0))), (q2, .inl (cy 0, 60, .inl (fun _ => 0))), (q3, .inl (cy 0, 60, .inl (fun _ => 0))), (q4, .inl (cy 0, 60, .inl (fun _ => 0))), (q5, .inl (cy 0, 40, .inl (fun _ => 0))), (q6, .inl (cy 0, 40, .inl (fun _ => 0))), (q7, .inl (cy 0, 40, .inl (fun _ => 0)))] := hD
  clear hK9
  refine va_putF (D := D) (ci := 2) (v := .ref q7) (ty := .array .int) C.1 C.2.1 C.2.2.2.2.2.1 hX2_X2 tyX2 tyX2_ok nmX2 C.2.2.2.2.1 hK.1 hP hD hS 0 rfl rfl 10 (by decide) (C.2.2.2.2.2.1 _ mX2_12) (fun _ h => h) rfl hin rfl (by decide +kernel) rfl rfl (Nat.le_of_ble_eq_true rfl) dX2_init_57 (fun H locs hP hD hS => ?_)
  have hP : va_P D vwCl [(h0, .inr (2, [.int 0, .int 0, .int 0, .int 0, .ref q1, .ref q2, .ref q3, .ref q4, .ref q5, .ref q6, .ref q7, .null, .null, .null, .long 0, .null, .null, .int 0])), (q1, .inl (cy 2, 121, .inl (fun _ => 0))), (q2, .inl (cy 0, 60, .inl (fun _ => 0))), (q3, .inl (cy 0, 60, .inl (fun _ => 0))), (q4, .inl (cy 0, 60, .inl (fun _ => 0))), (q5, .inl (cy 0, 40, .inl (fun _ => 0))), (q6, .inl (cy 0, 40, .inl (fun _ => 0))), (q7, .inl (cy 0, 40, .inl (fun _ => 0)))] H := hP
  have hD : va_D A [(h0, .inr (2, [.int 0, .int 0, .int 0, .int 0, .ref q1, .ref q2, .ref q3, .ref q4, .ref q5, .ref q6, .ref q7, .null, .null, .null, .long 0, .null, .null, .int 0])), (q1, .inl (cy 2, 121, .inl (fun _ => 0))), (q2, .inl (cy 0, 60, .inl (fun _ => 0))), (q3, .inl (cy 0, 60, .inl (fun _ => 0))), (q4, .inl (cy 0, 60, .inl (fun _ => 0))), (q5, .inl (cy 0, 40, .inl (fun _ => 0))), (q6, .inl (cy 0, 40, .inl (fun _ => 0))), (q7, .inl (cy 0, 40, .inl (fun _ => 0)))] := hD
  refine lv_aload_n C.1 C.2.1 dX2_init_60 rfl (lv_at hl 0 rfl) ?_
  refine lv_bipush (v := 20) C.1 C.2.1 dX2_init_61 (by decide) ?_
  refine va_newa (atype := .int) (a0 := (20, .inl (fun _ => 0))) (ty := .int) C.1 C.2.1 (C.2.2.2.2.2.1 _ mX2_6) rfl hK.1 hP hD hS hA (fun cA => by first | rfl | exact vp_cell_i _ _ _ | exact vp_cell_l _ _ _) (by decide) (N' := 20) rfl (Nat.le_of_ble_eq_true rfl) (Nat.le_of_ble_eq_true rfl) (Nat.le_of_ble_eq_true rfl) dX2_init_63 (fun q8 cA H hK9 hP hD hS => ?_)
  obtain rfl : cA = cy 0 := arr_same hK9 hK.1 0 rfl 5 rfl
  have hP : va_P D vwCl [(h0, .inr (2, [.int 0, .int 0, .int 0, .int 0, .ref q1, .ref q2, .ref q3, .ref q4, .ref q5, .ref q6, .ref q7, .null, .null, .null, .long 0, .null, .null, .int 0])), (q1, .inl (cy 2, 121, .inl (fun _ => 0))), (q2, .inl (cy 0, 60, .inl (fun _ => 0))), (q3, .inl (cy 0, 60, .inl (fun _ => 0))), (q4, .inl (cy 0, 60, .inl (fun _ => 0))), (q5, .inl (cy 0, 40, .inl (fun _ => 0))), (q6, .inl (cy 0, 40, .inl (fun _ => 0))), (q7, .inl (cy 0, 40, .inl (fun _ => 0))), (q8, .inl (cy 0, 20, .inl (fun _ => 0)))] H := hP
  have hD : va_D A [(h0, .inr (2, [.int 0, .int 0, .int 0, .int 0, .ref q1, .ref q2, .ref q3, .ref q4, .ref q5, .ref q6, .ref q7, .null, .null, .null, .long 0, .null, .null, .int 0])), (q1, .inl (cy 2, 121, .inl (fun _ => 0))), (q2, .inl (cy 0, 60, .inl (fun _ => 0))), (q3, .inl (cy 0, 60, .inl (fun _ => 0))), (q4, .inl (cy 0, 60, .inl (fun _ => 0))), (q5, .inl (cy 0, 40, .inl (fun _ => 0))), (q6, .inl (cy 0, 40, .inl (fun _ => 0))), (q7, .inl (cy 0, 40, .inl (fun _ => 0))), (q8, .inl (cy 0, 20, .inl (fun _ => 0)))] := hD
  clear hK9
  refine va_putF (D := D) (ci := 2) (v := .ref q8) (ty := .array .int) C.1 C.2.1 C.2.2.2.2.2.1 hX2_X2 tyX2 tyX2_ok nmX2 C.2.2.2.2.1 hK.1 hP hD hS 0 rfl rfl 11 (by decide) (C.2.2.2.2.2.1 _ mX2_13) (fun _ h => h) rfl hin rfl (by decide +kernel) rfl rfl (Nat.le_of_ble_eq_true rfl) dX2_init_65 (fun H locs hP hD hS => ?_)
  have hP : va_P D vwCl [(h0, .inr (2, [.int 0, .int 0, .int 0, .int 0, .ref q1, .ref q2, .ref q3, .ref q4, .ref q5, .ref q6, .ref q7, .ref q8, .null, .null, .long 0, .null, .null, .int 0])), (q1, .inl (cy 2, 121, .inl (fun _ => 0))), (q2, .inl (cy 0, 60, .inl (fun _ => 0))), (q3, .inl (cy 0, 60, .inl (fun _ => 0))), (q4, .inl (cy 0, 60, .inl (fun _ => 0))), (q5, .inl (cy 0, 40, .inl (fun _ => 0))), (q6, .inl (cy 0, 40, .inl (fun _ => 0))), (q7, .inl (cy 0, 40, .inl (fun _ => 0))), (q8, .inl (cy 0, 20, .inl (fun _ => 0)))] H := hP
  have hD : va_D A [(h0, .inr (2, [.int 0, .int 0, .int 0, .int 0, .ref q1, .ref q2, .ref q3, .ref q4, .ref q5, .ref q6, .ref q7, .ref q8, .null, .null, .long 0, .null, .null, .int 0])), (q1, .inl (cy 2, 121, .inl (fun _ => 0))), (q2, .inl (cy 0, 60, .inl (fun _ => 0))), (q3, .inl (cy 0, 60, .inl (fun _ => 0))), (q4, .inl (cy 0, 60, .inl (fun _ => 0))), (q5, .inl (cy 0, 40, .inl (fun _ => 0))), (q6, .inl (cy 0, 40, .inl (fun _ => 0))), (q7, .inl (cy 0, 40, .inl (fun _ => 0))), (q8, .inl (cy 0, 20, .inl (fun _ => 0)))] := hD
  refine lv_aload_n C.1 C.2.1 dX2_init_68 rfl (lv_at hl 0 rfl) ?_
  refine lv_bipush (v := 20) C.1 C.2.1 dX2_init_69 (by decide) ?_
  refine va_newa (atype := .int) (a0 := (20, .inl (fun _ => 0))) (ty := .int) C.1 C.2.1 (C.2.2.2.2.2.1 _ mX2_6) rfl hK.1 hP hD hS hA (fun cA => by first | rfl | exact vp_cell_i _ _ _ | exact vp_cell_l _ _ _) (by decide) (N' := 20) rfl (Nat.le_of_ble_eq_true rfl) (Nat.le_of_ble_eq_true rfl) (Nat.le_of_ble_eq_true rfl) dX2_init_71 (fun q9 cA H hK9 hP hD hS => ?_)
  obtain rfl : cA = cy 0 := arr_same hK9 hK.1 0 rfl 5 rfl
  have hP : va_P D vwCl [(h0, .inr (2, [.int 0, .int 0, .int 0, .int 0, .ref q1, .ref q2, .ref q3, .ref q4, .ref q5, .ref q6, .ref q7, .ref q8, .null, .null, .long 0, .null, .null, .int 0])), (q1, .inl (cy 2, 121, .inl (fun _ => 0))), (q2, .inl (cy 0, 60, .inl (fun _ => 0))), (q3, .inl (cy 0, 60, .inl (fun _ => 0))), (q4, .inl (cy 0, 60, .inl (fun _ => 0))), (q5, .inl (cy 0, 40, .inl (fun _ => 0))), (q6, .inl (cy 0, 40, .inl (fun _ => 0))), (q7, .inl (cy 0, 40, .inl (fun _ => 0))), (q8, .inl (cy 0, 20, .inl (fun _ => 0))), (q9, .inl (cy 0, 20, .inl (fun _ => 0)))] H := hP
  have hD : va_D A [(h0, .inr (2, [.int 0, .int 0, .int 0, .int 0, .ref q1, .ref q2, .ref q3, .ref q4, .ref q5, .ref q6, .ref q7, .ref q8, .null, .null, .long 0, .null, .null, .int 0])), (q1, .inl (cy 2, 121, .inl (fun _ => 0))), (q2, .inl (cy 0, 60, .inl (fun _ => 0))), (q3, .inl (cy 0, 60, .inl (fun _ => 0))), (q4, .inl (cy 0, 60, .inl (fun _ => 0))), (q5, .inl (cy 0, 40, .inl (fun _ => 0))), (q6, .inl (cy 0, 40, .inl (fun _ => 0))), (q7, .inl (cy 0, 40, .inl (fun _ => 0))), (q8, .inl (cy 0, 20, .inl (fun _ => 0))), (q9, .inl (cy 0, 20, .inl (fun _ => 0)))] := hD
  clear hK9
  refine va_putF (D := D) (ci := 2) (v := .ref q9) (ty := .array .int) C.1 C.2.1 C.2.2.2.2.2.1 hX2_X2 tyX2 tyX2_ok nmX2 C.2.2.2.2.1 hK.1 hP hD hS 0 rfl rfl 12 (by decide) (C.2.2.2.2.2.1 _ mX2_14) (fun _ h => h) rfl hin rfl (by decide +kernel) rfl rfl (Nat.le_of_ble_eq_true rfl) dX2_init_73 (fun H locs hP hD hS => ?_)
  have hP : va_P D vwCl [(h0, .inr (2, [.int 0, .int 0, .int 0, .int 0, .ref q1, .ref q2, .ref q3, .ref q4, .ref q5, .ref q6, .ref q7, .ref q8, .ref q9, .null, .long 0, .null, .null, .int 0])), (q1, .inl (cy 2, 121, .inl (fun _ => 0))), (q2, .inl (cy 0, 60, .inl (fun _ => 0))), (q3, .inl (cy 0, 60, .inl (fun _ => 0))), (q4, .inl (cy 0, 60, .inl (fun _ => 0))), (q5, .inl (cy 0, 40, .inl (fun _ => 0))), (q6, .inl (cy 0, 40, .inl (fun _ => 0))), (q7, .inl (cy 0, 40, .inl (fun _ => 0))), (q8, .inl (cy 0, 20, .inl (fun _ => 0))), (q9, .inl (cy 0, 20, .inl (fun _ => 0)))] H := hP
  have hD : va_D A [(h0, .inr (2, [.int 0, .int 0, .int 0, .int 0, .ref q1, .ref q2, .ref q3, .ref q4, .ref q5, .ref q6, .ref q7, .ref q8, .ref q9, .null, .long 0, .null, .null, .int 0])), (q1, .inl (cy 2, 121, .inl (fun _ => 0))), (q2, .inl (cy 0, 60, .inl (fun _ => 0))), (q3, .inl (cy 0, 60, .inl (fun _ => 0))), (q4, .inl (cy 0, 60, .inl (fun _ => 0))), (q5, .inl (cy 0, 40, .inl (fun _ => 0))), (q6, .inl (cy 0, 40, .inl (fun _ => 0))), (q7, .inl (cy 0, 40, .inl (fun _ => 0))), (q8, .inl (cy 0, 20, .inl (fun _ => 0))), (q9, .inl (cy 0, 20, .inl (fun _ => 0)))] := hD
  refine lv_aload_n C.1 C.2.1 dX2_init_76 rfl (lv_at hl 0 rfl) ?_
  refine lv_bipush (v := 40) C.1 C.2.1 dX2_init_77 (by decide) ?_
  refine va_newa (atype := .long) (a0 := (40, .inr (.inl (fun _ => 0)))) (ty := .long) C.1 C.2.1 (C.2.2.2.2.2.1 _ mX2_15) rfl hK.1 hP hD hS hA (fun cA => by first | rfl | exact vp_cell_i _ _ _ | exact vp_cell_l _ _ _) (by decide) (N' := 40) rfl (Nat.le_of_ble_eq_true rfl) (Nat.le_of_ble_eq_true rfl) (Nat.le_of_ble_eq_true rfl) dX2_init_79 (fun q10 cA H hK9 hP hD hS => ?_)
  obtain rfl : cA = cy 1 := arr_same hK9 hK.1 1 rfl 5 rfl
  have hP : va_P D vwCl [(h0, .inr (2, [.int 0, .int 0, .int 0, .int 0, .ref q1, .ref q2, .ref q3, .ref q4, .ref q5, .ref q6, .ref q7, .ref q8, .ref q9, .null, .long 0, .null, .null, .int 0])), (q1, .inl (cy 2, 121, .inl (fun _ => 0))), (q2, .inl (cy 0, 60, .inl (fun _ => 0))), (q3, .inl (cy 0, 60, .inl (fun _ => 0))), (q4, .inl (cy 0, 60, .inl (fun _ => 0))), (q5, .inl (cy 0, 40, .inl (fun _ => 0))), (q6, .inl (cy 0, 40, .inl (fun _ => 0))), (q7, .inl (cy 0, 40, .inl (fun _ => 0))), (q8, .inl (cy 0, 20, .inl (fun _ => 0))), (q9, .inl (cy 0, 20, .inl (fun _ => 0))), (q10, .inl (cy 1, 40, .inr (.inl (fun _ => 0))))] H := hP
  have hD : va_D A [(h0, .inr (2, [.int 0, .int 0, .int 0, .int 0, .ref q1, .ref q2, .ref q3, .ref q4, .ref q5, .ref q6, .ref q7, .ref q8, .ref q9, .null, .long 0, .null, .null, .int 0])), (q1, .inl (cy 2, 121, .inl (fun _ => 0))), (q2, .inl (cy 0, 60, .inl (fun _ => 0))), (q3, .inl (cy 0, 60, .inl (fun _ => 0))), (q4, .inl (cy 0, 60, .inl (fun _ => 0))), (q5, .inl (cy 0, 40, .inl (fun _ => 0))), (q6, .inl (cy 0, 40, .inl (fun _ => 0))), (q7, .inl (cy 0, 40, .inl (fun _ => 0))), (q8, .inl (cy 0, 20, .inl (fun _ => 0))), (q9, .inl (cy 0, 20, .inl (fun _ => 0))), (q10, .inl (cy 1, 40, .inr (.inl (fun _ => 0))))] := hD
  clear hK9
  refine va_putF (D := D) (ci := 2) (v := .ref q10) (ty := .array .long) C.1 C.2.1 C.2.2.2.2.2.1 hX2_X2 tyX2 tyX2_ok nmX2 C.2.2.2.2.1 hK.1 hP hD hS 0 rfl rfl 13 (by decide) (C.2.2.2.2.2.1 _ mX2_16) (fun _ h => h) rfl hin rfl (by decide +kernel) rfl rfl (Nat.le_of_ble_eq_true rfl) dX2_init_81 (fun H locs hP hD hS => ?_)
  have hP : va_P D vwCl [(h0, .inr (2, [.int 0, .int 0, .int 0, .int 0, .ref q1, .ref q2, .ref q3, .ref q4, .ref q5, .ref q6, .ref q7, .ref q8, .ref q9, .ref q10, .long 0, .null, .null, .int 0])), (q1, .inl (cy 2, 121, .inl (fun _ => 0))), (q2, .inl (cy 0, 60, .inl (fun _ => 0))), (q3, .inl (cy 0, 60, .inl (fun _ => 0))), (q4, .inl (cy 0, 60, .inl (fun _ => 0))), (q5, .inl (cy 0, 40, .inl (fun _ => 0))), (q6, .inl (cy 0, 40, .inl (fun _ => 0))), (q7, .inl (cy 0, 40, .inl (fun _ => 0))), (q8, .inl (cy 0, 20, .inl (fun _ => 0))), (q9, .inl (cy 0, 20, .inl (fun _ => 0))), (q10, .inl (cy 1, 40, .inr (.inl (fun _ => 0))))] H := hP
  have hD : va_D A [(h0, .inr (2, [.int 0, .int 0, .int 0, .int 0, .ref q1, .ref q2, .ref q3, .ref q4, .ref q5, .ref q6, .ref q7, .ref q8, .ref q9, .ref q10, .long 0, .null, .null, .int 0])), (q1, .inl (cy 2, 121, .inl (fun _ => 0))), (q2, .inl (cy 0, 60, .inl (fun _ => 0))), (q3, .inl (cy 0, 60, .inl (fun _ => 0))), (q4, .inl (cy 0, 60, .inl (fun _ => 0))), (q5, .inl (cy 0, 40, .inl (fun _ => 0))), (q6, .inl (cy 0, 40, .inl (fun _ => 0))), (q7, .inl (cy 0, 40, .inl (fun _ => 0))), (q8, .inl (cy 0, 20, .inl (fun _ => 0))), (q9, .inl (cy 0, 20, .inl (fun _ => 0))), (q10, .inl (cy 1, 40, .inr (.inl (fun _ => 0))))] := hD
  refine lv_aload_n C.1 C.2.1 dX2_init_84 rfl (lv_at hl 0 rfl) ?_
  refine lv_sipush (v := 968) C.1 C.2.1 dX2_init_85 (by decide) ?_
  refine va_newa (atype := .long) (a0 := (968, .inr (.inl (fun _ => 0)))) (ty := .long) C.1 C.2.1 (C.2.2.2.2.2.1 _ mX2_15) rfl hK.1 hP hD hS hA (fun cA => by first | rfl | exact vp_cell_i _ _ _ | exact vp_cell_l _ _ _) (by decide) (N' := 968) rfl (Nat.le_of_ble_eq_true rfl) (Nat.le_of_ble_eq_true rfl) (Nat.le_of_ble_eq_true rfl) dX2_init_88 (fun q11 cA H hK9 hP hD hS => ?_)
  obtain rfl : cA = cy 1 := arr_same hK9 hK.1 1 rfl 5 rfl
  have hP : va_P D vwCl [(h0, .inr (2, [.int 0, .int 0, .int 0, .int 0, .ref q1, .ref q2, .ref q3, .ref q4, .ref q5, .ref q6, .ref q7, .ref q8, .ref q9, .ref q10, .long 0, .null, .null, .int 0])), (q1, .inl (cy 2, 121, .inl (fun _ => 0))), (q2, .inl (cy 0, 60, .inl (fun _ => 0))), (q3, .inl (cy 0, 60, .inl (fun _ => 0))), (q4, .inl (cy 0, 60, .inl (fun _ => 0))), (q5, .inl (cy 0, 40, .inl (fun _ => 0))), (q6, .inl (cy 0, 40, .inl (fun _ => 0))), (q7, .inl (cy 0, 40, .inl (fun _ => 0))), (q8, .inl (cy 0, 20, .inl (fun _ => 0))), (q9, .inl (cy 0, 20, .inl (fun _ => 0))), (q10, .inl (cy 1, 40, .inr (.inl (fun _ => 0)))), (q11, .inl (cy 1, 968, .inr (.inl (fun _ => 0))))] H := hP
  have hD : va_D A [(h0, .inr (2, [.int 0, .int 0, .int 0, .int 0, .ref q1, .ref q2, .ref q3, .ref q4, .ref q5, .ref q6, .ref q7, .ref q8, .ref q9, .ref q10, .long 0, .null, .null, .int 0])), (q1, .inl (cy 2, 121, .inl (fun _ => 0))), (q2, .inl (cy 0, 60, .inl (fun _ => 0))), (q3, .inl (cy 0, 60, .inl (fun _ => 0))), (q4, .inl (cy 0, 60, .inl (fun _ => 0))), (q5, .inl (cy 0, 40, .inl (fun _ => 0))), (q6, .inl (cy 0, 40, .inl (fun _ => 0))), (q7, .inl (cy 0, 40, .inl (fun _ => 0))), (q8, .inl (cy 0, 20, .inl (fun _ => 0))), (q9, .inl (cy 0, 20, .inl (fun _ => 0))), (q10, .inl (cy 1, 40, .inr (.inl (fun _ => 0)))), (q11, .inl (cy 1, 968, .inr (.inl (fun _ => 0))))] := hD
  clear hK9
  refine va_putF (D := D) (ci := 2) (v := .ref q11) (ty := .array .long) C.1 C.2.1 C.2.2.2.2.2.1 hX2_X2 tyX2 tyX2_ok nmX2 C.2.2.2.2.1 hK.1 hP hD hS 0 rfl rfl 15 (by decide) (C.2.2.2.2.2.1 _ mX2_17) (fun _ h => h) rfl hin rfl (by decide +kernel) rfl rfl (Nat.le_of_ble_eq_true rfl) dX2_init_90 (fun H locs hP hD hS => ?_)
  have hP : va_P D vwCl [(h0, .inr (2, [.int 0, .int 0, .int 0, .int 0, .ref q1, .ref q2, .ref q3, .ref q4, .ref q5, .ref q6, .ref q7, .ref q8, .ref q9, .ref q10, .long 0, .ref q11, .null, .int 0])), (q1, .inl (cy 2, 121, .inl (fun _ => 0))), (q2, .inl (cy 0, 60, .inl (fun _ => 0))), (q3, .inl (cy 0, 60, .inl (fun _ => 0))), (q4, .inl (cy 0, 60, .inl (fun _ => 0))), (q5, .inl (cy 0, 40, .inl (fun _ => 0))), (q6, .inl (cy 0, 40, .inl (fun _ => 0))), (q7, .inl (cy 0, 40, .inl (fun _ => 0))), (q8, .inl (cy 0, 20, .inl (fun _ => 0))), (q9, .inl (cy 0, 20, .inl (fun _ => 0))), (q10, .inl (cy 1, 40, .inr (.inl (fun _ => 0)))), (q11, .inl (cy 1, 968, .inr (.inl (fun _ => 0))))] H := hP
  have hD : va_D A [(h0, .inr (2, [.int 0, .int 0, .int 0, .int 0, .ref q1, .ref q2, .ref q3, .ref q4, .ref q5, .ref q6, .ref q7, .ref q8, .ref q9, .ref q10, .long 0, .ref q11, .null, .int 0])), (q1, .inl (cy 2, 121, .inl (fun _ => 0))), (q2, .inl (cy 0, 60, .inl (fun _ => 0))), (q3, .inl (cy 0, 60, .inl (fun _ => 0))), (q4, .inl (cy 0, 60, .inl (fun _ => 0))), (q5, .inl (cy 0, 40, .inl (fun _ => 0))), (q6, .inl (cy 0, 40, .inl (fun _ => 0))), (q7, .inl (cy 0, 40, .inl (fun _ => 0))), (q8, .inl (cy 0, 20, .inl (fun _ => 0))), (q9, .inl (cy 0, 20, .inl (fun _ => 0))), (q10, .inl (cy 1, 40, .inr (.inl (fun _ => 0)))), (q11, .inl (cy 1, 968, .inr (.inl (fun _ => 0))))] := hD
  refine lv_aload_n C.1 C.2.1 dX2_init_93 rfl (lv_at hl 0 rfl) ?_
  refine lv_sipush (v := 968) C.1 C.2.1 dX2_init_94 (by decide) ?_
  refine va_newa (atype := .long) (a0 := (968, .inr (.inl (fun _ => 0)))) (ty := .long) C.1 C.2.1 (C.2.2.2.2.2.1 _ mX2_15) rfl hK.1 hP hD hS hA (fun cA => by first | rfl | exact vp_cell_i _ _ _ | exact vp_cell_l _ _ _) (by decide) (N' := 968) rfl (Nat.le_of_ble_eq_true rfl) (Nat.le_of_ble_eq_true rfl) (Nat.le_of_ble_eq_true rfl) dX2_init_97 (fun q12 cA H hK9 hP hD hS => ?_)
  obtain rfl : cA = cy 1 := arr_same hK9 hK.1 1 rfl 5 rfl
  have hP : va_P D vwCl [(h0, .inr (2, [.int 0, .int 0, .int 0, .int 0, .ref q1, .ref q2, .ref q3, .ref q4, .ref q5, .ref q6, .ref q7, .ref q8, .ref q9, .ref q10, .long 0, .ref q11, .null, .int 0])), (q1, .inl (cy 2, 121, .inl (fun _ => 0))), (q2, .inl (cy 0, 60, .inl (fun _ => 0))), (q3, .inl (cy 0, 60, .inl (fun _ => 0))), (q4, .inl (cy 0, 60, .inl (fun _ => 0))), (q5, .inl (cy 0, 40, .inl (fun _ => 0))), (q6, .inl (cy 0, 40, .inl (fun _ => 0))), (q7, .inl (cy 0, 40, .inl (fun _ => 0))), (q8, .inl (cy 0, 20, .inl (fun _ => 0))), (q9, .inl (cy 0, 20, .inl (fun _ => 0))), (q10, .inl (cy 1, 40, .inr (.inl (fun _ => 0)))), (q11, .inl (cy 1, 968, .inr (.inl (fun _ => 0)))), (q12, .inl (cy 1, 968, .inr (.inl (fun _ => 0))))] H := hP
  have hD : va_D A [(h0, .inr (2, [.int 0, .int 0, .int 0, .int 0, .ref q1, .ref q2, .ref q3, .ref q4, .ref q5, .ref q6, .ref q7, .ref q8, .ref q9, .ref q10, .long 0, .ref q11, .null, .int 0])), (q1, .inl (cy 2, 121, .inl (fun _ => 0))), (q2, .inl (cy 0, 60, .inl (fun _ => 0))), (q3, .inl (cy 0, 60, .inl (fun _ => 0))), (q4, .inl (cy 0, 60, .inl (fun _ => 0))), (q5, .inl (cy 0, 40, .inl (fun _ => 0))), (q6, .inl (cy 0, 40, .inl (fun _ => 0))), (q7, .inl (cy 0, 40, .inl (fun _ => 0))), (q8, .inl (cy 0, 20, .inl (fun _ => 0))), (q9, .inl (cy 0, 20, .inl (fun _ => 0))), (q10, .inl (cy 1, 40, .inr (.inl (fun _ => 0)))), (q11, .inl (cy 1, 968, .inr (.inl (fun _ => 0)))), (q12, .inl (cy 1, 968, .inr (.inl (fun _ => 0))))] := hD
  clear hK9
  refine va_putF (D := D) (ci := 2) (v := .ref q12) (ty := .array .long) C.1 C.2.1 C.2.2.2.2.2.1 hX2_X2 tyX2 tyX2_ok nmX2 C.2.2.2.2.1 hK.1 hP hD hS 0 rfl rfl 16 (by decide) (C.2.2.2.2.2.1 _ mX2_18) (fun _ h => h) rfl hin rfl (by decide +kernel) rfl rfl (Nat.le_of_ble_eq_true rfl) dX2_init_99 (fun H locs hP hD hS => ?_)
  have hP : va_P D vwCl [(h0, .inr (2, [.int 0, .int 0, .int 0, .int 0, .ref q1, .ref q2, .ref q3, .ref q4, .ref q5, .ref q6, .ref q7, .ref q8, .ref q9, .ref q10, .long 0, .ref q11, .ref q12, .int 0])), (q1, .inl (cy 2, 121, .inl (fun _ => 0))), (q2, .inl (cy 0, 60, .inl (fun _ => 0))), (q3, .inl (cy 0, 60, .inl (fun _ => 0))), (q4, .inl (cy 0, 60, .inl (fun _ => 0))), (q5, .inl (cy 0, 40, .inl (fun _ => 0))), (q6, .inl (cy 0, 40, .inl (fun _ => 0))), (q7, .inl (cy 0, 40, .inl (fun _ => 0))), (q8, .inl (cy 0, 20, .inl (fun _ => 0))), (q9, .inl (cy 0, 20, .inl (fun _ => 0))), (q10, .inl (cy 1, 40, .inr (.inl (fun _ => 0)))), (q11, .inl (cy 1, 968, .inr (.inl (fun _ => 0)))), (q12, .inl (cy 1, 968, .inr (.inl (fun _ => 0))))] H := hP
  have hD : va_D A [(h0, .inr (2, [.int 0, .int 0, .int 0, .int 0, .ref q1, .ref q2, .ref q3, .ref q4, .ref q5, .ref q6, .ref q7, .ref q8, .ref q9, .ref q10, .long 0, .ref q11, .ref q12, .int 0])), (q1, .inl (cy 2, 121, .inl (fun _ => 0))), (q2, .inl (cy 0, 60, .inl (fun _ => 0))), (q3, .inl (cy 0, 60, .inl (fun _ => 0))), (q4, .inl (cy 0, 60, .inl (fun _ => 0))), (q5, .inl (cy 0, 40, .inl (fun _ => 0))), (q6, .inl (cy 0, 40, .inl (fun _ => 0))), (q7, .inl (cy 0, 40, .inl (fun _ => 0))), (q8, .inl (cy 0, 20, .inl (fun _ => 0))), (q9, .inl (cy 0, 20, .inl (fun _ => 0))), (q10, .inl (cy 1, 40, .inr (.inl (fun _ => 0)))), (q11, .inl (cy 1, 968, .inr (.inl (fun _ => 0)))), (q12, .inl (cy 1, 968, .inr (.inl (fun _ => 0))))] := hD
  exact W.cs (cells' := 12) (slots' := 2437) rfl rfl (W.vret C.1 C.2.1 C.2.2.2.1 (fun t ht _ => ⟨⟨(q1, q2, q3, q4, q5, q6, q7, q8, q9, q10, q11, q12), rfl, trivial, by rw [ht]; exact hP, hD⟩, hS.F ht⟩) hS.2.2 dX2_init_102 C.2.2.2.2.2.2)

theorem zdX4_init_0 : (and (and (and (and (zk cX4_init 0 (.aload_n 0) 1) (zk cX4_init 1 (.invokespecial 3) 3)) (and (zk cX4_init 4 (.aload_n 0) 1) (zk cX4_init 5 (.bipush 8) 2))) (and (and (zk cX4_init 7 (.newarray .long) 2) (zk cX4_init 9 (.putfield 9) 3)) (zk cX4_init 12 (.aload_n 0) 1))) (and (and (and (zk cX4_init 13 (.bipush 8) 2) (zk cX4_init 15 (.newarray .long) 2)) (and (zk cX4_init 17 (.putfield 15) 3) (zk cX4_init 20 (.aload_n 0) 1))) (and (and (zk cX4_init 21 (.aload_n 1) 1) (zk cX4_init 22 (.putfield 18) 3)) (zk cX4_init 25 (.return_) 1)))) = true := by decide +kernel
theorem dX4_init_0 : decode cX4_init 0 = .ok (.aload_n 0, 1) := zk_of (zk_l (zk_l (zk_l (zk_l zdX4_init_0))))
theorem dX4_init_1 : decode cX4_init 1 = .ok (.invokespecial 3, 3) := zk_of (zk_r (zk_l (zk_l (zk_l zdX4_init_0))))
theorem dX4_init_4 : decode cX4_init 4 = .ok (.aload_n 0, 1) := zk_of (zk_l (zk_r (zk_l (zk_l zdX4_init_0))))
theorem dX4_init_5 : decode cX4_init 5 = .ok (.bipush 8, 2) := zk_of (zk_r (zk_r (zk_l (zk_l zdX4_init_0))))
theorem dX4_init_7 : decode cX4_init 7 = .ok (.newarray .long, 2) := zk_of (zk_l (zk_l (zk_r (zk_l zdX4_init_0))))
theorem dX4_init_9 : decode cX4_init 9 = .ok (.putfield 9, 3) := zk_of (zk_r (zk_l (zk_r (zk_l zdX4_init_0))))
theorem dX4_init_12 : decode cX4_init 12 = .ok (.aload_n 0, 1) := zk_of (zk_r (zk_r (zk_l zdX4_init_0)))
theorem dX4_init_13 : decode cX4_init 13 = .ok (.bipush 8, 2) := zk_of (zk_l (zk_l (zk_l (zk_r zdX4_init_0))))
theorem dX4_init_15 : decode cX4_init 15 = .ok (.newarray .long, 2) := zk_of (zk_r (zk_l (zk_l (zk_r zdX4_init_0))))
theorem dX4_init_17 : decode cX4_init 17 = .ok (.putfield 15, 3) := zk_of (zk_l (zk_r (zk_l (zk_r zdX4_init_0))))
theorem dX4_init_20 : decode cX4_init 20 = .ok (.aload_n 0, 1) := zk_of (zk_r (zk_r (zk_l (zk_r zdX4_init_0))))
theorem dX4_init_21 : decode cX4_init 21 = .ok (.aload_n 1, 1) := zk_of (zk_l (zk_l (zk_r (zk_r zdX4_init_0))))
theorem dX4_init_22 : decode cX4_init 22 = .ok (.putfield 18, 3) := zk_of (zk_r (zk_l (zk_r (zk_r zdX4_init_0))))
theorem dX4_init_25 : decode cX4_init 25 = .ok (.return_, 1) := zk_of (zk_r (zk_r (zk_r zdX4_init_0)))
/-- HissHorn$Meeting() -/
theorem mX4_0 : Cond.methodLink RX4 3 objectInit ∈ wsX4_init := (List.mem_cons_of_mem _ (List.mem_append_left _ (List.mem_of_getElem? (i := 0) rfl)))
theorem mX4_1 : Cond.instanceMethod objectInit ∈ wsX4_init := (List.mem_cons_of_mem _ (List.mem_append_left _ (List.mem_of_getElem? (i := 1) rfl)))
theorem mX4_2 : Cond.code objectInit ⟨#[0xb1]⟩ 1 none ∈ wsX4_init := (List.mem_cons_of_mem _ (List.mem_append_left _ (List.mem_of_getElem? (i := 2) rfl)))
theorem mX4_3 : Cond.arrayClass .long ∈ wsX4_init := (List.mem_cons_of_mem _ (List.mem_append_left _ (List.mem_of_getElem? (i := 3) rfl)))
theorem mX4_4 : Cond.fieldLink RX4 9 "HissHorn$Meeting" "ahead" "[J" ∈ wsX4_init := (List.mem_cons_of_mem _ (List.mem_append_left _ (List.mem_of_getElem? (i := 4) rfl)))
theorem hX4_X4 : ∀ w ∈ u_ws RX4 TX4 7, w ∈ wsX4_init := fun w h => (List.mem_cons_of_mem _ (List.mem_append_right _ h))
theorem mX4_6 : Cond.fieldLink RX4 15 "HissHorn$Meeting" "behind" "[J" ∈ wsX4_init := (List.mem_cons_of_mem _ (List.mem_append_left _ (List.mem_of_getElem? (i := 5) rfl)))
theorem mX4_7 : Cond.fieldLink RX4 18 "HissHorn$Meeting" "houses" "LHissHorn$Houses;" ∈ wsX4_init := (List.mem_cons_of_mem _ (List.mem_append_left _ (List.mem_of_getElem? (i := 6) rfl)))
abbrev atX4 (cy : Nat → ClassId) (st : Nat → Nat) (h0 b1 : Nat) (q : Nat × Nat) : va_W := match q with
  | (q1, q2) => [(h0, .inr (4, [.int 0, .int 0, .int 0, .int 0, .ref b1, .ref q1, .ref q2])), (q1, .inl (cy 1, 8, .inr (.inl (fun _ => 0)))), (q2, .inl (cy 1, 8, .inr (.inl (fun _ => 0))))]
def rmkX4 : Room := { frames := 1, cells := 2, slots := 16, locals := 12 }
set_option maxHeartbeats 8000000 in
set_option maxRecDepth 100000 in
theorem kcX4 (l : Launch) (D : va_G) (cy : Nat → ClassId) (st : Nat → Nat) (h0 b1 sz : Nat) (hst : st 100 ≤ h0) : Met l yX4_init wsX4_init rmkX4 (va_Pc [.ref h0, .ref b1] (fun U => U.heap.size = sz ∧ va_P D vwCl [(h0, .inr (4, [.int 0, .int 0, .int 0, .int 0, .null, .null, .null]))] U.heap ∧ Ky D [(cy 0, .int), (cy 1, .long), (cy 2, .boolean), (cy 3, .byte), (cy 4, .object "HissHorn$Text")] st U)) (va_Qv (fun (_ : Nat × Nat) => True) (fun q t => va_P D vwCl (atX4 cy st h0 b1 q) t.heap ∧ va_D (Ax (fun a => a = h0) sz) (atX4 cy st h0 b1 q)) (Ax (fun a => a = h0) sz)) 2 16 (Ax (fun a => a = h0) sz) := by
  refine Met.ofW (cc := cX4_init) (maxL := 2) (ret := none) (by decide) rfl ?_
  intro p e s m args below meth c s₁ B hml hv
  obtain ⟨rfl, hsz, hP, hK⟩ := hv
  subst hsz
  have C : Cx RX4 cX4_init 2 none wsX4_init p s m _ meth c := ⟨B.exec, B.bytes, hml, B.returns, findClass_of_methodNamed B.named, atoms_spec (ws := wsX4_init) B.pre, B.notSynchronized⟩
  have hin : meth.name = "<init>" := (name_of_methodNamed B.named B.method).1
  generalize hAe : Ax (fun a => a = h0) s.heap.size = A
  have hA : ∀ q : Nat, s.heap.size ≤ q → A q := fun q h => by rw [← hAe]; exact Or.inr h
  have hAs : ∀ q : Nat, A q → st 100 ≤ q := fun q h => by
    rw [← hAe] at h
    exact h.elim (fun z => by rw [z]; exact hst) (fun z => Nat.le_trans hK.2.2.2.1 z)
  have hD : va_D A [(h0, .inr (4, [.int 0, .int 0, .int 0, .int 0, .null, .null, .null]))] := D_one (by rw [← hAe]; exact Or.inl rfl)
  have hS : va_S A s.heap s.heap [] := va_S.rf
  have hl := lv_entry ([.ref h0, .ref b1]) (n := 2) (Nat.le_of_ble_eq_true rfl)
  rw [lg_entry_eq]
  generalize (lg_sl ([.ref h0, .ref b1]) ++ List.replicate (2 - (lg_sl ([.ref h0, .ref b1])).length) Slot.unset).toArray = ls at hl ⊢
  have hl : lv_has ls 2 [(0, .ref h0), (1, .ref b1)] := hl
  refine lv_aload_n C.1 C.2.1 dX4_init_0 rfl (lv_at hl 0 rfl) ?_
  refine W.objInit C.1 C.2.1 C.2.2.2.2.1 (C.2.2.2.2.2.1 _ mX4_0) (C.2.2.2.2.2.1 _ mX4_1) (C.2.2.2.2.2.1 _ mX4_2) rfl (by rw [C.2.2.1]; exact hl.1) rfl dX4_init_1 (Nat.le_of_ble_eq_true rfl) (Nat.le_of_ble_eq_true rfl) ?_
  refine W.eq (g2 := F0 m 4 ls []) rfl ?_
  refine lv_aload_n C.1 C.2.1 dX4_init_4 rfl (lv_at hl 0 rfl) ?_
  refine lv_bipush (v := 8) C.1 C.2.1 dX4_init_5 (by decide) ?_
  refine va_newa (atype := .long) (a0 := (8, .inr (.inl (fun _ => 0)))) (ty := .long) C.1 C.2.1 (C.2.2.2.2.2.1 _ mX4_3) rfl hK.1 hP hD hS hA (fun cA => by first | rfl | exact vp_cell_i _ _ _ | exact vp_cell_l _ _ _) (by decide) (N' := 8) rfl (Nat.le_of_ble_eq_true rfl) (Nat.le_of_ble_eq_true rfl) (Nat.le_of_ble_eq_true rfl) dX4_init_7 (fun q1 cA H hK9 hP hD hS => ?_)
  obtain rfl : cA = cy 1 := arr_same hK9 hK.1 1 rfl 5 rfl
  have hP : va_P D vwCl [(h0, .inr (4, [.int 0, .int 0, .int 0, .int 0, .null, .null, .null])), (q1, .inl (cy 1, 8, .inr (.inl (fun _ => 0))))] H := hP
  have hD : va_D A [(h0, .inr (4, [.int 0, .int 0, .int 0, .int 0, .null, .null, .null])), (q1, .inl (cy 1, 8, .inr (.inl (fun _ => 0))))] := hD
  clear hK9
  refine va_putF (D := D) (ci := 4) (v := .ref q1) (ty := .array .long) C.1 C.2.1 C.2.2.2.2.2.1 hX4_X4 tyX4 tyX4_ok nmX4 C.2.2.2.2.1 hK.1 hP hD hS 0 rfl rfl 5 (by decide) (C.2.2.2.2.2.1 _ mX4_4) (fun _ h => h) rfl hin rfl (by decide +kernel) rfl rfl (Nat.le_of_ble_eq_true rfl) dX4_init_9 (fun H locs hP hD hS => ?_)
  have hP : va_P D vwCl [(h0, .inr (4, [.int 0, .int 0, .int 0, .int 0, .null, .ref q1, .null])), (q1, .inl (cy 1, 8, .inr (.inl (fun _ => 0))))] H := hP
  have hD : va_D A [(h0, .inr (4, [.int 0, .int 0, .int 0, .int 0, .null, .ref q1, .null])), (q1, .inl (cy 1, 8, .inr (.inl (fun _ => 0))))] := hD
  refine lv_aload_n C.1 C.2.1 dX4_init_12 rfl (lv_at hl 0 rfl) ?_
  refine lv_bipush (v := 8) C.1 C.2.1 dX4_init_13 (by decide) ?_
  refine va_newa (atype := .long) (a0 := (8, .inr (.inl (fun _ => 0)))) (ty := .long) C.1 C.2.1 (C.2.2.2.2.2.1 _ mX4_3) rfl hK.1 hP hD hS hA (fun cA => by first | rfl | exact vp_cell_i _ _ _ | exact vp_cell_l _ _ _) (by decide) (N' := 8) rfl (Nat.le_of_ble_eq_true rfl) (Nat.le_of_ble_eq_true rfl) (Nat.le_of_ble_eq_true rfl) dX4_init_15 (fun q2 cA H hK9 hP hD hS => ?_)
  obtain rfl : cA = cy 1 := arr_same hK9 hK.1 1 rfl 5 rfl
  have hP : va_P D vwCl [(h0, .inr (4, [.int 0, .int 0, .int 0, .int 0, .null, .ref q1, .null])), (q1, .inl (cy 1, 8, .inr (.inl (fun _ => 0)))), (q2, .inl (cy 1, 8, .inr (.inl (fun _ => 0))))] H := hP
  have hD : va_D A [(h0, .inr (4, [.int 0, .int 0, .int 0, .int 0, .null, .ref q1, .null])), (q1, .inl (cy 1, 8, .inr (.inl (fun _ => 0)))), (q2, .inl (cy 1, 8, .inr (.inl (fun _ => 0))))] := hD
  clear hK9
  refine va_putF (D := D) (ci := 4) (v := .ref q2) (ty := .array .long) C.1 C.2.1 C.2.2.2.2.2.1 hX4_X4 tyX4 tyX4_ok nmX4 C.2.2.2.2.1 hK.1 hP hD hS 0 rfl rfl 6 (by decide) (C.2.2.2.2.2.1 _ mX4_6) (fun _ h => h) rfl hin rfl (by decide +kernel) rfl rfl (Nat.le_of_ble_eq_true rfl) dX4_init_17 (fun H locs hP hD hS => ?_)
  have hP : va_P D vwCl [(h0, .inr (4, [.int 0, .int 0, .int 0, .int 0, .null, .ref q1, .ref q2])), (q1, .inl (cy 1, 8, .inr (.inl (fun _ => 0)))), (q2, .inl (cy 1, 8, .inr (.inl (fun _ => 0))))] H := hP
  have hD : va_D A [(h0, .inr (4, [.int 0, .int 0, .int 0, .int 0, .null, .ref q1, .ref q2])), (q1, .inl (cy 1, 8, .inr (.inl (fun _ => 0)))), (q2, .inl (cy 1, 8, .inr (.inl (fun _ => 0))))] := hD
  refine lv_aload_n C.1 C.2.1 dX4_init_20 rfl (lv_at hl 0 rfl) ?_
  refine lv_aload_n C.1 C.2.1 dX4_init_21 rfl (lv_at hl 1 rfl) ?_
  refine va_putF (D := D) (ci := 4) (v := .ref b1) (ty := .object "HissHorn$Houses") C.1 C.2.1 C.2.2.2.2.2.1 hX4_X4 tyX4 tyX4_ok nmX4 C.2.2.2.2.1 hK.1 hP hD hS 0 rfl rfl 4 (by decide) (C.2.2.2.2.2.1 _ mX4_7) (fun _ h => h) rfl hin rfl (by decide +kernel) rfl rfl (Nat.le_of_ble_eq_true rfl) dX4_init_22 (fun H locs hP hD hS => ?_)
  have hP : va_P D vwCl [(h0, .inr (4, [.int 0, .int 0, .int 0, .int 0, .ref b1, .ref q1, .ref q2])), (q1, .inl (cy 1, 8, .inr (.inl (fun _ => 0)))), (q2, .inl (cy 1, 8, .inr (.inl (fun _ => 0))))] H := hP
  have hD : va_D A [(h0, .inr (4, [.int 0, .int 0, .int 0, .int 0, .ref b1, .ref q1, .ref q2])), (q1, .inl (cy 1, 8, .inr (.inl (fun _ => 0)))), (q2, .inl (cy 1, 8, .inr (.inl (fun _ => 0))))] := hD
  exact W.cs (cells' := 2) (slots' := 16) rfl rfl (W.vret C.1 C.2.1 C.2.2.2.1 (fun t ht _ => ⟨⟨(q1, q2), rfl, trivial, by rw [ht]; exact hP, hD⟩, hS.F ht⟩) hS.2.2 dX4_init_25 C.2.2.2.2.2.2)

theorem zdX8_init_0 : (and (and (and (and (and (zk cX8_init 0 (.aload_n 0) 1) (zk cX8_init 1 (.invokespecial 3) 3)) (zk cX8_init 4 (.aload_n 0) 1)) (and (zk cX8_init 5 (.bipush 120) 2) (zk cX8_init 7 (.newarray .int) 2))) (and (and (and (zk cX8_init 9 (.putfield 11) 3) (zk cX8_init 12 (.aload_n 0) 1)) (zk cX8_init 13 (.aload_n 1) 1)) (and (zk cX8_init 14 (.putfield 17) 3) (zk cX8_init 17 (.aload_n 0) 1)))) (and (and (and (and (zk cX8_init 18 (.iload_n 2) 1) (zk cX8_init 19 (.anewarray 21) 3)) (zk cX8_init 22 (.putfield 23) 3)) (and (zk cX8_init 25 (.aload_n 0) 1) (zk cX8_init 26 (.aload_n 1) 1))) (and (and (zk cX8_init 27 (.invokevirtual 27) 3) (zk cX8_init 30 (.newarray .int) 2)) (and (zk cX8_init 32 (.putfield 33) 3) (zk cX8_init 35 (.return_) 1))))) = true := by decide +kernel
theorem dX8_init_0 : decode cX8_init 0 = .ok (.aload_n 0, 1) := zk_of (zk_l (zk_l (zk_l (zk_l (zk_l zdX8_init_0)))))
theorem dX8_init_1 : decode cX8_init 1 = .ok (.invokespecial 3, 3) := zk_of (zk_r (zk_l (zk_l (zk_l (zk_l zdX8_init_0)))))
theorem dX8_init_4 : decode cX8_init 4 = .ok (.aload_n 0, 1) := zk_of (zk_r (zk_l (zk_l (zk_l zdX8_init_0))))
theorem dX8_init_5 : decode cX8_init 5 = .ok (.bipush 120, 2) := zk_of (zk_l (zk_r (zk_l (zk_l zdX8_init_0))))
theorem dX8_init_7 : decode cX8_init 7 = .ok (.newarray .int, 2) := zk_of (zk_r (zk_r (zk_l (zk_l zdX8_init_0))))
theorem dX8_init_9 : decode cX8_init 9 = .ok (.putfield 11, 3) := zk_of (zk_l (zk_l (zk_l (zk_r (zk_l zdX8_init_0)))))
theorem dX8_init_12 : decode cX8_init 12 = .ok (.aload_n 0, 1) := zk_of (zk_r (zk_l (zk_l (zk_r (zk_l zdX8_init_0)))))
theorem dX8_init_13 : decode cX8_init 13 = .ok (.aload_n 1, 1) := zk_of (zk_r (zk_l (zk_r (zk_l zdX8_init_0))))
theorem dX8_init_14 : decode cX8_init 14 = .ok (.putfield 17, 3) := zk_of (zk_l (zk_r (zk_r (zk_l zdX8_init_0))))
theorem dX8_init_17 : decode cX8_init 17 = .ok (.aload_n 0, 1) := zk_of (zk_r (zk_r (zk_r (zk_l zdX8_init_0))))
theorem dX8_init_18 : decode cX8_init 18 = .ok (.iload_n 2, 1) := zk_of (zk_l (zk_l (zk_l (zk_l (zk_r zdX8_init_0)))))
theorem dX8_init_19 : decode cX8_init 19 = .ok (.anewarray 21, 3) := zk_of (zk_r (zk_l (zk_l (zk_l (zk_r zdX8_init_0)))))
theorem dX8_init_22 : decode cX8_init 22 = .ok (.putfield 23, 3) := zk_of (zk_r (zk_l (zk_l (zk_r zdX8_init_0))))
theorem dX8_init_25 : decode cX8_init 25 = .ok (.aload_n 0, 1) := zk_of (zk_l (zk_r (zk_l (zk_r zdX8_init_0))))
theorem dX8_init_26 : decode cX8_init 26 = .ok (.aload_n 1, 1) := zk_of (zk_r (zk_r (zk_l (zk_r zdX8_init_0))))
theorem dX8_init_27 : decode cX8_init 27 = .ok (.invokevirtual 27, 3) := zk_of (zk_l (zk_l (zk_r (zk_r zdX8_init_0))))
theorem dX8_init_30 : decode cX8_init 30 = .ok (.newarray .int, 2) := zk_of (zk_r (zk_l (zk_r (zk_r zdX8_init_0))))
theorem dX8_init_32 : decode cX8_init 32 = .ok (.putfield 33, 3) := zk_of (zk_l (zk_r (zk_r (zk_r zdX8_init_0))))
theorem dX8_init_35 : decode cX8_init 35 = .ok (.return_, 1) := zk_of (zk_r (zk_r (zk_r (zk_r zdX8_init_0))))
set_option maxRecDepth 20000 in
theorem ggX8_init_J0_length_8abf5 : GoodIn wsX8_init wsJ0_length_8abf5 := goodIn_r _ [14, 15, 16, 17, 18, 13, 19, 20, 21] rfl (by decide +kernel)
set_option maxRecDepth 20000 in
theorem gX8_init_J0_length_8abf5 : GoodIn wsX8_init (wsV RX8 27 RJ0 yJ0_length_8abf5 wsJ0_length_8abf5) := goodIn_app (goodIn_of _ (by decide +kernel)) ggX8_init_J0_length_8abf5
/-- HissHorn$Shelf() -/
theorem mX8_0_0 : Cond.methodLink RX8 3 objectInit ∈ wsX8_init := (List.mem_cons_of_mem _ (List.mem_append_left _ (List.mem_of_getElem? (i := 0) rfl)))
theorem mX8_0_1 : Cond.instanceMethod objectInit ∈ wsX8_init := (List.mem_cons_of_mem _ (List.mem_append_left _ (List.mem_of_getElem? (i := 1) rfl)))
theorem mX8_0_2 : Cond.code objectInit ⟨#[0xb1]⟩ 1 none ∈ wsX8_init := (List.mem_cons_of_mem _ (List.mem_append_left _ (List.mem_of_getElem? (i := 2) rfl)))
theorem mX8_0_3 : Cond.arrayClass .int ∈ wsX8_init := (List.mem_cons_of_mem _ (List.mem_append_left _ (List.mem_of_getElem? (i := 3) rfl)))
theorem mX8_0_4 : Cond.fieldLink RX8 11 "HissHorn$Shelf" "stack" "[I" ∈ wsX8_init := (List.mem_cons_of_mem _ (List.mem_append_left _ (List.mem_of_getElem? (i := 4) rfl)))
theorem hX8_0_X8 : ∀ w ∈ u_ws RX8 TX8 5, w ∈ wsX8_init := fun w h => (List.mem_cons_of_mem _ (List.mem_append_right _ h))
theorem mX8_0_6 : Cond.fieldLink RX8 17 "HissHorn$Shelf" "letters" "Ljava/lang/String;" ∈ wsX8_init := (List.mem_cons_of_mem _ (List.mem_append_left _ (List.mem_of_getElem? (i := 5) rfl)))
theorem mX8_0_7 : Cond.classLink RX8 21 RX10 ∈ wsX8_init := (List.mem_cons_of_mem _ (List.mem_append_left _ (List.mem_of_getElem? (i := 6) rfl)))
theorem mX8_0_8 : Cond.fieldLink RX8 23 "HissHorn$Shelf" "texts" "[LHissHorn$Text;" ∈ wsX8_init := (List.mem_cons_of_mem _ (List.mem_append_left _ (List.mem_of_getElem? (i := 7) rfl)))
theorem mX8_0_9 : Cond.fieldLink RX8 33 "HissHorn$Shelf" "values" "[I" ∈ wsX8_init := (List.mem_cons_of_mem _ (List.mem_append_left _ (List.mem_of_getElem? (i := 8) rfl)))
abbrev atX8_0 (cy : Nat → ClassId) (st : Nat → Nat) (h0 b1 : Nat) (q : Nat × Nat × Nat) : va_W := match q with
  | (q1, q2, q3) => [(h0, .inr (8, [.ref b1, .ref q2, .ref q3, .ref q1, .int 0])), (q1, .inl (cy 0, 120, .inl (fun _ => 0))), (q2, .inl (cy 4, 12, .inr (.inr (.inr (.inr (fun _ => none)))))), (q3, .inl (cy 0, 6, .inl (fun _ => 0)))]
def rmkX8_0 : Room := { frames := 2, cells := 3, slots := 138, locals := 40 }
set_option maxHeartbeats 8000000 in
set_option maxRecDepth 100000 in
theorem kcX8_0 (l : Launch) (D : va_G) (cy : Nat → ClassId) (st : Nat → Nat) (h0 b1 sz : Nat) (hst : st 100 ≤ h0) : Met l yX8_init wsX8_init rmkX8_0 (va_Pc [.ref h0, .ref b1, .int 12] (fun U => U.heap.size = sz ∧ va_P D vwCl [(h0, .inr (8, [.null, .null, .null, .null, .int 0]))] U.heap ∧ Ky D [(cy 0, .int), (cy 1, .long), (cy 2, .boolean), (cy 3, .byte), (cy 4, .object "HissHorn$Text")] st U ∧ va_AO "HissHorn$Text" U ∧ Zs (Ax (fun a => a = h0) sz) b1 6 U ∧ Zc (Ax (fun a => a = h0) sz) U)) (va_Qv (fun (_ : Nat × Nat × Nat) => True) (fun q t => va_P D vwCl (atX8_0 cy st h0 b1 q) t.heap ∧ va_D (Ax (fun a => a = h0) sz) (atX8_0 cy st h0 b1 q)) (Ax (fun a => a = h0) sz)) 3 138 (Ax (fun a => a = h0) sz) := by
  refine Met.ofW (cc := cX8_init) (maxL := 3) (ret := none) (by decide) rfl ?_
  intro p e s m args below meth c s₁ B hml hv
  obtain ⟨rfl, hsz, hP, hK, hO, hZs, hZc⟩ := hv
  subst hsz
  have C : Cx RX8 cX8_init 3 none wsX8_init p s m _ meth c := ⟨B.exec, B.bytes, hml, B.returns, findClass_of_methodNamed B.named, atoms_spec (ws := wsX8_init) B.pre, B.notSynchronized⟩
  have hin : meth.name = "<init>" := (name_of_methodNamed B.named B.method).1
  generalize hAe : Ax (fun a => a = h0) s.heap.size = A at hZs hZc ⊢
  have hA : ∀ q : Nat, s.heap.size ≤ q → A q := fun q h => by rw [← hAe]; exact Or.inr h
  have hAs : ∀ q : Nat, A q → st 100 ≤ q := fun q h => by
    rw [← hAe] at h
    exact h.elim (fun z => by rw [z]; exact hst) (fun z => Nat.le_trans hK.2.2.2.1 z)
  have hD : va_D A [(h0, .inr (8, [.null, .null, .null, .null, .int 0]))] := D_one (by rw [← hAe]; exact Or.inl rfl)
  have hS : va_S A s.heap s.heap [] := va_S.rf
  have hl := lv_entry ([.ref h0, .ref b1, .int 12]) (n := 3) (Nat.le_of_ble_eq_true rfl)
  rw [lg_entry_eq]
  generalize (lg_sl ([.ref h0, .ref b1, .int 12]) ++ List.replicate (3 - (lg_sl ([.ref h0, .ref b1, .int 12])).length) Slot.unset).toArray = ls at hl ⊢
  have hl : lv_has ls 3 [(0, .ref h0), (1, .ref b1), (2, .int 12)] := hl
  refine lv_aload_n C.1 C.2.1 dX8_init_0 rfl (lv_at hl 0 rfl) ?_
  refine W.objInit C.1 C.2.1 C.2.2.2.2.1 (C.2.2.2.2.2.1 _ mX8_0_0) (C.2.2.2.2.2.1 _ mX8_0_1) (C.2.2.2.2.2.1 _ mX8_0_2) rfl (by rw [C.2.2.1]; exact hl.1) rfl dX8_init_1 (Nat.le_of_ble_eq_true rfl) (Nat.le_of_ble_eq_true rfl) ?_
  refine W.eq (g2 := F0 m 4 ls []) rfl ?_
  refine lv_aload_n C.1 C.2.1 dX8_init_4 rfl (lv_at hl 0 rfl) ?_
  refine lv_bipush (v := 120) C.1 C.2.1 dX8_init_5 (by decide) ?_
  refine va_newa (atype := .int) (a0 := (120, .inl (fun _ => 0))) (ty := .int) C.1 C.2.1 (C.2.2.2.2.2.1 _ mX8_0_3) rfl hK.1 hP hD hS hA (fun cA => by first | rfl | exact vp_cell_i _ _ _ | exact vp_cell_l _ _ _) (by decide) (N' := 120) rfl (Nat.le_of_ble_eq_true rfl) (Nat.le_of_ble_eq_true rfl) (Nat.le_of_ble_eq_true rfl) dX8_init_7 (fun q1 cA H hK9 hP hD hS => ?_)
  obtain rfl : cA = cy 0 := arr_same hK9 hK.1 0 rfl 5 rfl
  have hP : va_P D vwCl [(h0, .inr (8, [.null, .null, .null, .null, .int 0])), (q1, .inl (cy 0, 120, .inl (fun _ => 0)))] H := hP
  have hD : va_D A [(h0, .inr (8, [.null, .null, .null, .null, .int 0])), (q1, .inl (cy 0, 120, .inl (fun _ => 0)))] := hD
  clear hK9
  refine va_putF (D := D) (ci := 8) (v := .ref q1) (ty := .array .int) C.1 C.2.1 C.2.2.2.2.2.1 hX8_0_X8 tyX8 tyX8_ok nmX8 C.2.2.2.2.1 hK.1 hP hD hS 0 rfl rfl 3 (by decide) (C.2.2.2.2.2.1 _ mX8_0_4) (fun _ h => h) rfl hin rfl (by decide +kernel) rfl rfl (Nat.le_of_ble_eq_true rfl) dX8_init_9 (fun H locs hP hD hS => ?_)
  have hP : va_P D vwCl [(h0, .inr (8, [.null, .null, .null, .ref q1, .int 0])), (q1, .inl (cy 0, 120, .inl (fun _ => 0)))] H := hP
  have hD : va_D A [(h0, .inr (8, [.null, .null, .null, .ref q1, .int 0])), (q1, .inl (cy 0, 120, .inl (fun _ => 0)))] := hD
  refine lv_aload_n C.1 C.2.1 dX8_init_12 rfl (lv_at hl 0 rfl) ?_
  refine lv_aload_n C.1 C.2.1 dX8_init_13 rfl (lv_at hl 1 rfl) ?_
  refine va_putF (D := D) (ci := 8) (v := .ref b1) (ty := .object "java/lang/String") C.1 C.2.1 C.2.2.2.2.2.1 hX8_0_X8 tyX8 tyX8_ok nmX8 C.2.2.2.2.1 hK.1 hP hD hS 0 rfl rfl 0 (by decide) (C.2.2.2.2.2.1 _ mX8_0_6) (fun _ h => h) rfl hin rfl (by decide +kernel) rfl rfl (Nat.le_of_ble_eq_true rfl) dX8_init_14 (fun H locs hP hD hS => ?_)
  have hP : va_P D vwCl [(h0, .inr (8, [.ref b1, .null, .null, .ref q1, .int 0])), (q1, .inl (cy 0, 120, .inl (fun _ => 0)))] H := hP
  have hD : va_D A [(h0, .inr (8, [.ref b1, .null, .null, .ref q1, .int 0])), (q1, .inl (cy 0, 120, .inl (fun _ => 0)))] := hD
  refine lv_aload_n C.1 C.2.1 dX8_init_17 rfl (lv_at hl 0 rfl) ?_
  refine lv_iload_n C.1 C.2.1 dX8_init_18 rfl (lv_at hl 2 rfl) ?_
  refine va_newq (C := "HissHorn$Text") C.1 C.2.1 C.2.2.2.2.1 (C.2.2.2.2.2.1 _ mX8_0_7) hO hK.1 hP hD hS hA (by decide) (N' := 12) rfl (Nat.le_of_ble_eq_true rfl) (Nat.le_of_ble_eq_true rfl) (Nat.le_of_ble_eq_true rfl) dX8_init_19 (fun q2 cA H hK9 hP hD hS => ?_)
  obtain rfl : cA = cy 4 := arr_same hK9 hK.1 4 rfl 5 rfl
  have hP : va_P D vwCl [(h0, .inr (8, [.ref b1, .null, .null, .ref q1, .int 0])), (q1, .inl (cy 0, 120, .inl (fun _ => 0))), (q2, .inl (cy 4, 12, .inr (.inr (.inr (.inr (fun _ => none))))))] H := hP
  have hD : va_D A [(h0, .inr (8, [.ref b1, .null, .null, .ref q1, .int 0])), (q1, .inl (cy 0, 120, .inl (fun _ => 0))), (q2, .inl (cy 4, 12, .inr (.inr (.inr (.inr (fun _ => none))))))] := hD
  clear hK9
  refine va_putF (D := D) (ci := 8) (v := .ref q2) (ty := .array (.object "HissHorn$Text")) C.1 C.2.1 C.2.2.2.2.2.1 hX8_0_X8 tyX8 tyX8_ok nmX8 C.2.2.2.2.1 hK.1 hP hD hS 0 rfl rfl 1 (by decide) (C.2.2.2.2.2.1 _ mX8_0_8) (fun _ h => h) rfl hin rfl (by decide +kernel) rfl rfl (Nat.le_of_ble_eq_true rfl) dX8_init_22 (fun H locs hP hD hS => ?_)
  have hP : va_P D vwCl [(h0, .inr (8, [.ref b1, .ref q2, .null, .ref q1, .int 0])), (q1, .inl (cy 0, 120, .inl (fun _ => 0))), (q2, .inl (cy 4, 12, .inr (.inr (.inr (.inr (fun _ => none))))))] H := hP
  have hD : va_D A [(h0, .inr (8, [.ref b1, .ref q2, .null, .ref q1, .int 0])), (q1, .inl (cy 0, 120, .inl (fun _ => 0))), (q2, .inl (cy 4, 12, .inr (.inr (.inr (.inr (fun _ => none))))))] := hD
  refine lv_aload_n C.1 C.2.1 dX8_init_25 rfl (lv_at hl 0 rfl) ?_
  refine lv_aload_n C.1 C.2.1 dX8_init_26 rfl (lv_at hl 1 rfl) ?_
  refine va_calli (va_runV (As := []) (rest := [.ref h0]) ⟨C.1, C.2.1, C.2.2.1, C.2.2.2.2.1, C.2.2.2.2.2.1⟩ (met_strlen l b1 6 H.size) (cwV 0 C.2.2.2.2.2.1 gX8_init_J0_length_8abf5 rfl rfl rfl (by decide +kernel) ⟨Nat.le_of_ble_eq_true rfl, Nat.le_of_ble_eq_true rfl⟩) ⟨Zs_blind, Zs_recv hZs hS, fun U hU hW => ⟨rfl, by rw [hU], Zs_mv hZs hW.alike (fun q h1 h2 => by rw [hU]; exact hS.2.1 q h1 h2) (fun q h1 h2 => absurd h1 (Nat.not_lt.mpr (Nat.le_trans hS.1 h2))), Zc_mv hZc hW.alike (fun q h1 h2 => by rw [hU]; exact hS.2.1 q h1 h2) (fun q h1 h2 => absurd h1 (Nat.not_lt.mpr (Nat.le_trans hS.1 h2)))⟩⟩ rfl rfl hl.1 rfl (lv_room (Nat.le_of_ble_eq_true rfl)) dX8_init_27 ⟨Nat.le_of_ble_eq_true rfl, Nat.le_of_ble_eq_true rfl⟩) hS (fun q _ h => hA q (Nat.le_trans hS.1 h)) (fun q h => hA q (Nat.le_trans hS.1 h)) (fun r u t H1 locs ht hvm hr hB hz1 hk1 hS => ?_)
  obtain rfl : r = 6 := hr.trans (by decide)
  have hP := hP.kept (H1 := H1) (fun k q hq => hk1 q.1 (hP k q hq).lt (Nat.not_le.mpr (hP k q hq).lt))
  generalize H1 = H at hP hS ⊢
  clear hk1 hz1 hB hvm ht
  refine W.cs (cells' := 2) (slots' := 132) rfl rfl ?_
  have hP : va_P D vwCl [(h0, .inr (8, [.ref b1, .ref q2, .null, .ref q1, .int 0])), (q1, .inl (cy 0, 120, .inl (fun _ => 0))), (q2, .inl (cy 4, 12, .inr (.inr (.inr (.inr (fun _ => none))))))] H := hP
  have hD : va_D A [(h0, .inr (8, [.ref b1, .ref q2, .null, .ref q1, .int 0])), (q1, .inl (cy 0, 120, .inl (fun _ => 0))), (q2, .inl (cy 4, 12, .inr (.inr (.inr (.inr (fun _ => none))))))] := hD
  refine va_newa (atype := .int) (a0 := (6, .inl (fun _ => 0))) (ty := .int) C.1 C.2.1 (C.2.2.2.2.2.1 _ mX8_0_3) rfl hK.1 hP hD hS hA (fun cA => by first | rfl | exact vp_cell_i _ _ _ | exact vp_cell_l _ _ _) (by decide) (N' := 6) rfl (Nat.le_of_ble_eq_true rfl) (Nat.le_of_ble_eq_true rfl) (Nat.le_of_ble_eq_true rfl) dX8_init_30 (fun q3 cA H hK9 hP hD hS => ?_)
  obtain rfl : cA = cy 0 := arr_same hK9 hK.1 0 rfl 5 rfl
  have hP : va_P D vwCl [(h0, .inr (8, [.ref b1, .ref q2, .null, .ref q1, .int 0])), (q1, .inl (cy 0, 120, .inl (fun _ => 0))), (q2, .inl (cy 4, 12, .inr (.inr (.inr (.inr (fun _ => none)))))), (q3, .inl (cy 0, 6, .inl (fun _ => 0)))] H := hP
  have hD : va_D A [(h0, .inr (8, [.ref b1, .ref q2, .null, .ref q1, .int 0])), (q1, .inl (cy 0, 120, .inl (fun _ => 0))), (q2, .inl (cy 4, 12, .inr (.inr (.inr (.inr (fun _ => none)))))), (q3, .inl (cy 0, 6, .inl (fun _ => 0)))] := hD
  clear hK9
  refine va_putF (D := D) (ci := 8) (v := .ref q3) (ty := .array .int) C.1 C.2.1 C.2.2.2.2.2.1 hX8_0_X8 tyX8 tyX8_ok nmX8 C.2.2.2.2.1 hK.1 hP hD hS 0 rfl rfl 2 (by decide) (C.2.2.2.2.2.1 _ mX8_0_9) (fun _ h => h) rfl hin rfl (by decide +kernel) rfl rfl (Nat.le_of_ble_eq_true rfl) dX8_init_32 (fun H locs hP hD hS => ?_)
  have hP : va_P D vwCl [(h0, .inr (8, [.ref b1, .ref q2, .ref q3, .ref q1, .int 0])), (q1, .inl (cy 0, 120, .inl (fun _ => 0))), (q2, .inl (cy 4, 12, .inr (.inr (.inr (.inr (fun _ => none)))))), (q3, .inl (cy 0, 6, .inl (fun _ => 0)))] H := hP
  have hD : va_D A [(h0, .inr (8, [.ref b1, .ref q2, .ref q3, .ref q1, .int 0])), (q1, .inl (cy 0, 120, .inl (fun _ => 0))), (q2, .inl (cy 4, 12, .inr (.inr (.inr (.inr (fun _ => none)))))), (q3, .inl (cy 0, 6, .inl (fun _ => 0)))] := hD
  exact W.cs (cells' := 3) (slots' := 138) rfl rfl (W.vret C.1 C.2.1 C.2.2.2.1 (fun t ht _ => ⟨⟨(q1, q2, q3), rfl, trivial, by rw [ht]; exact hP, hD⟩, hS.F ht⟩) hS.2.2 dX8_init_35 C.2.2.2.2.2.2)

/-- HissHorn$Shelf() -/
theorem mX8_1_0 : Cond.methodLink RX8 3 objectInit ∈ wsX8_init := (List.mem_cons_of_mem _ (List.mem_append_left _ (List.mem_of_getElem? (i := 0) rfl)))
theorem mX8_1_1 : Cond.instanceMethod objectInit ∈ wsX8_init := (List.mem_cons_of_mem _ (List.mem_append_left _ (List.mem_of_getElem? (i := 1) rfl)))
theorem mX8_1_2 : Cond.code objectInit ⟨#[0xb1]⟩ 1 none ∈ wsX8_init := (List.mem_cons_of_mem _ (List.mem_append_left _ (List.mem_of_getElem? (i := 2) rfl)))
theorem mX8_1_3 : Cond.arrayClass .int ∈ wsX8_init := (List.mem_cons_of_mem _ (List.mem_append_left _ (List.mem_of_getElem? (i := 3) rfl)))
theorem mX8_1_4 : Cond.fieldLink RX8 11 "HissHorn$Shelf" "stack" "[I" ∈ wsX8_init := (List.mem_cons_of_mem _ (List.mem_append_left _ (List.mem_of_getElem? (i := 4) rfl)))
theorem hX8_1_X8 : ∀ w ∈ u_ws RX8 TX8 5, w ∈ wsX8_init := fun w h => (List.mem_cons_of_mem _ (List.mem_append_right _ h))
theorem mX8_1_6 : Cond.fieldLink RX8 17 "HissHorn$Shelf" "letters" "Ljava/lang/String;" ∈ wsX8_init := (List.mem_cons_of_mem _ (List.mem_append_left _ (List.mem_of_getElem? (i := 5) rfl)))
theorem mX8_1_7 : Cond.classLink RX8 21 RX10 ∈ wsX8_init := (List.mem_cons_of_mem _ (List.mem_append_left _ (List.mem_of_getElem? (i := 6) rfl)))
theorem mX8_1_8 : Cond.fieldLink RX8 23 "HissHorn$Shelf" "texts" "[LHissHorn$Text;" ∈ wsX8_init := (List.mem_cons_of_mem _ (List.mem_append_left _ (List.mem_of_getElem? (i := 7) rfl)))
theorem mX8_1_9 : Cond.fieldLink RX8 33 "HissHorn$Shelf" "values" "[I" ∈ wsX8_init := (List.mem_cons_of_mem _ (List.mem_append_left _ (List.mem_of_getElem? (i := 8) rfl)))
abbrev atX8_1 (cy : Nat → ClassId) (st : Nat → Nat) (h0 b1 : Nat) (q : Nat × Nat × Nat) : va_W := match q with
  | (q1, q2, q3) => [(h0, .inr (8, [.ref b1, .ref q2, .ref q3, .ref q1, .int 0])), (q1, .inl (cy 0, 120, .inl (fun _ => 0))), (q2, .inl (cy 4, 6, .inr (.inr (.inr (.inr (fun _ => none)))))), (q3, .inl (cy 0, 2, .inl (fun _ => 0)))]
def rmkX8_1 : Room := { frames := 2, cells := 3, slots := 128, locals := 40 }
set_option maxHeartbeats 8000000 in
set_option maxRecDepth 100000 in
theorem kcX8_1 (l : Launch) (D : va_G) (cy : Nat → ClassId) (st : Nat → Nat) (h0 b1 sz : Nat) (hst : st 100 ≤ h0) : Met l yX8_init wsX8_init rmkX8_1 (va_Pc [.ref h0, .ref b1, .int 6] (fun U => U.heap.size = sz ∧ va_P D vwCl [(h0, .inr (8, [.null, .null, .null, .null, .int 0]))] U.heap ∧ Ky D [(cy 0, .int), (cy 1, .long), (cy 2, .boolean), (cy 3, .byte), (cy 4, .object "HissHorn$Text")] st U ∧ va_AO "HissHorn$Text" U ∧ Zs (Ax (fun a => a = h0) sz) b1 2 U ∧ Zc (Ax (fun a => a = h0) sz) U)) (va_Qv (fun (_ : Nat × Nat × Nat) => True) (fun q t => va_P D vwCl (atX8_1 cy st h0 b1 q) t.heap ∧ va_D (Ax (fun a => a = h0) sz) (atX8_1 cy st h0 b1 q)) (Ax (fun a => a = h0) sz)) 3 128 (Ax (fun a => a = h0) sz) := by
  refine Met.ofW (cc := cX8_init) (maxL := 3) (ret := none) (by decide) rfl ?_
  intro p e s m args below meth c s₁ B hml hv
  obtain ⟨rfl, hsz, hP, hK, hO, hZs, hZc⟩ := hv
  subst hsz
  have C : Cx RX8 cX8_init 3 none wsX8_init p s m _ meth c := ⟨B.exec, B.bytes, hml, B.returns, findClass_of_methodNamed B.named, atoms_spec (ws := wsX8_init) B.pre, B.notSynchronized⟩
  have hin : meth.name = "<init>" := (name_of_methodNamed B.named B.method).1
  generalize hAe : Ax (fun a => a = h0) s.heap.size = A at hZs hZc ⊢
  have hA : ∀ q : Nat, s.heap.size ≤ q → A q := fun q h => by rw [← hAe]; exact Or.inr h
  have hAs : ∀ q : Nat, A q → st 100 ≤ q := fun q h => by
    rw [← hAe] at h
    exact h.elim (fun z => by rw [z]; exact hst) (fun z => Nat.le_trans hK.2.2.2.1 z)
  have hD : va_D A [(h0, .inr (8, [.null, .null, .null, .null, .int 0]))] := D_one (by rw [← hAe]; exact Or.inl rfl)
  have hS : va_S A s.heap s.heap [] := va_S.rf
  have hl := lv_entry ([.ref h0, .ref b1, .int 6]) (n := 3) (Nat.le_of_ble_eq_true rfl)
  rw [lg_entry_eq]
  generalize (lg_sl ([.ref h0, .ref b1, .int 6]) ++ List.replicate (3 - (lg_sl ([.ref h0, .ref b1, .int 6])).length) Slot.unset).toArray = ls at hl ⊢
  have hl : lv_has ls 3 [(0, .ref h0), (1, .ref b1), (2, .int 6)] := hl
  refine lv_aload_n C.1 C.2.1 dX8_init_0 rfl (lv_at hl 0 rfl) ?_
  refine W.objInit C.1 C.2.1 C.2.2.2.2.1 (C.2.2.2.2.2.1 _ mX8_1_0) (C.2.2.2.2.2.1 _ mX8_1_1) (C.2.2.2.2.2.1 _ mX8_1_2) rfl (by rw [C.2.2.1]; exact hl.1) rfl dX8_init_1 (Nat.le_of_ble_eq_true rfl) (Nat.le_of_ble_eq_true rfl) ?_
  refine W.eq (g2 := F0 m 4 ls []) rfl ?_
  refine lv_aload_n C.1 C.2.1 dX8_init_4 rfl (lv_at hl 0 rfl) ?_
  refine lv_bipush (v := 120) C.1 C.2.1 dX8_init_5 (by decide) ?_
  refine va_newa (atype := .int) (a0 := (120, .inl (fun _ => 0))) (ty := .int) C.1 C.2.1 (C.2.2.2.2.2.1 _ mX8_1_3) rfl hK.1 hP hD hS hA (fun cA => by first | rfl | exact vp_cell_i _ _ _ | exact vp_cell_l _ _ _) (by decide) (N' := 120) rfl (Nat.le_of_ble_eq_true rfl) (Nat.le_of_ble_eq_true rfl) (Nat.le_of_ble_eq_true rfl) dX8_init_7 (fun q1 cA H hK9 hP hD hS => ?_)
  obtain rfl : cA = cy 0 := arr_same hK9 hK.1 0 rfl 5 rfl
  have hP : va_P D vwCl [(h0, .inr (8, [.null, .null, .null, .null, .int 0])), (q1, .inl (cy 0, 120, .inl (fun _ => 0)))] H := hP
  have hD : va_D A [(h0, .inr (8, [.null, .null, .null, .null, .int 0])), (q1, .inl (cy 0, 120, .inl (fun _ => 0)))] := hD
  clear hK9
  refine va_putF (D := D) (ci := 8) (v := .ref q1) (ty := .array .int) C.1 C.2.1 C.2.2.2.2.2.1 hX8_1_X8 tyX8 tyX8_ok nmX8 C.2.2.2.2.1 hK.1 hP hD hS 0 rfl rfl 3 (by decide) (C.2.2.2.2.2.1 _ mX8_1_4) (fun _ h => h) rfl hin rfl (by decide +kernel) rfl rfl (Nat.le_of_ble_eq_true rfl) dX8_init_9 (fun H locs hP hD hS => ?_)
  have hP : va_P D vwCl [(h0, .inr (8, [.null, .null, .null, .ref q1, .int 0])), (q1, .inl (cy 0, 120, .inl (fun _ => 0)))] H := hP
  have hD : va_D A [(h0, .inr (8, [.null, .null, .null, .ref q1, .int 0])), (q1, .inl (cy 0, 120, .inl (fun _ => 0)))] := hD
  refine lv_aload_n C.1 C.2.1 dX8_init_12 rfl (lv_at hl 0 rfl) ?_
  refine lv_aload_n C.1 C.2.1 dX8_init_13 rfl (lv_at hl 1 rfl) ?_
  refine va_putF (D := D) (ci := 8) (v := .ref b1) (ty := .object "java/lang/String") C.1 C.2.1 C.2.2.2.2.2.1 hX8_1_X8 tyX8 tyX8_ok nmX8 C.2.2.2.2.1 hK.1 hP hD hS 0 rfl rfl 0 (by decide) (C.2.2.2.2.2.1 _ mX8_1_6) (fun _ h => h) rfl hin rfl (by decide +kernel) rfl rfl (Nat.le_of_ble_eq_true rfl) dX8_init_14 (fun H locs hP hD hS => ?_)
  have hP : va_P D vwCl [(h0, .inr (8, [.ref b1, .null, .null, .ref q1, .int 0])), (q1, .inl (cy 0, 120, .inl (fun _ => 0)))] H := hP
  have hD : va_D A [(h0, .inr (8, [.ref b1, .null, .null, .ref q1, .int 0])), (q1, .inl (cy 0, 120, .inl (fun _ => 0)))] := hD
  refine lv_aload_n C.1 C.2.1 dX8_init_17 rfl (lv_at hl 0 rfl) ?_
  refine lv_iload_n C.1 C.2.1 dX8_init_18 rfl (lv_at hl 2 rfl) ?_
  refine va_newq (C := "HissHorn$Text") C.1 C.2.1 C.2.2.2.2.1 (C.2.2.2.2.2.1 _ mX8_1_7) hO hK.1 hP hD hS hA (by decide) (N' := 6) rfl (Nat.le_of_ble_eq_true rfl) (Nat.le_of_ble_eq_true rfl) (Nat.le_of_ble_eq_true rfl) dX8_init_19 (fun q2 cA H hK9 hP hD hS => ?_)
  obtain rfl : cA = cy 4 := arr_same hK9 hK.1 4 rfl 5 rfl
  have hP : va_P D vwCl [(h0, .inr (8, [.ref b1, .null, .null, .ref q1, .int 0])), (q1, .inl (cy 0, 120, .inl (fun _ => 0))), (q2, .inl (cy 4, 6, .inr (.inr (.inr (.inr (fun _ => none))))))] H := hP
  have hD : va_D A [(h0, .inr (8, [.ref b1, .null, .null, .ref q1, .int 0])), (q1, .inl (cy 0, 120, .inl (fun _ => 0))), (q2, .inl (cy 4, 6, .inr (.inr (.inr (.inr (fun _ => none))))))] := hD
  clear hK9
  refine va_putF (D := D) (ci := 8) (v := .ref q2) (ty := .array (.object "HissHorn$Text")) C.1 C.2.1 C.2.2.2.2.2.1 hX8_1_X8 tyX8 tyX8_ok nmX8 C.2.2.2.2.1 hK.1 hP hD hS 0 rfl rfl 1 (by decide) (C.2.2.2.2.2.1 _ mX8_1_8) (fun _ h => h) rfl hin rfl (by decide +kernel) rfl rfl (Nat.le_of_ble_eq_true rfl) dX8_init_22 (fun H locs hP hD hS => ?_)
  have hP : va_P D vwCl [(h0, .inr (8, [.ref b1, .ref q2, .null, .ref q1, .int 0])), (q1, .inl (cy 0, 120, .inl (fun _ => 0))), (q2, .inl (cy 4, 6, .inr (.inr (.inr (.inr (fun _ => none))))))] H := hP
  have hD : va_D A [(h0, .inr (8, [.ref b1, .ref q2, .null, .ref q1, .int 0])), (q1, .inl (cy 0, 120, .inl (fun _ => 0))), (q2, .inl (cy 4, 6, .inr (.inr (.inr (.inr (fun _ => none))))))] := hD
  refine lv_aload_n C.1 C.2.1 dX8_init_25 rfl (lv_at hl 0 rfl) ?_
  refine lv_aload_n C.1 C.2.1 dX8_init_26 rfl (lv_at hl 1 rfl) ?_
  refine va_calli (va_runV (As := []) (rest := [.ref h0]) ⟨C.1, C.2.1, C.2.2.1, C.2.2.2.2.1, C.2.2.2.2.2.1⟩ (met_strlen l b1 2 H.size) (cwV 0 C.2.2.2.2.2.1 gX8_init_J0_length_8abf5 rfl rfl rfl (by decide +kernel) ⟨Nat.le_of_ble_eq_true rfl, Nat.le_of_ble_eq_true rfl⟩) ⟨Zs_blind, Zs_recv hZs hS, fun U hU hW => ⟨rfl, by rw [hU], Zs_mv hZs hW.alike (fun q h1 h2 => by rw [hU]; exact hS.2.1 q h1 h2) (fun q h1 h2 => absurd h1 (Nat.not_lt.mpr (Nat.le_trans hS.1 h2))), Zc_mv hZc hW.alike (fun q h1 h2 => by rw [hU]; exact hS.2.1 q h1 h2) (fun q h1 h2 => absurd h1 (Nat.not_lt.mpr (Nat.le_trans hS.1 h2)))⟩⟩ rfl rfl hl.1 rfl (lv_room (Nat.le_of_ble_eq_true rfl)) dX8_init_27 ⟨Nat.le_of_ble_eq_true rfl, Nat.le_of_ble_eq_true rfl⟩) hS (fun q _ h => hA q (Nat.le_trans hS.1 h)) (fun q h => hA q (Nat.le_trans hS.1 h)) (fun r u t H1 locs ht hvm hr hB hz1 hk1 hS => ?_)
  obtain rfl : r = 2 := hr.trans (by decide)
  have hP := hP.kept (H1 := H1) (fun k q hq => hk1 q.1 (hP k q hq).lt (Nat.not_le.mpr (hP k q hq).lt))
  generalize H1 = H at hP hS ⊢
  clear hk1 hz1 hB hvm ht
  refine W.cs (cells' := 2) (slots' := 126) rfl rfl ?_
  have hP : va_P D vwCl [(h0, .inr (8, [.ref b1, .ref q2, .null, .ref q1, .int 0])), (q1, .inl (cy 0, 120, .inl (fun _ => 0))), (q2, .inl (cy 4, 6, .inr (.inr (.inr (.inr (fun _ => none))))))] H := hP
  have hD : va_D A [(h0, .inr (8, [.ref b1, .ref q2, .null, .ref q1, .int 0])), (q1, .inl (cy 0, 120, .inl (fun _ => 0))), (q2, .inl (cy 4, 6, .inr (.inr (.inr (.inr (fun _ => none))))))] := hD
  refine va_newa (atype := .int) (a0 := (2, .inl (fun _ => 0))) (ty := .int) C.1 C.2.1 (C.2.2.2.2.2.1 _ mX8_1_3) rfl hK.1 hP hD hS hA (fun cA => by first | rfl | exact vp_cell_i _ _ _ | exact vp_cell_l _ _ _) (by decide) (N' := 2) rfl (Nat.le_of_ble_eq_true rfl) (Nat.le_of_ble_eq_true rfl) (Nat.le_of_ble_eq_true rfl) dX8_init_30 (fun q3 cA H hK9 hP hD hS => ?_)
  obtain rfl : cA = cy 0 := arr_same hK9 hK.1 0 rfl 5 rfl
  have hP : va_P D vwCl [(h0, .inr (8, [.ref b1, .ref q2, .null, .ref q1, .int 0])), (q1, .inl (cy 0, 120, .inl (fun _ => 0))), (q2, .inl (cy 4, 6, .inr (.inr (.inr (.inr (fun _ => none)))))), (q3, .inl (cy 0, 2, .inl (fun _ => 0)))] H := hP
  have hD : va_D A [(h0, .inr (8, [.ref b1, .ref q2, .null, .ref q1, .int 0])), (q1, .inl (cy 0, 120, .inl (fun _ => 0))), (q2, .inl (cy 4, 6, .inr (.inr (.inr (.inr (fun _ => none)))))), (q3, .inl (cy 0, 2, .inl (fun _ => 0)))] := hD
  clear hK9
  refine va_putF (D := D) (ci := 8) (v := .ref q3) (ty := .array .int) C.1 C.2.1 C.2.2.2.2.2.1 hX8_1_X8 tyX8 tyX8_ok nmX8 C.2.2.2.2.1 hK.1 hP hD hS 0 rfl rfl 2 (by decide) (C.2.2.2.2.2.1 _ mX8_1_9) (fun _ h => h) rfl hin rfl (by decide +kernel) rfl rfl (Nat.le_of_ble_eq_true rfl) dX8_init_32 (fun H locs hP hD hS => ?_)
  have hP : va_P D vwCl [(h0, .inr (8, [.ref b1, .ref q2, .ref q3, .ref q1, .int 0])), (q1, .inl (cy 0, 120, .inl (fun _ => 0))), (q2, .inl (cy 4, 6, .inr (.inr (.inr (.inr (fun _ => none)))))), (q3, .inl (cy 0, 2, .inl (fun _ => 0)))] H := hP
  have hD : va_D A [(h0, .inr (8, [.ref b1, .ref q2, .ref q3, .ref q1, .int 0])), (q1, .inl (cy 0, 120, .inl (fun _ => 0))), (q2, .inl (cy 4, 6, .inr (.inr (.inr (.inr (fun _ => none)))))), (q3, .inl (cy 0, 2, .inl (fun _ => 0)))] := hD
  exact W.cs (cells' := 3) (slots' := 128) rfl rfl (W.vret C.1 C.2.1 C.2.2.2.1 (fun t ht _ => ⟨⟨(q1, q2, q3), rfl, trivial, by rw [ht]; exact hP, hD⟩, hS.F ht⟩) hS.2.2 dX8_init_35 C.2.2.2.2.2.2)

/-- HissHorn$Shelf() -/
theorem mX8_2_0 : Cond.methodLink RX8 3 objectInit ∈ wsX8_init := (List.mem_cons_of_mem _ (List.mem_append_left _ (List.mem_of_getElem? (i := 0) rfl)))
theorem mX8_2_1 : Cond.instanceMethod objectInit ∈ wsX8_init := (List.mem_cons_of_mem _ (List.mem_append_left _ (List.mem_of_getElem? (i := 1) rfl)))
theorem mX8_2_2 : Cond.code objectInit ⟨#[0xb1]⟩ 1 none ∈ wsX8_init := (List.mem_cons_of_mem _ (List.mem_append_left _ (List.mem_of_getElem? (i := 2) rfl)))
theorem mX8_2_3 : Cond.arrayClass .int ∈ wsX8_init := (List.mem_cons_of_mem _ (List.mem_append_left _ (List.mem_of_getElem? (i := 3) rfl)))
theorem mX8_2_4 : Cond.fieldLink RX8 11 "HissHorn$Shelf" "stack" "[I" ∈ wsX8_init := (List.mem_cons_of_mem _ (List.mem_append_left _ (List.mem_of_getElem? (i := 4) rfl)))
theorem hX8_2_X8 : ∀ w ∈ u_ws RX8 TX8 5, w ∈ wsX8_init := fun w h => (List.mem_cons_of_mem _ (List.mem_append_right _ h))
theorem mX8_2_6 : Cond.fieldLink RX8 17 "HissHorn$Shelf" "letters" "Ljava/lang/String;" ∈ wsX8_init := (List.mem_cons_of_mem _ (List.mem_append_left _ (List.mem_of_getElem? (i := 5) rfl)))
theorem mX8_2_7 : Cond.classLink RX8 21 RX10 ∈ wsX8_init := (List.mem_cons_of_mem _ (List.mem_append_left _ (List.mem_of_getElem? (i := 6) rfl)))
theorem mX8_2_8 : Cond.fieldLink RX8 23 "HissHorn$Shelf" "texts" "[LHissHorn$Text;" ∈ wsX8_init := (List.mem_cons_of_mem _ (List.mem_append_left _ (List.mem_of_getElem? (i := 7) rfl)))
theorem mX8_2_9 : Cond.fieldLink RX8 33 "HissHorn$Shelf" "values" "[I" ∈ wsX8_init := (List.mem_cons_of_mem _ (List.mem_append_left _ (List.mem_of_getElem? (i := 8) rfl)))
abbrev atX8_2 (cy : Nat → ClassId) (st : Nat → Nat) (h0 b1 : Nat) (q : Nat × Nat × Nat) : va_W := match q with
  | (q1, q2, q3) => [(h0, .inr (8, [.ref b1, .ref q2, .ref q3, .ref q1, .int 0])), (q1, .inl (cy 0, 120, .inl (fun _ => 0))), (q2, .inl (cy 4, 6, .inr (.inr (.inr (.inr (fun _ => none)))))), (q3, .inl (cy 0, 5, .inl (fun _ => 0)))]
def rmkX8_2 : Room := { frames := 2, cells := 3, slots := 131, locals := 40 }
set_option maxHeartbeats 8000000 in
set_option maxRecDepth 100000 in
theorem kcX8_2 (l : Launch) (D : va_G) (cy : Nat → ClassId) (st : Nat → Nat) (h0 b1 sz : Nat) (hst : st 100 ≤ h0) : Met l yX8_init wsX8_init rmkX8_2 (va_Pc [.ref h0, .ref b1, .int 6] (fun U => U.heap.size = sz ∧ va_P D vwCl [(h0, .inr (8, [.null, .null, .null, .null, .int 0]))] U.heap ∧ Ky D [(cy 0, .int), (cy 1, .long), (cy 2, .boolean), (cy 3, .byte), (cy 4, .object "HissHorn$Text")] st U ∧ va_AO "HissHorn$Text" U ∧ Zs (Ax (fun a => a = h0) sz) b1 5 U ∧ Zc (Ax (fun a => a = h0) sz) U)) (va_Qv (fun (_ : Nat × Nat × Nat) => True) (fun q t => va_P D vwCl (atX8_2 cy st h0 b1 q) t.heap ∧ va_D (Ax (fun a => a = h0) sz) (atX8_2 cy st h0 b1 q)) (Ax (fun a => a = h0) sz)) 3 131 (Ax (fun a => a = h0) sz) := by
  refine Met.ofW (cc := cX8_init) (maxL := 3) (ret := none) (by decide) rfl ?_
  intro p e s m args below meth c s₁ B hml hv
  obtain ⟨rfl, hsz, hP, hK, hO, hZs, hZc⟩ := hv
  subst hsz
  have C : Cx RX8 cX8_init 3 none wsX8_init p s m _ meth c := ⟨B.exec, B.bytes, hml, B.returns, findClass_of_methodNamed B.named, atoms_spec (ws := wsX8_init) B.pre, B.notSynchronized⟩
  have hin : meth.name = "<init>" := (name_of_methodNamed B.named B.method).1
  generalize hAe : Ax (fun a => a = h0) s.heap.size = A at hZs hZc ⊢
  have hA : ∀ q : Nat, s.heap.size ≤ q → A q := fun q h => by rw [← hAe]; exact Or.inr h
  have hAs : ∀ q : Nat, A q → st 100 ≤ q := fun q h => by
    rw [← hAe] at h
    exact h.elim (fun z => by rw [z]; exact hst) (fun z => Nat.le_trans hK.2.2.2.1 z)
  have hD : va_D A [(h0, .inr (8, [.null, .null, .null, .null, .int 0]))] := D_one (by rw [← hAe]; exact Or.inl rfl)
  have hS : va_S A s.heap s.heap [] := va_S.rf
  have hl := lv_entry ([.ref h0, .ref b1, .int 6]) (n := 3) (Nat.le_of_ble_eq_true rfl)
  rw [lg_entry_eq]
  generalize (lg_sl ([.ref h0, .ref b1, .int 6]) ++ List.replicate (3 - (lg_sl ([.ref h0, .ref b1, .int 6])).length) Slot.unset).toArray = ls at hl ⊢
  have hl : lv_has ls 3 [(0, .ref h0), (1, .ref b1), (2, .int 6)] := hl
  refine lv_aload_n C.1 C.2.1 dX8_init_0 rfl (lv_at hl 0 rfl) ?_
  refine W.objInit C.1 C.2.1 C.2.2.2.2.1 (C.2.2.2.2.2.1 _ mX8_2_0) (C.2.2.2.2.2.1 _ mX8_2_1) (C.2.2.2.2.2.1 _ mX8_2_2) rfl (by rw [C.2.2.1]; exact hl.1) rfl dX8_init_1 (Nat.le_of_ble_eq_true rfl) (Nat.le_of_ble_eq_true rfl) ?_
  refine W.eq (g2 := F0 m 4 ls []) rfl ?_
  refine lv_aload_n C.1 C.2.1 dX8_init_4 rfl (lv_at hl 0 rfl) ?_
  refine lv_bipush (v := 120) C.1 C.2.1 dX8_init_5 (by decide) ?_
  refine va_newa (atype := .int) (a0 := (120, .inl (fun _ => 0))) (ty := .int) C.1 C.2.1 (C.2.2.2.2.2.1 _ mX8_2_3) rfl hK.1 hP hD hS hA (fun cA => by first | rfl | exact vp_cell_i _ _ _ | exact vp_cell_l _ _ _) (by decide) (N' := 120) rfl (Nat.le_of_ble_eq_true rfl) (Nat.le_of_ble_eq_true rfl) (Nat.le_of_ble_eq_true rfl) dX8_init_7 (fun q1 cA H hK9 hP hD hS => ?_)
  obtain rfl : cA = cy 0 := arr_same hK9 hK.1 0 rfl 5 rfl
  have hP : va_P D vwCl [(h0, .inr (8, [.null, .null, .null, .null, .int 0])), (q1, .inl (cy 0, 120, .inl (fun _ => 0)))] H := hP
  have hD : va_D A [(h0, .inr (8, [.null, .null, .null, .null, .int 0])), (q1, .inl (cy 0, 120, .inl (fun _ => 0)))] := hD
  clear hK9
  refine va_putF (D := D) (ci := 8) (v := .ref q1) (ty := .array .int) C.1 C.2.1 C.2.2.2.2.2.1 hX8_2_X8 tyX8 tyX8_ok nmX8 C.2.2.2.2.1 hK.1 hP hD hS 0 rfl rfl 3 (by decide) (C.2.2.2.2.2.1 _ mX8_2_4) (fun _ h => h) rfl hin rfl (by decide +kernel) rfl rfl (Nat.le_of_ble_eq_true rfl) dX8_init_9 (fun H locs hP hD hS => ?_)
  have hP : va_P D vwCl [(h0, .inr (8, [.null, .null, .null, .ref q1, .int 0])), (q1, .inl (cy 0, 120, .inl (fun _ => 0)))] H := hP
  have hD : va_D A [(h0, .inr (8, [.null, .null, .null, .ref q1, .int 0])), (q1, .inl (cy 0, 120, .inl (fun _ => 0)))] := hD
  refine lv_aload_n C.1 C.2.1 dX8_init_12 rfl (lv_at hl 0 rfl) ?_
  refine lv_aload_n C.1 C.2.1 dX8_init_13 rfl (lv_at hl 1 rfl) ?_
  refine va_putF (D := D) (ci := 8) (v := .ref b1) (ty := .object "java/lang/String") C.1 C.2.1 C.2.2.2.2.2.1 hX8_2_X8 tyX8 tyX8_ok nmX8 C.2.2.2.2.1 hK.1 hP hD hS 0 rfl rfl 0 (by decide) (C.2.2.2.2.2.1 _ mX8_2_6) (fun _ h => h) rfl hin rfl (by decide +kernel) rfl rfl (Nat.le_of_ble_eq_true rfl) dX8_init_14 (fun H locs hP hD hS => ?_)
  have hP : va_P D vwCl [(h0, .inr (8, [.ref b1, .null, .null, .ref q1, .int 0])), (q1, .inl (cy 0, 120, .inl (fun _ => 0)))] H := hP
  have hD : va_D A [(h0, .inr (8, [.ref b1, .null, .null, .ref q1, .int 0])), (q1, .inl (cy 0, 120, .inl (fun _ => 0)))] := hD
  refine lv_aload_n C.1 C.2.1 dX8_init_17 rfl (lv_at hl 0 rfl) ?_
  refine lv_iload_n C.1 C.2.1 dX8_init_18 rfl (lv_at hl 2 rfl) ?_
  refine va_newq (C := "HissHorn$Text") C.1 C.2.1 C.2.2.2.2.1 (C.2.2.2.2.2.1 _ mX8_2_7) hO hK.1 hP hD hS hA (by decide) (N' := 6) rfl (Nat.le_of_ble_eq_true rfl) (Nat.le_of_ble_eq_true rfl) (Nat.le_of_ble_eq_true rfl) dX8_init_19 (fun q2 cA H hK9 hP hD hS => ?_)
  obtain rfl : cA = cy 4 := arr_same hK9 hK.1 4 rfl 5 rfl
  have hP : va_P D vwCl [(h0, .inr (8, [.ref b1, .null, .null, .ref q1, .int 0])), (q1, .inl (cy 0, 120, .inl (fun _ => 0))), (q2, .inl (cy 4, 6, .inr (.inr (.inr (.inr (fun _ => none))))))] H := hP
  have hD : va_D A [(h0, .inr (8, [.ref b1, .null, .null, .ref q1, .int 0])), (q1, .inl (cy 0, 120, .inl (fun _ => 0))), (q2, .inl (cy 4, 6, .inr (.inr (.inr (.inr (fun _ => none))))))] := hD
  clear hK9
  refine va_putF (D := D) (ci := 8) (v := .ref q2) (ty := .array (.object "HissHorn$Text")) C.1 C.2.1 C.2.2.2.2.2.1 hX8_2_X8 tyX8 tyX8_ok nmX8 C.2.2.2.2.1 hK.1 hP hD hS 0 rfl rfl 1 (by decide) (C.2.2.2.2.2.1 _ mX8_2_8) (fun _ h => h) rfl hin rfl (by decide +kernel) rfl rfl (Nat.le_of_ble_eq_true rfl) dX8_init_22 (fun H locs hP hD hS => ?_)
  have hP : va_P D vwCl [(h0, .inr (8, [.ref b1, .ref q2, .null, .ref q1, .int 0])), (q1, .inl (cy 0, 120, .inl (fun _ => 0))), (q2, .inl (cy 4, 6, .inr (.inr (.inr (.inr (fun _ => none))))))] H := hP
  have hD : va_D A [(h0, .inr (8, [.ref b1, .ref q2, .null, .ref q1, .int 0])), (q1, .inl (cy 0, 120, .inl (fun _ => 0))), (q2, .inl (cy 4, 6, .inr (.inr (.inr (.inr (fun _ => none))))))] := hD
  refine lv_aload_n C.1 C.2.1 dX8_init_25 rfl (lv_at hl 0 rfl) ?_
  refine lv_aload_n C.1 C.2.1 dX8_init_26 rfl (lv_at hl 1 rfl) ?_
  refine va_calli (va_runV (As := []) (rest := [.ref h0]) ⟨C.1, C.2.1, C.2.2.1, C.2.2.2.2.1, C.2.2.2.2.2.1⟩ (met_strlen l b1 5 H.size) (cwV 0 C.2.2.2.2.2.1 gX8_init_J0_length_8abf5 rfl rfl rfl (by decide +kernel) ⟨Nat.le_of_ble_eq_true rfl, Nat.le_of_ble_eq_true rfl⟩) ⟨Zs_blind, Zs_recv hZs hS, fun U hU hW => ⟨rfl, by rw [hU], Zs_mv hZs hW.alike (fun q h1 h2 => by rw [hU]; exact hS.2.1 q h1 h2) (fun q h1 h2 => absurd h1 (Nat.not_lt.mpr (Nat.le_trans hS.1 h2))), Zc_mv hZc hW.alike (fun q h1 h2 => by rw [hU]; exact hS.2.1 q h1 h2) (fun q h1 h2 => absurd h1 (Nat.not_lt.mpr (Nat.le_trans hS.1 h2)))⟩⟩ rfl rfl hl.1 rfl (lv_room (Nat.le_of_ble_eq_true rfl)) dX8_init_27 ⟨Nat.le_of_ble_eq_true rfl, Nat.le_of_ble_eq_true rfl⟩) hS (fun q _ h => hA q (Nat.le_trans hS.1 h)) (fun q h => hA q (Nat.le_trans hS.1 h)) (fun r u t H1 locs ht hvm hr hB hz1 hk1 hS => ?_)
  obtain rfl : r = 5 := hr.trans (by decide)
  have hP := hP.kept (H1 := H1) (fun k q hq => hk1 q.1 (hP k q hq).lt (Nat.not_le.mpr (hP k q hq).lt))
  generalize H1 = H at hP hS ⊢
  clear hk1 hz1 hB hvm ht
  refine W.cs (cells' := 2) (slots' := 126) rfl rfl ?_
  have hP : va_P D vwCl [(h0, .inr (8, [.ref b1, .ref q2, .null, .ref q1, .int 0])), (q1, .inl (cy 0, 120, .inl (fun _ => 0))), (q2, .inl (cy 4, 6, .inr (.inr (.inr (.inr (fun _ => none))))))] H := hP
  have hD : va_D A [(h0, .inr (8, [.ref b1, .ref q2, .null, .ref q1, .int 0])), (q1, .inl (cy 0, 120, .inl (fun _ => 0))), (q2, .inl (cy 4, 6, .inr (.inr (.inr (.inr (fun _ => none))))))] := hD
  refine va_newa (atype := .int) (a0 := (5, .inl (fun _ => 0))) (ty := .int) C.1 C.2.1 (C.2.2.2.2.2.1 _ mX8_2_3) rfl hK.1 hP hD hS hA (fun cA => by first | rfl | exact vp_cell_i _ _ _ | exact vp_cell_l _ _ _) (by decide) (N' := 5) rfl (Nat.le_of_ble_eq_true rfl) (Nat.le_of_ble_eq_true rfl) (Nat.le_of_ble_eq_true rfl) dX8_init_30 (fun q3 cA H hK9 hP hD hS => ?_)
  obtain rfl : cA = cy 0 := arr_same hK9 hK.1 0 rfl 5 rfl
  have hP : va_P D vwCl [(h0, .inr (8, [.ref b1, .ref q2, .null, .ref q1, .int 0])), (q1, .inl (cy 0, 120, .inl (fun _ => 0))), (q2, .inl (cy 4, 6, .inr (.inr (.inr (.inr (fun _ => none)))))), (q3, .inl (cy 0, 5, .inl (fun _ => 0)))] H := hP
  have hD : va_D A [(h0, .inr (8, [.ref b1, .ref q2, .null, .ref q1, .int 0])), (q1, .inl (cy 0, 120, .inl (fun _ => 0))), (q2, .inl (cy 4, 6, .inr (.inr (.inr (.inr (fun _ => none)))))), (q3, .inl (cy 0, 5, .inl (fun _ => 0)))] := hD
  clear hK9
  refine va_putF (D := D) (ci := 8) (v := .ref q3) (ty := .array .int) C.1 C.2.1 C.2.2.2.2.2.1 hX8_2_X8 tyX8 tyX8_ok nmX8 C.2.2.2.2.1 hK.1 hP hD hS 0 rfl rfl 2 (by decide) (C.2.2.2.2.2.1 _ mX8_2_9) (fun _ h => h) rfl hin rfl (by decide +kernel) rfl rfl (Nat.le_of_ble_eq_true rfl) dX8_init_32 (fun H locs hP hD hS => ?_)
  have hP : va_P D vwCl [(h0, .inr (8, [.ref b1, .ref q2, .ref q3, .ref q1, .int 0])), (q1, .inl (cy 0, 120, .inl (fun _ => 0))), (q2, .inl (cy 4, 6, .inr (.inr (.inr (.inr (fun _ => none)))))), (q3, .inl (cy 0, 5, .inl (fun _ => 0)))] H := hP
  have hD : va_D A [(h0, .inr (8, [.ref b1, .ref q2, .ref q3, .ref q1, .int 0])), (q1, .inl (cy 0, 120, .inl (fun _ => 0))), (q2, .inl (cy 4, 6, .inr (.inr (.inr (.inr (fun _ => none)))))), (q3, .inl (cy 0, 5, .inl (fun _ => 0)))] := hD
  exact W.cs (cells' := 3) (slots' := 131) rfl rfl (W.vret C.1 C.2.1 C.2.2.2.1 (fun t ht _ => ⟨⟨(q1, q2, q3), rfl, trivial, by rw [ht]; exact hP, hD⟩, hS.F ht⟩) hS.2.2 dX8_init_35 C.2.2.2.2.2.2)

theorem zdX7_init_0 : (and (and (and (and (and (zk cX7_init 0 (.aload_n 0) 1) (zk cX7_init 1 (.invokespecial 3) 3)) (and (zk cX7_init 4 (.aload_n 0) 1) (zk cX7_init 5 (.sipush 480) 3))) (and (and (zk cX7_init 8 (.newarray .int) 2) (zk cX7_init 10 (.putfield 9) 3)) (and (zk cX7_init 13 (.aload_n 0) 1) (zk cX7_init 14 (.bipush 80) 2)))) (and (and (and (zk cX7_init 16 (.newarray .int) 2) (zk cX7_init 18 (.putfield 15) 3)) (and (zk cX7_init 21 (.aload_n 0) 1) (zk cX7_init 22 (.bipush 80) 2))) (and (and (zk cX7_init 24 (.newarray .int) 2) (zk cX7_init 26 (.putfield 18) 3)) (and (zk cX7_init 29 (.aload_n 0) 1) (zk cX7_init 30 (.bipush 80) 2))))) (and (and (and (and (zk cX7_init 32 (.newarray .int) 2) (zk cX7_init 34 (.putfield 21) 3)) (and (zk cX7_init 37 (.aload_n 0) 1) (zk cX7_init 38 (.bipush 80) 2))) (and (and (zk cX7_init 40 (.newarray .int) 2) (zk cX7_init 42 (.putfield 24) 3)) (and (zk cX7_init 45 (.aload_n 0) 1) (zk cX7_init 46 (.sipush 960) 3)))) (and (and (and (zk cX7_init 49 (.newarray .int) 2) (zk cX7_init 51 (.putfield 27) 3)) (and (zk cX7_init 54 (.aload_n 0) 1) (zk cX7_init 55 (.aload_n 1) 1))) (and (and (zk cX7_init 56 (.putfield 30) 3) (zk cX7_init 59 (.aload_n 0) 1)) (and (zk cX7_init 60 (.aload_n 2) 1) (zk cX7_init 61 (.putfield 34) 3)))))) = true := by decide +kernel
theorem dX7_init_0 : decode cX7_init 0 = .ok (.aload_n 0, 1) := zk_of (zk_l (zk_l (zk_l (zk_l (zk_l zdX7_init_0)))))
theorem dX7_init_1 : decode cX7_init 1 = .ok (.invokespecial 3, 3) := zk_of (zk_r (zk_l (zk_l (zk_l (zk_l zdX7_init_0)))))
theorem dX7_init_4 : decode cX7_init 4 = .ok (.aload_n 0, 1) := zk_of (zk_l (zk_r (zk_l (zk_l (zk_l zdX7_init_0)))))
theorem dX7_init_5 : decode cX7_init 5 = .ok (.sipush 480, 3) := zk_of (zk_r (zk_r (zk_l (zk_l (zk_l zdX7_init_0)))))
theorem dX7_init_8 : decode cX7_init 8 = .ok (.newarray .int, 2) := zk_of (zk_l (zk_l (zk_r (zk_l (zk_l zdX7_init_0)))))
theorem dX7_init_10 : decode cX7_init 10 = .ok (.putfield 9, 3) := zk_of (zk_r (zk_l (zk_r (zk_l (zk_l zdX7_init_0)))))
theorem dX7_init_13 : decode cX7_init 13 = .ok (.aload_n 0, 1) := zk_of (zk_l (zk_r (zk_r (zk_l (zk_l zdX7_init_0)))))
theorem dX7_init_14 : decode cX7_init 14 = .ok (.bipush 80, 2) := zk_of (zk_r (zk_r (zk_r (zk_l (zk_l zdX7_init_0)))))
theorem dX7_init_16 : decode cX7_init 16 = .ok (.newarray .int, 2) := zk_of (zk_l (zk_l (zk_l (zk_r (zk_l zdX7_init_0)))))
theorem dX7_init_18 : decode cX7_init 18 = .ok (.putfield 15, 3) := zk_of (zk_r (zk_l (zk_l (zk_r (zk_l zdX7_init_0)))))
theorem dX7_init_21 : decode cX7_init 21 = .ok (.aload_n 0, 1) := zk_of (zk_l (zk_r (zk_l (zk_r (zk_l zdX7_init_0)))))
theorem dX7_init_22 : decode cX7_init 22 = .ok (.bipush 80, 2) := zk_of (zk_r (zk_r (zk_l (zk_r (zk_l zdX7_init_0)))))
theorem dX7_init_24 : decode cX7_init 24 = .ok (.newarray .int, 2) := zk_of (zk_l (zk_l (zk_r (zk_r (zk_l zdX7_init_0)))))
theorem dX7_init_26 : decode cX7_init 26 = .ok (.putfield 18, 3) := zk_of (zk_r (zk_l (zk_r (zk_r (zk_l zdX7_init_0)))))
theorem dX7_init_29 : decode cX7_init 29 = .ok (.aload_n 0, 1) := zk_of (zk_l (zk_r (zk_r (zk_r (zk_l zdX7_init_0)))))
theorem dX7_init_30 : decode cX7_init 30 = .ok (.bipush 80, 2) := zk_of (zk_r (zk_r (zk_r (zk_r (zk_l zdX7_init_0)))))
theorem dX7_init_32 : decode cX7_init 32 = .ok (.newarray .int, 2) := zk_of (zk_l (zk_l (zk_l (zk_l (zk_r zdX7_init_0)))))
theorem dX7_init_34 : decode cX7_init 34 = .ok (.putfield 21, 3) := zk_of (zk_r (zk_l (zk_l (zk_l (zk_r zdX7_init_0)))))
theorem dX7_init_37 : decode cX7_init 37 = .ok (.aload_n 0, 1) := zk_of (zk_l (zk_r (zk_l (zk_l (zk_r zdX7_init_0)))))
theorem dX7_init_38 : decode cX7_init 38 = .ok (.bipush 80, 2) := zk_of (zk_r (zk_r (zk_l (zk_l (zk_r zdX7_init_0)))))
theorem dX7_init_40 : decode cX7_init 40 = .ok (.newarray .int, 2) := zk_of (zk_l (zk_l (zk_r (zk_l (zk_r zdX7_init_0)))))
theorem dX7_init_42 : decode cX7_init 42 = .ok (.putfield 24, 3) := zk_of (zk_r (zk_l (zk_r (zk_l (zk_r zdX7_init_0)))))
theorem dX7_init_45 : decode cX7_init 45 = .ok (.aload_n 0, 1) := zk_of (zk_l (zk_r (zk_r (zk_l (zk_r zdX7_init_0)))))
theorem dX7_init_46 : decode cX7_init 46 = .ok (.sipush 960, 3) := zk_of (zk_r (zk_r (zk_r (zk_l (zk_r zdX7_init_0)))))
theorem dX7_init_49 : decode cX7_init 49 = .ok (.newarray .int, 2) := zk_of (zk_l (zk_l (zk_l (zk_r (zk_r zdX7_init_0)))))
theorem dX7_init_51 : decode cX7_init 51 = .ok (.putfield 27, 3) := zk_of (zk_r (zk_l (zk_l (zk_r (zk_r zdX7_init_0)))))
theorem dX7_init_54 : decode cX7_init 54 = .ok (.aload_n 0, 1) := zk_of (zk_l (zk_r (zk_l (zk_r (zk_r zdX7_init_0)))))
theorem dX7_init_55 : decode cX7_init 55 = .ok (.aload_n 1, 1) := zk_of (zk_r (zk_r (zk_l (zk_r (zk_r zdX7_init_0)))))
theorem dX7_init_56 : decode cX7_init 56 = .ok (.putfield 30, 3) := zk_of (zk_l (zk_l (zk_r (zk_r (zk_r zdX7_init_0)))))
theorem dX7_init_59 : decode cX7_init 59 = .ok (.aload_n 0, 1) := zk_of (zk_r (zk_l (zk_r (zk_r (zk_r zdX7_init_0)))))
theorem dX7_init_60 : decode cX7_init 60 = .ok (.aload_n 2, 1) := zk_of (zk_l (zk_r (zk_r (zk_r (zk_r zdX7_init_0)))))
theorem dX7_init_61 : decode cX7_init 61 = .ok (.putfield 34, 3) := zk_of (zk_r (zk_r (zk_r (zk_r (zk_r zdX7_init_0)))))
theorem zdX7_init_64 : (and (and (and (zk cX7_init 64 (.aload_n 0) 1) (zk cX7_init 65 (.getfield 27) 3)) (zk cX7_init 68 (.ldc 38) 2)) (and (zk cX7_init 70 (.invokestatic 39) 3) (zk cX7_init 73 (.return_) 1))) = true := by decide +kernel
theorem dX7_init_64 : decode cX7_init 64 = .ok (.aload_n 0, 1) := zk_of (zk_l (zk_l (zk_l zdX7_init_64)))
theorem dX7_init_65 : decode cX7_init 65 = .ok (.getfield 27, 3) := zk_of (zk_r (zk_l (zk_l zdX7_init_64)))
theorem dX7_init_68 : decode cX7_init 68 = .ok (.ldc 38, 2) := zk_of (zk_r (zk_l zdX7_init_64))
theorem dX7_init_70 : decode cX7_init 70 = .ok (.invokestatic 39, 3) := zk_of (zk_l (zk_r zdX7_init_64))
theorem dX7_init_73 : decode cX7_init 73 = .ok (.return_, 1) := zk_of (zk_r (zk_r zdX7_init_64))
set_option maxRecDepth 20000 in
theorem ggX7_init_J7_fill_53178 : GoodIn wsX7_init wsJ7_fill_53178 := goodIn_r _ [17] rfl (by decide +kernel)
set_option maxRecDepth 20000 in
theorem gX7_init_J7_fill_53178 : GoodIn wsX7_init (va_wsS RX7 39 yJ7_fill_53178 wsJ7_fill_53178) := goodIn_app (goodIn_of _ (by decide +kernel)) ggX7_init_J7_fill_53178
/-- HissHorn$Readings() -/
theorem mX7_0 : Cond.methodLink RX7 3 objectInit ∈ wsX7_init := (List.mem_cons_of_mem _ (List.mem_append_left _ (List.mem_of_getElem? (i := 0) rfl)))
theorem mX7_1 : Cond.instanceMethod objectInit ∈ wsX7_init := (List.mem_cons_of_mem _ (List.mem_append_left _ (List.mem_of_getElem? (i := 1) rfl)))
theorem mX7_2 : Cond.code objectInit ⟨#[0xb1]⟩ 1 none ∈ wsX7_init := (List.mem_cons_of_mem _ (List.mem_append_left _ (List.mem_of_getElem? (i := 2) rfl)))
theorem mX7_3 : Cond.arrayClass .int ∈ wsX7_init := (List.mem_cons_of_mem _ (List.mem_append_left _ (List.mem_of_getElem? (i := 3) rfl)))
theorem mX7_4 : Cond.fieldLink RX7 9 "HissHorn$Readings" "aims" "[I" ∈ wsX7_init := (List.mem_cons_of_mem _ (List.mem_append_left _ (List.mem_of_getElem? (i := 4) rfl)))
theorem hX7_X7 : ∀ w ∈ u_ws RX7 TX7 12, w ∈ wsX7_init := fun w h => (List.mem_cons_of_mem _ (List.mem_append_right _ h))
theorem mX7_6 : Cond.fieldLink RX7 15 "HissHorn$Readings" "day" "[I" ∈ wsX7_init := (List.mem_cons_of_mem _ (List.mem_append_left _ (List.mem_of_getElem? (i := 5) rfl)))
theorem mX7_7 : Cond.fieldLink RX7 18 "HissHorn$Readings" "lower" "[I" ∈ wsX7_init := (List.mem_cons_of_mem _ (List.mem_append_left _ (List.mem_of_getElem? (i := 6) rfl)))
theorem mX7_8 : Cond.fieldLink RX7 21 "HissHorn$Readings" "upper" "[I" ∈ wsX7_init := (List.mem_cons_of_mem _ (List.mem_append_left _ (List.mem_of_getElem? (i := 7) rfl)))
theorem mX7_9 : Cond.fieldLink RX7 24 "HissHorn$Readings" "number" "[I" ∈ wsX7_init := (List.mem_cons_of_mem _ (List.mem_append_left _ (List.mem_of_getElem? (i := 8) rfl)))
theorem mX7_10 : Cond.fieldLink RX7 27 "HissHorn$Readings" "worths" "[I" ∈ wsX7_init := (List.mem_cons_of_mem _ (List.mem_append_left _ (List.mem_of_getElem? (i := 9) rfl)))
theorem mX7_11 : Cond.fieldLink RX7 30 "HissHorn$Readings" "laws" "LHissHorn$Shelf;" ∈ wsX7_init := (List.mem_cons_of_mem _ (List.mem_append_left _ (List.mem_of_getElem? (i := 10) rfl)))
theorem mX7_12 : Cond.fieldLink RX7 34 "HissHorn$Readings" "parts" "LHissHorn$Parts;" ∈ wsX7_init := (List.mem_cons_of_mem _ (List.mem_append_left _ (List.mem_of_getElem? (i := 11) rfl)))
theorem mX7_13 : Cond.constant RX7 38 (-100000000) ∈ wsX7_init := (List.mem_cons_of_mem _ (List.mem_append_left _ (List.mem_of_getElem? (i := 12) rfl)))
abbrev atX7 (cy : Nat → ClassId) (st : Nat → Nat) (h0 b1 b2 : Nat) (q : Nat × Nat × Nat × Nat × Nat × Nat) : va_W := match q with
  | (q1, q2, q3, q4, q5, q6) => [(h0, .inr (7, [.ref q1, .ref q2, .int 0, .int 0, .ref q3, .ref q4, .ref q5, .ref q6, .int 0, .int 0, .ref b1, .ref b2])), (q1, .inl (cy 0, 480, .inl (fun _ => 0))), (q2, .inl (cy 0, 80, .inl (fun _ => 0))), (q3, .inl (cy 0, 80, .inl (fun _ => 0))), (q4, .inl (cy 0, 80, .inl (fun _ => 0))), (q5, .inl (cy 0, 80, .inl (fun _ => 0))), (q6, .inl (cy 0, 960, .inl (uF.2.1 0)))]
def rmkX7 : Room := { frames := 1, cells := 6, slots := 1760, locals := 23 }
set_option maxHeartbeats 8000000 in
set_option maxRecDepth 100000 in
theorem kcX7 (l : Launch) (D : va_G) (cy : Nat → ClassId) (st : Nat → Nat) (h0 b1 b2 sz : Nat) (hst : st 100 ≤ h0) : Met l yX7_init wsX7_init rmkX7 (va_Pc [.ref h0, .ref b1, .ref b2] (fun U => U.heap.size = sz ∧ va_P D vwCl [(h0, .inr (7, [.null, .null, .int 0, .int 0, .null, .null, .null, .null, .int 0, .int 0, .null, .null]))] U.heap ∧ Ky D [(cy 0, .int), (cy 1, .long), (cy 2, .boolean), (cy 3, .byte), (cy 4, .object "HissHorn$Text")] st U)) (va_Qv (fun (_ : Nat × Nat × Nat × Nat × Nat × Nat) => True) (fun q t => va_P D vwCl (atX7 cy st h0 b1 b2 q) t.heap ∧ va_D (Ax (fun a => a = h0) sz) (atX7 cy st h0 b1 b2 q)) (Ax (fun a => a = h0) sz)) 6 1760 (Ax (fun a => a = h0) sz) := by
  refine Met.ofW (cc := cX7_init) (maxL := 3) (ret := none) (by decide) rfl ?_
  intro p e s m args below meth c s₁ B hml hv
  obtain ⟨rfl, hsz, hP, hK⟩ := hv
  subst hsz
  have C : Cx RX7 cX7_init 3 none wsX7_init p s m _ meth c := ⟨B.exec, B.bytes, hml, B.returns, findClass_of_methodNamed B.named, atoms_spec (ws := wsX7_init) B.pre, B.notSynchronized⟩
  have hin : meth.name = "<init>" := (name_of_methodNamed B.named B.method).1
  generalize hAe : Ax (fun a => a = h0) s.heap.size = A
  have hA : ∀ q : Nat, s.heap.size ≤ q → A q := fun q h => by rw [← hAe]; exact Or.inr h
  have hAs : ∀ q : Nat, A q → st 100 ≤ q := fun q h => by
    rw [← hAe] at h
    exact h.elim (fun z => by rw [z]; exact hst) (fun z => Nat.le_trans hK.2.2.2.1 z)
  have hD : va_D A [(h0, .inr (7, [.null, .null, .int 0, .int 0, .null, .null, .null, .null, .int 0, .int 0, .null, .null]))] := D_one (by rw [← hAe]; exact Or.inl rfl)
  have hS : va_S A s.heap s.heap [] := va_S.rf
  have hl := lv_entry ([.ref h0, .ref b1, .ref b2]) (n := 3) (Nat.le_of_ble_eq_true rfl)
  rw [lg_entry_eq]
  generalize (lg_sl ([.ref h0, .ref b1, .ref b2]) ++ List.replicate (3 - (lg_sl ([.ref h0, .ref b1, .ref b2])).length) Slot.unset).toArray = ls at hl ⊢
  have hl : lv_has ls 3 [(0, .ref h0), (1, .ref b1), (2, .ref b2)] := hl
  refine lv_aload_n C.1 C.2.1 dX7_init_0 rfl (lv_at hl 0 rfl) ?_
  refine W.objInit C.1 C.2.1 C.2.2.2.2.1 (C.2.2.2.2.2.1 _ mX7_0) (C.2.2.2.2.2.1 _ mX7_1) (C.2.2.2.2.2.1 _ mX7_2) rfl (by rw [C.2.2.1]; exact hl.1) rfl dX7_init_1 (Nat.le_of_ble_eq_true rfl) (Nat.le_of_ble_eq_true rfl) ?_
  refine W.eq (g2 := F0 m 4 ls []) rfl ?_
  refine lv_aload_n C.1 C.2.1 dX7_init_4 rfl (lv_at hl 0 rfl) ?_
  refine lv_sipush (v := 480) C.1 C.2.1 dX7_init_5 (by decide) ?_
  refine va_newa (atype := .int) (a0 := (480, .inl (fun _ => 0))) (ty := .int) C.1 C.2.1 (C.2.2.2.2.2.1 _ mX7_3) rfl hK.1 hP hD hS hA (fun cA => by first | rfl | exact vp_cell_i _ _ _ | exact vp_cell_l _ _ _) (by decide) (N' := 480) rfl (Nat.le_of_ble_eq_true rfl) (Nat.le_of_ble_eq_true rfl) (Nat.le_of_ble_eq_true rfl) dX7_init_8 (fun q1 cA H hK9 hP hD hS => ?_)
  obtain rfl : cA = cy 0 := arr_same hK9 hK.1 0 rfl 5 rfl
  have hP : va_P D vwCl [(h0, .inr (7, [.null, .null, .int 0, .int 0, .null, .null, .null, .null, .int 0, .int 0, .null, .null])), (q1, .inl (cy 0, 480, .inl (fun _ => 0)))] H := hP
  have hD : va_D A [(h0, .inr (7, [.null, .null, .int 0, .int 0, .null, .null, .null, .null, .int 0, .int 0, .null, .null])), (q1, .inl (cy 0, 480, .inl (fun _ => 0)))] := hD
  clear hK9
  refine va_putF (D := D) (ci := 7) (v := .ref q1) (ty := .array .int) C.1 C.2.1 C.2.2.2.2.2.1 hX7_X7 tyX7 tyX7_ok nmX7 C.2.2.2.2.1 hK.1 hP hD hS 0 rfl rfl 0 (by decide) (C.2.2.2.2.2.1 _ mX7_4) (fun _ h => h) rfl hin rfl (by decide +kernel) rfl rfl (Nat.le_of_ble_eq_true rfl) dX7_init_10 (fun H locs hP hD hS => ?_)
  have hP : va_P D vwCl [(h0, .inr (7, [.ref q1, .null, .int 0, .int 0, .null, .null, .null, .null, .int 0, .int 0, .null, .null])), (q1, .inl (cy 0, 480, .inl (fun _ => 0)))] H := hP
  have hD : va_D A [(h0, .inr (7, [.ref q1, .null, .int 0, .int 0, .null, .null, .null, .null, .int 0, .int 0, .null, .null])), (q1, .inl (cy 0, 480, .inl (fun _ => 0)))] := hD
  refine lv_aload_n C.1 C.2.1 dX7_init_13 rfl (lv_at hl 0 rfl) ?_
  refine lv_bipush (v := 80) C.1 C.2.1 dX7_init_14 (by decide) ?_
  refine va_newa (atype := .int) (a0 := (80, .inl (fun _ => 0))) (ty := .int) C.1 C.2.1 (C.2.2.2.2.2.1 _ mX7_3) rfl hK.1 hP hD hS hA (fun cA => by first | rfl | exact vp_cell_i _ _ _ | exact vp_cell_l _ _ _) (by decide) (N' := 80) rfl (Nat.le_of_ble_eq_true rfl) (Nat.le_of_ble_eq_true rfl) (Nat.le_of_ble_eq_true rfl) dX7_init_16 (fun q2 cA H hK9 hP hD hS => ?_)
  obtain rfl : cA = cy 0 := arr_same hK9 hK.1 0 rfl 5 rfl
  have hP : va_P D vwCl [(h0, .inr (7, [.ref q1, .null, .int 0, .int 0, .null, .null, .null, .null, .int 0, .int 0, .null, .null])), (q1, .inl (cy 0, 480, .inl (fun _ => 0))), (q2, .inl (cy 0, 80, .inl (fun _ => 0)))] H := hP
  have hD : va_D A [(h0, .inr (7, [.ref q1, .null, .int 0, .int 0, .null, .null, .null, .null, .int 0, .int 0, .null, .null])), (q1, .inl (cy 0, 480, .inl (fun _ => 0))), (q2, .inl (cy 0, 80, .inl (fun _ => 0)))] := hD
  clear hK9
  refine va_putF (D := D) (ci := 7) (v := .ref q2) (ty := .array .int) C.1 C.2.1 C.2.2.2.2.2.1 hX7_X7 tyX7 tyX7_ok nmX7 C.2.2.2.2.1 hK.1 hP hD hS 0 rfl rfl 1 (by decide) (C.2.2.2.2.2.1 _ mX7_6) (fun _ h => h) rfl hin rfl (by decide +kernel) rfl rfl (Nat.le_of_ble_eq_true rfl) dX7_init_18 (fun H locs hP hD hS => ?_)
  have hP : va_P D vwCl [(h0, .inr (7, [.ref q1, .ref q2, .int 0, .int 0, .null, .null, .null, .null, .int 0, .int 0, .null, .null])), (q1, .inl (cy 0, 480, .inl (fun _ => 0))), (q2, .inl (cy 0, 80, .inl (fun _ => 0)))] H := hP
  have hD : va_D A [(h0, .inr (7, [.ref q1, .ref q2, .int 0, .int 0, .null, .null, .null, .null, .int 0, .int 0, .null, .null])), (q1, .inl (cy 0, 480, .inl (fun _ => 0))), (q2, .inl (cy 0, 80, .inl (fun _ => 0)))] := hD
  refine lv_aload_n C.1 C.2.1 dX7_init_21 rfl (lv_at hl 0 rfl) ?_
  refine lv_bipush (v := 80) C.1 C.2.1 dX7_init_22 (by decide) ?_
  refine va_newa (atype := .int) (a0 := (80, .inl (fun _ => 0))) (ty := .int) C.1 C.2.1 (C.2.2.2.2.2.1 _ mX7_3) rfl hK.1 hP hD hS hA (fun cA => by first | rfl | exact vp_cell_i _ _ _ | exact vp_cell_l _ _ _) (by decide) (N' := 80) rfl (Nat.le_of_ble_eq_true rfl) (Nat.le_of_ble_eq_true rfl) (Nat.le_of_ble_eq_true rfl) dX7_init_24 (fun q3 cA H hK9 hP hD hS => ?_)
  obtain rfl : cA = cy 0 := arr_same hK9 hK.1 0 rfl 5 rfl
  have hP : va_P D vwCl [(h0, .inr (7, [.ref q1, .ref q2, .int 0, .int 0, .null, .null, .null, .null, .int 0, .int 0, .null, .null])), (q1, .inl (cy 0, 480, .inl (fun _ => 0))), (q2, .inl (cy 0, 80, .inl (fun _ => 0))), (q3, .inl (cy 0, 80, .inl (fun _ => 0)))] H := hP
  have hD : va_D A [(h0, .inr (7, [.ref q1, .ref q2, .int 0, .int 0, .null, .null, .null, .null, .int 0, .int 0, .null, .null])), (q1, .inl (cy 0, 480, .inl (fun _ => 0))), (q2, .inl (cy 0, 80, .inl (fun _ => 0))), (q3, .inl (cy 0, 80, .inl (fun _ => 0)))] := hD
  clear hK9
  refine va_putF (D := D) (ci := 7) (v := .ref q3) (ty := .array .int) C.1 C.2.1 C.2.2.2.2.2.1 hX7_X7 tyX7 tyX7_ok nmX7 C.2.2.2.2.1 hK.1 hP hD hS 0 rfl rfl 4 (by decide) (C.2.2.2.2.2.1 _ mX7_7) (fun _ h => h) rfl hin rfl (by decide +kernel) rfl rfl (Nat.le_of_ble_eq_true rfl) dX7_init_26 (fun H locs hP hD hS => ?_)
  have hP : va_P D vwCl [(h0, .inr (7, [.ref q1, .ref q2, .int 0, .int 0, .ref q3, .null, .null, .null, .int 0, .int 0, .null, .null])), (q1, .inl (cy 0, 480, .inl (fun _ => 0))), (q2, .inl (cy 0, 80, .inl (fun _ => 0))), (q3, .inl (cy 0, 80, .inl (fun _ => 0)))] H := hP
  have hD : va_D A [(h0, .inr (7, [.ref q1, .ref q2, .int 0, .int 0, .ref q3, .null, .null, .null, .int 0, .int 0, .null, .null])), (q1, .inl (cy 0, 480, .inl (fun _ => 0))), (q2, .inl (cy 0, 80, .inl (fun _ => 0))), (q3, .inl (cy 0, 80, .inl (fun _ => 0)))] := hD
  refine lv_aload_n C.1 C.2.1 dX7_init_29 rfl (lv_at hl 0 rfl) ?_
  refine lv_bipush (v := 80) C.1 C.2.1 dX7_init_30 (by decide) ?_
  refine va_newa (atype := .int) (a0 := (80, .inl (fun _ => 0))) (ty := .int) C.1 C.2.1 (C.2.2.2.2.2.1 _ mX7_3) rfl hK.1 hP hD hS hA (fun cA => by first | rfl | exact vp_cell_i _ _ _ | exact vp_cell_l _ _ _) (by decide) (N' := 80) rfl (Nat.le_of_ble_eq_true rfl) (Nat.le_of_ble_eq_true rfl) (Nat.le_of_ble_eq_true rfl) dX7_init_32 (fun q4 cA H hK9 hP hD hS => ?_)
  obtain rfl : cA = cy 0 := arr_same hK9 hK.1 0 rfl 5 rfl
  have hP : va_P D vwCl [(h0, .inr (7, [.ref q1, .ref q2, .int 0, .int 0, .ref q3, .null, .null, .null, .int 0, .int 0, .null, .null])), (q1, .inl (cy 0, 480, .inl (fun _ => 0))), (q2, .inl (cy 0, 80, .inl (fun _ => 0))), (q3, .inl (cy 0, 80, .inl (fun _ => 0))), (q4, .inl (cy 0, 80, .inl (fun _ => 0)))] H := hP
  have hD : va_D A [(h0, .inr (7, [.ref q1, .ref q2, .int 0, .int 0, .ref q3, .null, .null, .null, .int 0, .int 0, .null, .null])), (q1, .inl (cy 0, 480, .inl (fun _ => 0))), (q2, .inl (cy 0, 80, .inl (fun _ => 0))), (q3, .inl (cy 0, 80, .inl (fun _ => 0))), (q4, .inl (cy 0, 80, .inl (fun _ => 0)))] := hD
  clear hK9
  refine va_putF (D := D) (ci := 7) (v := .ref q4) (ty := .array .int) C.1 C.2.1 C.2.2.2.2.2.1 hX7_X7 tyX7 tyX7_ok nmX7 C.2.2.2.2.1 hK.1 hP hD hS 0 rfl rfl 5 (by decide) (C.2.2.2.2.2.1 _ mX7_8) (fun _ h => h) rfl hin rfl (by decide +kernel) rfl rfl (Nat.le_of_ble_eq_true rfl) dX7_init_34 (fun H locs hP hD hS => ?_)
  have hP : va_P D vwCl [(h0, .inr (7, [.ref q1, .ref q2, .int 0, .int 0, .ref q3, .ref q4, .null, .null, .int 0, .int 0, .null, .null])), (q1, .inl (cy 0, 480, .inl (fun _ => 0))), (q2, .inl (cy 0, 80, .inl (fun _ => 0))), (q3, .inl (cy 0, 80, .inl (fun _ => 0))), (q4, .inl (cy 0, 80, .inl (fun _ => 0)))] H := hP
  have hD : va_D A [(h0, .inr (7, [.ref q1, .ref q2, .int 0, .int 0, .ref q3, .ref q4, .null, .null, .int 0, .int 0, .null, .null])), (q1, .inl (cy 0, 480, .inl (fun _ => 0))), (q2, .inl (cy 0, 80, .inl (fun _ => 0))), (q3, .inl (cy 0, 80, .inl (fun _ => 0))), (q4, .inl (cy 0, 80, .inl (fun _ => 0)))] := hD
  refine lv_aload_n C.1 C.2.1 dX7_init_37 rfl (lv_at hl 0 rfl) ?_
  refine lv_bipush (v := 80) C.1 C.2.1 dX7_init_38 (by decide) ?_
  refine va_newa (atype := .int) (a0 := (80, .inl (fun _ => 0))) (ty := .int) C.1 C.2.1 (C.2.2.2.2.2.1 _ mX7_3) rfl hK.1 hP hD hS hA (fun cA => by first | rfl | exact vp_cell_i _ _ _ | exact vp_cell_l _ _ _) (by decide) (N' := 80) rfl (Nat.le_of_ble_eq_true rfl) (Nat.le_of_ble_eq_true rfl) (Nat.le_of_ble_eq_true rfl) dX7_init_40 (fun q5 cA H hK9 hP hD hS => ?_)
  obtain rfl : cA = cy 0 := arr_same hK9 hK.1 0 rfl 5 rfl
  have hP : va_P D vwCl [(h0, .inr (7, [.ref q1, .ref q2, .int 0, .int 0, .ref q3, .ref q4, .null, .null, .int 0, .int 0, .null, .null])), (q1, .inl (cy 0, 480, .inl (fun _ => 0))), (q2, .inl (cy 0, 80, .inl (fun _ => 0))), (q3, .inl (cy 0, 80, .inl (fun _ => 0))), (q4, .inl (cy 0, 80, .inl (fun _ => 0))), (q5, .inl (cy 0, 80, .inl (fun _ => 0)))] H := hP
  have hD : va_D A [(h0, .inr (7, [.ref q1, .ref q2, .int 0, .int 0, .ref q3, .ref q4, .null, .null, .int 0, .int 0, .null, .null])), (q1, .inl (cy 0, 480, .inl (fun _ => 0))), (q2, .inl (cy 0, 80, .inl (fun _ => 0))), (q3, .inl (cy 0, 80, .inl (fun _ => 0))), (q4, .inl (cy 0, 80, .inl (fun _ => 0))), (q5, .inl (cy 0, 80, .inl (fun _ => 0)))] := hD
  clear hK9
  refine va_putF (D := D) (ci := 7) (v := .ref q5) (ty := .array .int) C.1 C.2.1 C.2.2.2.2.2.1 hX7_X7 tyX7 tyX7_ok nmX7 C.2.2.2.2.1 hK.1 hP hD hS 0 rfl rfl 6 (by decide) (C.2.2.2.2.2.1 _ mX7_9) (fun _ h => h) rfl hin rfl (by decide +kernel) rfl rfl (Nat.le_of_ble_eq_true rfl) dX7_init_42 (fun H locs hP hD hS => ?_)
  have hP : va_P D vwCl [(h0, .inr (7, [.ref q1, .ref q2, .int 0, .int 0, .ref q3, .ref q4, .ref q5, .null, .int 0, .int 0, .null, .null])), (q1, .inl (cy 0, 480, .inl (fun _ => 0))), (q2, .inl (cy 0, 80, .inl (fun _ => 0))), (q3, .inl (cy 0, 80, .inl (fun _ => 0))), (q4, .inl (cy 0, 80, .inl (fun _ => 0))), (q5, .inl (cy 0, 80, .inl (fun _ => 0)))] H := hP
  have hD : va_D A [(h0, .inr (7, [.ref q1, .ref q2, .int 0, .int 0, .ref q3, .ref q4, .ref q5, .null, .int 0, .int 0, .null, .null])), (q1, .inl (cy 0, 480, .inl (fun _ => 0))), (q2, .inl (cy 0, 80, .inl (fun _ => 0))), (q3, .inl (cy 0, 80, .inl (fun _ => 0))), (q4, .inl (cy 0, 80, .inl (fun _ => 0))), (q5, .inl (cy 0, 80, .inl (fun _ => 0)))] := hD
  refine lv_aload_n C.1 C.2.1 dX7_init_45 rfl (lv_at hl 0 rfl) ?_
  refine lv_sipush (v := 960) C.1 C.2.1 dX7_init_46 (by decide) ?_
  refine va_newa (atype := .int) (a0 := (960, .inl (fun _ => 0))) (ty := .int) C.1 C.2.1 (C.2.2.2.2.2.1 _ mX7_3) rfl hK.1 hP hD hS hA (fun cA => by first | rfl | exact vp_cell_i _ _ _ | exact vp_cell_l _ _ _) (by decide) (N' := 960) rfl (Nat.le_of_ble_eq_true rfl) (Nat.le_of_ble_eq_true rfl) (Nat.le_of_ble_eq_true rfl) dX7_init_49 (fun q6 cA H hK9 hP hD hS => ?_)
  obtain rfl : cA = cy 0 := arr_same hK9 hK.1 0 rfl 5 rfl
  have hP : va_P D vwCl [(h0, .inr (7, [.ref q1, .ref q2, .int 0, .int 0, .ref q3, .ref q4, .ref q5, .null, .int 0, .int 0, .null, .null])), (q1, .inl (cy 0, 480, .inl (fun _ => 0))), (q2, .inl (cy 0, 80, .inl (fun _ => 0))), (q3, .inl (cy 0, 80, .inl (fun _ => 0))), (q4, .inl (cy 0, 80, .inl (fun _ => 0))), (q5, .inl (cy 0, 80, .inl (fun _ => 0))), (q6, .inl (cy 0, 960, .inl (fun _ => 0)))] H := hP
  have hD : va_D A [(h0, .inr (7, [.ref q1, .ref q2, .int 0, .int 0, .ref q3, .ref q4, .ref q5, .null, .int 0, .int 0, .null, .null])), (q1, .inl (cy 0, 480, .inl (fun _ => 0))), (q2, .inl (cy 0, 80, .inl (fun _ => 0))), (q3, .inl (cy 0, 80, .inl (fun _ => 0))), (q4, .inl (cy 0, 80, .inl (fun _ => 0))), (q5, .inl (cy 0, 80, .inl (fun _ => 0))), (q6, .inl (cy 0, 960, .inl (fun _ => 0)))] := hD
  clear hK9
  refine va_putF (D := D) (ci := 7) (v := .ref q6) (ty := .array .int) C.1 C.2.1 C.2.2.2.2.2.1 hX7_X7 tyX7 tyX7_ok nmX7 C.2.2.2.2.1 hK.1 hP hD hS 0 rfl rfl 7 (by decide) (C.2.2.2.2.2.1 _ mX7_10) (fun _ h => h) rfl hin rfl (by decide +kernel) rfl rfl (Nat.le_of_ble_eq_true rfl) dX7_init_51 (fun H locs hP hD hS => ?_)
  have hP : va_P D vwCl [(h0, .inr (7, [.ref q1, .ref q2, .int 0, .int 0, .ref q3, .ref q4, .ref q5, .ref q6, .int 0, .int 0, .null, .null])), (q1, .inl (cy 0, 480, .inl (fun _ => 0))), (q2, .inl (cy 0, 80, .inl (fun _ => 0))), (q3, .inl (cy 0, 80, .inl (fun _ => 0))), (q4, .inl (cy 0, 80, .inl (fun _ => 0))), (q5, .inl (cy 0, 80, .inl (fun _ => 0))), (q6, .inl (cy 0, 960, .inl (fun _ => 0)))] H := hP
  have hD : va_D A [(h0, .inr (7, [.ref q1, .ref q2, .int 0, .int 0, .ref q3, .ref q4, .ref q5, .ref q6, .int 0, .int 0, .null, .null])), (q1, .inl (cy 0, 480, .inl (fun _ => 0))), (q2, .inl (cy 0, 80, .inl (fun _ => 0))), (q3, .inl (cy 0, 80, .inl (fun _ => 0))), (q4, .inl (cy 0, 80, .inl (fun _ => 0))), (q5, .inl (cy 0, 80, .inl (fun _ => 0))), (q6, .inl (cy 0, 960, .inl (fun _ => 0)))] := hD
  refine lv_aload_n C.1 C.2.1 dX7_init_54 rfl (lv_at hl 0 rfl) ?_
  refine lv_aload_n C.1 C.2.1 dX7_init_55 rfl (lv_at hl 1 rfl) ?_
  refine va_putF (D := D) (ci := 7) (v := .ref b1) (ty := .object "HissHorn$Shelf") C.1 C.2.1 C.2.2.2.2.2.1 hX7_X7 tyX7 tyX7_ok nmX7 C.2.2.2.2.1 hK.1 hP hD hS 0 rfl rfl 10 (by decide) (C.2.2.2.2.2.1 _ mX7_11) (fun _ h => h) rfl hin rfl (by decide +kernel) rfl rfl (Nat.le_of_ble_eq_true rfl) dX7_init_56 (fun H locs hP hD hS => ?_)
  have hP : va_P D vwCl [(h0, .inr (7, [.ref q1, .ref q2, .int 0, .int 0, .ref q3, .ref q4, .ref q5, .ref q6, .int 0, .int 0, .ref b1, .null])), (q1, .inl (cy 0, 480, .inl (fun _ => 0))), (q2, .inl (cy 0, 80, .inl (fun _ => 0))), (q3, .inl (cy 0, 80, .inl (fun _ => 0))), (q4, .inl (cy 0, 80, .inl (fun _ => 0))), (q5, .inl (cy 0, 80, .inl (fun _ => 0))), (q6, .inl (cy 0, 960, .inl (fun _ => 0)))] H := hP
  have hD : va_D A [(h0, .inr (7, [.ref q1, .ref q2, .int 0, .int 0, .ref q3, .ref q4, .ref q5, .ref q6, .int 0, .int 0, .ref b1, .null])), (q1, .inl (cy 0, 480, .inl (fun _ => 0))), (q2, .inl (cy 0, 80, .inl (fun _ => 0))), (q3, .inl (cy 0, 80, .inl (fun _ => 0))), (q4, .inl (cy 0, 80, .inl (fun _ => 0))), (q5, .inl (cy 0, 80, .inl (fun _ => 0))), (q6, .inl (cy 0, 960, .inl (fun _ => 0)))] := hD
  refine lv_aload_n C.1 C.2.1 dX7_init_59 rfl (lv_at hl 0 rfl) ?_
  refine lv_aload_n C.1 C.2.1 dX7_init_60 rfl (lv_at hl 2 rfl) ?_
  refine va_putF (D := D) (ci := 7) (v := .ref b2) (ty := .object "HissHorn$Parts") C.1 C.2.1 C.2.2.2.2.2.1 hX7_X7 tyX7 tyX7_ok nmX7 C.2.2.2.2.1 hK.1 hP hD hS 0 rfl rfl 11 (by decide) (C.2.2.2.2.2.1 _ mX7_12) (fun _ h => h) rfl hin rfl (by decide +kernel) rfl rfl (Nat.le_of_ble_eq_true rfl) dX7_init_61 (fun H locs hP hD hS => ?_)
  have hP : va_P D vwCl [(h0, .inr (7, [.ref q1, .ref q2, .int 0, .int 0, .ref q3, .ref q4, .ref q5, .ref q6, .int 0, .int 0, .ref b1, .ref b2])), (q1, .inl (cy 0, 480, .inl (fun _ => 0))), (q2, .inl (cy 0, 80, .inl (fun _ => 0))), (q3, .inl (cy 0, 80, .inl (fun _ => 0))), (q4, .inl (cy 0, 80, .inl (fun _ => 0))), (q5, .inl (cy 0, 80, .inl (fun _ => 0))), (q6, .inl (cy 0, 960, .inl (fun _ => 0)))] H := hP
  have hD : va_D A [(h0, .inr (7, [.ref q1, .ref q2, .int 0, .int 0, .ref q3, .ref q4, .ref q5, .ref q6, .int 0, .int 0, .ref b1, .ref b2])), (q1, .inl (cy 0, 480, .inl (fun _ => 0))), (q2, .inl (cy 0, 80, .inl (fun _ => 0))), (q3, .inl (cy 0, 80, .inl (fun _ => 0))), (q4, .inl (cy 0, 80, .inl (fun _ => 0))), (q5, .inl (cy 0, 80, .inl (fun _ => 0))), (q6, .inl (cy 0, 960, .inl (fun _ => 0)))] := hD
  refine lv_aload_n C.1 C.2.1 dX7_init_64 rfl (lv_at hl 0 rfl) ?_
  refine va_get (D := D) (ci := 7) (v := .ref q6) C.1 C.2.1 C.2.2.2.2.2.1 hX7_X7 C.2.2.2.2.1 hK.1 hP 0 rfl rfl 7 (by decide) (C.2.2.2.2.2.1 _ mX7_10) (fun _ h => h) rfl dX7_init_65 ?_
  refine lv_ldc C.1 C.2.1 C.2.2.2.2.1 (C.2.2.2.2.2.1 _ mX7_13) dX7_init_68 ?_
  have huf := fill_ends
  have hFc : ∀ q, Ax (AF (fun _ => q6)) H.size q → A q := fun q h => h.elim (fun ⟨k, hk, z⟩ => by rw [z]; exact hD.2 6 _ rfl) (fun z => hA q (Nat.le_trans hS.1 z))
  have hPc : va_P D vwCl (VF cy (fun _ => q6) st u00) H := hP.sub (ws' := [(q6, .inl (cy 0, 960, .inl (fun _ => 0)))]) [6] rfl
  refine va_callv (va_runS (As := [.ref q6, .int (-100000000)]) (rest := []) ⟨C.1, C.2.1, C.2.2.1, C.2.2.2.2.1, C.2.2.2.2.2.1⟩ (metJ7_fill_53178_a0 l D cy (fun _ => q6) st (JF_one (hAs _ (hD.2 6 _ rfl))) H.size _ huf) (va_cwS 2 C.2.2.2.2.2.1 gX7_init_J7_fill_53178 rfl rfl rfl (by decide +kernel) ⟨Nat.le_of_ble_eq_true rfl, Nat.le_of_ble_eq_true rfl⟩) ⟨Px_blind, fun U hU hW => ⟨rfl, by rw [hU], by rw [hU]; exact hPc, Ky_mA hAs hS hU hW hK⟩⟩ rfl rfl hl.1 rfl (lv_room (Nat.le_of_ble_eq_true rfl)) dX7_init_70 ⟨Nat.le_of_ble_eq_true rfl, Nat.le_of_ble_eq_true rfl⟩) hS (fun q _ h => hFc q h) hFc (fun u t H1 locs ht hvm hw hB hz1 hk1 hS => ?_)
  have hP1 : va_P D vwCl [(q6, .inl (cy 0, 960, .inl (uF.2.1 0)))] H1 := by rw [← ht]; exact hB
  obtain ⟨hP, hD⟩ := va_join (wc := [(q6, .inl (cy 0, 960, .inl (fun _ => 0)))]) (wr := [(h0, .inr (7, [.ref q1, .ref q2, .int 0, .int 0, .ref q3, .ref q4, .ref q5, .ref q6, .int 0, .int 0, .ref b1, .ref b2])), (q1, .inl (cy 0, 480, .inl (fun _ => 0))), (q2, .inl (cy 0, 80, .inl (fun _ => 0))), (q3, .inl (cy 0, 80, .inl (fun _ => 0))), (q4, .inl (cy 0, 80, .inl (fun _ => 0))), (q5, .inl (cy 0, 80, .inl (fun _ => 0)))]) (w1 := [(q6, .inl (cy 0, 960, .inl (uF.2.1 0)))]) hP hD [6] [0, 1, 2, 3, 4, 5] rfl rfl (by decide) (by decide) (fun q h1 h2 => hk1 q h1 (fun z => h2 (z.elim (fun ⟨k, hk, z⟩ => A_one z) Or.inr))) (fun q h => h.elim (fun ⟨k, e9, hk9⟩ => by obtain ⟨rfl, rfl⟩ := one_at hk9; exact hFc _ (Or.inl ⟨0, Nat.zero_lt_one, rfl⟩)) (fun z => hFc q (Or.inr z))) hP1 (D_one (A_one rfl))
  generalize H1 = H at hP hS ⊢
  clear hP1 hB hk1 hz1 hw hvm ht hPc hFc
  refine W.cs (cells' := 6) (slots' := 1760) rfl rfl ?_
  have hP : va_P D vwCl [(h0, .inr (7, [.ref q1, .ref q2, .int 0, .int 0, .ref q3, .ref q4, .ref q5, .ref q6, .int 0, .int 0, .ref b1, .ref b2])), (q1, .inl (cy 0, 480, .inl (fun _ => 0))), (q2, .inl (cy 0, 80, .inl (fun _ => 0))), (q3, .inl (cy 0, 80, .inl (fun _ => 0))), (q4, .inl (cy 0, 80, .inl (fun _ => 0))), (q5, .inl (cy 0, 80, .inl (fun _ => 0))), (q6, .inl (cy 0, 960, .inl (uF.2.1 0)))] H := hP
  have hD : va_D A [(h0, .inr (7, [.ref q1, .ref q2, .int 0, .int 0, .ref q3, .ref q4, .ref q5, .ref q6, .int 0, .int 0, .ref b1, .ref b2])), (q1, .inl (cy 0, 480, .inl (fun _ => 0))), (q2, .inl (cy 0, 80, .inl (fun _ => 0))), (q3, .inl (cy 0, 80, .inl (fun _ => 0))), (q4, .inl (cy 0, 80, .inl (fun _ => 0))), (q5, .inl (cy 0, 80, .inl (fun _ => 0))), (q6, .inl (cy 0, 960, .inl (uF.2.1 0)))] := hD
  exact W.cs (cells' := 6) (slots' := 1760) rfl rfl (W.vret C.1 C.2.1 C.2.2.2.1 (fun t ht _ => ⟨⟨(q1, q2, q3, q4, q5, q6), rfl, trivial, by rw [ht]; exact hP, hD⟩, hS.F ht⟩) hS.2.2 dX7_init_73 C.2.2.2.2.2.2)
