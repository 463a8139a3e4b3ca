/-! What makes a text. -/
/-- text k stands at a place of a row -/
def sT (u : SX) (c i k : Nat) : SX := (u.1, u.2.1, u.2.2.1, u.2.2.2.1, u.2.2.2.2.1, (fun c' j => bif Nat.beq c' c then (if j = i then some k else u.2.2.2.2.2.1 c' j) else u.2.2.2.2.2.1 c' j), u.2.2.2.2.2.2)
theorem txW_cg {cy : Nat → ClassId} {ad : Nat → Nat} {t t' : TX} (h : t.2.2 = t'.2.2) : ∀ (n k : Nat), txW cy ad t n k = txW cy ad t' n k := by
  intro n
  induction n with
  | zero => intro k; rfl
  | succ n ih => intro k; rw [txW, txW, ih, h]
section TEXTROWS
variable {p : Program} {l : Launch} {e : Env} {R : Room} {s : State} {m : MethodId} {args : Array Value} {below : List Frame} {meth : Method} {c : Code} {H : Heap} {locs : List Loc} {cells slots : Nat} {Q : State → Prop}
variable {own : String} {cc : ByteArray} {nL index pc : Nat} {rt : Option FieldType} {Ts : List Cond} {rest : List Value} {ls : Array Slot}
variable {D : va_G} {cy : Nat → ClassId} {ad st : Nat → Nat} {u : SX}

theorem taX_15 (C : Cx own cc nL rt Ts p s m args meth c) (hK : Ky D [(cy 0, .int), (cy 1, .long), (cy 2, .boolean), (cy 3, .byte), (cy 4, .object "HissHorn$Text")] st s) (hP : va_P D vwCl (VX cy ad st u) H) (hJ : JX ad st) (hS : va_S (Ax (AX ad) s.heap.size) s.heap H locs) {i : Int32} {k : Nat} (hi : inb i 12 = true) (hk : k < tN u) (hdg : decode cc pc = .ok (.aastore, 1)) (kk : ∀ (H1 : Heap) (locs1 : List Loc), va_P D vwCl (VX cy ad st (sT u 15 i.toNatClampNeg k)) H1 → va_S (Ax (AX ad) s.heap.size) s.heap H1 locs1 → W p l e R s m args below meth c H1 locs1 cells slots Q (F0 m (pc + 1) ls rest)) : W p l e R s m args below meth c H locs cells slots Q (F0 m pc ls (.ref (ad (tA k)) :: .int i :: .ref (ad 15) :: rest)) := by
  refine va_astq (r := (RX10, TX10, 1)) C.1 C.2.1 hK.1 hP (VX_D hJ u s.heap.size) hS 15 4 (73 + 2 * k) 10 rfl rfl (VX_T hk) rfl (inb_in hi) hdg (fun H1 locs1 h1 _ h3 => kk H1 locs1 ?_ h3)
  have hf : (fun j => (tQ (sT u 15 i.toNatClampNeg k) 15 j).map fun k => ad (tA k)) = va_up (fun j => (tQ u 15 j).map fun k => ad (tA k)) i.toNatClampNeg (some (ad (tA k))) := by
    funext j
    show ((if j = i.toNatClampNeg then some k else tQ u 15 j).map fun k => ad (tA k)) = (if j = i.toNatClampNeg then some (ad (tA k)) else (tQ u 15 j).map fun k => ad (tA k))
    split <;> rfl
  rw [← hf] at h1
  have e : VX cy ad st (sT u 15 i.toNatClampNeg k) = VX0 cy ad st (sT u 15 i.toNatClampNeg k) ++ txW cy ad u.2.2.2.2 u.2.2.2.2.1 0 := by
    show VX0 cy ad st (sT u 15 i.toNatClampNeg k) ++ txW cy ad (sT u 15 i.toNatClampNeg k).2.2.2.2 u.2.2.2.2.1 0 = _
    rw [txW_cg (t := (sT u 15 i.toNatClampNeg k).2.2.2.2) (t' := u.2.2.2.2) rfl]
  rw [e]
  exact h1
theorem taX_18 (C : Cx own cc nL rt Ts p s m args meth c) (hK : Ky D [(cy 0, .int), (cy 1, .long), (cy 2, .boolean), (cy 3, .byte), (cy 4, .object "HissHorn$Text")] st s) (hP : va_P D vwCl (VX cy ad st u) H) (hJ : JX ad st) (hS : va_S (Ax (AX ad) s.heap.size) s.heap H locs) {i : Int32} {k : Nat} (hi : inb i 6 = true) (hk : k < tN u) (hdg : decode cc pc = .ok (.aastore, 1)) (kk : ∀ (H1 : Heap) (locs1 : List Loc), va_P D vwCl (VX cy ad st (sT u 18 i.toNatClampNeg k)) H1 → va_S (Ax (AX ad) s.heap.size) s.heap H1 locs1 → W p l e R s m args below meth c H1 locs1 cells slots Q (F0 m (pc + 1) ls rest)) : W p l e R s m args below meth c H locs cells slots Q (F0 m pc ls (.ref (ad (tA k)) :: .int i :: .ref (ad 18) :: rest)) := by
  refine va_astq (r := (RX10, TX10, 1)) C.1 C.2.1 hK.1 hP (VX_D hJ u s.heap.size) hS 18 4 (73 + 2 * k) 10 rfl rfl (VX_T hk) rfl (inb_in hi) hdg (fun H1 locs1 h1 _ h3 => kk H1 locs1 ?_ h3)
  have hf : (fun j => (tQ (sT u 18 i.toNatClampNeg k) 18 j).map fun k => ad (tA k)) = va_up (fun j => (tQ u 18 j).map fun k => ad (tA k)) i.toNatClampNeg (some (ad (tA k))) := by
    funext j
    show ((if j = i.toNatClampNeg then some k else tQ u 18 j).map fun k => ad (tA k)) = (if j = i.toNatClampNeg then some (ad (tA k)) else (tQ u 18 j).map fun k => ad (tA k))
    split <;> rfl
  rw [← hf] at h1
  have e : VX cy ad st (sT u 18 i.toNatClampNeg k) = VX0 cy ad st (sT u 18 i.toNatClampNeg k) ++ txW cy ad u.2.2.2.2 u.2.2.2.2.1 0 := by
    show VX0 cy ad st (sT u 18 i.toNatClampNeg k) ++ txW cy ad (sT u 18 i.toNatClampNeg k).2.2.2.2 u.2.2.2.2.1 0 = _
    rw [txW_cg (t := (sT u 18 i.toNatClampNeg k).2.2.2.2) (t' := u.2.2.2.2) rfl]
  rw [e]
  exact h1
theorem taX_21 (C : Cx own cc nL rt Ts p s m args meth c) (hK : Ky D [(cy 0, .int), (cy 1, .long), (cy 2, .boolean), (cy 3, .byte), (cy 4, .object "HissHorn$Text")] st s) (hP : va_P D vwCl (VX cy ad st u) H) (hJ : JX ad st) (hS : va_S (Ax (AX ad) s.heap.size) s.heap H locs) {i : Int32} {k : Nat} (hi : inb i 6 = true) (hk : k < tN u) (hdg : decode cc pc = .ok (.aastore, 1)) (kk : ∀ (H1 : Heap) (locs1 : List Loc), va_P D vwCl (VX cy ad st (sT u 21 i.toNatClampNeg k)) H1 → va_S (Ax (AX ad) s.heap.size) s.heap H1 locs1 → W p l e R s m args below meth c H1 locs1 cells slots Q (F0 m (pc + 1) ls rest)) : W p l e R s m args below meth c H locs cells slots Q (F0 m pc ls (.ref (ad (tA k)) :: .int i :: .ref (ad 21) :: rest)) := by
  refine va_astq (r := (RX10, TX10, 1)) C.1 C.2.1 hK.1 hP (VX_D hJ u s.heap.size) hS 21 4 (73 + 2 * k) 10 rfl rfl (VX_T hk) rfl (inb_in hi) hdg (fun H1 locs1 h1 _ h3 => kk H1 locs1 ?_ h3)
  have hf : (fun j => (tQ (sT u 21 i.toNatClampNeg k) 21 j).map fun k => ad (tA k)) = va_up (fun j => (tQ u 21 j).map fun k => ad (tA k)) i.toNatClampNeg (some (ad (tA k))) := by
    funext j
    show ((if j = i.toNatClampNeg then some k else tQ u 21 j).map fun k => ad (tA k)) = (if j = i.toNatClampNeg then some (ad (tA k)) else (tQ u 21 j).map fun k => ad (tA k))
    split <;> rfl
  rw [← hf] at h1
  have e : VX cy ad st (sT u 21 i.toNatClampNeg k) = VX0 cy ad st (sT u 21 i.toNatClampNeg k) ++ txW cy ad u.2.2.2.2 u.2.2.2.2.1 0 := by
    show VX0 cy ad st (sT u 21 i.toNatClampNeg k) ++ txW cy ad (sT u 21 i.toNatClampNeg k).2.2.2.2 u.2.2.2.2.1 0 = _
    rw [txW_cg (t := (sT u 21 i.toNatClampNeg k).2.2.2.2) (t' := u.2.2.2.2) rfl]
  rw [e]
  exact h1
end TEXTROWS
section ROWSX
variable {p : Program} {l : Launch} {e : Env} {R : Room} {s : State} {m : MethodId} {args : Array Value} {below : List Frame} {meth : Method} {c : Code} {H : Heap} {locs : List Loc} {cells slots : Nat} {Q : State → Prop}
variable {own : String} {cc : ByteArray} {nL index pc : Nat} {rt : Option FieldType} {Ts : List Cond} {rest : List Value} {ls : Array Slot}
variable {D : va_G} {cy : Nat → ClassId} {ad st : Nat → Nat} {u : SX}

theorem pX_3_size {v : Int32} (C : Cx own cc nL rt Ts p s m args meth c) (hin : ∀ w ∈ u_ws RX8 TX8 5, w ∈ Ts) (hK : Ky D [(cy 0, .int), (cy 1, .long), (cy 2, .boolean), (cy 3, .byte), (cy 4, .object "HissHorn$Text")] st s) (hP : va_P D vwCl (VX cy ad st u) H) (hJ : JX ad st) (hS : va_S (Ax (AX ad) s.heap.size) s.heap H locs) (hlk : Cond.fieldLink own index "HissHorn$Shelf" "size" "I" ∈ Ts) (hdg : decode cc pc = .ok (.putfield index, 3)) (kk : ∀ (H1 : Heap) (locs1 : List Loc), va_P D vwCl (VX cy ad st (sI u 5 v)) H1 → va_S (Ax (AX ad) s.heap.size) s.heap H1 locs1 → W p l e R s m args below meth c H1 locs1 cells slots Q (F0 m (pc + 3) ls rest)) : W p l e R s m args below meth c H locs cells slots Q (F0 m pc ls (.int v :: .ref (ad 3) :: rest)) :=
  va_put (D := D) (ci := 8) (ty := .int) C.1 C.2.1 C.2.2.2.2.2.1 hin tyX8 tyX8_ok nmX8 C.2.2.2.2.1 hK.1 hP (VX_D hJ u s.heap.size) hS 3 rfl rfl 4 (by decide) (C.2.2.2.2.2.1 _ hlk) (fun _ h => h) rfl (by decide +kernel) rfl rfl (Nat.le_of_ble_eq_true rfl) hdg (fun H1 locs1 h1 _ h3 => kk H1 locs1 h1 h3)
theorem pX_4_size {v : Int32} (C : Cx own cc nL rt Ts p s m args meth c) (hin : ∀ w ∈ u_ws RX8 TX8 5, w ∈ Ts) (hK : Ky D [(cy 0, .int), (cy 1, .long), (cy 2, .boolean), (cy 3, .byte), (cy 4, .object "HissHorn$Text")] st s) (hP : va_P D vwCl (VX cy ad st u) H) (hJ : JX ad st) (hS : va_S (Ax (AX ad) s.heap.size) s.heap H locs) (hlk : Cond.fieldLink own index "HissHorn$Shelf" "size" "I" ∈ Ts) (hdg : decode cc pc = .ok (.putfield index, 3)) (kk : ∀ (H1 : Heap) (locs1 : List Loc), va_P D vwCl (VX cy ad st (sI u 6 v)) H1 → va_S (Ax (AX ad) s.heap.size) s.heap H1 locs1 → W p l e R s m args below meth c H1 locs1 cells slots Q (F0 m (pc + 3) ls rest)) : W p l e R s m args below meth c H locs cells slots Q (F0 m pc ls (.int v :: .ref (ad 4) :: rest)) :=
  va_put (D := D) (ci := 8) (ty := .int) C.1 C.2.1 C.2.2.2.2.2.1 hin tyX8 tyX8_ok nmX8 C.2.2.2.2.1 hK.1 hP (VX_D hJ u s.heap.size) hS 4 rfl rfl 4 (by decide) (C.2.2.2.2.2.1 _ hlk) (fun _ h => h) rfl (by decide +kernel) rfl rfl (Nat.le_of_ble_eq_true rfl) hdg (fun H1 locs1 h1 _ h3 => kk H1 locs1 h1 h3)
theorem pX_5_size {v : Int32} (C : Cx own cc nL rt Ts p s m args meth c) (hin : ∀ w ∈ u_ws RX8 TX8 5, w ∈ Ts) (hK : Ky D [(cy 0, .int), (cy 1, .long), (cy 2, .boolean), (cy 3, .byte), (cy 4, .object "HissHorn$Text")] st s) (hP : va_P D vwCl (VX cy ad st u) H) (hJ : JX ad st) (hS : va_S (Ax (AX ad) s.heap.size) s.heap H locs) (hlk : Cond.fieldLink own index "HissHorn$Shelf" "size" "I" ∈ Ts) (hdg : decode cc pc = .ok (.putfield index, 3)) (kk : ∀ (H1 : Heap) (locs1 : List Loc), va_P D vwCl (VX cy ad st (sI u 7 v)) H1 → va_S (Ax (AX ad) s.heap.size) s.heap H1 locs1 → W p l e R s m args below meth c H1 locs1 cells slots Q (F0 m (pc + 3) ls rest)) : W p l e R s m args below meth c H locs cells slots Q (F0 m pc ls (.int v :: .ref (ad 5) :: rest)) :=
  va_put (D := D) (ci := 8) (ty := .int) C.1 C.2.1 C.2.2.2.2.2.1 hin tyX8 tyX8_ok nmX8 C.2.2.2.2.1 hK.1 hP (VX_D hJ u s.heap.size) hS 5 rfl rfl 4 (by decide) (C.2.2.2.2.2.1 _ hlk) (fun _ h => h) rfl (by decide +kernel) rfl rfl (Nat.le_of_ble_eq_true rfl) hdg (fun H1 locs1 h1 _ h3 => kk H1 locs1 h1 h3)
end ROWSX
theorem zdX8_add_0 : (and (and (and (and (and (zk cX8_add 0 (.aload_n 0) 1) (zk cX8_add 1 (.invokevirtual 40) 3)) (zk cX8_add 4 (.ifCond .eq 5) 3)) (and (and (zk cX8_add 9 (.aload_n 0) 1) (zk cX8_add 10 (.getfield 23) 3)) (zk cX8_add 13 (.aload_n 0) 1))) (and (and (and (zk cX8_add 14 (.getfield 36) 3) (zk cX8_add 17 (.aload_n 1) 1)) (zk cX8_add 18 (.aastore) 1)) (and (zk cX8_add 19 (.aload_n 0) 1) (zk cX8_add 20 (.dup) 1)))) (and (and (and (and (zk cX8_add 21 (.getfield 36) 3) (zk cX8_add 24 (.iconst 1) 1)) (zk cX8_add 25 (.iadd) 1)) (and (and (zk cX8_add 26 (.putfield 36) 3) (zk cX8_add 29 (.aload_n 0) 1)) (zk cX8_add 30 (.getfield 36) 3))) (and (and (and (zk cX8_add 33 (.iconst 1) 1) (zk cX8_add 34 (.isub) 1)) (zk cX8_add 35 (.ireturn) 1)) (and (zk cX8_add 7 (.iconst (-1)) 1) (zk cX8_add 8 (.ireturn) 1))))) = true := by decide +kernel
theorem dX8_add_0 : decode cX8_add 0 = .ok (.aload_n 0, 1) := zk_of (zk_l (zk_l (zk_l (zk_l (zk_l zdX8_add_0)))))
theorem dX8_add_1 : decode cX8_add 1 = .ok (.invokevirtual 40, 3) := zk_of (zk_r (zk_l (zk_l (zk_l (zk_l zdX8_add_0)))))
theorem dX8_add_4 : decode cX8_add 4 = .ok (.ifCond .eq 5, 3) := zk_of (zk_r (zk_l (zk_l (zk_l zdX8_add_0))))
theorem dX8_add_9 : decode cX8_add 9 = .ok (.aload_n 0, 1) := zk_of (zk_l (zk_l (zk_r (zk_l (zk_l zdX8_add_0)))))
theorem dX8_add_10 : decode cX8_add 10 = .ok (.getfield 23, 3) := zk_of (zk_r (zk_l (zk_r (zk_l (zk_l zdX8_add_0)))))
theorem dX8_add_13 : decode cX8_add 13 = .ok (.aload_n 0, 1) := zk_of (zk_r (zk_r (zk_l (zk_l zdX8_add_0))))
theorem dX8_add_14 : decode cX8_add 14 = .ok (.getfield 36, 3) := zk_of (zk_l (zk_l (zk_l (zk_r (zk_l zdX8_add_0)))))
theorem dX8_add_17 : decode cX8_add 17 = .ok (.aload_n 1, 1) := zk_of (zk_r (zk_l (zk_l (zk_r (zk_l zdX8_add_0)))))
theorem dX8_add_18 : decode cX8_add 18 = .ok (.aastore, 1) := zk_of (zk_r (zk_l (zk_r (zk_l zdX8_add_0))))
theorem dX8_add_19 : decode cX8_add 19 = .ok (.aload_n 0, 1) := zk_of (zk_l (zk_r (zk_r (zk_l zdX8_add_0))))
theorem dX8_add_20 : decode cX8_add 20 = .ok (.dup, 1) := zk_of (zk_r (zk_r (zk_r (zk_l zdX8_add_0))))
theorem dX8_add_21 : decode cX8_add 21 = .ok (.getfield 36, 3) := zk_of (zk_l (zk_l (zk_l (zk_l (zk_r zdX8_add_0)))))
theorem dX8_add_24 : decode cX8_add 24 = .ok (.iconst 1, 1) := zk_of (zk_r (zk_l (zk_l (zk_l (zk_r zdX8_add_0)))))
theorem dX8_add_25 : decode cX8_add 25 = .ok (.iadd, 1) := zk_of (zk_r (zk_l (zk_l (zk_r zdX8_add_0))))
theorem dX8_add_26 : decode cX8_add 26 = .ok (.putfield 36, 3) := zk_of (zk_l (zk_l (zk_r (zk_l (zk_r zdX8_add_0)))))
theorem dX8_add_29 : decode cX8_add 29 = .ok (.aload_n 0, 1) := zk_of (zk_r (zk_l (zk_r (zk_l (zk_r zdX8_add_0)))))
theorem dX8_add_30 : decode cX8_add 30 = .ok (.getfield 36, 3) := zk_of (zk_r (zk_r (zk_l (zk_r zdX8_add_0))))
theorem dX8_add_33 : decode cX8_add 33 = .ok (.iconst 1, 1) := zk_of (zk_l (zk_l (zk_l (zk_r (zk_r zdX8_add_0)))))
theorem dX8_add_34 : decode cX8_add 34 = .ok (.isub, 1) := zk_of (zk_r (zk_l (zk_l (zk_r (zk_r zdX8_add_0)))))
theorem dX8_add_35 : decode cX8_add 35 = .ok (.ireturn, 1) := zk_of (zk_r (zk_l (zk_r (zk_r zdX8_add_0))))
theorem dX8_add_7 : decode cX8_add 7 = .ok (.iconst (-1), 1) := zk_of (zk_l (zk_r (zk_r (zk_r zdX8_add_0))))
theorem dX8_add_8 : decode cX8_add 8 = .ok (.ireturn, 1) := zk_of (zk_r (zk_r (zk_r (zk_r zdX8_add_0))))
set_option maxRecDepth 20000 in
theorem ggX8_add_X8_isFull : GoodIn wsX8_add wsX8_isFull := goodIn_r _ [7, 2, 1, 8, 9, 10, 11, 12] rfl (by decide +kernel)
set_option maxRecDepth 20000 in
theorem gX8_add_X8_isFull : GoodIn wsX8_add (wsV RX8 40 RX8 yX8_isFull wsX8_isFull) := goodIn_app (goodIn_of _ (by decide +kernel)) ggX8_add_X8_isFull
/-- HissHorn$Shelf.add(LHissHorn$Text;)I of cell 3 -/
def rmX8_add_3_aT : Room := { frames := 1, cells := 0, slots := 0, locals := 20 }
theorem hX8_add_3_aT_X8 : ∀ w ∈ u_ws RX8 TX8 5, w ∈ wsX8_add := fun w h => (List.mem_cons_of_mem _ (List.mem_append_right _ h))
theorem mX8_add_3_aT_1 : Cond.fieldLink RX8 23 "HissHorn$Shelf" "texts" "[LHissHorn$Text;" ∈ wsX8_add := (List.mem_cons_of_mem _ (List.mem_append_left _ (List.mem_of_getElem? (i := 0) rfl)))
theorem mX8_add_3_aT_2 : Cond.fieldLink RX8 36 "HissHorn$Shelf" "size" "I" ∈ wsX8_add := (List.mem_cons_of_mem _ (List.mem_append_left _ (List.mem_of_getElem? (i := 1) rfl)))
def fX8_add_3_aT (x1 : Nat) (u : SX) : Option (Int32 × SX) := ((fX8_isFull_3  u).bind fun q => match q with | (r1, u2) => (if r1 = 0 then (gd (inb (u2.1 5) 12) (gd (decide (x1 < tN u2)) (lt (sT u2 15 (u2.1 5).toNatClampNeg x1) fun u6 => (lt (sI u6 5 ((u6.1 5) + 1)) fun u8 => (some ((u8.1 5) - 1, u8)))))) else (some ((-1), u2))))
set_option maxHeartbeats 4000000 in
set_option maxRecDepth 100000 in
theorem wX8_add_3_aT {p : Program} {l : Launch} {e : Env} {s : State} {m : MethodId} {args : Array Value} {below : List Frame} {meth : Method} {c : Code} {D : va_G} {cy : Nat → ClassId} {ad st : Nat → Nat} (C : Cx RX8 cX8_add 2 (some .int) wsX8_add p s m args meth c) (hK : Ky D [(cy 0, .int), (cy 1, .long), (cy 2, .boolean), (cy 3, .byte), (cy 4, .object "HissHorn$Text")] st s) (hJ : JX ad st) (x1 : Nat) {u : SX} {r : Int32} {u' : SX} {H : Heap} {locs : List Loc} {ls : Array Slot} (h : fX8_add_3_aT x1 u = some (r, u')) (hP : va_P D vwCl (VX cy ad st u) H) (hS : va_S (Ax (AX ad) s.heap.size) s.heap H locs) (hl : lv_has ls 2 [(0, .ref (ad 3)), (1, .ref (ad (tA x1)))]) : W p l e rmX8_add_3_aT s m args below meth c H locs 0 0 (MQ below (Qi D (VX cy ad st) (AX ad) s.heap.size r u') args s 0 0 (Ax (AX ad) s.heap.size)) (F0 m 0 ls []) := by
  unfold fX8_add_3_aT at h
  refine lv_aload_n C.1 C.2.1 dX8_add_0 rfl (lv_at hl 0 rfl) ?_
  obtain ⟨⟨r1, u2⟩, hc3, h⟩ := bd_some h
  try dsimp only at h
  refine cg_i (As := []) (rest := []) (AX_ge hJ) C hK hP hS (metX8_isFull_3 l D cy ad st hJ _  hc3) (cwV 0 C.2.2.2.2.2.1 gX8_add_X8_isFull rfl rfl rfl (by decide +kernel) ⟨(Nat.le_of_ble_eq_true rfl), (Nat.le_of_ble_eq_true rfl)⟩) 3 8 rfl rfl rfl hl.1 rfl (Nat.le_of_ble_eq_true rfl) dX8_add_1 ⟨Nat.zero_le _, Nat.zero_le _⟩ (fun H locs hP hS => ?_)
  refine lv_if_eq (tgt := 9) C.1 C.2.1 dX8_add_4 (by decide) (fun c4 => ?_) (fun c4 => ?_)
  · rw [if_pos c4] at h
    refine lv_aload_n C.1 C.2.1 dX8_add_9 rfl (lv_at hl 0 rfl) ?_
    refine gX_3_texts C hX8_add_3_aT_X8 hK hP mX8_add_3_aT_1 dX8_add_10 ?_
    refine lv_aload_n C.1 C.2.1 dX8_add_13 rfl (lv_at hl 0 rfl) ?_
    refine gX_3_size C hX8_add_3_aT_X8 hK hP mX8_add_3_aT_2 dX8_add_14 ?_
    refine lv_aload_n C.1 C.2.1 dX8_add_17 rfl (lv_at hl 1 rfl) ?_
    obtain ⟨hg4, h⟩ := gd_some h
    obtain ⟨hg5, h⟩ := gd_some h
    refine taX_15 C hK hP hJ hS hg4 (of_decide_eq_true hg5) dX8_add_18 (fun H locs hP hS => ?_)
    obtain ⟨u6, hu7, h⟩ := lt_some h
    rw [← hu7] at hP
    refine lv_aload_n C.1 C.2.1 dX8_add_19 rfl (lv_at hl 0 rfl) ?_
    refine lv_dup C.1 C.2.1 dX8_add_20 rfl ?_
    refine gX_3_size C hX8_add_3_aT_X8 hK hP mX8_add_3_aT_2 dX8_add_21 ?_
    refine lv_iconst (v := 1) C.1 C.2.1 dX8_add_24 (by decide) ?_
    refine lv_iadd C.1 C.2.1 dX8_add_25 ?_
    refine pX_3_size C hX8_add_3_aT_X8 hK hP hJ hS mX8_add_3_aT_2 dX8_add_26 (fun H locs hP hS => ?_)
    obtain ⟨u8, hu9, h⟩ := lt_some h
    rw [← hu9] at hP
    refine lv_aload_n C.1 C.2.1 dX8_add_29 rfl (lv_at hl 0 rfl) ?_
    refine gX_3_size C hX8_add_3_aT_X8 hK hP mX8_add_3_aT_2 dX8_add_30 ?_
    refine lv_iconst (v := 1) C.1 C.2.1 dX8_add_33 (by decide) ?_
    refine lv_isub C.1 C.2.1 dX8_add_34 ?_
    cases h
    exact rt_i C hP hS dX8_add_35
  · rw [if_neg c4] at h
    refine lv_iconst (v := (-1)) C.1 C.2.1 dX8_add_7 (by decide) ?_
    cases h
    exact rt_i C hP hS dX8_add_8
theorem metX8_add_3_aT (l : Launch) (D : va_G) (cy : Nat → ClassId) (ad st : Nat → Nat) (hJ : JX ad st) (sz : Nat) (x1 : Nat) {u : SX} {r : Int32} {u' : SX} (h : fX8_add_3_aT x1 u = some (r, u')) : Met l yX8_add wsX8_add rmX8_add_3_aT (va_Pc [.ref (ad 3), .ref (ad (tA x1))] (Px D [(cy 0, .int), (cy 1, .long), (cy 2, .boolean), (cy 3, .byte), (cy 4, .object "HissHorn$Text")] st (VX cy ad st) sz u)) (Qi D (VX cy ad st) (AX ad) sz r u') 0 0 (Ax (AX ad) sz) := by
  refine Met.ofW (cc := cX8_add) (maxL := 2) (ret := (some .int)) (by decide) rfl ?_
  intro p e s m args below meth c s₁ B hml hv
  obtain ⟨rfl, hsz, hP, hK⟩ := hv
  subst hsz
  have C : Cx RX8 cX8_add 2 (some .int) wsX8_add p s m _ meth c := ⟨B.exec, B.bytes, hml, B.returns, findClass_of_methodNamed B.named, atoms_spec (ws := wsX8_add) B.pre, B.notSynchronized⟩
  have hl := lv_entry ([.ref (ad 3), .ref (ad (tA x1))]) (n := 2) (Nat.le_of_ble_eq_true rfl)
  rw [lg_entry_eq]
  exact wX8_add_3_aT C hK hJ x1 h hP va_S.rf hl

/-- HissHorn$Shelf.add(LHissHorn$Text;)I of cell 4 -/
def rmX8_add_4_aT : Room := { frames := 1, cells := 0, slots := 0, locals := 20 }
theorem hX8_add_4_aT_X8 : ∀ w ∈ u_ws RX8 TX8 5, w ∈ wsX8_add := fun w h => (List.mem_cons_of_mem _ (List.mem_append_right _ h))
theorem mX8_add_4_aT_1 : Cond.fieldLink RX8 23 "HissHorn$Shelf" "texts" "[LHissHorn$Text;" ∈ wsX8_add := (List.mem_cons_of_mem _ (List.mem_append_left _ (List.mem_of_getElem? (i := 0) rfl)))
theorem mX8_add_4_aT_2 : Cond.fieldLink RX8 36 "HissHorn$Shelf" "size" "I" ∈ wsX8_add := (List.mem_cons_of_mem _ (List.mem_append_left _ (List.mem_of_getElem? (i := 1) rfl)))
def fX8_add_4_aT (x1 : Nat) (u : SX) : Option (Int32 × SX) := ((fX8_isFull_4  u).bind fun q => match q with | (r1, u2) => (if r1 = 0 then (gd (inb (u2.1 6) 6) (gd (decide (x1 < tN u2)) (lt (sT u2 18 (u2.1 6).toNatClampNeg x1) fun u6 => (lt (sI u6 6 ((u6.1 6) + 1)) fun u8 => (some ((u8.1 6) - 1, u8)))))) else (some ((-1), u2))))
set_option maxHeartbeats 4000000 in
set_option maxRecDepth 100000 in
theorem wX8_add_4_aT {p : Program} {l : Launch} {e : Env} {s : State} {m : MethodId} {args : Array Value} {below : List Frame} {meth : Method} {c : Code} {D : va_G} {cy : Nat → ClassId} {ad st : Nat → Nat} (C : Cx RX8 cX8_add 2 (some .int) wsX8_add p s m args meth c) (hK : Ky D [(cy 0, .int), (cy 1, .long), (cy 2, .boolean), (cy 3, .byte), (cy 4, .object "HissHorn$Text")] st s) (hJ : JX ad st) (x1 : Nat) {u : SX} {r : Int32} {u' : SX} {H : Heap} {locs : List Loc} {ls : Array Slot} (h : fX8_add_4_aT x1 u = some (r, u')) (hP : va_P D vwCl (VX cy ad st u) H) (hS : va_S (Ax (AX ad) s.heap.size) s.heap H locs) (hl : lv_has ls 2 [(0, .ref (ad 4)), (1, .ref (ad (tA x1)))]) : W p l e rmX8_add_4_aT s m args below meth c H locs 0 0 (MQ below (Qi D (VX cy ad st) (AX ad) s.heap.size r u') args s 0 0 (Ax (AX ad) s.heap.size)) (F0 m 0 ls []) := by
  unfold fX8_add_4_aT at h
  refine lv_aload_n C.1 C.2.1 dX8_add_0 rfl (lv_at hl 0 rfl) ?_
  obtain ⟨⟨r1, u2⟩, hc3, h⟩ := bd_some h
  try dsimp only at h
  refine cg_i (As := []) (rest := []) (AX_ge hJ) C hK hP hS (metX8_isFull_4 l D cy ad st hJ _  hc3) (cwV 0 C.2.2.2.2.2.1 gX8_add_X8_isFull rfl rfl rfl (by decide +kernel) ⟨(Nat.le_of_ble_eq_true rfl), (Nat.le_of_ble_eq_true rfl)⟩) 4 8 rfl rfl rfl hl.1 rfl (Nat.le_of_ble_eq_true rfl) dX8_add_1 ⟨Nat.zero_le _, Nat.zero_le _⟩ (fun H locs hP hS => ?_)
  refine lv_if_eq (tgt := 9) C.1 C.2.1 dX8_add_4 (by decide) (fun c4 => ?_) (fun c4 => ?_)
  · rw [if_pos c4] at h
    refine lv_aload_n C.1 C.2.1 dX8_add_9 rfl (lv_at hl 0 rfl) ?_
    refine gX_4_texts C hX8_add_4_aT_X8 hK hP mX8_add_4_aT_1 dX8_add_10 ?_
    refine lv_aload_n C.1 C.2.1 dX8_add_13 rfl (lv_at hl 0 rfl) ?_
    refine gX_4_size C hX8_add_4_aT_X8 hK hP mX8_add_4_aT_2 dX8_add_14 ?_
    refine lv_aload_n C.1 C.2.1 dX8_add_17 rfl (lv_at hl 1 rfl) ?_
    obtain ⟨hg4, h⟩ := gd_some h
    obtain ⟨hg5, h⟩ := gd_some h
    refine taX_18 C hK hP hJ hS hg4 (of_decide_eq_true hg5) dX8_add_18 (fun H locs hP hS => ?_)
    obtain ⟨u6, hu7, h⟩ := lt_some h
    rw [← hu7] at hP
    refine lv_aload_n C.1 C.2.1 dX8_add_19 rfl (lv_at hl 0 rfl) ?_
    refine lv_dup C.1 C.2.1 dX8_add_20 rfl ?_
    refine gX_4_size C hX8_add_4_aT_X8 hK hP mX8_add_4_aT_2 dX8_add_21 ?_
    refine lv_iconst (v := 1) C.1 C.2.1 dX8_add_24 (by decide) ?_
    refine lv_iadd C.1 C.2.1 dX8_add_25 ?_
    refine pX_4_size C hX8_add_4_aT_X8 hK hP hJ hS mX8_add_4_aT_2 dX8_add_26 (fun H locs hP hS => ?_)
    obtain ⟨u8, hu9, h⟩ := lt_some h
    rw [← hu9] at hP
    refine lv_aload_n C.1 C.2.1 dX8_add_29 rfl (lv_at hl 0 rfl) ?_
    refine gX_4_size C hX8_add_4_aT_X8 hK hP mX8_add_4_aT_2 dX8_add_30 ?_
    refine lv_iconst (v := 1) C.1 C.2.1 dX8_add_33 (by decide) ?_
    refine lv_isub C.1 C.2.1 dX8_add_34 ?_
    cases h
    exact rt_i C hP hS dX8_add_35
  · rw [if_neg c4] at h
    refine lv_iconst (v := (-1)) C.1 C.2.1 dX8_add_7 (by decide) ?_
    cases h
    exact rt_i C hP hS dX8_add_8
theorem metX8_add_4_aT (l : Launch) (D : va_G) (cy : Nat → ClassId) (ad st : Nat → Nat) (hJ : JX ad st) (sz : Nat) (x1 : Nat) {u : SX} {r : Int32} {u' : SX} (h : fX8_add_4_aT x1 u = some (r, u')) : Met l yX8_add wsX8_add rmX8_add_4_aT (va_Pc [.ref (ad 4), .ref (ad (tA x1))] (Px D [(cy 0, .int), (cy 1, .long), (cy 2, .boolean), (cy 3, .byte), (cy 4, .object "HissHorn$Text")] st (VX cy ad st) sz u)) (Qi D (VX cy ad st) (AX ad) sz r u') 0 0 (Ax (AX ad) sz) := by
  refine Met.ofW (cc := cX8_add) (maxL := 2) (ret := (some .int)) (by decide) rfl ?_
  intro p e s m args below meth c s₁ B hml hv
  obtain ⟨rfl, hsz, hP, hK⟩ := hv
  subst hsz
  have C : Cx RX8 cX8_add 2 (some .int) wsX8_add p s m _ meth c := ⟨B.exec, B.bytes, hml, B.returns, findClass_of_methodNamed B.named, atoms_spec (ws := wsX8_add) B.pre, B.notSynchronized⟩
  have hl := lv_entry ([.ref (ad 4), .ref (ad (tA x1))]) (n := 2) (Nat.le_of_ble_eq_true rfl)
  rw [lg_entry_eq]
  exact wX8_add_4_aT C hK hJ x1 h hP va_S.rf hl

/-- HissHorn$Shelf.add(LHissHorn$Text;)I of cell 5 -/
def rmX8_add_5_aT : Room := { frames := 1, cells := 0, slots := 0, locals := 20 }
theorem hX8_add_5_aT_X8 : ∀ w ∈ u_ws RX8 TX8 5, w ∈ wsX8_add := fun w h => (List.mem_cons_of_mem _ (List.mem_append_right _ h))
theorem mX8_add_5_aT_1 : Cond.fieldLink RX8 23 "HissHorn$Shelf" "texts" "[LHissHorn$Text;" ∈ wsX8_add := (List.mem_cons_of_mem _ (List.mem_append_left _ (List.mem_of_getElem? (i := 0) rfl)))
theorem mX8_add_5_aT_2 : Cond.fieldLink RX8 36 "HissHorn$Shelf" "size" "I" ∈ wsX8_add := (List.mem_cons_of_mem _ (List.mem_append_left _ (List.mem_of_getElem? (i := 1) rfl)))
def fX8_add_5_aT (x1 : Nat) (u : SX) : Option (Int32 × SX) := ((fX8_isFull_5  u).bind fun q => match q with | (r1, u2) => (if r1 = 0 then (gd (inb (u2.1 7) 6) (gd (decide (x1 < tN u2)) (lt (sT u2 21 (u2.1 7).toNatClampNeg x1) fun u6 => (lt (sI u6 7 ((u6.1 7) + 1)) fun u8 => (some ((u8.1 7) - 1, u8)))))) else (some ((-1), u2))))
set_option maxHeartbeats 4000000 in
set_option maxRecDepth 100000 in
theorem wX8_add_5_aT {p : Program} {l : Launch} {e : Env} {s : State} {m : MethodId} {args : Array Value} {below : List Frame} {meth : Method} {c : Code} {D : va_G} {cy : Nat → ClassId} {ad st : Nat → Nat} (C : Cx RX8 cX8_add 2 (some .int) wsX8_add p s m args meth c) (hK : Ky D [(cy 0, .int), (cy 1, .long), (cy 2, .boolean), (cy 3, .byte), (cy 4, .object "HissHorn$Text")] st s) (hJ : JX ad st) (x1 : Nat) {u : SX} {r : Int32} {u' : SX} {H : Heap} {locs : List Loc} {ls : Array Slot} (h : fX8_add_5_aT x1 u = some (r, u')) (hP : va_P D vwCl (VX cy ad st u) H) (hS : va_S (Ax (AX ad) s.heap.size) s.heap H locs) (hl : lv_has ls 2 [(0, .ref (ad 5)), (1, .ref (ad (tA x1)))]) : W p l e rmX8_add_5_aT s m args below meth c H locs 0 0 (MQ below (Qi D (VX cy ad st) (AX ad) s.heap.size r u') args s 0 0 (Ax (AX ad) s.heap.size)) (F0 m 0 ls []) := by
  unfold fX8_add_5_aT at h
  refine lv_aload_n C.1 C.2.1 dX8_add_0 rfl (lv_at hl 0 rfl) ?_
  obtain ⟨⟨r1, u2⟩, hc3, h⟩ := bd_some h
  try dsimp only at h
  refine cg_i (As := []) (rest := []) (AX_ge hJ) C hK hP hS (metX8_isFull_5 l D cy ad st hJ _  hc3) (cwV 0 C.2.2.2.2.2.1 gX8_add_X8_isFull rfl rfl rfl (by decide +kernel) ⟨(Nat.le_of_ble_eq_true rfl), (Nat.le_of_ble_eq_true rfl)⟩) 5 8 rfl rfl rfl hl.1 rfl (Nat.le_of_ble_eq_true rfl) dX8_add_1 ⟨Nat.zero_le _, Nat.zero_le _⟩ (fun H locs hP hS => ?_)
  refine lv_if_eq (tgt := 9) C.1 C.2.1 dX8_add_4 (by decide) (fun c4 => ?_) (fun c4 => ?_)
  · rw [if_pos c4] at h
    refine lv_aload_n C.1 C.2.1 dX8_add_9 rfl (lv_at hl 0 rfl) ?_
    refine gX_5_texts C hX8_add_5_aT_X8 hK hP mX8_add_5_aT_1 dX8_add_10 ?_
    refine lv_aload_n C.1 C.2.1 dX8_add_13 rfl (lv_at hl 0 rfl) ?_
    refine gX_5_size C hX8_add_5_aT_X8 hK hP mX8_add_5_aT_2 dX8_add_14 ?_
    refine lv_aload_n C.1 C.2.1 dX8_add_17 rfl (lv_at hl 1 rfl) ?_
    obtain ⟨hg4, h⟩ := gd_some h
    obtain ⟨hg5, h⟩ := gd_some h
    refine taX_21 C hK hP hJ hS hg4 (of_decide_eq_true hg5) dX8_add_18 (fun H locs hP hS => ?_)
    obtain ⟨u6, hu7, h⟩ := lt_some h
    rw [← hu7] at hP
    refine lv_aload_n C.1 C.2.1 dX8_add_19 rfl (lv_at hl 0 rfl) ?_
    refine lv_dup C.1 C.2.1 dX8_add_20 rfl ?_
    refine gX_5_size C hX8_add_5_aT_X8 hK hP mX8_add_5_aT_2 dX8_add_21 ?_
    refine lv_iconst (v := 1) C.1 C.2.1 dX8_add_24 (by decide) ?_
    refine lv_iadd C.1 C.2.1 dX8_add_25 ?_
    refine pX_5_size C hX8_add_5_aT_X8 hK hP hJ hS mX8_add_5_aT_2 dX8_add_26 (fun H locs hP hS => ?_)
    obtain ⟨u8, hu9, h⟩ := lt_some h
    rw [← hu9] at hP
    refine lv_aload_n C.1 C.2.1 dX8_add_29 rfl (lv_at hl 0 rfl) ?_
    refine gX_5_size C hX8_add_5_aT_X8 hK hP mX8_add_5_aT_2 dX8_add_30 ?_
    refine lv_iconst (v := 1) C.1 C.2.1 dX8_add_33 (by decide) ?_
    refine lv_isub C.1 C.2.1 dX8_add_34 ?_
    cases h
    exact rt_i C hP hS dX8_add_35
  · rw [if_neg c4] at h
    refine lv_iconst (v := (-1)) C.1 C.2.1 dX8_add_7 (by decide) ?_
    cases h
    exact rt_i C hP hS dX8_add_8
theorem metX8_add_5_aT (l : Launch) (D : va_G) (cy : Nat → ClassId) (ad st : Nat → Nat) (hJ : JX ad st) (sz : Nat) (x1 : Nat) {u : SX} {r : Int32} {u' : SX} (h : fX8_add_5_aT x1 u = some (r, u')) : Met l yX8_add wsX8_add rmX8_add_5_aT (va_Pc [.ref (ad 5), .ref (ad (tA x1))] (Px D [(cy 0, .int), (cy 1, .long), (cy 2, .boolean), (cy 3, .byte), (cy 4, .object "HissHorn$Text")] st (VX cy ad st) sz u)) (Qi D (VX cy ad st) (AX ad) sz r u') 0 0 (Ax (AX ad) sz) := by
  refine Met.ofW (cc := cX8_add) (maxL := 2) (ret := (some .int)) (by decide) rfl ?_
  intro p e s m args below meth c s₁ B hml hv
  obtain ⟨rfl, hsz, hP, hK⟩ := hv
  subst hsz
  have C : Cx RX8 cX8_add 2 (some .int) wsX8_add p s m _ meth c := ⟨B.exec, B.bytes, hml, B.returns, findClass_of_methodNamed B.named, atoms_spec (ws := wsX8_add) B.pre, B.notSynchronized⟩
  have hl := lv_entry ([.ref (ad 5), .ref (ad (tA x1))]) (n := 2) (Nat.le_of_ble_eq_true rfl)
  rw [lg_entry_eq]
  exact wX8_add_5_aT C hK hJ x1 h hP va_S.rf hl

theorem zdJ7_copyOf_59c91_0 : (and (and (and (and (and (zk cJ7_copyOf_59c91 0 (.iload_n 1) 1) (zk cJ7_copyOf_59c91 1 (.aload_n 0) 1)) (zk cJ7_copyOf_59c91 2 (.arraylength) 1)) (and (and (zk cJ7_copyOf_59c91 3 (.if_icmp .ne 11) 3) (zk cJ7_copyOf_59c91 14 (.iload_n 1) 1)) (zk cJ7_copyOf_59c91 15 (.newarray .int) 2))) (and (and (and (zk cJ7_copyOf_59c91 17 (.astore_n 2) 1) (zk cJ7_copyOf_59c91 18 (.aload_n 0) 1)) (zk cJ7_copyOf_59c91 19 (.iconst 0) 1)) (and (zk cJ7_copyOf_59c91 20 (.aload_n 2) 1) (zk cJ7_copyOf_59c91 21 (.iconst 0) 1)))) (and (and (and (and (zk cJ7_copyOf_59c91 22 (.aload_n 0) 1) (zk cJ7_copyOf_59c91 23 (.arraylength) 1)) (zk cJ7_copyOf_59c91 24 (.iload_n 1) 1)) (and (and (zk cJ7_copyOf_59c91 25 (.invokestatic 304) 3) (zk cJ7_copyOf_59c91 28 (.invokestatic 150) 3)) (zk cJ7_copyOf_59c91 31 (.aload_n 2) 1))) (and (and (and (zk cJ7_copyOf_59c91 32 (.areturn) 1) (zk cJ7_copyOf_59c91 6 (.aload_n 0) 1)) (zk cJ7_copyOf_59c91 7 (.invokevirtual 316) 3)) (and (zk cJ7_copyOf_59c91 10 (.checkcast 317) 3) (zk cJ7_copyOf_59c91 13 (.areturn) 1))))) = true := by decide +kernel
theorem dJ7_copyOf_59c91_0 : decode cJ7_copyOf_59c91 0 = .ok (.iload_n 1, 1) := zk_of (zk_l (zk_l (zk_l (zk_l (zk_l zdJ7_copyOf_59c91_0)))))
theorem dJ7_copyOf_59c91_1 : decode cJ7_copyOf_59c91 1 = .ok (.aload_n 0, 1) := zk_of (zk_r (zk_l (zk_l (zk_l (zk_l zdJ7_copyOf_59c91_0)))))
theorem dJ7_copyOf_59c91_2 : decode cJ7_copyOf_59c91 2 = .ok (.arraylength, 1) := zk_of (zk_r (zk_l (zk_l (zk_l zdJ7_copyOf_59c91_0))))
theorem dJ7_copyOf_59c91_3 : decode cJ7_copyOf_59c91 3 = .ok (.if_icmp .ne 11, 3) := zk_of (zk_l (zk_l (zk_r (zk_l (zk_l zdJ7_copyOf_59c91_0)))))
theorem dJ7_copyOf_59c91_14 : decode cJ7_copyOf_59c91 14 = .ok (.iload_n 1, 1) := zk_of (zk_r (zk_l (zk_r (zk_l (zk_l zdJ7_copyOf_59c91_0)))))
theorem dJ7_copyOf_59c91_15 : decode cJ7_copyOf_59c91 15 = .ok (.newarray .int, 2) := zk_of (zk_r (zk_r (zk_l (zk_l zdJ7_copyOf_59c91_0))))
theorem dJ7_copyOf_59c91_17 : decode cJ7_copyOf_59c91 17 = .ok (.astore_n 2, 1) := zk_of (zk_l (zk_l (zk_l (zk_r (zk_l zdJ7_copyOf_59c91_0)))))
theorem dJ7_copyOf_59c91_18 : decode cJ7_copyOf_59c91 18 = .ok (.aload_n 0, 1) := zk_of (zk_r (zk_l (zk_l (zk_r (zk_l zdJ7_copyOf_59c91_0)))))
theorem dJ7_copyOf_59c91_19 : decode cJ7_copyOf_59c91 19 = .ok (.iconst 0, 1) := zk_of (zk_r (zk_l (zk_r (zk_l zdJ7_copyOf_59c91_0))))
theorem dJ7_copyOf_59c91_20 : decode cJ7_copyOf_59c91 20 = .ok (.aload_n 2, 1) := zk_of (zk_l (zk_r (zk_r (zk_l zdJ7_copyOf_59c91_0))))
theorem dJ7_copyOf_59c91_21 : decode cJ7_copyOf_59c91 21 = .ok (.iconst 0, 1) := zk_of (zk_r (zk_r (zk_r (zk_l zdJ7_copyOf_59c91_0))))
theorem dJ7_copyOf_59c91_22 : decode cJ7_copyOf_59c91 22 = .ok (.aload_n 0, 1) := zk_of (zk_l (zk_l (zk_l (zk_l (zk_r zdJ7_copyOf_59c91_0)))))
theorem dJ7_copyOf_59c91_23 : decode cJ7_copyOf_59c91 23 = .ok (.arraylength, 1) := zk_of (zk_r (zk_l (zk_l (zk_l (zk_r zdJ7_copyOf_59c91_0)))))
theorem dJ7_copyOf_59c91_24 : decode cJ7_copyOf_59c91 24 = .ok (.iload_n 1, 1) := zk_of (zk_r (zk_l (zk_l (zk_r zdJ7_copyOf_59c91_0))))
theorem dJ7_copyOf_59c91_25 : decode cJ7_copyOf_59c91 25 = .ok (.invokestatic 304, 3) := zk_of (zk_l (zk_l (zk_r (zk_l (zk_r zdJ7_copyOf_59c91_0)))))
theorem dJ7_copyOf_59c91_28 : decode cJ7_copyOf_59c91 28 = .ok (.invokestatic 150, 3) := zk_of (zk_r (zk_l (zk_r (zk_l (zk_r zdJ7_copyOf_59c91_0)))))
theorem dJ7_copyOf_59c91_31 : decode cJ7_copyOf_59c91 31 = .ok (.aload_n 2, 1) := zk_of (zk_r (zk_r (zk_l (zk_r zdJ7_copyOf_59c91_0))))
theorem dJ7_copyOf_59c91_32 : decode cJ7_copyOf_59c91 32 = .ok (.areturn, 1) := zk_of (zk_l (zk_l (zk_l (zk_r (zk_r zdJ7_copyOf_59c91_0)))))
theorem dJ7_copyOf_59c91_6 : decode cJ7_copyOf_59c91 6 = .ok (.aload_n 0, 1) := zk_of (zk_r (zk_l (zk_l (zk_r (zk_r zdJ7_copyOf_59c91_0)))))
theorem dJ7_copyOf_59c91_7 : decode cJ7_copyOf_59c91 7 = .ok (.invokevirtual 316, 3) := zk_of (zk_r (zk_l (zk_r (zk_r zdJ7_copyOf_59c91_0))))
theorem dJ7_copyOf_59c91_10 : decode cJ7_copyOf_59c91 10 = .ok (.checkcast 317, 3) := zk_of (zk_l (zk_r (zk_r (zk_r zdJ7_copyOf_59c91_0))))
theorem dJ7_copyOf_59c91_13 : decode cJ7_copyOf_59c91 13 = .ok (.areturn, 1) := zk_of (zk_r (zk_r (zk_r (zk_r zdJ7_copyOf_59c91_0))))
theorem mCO_0 : Cond.methodLink RJ7 316 ⟨"[I", "clone", "()Ljava/lang/Object;"⟩ ∈ wsJ7_copyOf_59c91 := (List.mem_cons_of_mem _ (List.mem_of_getElem? (i := 0) rfl))
theorem mCO_1 : Cond.sameMethod "[I" "java/lang/Object" "clone" "()Ljava/lang/Object;" ∈ wsJ7_copyOf_59c91 := (List.mem_cons_of_mem _ (List.mem_of_getElem? (i := 1) rfl))
theorem mCO_2 : Cond.native ⟨"java/lang/Object", "clone", "()Ljava/lang/Object;"⟩ ∈ wsJ7_copyOf_59c91 := (List.mem_cons_of_mem _ (List.mem_of_getElem? (i := 2) rfl))
theorem mCO_3 : Cond.instanceMethod ⟨"java/lang/Object", "clone", "()Ljava/lang/Object;"⟩ ∈ wsJ7_copyOf_59c91 := (List.mem_cons_of_mem _ (List.mem_of_getElem? (i := 3) rfl))
theorem mCO_4 : Cond.selects "[I" ⟨"[I", "clone", "()Ljava/lang/Object;"⟩ ⟨"java/lang/Object", "clone", "()Ljava/lang/Object;"⟩ ∈ wsJ7_copyOf_59c91 := (List.mem_cons_of_mem _ (List.mem_of_getElem? (i := 4) rfl))
theorem mCO_5 : Cond.classLink RJ7 317 "[I" ∈ wsJ7_copyOf_59c91 := (List.mem_cons_of_mem _ (List.mem_of_getElem? (i := 5) rfl))
theorem mCO_6 : Cond.arrayClass .int ∈ wsJ7_copyOf_59c91 := (List.mem_cons_of_mem _ (List.mem_of_getElem? (i := 6) rfl))
theorem mCO_7 : Cond.methodLink RJ7 304 Lib.Math.min.name ∈ wsJ7_copyOf_59c91 := (List.mem_cons_of_mem _ (List.mem_of_getElem? (i := 7) rfl))
theorem mCO_8 : Cond.static Lib.Math.min.name ∈ wsJ7_copyOf_59c91 := (List.mem_cons_of_mem _ (List.mem_of_getElem? (i := 8) rfl))
theorem mCO_9 : Cond.initialized "java/lang/Math" ∈ wsJ7_copyOf_59c91 := (List.mem_cons_of_mem _ (List.mem_of_getElem? (i := 9) rfl))
theorem mCO_10 : Cond.code Lib.Math.min.name Lib.Math.min.code 2 (some .int) ∈ wsJ7_copyOf_59c91 := (List.mem_cons_of_mem _ (List.mem_of_getElem? (i := 10) rfl))
theorem mCO_11 : Cond.methodLink RJ7 150 arraycopyName ∈ wsJ7_copyOf_59c91 := (List.mem_cons_of_mem _ (List.mem_of_getElem? (i := 11) rfl))
theorem mCO_12 : Cond.native arraycopyName ∈ wsJ7_copyOf_59c91 := (List.mem_cons_of_mem _ (List.mem_of_getElem? (i := 12) rfl))
theorem mCO_13 : Cond.static arraycopyName ∈ wsJ7_copyOf_59c91 := (List.mem_cons_of_mem _ (List.mem_of_getElem? (i := 13) rfl))
theorem mCO_14 : Cond.initialized "java/lang/System" ∈ wsJ7_copyOf_59c91 := (List.mem_cons_of_mem _ (List.mem_of_getElem? (i := 14) rfl))
theorem arr_same {D : va_G} {tys tys' : List (ClassId × FieldType)} {s : State} {c1 c2 : ClassId} {ty : FieldType} (h : va_K D vwCl tys' s) (h0 : va_K D vwCl tys s) (k : Nat) (hk : tys[k]? = some (c1, ty)) (j : Nat) (hj : tys'[j]? = some (c2, ty)) : c2 = c1 := by
  have a := (h.2 j _ hj).2
  have b := (h0.2 k _ hk).2
  cases ty with
  | object C =>
    obtain ⟨_, _, _, _, _, a4⟩ := a
    obtain ⟨_, _, _, _, _, b4⟩ := b
    exact Option.some.inj (a4.symm.trans b4)
  | _ => exact Option.some.inj (a.symm.trans b)
theorem D_one {A : Nat → Prop} {a : Nat} {e : va_E} (h : A a) : va_D A [(a, e)] := by
  refine ⟨fun i j p q hp hq _ => ?_, fun k q hk => ?_⟩
  · have hi : i < 1 := (List.getElem?_eq_some_iff.mp hp).1
    have hj : j < 1 := (List.getElem?_eq_some_iff.mp hq).1
    omega
  · have hi : k < 1 := (List.getElem?_eq_some_iff.mp hk).1
    obtain rfl : k = 0 := by omega
    cases hk
    exact h
/-- rows of ints can be cloned -/
def CLn (U : State) : Prop := va_Nw (.castable "[I" "java/lang/Cloneable") U
theorem cpy_or {f : Nat → Int32} {n i : Nat} : va_cpy f (fun _ => 0) 0 0 n i = f i ∨ va_cpy f (fun _ => 0) 0 0 n i = 0 := by
  show (if 0 ≤ i ∧ i < 0 + n then f (0 + (i - 0)) else 0) = f i ∨ (if 0 ≤ i ∧ i < 0 + n then f (0 + (i - 0)) else 0) = 0
  split
  · exact Or.inl (by rw [Nat.zero_add, Nat.sub_zero])
  · exact Or.inr rfl
theorem fits_i {cA : ClassId} {n : Nat} {f : Nat → Int32} (i : Nat) (v : Value) (h : (vp_cell cA (n, .inl f)).slots[i]? = some v) : fits .int v = true := by
  have h : (arrV cA n (fun j => .int (f j))).slots[i]? = some v := h
  rcases Nat.lt_or_ge i n with z | z
  · rw [arrV_read _ _ z] at h; cases h; rfl
  · rw [Array.getElem?_eq_none (by rw [arrV_size]; exact z)] at h; cases h
def rmCO : Room := { frames := 1, cells := 1, slots := 121, locals := 40 }
set_option maxHeartbeats 4000000 in
set_option maxRecDepth 100000 in
theorem met_copyOf (l : Launch) (D : va_G) (cy : Nat → ClassId) (b sz : Nat) (f : Nat → Int32) (n : Int32) (hn0 : 0 ≤ n.toInt) (hn1 : n.toInt ≤ 121) : Met l yJ7_copyOf_59c91 wsJ7_copyOf_59c91 rmCO (va_Pc [.ref b, .int n] (fun U => U.heap.size = sz ∧ va_P D vwCl [(b, .inl (cy 0, 121, .inl f))] U.heap ∧ va_K D vwCl [(cy 0, .int), (cy 1, .long), (cy 2, .boolean), (cy 3, .byte), (cy 4, .object "HissHorn$Text")] U ∧ CLn U)) (va_Qr (fun g : Nat → Int32 => ∀ i, g i = f i ∨ g i = 0) (fun g a t => sz ≤ a ∧ va_P D vwCl [(b, .inl (cy 0, 121, .inl f)), (a, .inl (cy 0, n.toNatClampNeg, .inl g))] t.heap) (Ax (fun a => a = b) sz)) 1 121 (Ax (fun a => a = b) sz) := by
  refine Met.ofW (cc := cJ7_copyOf_59c91) (maxL := 3) (ret := some (.array .int)) (by decide) rfl ?_
  intro p e s m args below meth c s₁ B hml hv
  obtain ⟨rfl, hsz, hP, hK, hCL⟩ := hv
  subst hsz
  have C : Cx RJ7 cJ7_copyOf_59c91 3 (some (.array .int)) wsJ7_copyOf_59c91 p s m _ meth c := ⟨B.exec, B.bytes, hml, B.returns, findClass_of_methodNamed B.named, atoms_spec (ws := wsJ7_copyOf_59c91) B.pre, B.notSynchronized⟩
  have hbz : b < s.heap.size := (hP 0 _ rfl).lt
  have hA : ∀ q : Nat, s.heap.size ≤ q → Ax (fun a => a = b) s.heap.size q := fun q h => Or.inr h
  have hD : va_D (Ax (fun a => a = b) s.heap.size) [(b, .inl (cy 0, 121, .inl f))] := D_one (Or.inl rfl)
  have hS : va_S (Ax (fun a => a = b) s.heap.size) s.heap s.heap [] := va_S.rf
  have hneg : ¬ n < 0 := fun z => by have z : n.toInt < (0 : Int) := ltI z; omega
  have hN : n.toNatClampNeg ≤ 121 := by show n.toInt.toNat ≤ 121; omega
  have hl := lv_entry ([.ref b, .int n]) (n := 3) (Nat.le_of_ble_eq_true rfl)
  rw [lg_entry_eq]
  generalize (lg_sl ([.ref b, .int n]) ++ List.replicate (3 - (lg_sl ([.ref b, .int n])).length) Slot.unset).toArray = ls at hl ⊢
  have hl : lv_has ls 3 [(0, .ref b), (1, .int n)] := hl
  refine lv_iload_n C.1 C.2.1 dJ7_copyOf_59c91_0 rfl (lv_at hl 1 rfl) ?_
  refine lv_aload_n C.1 C.2.1 dJ7_copyOf_59c91_1 rfl (lv_at hl 0 rfl) ?_
  refine va_alen (v := 121) C.1 C.2.1 hK hP 0 0 rfl rfl rfl dJ7_copyOf_59c91_2 ?_
  refine lv_icmp_ne (tgt := 14) C.1 C.2.1 dJ7_copyOf_59c91_3 (by decide) (fun c3 => ?_) (fun c3 => ?_)
  · refine lv_iload_n C.1 C.2.1 dJ7_copyOf_59c91_14 rfl (lv_at hl 1 rfl) ?_
    refine va_newa (atype := .int) (a0 := (n.toNatClampNeg, .inl (fun _ => 0))) (ty := .int) C.1 C.2.1 (C.2.2.2.2.2.1 _ mCO_6) rfl hK hP hD hS hA (fun cA => by first | rfl | exact vp_cell_i _ _ _) hneg (N' := n.toNatClampNeg) rfl (by show n.toNatClampNeg * 4 ≤ 536870912; omega) (Nat.le_of_ble_eq_true rfl) (by show 0 + n.toNatClampNeg ≤ 121; omega) dJ7_copyOf_59c91_15 (fun q1 cA H hK9 hP hD hS => ?_)
    obtain rfl : cA = cy 0 := arr_same hK9 hK 0 rfl 5 rfl
    have hP : va_P D vwCl [(b, .inl (cy 0, 121, .inl f)), (q1, .inl (cy 0, n.toNatClampNeg, .inl (fun _ => 0)))] H := hP
    have hD : va_D (Ax (fun a => a = b) s.heap.size) [(b, .inl (cy 0, 121, .inl f)), (q1, .inl (cy 0, n.toNatClampNeg, .inl (fun _ => 0)))] := hD
    clear hK9
    have hq1 : s.heap.size ≤ q1 := by
      rcases hD.2 1 _ rfl with z | z
      · exact absurd (hD.1 1 0 _ _ rfl rfl z) (by decide)
      · exact z
    refine lv_astore_n (lv' := [(2, .ref q1), (0, .ref b), (1, .int n)]) C.1 C.2.1 dJ7_copyOf_59c91_17 rfl hl (by decide) rfl (fun ls hl => ?_)
    refine lv_aload_n C.1 C.2.1 dJ7_copyOf_59c91_18 rfl (lv_at hl 1 rfl) ?_
    refine lv_iconst (v := 0) C.1 C.2.1 dJ7_copyOf_59c91_19 (by decide) ?_
    refine lv_aload_n C.1 C.2.1 dJ7_copyOf_59c91_20 rfl (lv_at hl 0 rfl) ?_
    refine lv_iconst (v := 0) C.1 C.2.1 dJ7_copyOf_59c91_21 (by decide) ?_
    refine lv_aload_n C.1 C.2.1 dJ7_copyOf_59c91_22 rfl (lv_at hl 1 rfl) ?_
    refine va_alen (v := 121) C.1 C.2.1 hK hP 0 0 rfl rfl rfl dJ7_copyOf_59c91_23 ?_
    refine lv_iload_n C.1 C.2.1 dJ7_copyOf_59c91_24 rfl (lv_at hl 2 rfl) ?_
    refine va_mmin C.1 C.2.1 (C.2.2.1.trans hl.1.symm) C.2.2.2.2.1 (C.2.2.2.2.2.1 _ mCO_7) (C.2.2.2.2.2.1 _ mCO_8) (C.2.2.2.2.2.1 _ mCO_9) (C.2.2.2.2.2.1 _ mCO_10) (Nat.le_of_ble_eq_true rfl) (Nat.le_of_ble_eq_true rfl) (Nat.le_of_ble_eq_true rfl) (by show 0 + n.toNatClampNeg ≤ 121; omega) dJ7_copyOf_59c91_25 ?_
    refine lv_topi (fun v ev => ?_)
    have hv : 0 ≤ v.toInt ∧ v.toInt ≤ n.toInt := by
      rcases ite_lt_t (x := n) (y := 121) (p := n) (q := 121) with ⟨h1, h2⟩ | ⟨h1, h2⟩
      · rw [ev, h2]; omega
      · have h1 : ¬ n.toInt < (121 : Int) := h1
        have h2 : (if n < 121 then n else 121).toInt = (121 : Int) := h2
        rw [ev, h2]; omega
    refine va_copyi C.1 C.2.1 (C.2.2.1.trans hl.1.symm) C.2.2.2.2.1 (C.2.2.2.2.2.1 _ mCO_11) (C.2.2.2.2.2.1 _ mCO_12) (C.2.2.2.2.2.1 _ mCO_13) (C.2.2.2.2.2.1 _ mCO_14) hK hP hD hS 0 1 0 0 rfl rfl rfl rfl rfl (by decide) (by decide) (fun z => by have z : v.toInt < (0 : Int) := ltI z; omega) (by show 0 + v.toInt.toNat ≤ 121; omega) (by show 0 + v.toInt.toNat ≤ n.toInt.toNat; omega) (fun _ _ => rfl) (Nat.le_of_ble_eq_true rfl) (Nat.le_of_ble_eq_true rfl) dJ7_copyOf_59c91_28 (fun H locs hP hD hS => ?_)
    refine lv_aload_n C.1 C.2.1 dJ7_copyOf_59c91_31 rfl (lv_at hl 0 rfl) ?_
    refine W.widen (k := 1) (n := 121) (Nat.le_of_ble_eq_true rfl) (by show 0 + n.toNatClampNeg ≤ 121; omega) ?_
    exact W.aret C.1 C.2.1 C.2.2.2.1 (Or.inr ⟨_, rfl⟩) (Or.inr ⟨_, rfl⟩) (fun t ht _ => ⟨⟨_, q1, rfl, fun i => cpy_or, hq1, by rw [ht]; exact hP⟩, hS.F ht⟩) hS.2.2 dJ7_copyOf_59c91_32 C.2.2.2.2.2.2
  · refine lv_aload_n C.1 C.2.1 dJ7_copyOf_59c91_6 rfl (lv_at hl 0 rfl) ?_
    have hnm : s.vm.findClass "[I" = some (cy 0) := (hK.2 0 _ rfl).2
    refine va_clone C.1 C.2.1 (C.2.2.1.trans hl.1.symm) C.2.2.2.2.1 (C.2.2.2.2.2.1 _ mCO_0) (C.2.2.2.2.2.1 _ mCO_1) (C.2.2.2.2.2.1 _ mCO_2) (C.2.2.2.2.2.1 _ mCO_3) (C.2.2.2.2.2.1 _ mCO_4) hCL hK hP hD hS hA 0 0 rfl rfl hnm fits_i (Nat.le_of_ble_eq_true rfl) (Nat.le_of_ble_eq_true rfl) (Nat.le_of_ble_eq_true rfl) (Nat.le_of_ble_eq_true rfl) dJ7_copyOf_59c91_7 (fun q1 H hK9 hP hD hS => ?_)
    have hP : va_P D vwCl [(b, .inl (cy 0, 121, .inl f)), (q1, .inl (cy 0, 121, .inl f))] H := hP
    have hD : va_D (Ax (fun a => a = b) s.heap.size) [(b, .inl (cy 0, 121, .inl f)), (q1, .inl (cy 0, 121, .inl f))] := hD
    have hq1 : s.heap.size ≤ q1 := by
      rcases hD.2 1 _ rfl with z | z
      · exact absurd (hD.1 1 0 _ _ rfl rfl z) (by decide)
      · exact z
    refine va_castA C.1 C.2.1 C.2.2.2.2.1 (C.2.2.2.2.2.1 _ mCO_5) hP 1 rfl hnm dJ7_copyOf_59c91_10 ?_
    refine W.widen (k := 1) (n := 121) (Nat.le_of_ble_eq_true rfl) (Nat.le_of_ble_eq_true rfl) ?_
    have e121 : n.toNatClampNeg = 121 := by rw [c3]; rfl
    exact W.aret C.1 C.2.1 C.2.2.2.1 (Or.inr ⟨_, rfl⟩) (Or.inr ⟨_, rfl⟩) (fun t ht _ => ⟨⟨f, q1, rfl, fun i => Or.inl rfl, hq1, by rw [ht, e121]; exact hP⟩, hS.F ht⟩) hS.2.2 dJ7_copyOf_59c91_13 C.2.2.2.2.2.2
theorem zdX10_init_0 : (and (and (and (zk cX10_init 0 (.aload_n 0) 1) (zk cX10_init 1 (.invokespecial 1) 3)) (zk cX10_init 4 (.aload_n 0) 1)) (and (and (zk cX10_init 5 (.aload_n 1) 1) (zk cX10_init 6 (.putfield 7) 3)) (zk cX10_init 9 (.return_) 1))) = true := by decide +kernel
theorem dX10_init_0 : decode cX10_init 0 = .ok (.aload_n 0, 1) := zk_of (zk_l (zk_l (zk_l zdX10_init_0)))
theorem dX10_init_1 : decode cX10_init 1 = .ok (.invokespecial 1, 3) := zk_of (zk_r (zk_l (zk_l zdX10_init_0)))
theorem dX10_init_4 : decode cX10_init 4 = .ok (.aload_n 0, 1) := zk_of (zk_r (zk_l zdX10_init_0))
theorem dX10_init_5 : decode cX10_init 5 = .ok (.aload_n 1, 1) := zk_of (zk_l (zk_l (zk_r zdX10_init_0)))
theorem dX10_init_6 : decode cX10_init 6 = .ok (.putfield 7, 3) := zk_of (zk_r (zk_l (zk_r zdX10_init_0)))
theorem dX10_init_9 : decode cX10_init 9 = .ok (.return_, 1) := zk_of (zk_r (zk_r zdX10_init_0))
theorem mTI_0 : Cond.methodLink RX10 1 objectInit ∈ wsX10_init := (List.mem_cons_of_mem _ (List.mem_append_left _ (List.mem_of_getElem? (i := 0) rfl)))
theorem mTI_1 : Cond.instanceMethod objectInit ∈ wsX10_init := (List.mem_cons_of_mem _ (List.mem_append_left _ (List.mem_of_getElem? (i := 1) rfl)))
theorem mTI_2 : Cond.code objectInit ⟨#[0xb1]⟩ 1 none ∈ wsX10_init := (List.mem_cons_of_mem _ (List.mem_append_left _ (List.mem_of_getElem? (i := 2) rfl)))
theorem mTI_3 : Cond.fieldLink RX10 7 "HissHorn$Text" "code" "[I" ∈ wsX10_init := (List.mem_cons_of_mem _ (List.mem_append_left _ (List.mem_of_getElem? (i := 3) rfl)))
theorem hTI : ∀ w ∈ u_ws RX10 TX10 1, w ∈ wsX10_init := fun w h => (List.mem_cons_of_mem _ (List.mem_append_right _ h))
def rmTI : Room := { frames := 1, cells := 0, slots := 0, locals := 30 }
set_option maxHeartbeats 4000000 in
set_option maxRecDepth 100000 in
theorem met_Tinit (l : Launch) (D : va_G) (cy : Nat → ClassId) (h0 a sz : Nat) : Met l yX10_init wsX10_init rmTI (va_Pc [.ref h0, .ref a] (fun U => U.heap.size = sz ∧ va_P D vwCl [(h0, .inr (10, [.null]))] U.heap ∧ va_K D vwCl [(cy 0, .int), (cy 1, .long), (cy 2, .boolean), (cy 3, .byte), (cy 4, .object "HissHorn$Text")] U)) (va_Qv (fun (_ : Unit) => True) (fun _ t => va_P D vwCl [(h0, .inr (10, [.ref a]))] t.heap) (Ax (fun q => q = h0) sz)) 0 0 (Ax (fun q => q = h0) sz) := by
  refine Met.ofW (cc := cX10_init) (maxL := 2) (ret := none) (by decide) rfl ?_
  intro p e s m args below meth c s₁ B hml hv
  obtain ⟨rfl, hsz, hP, hK⟩ := hv
  subst hsz
  have C : Cx RX10 cX10_init 2 none wsX10_init p s m _ meth c := ⟨B.exec, B.bytes, hml, B.returns, findClass_of_methodNamed B.named, atoms_spec (ws := wsX10_init) B.pre, B.notSynchronized⟩
  have hin : meth.name = "<init>" := (name_of_methodNamed B.named B.method).1
  have hD : va_D (Ax (fun q => q = h0) s.heap.size) [(h0, .inr (10, [.null]))] := D_one (Or.inl rfl)
  have hS : va_S (Ax (fun q => q = h0) s.heap.size) s.heap s.heap [] := va_S.rf
  have hl := lv_entry ([.ref h0, .ref a]) (n := 2) (Nat.le_of_ble_eq_true rfl)
  rw [lg_entry_eq]
  generalize (lg_sl ([.ref h0, .ref a]) ++ List.replicate (2 - (lg_sl ([.ref h0, .ref a])).length) Slot.unset).toArray = ls at hl ⊢
  have hl : lv_has ls 2 [(0, .ref h0), (1, .ref a)] := hl
  refine lv_aload_n C.1 C.2.1 dX10_init_0 rfl (lv_at hl 0 rfl) ?_
  refine W.objInit C.1 C.2.1 C.2.2.2.2.1 (C.2.2.2.2.2.1 _ mTI_0) (C.2.2.2.2.2.1 _ mTI_1) (C.2.2.2.2.2.1 _ mTI_2) rfl (by rw [C.2.2.1]; exact hl.1) rfl dX10_init_1 (Nat.le_of_ble_eq_true rfl) (Nat.le_of_ble_eq_true rfl) ?_
  refine W.eq (g2 := F0 m 4 ls []) rfl ?_
  refine lv_aload_n C.1 C.2.1 dX10_init_4 rfl (lv_at hl 0 rfl) ?_
  refine lv_aload_n C.1 C.2.1 dX10_init_5 rfl (lv_at hl 1 rfl) ?_
  refine va_putF (D := D) (ci := 10) (v := .ref a) (ty := .array .int) C.1 C.2.1 C.2.2.2.2.2.1 hTI tyX10 tyX10_ok nmX10 C.2.2.2.2.1 hK hP hD hS 0 rfl rfl 0 (by decide) (C.2.2.2.2.2.1 _ mTI_3) (fun _ h => h) rfl hin rfl (by decide +kernel) rfl rfl (Nat.le_of_ble_eq_true rfl) dX10_init_6 (fun H locs hP hD hS => ?_)
  exact W.vret C.1 C.2.1 C.2.2.2.1 (fun t ht _ => ⟨⟨(), rfl, trivial, by show va_P D vwCl [(h0, .inr (10, [.ref a]))] t.heap; rw [ht]; exact hP⟩, hS.F ht⟩) hS.2.2 dX10_init_9 C.2.2.2.2.2.2
