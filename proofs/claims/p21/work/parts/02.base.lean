/-! What every walk here stands on: a state of a side as four functions, the fixed things of a walk, rows for calls and returns over a world that is a function of the state. -/
/-- an instruction stands at a place of a code -/
def zk (c : ByteArray) (p : Nat) (i : Instr) (n : Nat) : Bool := decide (decode c p = .ok (i, n))
theorem zk_of {c : ByteArray} {p : Nat} {i : Instr} {n : Nat} (h : zk c p i n = true) : decode c p = .ok (i, n) := of_decide_eq_true h
theorem zk_l {a b : Bool} (h : and a b = true) : a = true := by
  cases a with
  | false => exact h
  | true => rfl
theorem zk_r {a b : Bool} (h : and a b = true) : b = true := by
  cases b with
  | true => rfl
  | false => cases a <;> exact h
/-- the numbers of a side: int fields, int rows, long fields, long rows -/
abbrev TX : Type := Nat × (Nat → Nat → Option Nat) × (Nat → Nat) × (Nat → Nat → Int32)
abbrev SX : Type := (Nat → Int32) × (Nat → Nat → Int32) × (Nat → Int64) × (Nat → Nat → Int64) × TX
def sI (u : SX) (k : Nat) (v : Int32) : SX := (fun j => bif Nat.beq j k then v else u.1 j, u.2)
def sA (u : SX) (k : Nat) (f : Nat → Int32) : SX := (u.1, fun j => bif Nat.beq j k then f else u.2.1 j, u.2.2)
def sJ (u : SX) (k : Nat) (v : Int64) : SX := (u.1, u.2.1, fun j => bif Nat.beq j k then v else u.2.2.1 j, u.2.2.2)
def sB (u : SX) (k : Nat) (f : Nat → Int64) : SX := (u.1, u.2.1, u.2.2.1, fun j => bif Nat.beq j k then f else u.2.2.2.1 j, u.2.2.2.2)
/-- the texts: how many; which stands at a place of a row; of each its length and its code -/
abbrev tN (u : SX) : Nat := u.2.2.2.2.1
abbrev tQ (u : SX) : Nat → Nat → Option Nat := u.2.2.2.2.2.1
abbrev tL (u : SX) : Nat → Nat := u.2.2.2.2.2.2.1
abbrev tC (u : SX) : Nat → Nat → Int32 := u.2.2.2.2.2.2.2
/-- the cells of text k: itself, its code -/
def tA (k : Nat) : Nat := 73 + 2 * k
def tB (k : Nat) : Nat := 73 + 2 * k + 1
def tcs {α : Type} (o : Option Nat) (n : Nat) (a : Option α) (f : Nat → Option α) : Option α := match o with
  | none => a
  | some k => bif decide (k < n) then f k else none
theorem tcs_n {α : Type} {o : Option Nat} {n : Nat} {a : Option α} {f : Nat → Option α} {r : α} (h : o = none) (q : tcs o n a f = some r) : a = some r := by subst h; exact q
theorem tcs_s {α : Type} {o : Option Nat} {n k : Nat} {a : Option α} {f : Nat → Option α} {r : α} (h : o = some k) (q : tcs o n a f = some r) : k < n ∧ f k = some r := by
  subst h
  have q : (bif decide (k < n) then f k else none) = some r := q
  by_cases z : k < n
  · rw [decide_eq_true z] at q; exact ⟨z, q⟩
  · rw [decide_eq_false z] at q; exact absurd q (by intro q; cases q)
/-- a guard: nothing is said where it fails -/
def gd {α : Type} (b : Bool) (k : Option α) : Option α := bif b then k else none
theorem gd_some {α : Type} {b : Bool} {k : Option α} {r : α} (h : gd b k = some r) : b = true ∧ k = some r := by
  cases b with
  | false => exact absurd h (by intro q; cases q)
  | true => exact ⟨rfl, h⟩
theorem bd_some {α β : Type} {x : Option α} {f : α → Option β} {r : β} (h : x.bind f = some r) : ∃ a, x = some a ∧ f a = some r := by
  cases x with
  | none => exact absurd h (by intro q; cases q)
  | some a => exact ⟨a, rfl, h⟩
/-- a name for a value -/
def lt {α β : Type} (x : α) (k : α → Option β) : Option β := k x
theorem lt_some {α β : Type} {x : α} {k : α → Option β} {r : β} (h : lt x k = some r) : ∃ y, y = x ∧ k y = some r := ⟨x, rfl, h⟩
theorem lt_e {α β : Type} {x y : α} {k : α → Option β} {r : β} (e : y = x) (h : lt x k = some r) : k y = some r := by rw [e]; exact h
def inb (i : Int32) (n : Nat) : Bool := !(decide (i < 0) || decide (n ≤ i.toNatClampNeg))
theorem inb_in {i : Int32} {n : Nat} (h : inb i n = true) : vp_in i n := by
  intro q
  have h2 : (decide (i < 0) || decide (n ≤ i.toNatClampNeg)) = false := by
    unfold inb at h
    simpa using h
  rcases q with q | q
  · simp [q] at h2
  · simp [q] at h2
def isB (v : Int32) : Bool := decide (v = 0) || decide (v = 1)
theorem isB_n {v : Int32} (h : isB v = true) : narrow .boolean (.int v) = .int v := by
  have : v = 0 ∨ v = 1 := by simpa [isB] using h
  rcases this with rfl | rfl <;> rfl
theorem isB_f {v : Int32} (h : isB v = true) : fits .boolean (.int v) = true := by
  have : v = 0 ∨ v = 1 := by simpa [isB] using h
  rcases this with rfl | rfl <;> rfl
def nz (v : Int32) : Bool := !decide (v = 0)
theorem nz_n {v : Int32} (h : nz v = true) : ¬ v = 0 := by simpa [nz] using h
def nzL (v : Int64) : Bool := !decide (v = 0)
theorem nzL_n {v : Int64} (h : nzL v = true) : ¬ v = 0 := by simpa [nzL] using h
def cpok (sp dp k : Int32) (n0 n1 : Nat) : Bool := !decide (sp < 0) && !decide (dp < 0) && !decide (k < 0) && decide (sp.toNatClampNeg + k.toNatClampNeg ≤ n0) && decide (dp.toNatClampNeg + k.toNatClampNeg ≤ n1)
theorem cpok_n {sp dp k : Int32} {n0 n1 : Nat} (h : cpok sp dp k n0 n1 = true) : ¬ sp < 0 ∧ ¬ dp < 0 ∧ ¬ k < 0 ∧ sp.toNatClampNeg + k.toNatClampNeg ≤ n0 ∧ dp.toNatClampNeg + k.toNatClampNeg ≤ n1 := by
  simp only [cpok, Bool.and_eq_true, Bool.not_eq_true', decide_eq_false_iff_not, decide_eq_true_eq] at h
  exact ⟨h.1.1.1.1, h.1.1.1.2, h.1.1.2, h.1.2, h.2⟩
/-- an answer that is one of a side's cells, or null: 0, or the cell's number and 1 -/
def rfOf (ad : Nat → Nat) : Nat → Option Nat
  | 0 => none
  | k + 1 => some (ad k)
/-- the fixed things of a walk -/
def Cx (own : String) (cc : ByteArray) (nL : Nat) (ret : Option FieldType) (Ts : List Cond) (p : Program) (s : State) (m : MethodId) (args : Array Value) (meth : Method) (c : Code) : Prop :=
  p.tables.exec = Jvm.exec ∧ c.code = cc ∧ c.maxLocals = nL ∧ meth.sig.returnType = ret ∧ s.vm.findClass own = some m.cls ∧ (∀ w ∈ Ts, w.before args s = true) ∧ meth.locks = false
/-- what a side's method may change -/
def Ax (Ad : Nat → Prop) (sz : Nat) : Nat → Prop := fun q => Ad q ∨ sz ≤ q
/-- links to nest mates, as the tables have them -/
def nests : List (String × Nat × MethodName) := [(RX0, 47, yX11_shine), (RX0, 67, yX11_within), (RX3, 79, yX11_spread), (RX4, 72, yX11_rowsUpTo), (RX6, 59, yX11_rowsUpTo), (RX7, 79, yX11_rowsUpTo), (RX7, 93, yX11_shine), (RX7, 114, yX11_spread)]
def Nx (U : State) : Prop := ∀ q ∈ nests, va_Nw (.methodLinkNest q.1 q.2.1 q.2.2 "HissHorn") U
/-- the String constants: class, entry, text, number -/
def texts : List (String × Nat × String × Nat) := [(RX11, 27, "dahewl", 0), (RX11, 36, "la", 1), (RX11, 41, "ngbkt", 2), (RX5, 17, "", 3), (RX12, 29, "dahewl", 4), (RX12, 260, "la", 5), (RX12, 262, "ngbkt", 6)]
def Sx (sg : Nat → Nat) (U : State) : Prop := ∀ q ∈ texts, vk_R q.1 q.2.1 q.2.2.1 (sg q.2.2.2) U
def Kx (D : va_G) (tys : List (ClassId × FieldType)) (sg : Nat → Nat) (U : State) : Prop := va_K D vwCl tys U ∧ Nx U ∧ Sx sg U
theorem Kx_warm {D : va_G} {tys : List (ClassId × FieldType)} {sg : Nat → Nat} {s U : State} (hW : s.WarmedH U.vm) (h : Kx D tys sg s) : Kx D tys sg U := ⟨va_K.moved hW.alike h.1, fun q hq => va_Nw.warmM hW (h.2.1 q hq), fun q hq => vk_R.warm hW (h.2.2 q hq)⟩
def Zc (A : Nat → Prop) (U : State) : Prop := va_Z "java/lang/String" "COMPACT_STRINGS" "Z" (.int 1) A U U.heap
theorem O_mv {E : String} {t : Nat} {A B : Nat → Prop} {u U : State} (h : va_O E t A u u.heap) (hv : u.vm.Alike U.vm) (hk : ∀ q : Nat, q < u.heap.size → ¬ A q → U.heap[q]? = u.heap[q]?) (hB : ∀ q : Nat, q < u.heap.size → B q → A q) : va_O E t B U U.heap := by
  have hlt : t < u.heap.size := by
    obtain ⟨cell, h1, _⟩ := h
    exact (Array.getElem?_eq_some_iff.mp h1).1
  obtain ⟨cell, h1, h2, h3, h4⟩ := (va_O.moved hv h).kept hk
  exact ⟨cell, h1, h2, h3, fun z => h4 (hB t hlt z)⟩
theorem OF_mv {o n d : String} {v : Value} {t : Nat} {A B : Nat → Prop} {u U : State} (h : va_OF o n d v t A u u.heap) (hv : u.vm.Alike U.vm) (hk : ∀ q : Nat, q < u.heap.size → ¬ A q → U.heap[q]? = u.heap[q]?) (hB : ∀ q : Nat, q < u.heap.size → B q → A q) : va_OF o n d v t B U U.heap := by
  have hlt : t < u.heap.size := by
    obtain ⟨cf, k, i, f, cell, h1, h2, h3, _⟩ := h
    exact (Array.getElem?_eq_some_iff.mp h3).1
  obtain ⟨cf, k, i, f, cell, h1, h2, h3, h4, h5, h6⟩ := (va_OF.moved hv h).kept hk
  exact ⟨cf, k, i, f, cell, h1, h2, h3, h4, h5, fun z => h6 (hB t hlt z)⟩
theorem T_mv {ty : FieldType} {t N : Nat} {f : Nat → Value} {A B : Nat → Prop} {u U : State} (h : va_T ty t N f A u u.heap) (hv : u.vm.Alike U.vm) (hk : ∀ q : Nat, q < u.heap.size → ¬ A q → U.heap[q]? = u.heap[q]?) (hB : ∀ q : Nat, q < u.heap.size → B q → A q) : va_T ty t N f B U U.heap := by
  have hlt : t < u.heap.size := by
    obtain ⟨cell, h1, _⟩ := h
    exact (Array.getElem?_eq_some_iff.mp h1).1
  obtain ⟨cell, h1, h2, h3, h4, h5, h6, h7⟩ := (va_T.moved hv h).kept hk
  exact ⟨cell, h1, h2, h3, h4, h5, h6, fun z => h7 (hB t hlt z)⟩
theorem Zc_mv {A B : Nat → Prop} {u U : State} (h : Zc A u) (hv : u.vm.Alike U.vm) (hk : ∀ q : Nat, q < u.heap.size → ¬ A q → U.heap[q]? = u.heap[q]?) (hB : ∀ q : Nat, q < u.heap.size → B q → A q) : Zc B U := by
  have h' : Zc A u := h
  obtain ⟨cf, kf, fi, f, a, cell, h1, h2, h3, h4, h5, h6, h7, h8⟩ := h'
  have hlt : a < u.heap.size := (Array.getElem?_eq_some_iff.mp h5).1
  have hz : va_Z "java/lang/String" "COMPACT_STRINGS" "Z" (.int 1) (fun q => ¬ (q = a)) u u.heap := ⟨cf, kf, fi, f, a, cell, h1, h2, h3, h4, h5, h6, h7, fun z => z rfl⟩
  obtain ⟨cf', kf', fi', f', a', cell', g1, g2, g3, g4, g5, g6, g7, g8⟩ := (va_Z.moved hv hz).kept (H1 := U.heap) (fun q _ hq => by
    have e : q = a := Classical.byContradiction fun z => hq z
    rw [e]; exact hk a hlt h8)
  have e : a' = a := Classical.byContradiction fun z => g8 z
  exact ⟨cf', kf', fi', f', a', cell', g1, g2, g3, g4, g5, g6, g7, fun z => h8 (hB a hlt (by rw [← e]; exact z))⟩
/-- the bytes of the String constants, by their numbers -/
def zT : Nat → List Int32
  | 0 => [100, 97, 104, 101, 119, 108]
  | 1 => [108, 97]
  | 2 => [110, 103, 98, 107, 116]
  | 3 => []
  | 4 => [100, 97, 104, 101, 119, 108]
  | 5 => [108, 97]
  | 6 => [110, 103, 98, 107, 116]
  | _ => []
def zB (k j : Nat) : Int32 := (zT k).getD j 0
def zN (k : Nat) : Nat := (zT k).length
/-- the String constants as they lie in the heap, below place sg 100: what lies from there on may change -/
def Zx (sg : Nat → Nat) (U : State) : Prop := sg 100 ≤ U.heap.size ∧ Zc (fun q => sg 100 ≤ q) U ∧ ∀ k, k < 7 → va_O "java/lang/String" (sg k) (fun q => sg 100 ≤ q) U U.heap ∧ va_OF "java/lang/String" "coder" "B" (.int 0) (sg k) (fun q => sg 100 ≤ q) U U.heap ∧ va_OF "java/lang/String" "value" "[B" (.ref (sg (10 + k))) (sg k) (fun q => sg 100 ≤ q) U U.heap ∧ va_T .byte (sg (10 + k)) (zN k) (fun j => .int (zB k j)) (fun q => sg 100 ≤ q) U U.heap
theorem Zx_mv {sg : Nat → Nat} {u U : State} (h : Zx sg u) (hv : u.vm.Alike U.vm) (hz : u.heap.size ≤ U.heap.size) (hk : ∀ q : Nat, q < u.heap.size → ¬ sg 100 ≤ q → U.heap[q]? = u.heap[q]?) : Zx sg U :=
  ⟨Nat.le_trans h.1 hz, Zc_mv h.2.1 hv hk (fun _ _ z => z), fun k hK => ⟨O_mv (h.2.2 k hK).1 hv hk (fun _ _ z => z), OF_mv (h.2.2 k hK).2.1 hv hk (fun _ _ z => z), OF_mv (h.2.2 k hK).2.2.1 hv hk (fun _ _ z => z), T_mv (h.2.2 k hK).2.2.2 hv hk (fun _ _ z => z)⟩⟩
def Ky (D : va_G) (tys : List (ClassId × FieldType)) (sg : Nat → Nat) (U : State) : Prop := va_K D vwCl tys U ∧ Nx U ∧ Sx sg U ∧ Zx sg U
theorem Zx_S {sg : Nat → Nat} {s : State} {Ad : Nat → Prop} {H : Heap} {locs : List Loc} (h : Zx sg s) (hA : ∀ q, Ad q → sg 100 ≤ q) (hS : va_S (Ax Ad s.heap.size) s.heap H locs) : va_S (fun q => sg 100 ≤ q) s.heap H locs :=
  ⟨hS.1, fun q hq hn => hS.2.1 q hq (fun z => z.elim (fun w => hn (hA q w)) (fun w => hn (Nat.le_trans h.1 w))), fun l hl => (hS.2.2 l hl).elim (fun w => hA _ w) (fun w => Nat.le_trans h.1 w)⟩
theorem Ky_mv {D : va_G} {tys : List (ClassId × FieldType)} {sg : Nat → Nat} {s U : State} {Ad : Nat → Prop} {H : Heap} {locs : List Loc} (hA : ∀ q, Ad q → sg 100 ≤ q) (hS : va_S (Ax Ad s.heap.size) s.heap H locs) (hU : U.heap = H) (hW : s.WarmedH U.vm) (h : Ky D tys sg s) : Ky D tys sg U :=
  ⟨va_K.moved hW.alike h.1, fun q hq => va_Nw.warmM hW (h.2.1 q hq), fun q hq => vk_R.warm hW (h.2.2.1 q hq), Zx_mv h.2.2.2 hW.alike (by rw [hU]; exact hS.1) (fun q h1 h2 => by rw [hU]; exact (Zx_S h.2.2.2 hA hS).2.1 q h1 h2)⟩
theorem Zx_recv {sg : Nat → Nat} {kz : Nat} (hkz : kz < 7) {s : State} {Ad : Nat → Prop} {H : Heap} {locs : List Loc} (h : Zx sg s) (hA : ∀ q, Ad q → sg 100 ≤ q) (hS : va_S (Ax Ad s.heap.size) s.heap H locs) : ∃ cell : Cell, H[sg kz]? = some cell ∧ cell.vm.isStatics = false ∧ s.vm.findClass RJ0 = some cell.cls := by
  obtain ⟨cell, h1, h2, h3, -⟩ := (h.2.2 kz hkz).1.kept (Zx_S h hA hS).2.1
  exact ⟨cell, h1, h2, h3⟩
theorem A0_ge {sg : Nat → Nat} : ∀ q, (fun _ : Nat => False) q → sg 100 ≤ q := fun _ h => h.elim
/-- a side's start and end -/
def Px (D : va_G) (tys : List (ClassId × FieldType)) (sg : Nat → Nat) (V : SX → va_W) (sz : Nat) (u : SX) (U : State) : Prop := U.heap.size = sz ∧ va_P D vwCl (V u) U.heap ∧ Ky D tys sg U
abbrev Ex (D : va_G) (V : SX → va_W) (u : SX) : Unit → State → Prop := fun _ t => va_P D vwCl (V u) t.heap
abbrev Qi (D : va_G) (V : SX → va_W) (Ad : Nat → Prop) (sz : Nat) (r : Int32) (u : SX) := va_Qi (fun r' (_ : Unit) => r' = r) (Ex D V u) (Ax Ad sz)
abbrev Ql (D : va_G) (V : SX → va_W) (Ad : Nat → Prop) (sz : Nat) (r : Int64) (u : SX) := va_Ql (fun r' (_ : Unit) => r' = r) (Ex D V u) (Ax Ad sz)
abbrev Qv (D : va_G) (V : SX → va_W) (Ad : Nat → Prop) (sz : Nat) (_r : Int32) (u : SX) := va_Qv (fun (_ : Unit) => True) (Ex D V u) (Ax Ad sz)
abbrev Qq (ad : Nat → Nat) (D : va_G) (V : SX → va_W) (Ad : Nat → Prop) (sz : Nat) (r : Nat) (u : SX) := va_Qq (fun r' (_ : Unit) => r' = rfOf ad r) (Ex D V u) (Ax Ad sz)
/-- the empty world, for static methods that read and write nothing -/
def V0 : SX → va_W := fun _ => []
def A0 : Nat → Prop := fun _ => False
def u00 : SX := (fun _ => 0, fun _ _ => 0, fun _ => 0, fun _ _ => 0, 0, fun _ _ => none, fun _ => 0, fun _ _ => 0)
theorem P_nil {D : va_G} {u : SX} {H : Heap} : va_P D vwCl (V0 u) H := fun k q h => by simp [V0] at h
theorem Ky_call {D : va_G} {tys : List (ClassId × FieldType)} {sg : Nat → Nat} {U : State} {g : JFrame} {mk : MethodId} {a : Array Value} (qK : Ky D tys sg U) : Ky D tys sg (U.calling g mk a) := ⟨va_K.moved (u := U) (U := U.calling g mk a) (Vm.Alike.refl U.vm) qK.1, fun w hw => va_Nw.same rfl rfl (qK.2.1 w hw), fun w hw => vk_R.same rfl (qK.2.2.1 w hw), Zx_mv (U := U.calling g mk a) qK.2.2.2 (Vm.Alike.refl U.vm) (Nat.le_refl _) (fun _ _ _ => rfl)⟩
theorem Px_blind {D : va_G} {tys : List (ClassId × FieldType)} {sg : Nat → Nat} {V : SX → va_W} {sz : Nat} {u : SX} {As : List Value} : FrameBlind (va_Pc As (Px D tys sg V sz u)) := fun a U g mk q => by
  obtain ⟨q0, q1, qP, qK⟩ := q
  exact ⟨q0, q1, qP, Ky_call qK⟩
section BASE
variable {p : Program} {l : Launch} {e : Env} {R : Room} {s : State} {m : MethodId} {args : Array Value} {below : List Frame} {meth : Method} {c : Code} {H : Heap} {locs : List Loc} {cells slots : Nat} {Q : State → Prop}
variable {own Cn host : String} {cc bytes : ByteArray} {nL maxL index n pc : Nat} {rt ret : Option FieldType} {Ts ws : List Cond} {y : MethodName} {rm : Room} {b : Nat} {As rest st : List Value} {ls : Array Slot}
variable {D : va_G} {tys : List (ClassId × FieldType)} {sg : Nat → Nat} {V : SX → va_W} {Ad : Nat → Prop} {u u' : SX}
theorem Ax_sub {A : Nat → Prop} {sz h : Nat} (hz : sz ≤ h) : ∀ q, Ax A h q → Ax A sz q := fun _ z => z.elim Or.inl (fun w => Or.inr (Nat.le_trans hz w))
/-- a String constant by ldc_w -/
theorem xx_ldcwS (hexec : p.tables.exec = Jvm.exec) (hb : c.code = cc) {tx : String} {q : Nat} (hown : s.vm.findClass own = some m.cls) (hZ : vk_R own index tx q s) (hdg : decode cc pc = .ok (.ldc_w index, 3))
    (k : W p l e R s m args below meth c H locs cells slots Q (F0 m (pc + 3) ls (.ref q :: rest))) : W p l e R s m args below meth c H locs cells slots Q (F0 m pc ls rest) := by
  intro T hT X
  obtain ⟨t, a1, b1⟩ := k T hT X
  refine ⟨t, ?_, b1⟩
  obtain ⟨k1, cf, i, a', hk, hcf, hcp, -, hr, hev'⟩ := Cond.stringRef_spec hown hZ.1
  cases hZ.2.symm.trans hev'
  obtain ⟨k', hk', he⟩ := X.warmed.alike.2.2 _ _ hk
  have hr' : k'.resolved[index]? = some (some (.string q)) := by
    rcases X.warmed.entry hk hk' index with h | ⟨h, -⟩
    · rw [h]; exact hr
    · rw [hr] at h; cases h
  have hdg' : decode c.code pc = .ok (.ldc_w index, 3) := by rw [hb]; exact hdg
  jvm_step X.here [hexec, hdg', ldc_w.wp_string (e := e) (s := T) (f := F0 m pc ls rest) X.here.top hk' (by rw [he]; exact hcf) hcp hr']
  exact a1
/-- returns over a side -/
theorem rt_i {v : Int32} (C : Cx own cc nL (some .int) Ts p s m args meth c) (hP : va_P D vwCl (V u) H) (hS : va_S (Ax Ad s.heap.size) s.heap H locs) (hdg : decode cc pc = .ok (.ireturn, 1)) :
    W p l e R s m args below meth c H locs 0 0 (MQ below (Qi D V Ad s.heap.size v u) args s 0 0 (Ax Ad s.heap.size)) (F0 m pc ls [.int v]) :=
  have hlocks : meth.locks = false := C.2.2.2.2.2.2
  W.iret C.1 C.2.1 C.2.2.2.1 (fun t ht _ => ⟨⟨v, (), rfl, rfl, by show va_P D vwCl (V u) t.heap; rw [ht]; exact hP⟩, hS.F ht⟩) hS.2.2 hdg hlocks
theorem rt_z {v : Int32} (hv : isB v = true) (C : Cx own cc nL (some .boolean) Ts p s m args meth c) (hP : va_P D vwCl (V u) H) (hS : va_S (Ax Ad s.heap.size) s.heap H locs) (hdg : decode cc pc = .ok (.ireturn, 1)) :
    W p l e R s m args below meth c H locs 0 0 (MQ below (Qi D V Ad s.heap.size v u) args s 0 0 (Ax Ad s.heap.size)) (F0 m pc ls [.int v]) :=
  have hlocks : meth.locks = false := C.2.2.2.2.2.2
  W.zret C.1 C.2.1 C.2.2.2.1 (isB_n hv) (fun t ht _ => ⟨⟨v, (), rfl, rfl, by show va_P D vwCl (V u) t.heap; rw [ht]; exact hP⟩, hS.F ht⟩) hS.2.2 hdg hlocks
theorem rt_b {v : Int32} (hv : narrow .byte (.int v) = .int v) (C : Cx own cc nL (some .byte) Ts p s m args meth c) (hP : va_P D vwCl (V u) H) (hS : va_S (Ax Ad s.heap.size) s.heap H locs) (hdg : decode cc pc = .ok (.ireturn, 1)) :
    W p l e R s m args below meth c H locs 0 0 (MQ below (Qi D V Ad s.heap.size v u) args s 0 0 (Ax Ad s.heap.size)) (F0 m pc ls [.int v]) :=
  have hlocks : meth.locks = false := C.2.2.2.2.2.2
  W.zret C.1 C.2.1 C.2.2.2.1 hv (fun t ht _ => ⟨⟨v, (), rfl, rfl, by show va_P D vwCl (V u) t.heap; rw [ht]; exact hP⟩, hS.F ht⟩) hS.2.2 hdg hlocks
theorem rt_l {v : Int64} (C : Cx own cc nL (some .long) Ts p s m args meth c) (hP : va_P D vwCl (V u) H) (hS : va_S (Ax Ad s.heap.size) s.heap H locs) (hdg : decode cc pc = .ok (.lreturn, 1)) :
    W p l e R s m args below meth c H locs 0 0 (MQ below (Ql D V Ad s.heap.size v u) args s 0 0 (Ax Ad s.heap.size)) (F0 m pc ls [.long v]) :=
  have hlocks : meth.locks = false := C.2.2.2.2.2.2
  W.lret C.1 C.2.1 C.2.2.2.1 (fun t ht _ => ⟨⟨v, (), rfl, rfl, by show va_P D vwCl (V u) t.heap; rw [ht]; exact hP⟩, hS.F ht⟩) hS.2.2 hdg hlocks
theorem rt_q {rt : FieldType} {ad : Nat → Nat} {k : Nat} (C : Cx own cc nL (some rt) Ts p s m args meth c) (hrt : (∃ n, rt = .object n) ∨ ∃ t, rt = .array t) (hP : va_P D vwCl (V u) H) (hS : va_S (Ax Ad s.heap.size) s.heap H locs) (hdg : decode cc pc = .ok (.areturn, 1)) :
    W p l e R s m args below meth c H locs 0 0 (MQ below (Qq ad D V Ad s.heap.size k u) args s 0 0 (Ax Ad s.heap.size)) (F0 m pc ls [va_rf (rfOf ad k)]) :=
  have hlocks : meth.locks = false := C.2.2.2.2.2.2
  W.aret C.1 C.2.1 C.2.2.2.1 hrt (by cases k with | zero => exact Or.inl rfl | succ k => exact Or.inr ⟨ad k, rfl⟩) (fun t ht _ => ⟨⟨rfOf ad k, (), rfl, rfl, by show va_P D vwCl (V u) t.heap; rw [ht]; exact hP⟩, hS.F ht⟩) hS.2.2 hdg hlocks
theorem rt_v (C : Cx own cc nL none Ts p s m args meth c) {v : Int32} (hP : va_P D vwCl (V u) H) (hS : va_S (Ax Ad s.heap.size) s.heap H locs) (hdg : decode cc pc = .ok (.return_, 1)) :
    W p l e R s m args below meth c H locs 0 0 (MQ below (Qv D V Ad s.heap.size v u) args s 0 0 (Ax Ad s.heap.size)) (F0 m pc ls []) :=
  have hlocks : meth.locks = false := C.2.2.2.2.2.2
  W.vret C.1 C.2.1 C.2.2.2.1 (fun t ht _ => ⟨⟨(), rfl, trivial, by show va_P D vwCl (V u) t.heap; rw [ht]; exact hP⟩, hS.F ht⟩) hS.2.2 hdg hlocks

theorem cg_i {r : Int32} (hA : ∀ q, Ad q → sg 100 ≤ q) (C : Cx own cc nL rt Ts p s m args meth c) (hK : Ky D tys sg s) (hP : va_P D vwCl (V u) H) (hS : va_S (Ax Ad s.heap.size) s.heap H locs)
    (hM : Met l y ws rm (va_Pc (.ref b :: As) (Px D tys sg V H.size u)) (Qi D V Ad H.size r u') 0 0 (Ax Ad H.size)) (cw : CallW R s args own Cn index y bytes maxL ret ws rm 0 0 n) (q0 ci : Nat) {T : u_T} {N : Nat} {fs : List Value} (hc : vwCl[ci]? = some (Cn, T, N)) (he : (V u)[q0]? = some (b, .inr (ci, fs))) (hn : As.length = n) (hsize : ls.size = nL) (hst : st = As.reverse ++ .ref b :: rest) (hW : (rest.map fun v => v.category).sum ≤ 8)
    (hdg : decode cc pc = .ok (.invokevirtual index, 3)) (hf : cells ≤ R.cells ∧ slots ≤ R.slots)
    (kk : ∀ (H1 : Heap) (locs1 : List Loc), va_P D vwCl (V u') H1 → va_S (Ax Ad s.heap.size) s.heap H1 locs1 → W p l e R s m args below meth c H1 locs1 cells slots Q (F0 m (pc + 3) ls (.int r :: rest))) : W p l e R s m args below meth c H locs cells slots Q (F0 m pc ls st) := by
  subst hst
  refine va_calli (va_runV (As := As) (rest := rest) ⟨C.1, C.2.1, C.2.2.1, C.2.2.2.2.1, C.2.2.2.2.2.1⟩ hM cw ⟨Px_blind, va_recv hK.1 hP hc he, fun U hU hW => ⟨rfl, by rw [hU], by rw [hU]; exact hP, Ky_mv hA hS hU hW hK⟩⟩ rfl hn hsize rfl (lv_room hW) hdg hf) hS (fun q _ h => Ax_sub hS.1 q h) (fun q h => Ax_sub hS.1 q h) (fun r1 w t H1 locs1 ht hvm hr hB hz hk hS1 => ?_)
  cases hr
  exact kk H1 locs1 (by have hB : va_P D vwCl (V u') t.heap := hB; rw [ht] at hB; exact hB) hS1
theorem cg_l {r : Int64} (hA : ∀ q, Ad q → sg 100 ≤ q) (C : Cx own cc nL rt Ts p s m args meth c) (hK : Ky D tys sg s) (hP : va_P D vwCl (V u) H) (hS : va_S (Ax Ad s.heap.size) s.heap H locs)
    (hM : Met l y ws rm (va_Pc (.ref b :: As) (Px D tys sg V H.size u)) (Ql D V Ad H.size r u') 0 0 (Ax Ad H.size)) (cw : CallW R s args own Cn index y bytes maxL ret ws rm 0 0 n) (q0 ci : Nat) {T : u_T} {N : Nat} {fs : List Value} (hc : vwCl[ci]? = some (Cn, T, N)) (he : (V u)[q0]? = some (b, .inr (ci, fs))) (hn : As.length = n) (hsize : ls.size = nL) (hst : st = As.reverse ++ .ref b :: rest) (hW : (rest.map fun v => v.category).sum ≤ 8)
    (hdg : decode cc pc = .ok (.invokevirtual index, 3)) (hf : cells ≤ R.cells ∧ slots ≤ R.slots)
    (kk : ∀ (H1 : Heap) (locs1 : List Loc), va_P D vwCl (V u') H1 → va_S (Ax Ad s.heap.size) s.heap H1 locs1 → W p l e R s m args below meth c H1 locs1 cells slots Q (F0 m (pc + 3) ls (.long r :: rest))) : W p l e R s m args below meth c H locs cells slots Q (F0 m pc ls st) := by
  subst hst
  refine va_calll (va_runV (As := As) (rest := rest) ⟨C.1, C.2.1, C.2.2.1, C.2.2.2.2.1, C.2.2.2.2.2.1⟩ hM cw ⟨Px_blind, va_recv hK.1 hP hc he, fun U hU hW => ⟨rfl, by rw [hU], by rw [hU]; exact hP, Ky_mv hA hS hU hW hK⟩⟩ rfl hn hsize rfl (lv_room hW) hdg hf) hS (fun q _ h => Ax_sub hS.1 q h) (fun q h => Ax_sub hS.1 q h) (fun r1 w t H1 locs1 ht hvm hr hB hz hk hS1 => ?_)
  cases hr
  exact kk H1 locs1 (by have hB : va_P D vwCl (V u') t.heap := hB; rw [ht] at hB; exact hB) hS1
theorem cg_v {r : Int32} (hA : ∀ q, Ad q → sg 100 ≤ q) (C : Cx own cc nL rt Ts p s m args meth c) (hK : Ky D tys sg s) (hP : va_P D vwCl (V u) H) (hS : va_S (Ax Ad s.heap.size) s.heap H locs)
    (hM : Met l y ws rm (va_Pc (.ref b :: As) (Px D tys sg V H.size u)) (Qv D V Ad H.size r u') 0 0 (Ax Ad H.size)) (cw : CallW R s args own Cn index y bytes maxL ret ws rm 0 0 n) (q0 ci : Nat) {T : u_T} {N : Nat} {fs : List Value} (hc : vwCl[ci]? = some (Cn, T, N)) (he : (V u)[q0]? = some (b, .inr (ci, fs))) (hn : As.length = n) (hsize : ls.size = nL) (hst : st = As.reverse ++ .ref b :: rest) (hW : (rest.map fun v => v.category).sum ≤ 8)
    (hdg : decode cc pc = .ok (.invokevirtual index, 3)) (hf : cells ≤ R.cells ∧ slots ≤ R.slots)
    (kk : ∀ (H1 : Heap) (locs1 : List Loc), va_P D vwCl (V u') H1 → va_S (Ax Ad s.heap.size) s.heap H1 locs1 → W p l e R s m args below meth c H1 locs1 cells slots Q (F0 m (pc + 3) ls (rest))) : W p l e R s m args below meth c H locs cells slots Q (F0 m pc ls st) := by
  subst hst
  refine va_callv (va_runV (As := As) (rest := rest) ⟨C.1, C.2.1, C.2.2.1, C.2.2.2.2.1, C.2.2.2.2.2.1⟩ hM cw ⟨Px_blind, va_recv hK.1 hP hc he, fun U hU hW => ⟨rfl, by rw [hU], by rw [hU]; exact hP, Ky_mv hA hS hU hW hK⟩⟩ rfl hn hsize rfl (lv_room hW) hdg hf) hS (fun q _ h => Ax_sub hS.1 q h) (fun q h => Ax_sub hS.1 q h) (fun w t H1 locs1 ht hvm hr hB hz hk hS1 => ?_)
  exact kk H1 locs1 (by have hB : va_P D vwCl (V u') t.heap := hB; rw [ht] at hB; exact hB) hS1
theorem cg_q {r : Nat} {ad : Nat → Nat} (hA : ∀ q, Ad q → sg 100 ≤ q) (C : Cx own cc nL rt Ts p s m args meth c) (hK : Ky D tys sg s) (hP : va_P D vwCl (V u) H) (hS : va_S (Ax Ad s.heap.size) s.heap H locs)
    (hM : Met l y ws rm (va_Pc (.ref b :: As) (Px D tys sg V H.size u)) (Qq ad D V Ad H.size r u') 0 0 (Ax Ad H.size)) (cw : CallW R s args own Cn index y bytes maxL ret ws rm 0 0 n) (q0 ci : Nat) {T : u_T} {N : Nat} {fs : List Value} (hc : vwCl[ci]? = some (Cn, T, N)) (he : (V u)[q0]? = some (b, .inr (ci, fs))) (hn : As.length = n) (hsize : ls.size = nL) (hst : st = As.reverse ++ .ref b :: rest) (hW : (rest.map fun v => v.category).sum ≤ 8)
    (hdg : decode cc pc = .ok (.invokevirtual index, 3)) (hf : cells ≤ R.cells ∧ slots ≤ R.slots)
    (kk : ∀ (H1 : Heap) (locs1 : List Loc), va_P D vwCl (V u') H1 → va_S (Ax Ad s.heap.size) s.heap H1 locs1 → W p l e R s m args below meth c H1 locs1 cells slots Q (F0 m (pc + 3) ls (va_rf (rfOf ad r) :: rest))) : W p l e R s m args below meth c H locs cells slots Q (F0 m pc ls st) := by
  subst hst
  refine va_callq (va_runV (As := As) (rest := rest) ⟨C.1, C.2.1, C.2.2.1, C.2.2.2.2.1, C.2.2.2.2.2.1⟩ hM cw ⟨Px_blind, va_recv hK.1 hP hc he, fun U hU hW => ⟨rfl, by rw [hU], by rw [hU]; exact hP, Ky_mv hA hS hU hW hK⟩⟩ rfl hn hsize rfl (lv_room hW) hdg hf) hS (fun q _ h => Ax_sub hS.1 q h) (fun q h => Ax_sub hS.1 q h) (fun r1 w t H1 locs1 ht hvm hr hB hz hk hS1 => ?_)
  cases hr
  exact kk H1 locs1 (by have hB : va_P D vwCl (V u') t.heap := hB; rw [ht] at hB; exact hB) hS1
theorem ct_i {r : Int32} (hA : ∀ q, Ad q → sg 100 ≤ q) (C : Cx own cc nL rt Ts p s m args meth c) (hK : Ky D tys sg s) (hP : va_P D vwCl (V u) H) (hS : va_S (Ax Ad s.heap.size) s.heap H locs)
    (hM : Met l y ws rm (va_Pc As (Px D tys sg V H.size u)) (Qi D V Ad H.size r u') 0 0 (Ax Ad H.size)) (cw : CallB R s args own index y bytes maxL ret ws rm 0 0 n ∧ (Cond.static y).before args s = true) (hn : As.length = n) (hsize : ls.size = nL) (hst : st = As.reverse ++ rest) (hW : (rest.map fun v => v.category).sum ≤ 8)
    (hdg : decode cc pc = .ok (.invokestatic index, 3)) (hf : cells ≤ R.cells ∧ slots ≤ R.slots)
    (kk : ∀ (H1 : Heap) (locs1 : List Loc), va_P D vwCl (V u') H1 → va_S (Ax Ad s.heap.size) s.heap H1 locs1 → W p l e R s m args below meth c H1 locs1 cells slots Q (F0 m (pc + 3) ls (.int r :: rest))) : W p l e R s m args below meth c H locs cells slots Q (F0 m pc ls st) := by
  subst hst
  refine va_calli (va_runS (As := As) (rest := rest) ⟨C.1, C.2.1, C.2.2.1, C.2.2.2.2.1, C.2.2.2.2.2.1⟩ hM cw ⟨Px_blind, fun U hU hW => ⟨rfl, by rw [hU], by rw [hU]; exact hP, Ky_mv hA hS hU hW hK⟩⟩ rfl hn hsize rfl (lv_room hW) hdg hf) hS (fun q _ h => Ax_sub hS.1 q h) (fun q h => Ax_sub hS.1 q h) (fun r1 w t H1 locs1 ht hvm hr hB hz hk hS1 => ?_)
  cases hr
  exact kk H1 locs1 (by have hB : va_P D vwCl (V u') t.heap := hB; rw [ht] at hB; exact hB) hS1
theorem ct_l {r : Int64} (hA : ∀ q, Ad q → sg 100 ≤ q) (C : Cx own cc nL rt Ts p s m args meth c) (hK : Ky D tys sg s) (hP : va_P D vwCl (V u) H) (hS : va_S (Ax Ad s.heap.size) s.heap H locs)
    (hM : Met l y ws rm (va_Pc As (Px D tys sg V H.size u)) (Ql D V Ad H.size r u') 0 0 (Ax Ad H.size)) (cw : CallB R s args own index y bytes maxL ret ws rm 0 0 n ∧ (Cond.static y).before args s = true) (hn : As.length = n) (hsize : ls.size = nL) (hst : st = As.reverse ++ rest) (hW : (rest.map fun v => v.category).sum ≤ 8)
    (hdg : decode cc pc = .ok (.invokestatic index, 3)) (hf : cells ≤ R.cells ∧ slots ≤ R.slots)
    (kk : ∀ (H1 : Heap) (locs1 : List Loc), va_P D vwCl (V u') H1 → va_S (Ax Ad s.heap.size) s.heap H1 locs1 → W p l e R s m args below meth c H1 locs1 cells slots Q (F0 m (pc + 3) ls (.long r :: rest))) : W p l e R s m args below meth c H locs cells slots Q (F0 m pc ls st) := by
  subst hst
  refine va_calll (va_runS (As := As) (rest := rest) ⟨C.1, C.2.1, C.2.2.1, C.2.2.2.2.1, C.2.2.2.2.2.1⟩ hM cw ⟨Px_blind, fun U hU hW => ⟨rfl, by rw [hU], by rw [hU]; exact hP, Ky_mv hA hS hU hW hK⟩⟩ rfl hn hsize rfl (lv_room hW) hdg hf) hS (fun q _ h => Ax_sub hS.1 q h) (fun q h => Ax_sub hS.1 q h) (fun r1 w t H1 locs1 ht hvm hr hB hz hk hS1 => ?_)
  cases hr
  exact kk H1 locs1 (by have hB : va_P D vwCl (V u') t.heap := hB; rw [ht] at hB; exact hB) hS1
theorem ct_v {r : Int32} (hA : ∀ q, Ad q → sg 100 ≤ q) (C : Cx own cc nL rt Ts p s m args meth c) (hK : Ky D tys sg s) (hP : va_P D vwCl (V u) H) (hS : va_S (Ax Ad s.heap.size) s.heap H locs)
    (hM : Met l y ws rm (va_Pc As (Px D tys sg V H.size u)) (Qv D V Ad H.size r u') 0 0 (Ax Ad H.size)) (cw : CallB R s args own index y bytes maxL ret ws rm 0 0 n ∧ (Cond.static y).before args s = true) (hn : As.length = n) (hsize : ls.size = nL) (hst : st = As.reverse ++ rest) (hW : (rest.map fun v => v.category).sum ≤ 8)
    (hdg : decode cc pc = .ok (.invokestatic index, 3)) (hf : cells ≤ R.cells ∧ slots ≤ R.slots)
    (kk : ∀ (H1 : Heap) (locs1 : List Loc), va_P D vwCl (V u') H1 → va_S (Ax Ad s.heap.size) s.heap H1 locs1 → W p l e R s m args below meth c H1 locs1 cells slots Q (F0 m (pc + 3) ls (rest))) : W p l e R s m args below meth c H locs cells slots Q (F0 m pc ls st) := by
  subst hst
  refine va_callv (va_runS (As := As) (rest := rest) ⟨C.1, C.2.1, C.2.2.1, C.2.2.2.2.1, C.2.2.2.2.2.1⟩ hM cw ⟨Px_blind, fun U hU hW => ⟨rfl, by rw [hU], by rw [hU]; exact hP, Ky_mv hA hS hU hW hK⟩⟩ rfl hn hsize rfl (lv_room hW) hdg hf) hS (fun q _ h => Ax_sub hS.1 q h) (fun q h => Ax_sub hS.1 q h) (fun w t H1 locs1 ht hvm hr hB hz hk hS1 => ?_)
  exact kk H1 locs1 (by have hB : va_P D vwCl (V u') t.heap := hB; rw [ht] at hB; exact hB) hS1
theorem ctn_i {r : Int32} (hA : ∀ q, Ad q → sg 100 ≤ q) (C : Cx own cc nL rt Ts p s m args meth c) (hK : Ky D tys sg s) (hP : va_P D vwCl (V u) H) (hS : va_S (Ax Ad s.heap.size) s.heap H locs)
    (hM : Met l y ws rm (va_Pc As (Px D tys sg V H.size u)) (Qi D V Ad H.size r u') 0 0 (Ax Ad H.size)) (cw : va_CN R s args own index y host bytes maxL ret ws rm 0 0 n ∧ (Cond.static y).before args s = true ∧ True) (hn : As.length = n) (hsize : ls.size = nL) (hst : st = As.reverse ++ rest) (hW : (rest.map fun v => v.category).sum ≤ 8)
    (hdg : decode cc pc = .ok (.invokestatic index, 3)) (hf : cells ≤ R.cells ∧ slots ≤ R.slots)
    (kk : ∀ (H1 : Heap) (locs1 : List Loc), va_P D vwCl (V u') H1 → va_S (Ax Ad s.heap.size) s.heap H1 locs1 → W p l e R s m args below meth c H1 locs1 cells slots Q (F0 m (pc + 3) ls (.int r :: rest))) : W p l e R s m args below meth c H locs cells slots Q (F0 m pc ls st) := by
  subst hst
  refine va_calli (va_runSN (As := As) (rest := rest) ⟨C.1, C.2.1, C.2.2.1, C.2.2.2.2.1, C.2.2.2.2.2.1⟩ hM cw ⟨Px_blind, fun U hU hW => ⟨rfl, by rw [hU], by rw [hU]; exact hP, Ky_mv hA hS hU hW hK⟩⟩ rfl hn hsize rfl (lv_room hW) hdg hf) hS (fun q _ h => Ax_sub hS.1 q h) (fun q h => Ax_sub hS.1 q h) (fun r1 w t H1 locs1 ht hvm hr hB hz hk hS1 => ?_)
  cases hr
  exact kk H1 locs1 (by have hB : va_P D vwCl (V u') t.heap := hB; rw [ht] at hB; exact hB) hS1
theorem ctn_l {r : Int64} (hA : ∀ q, Ad q → sg 100 ≤ q) (C : Cx own cc nL rt Ts p s m args meth c) (hK : Ky D tys sg s) (hP : va_P D vwCl (V u) H) (hS : va_S (Ax Ad s.heap.size) s.heap H locs)
    (hM : Met l y ws rm (va_Pc As (Px D tys sg V H.size u)) (Ql D V Ad H.size r u') 0 0 (Ax Ad H.size)) (cw : va_CN R s args own index y host bytes maxL ret ws rm 0 0 n ∧ (Cond.static y).before args s = true ∧ True) (hn : As.length = n) (hsize : ls.size = nL) (hst : st = As.reverse ++ rest) (hW : (rest.map fun v => v.category).sum ≤ 8)
    (hdg : decode cc pc = .ok (.invokestatic index, 3)) (hf : cells ≤ R.cells ∧ slots ≤ R.slots)
    (kk : ∀ (H1 : Heap) (locs1 : List Loc), va_P D vwCl (V u') H1 → va_S (Ax Ad s.heap.size) s.heap H1 locs1 → W p l e R s m args below meth c H1 locs1 cells slots Q (F0 m (pc + 3) ls (.long r :: rest))) : W p l e R s m args below meth c H locs cells slots Q (F0 m pc ls st) := by
  subst hst
  refine va_calll (va_runSN (As := As) (rest := rest) ⟨C.1, C.2.1, C.2.2.1, C.2.2.2.2.1, C.2.2.2.2.2.1⟩ hM cw ⟨Px_blind, fun U hU hW => ⟨rfl, by rw [hU], by rw [hU]; exact hP, Ky_mv hA hS hU hW hK⟩⟩ rfl hn hsize rfl (lv_room hW) hdg hf) hS (fun q _ h => Ax_sub hS.1 q h) (fun q h => Ax_sub hS.1 q h) (fun r1 w t H1 locs1 ht hvm hr hB hz hk hS1 => ?_)
  cases hr
  exact kk H1 locs1 (by have hB : va_P D vwCl (V u') t.heap := hB; rw [ht] at hB; exact hB) hS1
theorem ctn_v {r : Int32} (hA : ∀ q, Ad q → sg 100 ≤ q) (C : Cx own cc nL rt Ts p s m args meth c) (hK : Ky D tys sg s) (hP : va_P D vwCl (V u) H) (hS : va_S (Ax Ad s.heap.size) s.heap H locs)
    (hM : Met l y ws rm (va_Pc As (Px D tys sg V H.size u)) (Qv D V Ad H.size r u') 0 0 (Ax Ad H.size)) (cw : va_CN R s args own index y host bytes maxL ret ws rm 0 0 n ∧ (Cond.static y).before args s = true ∧ True) (hn : As.length = n) (hsize : ls.size = nL) (hst : st = As.reverse ++ rest) (hW : (rest.map fun v => v.category).sum ≤ 8)
    (hdg : decode cc pc = .ok (.invokestatic index, 3)) (hf : cells ≤ R.cells ∧ slots ≤ R.slots)
    (kk : ∀ (H1 : Heap) (locs1 : List Loc), va_P D vwCl (V u') H1 → va_S (Ax Ad s.heap.size) s.heap H1 locs1 → W p l e R s m args below meth c H1 locs1 cells slots Q (F0 m (pc + 3) ls (rest))) : W p l e R s m args below meth c H locs cells slots Q (F0 m pc ls st) := by
  subst hst
  refine va_callv (va_runSN (As := As) (rest := rest) ⟨C.1, C.2.1, C.2.2.1, C.2.2.2.2.1, C.2.2.2.2.2.1⟩ hM cw ⟨Px_blind, fun U hU hW => ⟨rfl, by rw [hU], by rw [hU]; exact hP, Ky_mv hA hS hU hW hK⟩⟩ rfl hn hsize rfl (lv_room hW) hdg hf) hS (fun q _ h => Ax_sub hS.1 q h) (fun q h => Ax_sub hS.1 q h) (fun w t H1 locs1 ht hvm hr hB hz hk hS1 => ?_)
  exact kk H1 locs1 (by have hB : va_P D vwCl (V u') t.heap := hB; rw [ht] at hB; exact hB) hS1
theorem cs_i {r : Int32} (hA : ∀ q, Ad q → sg 100 ≤ q) (C : Cx own cc nL rt Ts p s m args meth c) (hK : Ky D tys sg s) (hP : va_P D vwCl (V u) H) (hS : va_S (Ax Ad s.heap.size) s.heap H locs)
    (hM : Met l y ws rm (va_Pc As (Px D tys sg V0 H.size u00)) (Qi D V0 A0 H.size r u00) 0 0 (Ax A0 H.size)) (cw : CallB R s args own index y bytes maxL ret ws rm 0 0 n ∧ (Cond.static y).before args s = true) (hn : As.length = n) (hsize : ls.size = nL) (hst : st = As.reverse ++ rest) (hW : (rest.map fun v => v.category).sum ≤ 8)
    (hdg : decode cc pc = .ok (.invokestatic index, 3)) (hf : cells ≤ R.cells ∧ slots ≤ R.slots)
    (kk : ∀ (H1 : Heap) (locs1 : List Loc), va_P D vwCl (V u) H1 → va_S (Ax Ad s.heap.size) s.heap H1 locs1 → W p l e R s m args below meth c H1 locs1 cells slots Q (F0 m (pc + 3) ls (.int r :: rest))) : W p l e R s m args below meth c H locs cells slots Q (F0 m pc ls st) := by
  subst hst
  refine va_calli (va_runS (As := As) (rest := rest) ⟨C.1, C.2.1, C.2.2.1, C.2.2.2.2.1, C.2.2.2.2.2.1⟩ hM cw ⟨Px_blind, fun U hU hW => ⟨rfl, by rw [hU], P_nil, Ky_mv hA hS hU hW hK⟩⟩ rfl hn hsize rfl (lv_room hW) hdg hf) hS (fun q hq h => h.elim (fun z => z.elim) (fun z => absurd hq (Nat.not_lt.mpr z))) (fun q h => h.elim (fun z => z.elim) (fun z => Or.inr (Nat.le_trans hS.1 z))) (fun r1 w t H1 locs1 ht hvm hr hB hz hk hS1 => ?_)
  cases hr
  exact kk H1 locs1 (hP.kept fun k q hq => hk q.1 (hP k q hq).lt (fun z => z.elim (fun z => z) (fun z => absurd (hP k q hq).lt (Nat.not_lt.mpr z)))) hS1
theorem cs_l {r : Int64} (hA : ∀ q, Ad q → sg 100 ≤ q) (C : Cx own cc nL rt Ts p s m args meth c) (hK : Ky D tys sg s) (hP : va_P D vwCl (V u) H) (hS : va_S (Ax Ad s.heap.size) s.heap H locs)
    (hM : Met l y ws rm (va_Pc As (Px D tys sg V0 H.size u00)) (Ql D V0 A0 H.size r u00) 0 0 (Ax A0 H.size)) (cw : CallB R s args own index y bytes maxL ret ws rm 0 0 n ∧ (Cond.static y).before args s = true) (hn : As.length = n) (hsize : ls.size = nL) (hst : st = As.reverse ++ rest) (hW : (rest.map fun v => v.category).sum ≤ 8)
    (hdg : decode cc pc = .ok (.invokestatic index, 3)) (hf : cells ≤ R.cells ∧ slots ≤ R.slots)
    (kk : ∀ (H1 : Heap) (locs1 : List Loc), va_P D vwCl (V u) H1 → va_S (Ax Ad s.heap.size) s.heap H1 locs1 → W p l e R s m args below meth c H1 locs1 cells slots Q (F0 m (pc + 3) ls (.long r :: rest))) : W p l e R s m args below meth c H locs cells slots Q (F0 m pc ls st) := by
  subst hst
  refine va_calll (va_runS (As := As) (rest := rest) ⟨C.1, C.2.1, C.2.2.1, C.2.2.2.2.1, C.2.2.2.2.2.1⟩ hM cw ⟨Px_blind, fun U hU hW => ⟨rfl, by rw [hU], P_nil, Ky_mv hA hS hU hW hK⟩⟩ rfl hn hsize rfl (lv_room hW) hdg hf) hS (fun q hq h => h.elim (fun z => z.elim) (fun z => absurd hq (Nat.not_lt.mpr z))) (fun q h => h.elim (fun z => z.elim) (fun z => Or.inr (Nat.le_trans hS.1 z))) (fun r1 w t H1 locs1 ht hvm hr hB hz hk hS1 => ?_)
  cases hr
  exact kk H1 locs1 (hP.kept fun k q hq => hk q.1 (hP k q hq).lt (fun z => z.elim (fun z => z) (fun z => absurd (hP k q hq).lt (Nat.not_lt.mpr z)))) hS1
theorem csn_i {r : Int32} (hA : ∀ q, Ad q → sg 100 ≤ q) (C : Cx own cc nL rt Ts p s m args meth c) (hK : Ky D tys sg s) (hP : va_P D vwCl (V u) H) (hS : va_S (Ax Ad s.heap.size) s.heap H locs)
    (hM : Met l y ws rm (va_Pc As (Px D tys sg V0 H.size u00)) (Qi D V0 A0 H.size r u00) 0 0 (Ax A0 H.size)) (cw : va_CN R s args own index y host bytes maxL ret ws rm 0 0 n ∧ (Cond.static y).before args s = true ∧ True) (hn : As.length = n) (hsize : ls.size = nL) (hst : st = As.reverse ++ rest) (hW : (rest.map fun v => v.category).sum ≤ 8)
    (hdg : decode cc pc = .ok (.invokestatic index, 3)) (hf : cells ≤ R.cells ∧ slots ≤ R.slots)
    (kk : ∀ (H1 : Heap) (locs1 : List Loc), va_P D vwCl (V u) H1 → va_S (Ax Ad s.heap.size) s.heap H1 locs1 → W p l e R s m args below meth c H1 locs1 cells slots Q (F0 m (pc + 3) ls (.int r :: rest))) : W p l e R s m args below meth c H locs cells slots Q (F0 m pc ls st) := by
  subst hst
  refine va_calli (va_runSN (As := As) (rest := rest) ⟨C.1, C.2.1, C.2.2.1, C.2.2.2.2.1, C.2.2.2.2.2.1⟩ hM cw ⟨Px_blind, fun U hU hW => ⟨rfl, by rw [hU], P_nil, Ky_mv hA hS hU hW hK⟩⟩ rfl hn hsize rfl (lv_room hW) hdg hf) hS (fun q hq h => h.elim (fun z => z.elim) (fun z => absurd hq (Nat.not_lt.mpr z))) (fun q h => h.elim (fun z => z.elim) (fun z => Or.inr (Nat.le_trans hS.1 z))) (fun r1 w t H1 locs1 ht hvm hr hB hz hk hS1 => ?_)
  cases hr
  exact kk H1 locs1 (hP.kept fun k q hq => hk q.1 (hP k q hq).lt (fun z => z.elim (fun z => z) (fun z => absurd (hP k q hq).lt (Nat.not_lt.mpr z)))) hS1
theorem csn_l {r : Int64} (hA : ∀ q, Ad q → sg 100 ≤ q) (C : Cx own cc nL rt Ts p s m args meth c) (hK : Ky D tys sg s) (hP : va_P D vwCl (V u) H) (hS : va_S (Ax Ad s.heap.size) s.heap H locs)
    (hM : Met l y ws rm (va_Pc As (Px D tys sg V0 H.size u00)) (Ql D V0 A0 H.size r u00) 0 0 (Ax A0 H.size)) (cw : va_CN R s args own index y host bytes maxL ret ws rm 0 0 n ∧ (Cond.static y).before args s = true ∧ True) (hn : As.length = n) (hsize : ls.size = nL) (hst : st = As.reverse ++ rest) (hW : (rest.map fun v => v.category).sum ≤ 8)
    (hdg : decode cc pc = .ok (.invokestatic index, 3)) (hf : cells ≤ R.cells ∧ slots ≤ R.slots)
    (kk : ∀ (H1 : Heap) (locs1 : List Loc), va_P D vwCl (V u) H1 → va_S (Ax Ad s.heap.size) s.heap H1 locs1 → W p l e R s m args below meth c H1 locs1 cells slots Q (F0 m (pc + 3) ls (.long r :: rest))) : W p l e R s m args below meth c H locs cells slots Q (F0 m pc ls st) := by
  subst hst
  refine va_calll (va_runSN (As := As) (rest := rest) ⟨C.1, C.2.1, C.2.2.1, C.2.2.2.2.1, C.2.2.2.2.2.1⟩ hM cw ⟨Px_blind, fun U hU hW => ⟨rfl, by rw [hU], P_nil, Ky_mv hA hS hU hW hK⟩⟩ rfl hn hsize rfl (lv_room hW) hdg hf) hS (fun q hq h => h.elim (fun z => z.elim) (fun z => absurd hq (Nat.not_lt.mpr z))) (fun q h => h.elim (fun z => z.elim) (fun z => Or.inr (Nat.le_trans hS.1 z))) (fun r1 w t H1 locs1 ht hvm hr hB hz hk hS1 => ?_)
  cases hr
  exact kk H1 locs1 (hP.kept fun k q hq => hk q.1 (hP k q hq).lt (fun z => z.elim (fun z => z) (fun z => absurd (hP k q hq).lt (Nat.not_lt.mpr z)))) hS1
theorem cz_i {r : Int32} {kz : Nat} (hkz : kz < 7) (hA : ∀ q, Ad q → sg 100 ≤ q) (C : Cx own cc nL rt Ts p s m args meth c) (hK : Ky D tys sg s) (hP : va_P D vwCl (V u) H) (hS : va_S (Ax Ad s.heap.size) s.heap H locs)
    (hM : Met l y ws rm (va_Pc (.ref (sg kz) :: As) (Px D tys sg V0 H.size u00)) (Qi D V0 A0 H.size r u00) 0 0 (Ax A0 H.size)) (cw : CallW R s args own RJ0 index y bytes maxL ret ws rm 0 0 n) (hn : As.length = n) (hsize : ls.size = nL) (hst : st = As.reverse ++ .ref (sg kz) :: rest) (hW : (rest.map fun v => v.category).sum ≤ 8)
    (hdg : decode cc pc = .ok (.invokevirtual index, 3)) (hf : cells ≤ R.cells ∧ slots ≤ R.slots)
    (kk : ∀ (H1 : Heap) (locs1 : List Loc), va_P D vwCl (V u) H1 → va_S (Ax Ad s.heap.size) s.heap H1 locs1 → W p l e R s m args below meth c H1 locs1 cells slots Q (F0 m (pc + 3) ls (.int r :: rest))) : W p l e R s m args below meth c H locs cells slots Q (F0 m pc ls st) := by
  subst hst
  refine va_calli (va_runV (As := As) (rest := rest) ⟨C.1, C.2.1, C.2.2.1, C.2.2.2.2.1, C.2.2.2.2.2.1⟩ hM cw ⟨Px_blind, Zx_recv hkz hK.2.2.2 hA hS, fun U hU hW => ⟨rfl, by rw [hU], P_nil, Ky_mv hA hS hU hW hK⟩⟩ rfl hn hsize rfl (lv_room hW) hdg hf) hS (fun q hq h => h.elim (fun z => z.elim) (fun z => absurd hq (Nat.not_lt.mpr z))) (fun q h => h.elim (fun z => z.elim) (fun z => Or.inr (Nat.le_trans hS.1 z))) (fun r1 w t H1 locs1 ht hvm hr hB hz hk hS1 => ?_)
  cases hr
  exact kk H1 locs1 (hP.kept fun k q hq => hk q.1 (hP k q hq).lt (fun z => z.elim (fun z => z) (fun z => absurd (hP k q hq).lt (Nat.not_lt.mpr z)))) hS1
theorem cz_l {r : Int64} {kz : Nat} (hkz : kz < 7) (hA : ∀ q, Ad q → sg 100 ≤ q) (C : Cx own cc nL rt Ts p s m args meth c) (hK : Ky D tys sg s) (hP : va_P D vwCl (V u) H) (hS : va_S (Ax Ad s.heap.size) s.heap H locs)
    (hM : Met l y ws rm (va_Pc (.ref (sg kz) :: As) (Px D tys sg V0 H.size u00)) (Ql D V0 A0 H.size r u00) 0 0 (Ax A0 H.size)) (cw : CallW R s args own RJ0 index y bytes maxL ret ws rm 0 0 n) (hn : As.length = n) (hsize : ls.size = nL) (hst : st = As.reverse ++ .ref (sg kz) :: rest) (hW : (rest.map fun v => v.category).sum ≤ 8)
    (hdg : decode cc pc = .ok (.invokevirtual index, 3)) (hf : cells ≤ R.cells ∧ slots ≤ R.slots)
    (kk : ∀ (H1 : Heap) (locs1 : List Loc), va_P D vwCl (V u) H1 → va_S (Ax Ad s.heap.size) s.heap H1 locs1 → W p l e R s m args below meth c H1 locs1 cells slots Q (F0 m (pc + 3) ls (.long r :: rest))) : W p l e R s m args below meth c H locs cells slots Q (F0 m pc ls st) := by
  subst hst
  refine va_calll (va_runV (As := As) (rest := rest) ⟨C.1, C.2.1, C.2.2.1, C.2.2.2.2.1, C.2.2.2.2.2.1⟩ hM cw ⟨Px_blind, Zx_recv hkz hK.2.2.2 hA hS, fun U hU hW => ⟨rfl, by rw [hU], P_nil, Ky_mv hA hS hU hW hK⟩⟩ rfl hn hsize rfl (lv_room hW) hdg hf) hS (fun q hq h => h.elim (fun z => z.elim) (fun z => absurd hq (Nat.not_lt.mpr z))) (fun q h => h.elim (fun z => z.elim) (fun z => Or.inr (Nat.le_trans hS.1 z))) (fun r1 w t H1 locs1 ht hvm hr hB hz hk hS1 => ?_)
  cases hr
  exact kk H1 locs1 (hP.kept fun k q hq => hk q.1 (hP k q hq).lt (fun z => z.elim (fun z => z) (fun z => absurd (hP k q hq).lt (Nat.not_lt.mpr z)))) hS1
end BASE
