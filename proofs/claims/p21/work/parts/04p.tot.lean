/-! Totality: what a function that may say nothing is said to answer. -/
def Tot {α : Type} (o : Option α) (Q : α → Prop) : Prop := ∃ a, o = some a ∧ Q a
theorem Tot_some {α : Type} {a : α} {Q : α → Prop} (h : Q a) : Tot (some a) Q := ⟨a, rfl, h⟩
theorem Tot_gd {α : Type} {b : Bool} {k : Option α} {Q : α → Prop} (hb : b = true) (h : Tot k Q) : Tot (gd b k) Q := by subst hb; exact h
theorem Tot_lt {α β : Type} {x : α} {k : α → Option β} {Q : β → Prop} (h : ∀ y, y = x → Tot (k y) Q) : Tot (lt x k) Q := h x rfl
theorem Tot_ite {α : Type} {c : Prop} {d : Decidable c} {a b : Option α} {Q : α → Prop} (h1 : c → Tot a Q) (h2 : ¬ c → Tot b Q) : Tot (@ite _ c d a b) Q := by
  by_cases h : c
  · rw [if_pos h]; exact h1 h
  · rw [if_neg h]; exact h2 h
theorem Tot_bind {α β : Type} {x : Option α} {f : α → Option β} {P : α → Prop} {Q : β → Prop} (h : Tot x P) (h2 : ∀ a, P a → Tot (f a) Q) : Tot (x.bind f) Q := by
  obtain ⟨a, e, p⟩ := h
  rw [e]
  exact h2 a p
theorem Tot_bindE {α β : Type} {x : Option α} {f : α → Option β} {P : α → Prop} {Q : β → Prop} (h : Tot x P) (h2 : ∀ a, x = some a → P a → Tot (f a) Q) : Tot (x.bind f) Q := by
  obtain ⟨a, e, p⟩ := h
  rw [e]
  exact h2 a e p
theorem Tot_tcs {α : Type} {o : Option Nat} {n : Nat} {a : Option α} {f : Nat → Option α} {Q : α → Prop} (h0 : o = none → Tot a Q) (h1 : ∀ k, o = some k → k < n ∧ Tot (f k) Q) : Tot (tcs o n a f) Q := by
  cases o with
  | none => exact h0 rfl
  | some k =>
    show Tot (bif decide (k < n) then f k else none) Q
    rw [decide_eq_true (h1 k rfl).1]
    exact (h1 k rfl).2
theorem Tot_w {α : Type} {o : Option α} {P Q : α → Prop} (h : Tot o P) (hw : ∀ a, P a → Q a) : Tot o Q := by
  obtain ⟨a, e, p⟩ := h
  exact ⟨a, e, hw a p⟩
theorem bm_t {x : Int} (h1 : -2147483648 ≤ x) (h2 : x ≤ 2147483647) : x.bmod (2 ^ 32) = x := Int.bmod_eq_of_le (by show -(4294967296 / 2) ≤ x; omega) (by show x < (4294967296 + 1) / 2; omega)
theorem add_t {x y : Int32} (h1 : -2147483648 ≤ x.toInt + y.toInt) (h2 : x.toInt + y.toInt ≤ 2147483647) : (x + y).toInt = x.toInt + y.toInt := by rw [Int32.toInt_add]; exact bm_t h1 h2
theorem sub_t {x y : Int32} (h1 : -2147483648 ≤ x.toInt - y.toInt) (h2 : x.toInt - y.toInt ≤ 2147483647) : (x - y).toInt = x.toInt - y.toInt := by rw [Int32.toInt_sub]; exact bm_t h1 h2
theorem addc_t {x c : Int32} {n : Int} (hc : c.toInt = n) (h1 : -2147483648 ≤ x.toInt + n) (h2 : x.toInt + n ≤ 2147483647) : (x + c).toInt = x.toInt + n := by rw [Int32.toInt_add, hc]; exact bm_t h1 h2
theorem cadd_t {x c : Int32} {n : Int} (hc : c.toInt = n) (h1 : -2147483648 ≤ n + x.toInt) (h2 : n + x.toInt ≤ 2147483647) : (c + x).toInt = n + x.toInt := by rw [Int32.toInt_add, hc]; exact bm_t h1 h2
theorem subc_t {x c : Int32} {n : Int} (hc : c.toInt = n) (h1 : -2147483648 ≤ x.toInt - n) (h2 : x.toInt - n ≤ 2147483647) : (x - c).toInt = x.toInt - n := by rw [Int32.toInt_sub, hc]; exact bm_t h1 h2
theorem csub_t {x c : Int32} {n : Int} (hc : c.toInt = n) (h1 : -2147483648 ≤ n - x.toInt) (h2 : n - x.toInt ≤ 2147483647) : (c - x).toInt = n - x.toInt := by rw [Int32.toInt_sub, hc]; exact bm_t h1 h2
theorem mulc_t {x c : Int32} {n : Int} (hc : c.toInt = n) (h1 : -2147483648 ≤ x.toInt * n) (h2 : x.toInt * n ≤ 2147483647) : (x * c).toInt = x.toInt * n := by rw [Int32.toInt_mul, hc]; exact bm_t h1 h2
theorem cmul_t {x c : Int32} {n : Int} (hc : c.toInt = n) (h1 : -2147483648 ≤ n * x.toInt) (h2 : n * x.toInt ≤ 2147483647) : (c * x).toInt = n * x.toInt := by rw [Int32.toInt_mul, hc]; exact bm_t h1 h2
theorem divc_t {x c : Int32} {n : Int} (hc : c.toInt = n) (h1 : 0 ≤ x.toInt) (hn : 0 < n) : (x / c).toInt = x.toInt / n := by
  have hb : x.toInt ≤ 2147483647 := Int32.toInt_le x
  rw [Int32.toInt_div, hc, Int.tdiv_eq_ediv_of_nonneg h1]
  have a1 : 0 ≤ x.toInt / n := Int.ediv_nonneg h1 (Int.le_of_lt hn)
  have a2 : x.toInt / n ≤ x.toInt := Int.ediv_le_self n h1
  exact bm_t (by omega) (by omega)
theorem ltI {x y : Int32} (h : x < y) : x.toInt < y.toInt := Int32.lt_iff_toInt_lt.mp h
theorem leI {x y : Int32} (h : x ≤ y) : x.toInt ≤ y.toInt := Int32.le_iff_toInt_le.mp h
theorem nltI {x y : Int32} (h : ¬ x < y) : ¬ x.toInt < y.toInt := fun z => h (Int32.lt_iff_toInt_lt.mpr z)
theorem nleI {x y : Int32} (h : ¬ x ≤ y) : ¬ x.toInt ≤ y.toInt := fun z => h (Int32.le_iff_toInt_le.mpr z)
theorem eqI {x y : Int32} (h : x = y) : x.toInt = y.toInt := congrArg Int32.toInt h
theorem neI {x y : Int32} (h : ¬ x = y) : ¬ x.toInt = y.toInt := fun z => h (Int32.toInt.inj z)
theorem inb_t {i : Int32} {n : Nat} (h1 : 0 ≤ i.toInt) (h2 : i.toInt < (n : Int)) : inb i n = true := by
  have a1 : ¬ i < 0 := fun z => by
    have := ltI z
    have : (0 : Int32).toInt = 0 := by decide
    omega
  have a2 : ¬ n ≤ i.toNatClampNeg := fun z => by
    have z : n ≤ i.toInt.toNat := z
    omega
  simp [inb, a1, a2]
theorem isB_t {v : Int32} (h1 : 0 ≤ v.toInt) (h2 : v.toInt ≤ 1) : isB v = true := by
  have e0 : (0 : Int32).toInt = 0 := by decide
  have e1 : (1 : Int32).toInt = 1 := by decide
  have : v.toInt = 0 ∨ v.toInt = 1 := by omega
  rcases this with h | h
  · rw [Int32.toInt.inj (h.trans e0.symm)]; decide
  · rw [Int32.toInt.inj (h.trans e1.symm)]; decide
theorem nz_t {v : Int32} (h : v.toInt ≠ 0) : nz v = true := by
  have : ¬ v = 0 := fun z => h (by rw [z]; decide)
  simp [nz, this]
theorem nzL_t {v : Int32} (h : v.toInt ≠ 0) : nzL v.toInt64 = true := by
  have : ¬ v.toInt64 = 0 := fun z => h (by rw [← Int32.toInt_toInt64 v, z]; decide)
  simp [nzL, this]
theorem cpok_t {sp dp k : Int32} {n0 n1 : Nat} (h1 : 0 ≤ sp.toInt) (h2 : 0 ≤ dp.toInt) (h3 : 0 ≤ k.toInt) (h4 : sp.toInt + k.toInt ≤ (n0 : Int)) (h5 : dp.toInt + k.toInt ≤ (n1 : Int)) : cpok sp dp k n0 n1 = true := by
  have key : ∀ z : Int32, 0 ≤ z.toInt → ¬ z < 0 := fun z hz q => by
    have := ltI q
    have : (0 : Int32).toInt = 0 := by decide
    omega
  have a4 : sp.toNatClampNeg + k.toNatClampNeg ≤ n0 := by show sp.toInt.toNat + k.toInt.toNat ≤ n0; omega
  have a5 : dp.toNatClampNeg + k.toNatClampNeg ≤ n1 := by show dp.toInt.toNat + k.toInt.toNat ≤ n1; omega
  simp [cpok, key sp h1, key dp h2, key k h3, a4, a5]
theorem ite_lt_t {x y p q : Int32} : (x.toInt < y.toInt ∧ (if x < y then p else q).toInt = p.toInt) ∨ (¬ x.toInt < y.toInt ∧ (if x < y then p else q).toInt = q.toInt) := by
  by_cases h : x < y
  · rw [if_pos h]; exact Or.inl ⟨ltI h, rfl⟩
  · rw [if_neg h]; exact Or.inr ⟨nltI h, rfl⟩
theorem ite_le_t {x y p q : Int32} : (x.toInt ≤ y.toInt ∧ (if x ≤ y then p else q).toInt = p.toInt) ∨ (¬ x.toInt ≤ y.toInt ∧ (if x ≤ y then p else q).toInt = q.toInt) := by
  by_cases h : x ≤ y
  · rw [if_pos h]; exact Or.inl ⟨leI h, rfl⟩
  · rw [if_neg h]; exact Or.inr ⟨nleI h, rfl⟩
theorem ite_eq_t {x y p q : Int32} : (x.toInt = y.toInt ∧ (if x = y then p else q).toInt = p.toInt) ∨ (¬ x.toInt = y.toInt ∧ (if x = y then p else q).toInt = q.toInt) := by
  by_cases h : x = y
  · rw [if_pos h]; exact Or.inl ⟨eqI h, rfl⟩
  · rw [if_neg h]; exact Or.inr ⟨neI h, rfl⟩
theorem andn_t (x m : Int32) (n : Nat) (hm : m.toBitVec.toNat = n) (hn : n < 2147483648) : 0 ≤ (x &&& m).toInt ∧ (x &&& m).toInt ≤ n := by
  have e : (x &&& m).toBitVec = x.toBitVec &&& m.toBitVec := rfl
  have hle : (x &&& m).toBitVec.toNat ≤ n := by rw [e, BitVec.toNat_and, hm]; exact Nat.and_le_right
  have hi : (x &&& m).toInt = ((x &&& m).toBitVec.toNat : Int) := by
    show (x &&& m).toBitVec.toInt = _
    rw [BitVec.toInt_eq_toNat_cond, if_pos (by omega)]
  omega
theorem and255_t (x : Int32) : 0 ≤ (x &&& 255).toInt ∧ (x &&& 255).toInt ≤ 255 := andn_t x 255 255 (by decide) (by decide)
theorem and31_t (x : Int32) : 0 ≤ (x &&& 31).toInt ∧ (x &&& 31).toInt ≤ 31 := andn_t x 31 31 (by decide) (by decide)
theorem and1_t (x : Int32) : 0 ≤ (x &&& 1).toInt ∧ (x &&& 1).toInt ≤ 1 := andn_t x 1 1 (by decide) (by decide)
theorem shl1_t {p : Int32} (h1 : 0 ≤ p.toInt) (h2 : p.toInt ≤ 12) : 1 ≤ (1 <<< (p &&& 31) : Int32).toInt ∧ (1 <<< (p &&& 31) : Int32).toInt ≤ 4096 := by
  have key : ∀ n : Fin 13, 1 ≤ (1 <<< (Int32.ofInt (n.val : Int) &&& 31) : Int32).toInt ∧ (1 <<< (Int32.ofInt (n.val : Int) &&& 31) : Int32).toInt ≤ 4096 := by decide
  have e : p = Int32.ofInt ((p.toInt.toNat : Nat) : Int) := by
    rw [Int.toNat_of_nonneg h1, Int32.ofInt_toInt]
  rw [e]
  exact key ⟨p.toInt.toNat, by omega⟩
theorem narz_t (x : Int32) : 0 ≤ (vp_nar .boolean x).toInt ∧ (vp_nar .boolean x).toInt ≤ 1 := and1_t x
theorem i8_t (x : Int32) : -128 ≤ (x.toInt8.toInt32).toInt ∧ (x.toInt8.toInt32).toInt ≤ 127 := by
  rw [Int8.toInt_toInt32]
  exact ⟨Int8.le_toInt _, Int8.toInt_le _⟩
theorem narb_t (x : Int32) : -128 ≤ (vp_nar .byte x).toInt ∧ (vp_nar .byte x).toInt ≤ 127 := by
  show -128 ≤ x.toInt8.toInt32.toInt ∧ x.toInt8.toInt32.toInt ≤ 127
  rw [Int8.toInt_toInt32]
  exact ⟨Int8.le_toInt _, Int8.toInt_le _⟩
theorem c16_t (x : Int32) : 0 ≤ ((x.toUInt32 % 65536).toInt32).toInt ∧ ((x.toUInt32 % 65536).toInt32).toInt ≤ 65535 := by
  have h : (x.toUInt32 % 65536).toNat < 65536 := by
    rw [UInt32.toNat_mod]
    exact Nat.mod_lt _ (by decide)
  have e : ((x.toUInt32 % 65536).toInt32).toInt = ((x.toUInt32 % 65536).toNat : Int) := by
    show (x.toUInt32 % 65536).toBitVec.toInt = _
    rw [BitVec.toInt_eq_toNat_cond]
    rw [if_pos (by show 2 * (x.toUInt32 % 65536).toNat < 2 ^ 32; omega)]
    rfl
  omega
/-- what a method changes: int fields, int rows, long fields, long rows -/
abbrev MD : Type := List Nat × List Nat × List Nat × List Nat
def mdS (a b : MD) : Bool := a.1.all (fun k => b.1.contains k) && a.2.1.all (fun k => b.2.1.contains k) && a.2.2.1.all (fun k => b.2.2.1.contains k) && a.2.2.2.all (fun k => b.2.2.2.contains k)
def FrM (md : MD) (u0 u : SX) : Prop := (∀ k, md.1.contains k = false → u.1 k = u0.1 k) ∧ (∀ k, md.2.1.contains k = false → u.2.1 k = u0.2.1 k) ∧ (∀ k, md.2.2.1.contains k = false → u.2.2.1 k = u0.2.2.1 k) ∧ (∀ k, md.2.2.2.contains k = false → u.2.2.2.1 k = u0.2.2.2.1 k) ∧ u.2.2.2.2 = u0.2.2.2.2
theorem all_no {a b : List Nat} (h : a.all (fun k => b.contains k) = true) {k : Nat} (hk : b.contains k = false) : a.contains k = false := by
  cases z : a.contains k with
  | false => rfl
  | true =>
    have : k ∈ a := List.contains_iff_mem.mp z
    have := List.all_eq_true.mp h k this
    rw [hk] at this
    exact absurd this (by decide)
theorem FrM_rf {md : MD} {u : SX} : FrM md u u := ⟨fun _ _ => rfl, fun _ _ => rfl, fun _ _ => rfl, fun _ _ => rfl, rfl⟩
theorem FrM_tr {md mc : MD} {u0 u u1 : SX} (h1 : FrM md u0 u) (h2 : FrM mc u u1) (hs : mdS mc md = true) : FrM md u0 u1 := by
  simp only [mdS, Bool.and_eq_true] at hs
  exact ⟨fun k hk => (h2.1 k (all_no hs.1.1.1 hk)).trans (h1.1 k hk), fun k hk => (h2.2.1 k (all_no hs.1.1.2 hk)).trans (h1.2.1 k hk), fun k hk => (h2.2.2.1 k (all_no hs.1.2 hk)).trans (h1.2.2.1 k hk), fun k hk => (h2.2.2.2.1 k (all_no hs.2 hk)).trans (h1.2.2.2.1 k hk), h2.2.2.2.2.trans h1.2.2.2.2⟩
theorem beq_no {l : List Nat} {j k : Nat} (hm : l.contains k = true) (hj : l.contains j = false) : Nat.beq j k = false := by
  cases z : Nat.beq j k with
  | false => rfl
  | true => rw [Nat.eq_of_beq_eq_true z, hm] at hj; exact absurd hj (by decide)
theorem FrM_sI {md : MD} {u0 u : SX} {k : Nat} {v : Int32} (h : FrM md u0 u) (hm : md.1.contains k = true) : FrM md u0 (sI u k v) :=
  ⟨fun j hj => by show (bif Nat.beq j k then v else u.1 j) = _; rw [beq_no hm hj]; exact h.1 j hj, h.2.1, h.2.2.1, h.2.2.2.1, h.2.2.2.2⟩
theorem FrM_sA {md : MD} {u0 u : SX} {k : Nat} {f : Nat → Int32} (h : FrM md u0 u) (hm : md.2.1.contains k = true) : FrM md u0 (sA u k f) :=
  ⟨h.1, fun j hj => by show (bif Nat.beq j k then f else u.2.1 j) = _; rw [beq_no hm hj]; exact h.2.1 j hj, h.2.2.1, h.2.2.2.1, h.2.2.2.2⟩
theorem FrM_sJ {md : MD} {u0 u : SX} {k : Nat} {v : Int64} (h : FrM md u0 u) (hm : md.2.2.1.contains k = true) : FrM md u0 (sJ u k v) :=
  ⟨h.1, h.2.1, fun j hj => by show (bif Nat.beq j k then v else u.2.2.1 j) = _; rw [beq_no hm hj]; exact h.2.2.1 j hj, h.2.2.2.1, h.2.2.2.2⟩
theorem FrM_sB {md : MD} {u0 u : SX} {k : Nat} {f : Nat → Int64} (h : FrM md u0 u) (hm : md.2.2.2.contains k = true) : FrM md u0 (sB u k f) :=
  ⟨h.1, h.2.1, h.2.2.1, fun j hj => by show (bif Nat.beq j k then f else u.2.2.2.1 j) = _; rw [beq_no hm hj]; exact h.2.2.2.1 j hj, h.2.2.2.2⟩
/-- a word of code: a letter's number is no negative one -/
def okC (c : Int32) : Prop := (c &&& 255).toInt = 121 → 0 ≤ (c >>> (8 &&& 31)).toInt
def TXok (t : TX) : Prop := (∀ c i k, t.2.1 c i = some k → k < t.1) ∧ (∀ k, t.2.2.1 k ≤ 121) ∧ ∀ k i, okC (t.2.2.2 k i)
