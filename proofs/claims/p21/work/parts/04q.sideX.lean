/-! Side X: within what bounds its numbers lie -/
def loX : Nat → Int
  | 0 => 0
  | 1 => 0
  | 2 => 0
  | 3 => 0
  | 4 => 0
  | 5 => 0
  | 6 => 0
  | 7 => 0
  | 8 => 0
  | 9 => 0
  | 10 => 0
  | 11 => 0
  | 12 => 0
  | 13 => 0
  | 14 => 0
  | 15 => 0
  | 16 => 0
  | 19 => -1
  | 20 => -1
  | 22 => 0
  | 24 => 0
  | 25 => -1
  | 26 => 0
  | 27 => 0
  | 29 => 0
  | 32 => 0
  | 34 => -50
  | 35 => 0
  | 36 => 0
  | 37 => 0
  | 38 => 0
  | 39 => 0
  | 40 => -1
  | 41 => -1
  | 42 => -1
  | 43 => -1
  | _ => -2147483648
def hiX : Nat → Int
  | 0 => 120
  | 1 => 120
  | 2 => 121
  | 3 => 3
  | 4 => 120
  | 5 => 12
  | 6 => 6
  | 7 => 6
  | 8 => 12
  | 9 => 20
  | 10 => 12
  | 11 => 30
  | 12 => 30
  | 13 => 80
  | 14 => 80
  | 15 => 12
  | 16 => 30
  | 19 => 60
  | 20 => 60
  | 22 => 40
  | 24 => 401
  | 25 => 400
  | 26 => 80
  | 27 => 79
  | 29 => 10
  | 32 => 79
  | 34 => 500
  | 35 => 8
  | 36 => 40
  | 37 => 20
  | 38 => 60
  | 39 => 121
  | 40 => 7
  | 41 => 7
  | 42 => 120
  | 43 => 120
  | _ => 2147483647
def rlX : Nat → Int
  | 13 => 0
  | 16 => 0
  | 19 => 0
  | 24 => 0
  | 25 => 0
  | 26 => 0
  | 27 => 0
  | 28 => 0
  | 29 => 0
  | 30 => 0
  | 31 => 0
  | 32 => 0
  | 33 => 0
  | 34 => 0
  | 35 => 0
  | 36 => 0
  | 37 => 0
  | 40 => -100000
  | 48 => 0
  | 49 => 0
  | 50 => 0
  | 51 => 0
  | 52 => -1
  | 53 => 0
  | 54 => 0
  | 55 => 0
  | 56 => 0
  | 57 => 0
  | 58 => 0
  | 59 => 0
  | 60 => 0
  | 61 => 0
  | 62 => 0
  | 63 => -400
  | 64 => -400
  | 65 => 0
  | 66 => -400
  | 67 => -400
  | _ => -2147483648
def rhX : Nat → Int
  | 13 => 255
  | 16 => 40
  | 19 => 60
  | 24 => 11
  | 25 => 120
  | 26 => 400
  | 27 => 400
  | 28 => 400
  | 29 => 400
  | 30 => 400
  | 31 => 11
  | 32 => 400
  | 33 => 400
  | 34 => 120
  | 35 => 1
  | 36 => 40
  | 37 => 120
  | 40 => 100000
  | 48 => 11
  | 49 => 400
  | 50 => 400
  | 51 => 50
  | 52 => 120
  | 53 => 400
  | 54 => 400
  | 55 => 400
  | 56 => 400
  | 57 => 400
  | 58 => 400
  | 59 => 1
  | 60 => 7
  | 61 => 7
  | 62 => 120
  | 63 => 400
  | 64 => 400
  | 65 => 120
  | 66 => 400
  | 67 => 400
  | _ => 2147483647
def cPX (_ : Nat) (c : Int32) : Prop := okC c
def IX (u : SX) : Prop := (∀ k, loX k ≤ (u.1 k).toInt ∧ (u.1 k).toInt ≤ hiX k) ∧ (∀ k i, rlX k ≤ (u.2.1 k i).toInt ∧ (u.2.1 k i).toInt ≤ rhX k) ∧ (∀ i, cPX i (u.2.1 14 i)) ∧ TXok u.2.2.2.2
def StX (md : MD) (u0 u : SX) : Prop := IX u ∧ FrM md u0 u
theorem StX_rf {md : MD} {u : SX} (h : IX u) : StX md u u := ⟨h, FrM_rf⟩
theorem StX_tr {md mc : MD} {u0 u u1 : SX} (h1 : StX md u0 u) (h2 : StX mc u u1) (hs : mdS mc md = true) : StX md u0 u1 := ⟨h2.1, FrM_tr h1.2 h2.2 hs⟩
theorem StX_sI {md : MD} {u0 u : SX} {k : Nat} {v : Int32} (h : StX md u0 u) (hm : md.1.contains k = true) (h1 : loX k ≤ v.toInt) (h2 : v.toInt ≤ hiX k) : StX md u0 (sI u k v) :=
  ⟨⟨fun j => by
    show loX j ≤ (bif Nat.beq j k then v else u.1 j).toInt ∧ (bif Nat.beq j k then v else u.1 j).toInt ≤ hiX j
    cases z : Nat.beq j k with
    | false => exact h.1.1 j
    | true => rw [Nat.eq_of_beq_eq_true z]; exact ⟨h1, h2⟩, h.1.2.1, h.1.2.2⟩, FrM_sI h.2 hm⟩
theorem StX_sIf {md : MD} {u0 u : SX} {k : Nat} {v : Int32} (h : StX md u0 u) (hm : md.1.contains k = true) (h1 : loX k = -2147483648) (h2 : hiX k = 2147483647) : StX md u0 (sI u k v) :=
  StX_sI h hm (by rw [h1]; exact Int32.le_toInt v) (by rw [h2]; exact Int32.toInt_le v)
theorem StX_row {md : MD} {u0 u : SX} {k : Nat} {f : Nat → Int32} (h : StX md u0 u) (hm : md.2.1.contains k = true) (h1 : ∀ i, rlX k ≤ (f i).toInt ∧ (f i).toInt ≤ rhX k) (hc : Nat.beq 14 k = true → ∀ i, cPX i (f i)) : StX md u0 (sA u k f) :=
  ⟨⟨h.1.1, fun j => by
    show ∀ i, rlX j ≤ ((bif Nat.beq j k then f else u.2.1 j) i).toInt ∧ ((bif Nat.beq j k then f else u.2.1 j) i).toInt ≤ rhX j
    cases z : Nat.beq j k with
    | false => exact h.1.2.1 j
    | true => rw [Nat.eq_of_beq_eq_true z]; exact h1, by
    show ∀ i, cPX i ((bif Nat.beq 14 k then f else u.2.1 14) i)
    cases z : Nat.beq 14 k with
    | false => exact h.1.2.2.1
    | true => exact hc z, h.1.2.2.2⟩, FrM_sA h.2 hm⟩
theorem StX_sA {md : MD} {u0 u : SX} {k i : Nat} {x : Int32} (h : StX md u0 u) (hm : md.2.1.contains k = true) (h1 : rlX k ≤ x.toInt) (h2 : x.toInt ≤ rhX k) (hn : Nat.beq 14 k = false) : StX md u0 (sA u k (upd (u.2.1 k) i x)) :=
  StX_row h hm (fun j => by
    show rlX k ≤ (if j = i then x else u.2.1 k j).toInt ∧ (if j = i then x else u.2.1 k j).toInt ≤ rhX k
    by_cases z : j = i
    · rw [if_pos z]; exact ⟨h1, h2⟩
    · rw [if_neg z]; exact h.1.2.1 k j) (fun z => absurd z (by rw [hn]; decide))
theorem StX_sAc {md : MD} {u0 u : SX} {i : Nat} {x : Int32} (h : StX md u0 u) (hm : md.2.1.contains 14 = true) (hc : cPX i x) (h1 : rlX 14 ≤ x.toInt) (h2 : x.toInt ≤ rhX 14) : StX md u0 (sA u 14 (upd (u.2.1 14) i x)) :=
  StX_row h hm (fun j => by
    show rlX 14 ≤ (if j = i then x else u.2.1 14 j).toInt ∧ (if j = i then x else u.2.1 14 j).toInt ≤ rhX 14
    by_cases z : j = i
    · rw [if_pos z]; exact ⟨h1, h2⟩
    · rw [if_neg z]; exact h.1.2.1 14 j) (fun _ j => by
    show cPX j (if j = i then x else u.2.1 14 j)
    by_cases z : j = i
    · rw [if_pos z, z]; exact hc
    · rw [if_neg z]; exact h.1.2.2.1 j)
theorem StX_sAf {md : MD} {u0 u : SX} {k i : Nat} {x : Int32} (h : StX md u0 u) (hm : md.2.1.contains k = true) (h1 : rlX k = -2147483648) (h2 : rhX k = 2147483647) (hn : Nat.beq 14 k = false) : StX md u0 (sA u k (upd (u.2.1 k) i x)) :=
  StX_sA h hm (by rw [h1]; exact Int32.le_toInt x) (by rw [h2]; exact Int32.toInt_le x) hn
theorem StX_cpy {md : MD} {u0 u : SX} {k j a b n : Nat} (h : StX md u0 u) (hm : md.2.1.contains k = true) (h1 : rlX k ≤ rlX j) (h2 : rhX j ≤ rhX k) (hn : Nat.beq 14 k = false) : StX md u0 (sA u k (va_cpy (u.2.1 j) (u.2.1 k) a b n)) :=
  StX_row h hm (fun i => by
    show rlX k ≤ (if b ≤ i ∧ i < b + n then u.2.1 j (a + (i - b)) else u.2.1 k i).toInt ∧ (if b ≤ i ∧ i < b + n then u.2.1 j (a + (i - b)) else u.2.1 k i).toInt ≤ rhX k
    by_cases z : b ≤ i ∧ i < b + n
    · rw [if_pos z]; exact ⟨Int.le_trans h1 (h.1.2.1 j _).1, Int.le_trans (h.1.2.1 j _).2 h2⟩
    · rw [if_neg z]; exact h.1.2.1 k i) (fun z => absurd z (by rw [hn]; decide))
theorem StX_sJ {md : MD} {u0 u : SX} {k : Nat} {v : Int64} (h : StX md u0 u) (hm : md.2.2.1.contains k = true) : StX md u0 (sJ u k v) := ⟨h.1, FrM_sJ h.2 hm⟩
theorem StX_sB {md : MD} {u0 u : SX} {k : Nat} {f : Nat → Int64} (h : StX md u0 u) (hm : md.2.2.2.contains k = true) : StX md u0 (sB u k f) := ⟨h.1, FrM_sB h.2 hm⟩
theorem li_m8 : ((-8) : Int32).toInt = -8 := by decide
theorem li_0 : (0 : Int32).toInt = 0 := by decide
theorem li_1 : (1 : Int32).toInt = 1 := by decide
theorem nzL_cmp {x : Int64} (h : ¬ lg_cmp x 0 = 0) : nzL x = true := by
  have : ¬ x = 0 := fun z => h (by rw [z]; decide)
  simp [nzL, this]
theorem low8 (a b : Int32) (h1 : 0 ≤ b.toInt) (h2 : b.toInt ≤ 255) : ((a <<< (8 &&& 31)) ||| b) &&& 255 = b := by
  have hb : b.toBitVec.toNat ≤ 255 ∧ b.toInt = (b.toBitVec.toNat : Int) := by
    have e : b.toInt = b.toBitVec.toInt := rfl
    rw [BitVec.toInt_eq_toNat_cond] at e
    have := b.toBitVec.isLt
    split at e <;> omega
  apply Int32.toBitVec.inj
  apply BitVec.eq_of_toNat_eq
  have e : (((a <<< (8 &&& 31)) ||| b) &&& 255).toBitVec = ((a.toBitVec <<< (8 : Nat)) ||| b.toBitVec) &&& 255#32 := rfl
  rw [e, BitVec.toNat_and, BitVec.toNat_or, BitVec.toNat_shiftLeft]
  have e2 : (255#32).toNat = 2 ^ 8 - 1 := rfl
  rw [e2, Nat.and_two_pow_sub_one_eq_mod, Nat.or_mod_two_pow, Nat.shiftLeft_eq]
  have h8 : (a.toBitVec.toNat * 2 ^ 8 % 2 ^ 32) % 2 ^ 8 = 0 := by
    show (a.toBitVec.toNat * 256 % 4294967296) % 256 = 0
    omega
  rw [h8, Nat.zero_or]
  exact Nat.mod_eq_of_lt (by show b.toBitVec.toNat < 256; omega)
theorem okC_mk {x1 x2 : Int32} (h1 : 0 ≤ x1.toInt) (h2 : x1.toInt ≤ 255) (h3 : x1.toInt = 121 → (0 ≤ x2.toInt ∧ x2.toInt ≤ 255)) : okC ((x2 <<< (8 &&& 31)) ||| x1) := by
  intro h
  rw [low8 x2 x1 h1 h2] at h
  obtain ⟨a, b⟩ := h3 h
  have e1 : x1 = 121 := Int32.toInt.inj (h.trans (by decide))
  have key : ∀ n : Fin 256, 0 ≤ (((Int32.ofInt (n.val : Int)) <<< (8 &&& 31) ||| 121) >>> (8 &&& 31) : Int32).toInt := by decide +kernel
  have e2 : x2 = Int32.ofInt ((x2.toInt.toNat : Nat) : Int) := by rw [Int.toNat_of_nonneg a, Int32.ofInt_toInt]
  rw [e1, e2]
  exact key ⟨x2.toInt.toNat, by omega⟩
