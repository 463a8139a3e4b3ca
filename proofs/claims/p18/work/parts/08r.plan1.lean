/-! Rows of looks as bits. -/
theorem tnP {a : Int32} (h : 0 ≤ a.toInt) : ((a.toNatClampNeg : Nat) : Int) = a.toInt := by
  show ((a.toInt.toNat : Nat) : Int) = a.toInt
  omega
def prf (a b : Nat) : Prop := ∃ k : Nat, (∀ j, j < k → a.testBit j = b.testBit j) ∧ a.testBit k = true ∧ b.testBit k = false
theorem prf_as {a b : Nat} (h : prf a b) (h' : prf b a) : False := by
  obtain ⟨k, p, q, r⟩ := h
  obtain ⟨k', p', q', r'⟩ := h'
  rcases Nat.lt_trichotomy k k' with g | g | g
  · rw [p' k g, q] at r
    exact absurd r (by decide)
  · rw [g] at r
    rw [r] at q'
    exact absurd q' (by decide)
  · rw [p k' g, q'] at r'
    exact absurd r' (by decide)
def lowOK (d : Nat) : Bool := d == 0 || (List.range 12).any (fun k => (List.range k).all (fun j => !d.testBit j) && d.testBit k && decide ((Int32.ofNat d &&& -(Int32.ofNat d)) = Int32.ofNat (2 ^ k)))
theorem low12 : ∀ a b : Fin 64, lowOK (64 * a.val + b.val) = true := by decide +kernel
theorem low_sp {d : Nat} (h : d < 4096) (h0 : ¬ d = 0) : ∃ k : Nat, k < 12 ∧ (∀ j, j < k → d.testBit j = false) ∧ d.testBit k = true ∧ (Int32.ofNat d &&& -(Int32.ofNat d)) = Int32.ofNat (2 ^ k) := by
  have g := low12 ⟨d / 64, by omega⟩ ⟨d % 64, by omega⟩
  have e : 64 * (d / 64) + d % 64 = d := by omega
  have g : lowOK (64 * (d / 64) + d % 64) = true := g
  rw [e] at g
  unfold lowOK at g
  rw [Bool.or_eq_true] at g
  rcases g with g | g
  · exact absurd (by simpa using g) h0
  · obtain ⟨k, hk, g⟩ := List.any_eq_true.mp g
    rw [Bool.and_eq_true, Bool.and_eq_true] at g
    refine ⟨k, List.mem_range.mp hk, fun j hj => ?_, g.1.2, of_decide_eq_true g.2⟩
    have := List.all_eq_true.mp g.1.1 j (List.mem_range.mpr hj)
    exact not_b this
theorem ofN_and {a b : Nat} : Int32.ofNat a &&& Int32.ofNat b = Int32.ofNat (a &&& b) := by
  apply Int32.toBitVec_inj.mp
  rw [Int32.toBitVec_and]
  show BitVec.ofNat 32 a &&& BitVec.ofNat 32 b = BitVec.ofNat 32 (a &&& b)
  exact (BitVec.ofNat_and).symm
theorem ofN_xor {a b : Nat} : Int32.ofNat a ^^^ Int32.ofNat b = Int32.ofNat (a ^^^ b) := by
  apply Int32.toBitVec_inj.mp
  rw [Int32.toBitVec_xor]
  show BitVec.ofNat 32 a ^^^ BitVec.ofNat 32 b = BitVec.ofNat 32 (a ^^^ b)
  exact (BitVec.ofNat_xor).symm
theorem ofN_or {a b : Nat} : Int32.ofNat a ||| Int32.ofNat b = Int32.ofNat (a ||| b) := by
  apply Int32.toBitVec_inj.mp
  rw [Int32.toBitVec_or]
  show BitVec.ofNat 32 a ||| BitVec.ofNat 32 b = BitVec.ofNat 32 (a ||| b)
  exact (BitVec.ofNat_or).symm
theorem ofN_t {a : Nat} (h : a < 4096) : (Int32.ofNat a).toInt = (a : Int) := Int32.toInt_ofNat_of_lt (by omega)
theorem ofN_0 {a : Nat} (h : a < 4096) : Int32.ofNat a = 0 ↔ a = 0 := by
  constructor
  · intro e
    have := congrArg Int32.toInt e
    rw [ofN_t h] at this
    have z : (0 : Int32).toInt = 0 := by decide
    omega
  · intro e
    rw [e]
    rfl
theorem and_pow {a k : Nat} : a &&& 2 ^ k = 0 ↔ a.testBit k = false := by
  constructor
  · intro z
    have := congrArg (fun n => Nat.testBit n k) z
    simp only [Nat.testBit_and, Nat.testBit_two_pow, Nat.zero_testBit] at this
    simpa using this
  · intro z
    apply Nat.eq_of_testBit_eq
    intro i
    rw [Nat.testBit_and, Nat.testBit_two_pow, Nat.zero_testBit]
    by_cases c : k = i
    · rw [← c, z]
      rfl
    · rw [decide_eq_false c, Bool.and_false]
/-- the reference's test of which set comes first -/
theorem pick_sp {a b : Nat} (ha : a < 4096) (hb : b < 4096) (hne : ¬ a = b) : ((Int32.ofNat a &&& (Int32.ofNat a ^^^ Int32.ofNat b)) &&& (-(Int32.ofNat a ^^^ Int32.ofNat b)) = 0 → prf b a) ∧ (¬ (Int32.ofNat a &&& (Int32.ofNat a ^^^ Int32.ofNat b)) &&& (-(Int32.ofNat a ^^^ Int32.ofNat b)) = 0 → prf a b) := by
  have hx : a ^^^ b < 4096 := Nat.xor_lt_two_pow (n := 12) ha hb
  have hx0 : ¬ a ^^^ b = 0 := fun z => hne (by
    apply Nat.eq_of_testBit_eq
    intro i
    have := congrArg (fun n => Nat.testBit n i) z
    simp only [Nat.testBit_xor, Nat.zero_testBit] at this
    revert this
    cases a.testBit i <;> cases b.testBit i <;> decide)
  obtain ⟨k, hk, p, q, e⟩ := low_sp hx hx0
  have e2 : (Int32.ofNat a &&& (Int32.ofNat a ^^^ Int32.ofNat b)) &&& (-(Int32.ofNat a ^^^ Int32.ofNat b)) = Int32.ofNat (a &&& 2 ^ k) := by
    rw [Int32.and_assoc, ofN_xor, e, ofN_and]
  have h2 : a &&& 2 ^ k < 4096 := Nat.lt_of_le_of_lt Nat.and_le_left ha
  rw [e2, ofN_0 h2, and_pow]
  have low : ∀ j, j < k → a.testBit j = b.testBit j := fun j hj => by
    have := p j hj
    rw [Nat.testBit_xor] at this
    revert this
    cases a.testBit j <;> cases b.testBit j <;> decide
  rw [Nat.testBit_xor] at q
  constructor
  · intro z
    rw [z] at q
    refine ⟨k, fun j hj => (low j hj).symm, ?_, z⟩
    revert q
    cases b.testBit k <;> decide
  · intro z
    have z : a.testBit k = true := by
      cases g : a.testBit k
      · exact absurd g z
      · rfl
    rw [z] at q
    refine ⟨k, low, z, ?_⟩
    revert q
    cases b.testBit k <;> decide
