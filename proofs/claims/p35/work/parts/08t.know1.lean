/-! Bits of long numbers. -/
def bt (w : Int64) (x : Nat) : Prop := w.toBitVec.getLsbD x = true
theorem bt_or {a b : Int64} {x : Nat} : bt (a ||| b) x ↔ (bt a x ∨ bt b x) := by
  unfold bt
  rw [Int64.toBitVec_or, BitVec.getLsbD_or, Bool.or_eq_true]
theorem bt_and {a b : Int64} {x : Nat} : bt (a &&& b) x ↔ (bt a x ∧ bt b x) := by
  unfold bt
  rw [Int64.toBitVec_and, BitVec.getLsbD_and, Bool.and_eq_true]
theorem bt_0 {x : Nat} : ¬ bt 0 x := by
  unfold bt
  rw [show (0 : Int64).toBitVec = 0#64 from rfl, BitVec.getLsbD_zero]
  decide
theorem bt_64 {a : Int64} {x : Nat} (h : bt a x) : x < 64 := by
  unfold bt at h
  exact BitVec.lt_of_getLsbD h
theorem bt_ext {a b : Int64} (h : ∀ x, x < 64 → (bt a x ↔ bt b x)) : a = b := by
  apply Int64.toBitVec_inj.mp
  apply BitVec.eq_of_getLsbD_eq
  intro i hi
  have h := h i hi
  unfold bt at h
  exact Bool.eq_iff_iff.mpr h
theorem i32n {x : Int32} (h0 : 0 ≤ x.toInt) : x = Int32.ofNat x.toNatClampNeg := by
  apply Int32.toInt.inj
  have h2 := Int32.toInt_lt x
  rw [Int32.toInt_ofNat_of_lt (by show x.toInt.toNat < _; omega)]
  show x.toInt = ((x.toInt.toNat : Nat) : Int)
  omega
def bp (x : Int32) : Int64 := (1 : Int64) <<< (x.toInt64 &&& 63)
theorem bp_t : ∀ n : Fin 64, (bp (Int32.ofNat n.val)).toBitVec = BitVec.twoPow 64 n.val := by decide +kernel
theorem bt_p {x : Int32} {y : Nat} (h0 : 0 ≤ x.toInt) (h : x.toInt < 64) : bt (bp x) y ↔ y = x.toNatClampNeg := by
  have hn : x.toNatClampNeg < 64 := by
    show x.toInt.toNat < 64
    omega
  have e := bp_t ⟨x.toNatClampNeg, hn⟩
  have e : (bp (Int32.ofNat x.toNatClampNeg)).toBitVec = BitVec.twoPow 64 x.toNatClampNeg := e
  rw [← i32n h0] at e
  unfold bt
  rw [e, BitVec.getLsbD_twoPow]
  simp only [Bool.and_eq_true, decide_eq_true_eq, beq_iff_eq]
  exact ⟨fun z => z.2.symm, fun z => ⟨hn, z.symm⟩⟩
theorem and_p {w : Int64} {x : Int32} (h0 : 0 ≤ x.toInt) (h : x.toInt < 64) : w &&& bp x = 0 ↔ ¬ bt w x.toNatClampNeg := by
  constructor
  · intro e z
    have := bt_and.mpr ⟨z, (bt_p (y := x.toNatClampNeg) h0 h).mpr rfl⟩
    rw [e] at this
    exact bt_0 this
  · intro z
    apply bt_ext
    intro y _
    constructor
    · intro g
      obtain ⟨g1, g2⟩ := bt_and.mp g
      rw [(bt_p h0 h).mp g2] at g1
      exact absurd g1 z
    · intro g
      exact absurd g bt_0
theorem and_0 {a b : Int64} : a &&& b = 0 ↔ ∀ x, bt a x → ¬ bt b x := by
  constructor
  · intro e x g k
    have := bt_and.mpr ⟨g, k⟩
    rw [e] at this
    exact bt_0 this
  · intro h
    apply bt_ext
    intro y _
    exact ⟨fun g => absurd (bt_and.mp g).2 (h y (bt_and.mp g).1), fun g => absurd g bt_0⟩
theorem lgc0 {a b : Int64} : lg_cmp a b = 0 ↔ a = b := by
  unfold lg_cmp
  constructor
  · intro h
    by_cases c : a > b
    · rw [if_pos c] at h
      exact absurd h (by decide)
    · rw [if_neg c] at h
      by_cases d : a = b
      · exact d
      · rw [if_neg d] at h
        exact absurd h (by decide)
  · intro h
    have n : ¬ a > b := by
      rw [h]
      exact Int64.lt_irrefl
    rw [if_neg n, if_pos h]
/-- the bits from 40 on -/
theorem shr40 {w : Int64} (h : w >>> ((40 : Int32).toInt64 &&& 63) = 0) : ∀ x, 40 ≤ x → ¬ bt w x := by
  intro x hx hb
  have h64 := bt_64 hb
  have e : (w >>> ((40 : Int32).toInt64 &&& 63)).toBitVec = w.toBitVec.sshiftRight 40 := by
    rw [Int64.toBitVec_shiftRight]
    rfl
  have z : ((w >>> ((40 : Int32).toInt64 &&& 63)).toBitVec).getLsbD (x - 40) = false := by
    rw [h]
    exact BitVec.getLsbD_zero
  rw [e, BitVec.getLsbD_sshiftRight] at z
  rw [show 40 + (x - 40) = x by omega] at z
  have hb : w.toBitVec.getLsbD x = true := hb
  rw [hb] at z
  simp [h64] at z
  omega
/-! Who knows what at the end of a day, by what is told and sent. -/
def Kn (T : Nat → Nat → Nat → Prop) (L : Nat → Nat → Nat → Prop) : Nat → Nat → Nat → Prop
  | 0, h, x => T 0 h x
  | d + 1, h, x => Kn T L d h x ∨ T (d + 1) h x ∨ ∃ f, L (d + 1) f h ∧ Kn T L d f x
theorem Kn_0 {T L : Nat → Nat → Nat → Prop} {h x : Nat} : Kn T L 0 h x ↔ T 0 h x := Iff.rfl
theorem Kn_s {T L : Nat → Nat → Nat → Prop} {d h x : Nat} : Kn T L (d + 1) h x ↔ (Kn T L d h x ∨ T (d + 1) h x ∨ ∃ f, L (d + 1) f h ∧ Kn T L d f x) := Iff.rfl
theorem Kn_cg {T L T' L' : Nat → Nat → Nat → Prop} : ∀ d : Nat, (∀ e, e ≤ d → ∀ h x, T e h x ↔ T' e h x) → (∀ e, e ≤ d → ∀ f h, L e f h ↔ L' e f h) → ∀ h x, Kn T L d h x ↔ Kn T' L' d h x := by
  intro d
  induction d with
  | zero => intro hT _ h x; exact hT 0 (Nat.le_refl _) h x
  | succ d ih =>
    intro hT hL h x
    have i := ih (fun e he => hT e (by omega)) (fun e he => hL e (by omega))
    rw [Kn_s, Kn_s]
    constructor
    · rintro (a | a | ⟨f, a, b⟩)
      · exact Or.inl ((i h x).mp a)
      · exact Or.inr (Or.inl ((hT _ (Nat.le_refl _) h x).mp a))
      · exact Or.inr (Or.inr ⟨f, (hL _ (Nat.le_refl _) f h).mp a, (i f x).mp b⟩)
    · rintro (a | a | ⟨f, a, b⟩)
      · exact Or.inl ((i h x).mpr a)
      · exact Or.inr (Or.inl ((hT _ (Nat.le_refl _) h x).mpr a))
      · exact Or.inr (Or.inr ⟨f, (hL _ (Nat.le_refl _) f h).mpr a, (i f x).mpr b⟩)
theorem Kn_mono {T L : Nat → Nat → Nat → Prop} {h x : Nat} : ∀ (k d : Nat), Kn T L d h x → Kn T L (d + k) h x := by
  intro k
  induction k with
  | zero => intro d a; exact a
  | succ k ih => intro d a; exact Or.inl (ih d a)
theorem Kn_le {T L : Nat → Nat → Nat → Prop} {h x d e : Nat} (g : d ≤ e) (a : Kn T L d h x) : Kn T L e h x := by
  have := Kn_mono (e - d) d a
  rw [show d + (e - d) = e by omega] at this
  exact this
theorem Kn_T {T L : Nat → Nat → Nat → Prop} {h x d : Nat} (a : T d h x) : Kn T L d h x := by
  cases d with
  | zero => exact a
  | succ d => exact Or.inr (Or.inl a)
