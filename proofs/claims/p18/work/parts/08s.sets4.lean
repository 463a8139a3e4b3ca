/-! A set covers: without going round. -/
theorem shn_z {w a : Int32} (hw : Bw w) (a0 : 0 ≤ a.toInt) (a9 : a.toInt ≤ 400) : (0 ≤ w.toInt ∧ 0 ≤ (shn a w).toInt ∧ (shn a w).toInt ≤ (shn 400 w).toInt ∧ (shn 400 w).toInt ≤ 4000000) ∨ (w.toInt < 0 ∧ (shn a w).toInt ≤ 0 ∧ (shn 400 w).toInt ≤ (shn a w).toInt ∧ -4000000 ≤ (shn 400 w).toInt) := by
  have e400 : (400 : Int32).toInt = 400 := by decide
  have v1 := shnv a0 a9 hw
  have v2 := shnv (a := 400) (by decide) (by decide) hw
  rw [e400] at v2
  have b2 := shnB (a := 400) (by decide) (by decide) hw
  by_cases c : 0 ≤ w.toInt
  · left
    have m1 : 0 ≤ a.toInt * w.toInt := Int.mul_nonneg a0 c
    have m2 : a.toInt * w.toInt ≤ 400 * w.toInt := Int.mul_le_mul_of_nonneg_right a9 c
    have t1 : (0 : Int).tdiv 100 ≤ (a.toInt * w.toInt).tdiv 100 := tdiv_mono m1
    have t2 : (a.toInt * w.toInt).tdiv 100 ≤ (400 * w.toInt).tdiv 100 := tdiv_mono m2
    have z : (0 : Int).tdiv 100 = 0 := by decide
    omega
  · right
    have c' : w.toInt ≤ 0 := by omega
    have m1 : a.toInt * w.toInt ≤ 0 := Int.mul_nonpos_of_nonneg_of_nonpos a0 c'
    have m2 : 400 * w.toInt ≤ a.toInt * w.toInt := Int.mul_le_mul_of_nonpos_right a9 c'
    have t1 : (a.toInt * w.toInt).tdiv 100 ≤ (0 : Int).tdiv 100 := tdiv_mono m1
    have t2 : (400 * w.toInt).tdiv 100 ≤ (a.toInt * w.toInt).tdiv 100 := tdiv_mono m2
    have z : (0 : Int).tdiv 100 = 0 := by decide
    omega
/-- what a part can shine most and least: by its span, by all of 0 .. 400 -/
theorem ends_sp {w : Int32} {p : Int32 × Int32} (hw : Bw w) (hp : Sb p) : (mnS w p).toInt ≤ (mxS w p).toInt ∧ (mxS w p).toInt ≤ (mx0 w).toInt ∧ (mn0 w).toInt ≤ (mnS w p).toInt ∧ -4000000 ≤ (mn0 w).toInt ∧ (mn0 w).toInt ≤ 0 ∧ 0 ≤ (mx0 w).toInt ∧ (mx0 w).toInt ≤ 4000000 := by
  have z0 : (0 : Int32).toInt = 0 := by decide
  have a := shn_z hw hp.1.1 hp.1.2
  have b := shn_z hw hp.2.1 hp.2.2
  have hmx : (mxS w p).toInt = max (shn p.1 w).toInt (shn p.2 w).toInt := by
    unfold mxS
    by_cases c : shn p.1 w < shn p.2 w
    · rw [if_pos c]
      have := ltI c
      omega
    · rw [if_neg c]
      have := nltI c
      omega
  have hmn : (mnS w p).toInt = min (shn p.1 w).toInt (shn p.2 w).toInt := by
    unfold mnS
    by_cases c : shn p.2 w < shn p.1 w
    · rw [if_pos c]
      have := ltI c
      omega
    · rw [if_neg c]
      have := nltI c
      omega
  have hx0 : (mx0 w).toInt = max 0 (shn 400 w).toInt := by
    unfold mx0
    by_cases c : 0 < shn 400 w
    · rw [if_pos c]
      have c : (0 : Int) < (shn 400 w).toInt := ltI c
      omega
    · rw [if_neg c, z0]
      have c : ¬ (0 : Int) < (shn 400 w).toInt := nltI c
      omega
  have hn0 : (mn0 w).toInt = min 0 (shn 400 w).toInt := by
    unfold mn0
    by_cases c : shn 400 w < 0
    · rw [if_pos c]
      have c : (shn 400 w).toInt < (0 : Int) := ltI c
      omega
    · rw [if_neg c, z0]
      have c : ¬ (shn 400 w).toInt < (0 : Int) := nltI c
      omega
  omega
/-- the ends of what is left over at a reading, with all of 0 .. 400 for the parts of a set -/
noncomputable def loR (u : SX) (S : Nat → Int32 × Int32) (m s : Nat) : Nat → Int
  | 0 => (u.2.1 40 m).toInt
  | i + 1 => loR u S m s i - (if s.testBit i = true then (mx0 (ww u m i)).toInt else (mxS (ww u m i) (S i)).toInt)
noncomputable def upR (u : SX) (S : Nat → Int32 × Int32) (m s : Nat) : Nat → Int
  | 0 => (u.2.1 40 m).toInt
  | i + 1 => upR u S m s i - (if s.testBit i = true then (mn0 (ww u m i)).toInt else (mnS (ww u m i) (S i)).toInt)
theorem loR_s {u : SX} {S : Nat → Int32 × Int32} {m s i : Nat} : loR u S m s (i + 1) = loR u S m s i - (if s.testBit i = true then (mx0 (ww u m i)).toInt else (mxS (ww u m i) (S i)).toInt) := rfl
theorem upR_s {u : SX} {S : Nat → Int32 × Int32} {m s i : Nat} : upR u S m s (i + 1) = upR u S m s i - (if s.testBit i = true then (mn0 (ww u m i)).toInt else (mnS (ww u m i) (S i)).toInt) := rfl
def CV (u : SX) (S : Nat → Int32 × Int32) (K n s : Nat) : Prop := ∀ m : Nat, m < K → loR u S m s n ≤ 0 ∧ 0 ≤ upR u S m s n
theorem sumW_t {g : Nat → Int32} : ∀ k : Nat, k ≤ 12 → (∀ i, i < k → -4000000 ≤ (g i).toInt ∧ (g i).toInt ≤ 4000000) → ∀ i, i < k → (sumW g (i + 1)).toInt = (sumW g i).toInt + (g i).toInt := by
  intro k hk hg i hi
  obtain ⟨a, b⟩ := sumWB (g := g) i (by omega) (fun j hj => hg j (by omega))
  obtain ⟨c, d⟩ := hg i hi
  show (sumW g i + g i).toInt = _
  exact add_t (by omega) (by omega)
/-- for one reading -/
theorem one_sp {u : SX} {S : Nat → Int32 × Int32} {m s : Nat} {n : Nat} (hn : n ≤ 12) (hw : ∀ i, i < n → Bw (ww u m i)) (hS : ∀ i, i < n → Sb (S i)) (hN : -100000 ≤ (u.2.1 40 m).toInt ∧ (u.2.1 40 m).toInt ≤ 100000) : ∀ i : Nat, i ≤ n → (u.2.1 40 m - sumW (fun i => mxS (ww u m i) (S i)) i).toInt ≤ (u.2.1 40 m - sumW (fun i => mnS (ww u m i) (S i)) i).toInt ∧ loR u S m s i ≤ (u.2.1 40 m - sumW (fun i => mxS (ww u m i) (S i)) i).toInt ∧ (u.2.1 40 m - sumW (fun i => mnS (ww u m i) (S i)) i).toInt ≤ upR u S m s i ∧ -100000 - 4000000 * (i : Int) ≤ loR u S m s i ∧ loR u S m s i ≤ 100000 + 4000000 * (i : Int) ∧ -100000 - 4000000 * (i : Int) ≤ upR u S m s i ∧ upR u S m s i ≤ 100000 + 4000000 * (i : Int) := by
  have bx : ∀ i, i < n → -4000000 ≤ (mxS (ww u m i) (S i)).toInt ∧ (mxS (ww u m i) (S i)).toInt ≤ 4000000 := fun i hi => mxSB (hw i hi) (hS i hi)
  have bm : ∀ i, i < n → -4000000 ≤ (mnS (ww u m i) (S i)).toInt ∧ (mnS (ww u m i) (S i)).toInt ≤ 4000000 := fun i hi => mnSB (hw i hi) (hS i hi)
  have sx : ∀ i, i ≤ n → (u.2.1 40 m - sumW (fun i => mxS (ww u m i) (S i)) i).toInt = (u.2.1 40 m).toInt - (sumW (fun i => mxS (ww u m i) (S i)) i).toInt := fun i hi => by
    obtain ⟨a, b⟩ := sumWB (g := fun i => mxS (ww u m i) (S i)) i (by omega) (fun j hj => bx j (by omega))
    exact sub_t (by omega) (by omega)
  have sm : ∀ i, i ≤ n → (u.2.1 40 m - sumW (fun i => mnS (ww u m i) (S i)) i).toInt = (u.2.1 40 m).toInt - (sumW (fun i => mnS (ww u m i) (S i)) i).toInt := fun i hi => by
    obtain ⟨a, b⟩ := sumWB (g := fun i => mnS (ww u m i) (S i)) i (by omega) (fun j hj => bm j (by omega))
    exact sub_t (by omega) (by omega)
  intro i
  induction i with
  | zero =>
    intro _
    rw [sx 0 (Nat.zero_le _), sm 0 (Nat.zero_le _)]
    have z : ∀ g : Nat → Int32, (sumW g 0).toInt = 0 := fun g => by
      show (0 : Int32).toInt = 0
      decide
    rw [z, z]
    show _ ∧ (u.2.1 40 m).toInt ≤ _ ∧ _ ≤ (u.2.1 40 m).toInt ∧ _ ≤ (u.2.1 40 m).toInt ∧ (u.2.1 40 m).toInt ≤ _ ∧ _ ≤ (u.2.1 40 m).toInt ∧ (u.2.1 40 m).toInt ≤ _
    omega
  | succ i ih =>
    intro hi
    have a := ih (by omega)
    rw [sx i (by omega), sm i (by omega)] at a
    rw [sx (i + 1) hi, sm (i + 1) hi, sumW_t n hn bx i (by omega), sumW_t n hn bm i (by omega), loR_s, upR_s]
    have e := ends_sp (hw i (by omega)) (hS i (by omega))
    have q1 := bx i (by omega)
    have q2 := bm i (by omega)
    by_cases c : s.testBit i = true
    · rw [if_pos c, if_pos c]
      omega
    · rw [if_neg c, if_neg c]
      omega
