/-! The best of a set of rows of looks: by width, then by coin left, then by the lower look. -/
section BEST
variable {W : Nat → Int32} {c : Nat → Int}
def bet (W : Nat → Int32) (c : Nat → Int) (a b : Nat) : Prop := (W a).toInt < (W b).toInt ∨ ((W a).toInt = (W b).toInt ∧ (c b < c a ∨ (c a = c b ∧ prf a b)))
theorem bet_as {a b : Nat} (h : bet W c a b) (h' : bet W c b a) : False := by
  unfold bet at h h'
  rcases h with h | ⟨h1, h | ⟨h2, h3⟩⟩
  · omega
  · omega
  · rcases h' with h' | ⟨-, h' | ⟨-, h'⟩⟩
    · omega
    · omega
    · exact prf_as h3 h'
def lvS (W : Nat → Int32) (c : Nat → Int) (b : Nat) : Int32 × Int32 × Int := (Int32.ofNat b, W b, c b)
def tak (W : Nat → Int32) (c : Nat → Int) (B : Int32 × Int32 × Int) (t : Nat) : Prop := (W t).toInt < B.2.1.toInt ∨ ((W t).toInt = B.2.1.toInt ∧ B.2.2 < c t)
def BST (W : Nat → Int32) (c : Nat → Int) (A : Nat → Prop) (B B' : Int32 × Int32 × Int) : Prop := (B' = B ∧ ∀ t, A t → ¬ tak W c B t) ∨ ∃ b, A b ∧ tak W c B b ∧ B' = lvS W c b ∧ ∀ t, A t → t = b ∨ bet W c b t
theorem BST_cg {A A' : Nat → Prop} {B B' : Int32 × Int32 × Int} (e : ∀ t, A t ↔ A' t) (h : BST W c A B B') : BST W c A' B B' := by
  rcases h with ⟨h1, h2⟩ | ⟨b, h1, h2, h3, h4⟩
  · exact Or.inl ⟨h1, fun t ht => h2 t ((e t).mpr ht)⟩
  · exact Or.inr ⟨b, (e b).mp h1, h2, h3, fun t ht => h4 t ((e t).mpr ht)⟩
theorem BST_two {A1 A2 : Nat → Prop} {B B1 B2 : Int32 × Int32 × Int} (h1 : BST W c A1 B B1) (h2 : BST W c A2 B1 B2) (hp : ∀ a b, A1 a → A2 b → prf a b) : BST W c (fun t => A1 t ∨ A2 t) B B2 := by
  rcases h1 with ⟨e1, n1⟩ | ⟨b1, m1, t1, e1, o1⟩
  · rw [e1] at h2
    rcases h2 with ⟨e2, n2⟩ | ⟨b2, m2, t2, e2, o2⟩
    · exact Or.inl ⟨e2, fun t ht => ht.elim (n1 t) (n2 t)⟩
    · refine Or.inr ⟨b2, Or.inr m2, t2, e2, fun t ht => ht.elim (fun ht => ?_) (o2 t)⟩
      have n := n1 t ht
      unfold tak at n t2
      right
      unfold bet
      omega
  · rcases h2 with ⟨e2, n2⟩ | ⟨b2, m2, t2, e2, o2⟩
    · rw [e1] at n2
      refine Or.inr ⟨b1, Or.inl m1, t1, e2.trans e1, fun t ht => ht.elim (o1 t) (fun ht => ?_)⟩
      have n := n2 t ht
      have p := hp b1 t m1 ht
      unfold tak lvS at n
      right
      unfold bet
      have n : ¬ ((W t).toInt < (W b1).toInt ∨ ((W t).toInt = (W b1).toInt ∧ c b1 < c t)) := n
      by_cases g : (W b1).toInt < (W t).toInt
      · exact Or.inl g
      · right
        refine ⟨by omega, ?_⟩
        by_cases g2 : c t < c b1
        · exact Or.inl g2
        · exact Or.inr ⟨by omega, p⟩
    · rw [e1] at t2
      have t2 : (W b2).toInt < (W b1).toInt ∨ ((W b2).toInt = (W b1).toInt ∧ c b1 < c b2) := t2
      refine Or.inr ⟨b2, Or.inr m2, ?_, e2, fun t ht => ht.elim (fun ht => ?_) (o2 t)⟩
      · unfold tak at t1 ⊢
        omega
      · right
        unfold bet
        rcases o1 t ht with g | g
        · rw [g]
          omega
        · unfold bet at g
          omega
/-- one row alone -/
theorem BST_one {B B' : Int32 × Int32 × Int} {s : Nat} (h : (tak W c B s ∧ B' = lvS W c s) ∨ (¬ tak W c B s ∧ B' = B)) : BST W c (fun t => t = s) B B' := by
  rcases h with ⟨h1, h2⟩ | ⟨h1, h2⟩
  · exact Or.inr ⟨s, rfl, h1, h2, fun t ht => Or.inl ht⟩
  · exact Or.inl ⟨h2, fun t ht => by rw [ht]; exact h1⟩
end BEST
/-! A row's spans, coin. -/
def cutN (u : SX) (S : Nat → Int32 × Int32) (s : Nat) : Nat → Nat → Int32 × Int32
  | 0, j => S j
  | i + 1, j => if s.testBit i = true ∧ (u.2.1 48 i).toNatClampNeg = j then stepS 0 (u.2.1 49 i) (u.2.1 50 i) (cutN u S s i j) else cutN u S s i j
def cosN (u : SX) (s : Nat) : Nat → Int
  | 0 => 0
  | i + 1 => cosN u s i + (if s.testBit i = true then (u.2.1 51 i).toInt else 0)
theorem cutN_s {u : SX} {S : Nat → Int32 × Int32} {s i j : Nat} : cutN u S s (i + 1) j = if s.testBit i = true ∧ (u.2.1 48 i).toNatClampNeg = j then stepS 0 (u.2.1 49 i) (u.2.1 50 i) (cutN u S s i j) else cutN u S s i j := rfl
theorem cosN_s {u : SX} {s i : Nat} : cosN u s (i + 1) = cosN u s i + (if s.testBit i = true then (u.2.1 51 i).toInt else 0) := rfl
theorem cutN_cg {u : SX} {S : Nat → Int32 × Int32} {s t : Nat} : ∀ i : Nat, (∀ j, j < i → s.testBit j = t.testBit j) → ∀ k, cutN u S s i k = cutN u S t i k := by
  intro i
  induction i with
  | zero => intro _ k; rfl
  | succ i ih =>
    intro h k
    rw [cutN_s, cutN_s, ih (fun j hj => h j (by omega)) k, h i (by omega)]
theorem cosN_cg {u : SX} {s t : Nat} : ∀ i : Nat, (∀ j, j < i → s.testBit j = t.testBit j) → cosN u s i = cosN u t i := by
  intro i
  induction i with
  | zero => intro _; rfl
  | succ i ih =>
    intro h
    rw [cosN_s, cosN_s, ih (fun j hj => h j (by omega)), h i (by omega)]
theorem cosN_le {u : SX} (hI : IX u) {s i : Nat} : ∀ k : Nat, cosN u s i ≤ cosN u s (i + k) := by
  intro k
  induction k with
  | zero => exact Int.le_refl _
  | succ k ih =>
    have b : (0 : Int) ≤ (u.2.1 51 (i + k)).toInt := (hI.2.1 51 _).1
    rw [show i + (k + 1) = (i + k) + 1 from rfl, cosN_s]
    by_cases c : s.testBit (i + k) = true
    · rw [if_pos c]
      omega
    · rw [if_neg c]
      omega
theorem cosN_0 {u : SX} : ∀ i : Nat, cosN u 0 i = 0 := by
  intro i
  induction i with
  | zero => rfl
  | succ i ih =>
    rw [cosN_s, ih, Nat.zero_testBit, if_neg (by decide)]
    rfl
theorem cosN_b {u : SX} (hI : IX u) {s : Nat} : ∀ i : Nat, 0 ≤ cosN u s i ∧ cosN u s i ≤ 50 * (i : Int) := by
  intro i
  induction i with
  | zero => exact ⟨Int.le_refl _, Int.le_refl _⟩
  | succ i ih =>
    have b : (0 : Int) ≤ (u.2.1 51 i).toInt := (hI.2.1 51 _).1
    have b9 : (u.2.1 51 i).toInt ≤ (50 : Int) := (hI.2.1 51 _).2
    rw [cosN_s]
    by_cases c : s.testBit i = true
    · rw [if_pos c]
      omega
    · rw [if_neg c]
      omega
theorem bit_hi {s i : Nat} (h : s < 2 ^ i) {j : Nat} (hj : i ≤ j) : s.testBit j = false := Nat.testBit_lt_two_pow (Nat.lt_of_lt_of_le h (Nat.pow_le_pow_right (by decide) hj))
theorem bits_eq {s t n : Nat} (hs : s < 2 ^ n) (ht : t < 2 ^ n) (h : ∀ j, j < n → s.testBit j = t.testBit j) : s = t := by
  apply Nat.eq_of_testBit_eq
  intro j
  by_cases c : j < n
  · exact h j c
  · rw [bit_hi hs (by omega), bit_hi ht (by omega)]
/-- a row of open looks for so much coin, that begins as s does -/
def VP (u : SX) (C : Int) (n i s t : Nat) : Prop := t < 2 ^ n ∧ (∀ j, j < i → t.testBit j = s.testBit j) ∧ (∀ j, j < n → t.testBit j = true → u.2.1 52 j = -1) ∧ cosN u t n ≤ C
theorem VP_leaf {u : SX} {C : Int} {n s : Nat} (hs : s < 2 ^ n) (ho : ∀ j, j < n → s.testBit j = true → u.2.1 52 j = -1) (hc : cosN u s n ≤ C) (t : Nat) : VP u C n n s t ↔ t = s := by
  constructor
  · rintro ⟨h1, h2, -⟩
    exact bits_eq h1 hs h2
  · intro e
    rw [e]
    exact ⟨hs, fun _ _ => rfl, ho, hc⟩
theorem VP_skip {u : SX} {C : Int} {n i s : Nat} (hI : IX u) (hi : i < n) (hs : s < 2 ^ i) (hn : ¬ u.2.1 52 i = -1 ∨ C < cosN u s i + (u.2.1 51 i).toInt) (t : Nat) : VP u C n (i + 1) s t ↔ VP u C n i s t := by
  constructor
  · rintro ⟨h1, h2, h3⟩
    exact ⟨h1, fun j hj => h2 j (by omega), h3⟩
  · rintro ⟨h1, h2, h3, h4⟩
    refine ⟨h1, fun j hj => ?_, h3, h4⟩
    by_cases e : j = i
    · rw [e, bit_hi hs (Nat.le_refl _)]
      cases g : t.testBit i with
      | false => rfl
      | true =>
        exfalso
        rcases hn with hn | hn
        · exact hn (h3 i hi g)
        · have m := cosN_le (s := t) hI (i := i + 1) (n - (i + 1))
          rw [show i + 1 + (n - (i + 1)) = n by omega, cosN_s, if_pos g, cosN_cg i h2] at m
          omega
    · exact h2 j (by omega)
theorem or_bit {s i j : Nat} : (s ||| 2 ^ i).testBit j = (s.testBit j || decide (i = j)) := by rw [Nat.testBit_or, Nat.testBit_two_pow]
theorem VP_two {u : SX} {C : Int} {n i s : Nat} (hs : s < 2 ^ i) (t : Nat) : (VP u C n (i + 1) (s ||| 2 ^ i) t ∨ VP u C n (i + 1) s t) ↔ VP u C n i s t := by
  constructor
  · rintro (⟨h1, h2, h3⟩ | ⟨h1, h2, h3⟩)
    · refine ⟨h1, fun j hj => ?_, h3⟩
      rw [h2 j (by omega), or_bit, decide_eq_false (by omega), Bool.or_false]
    · exact ⟨h1, fun j hj => h2 j (by omega), h3⟩
  · rintro ⟨h1, h2, h3⟩
    cases g : t.testBit i with
    | true =>
      refine Or.inl ⟨h1, fun j hj => ?_, h3⟩
      rw [or_bit]
      by_cases e : j = i
      · rw [e, g, decide_eq_true rfl, Bool.or_true]
      · rw [h2 j (by omega), decide_eq_false (by omega), Bool.or_false]
    | false =>
      refine Or.inr ⟨h1, fun j hj => ?_, h3⟩
      by_cases e : j = i
      · rw [e, g, bit_hi hs (Nat.le_refl _)]
      · exact h2 j (by omega)
theorem VP_prf {u : SX} {C : Int} {n i s : Nat} (hs : s < 2 ^ i) {a b : Nat} (ha : VP u C n (i + 1) (s ||| 2 ^ i) a) (hb : VP u C n (i + 1) s b) : prf a b := by
  refine ⟨i, fun j hj => ?_, ?_, ?_⟩
  · rw [ha.2.1 j (by omega), hb.2.1 j (by omega), or_bit, decide_eq_false (by omega), Bool.or_false]
  · rw [ha.2.1 i (by omega), or_bit, decide_eq_true rfl, Bool.or_true]
  · rw [hb.2.1 i (by omega), bit_hi hs (Nat.le_refl _)]
