/-! Sets of parts as bits: how many, which comes first. -/
theorem tnS {a : Int32} (h : 0 ≤ a.toInt) : ((a.toNatClampNeg : Nat) : Int) = a.toInt := by
  show ((a.toInt.toNat : Nat) : Int) = a.toInt
  omega
def cntB (s : Nat) : Nat → Nat
  | 0 => 0
  | i + 1 => cntB s i + (if s.testBit i = true then 1 else 0)
theorem cntB_s {s i : Nat} : cntB s (i + 1) = cntB s i + (if s.testBit i = true then 1 else 0) := rfl
theorem cntB_cg {s t : Nat} : ∀ i : Nat, (∀ j, j < i → s.testBit j = t.testBit j) → cntB s i = cntB t i := by
  intro i
  induction i with
  | zero => intro _; rfl
  | succ i ih =>
    intro h
    rw [cntB_s, cntB_s, ih (fun j hj => h j (by omega)), h i (by omega)]
theorem cntB_le {s i : Nat} : ∀ k : Nat, cntB s i ≤ cntB s (i + k) ∧ cntB s (i + k) ≤ cntB s i + k := by
  intro k
  induction k with
  | zero => exact ⟨Nat.le_refl _, Nat.le_refl _⟩
  | succ k ih =>
    rw [show i + (k + 1) = (i + k) + 1 from rfl, cntB_s]
    by_cases c : s.testBit (i + k) = true
    · rw [if_pos c]
      omega
    · rw [if_neg c]
      omega
/-- sets of n parts that begin as s does (below i), with m more -/
def CD (n i s m t : Nat) : Prop := t < 2 ^ n ∧ (∀ j, j < i → t.testBit j = s.testBit j) ∧ cntB t n = cntB s i + m
theorem bit_hS {s i : Nat} (h : s < 2 ^ i) {j : Nat} (hj : i ≤ j) : s.testBit j = false := Nat.testBit_lt_two_pow (Nat.lt_of_lt_of_le h (Nat.pow_le_pow_right (by decide) hj))
theorem or_bS {s i j : Nat} : (s ||| 2 ^ i).testBit j = (s.testBit j || decide (i = j)) := by rw [Nat.testBit_or, Nat.testBit_two_pow]
theorem bits_eS {s t n : Nat} (hs : s < 2 ^ n) (ht : t < 2 ^ n) (h : ∀ j, j < n → s.testBit j = t.testBit j) : s = t := by
  apply Nat.eq_of_testBit_eq
  intro j
  by_cases c : j < n
  · exact h j c
  · rw [bit_hS hs (by omega), bit_hS ht (by omega)]
/-- which of two sets has the lower part where they first differ -/
def prS (a b : Nat) : Prop := ∃ k : Nat, (∀ j, j < k → a.testBit j = b.testBit j) ∧ a.testBit k = true ∧ b.testBit k = false
theorem cntB_or {s i : Nat} (hs : s < 2 ^ i) : cntB (s ||| 2 ^ i) (i + 1) = cntB s i + 1 := by
  rw [cntB_s, or_bS, decide_eq_true rfl, Bool.or_true, if_pos rfl, cntB_cg (s := s ||| 2 ^ i) (t := s) i (fun j hj => by rw [or_bS, decide_eq_false (by omega), Bool.or_false])]
theorem cntB_hi {s i : Nat} (hs : s < 2 ^ i) : cntB s (i + 1) = cntB s i := by
  rw [cntB_s, bit_hS hs (Nat.le_refl _), if_neg (by decide), Nat.add_zero]
theorem CD_two {n i s m : Nat} (hs : s < 2 ^ i) (t : Nat) : (CD n (i + 1) (s ||| 2 ^ i) m t ∨ CD n (i + 1) s (m + 1) t) ↔ CD n i s (m + 1) t := by
  unfold CD
  rw [cntB_or hs, cntB_hi hs]
  constructor
  · rintro (⟨h1, h2, h3⟩ | ⟨h1, h2, h3⟩)
    · refine ⟨h1, fun j hj => ?_, by omega⟩
      rw [h2 j (by omega), or_bS, decide_eq_false (by omega), Bool.or_false]
    · exact ⟨h1, fun j hj => h2 j (by omega), h3⟩
  · rintro ⟨h1, h2, h3⟩
    cases g : t.testBit i with
    | true =>
      refine Or.inl ⟨h1, fun j hj => ?_, by omega⟩
      rw [or_bS]
      by_cases e : j = i
      · rw [e, g, decide_eq_true rfl, Bool.or_true]
      · rw [h2 j (by omega), decide_eq_false (by omega), Bool.or_false]
    | false =>
      refine Or.inr ⟨h1, fun j hj => ?_, h3⟩
      by_cases e : j = i
      · rw [e, g, bit_hS hs (Nat.le_refl _)]
      · exact h2 j (by omega)
theorem CD_pr {n i s m m' : Nat} (hs : s < 2 ^ i) {a b : Nat} (ha : CD n (i + 1) (s ||| 2 ^ i) m a) (hb : CD n (i + 1) s m' b) : prS a b := by
  refine ⟨i, fun j hj => ?_, ?_, ?_⟩
  · rw [ha.2.1 j (by omega), hb.2.1 j (by omega), or_bS, decide_eq_false (by omega), Bool.or_false]
  · rw [ha.2.1 i (by omega), or_bS, decide_eq_true rfl, Bool.or_true]
  · rw [hb.2.1 i (by omega), bit_hS hs (Nat.le_refl _)]
theorem CD_none {n i s m : Nat} (hi : i ≤ n) (h : n < i + m) (t : Nat) : ¬ CD n i s m t := by
  rintro ⟨h1, h2, h3⟩
  have := (cntB_le (s := t) (i := i) (n - i)).2
  rw [show i + (n - i) = n by omega, cntB_cg (s := t) (t := s) i h2] at this
  omega
theorem CD_zero {n i s : Nat} (hi : i ≤ n) (hs : s < 2 ^ i) (t : Nat) : CD n i s 0 t ↔ t = s := by
  have hsn : s < 2 ^ n := Nat.lt_of_lt_of_le hs (Nat.pow_le_pow_right (by decide) hi)
  have hz : ∀ k, i + k ≤ n → cntB s (i + k) = cntB s i := by
    intro k
    induction k with
    | zero => intro _; rfl
    | succ k ih =>
      intro hk
      rw [show i + (k + 1) = (i + k) + 1 from rfl, cntB_s, ih (by omega), bit_hS hs (by omega), if_neg (by decide), Nat.add_zero]
  constructor
  · rintro ⟨h1, h2, h3⟩
    refine bits_eS h1 hsn (fun j hj => ?_)
    by_cases c : j < i
    · exact h2 j c
    · rw [bit_hS hs (by omega)]
      cases g : t.testBit j with
      | false => rfl
      | true =>
        exfalso
        have a := (cntB_le (s := t) (i := i) (j - i)).1
        have b := (cntB_le (s := t) (i := j + 1) (n - (j + 1))).1
        rw [show i + (j - i) = j by omega] at a
        rw [show j + 1 + (n - (j + 1)) = n by omega, cntB_s, if_pos g] at b
        rw [cntB_cg (s := t) (t := s) i h2] at a
        omega
  · intro e
    rw [e]
    refine ⟨hsn, fun _ _ => rfl, ?_⟩
    have := hz (n - i) (by omega)
    rw [show i + (n - i) = n by omega] at this
    omega
/-! The class's test of a set. -/
def rest (u : SX) (s k : Nat) : Nat → Int
  | 0 => (u.2.1 46 k).toInt
  | i + 1 => rest u s k i - (if s.testBit i = true then (u.2.1 47 (k * 12 + i)).toInt else 0)
theorem rest_s {u : SX} {s k i : Nat} : rest u s k (i + 1) = rest u s k i - (if s.testBit i = true then (u.2.1 47 (k * 12 + i)).toInt else 0) := rfl
def COV (u : SX) (n s : Nat) : Prop := ∀ k : Nat, (k : Int) < (u.1 26).toInt → rest u s k n ≤ 0
/-- numbers within their bounds, so that nothing goes round -/
def RB (u : SX) : Prop := ∀ k : Nat, (k : Int) < (u.1 26).toInt → (-100000000 ≤ (u.2.1 46 k).toInt ∧ (u.2.1 46 k).toInt ≤ 100000000) ∧ ∀ i : Nat, (i : Int) < (u.1 10).toInt → 0 ≤ (u.2.1 47 (k * 12 + i)).toInt ∧ (u.2.1 47 (k * 12 + i)).toInt ≤ 8000000
theorem rest_b {u : SX} (hB : RB u) {s k : Nat} (hk : (k : Int) < (u.1 26).toInt) : ∀ i : Nat, (i : Int) ≤ (u.1 10).toInt → -100000000 - 8000000 * (i : Int) ≤ rest u s k i ∧ rest u s k i ≤ 100000000 := by
  intro i
  induction i with
  | zero =>
    intro _
    have := (hB k hk).1
    show -100000000 - 8000000 * ((0 : Nat) : Int) ≤ (u.2.1 46 k).toInt ∧ (u.2.1 46 k).toInt ≤ 100000000
    omega
  | succ i ih =>
    intro hi
    have a := ih (by omega)
    have b := (hB k hk).2 i (by omega)
    rw [rest_s]
    by_cases c : s.testBit i = true
    · rw [if_pos c]
      omega
    · rw [if_neg c]
      omega
theorem bitS {z : Int32} {s : Nat} (h0 : 0 ≤ z.toInt) (h9 : z.toInt ≤ 12) (hs : s < 4096) : (Int32.ofNat s >>> (z &&& 31)) &&& 1 = 0 ↔ s.testBit z.toNatClampNeg = false := by
  have t := tnS h0
  have o : ∀ a : Nat, a < 4096 → (Int32.ofNat a).toInt = (a : Int) := fun a ha => Int32.toInt_ofNat_of_lt (by omega)
  have e : Int32.ofNat s >>> (z &&& 31) = Int32.ofNat (s / 2 ^ z.toNatClampNeg) := by
    apply Int32.toInt.inj
    rw [shr_t (n := z.toNatClampNeg) t.symm (by omega), o _ hs, o _ (Nat.lt_of_le_of_lt (Nat.div_le_self _ _) hs), Int.natCast_ediv, Int.natCast_pow]
    rfl
  have a : Int32.ofNat (s / 2 ^ z.toNatClampNeg) &&& Int32.ofNat 1 = Int32.ofNat (s / 2 ^ z.toNatClampNeg &&& 1) := by
    apply Int32.toBitVec_inj.mp
    rw [Int32.toBitVec_and]
    show BitVec.ofNat 32 _ &&& BitVec.ofNat 32 _ = BitVec.ofNat 32 _
    exact (BitVec.ofNat_and).symm
  rw [e, show (1 : Int32) = Int32.ofNat 1 from rfl, a, Nat.testBit_eq_decide_div_mod_eq, Nat.and_one_is_mod, decide_eq_false_iff_not]
  have hm : s / 2 ^ z.toNatClampNeg % 2 < 2 := Nat.mod_lt _ (by decide)
  constructor
  · intro g
    have := congrArg Int32.toInt g
    rw [o _ (by omega)] at this
    have z0 : (0 : Int32).toInt = 0 := by decide
    omega
  · intro g
    rw [show s / 2 ^ z.toNatClampNeg % 2 = 0 by omega]
    rfl
theorem cov55 {k99 : Int32 → Int32 → Int32 → Int32 → SX → Option (Int32 × SX)} {z2 z3 r : Int32} {s : Nat} {u u' : SX} (hI : IX u) (hB : RB u) (hs : s < 4096) (k0 : 0 ≤ z3.toInt) (k9 : z3.toInt < (u.1 26).toInt) : ∀ (n : Nat) (z4 z5 : Int32), 0 ≤ z5.toInt → z5.toInt ≤ (u.1 10).toInt → z4.toInt = rest u s z3.toNatClampNeg z5.toNatClampNeg → LX0_covers_9_55 k99 n (Int32.ofNat s) z2 z3 z4 z5 u = some (r, u') → ∃ y : Int32, y.toInt = rest u s z3.toNatClampNeg (u.1 10).toNatClampNeg ∧ k99 (Int32.ofNat s) z2 z3 y u = some (r, u') := by
  intro n
  induction n with
  | zero => intro z4 z5 _ _ _ h; cases h
  | succ n ih =>
    intro z4 z5 h0 h9 hr h
    have b10 : (u.1 10).toInt ≤ (12 : Int) := (hI.1 10).2
    have z10 : (0 : Int) ≤ (u.1 10).toInt := (hI.1 10).1
    have b26 : (u.1 26).toInt ≤ (80 : Int) := (hI.1 26).2
    have h : (if (u.1 10) ≤ z5 then (k99 (Int32.ofNat s) z2 z3 z4 u) else (if ((Int32.ofNat s >>> (z5 &&& 31)) &&& 1) = 0 then (LX0_covers_9_55 k99 n (Int32.ofNat s) z2 z3 z4 (z5 + 1) u) else (gd (inb ((z3 * 12) + z5) 960) (lt (z4 - (u.2.1 47 ((z3 * 12) + z5).toNatClampNeg)) fun v6 => (LX0_covers_9_55 k99 n (Int32.ofNat s) z2 z3 v6 (z5 + 1) u))))) = some (r, u') := h
    have t5 := tnS h0
    have t10 := tnS z10
    have t3 := tnS k0
    by_cases c : u.1 10 ≤ z5
    · rw [if_pos c] at h
      have c9 := leI c
      rw [show z5.toNatClampNeg = (u.1 10).toNatClampNeg by omega] at hr
      exact ⟨z4, hr, h⟩
    · rw [if_neg c] at h
      have c9 := nleI c
      have et : (z5 + 1).toInt = z5.toInt + 1 := addc_t (by decide) (by omega) (by omega)
      have en := ns1 h0 (show z5.toInt ≤ 5000 by omega)
      by_cases cb : (Int32.ofNat s >>> (z5 &&& 31)) &&& 1 = 0
      · rw [if_pos cb] at h
        refine ih z4 (z5 + 1) (by rw [et]; omega) (by rw [et]; omega) ?_ h
        rw [en, rest_s, (bitS h0 (by omega) hs).mp cb, if_neg (by decide), hr, Int.sub_zero]
      · rw [if_neg cb] at h
        have tb : s.testBit z5.toNatClampNeg = true := by
          cases g : s.testBit z5.toNatClampNeg with
          | true => rfl
          | false => exact absurd ((bitS h0 (by omega) hs).mpr g) cb
        obtain ⟨-, h⟩ := gd_some h
        obtain ⟨v6, j6, h⟩ := lt_some h
        have e1 : (z3 * 12).toInt = z3.toInt * 12 := mulc_t (by decide) (by omega) (by omega)
        have e2 : (z3 * 12 + z5).toInt = z3.toInt * 12 + z5.toInt := by rw [add_t (by omega) (by omega), e1]
        have ex : (z3 * 12 + z5).toNatClampNeg = z3.toNatClampNeg * 12 + z5.toNatClampNeg := by
          show (z3 * 12 + z5).toInt.toNat = z3.toInt.toNat * 12 + z5.toInt.toNat
          omega
        rw [ex] at j6
        have rb := rest_b hB (s := s) (k := z3.toNatClampNeg) (by omega) z5.toNatClampNeg (by omega)
        have wb := (hB z3.toNatClampNeg (by omega)).2 z5.toNatClampNeg (by omega)
        refine ih v6 (z5 + 1) (by rw [et]; omega) (by rw [et]; omega) ?_ h
        rw [en, rest_s, if_pos tb, j6, sub_t (by omega) (by omega), hr]
theorem cov2 {r : Int32} {s : Nat} {u u' : SX} (hI : IX u) (hB : RB u) (hs : s < 4096) (h27 : (u.1 27).toInt < (u.1 26).toInt ∨ (u.1 26).toInt = 0) : ∀ (n : Nat) (z2 : Int32), 0 ≤ z2.toInt → z2.toInt ≤ (u.1 26).toInt → (∀ k : Nat, (k : Int) < (u.1 26).toInt → ((u.1 27).toInt ≤ (k : Int) ∧ (k : Int) < (u.1 27).toInt + z2.toInt ∨ (k : Int) + (u.1 26).toInt < (u.1 27).toInt + z2.toInt) → rest u s k (u.1 10).toNatClampNeg ≤ 0) → LX0_covers_9_2 n (Int32.ofNat s) z2 u = some (r, u') → (r = 1 ∧ COV u (u.1 10).toNatClampNeg s ∧ u' = u) ∨ (r = 0 ∧ ¬ COV u (u.1 10).toNatClampNeg s ∧ ∃ y : Int32, u' = sI u 27 y ∧ 0 ≤ y.toInt ∧ y.toInt < (u.1 26).toInt) := by
  intro n
  induction n with
  | zero => intro z2 _ _ _ h; cases h
  | succ n ih =>
    intro z2 h0 h9 hb h
    have b26 : (u.1 26).toInt ≤ (80 : Int) := (hI.1 26).2
    have b27 : (0 : Int) ≤ (u.1 27).toInt := (hI.1 27).1
    have c27 : (u.1 27).toInt ≤ (79 : Int) := (hI.1 27).2
    have z10 : (0 : Int) ≤ (u.1 10).toInt := (hI.1 10).1
    have h : (if (u.1 26) ≤ z2 then (gd (isB 1) (some (1, u))) else (if (u.1 26) ≤ ((u.1 27) + z2) then (GX0_covers_9_43 (LX0_covers_9_2 n) (Int32.ofNat s) z2 (((u.1 27) + z2) - (u.1 26)) u) else (GX0_covers_9_43 (LX0_covers_9_2 n) (Int32.ofNat s) z2 ((u.1 27) + z2) u))) = some (r, u') := h
    by_cases c : u.1 26 ≤ z2
    · rw [if_pos c] at h
      have c9 := leI c
      obtain ⟨-, h⟩ := gd_some h
      have e : r = 1 ∧ u' = u := by cases h; exact ⟨rfl, rfl⟩
      refine Or.inl ⟨e.1, fun k hk => hb k hk ?_, e.2⟩
      omega
    · rw [if_neg c] at h
      have c9 := nleI c
      have et : (z2 + 1).toInt = z2.toInt + 1 := addc_t (by decide) (by omega) (by omega)
      have es : (u.1 27 + z2).toInt = (u.1 27).toInt + z2.toInt := add_t (by omega) (by omega)
      have go : ∀ y0 : Int32, 0 ≤ y0.toInt → y0.toInt < (u.1 26).toInt → (y0.toInt = (u.1 27).toInt + z2.toInt ∨ y0.toInt + (u.1 26).toInt = (u.1 27).toInt + z2.toInt) → GX0_covers_9_43 (LX0_covers_9_2 n) (Int32.ofNat s) z2 y0 u = some (r, u') → (r = 1 ∧ COV u (u.1 10).toNatClampNeg s ∧ u' = u) ∨ (r = 0 ∧ ¬ COV u (u.1 10).toNatClampNeg s ∧ ∃ y : Int32, u' = sI u 27 y ∧ 0 ≤ y.toInt ∧ y.toInt < (u.1 26).toInt) := by
        intro y0 y1 y2 y3 g
        have ty := tnS y1
        unfold GX0_covers_9_43 at g
        obtain ⟨-, g⟩ := gd_some g
        obtain ⟨v3, j3, g⟩ := lt_some g
        obtain ⟨y, ey, g⟩ := cov55 hI hB hs y1 y2 5000 v3 0 (by decide) z10 (by rw [j3]; rfl) g
        unfold GX0_covers_9_99 at g
        by_cases d : y ≤ 0
        · rw [if_pos d] at g
          have d9 : y.toInt ≤ (0 : Int) := leI d
          refine ih (z2 + 1) (by rw [et]; omega) (by rw [et]; omega) (fun k hk hx => ?_) g
          by_cases ck : k = y0.toNatClampNeg
          · rw [ck]
            omega
          · rw [et] at hx
            exact hb k hk (by omega)
        · rw [if_neg d] at g
          have d9 : ¬ y.toInt ≤ (0 : Int) := nleI d
          obtain ⟨u8, j8, g⟩ := lt_some g
          obtain ⟨-, g⟩ := gd_some g
          have e : r = 0 ∧ u8 = u' := by cases g; exact ⟨rfl, rfl⟩
          refine Or.inr ⟨e.1, fun z => ?_, y0, by rw [← e.2, j8], y1, y2⟩
          have := z y0.toNatClampNeg (by omega)
          omega
      by_cases d : u.1 26 ≤ u.1 27 + z2
      · rw [if_pos d] at h
        have d9 := leI d
        have e2 : (u.1 27 + z2 - u.1 26).toInt = (u.1 27).toInt + z2.toInt - (u.1 26).toInt := by rw [sub_t (by omega) (by omega), es]
        exact go _ (by omega) (by omega) (by omega) h
      · rw [if_neg d] at h
        have d9 := nleI d
        exact go _ (by omega) (by omega) (by omega) h
theorem covers_sp {r : Int32} {s : Nat} {u u' : SX} (hI : IX u) (hB : RB u) (hs : s < 4096) (h27 : (u.1 27).toInt < (u.1 26).toInt ∨ (u.1 26).toInt = 0) (h : fX0_covers_9 (Int32.ofNat s) u = some (r, u')) : (r = 1 ∧ COV u (u.1 10).toNatClampNeg s ∧ u' = u) ∨ (r = 0 ∧ ¬ COV u (u.1 10).toNatClampNeg s ∧ ∃ y : Int32, u' = sI u 27 y ∧ 0 ≤ y.toInt ∧ y.toInt < (u.1 26).toInt) := by
  unfold fX0_covers_9 at h
  have z26 : (0 : Int) ≤ (u.1 26).toInt := (hI.1 26).1
  exact cov2 hI hB hs h27 5000 0 (by decide) z26 (fun k hk hx => by
    have z0 : (0 : Int32).toInt = 0 := by decide
    rw [z0] at hx
    omega) h
