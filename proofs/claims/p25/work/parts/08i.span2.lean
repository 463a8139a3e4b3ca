/-! Rows up to a day; what was last recalled. -/
theorem rup25_31 : ∀ (n : Nat) (z0 z4 N : Int32) (u u' : SX) (r : Int32), 0 ≤ z4.toInt → z4.toInt ≤ N.toInt → N.toInt ≤ 12 → (z4.toInt < N.toInt → z0.toInt < (u.2.1 25 z4.toNatClampNeg).toInt) → LX11_rowsUpTo_a25_31 n z0 z4 u = some (r, u') → u' = u ∧ UpTo (u.2.1 25) z0 N r := by
  intro n
  induction n with
  | zero => intro z0 z4 N u u' r _ _ _ _ h; cases h
  | succ n ih =>
    intro z0 z4 N u u' r h0 h1 h9 hd h
    have h : (if z4 ≤ 0 then (some (z4, u)) else (gd (inb (z4 - 1) 12) (if (u.2.1 25 (z4 - 1).toNatClampNeg) ≤ z0 then (some (z4, u)) else (LX11_rowsUpTo_a25_31 n z0 (z4 + (-1)) u)))) = some (r, u') := h
    by_cases c : z4 ≤ 0
    · rw [if_pos c] at h
      have c9 : z4.toInt ≤ (0 : Int) := leI c
      have e : z4 = r ∧ u = u' := by cases h; exact ⟨rfl, rfl⟩
      rw [← e.1, ← e.2]
      exact ⟨rfl, h0, h1, hd, fun i hi => by omega⟩
    · rw [if_neg c] at h
      have c9 : ¬ z4.toInt ≤ (0 : Int) := nleI c
      obtain ⟨-, h⟩ := gd_some h
      have e1 : (z4 - 1).toInt = z4.toInt - 1 := subc_t (by decide) (by omega) (by omega)
      by_cases d : u.2.1 25 (z4 - 1).toNatClampNeg ≤ z0
      · rw [if_pos d] at h
        have d9 := leI d
        have e : z4 = r ∧ u = u' := by cases h; exact ⟨rfl, rfl⟩
        rw [← e.1, ← e.2]
        refine ⟨rfl, h0, h1, hd, fun i hi => ?_⟩
        have ei : i = (z4 - 1).toNatClampNeg := by
          show i = (z4 - 1).toInt.toNat
          rw [e1]
          omega
        rw [ei]
        exact d9
      · rw [if_neg d] at h
        have d9 := nleI d
        have e2 : (z4 + (-1)).toInt = z4.toInt + (-1) := addc_t (by decide) (by omega) (by omega)
        have e3 : (z4 + (-1)) = z4 - 1 := Int32.toInt.inj (by rw [e2, e1]; omega)
        rw [e3] at h
        exact ih z0 (z4 - 1) N u u' r (by rw [e1]; omega) (by rw [e1]; omega) h9 (fun _ => by omega) h
theorem rup25_11 {k31 : Int32 → Int32 → SX → Option (Int32 × SX)} : ∀ (n : Nat) (z0 z2 z4 : Int32) (u u' : SX) (r : Int32), 0 ≤ z4.toInt → z4.toInt ≤ z2.toInt → z2.toInt ≤ 12 → LX11_rowsUpTo_a25_11 k31 n z0 z2 z4 u = some (r, u') → ∃ z : Int32, 0 ≤ z.toInt ∧ z.toInt ≤ z2.toInt ∧ (z.toInt < z2.toInt → z0.toInt < (u.2.1 25 z.toNatClampNeg).toInt) ∧ k31 z0 z u = some (r, u') := by
  intro n
  induction n with
  | zero => intro z0 z2 z4 u u' r _ _ _ h; cases h
  | succ n ih =>
    intro z0 z2 z4 u u' r h0 h1 h9 h
    have h : (if z2 ≤ z4 then (k31 z0 z4 u) else (gd (inb z4 12) (if z0 < (u.2.1 25 z4.toNatClampNeg) then (k31 z0 z4 u) else (LX11_rowsUpTo_a25_11 k31 n z0 z2 (z4 + 1) u)))) = some (r, u') := h
    by_cases c : z2 ≤ z4
    · rw [if_pos c] at h
      have c9 := leI c
      exact ⟨z4, h0, h1, fun z => absurd z (by omega), h⟩
    · rw [if_neg c] at h
      have c9 := nleI c
      obtain ⟨-, h⟩ := gd_some h
      by_cases d : z0 < u.2.1 25 z4.toNatClampNeg
      · rw [if_pos d] at h
        exact ⟨z4, h0, h1, fun _ => ltI d, h⟩
      · rw [if_neg d] at h
        have e3 : (z4 + 1).toInt = z4.toInt + 1 := addc_t (by decide) (by omega) (by omega)
        exact ih z0 z2 (z4 + 1) u u' r (by rw [e3]; omega) (by rw [e3]; omega) h9 h
theorem rup25 {x0 x2 x3 r : Int32} {u u' : SX} (h0 : 0 ≤ x2.toInt) (h9 : x2.toInt ≤ 12) (h : fX11_rowsUpTo_a25 x0 x2 x3 u = some (r, u')) : u' = u ∧ UpTo (u.2.1 25) x0 x2 r := by
  unfold fX11_rowsUpTo_a25 at h
  obtain ⟨v1, e1, h⟩ := lt_some h
  have b : 0 ≤ v1.toInt ∧ v1.toInt ≤ x2.toInt := by
    rw [e1]
    by_cases c : x2 < x3
    · rw [if_pos c]
      by_cases d : 0 < x2
      · rw [if_pos d]
        exact ⟨h0, Int.le_refl _⟩
      · rw [if_neg d]
        exact ⟨by decide, h0⟩
    · rw [if_neg c]
      have c9 := nltI c
      by_cases d : 0 < x3
      · rw [if_pos d]
        have d9 : (0 : Int) < x3.toInt := ltI d
        exact ⟨by omega, by omega⟩
      · rw [if_neg d]
        exact ⟨by decide, h0⟩
  obtain ⟨z, a1, a2, a3, h⟩ := rup25_11 5000 x0 x2 v1 u u' r b.1 b.2 h9 h
  exact rup25_31 5000 x0 z x2 u u' r a1 a2 h9 a3 h
theorem rup34_31 : ∀ (n : Nat) (z0 z4 N : Int32) (u u' : SX) (r : Int32), 0 ≤ z4.toInt → z4.toInt ≤ N.toInt → N.toInt ≤ 30 → (z4.toInt < N.toInt → z0.toInt < (u.2.1 34 z4.toNatClampNeg).toInt) → LX11_rowsUpTo_a34_31 n z0 z4 u = some (r, u') → u' = u ∧ UpTo (u.2.1 34) z0 N r := by
  intro n
  induction n with
  | zero => intro z0 z4 N u u' r _ _ _ _ h; cases h
  | succ n ih =>
    intro z0 z4 N u u' r h0 h1 h9 hd h
    have h : (if z4 ≤ 0 then (some (z4, u)) else (gd (inb (z4 - 1) 30) (if (u.2.1 34 (z4 - 1).toNatClampNeg) ≤ z0 then (some (z4, u)) else (LX11_rowsUpTo_a34_31 n z0 (z4 + (-1)) u)))) = some (r, u') := h
    by_cases c : z4 ≤ 0
    · rw [if_pos c] at h
      have c9 : z4.toInt ≤ (0 : Int) := leI c
      have e : z4 = r ∧ u = u' := by cases h; exact ⟨rfl, rfl⟩
      rw [← e.1, ← e.2]
      exact ⟨rfl, h0, h1, hd, fun i hi => by omega⟩
    · rw [if_neg c] at h
      have c9 : ¬ z4.toInt ≤ (0 : Int) := nleI c
      obtain ⟨-, h⟩ := gd_some h
      have e1 : (z4 - 1).toInt = z4.toInt - 1 := subc_t (by decide) (by omega) (by omega)
      by_cases d : u.2.1 34 (z4 - 1).toNatClampNeg ≤ z0
      · rw [if_pos d] at h
        have d9 := leI d
        have e : z4 = r ∧ u = u' := by cases h; exact ⟨rfl, rfl⟩
        rw [← e.1, ← e.2]
        refine ⟨rfl, h0, h1, hd, fun i hi => ?_⟩
        have ei : i = (z4 - 1).toNatClampNeg := by
          show i = (z4 - 1).toInt.toNat
          rw [e1]
          omega
        rw [ei]
        exact d9
      · rw [if_neg d] at h
        have d9 := nleI d
        have e2 : (z4 + (-1)).toInt = z4.toInt + (-1) := addc_t (by decide) (by omega) (by omega)
        have e3 : (z4 + (-1)) = z4 - 1 := Int32.toInt.inj (by rw [e2, e1]; omega)
        rw [e3] at h
        exact ih z0 (z4 - 1) N u u' r (by rw [e1]; omega) (by rw [e1]; omega) h9 (fun _ => by omega) h
theorem rup34_11 {k31 : Int32 → Int32 → SX → Option (Int32 × SX)} : ∀ (n : Nat) (z0 z2 z4 : Int32) (u u' : SX) (r : Int32), 0 ≤ z4.toInt → z4.toInt ≤ z2.toInt → z2.toInt ≤ 30 → LX11_rowsUpTo_a34_11 k31 n z0 z2 z4 u = some (r, u') → ∃ z : Int32, 0 ≤ z.toInt ∧ z.toInt ≤ z2.toInt ∧ (z.toInt < z2.toInt → z0.toInt < (u.2.1 34 z.toNatClampNeg).toInt) ∧ k31 z0 z u = some (r, u') := by
  intro n
  induction n with
  | zero => intro z0 z2 z4 u u' r _ _ _ h; cases h
  | succ n ih =>
    intro z0 z2 z4 u u' r h0 h1 h9 h
    have h : (if z2 ≤ z4 then (k31 z0 z4 u) else (gd (inb z4 30) (if z0 < (u.2.1 34 z4.toNatClampNeg) then (k31 z0 z4 u) else (LX11_rowsUpTo_a34_11 k31 n z0 z2 (z4 + 1) u)))) = some (r, u') := h
    by_cases c : z2 ≤ z4
    · rw [if_pos c] at h
      have c9 := leI c
      exact ⟨z4, h0, h1, fun z => absurd z (by omega), h⟩
    · rw [if_neg c] at h
      have c9 := nleI c
      obtain ⟨-, h⟩ := gd_some h
      by_cases d : z0 < u.2.1 34 z4.toNatClampNeg
      · rw [if_pos d] at h
        exact ⟨z4, h0, h1, fun _ => ltI d, h⟩
      · rw [if_neg d] at h
        have e3 : (z4 + 1).toInt = z4.toInt + 1 := addc_t (by decide) (by omega) (by omega)
        exact ih z0 z2 (z4 + 1) u u' r (by rw [e3]; omega) (by rw [e3]; omega) h9 h
theorem rup34 {x0 x2 x3 r : Int32} {u u' : SX} (h0 : 0 ≤ x2.toInt) (h9 : x2.toInt ≤ 30) (h : fX11_rowsUpTo_a34 x0 x2 x3 u = some (r, u')) : u' = u ∧ UpTo (u.2.1 34) x0 x2 r := by
  unfold fX11_rowsUpTo_a34 at h
  obtain ⟨v1, e1, h⟩ := lt_some h
  have b : 0 ≤ v1.toInt ∧ v1.toInt ≤ x2.toInt := by
    rw [e1]
    by_cases c : x2 < x3
    · rw [if_pos c]
      by_cases d : 0 < x2
      · rw [if_pos d]
        exact ⟨h0, Int.le_refl _⟩
      · rw [if_neg d]
        exact ⟨by decide, h0⟩
    · rw [if_neg c]
      have c9 := nltI c
      by_cases d : 0 < x3
      · rw [if_pos d]
        have d9 : (0 : Int) < x3.toInt := ltI d
        exact ⟨by omega, by omega⟩
      · rw [if_neg d]
        exact ⟨by decide, h0⟩
  obtain ⟨z, a1, a2, a3, h⟩ := rup34_11 5000 x0 x2 v1 u u' r b.1 b.2 h9 h
  exact rup34_31 5000 x0 z x2 u u' r a1 a2 h9 a3 h
theorem rup37_31 : ∀ (n : Nat) (z0 z4 N : Int32) (u u' : SX) (r : Int32), 0 ≤ z4.toInt → z4.toInt ≤ N.toInt → N.toInt ≤ 80 → (z4.toInt < N.toInt → z0.toInt < (u.2.1 37 z4.toNatClampNeg).toInt) → LX11_rowsUpTo_a37_31 n z0 z4 u = some (r, u') → u' = u ∧ UpTo (u.2.1 37) z0 N r := by
  intro n
  induction n with
  | zero => intro z0 z4 N u u' r _ _ _ _ h; cases h
  | succ n ih =>
    intro z0 z4 N u u' r h0 h1 h9 hd h
    have h : (if z4 ≤ 0 then (some (z4, u)) else (gd (inb (z4 - 1) 80) (if (u.2.1 37 (z4 - 1).toNatClampNeg) ≤ z0 then (some (z4, u)) else (LX11_rowsUpTo_a37_31 n z0 (z4 + (-1)) u)))) = some (r, u') := h
    by_cases c : z4 ≤ 0
    · rw [if_pos c] at h
      have c9 : z4.toInt ≤ (0 : Int) := leI c
      have e : z4 = r ∧ u = u' := by cases h; exact ⟨rfl, rfl⟩
      rw [← e.1, ← e.2]
      exact ⟨rfl, h0, h1, hd, fun i hi => by omega⟩
    · rw [if_neg c] at h
      have c9 : ¬ z4.toInt ≤ (0 : Int) := nleI c
      obtain ⟨-, h⟩ := gd_some h
      have e1 : (z4 - 1).toInt = z4.toInt - 1 := subc_t (by decide) (by omega) (by omega)
      by_cases d : u.2.1 37 (z4 - 1).toNatClampNeg ≤ z0
      · rw [if_pos d] at h
        have d9 := leI d
        have e : z4 = r ∧ u = u' := by cases h; exact ⟨rfl, rfl⟩
        rw [← e.1, ← e.2]
        refine ⟨rfl, h0, h1, hd, fun i hi => ?_⟩
        have ei : i = (z4 - 1).toNatClampNeg := by
          show i = (z4 - 1).toInt.toNat
          rw [e1]
          omega
        rw [ei]
        exact d9
      · rw [if_neg d] at h
        have d9 := nleI d
        have e2 : (z4 + (-1)).toInt = z4.toInt + (-1) := addc_t (by decide) (by omega) (by omega)
        have e3 : (z4 + (-1)) = z4 - 1 := Int32.toInt.inj (by rw [e2, e1]; omega)
        rw [e3] at h
        exact ih z0 (z4 - 1) N u u' r (by rw [e1]; omega) (by rw [e1]; omega) h9 (fun _ => by omega) h
theorem rup37_11 {k31 : Int32 → Int32 → SX → Option (Int32 × SX)} : ∀ (n : Nat) (z0 z2 z4 : Int32) (u u' : SX) (r : Int32), 0 ≤ z4.toInt → z4.toInt ≤ z2.toInt → z2.toInt ≤ 80 → LX11_rowsUpTo_a37_11 k31 n z0 z2 z4 u = some (r, u') → ∃ z : Int32, 0 ≤ z.toInt ∧ z.toInt ≤ z2.toInt ∧ (z.toInt < z2.toInt → z0.toInt < (u.2.1 37 z.toNatClampNeg).toInt) ∧ k31 z0 z u = some (r, u') := by
  intro n
  induction n with
  | zero => intro z0 z2 z4 u u' r _ _ _ h; cases h
  | succ n ih =>
    intro z0 z2 z4 u u' r h0 h1 h9 h
    have h : (if z2 ≤ z4 then (k31 z0 z4 u) else (gd (inb z4 80) (if z0 < (u.2.1 37 z4.toNatClampNeg) then (k31 z0 z4 u) else (LX11_rowsUpTo_a37_11 k31 n z0 z2 (z4 + 1) u)))) = some (r, u') := h
    by_cases c : z2 ≤ z4
    · rw [if_pos c] at h
      have c9 := leI c
      exact ⟨z4, h0, h1, fun z => absurd z (by omega), h⟩
    · rw [if_neg c] at h
      have c9 := nleI c
      obtain ⟨-, h⟩ := gd_some h
      by_cases d : z0 < u.2.1 37 z4.toNatClampNeg
      · rw [if_pos d] at h
        exact ⟨z4, h0, h1, fun _ => ltI d, h⟩
      · rw [if_neg d] at h
        have e3 : (z4 + 1).toInt = z4.toInt + 1 := addc_t (by decide) (by omega) (by omega)
        exact ih z0 z2 (z4 + 1) u u' r (by rw [e3]; omega) (by rw [e3]; omega) h9 h
theorem rup37 {x0 x2 x3 r : Int32} {u u' : SX} (h0 : 0 ≤ x2.toInt) (h9 : x2.toInt ≤ 80) (h : fX11_rowsUpTo_a37 x0 x2 x3 u = some (r, u')) : u' = u ∧ UpTo (u.2.1 37) x0 x2 r := by
  unfold fX11_rowsUpTo_a37 at h
  obtain ⟨v1, e1, h⟩ := lt_some h
  have b : 0 ≤ v1.toInt ∧ v1.toInt ≤ x2.toInt := by
    rw [e1]
    by_cases c : x2 < x3
    · rw [if_pos c]
      by_cases d : 0 < x2
      · rw [if_pos d]
        exact ⟨h0, Int.le_refl _⟩
      · rw [if_neg d]
        exact ⟨by decide, h0⟩
    · rw [if_neg c]
      have c9 := nltI c
      by_cases d : 0 < x3
      · rw [if_pos d]
        have d9 : (0 : Int) < x3.toInt := ltI d
        exact ⟨by omega, by omega⟩
      · rw [if_neg d]
        exact ⟨by decide, h0⟩
  obtain ⟨z, a1, a2, a3, h⟩ := rup37_11 5000 x0 x2 v1 u u' r b.1 b.2 h9 h
  exact rup37_31 5000 x0 z x2 u u' r a1 a2 h9 a3 h
def CX (u : SX) : Prop := (u.1 10).toInt ≤ (u.1 8).toInt ∧ (u.1 11).toInt ≤ (u.1 12).toInt ∧ ∀ i : Nat, (i : Int) < (u.1 10).toInt → (u.2.1 27 i, u.2.1 28 i) = spX u (u.1 11).toNatClampNeg i
theorem CX_fr {u u' : SX} (h8 : u'.1 8 = u.1 8) (h10 : u'.1 10 = u.1 10) (h11 : u'.1 11 = u.1 11) (h12 : u'.1 12 = u.1 12) (r27 : u'.2.1 27 = u.2.1 27) (r28 : u'.2.1 28 = u.2.1 28) (r29 : u'.2.1 29 = u.2.1 29) (r30 : u'.2.1 30 = u.2.1 30) (r31 : u'.2.1 31 = u.2.1 31) (r32 : u'.2.1 32 = u.2.1 32) (r33 : u'.2.1 33 = u.2.1 33) (r35 : u'.2.1 35 = u.2.1 35) (h : CX u) : CX u' := by
  unfold CX spX at h ⊢
  rw [h8, h10, h11, h12, r27, r28, r29, r30, r31, r32, r33, r35]
  exact h
theorem recall_sp {x1 r : Int32} {u u' : SX} (hI : IX u) (hC : CX u) (h : fX6_recall_6 x1 u = some (r, u')) : (∀ j, Nat.beq j 10 = false → Nat.beq j 11 = false → u'.1 j = u.1 j) ∧ (∀ j, Nat.beq j 27 = false → Nat.beq j 28 = false → u'.2.1 j = u.2.1 j) ∧ UpTo (u.2.1 25) x1 (u.1 8) (u'.1 10) ∧ UpTo (u.2.1 34) x1 (u.1 12) (u'.1 11) ∧ CX u' := by
  have b8 : 0 ≤ (u.1 8).toInt ∧ (u.1 8).toInt ≤ 12 := hI.1 8
  have b12 : 0 ≤ (u.1 12).toInt ∧ (u.1 12).toInt ≤ 30 := hI.1 12
  unfold fX6_recall_6 at h
  obtain ⟨⟨r1, u2⟩, a1, h⟩ := bd_some h
  obtain ⟨s1, k1⟩ := rup25 b8.1 b8.2 a1
  rw [s1] at h
  obtain ⟨⟨r4, u5⟩, a4, h⟩ := bd_some h
  obtain ⟨s4, k4⟩ := rup34 b12.1 b12.2 a4
  rw [s4] at h
  have h : (if r1 = u.1 10 then (if r4 = u.1 11 then (some (0, u)) else (GX6_recall_6_51 r1 r4 u)) else (GX6_recall_6_51 r1 r4 u)) = some (r, u') := h
  have go : GX6_recall_6_51 r1 r4 u = some (r, u') → (∀ j, Nat.beq j 10 = false → Nat.beq j 11 = false → u'.1 j = u.1 j) ∧ (∀ j, Nat.beq j 27 = false → Nat.beq j 28 = false → u'.2.1 j = u.2.1 j) ∧ UpTo (u.2.1 25) x1 (u.1 8) (u'.1 10) ∧ UpTo (u.2.1 34) x1 (u.1 12) (u'.1 11) ∧ CX u' := fun g => by
    unfold GX6_recall_6_51 at g
    obtain ⟨u7, e7, g⟩ := lt_some g
    obtain ⟨u9, e9, g⟩ := lt_some g
    have p10 : u9.1 10 = r1 := by rw [e9, e7]; rfl
    have p11 : u9.1 11 = r4 := by rw [e9]; rfl
    have pf : ∀ j, Nat.beq j 10 = false → Nat.beq j 11 = false → u9.1 j = u.1 j := fun j j1 j2 => by
      rw [e9, e7]
      show (bif Nat.beq j 11 then r4 else (bif Nat.beq j 10 then r1 else u.1 j)) = u.1 j
      rw [j1, j2]
      rfl
    have pr : u9.2.1 = u.2.1 := by rw [e9, e7]; rfl
    clear e7 e9
    have q1 := k1.1
    have q2 := k1.2.1
    have q3 := k4.1
    have q4 := k4.2.1
    obtain ⟨w, w1, w2, w3, g⟩ := rec64 5000 0 u9 u' r (by decide) (by decide) (by rw [p10]; omega) g
    unfold GX6_recall_6_107 at g
    have f11 : w.1 11 = r4 := by rw [w1]; exact p11
    obtain ⟨g1, g2, g3⟩ := rec110 5000 0 w u' r (by decide) (by rw [f11]; exact q3) (by rw [f11]; omega) g
    have fld : ∀ j, Nat.beq j 10 = false → Nat.beq j 11 = false → u'.1 j = u.1 j := fun j j1 j2 => by
      rw [g1, w1]
      exact pf j j1 j2
    have row : ∀ j, Nat.beq j 27 = false → Nat.beq j 28 = false → u'.2.1 j = u.2.1 j := fun j j1 j2 => by
      rw [g2 j j1 j2, w2 j j1 j2, pr]
    have f10 : u'.1 10 = r1 := by rw [g1, w1]; exact p10
    have f11' : u'.1 11 = r4 := by rw [g1]; exact f11
    have es : spX w = spX u' := by
      unfold spX
      rw [g2 29 rfl rfl, g2 30 rfl rfl, g2 31 rfl rfl, g2 32 rfl rfl, g2 33 rfl rfl, g2 35 rfl rfl]
    refine ⟨fld, row, by rw [f10]; exact k1, by rw [f11']; exact k4, by rw [f10, fld 8 rfl rfl]; exact q2, by rw [f11', fld 12 rfl rfl]; exact q4, fun i hi => ?_⟩
    rw [f10] at hi
    obtain ⟨y1, y2⟩ := w3 i (by rw [p10]; exact hi) (Or.inl (by show (0 : Int) ≤ _; omega))
    have q := g3 i (by
      show (w.2.1 27 i, w.2.1 28 i) = (w.2.1 29 i, w.2.1 30 i)
      rw [y1, y2, w2 29 rfl rfl, w2 30 rfl rfl])
    rw [es, f11] at q
    rw [f11']
    exact q
  by_cases c1 : r1 = u.1 10
  · rw [if_pos c1] at h
    by_cases c4 : r4 = u.1 11
    · rw [if_pos c4] at h
      have e : u = u' := by cases h; rfl
      rw [← e]
      exact ⟨fun _ _ _ => rfl, fun _ _ _ => rfl, by rw [← c1]; exact k1, by rw [← c4]; exact k4, hC⟩
    · rw [if_neg c4] at h
      exact go h
  · rw [if_neg c1] at h
    exact go h
