/-! Small rows that the rows of the houses want. -/
theorem win {x a b r : Int32} (h : fX11_within x a b = some r) : (r = 0 ∧ ¬ (a.toInt ≤ x.toInt ∧ x.toInt ≤ b.toInt)) ∨ (r = 1 ∧ a.toInt ≤ x.toInt ∧ x.toInt ≤ b.toInt) := by
  unfold fX11_within at h
  by_cases c : x < a
  · rw [if_pos c] at h
    have c9 := ltI c
    have e : (0 : Int32) = r := by cases (gd_some h).2; rfl
    exact Or.inl ⟨e.symm, by omega⟩
  · rw [if_neg c] at h
    have c9 := nltI c
    by_cases d : b < x
    · rw [if_pos d] at h
      have d9 := ltI d
      have e : (0 : Int32) = r := by cases (gd_some h).2; rfl
      exact Or.inl ⟨e.symm, by omega⟩
    · rw [if_neg d] at h
      have d9 := nltI d
      have e : (1 : Int32) = r := by cases (gd_some h).2; rfl
      exact Or.inr ⟨e.symm, by omega, by omega⟩
theorem inn {x a b r : Int32} (h : fX12_isIn x a b = some r) : (r = 0 ∧ ¬ (a.toInt ≤ x.toInt ∧ x.toInt ≤ b.toInt)) ∨ (r = 1 ∧ a.toInt ≤ x.toInt ∧ x.toInt ≤ b.toInt) := win (show fX11_within x a b = some r from h)
theorem isDayi {x r : Int32} {u u' : SX} (h : fX11_isDay_0 x u = some (r, u')) : u' = u ∧ ((r = 0 ∧ ¬ (0 ≤ x.toInt ∧ x.toInt ≤ (u.1 0).toInt)) ∨ (r = 1 ∧ 0 ≤ x.toInt ∧ x.toInt ≤ (u.1 0).toInt)) := by
  unfold fX11_isDay_0 at h
  obtain ⟨r1, a1, h⟩ := bd_some h
  obtain ⟨-, h⟩ := gd_some h
  have e : r1 = r ∧ u = u' := by cases h; exact ⟨rfl, rfl⟩
  rw [e.1] at a1
  exact ⟨e.2.symm, win a1⟩
theorem ne01 {r : Int32} (h : r = 1) : ¬ r = 0 := by rw [h]; decide
theorem updL_at {d : Nat → Int64} {n : Nat} {x : Int64} : vp_updL d n x n = x := by
  show (if n = n then x else d n) = x
  rw [if_pos rfl]
theorem updL_ne {d : Nat → Int64} {n i : Nat} {x : Int64} (h : ¬ i = n) : vp_updL d n x i = d i := by
  show (if i = n then x else d i) = d i
  rw [if_neg h]
theorem nar01 : vp_nar .boolean (0 : Int32) = 0 ∧ vp_nar .boolean (1 : Int32) = 1 := by decide
theorem ns1 {z : Int32} (h0 : 0 ≤ z.toInt) (h1 : z.toInt ≤ 5000) : (z + 1).toNatClampNeg = z.toNatClampNeg + 1 := by
  show (z + 1).toInt.toNat = z.toInt.toNat + 1
  rw [addc_t (n := 1) (by decide) (by omega) (by omega)]
  omega
theorem upd_at {d : Nat → Int32} {n : Nat} {x : Int32} : upd d n x n = x := by
  show (if n = n then x else d n) = x
  rw [if_pos rfl]
theorem upd_ne {d : Nat → Int32} {n i : Nat} {x : Int32} (h : ¬ i = n) : upd d n x i = d i := by
  show (if i = n then x else d i) = d i
  rw [if_neg h]
