/-! Both parsers: numbers and letters. -/
def NumB (z1 z2 : Int32) : Prop := 0 ≤ z1.toInt ∧ ((z2.toInt = 0 ∧ z1.toInt ≤ 0) ∨ (z2.toInt = 1 ∧ z1.toInt ≤ 9) ∨ (z2.toInt = 2 ∧ z1.toInt ≤ 99) ∨ (z2.toInt = 3 ∧ z1.toInt ≤ 999) ∨ (z2.toInt = 4 ∧ z1.toInt ≤ 9999))
/-- M's isDigit at a place that both stand at: no move, and what it says -/
theorem dig_eq {d r : Int32} {u v v' : SX} (hP : PR u v d) (h : fX12_isDigit_0 v = some (r, v')) : v' = v ∧ ((r = 0 ∧ ((u.1 1).toInt ≤ (u.1 4).toInt ∨ ((u.1 4).toInt < (u.1 1).toInt ∧ ((u.2.1 13 (u.1 4).toNatClampNeg).toInt < 48 ∨ 57 < (u.2.1 13 (u.1 4).toNatClampNeg).toInt)))) ∨ (r = 1 ∧ (u.1 4).toInt < (u.1 1).toInt ∧ 48 ≤ (u.2.1 13 (u.1 4).toNatClampNeg).toInt ∧ (u.2.1 13 (u.1 4).toNatClampNeg).toInt ≤ 57 ∧ v.2.1 1 (u.1 4).toNatClampNeg = u.2.1 13 (u.1 4).toNatClampNeg)) := by
  have hP0 := hP
  obtain ⟨pl, p2, p4, pt, p7, p6, p8, a0, a1, a2, pT⟩ := hP
  unfold fX12_isDigit_0 at h
  rw [← pl, p6, p4, z0add] at h
  by_cases e : u.1 1 ≤ u.1 4
  · rw [if_pos e] at h
    obtain ⟨-, h⟩ := gd_some h
    have e1 : (0 : Int32) = r ∧ v = v' := by cases h; exact ⟨rfl, rfl⟩
    exact ⟨e1.2.symm, Or.inl ⟨e1.1.symm, Or.inl (leI e)⟩⟩
  · rw [if_neg e, if_pos p2] at h
    have e9 : ¬ (u.1 1).toInt ≤ (u.1 4).toInt := nleI e
    obtain ⟨-, h⟩ := gd_some h
    obtain ⟨⟨b1, b2⟩, hm, hraw⟩ := PR_sgn hP0 (by omega)
    by_cases c1 : v.2.1 1 (u.1 4).toNatClampNeg < 48
    · rw [if_pos c1] at h
      obtain ⟨-, h⟩ := gd_some h
      have e1 : (0 : Int32) = r ∧ v = v' := by cases h; exact ⟨rfl, rfl⟩
      refine ⟨e1.2.symm, Or.inl ⟨e1.1.symm, Or.inr ⟨by omega, ?_⟩⟩⟩
      have c9 : (v.2.1 1 (u.1 4).toNatClampNeg).toInt < (48 : Int) := ltI c1
      rcases hraw with ⟨-, hr⟩ | ⟨hr, -⟩
      · rw [hr] at c9; exact Or.inl c9
      · exact Or.inr (by omega)
    · rw [if_neg c1, if_pos p2] at h
      obtain ⟨-, h⟩ := gd_some h
      have c9 : ¬ (v.2.1 1 (u.1 4).toNatClampNeg).toInt < (48 : Int) := nltI c1
      have hr : v.2.1 1 (u.1 4).toNatClampNeg = u.2.1 13 (u.1 4).toNatClampNeg := by
        rcases hraw with ⟨-, hr⟩ | ⟨-, hr⟩
        · exact hr
        · omega
      rw [hr] at c9
      by_cases c2 : 57 < v.2.1 1 (u.1 4).toNatClampNeg
      · rw [if_pos c2] at h
        obtain ⟨-, h⟩ := gd_some h
        have e1 : (0 : Int32) = r ∧ v = v' := by cases h; exact ⟨rfl, rfl⟩
        have c8 : (57 : Int) < (v.2.1 1 (u.1 4).toNatClampNeg).toInt := ltI c2
        rw [hr] at c8
        exact ⟨e1.2.symm, Or.inl ⟨e1.1.symm, Or.inr ⟨by omega, Or.inr c8⟩⟩⟩
      · rw [if_neg c2] at h
        obtain ⟨-, h⟩ := gd_some h
        have e1 : (1 : Int32) = r ∧ v = v' := by cases h; exact ⟨rfl, rfl⟩
        have c8 : ¬ (57 : Int) < (v.2.1 1 (u.1 4).toNatClampNeg).toInt := nltI c2
        rw [hr] at c8
        exact ⟨e1.2.symm, Or.inr ⟨e1.1.symm, by omega, by omega, by omega, hr⟩⟩
theorem dig_val {z1 c : Int32} (h0 : 0 ≤ z1.toInt) (h1 : z1.toInt ≤ 999) (c0 : 48 ≤ c.toInt) (c1 : c.toInt ≤ 57) : (z1 * 10 + c - 48).toInt = z1.toInt * 10 + c.toInt - 48 := by
  have m1 : (z1 * 10).toInt = z1.toInt * 10 := mulc_t (by decide) (by omega) (by omega)
  have m2 : (z1 * 10 + c).toInt = z1.toInt * 10 + c.toInt := by rw [add_t (by rw [m1]; omega) (by rw [m1]; omega), m1]
  clear m1
  rw [subc_t (n := 48) (by decide) (by rw [m2]; omega) (by rw [m2]; omega), m2]
/-- digits: X's number and M's loop -/
theorem num_eq {d : Int32} {rc : Nat → Int32 → SX → Option (Int32 × SX)} : ∀ (n m : Nat) (z1 z2 w : Int32) (u v u' v' : SX) (r r' : Int32), PR u v d → NumB z1 z2 → LX5_number_2_4 n z1 z2 u = some (r, u') → LX12_atom_0_97 rc (GX12_atom_0_117 rc) m w z2 v = some (r', v') → ((¬ r = -1 ∧ PR u' v' d) ∨ (r = -1 ∧ v'.1 7 = u'.1 4 ∧ 0 ≤ (u'.1 4).toInt)) ∧ (u.1 4).toInt ≤ (u'.1 4).toInt := by
  intro n
  induction n with
  | zero => intro m z1 z2 w u v u' v' r r' _ _ h; cases h
  | succ n ih =>
    intro m z1 z2 w u v u' v' r r' hP hN h1 h2
    cases m with
    | zero => cases h2
    | succ m =>
      have hP0 := hP
      obtain ⟨pl, p2, p4, pt, p7, p6, p8, a0, a1, a2, pT⟩ := hP
      have h1 : (if 4 < z2 then some (-1, u) else (if u.1 1 ≤ u.1 4 then GX5_number_2_39 (LX5_number_2_4 n) z1 z2 0 u else (gd (inb (u.1 4) 120) (GX5_number_2_39 (LX5_number_2_4 n) z1 z2 (u.2.1 13 (u.1 4).toNatClampNeg) u)))) = some (r, u') := h1
      have g4 : ¬ 4 < z2 := fun z => by
        have z9 : (4 : Int) < z2.toInt := ltI z
        obtain ⟨-, hN⟩ := hN
        omega
      rw [if_neg g4] at h1
      have h2 : ((fX12_isDigit_0 v).bind _) = some (r', v') := h2
      obtain ⟨⟨r7, v8⟩, a7, h2⟩ := bd_some h2
      obtain ⟨ev, hd⟩ := dig_eq hP0 a7
      rw [ev] at h2
      have h2 : (if r7 = 0 then some (w, v) else _) = some (r', v') := h2
      have nr : ¬ z1 = -1 := fun z => by
        have z9 : z1.toInt = (-1 : Int) := eqI z
        have := hN.1
        omega
      rcases hd with ⟨er, hd⟩ | ⟨er, hlt, hd1, hd2, hraw⟩
      · rw [if_pos er] at h2
        have e2 : v = v' := by cases h2; rfl
        rw [← e2]
        have key : some (z1, u) = some (r, u') := by
          rcases hd with hd | ⟨hd0, hd⟩
          · rw [if_pos (by exact Int32.le_iff_toInt_le.mpr hd)] at h1
            unfold GX5_number_2_39 at h1
            rw [if_pos (by decide)] at h1
            exact h1
          · rw [if_neg (fun z => by have := leI z; omega)] at h1
            obtain ⟨-, h1⟩ := gd_some h1
            unfold GX5_number_2_39 at h1
            rcases hd with hd | hd
            · rw [if_pos (by exact Int32.lt_iff_toInt_lt.mpr (show _ < (48 : Int) from hd))] at h1
              exact h1
            · rw [if_neg (fun z => by have z9 : _ < (48 : Int) := ltI z; omega), if_neg (fun z => by have z9 : _ ≤ (57 : Int) := leI z; omega)] at h1
              exact h1
        have e1 : z1 = r ∧ u = u' := by cases key; exact ⟨rfl, rfl⟩
        rw [← e1.1, ← e1.2]
        exact ⟨Or.inl ⟨nr, hP0⟩, Int.le_refl _⟩
      · rw [if_neg (by rw [er]; decide), if_pos p7] at h2
        rw [if_neg (fun z => by have := leI z; omega)] at h1
        obtain ⟨-, h1⟩ := gd_some h1
        unfold GX5_number_2_39 at h1
        rw [if_neg (fun z => by have z9 : _ < (48 : Int) := ltI z; omega), if_pos (by exact Int32.le_iff_toInt_le.mpr (show _ ≤ (57 : Int) from hd2))] at h1
        have e5 : (u.1 4 + 1).toInt = (u.1 4).toInt + 1 := addc_t (by decide) (by omega) (by omega)
        by_cases c4 : z2 = 4
        · rw [if_pos c4] at h1 h2
          unfold GX12_atom_0_117 at h2
          obtain ⟨⟨r20, v21⟩, a20, h2⟩ := bd_some h2
          have e1 : (-1 : Int32) = r ∧ u = u' := by cases h1; exact ⟨rfl, rfl⟩
          have e2 : v21 = v' := by cases h2; rfl
          obtain ⟨-, f2⟩ := fails_at p7 a20
          rw [← e1.1, ← e1.2, ← e2, f2]
          exact ⟨Or.inr ⟨rfl, p6, a0⟩, Int.le_refl _⟩
        · rw [if_neg c4] at h1 h2
          rw [if_pos p2] at h2
          obtain ⟨-, h2⟩ := gd_some h2
          obtain ⟨w1, j1, h1⟩ := lt_some h1
          obtain ⟨u3, j3, h1⟩ := lt_some h1
          obtain ⟨w2, i1, h2⟩ := lt_some h2
          obtain ⟨v3, i3, h2⟩ := lt_some h2
          rw [p6] at i3
          have c49 : ¬ z2.toInt = (4 : Int) := neI c4
          obtain ⟨n0, n1⟩ := hN
          have m3 : w1.toInt = z1.toInt * 10 + (u.2.1 13 (u.1 4).toNatClampNeg).toInt - 48 := by
            rw [j1]
            exact dig_val n0 (by omega) hd1 hd2
          have m4 : (z2 + 1).toInt = z2.toInt + 1 := addc_t (by decide) (by omega) (by omega)
          have hN' : NumB w1 (z2 + 1) := by
            unfold NumB
            rw [m4]
            omega
          have q := ih m w1 (z2 + 1) w2 u3 v3 u' v' r r' (by rw [j3, i3]; exact PR_at hP0 (by rw [e5]; omega) (by rw [e5]; omega)) hN' h1 h2
          refine ⟨q.1, ?_⟩
          have q2 := q.2
          have k : u3.1 4 = u.1 4 + 1 := by rw [j3]; rfl
          rw [k, e5] at q2
          omega
set_option maxRecDepth 100000 in
theorem ix0 : ∀ n : Fin 256, fJ0_indexOf_0f7a4_s0 ((Int32.ofNat n.val).toUInt32 % 65536).toInt32 = fJ0_indexOf_0f7a4_s4 (Int32.ofNat n.val) := by decide +kernel
set_option maxRecDepth 100000 in
theorem ix1 : ∀ n : Fin 256, fJ0_indexOf_0f7a4_s1 ((Int32.ofNat n.val).toUInt32 % 65536).toInt32 = fJ0_indexOf_0f7a4_s5 (Int32.ofNat n.val) := by decide +kernel
set_option maxRecDepth 100000 in
theorem ix2 : ∀ n : Fin 256, fJ0_indexOf_0f7a4_s2 ((Int32.ofNat n.val).toUInt32 % 65536).toInt32 = fJ0_indexOf_0f7a4_s6 (Int32.ofNat n.val) := by decide +kernel
theorem fin_of {c : Int32} (h0 : 0 ≤ c.toInt) (h1 : c.toInt ≤ 255) : ∃ n : Fin 256, c = Int32.ofNat n.val := by
  refine ⟨⟨c.toInt.toNat, by omega⟩, ?_⟩
  apply Int32.toInt.inj
  show c.toInt = (Int32.ofNat c.toInt.toNat).toInt
  rw [Int32.toInt_ofNat_of_lt (by omega)]
  omega
