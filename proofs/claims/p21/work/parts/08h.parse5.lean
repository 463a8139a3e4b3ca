/-! Both parsers: comparisons and units. -/
theorem pk2 {d : Int32} {u v u' : SX} {c c' c2 : Int32} (hP : PR u v d) (hq : PKQ c c' u) : ∀ m, LX5_peek_2_0 GX5_peek_2_44 m u = some (c2, u') → c2 = c ∧ u' = u := by
  intro m h
  cases m with
  | zero => cases h
  | succ m =>
    have h : (if u.1 1 ≤ u.1 4 then GX5_peek_2_44 u else (gd (inb (u.1 4) 120) (if u.2.1 13 (u.1 4).toNatClampNeg = 32 then lt (sI u 4 (u.1 4 + 1)) (fun u2 => LX5_peek_2_0 GX5_peek_2_44 m u2) else GX5_peek_2_44 u))) = some (c2, u') := h
    rcases hq with ⟨q1, q2, q3⟩ | ⟨q1, q2, q3, q4, q5, q6⟩
    · have e : u.1 1 ≤ u.1 4 := Int32.le_iff_toInt_le.mpr (by omega)
      rw [if_pos e] at h
      unfold GX5_peek_2_44 at h
      rw [if_pos e] at h
      have e1 : (0 : Int32) = c2 ∧ u = u' := by cases h; exact ⟨rfl, rfl⟩
      exact ⟨by rw [← e1.1, q1], e1.2.symm⟩
    · have e : ¬ u.1 1 ≤ u.1 4 := fun z => by
        have := leI z
        omega
      rw [if_neg e] at h
      obtain ⟨-, h⟩ := gd_some h
      rw [if_neg (by rw [← q5]; exact q6)] at h
      unfold GX5_peek_2_44 at h
      rw [if_neg e] at h
      obtain ⟨-, h⟩ := gd_some h
      have e1 : u.2.1 13 (u.1 4).toNatClampNeg = c2 ∧ u = u' := by cases h; exact ⟨rfl, rfl⟩
      exact ⟨by rw [← e1.1, q5], e1.2.symm⟩
theorem peek2 {d : Int32} {u v u' : SX} {c c' c2 : Int32} (hP : PR u v d) (hq : PKQ c c' u) (h : fX5_peek_2 u = some (c2, u')) : c2 = c ∧ u' = u := pk2 hP hq 5000 h
theorem sgn_eq {c c' x y : Int32} {u : SX} (hq : PKQ c c' u) (h1 : fX5_compares c = some x) (h2 : fX12_isSign c' = some y) : x = y ∧ (¬ x = 0 → (u.1 4).toInt < (u.1 1).toInt) := by
  rcases hq with ⟨q1, q2, -⟩ | ⟨q1, -, -, q4, -⟩
  · rw [q1] at h1
    rw [q2] at h2
    have e1 : fX5_compares 0 = some 0 := by decide +kernel
    have e2 : fX12_isSign (-1) = some 0 := by decide +kernel
    have a : (0 : Int32) = x := Option.some.inj (e1.symm.trans h1)
    have b : (0 : Int32) = y := Option.some.inj (e2.symm.trans h2)
    exact ⟨a.symm.trans b, fun z => absurd a.symm z⟩
  · rw [← q1] at h2
    exact ⟨Option.some.inj (h1.symm.trans (show fX5_compares c = some y from h2)), fun _ => q4⟩
/-- a comparison's sign and its second sum -/
theorem cmp_eq {dX : Nat} {k y0 r r' : Int32} {u v u' v' : SX} (hk : Dp k) (hP : PR u v k) (h1 : GX5_unit_2_116 (rX5conditiong dX) k u = some (r, u')) (h2 : GX12_compares_0_12 y0 v = some (r', v')) : POST r u' v' k ∧ (u.1 4).toInt ≤ (u'.1 4).toInt := by
  have p7 : v.1 7 = -1 := hP.2.2.2.2.1
  unfold GX5_unit_2_116 at h1
  unfold GX12_compares_0_12 at h2
  rw [if_pos p7] at h2
  obtain ⟨⟨c, u5⟩, a4, h1⟩ := bd_some h1
  obtain ⟨⟨c', v5⟩, b4, h2⟩ := bd_some h2
  obtain ⟨hP5, hle, hq⟩ := peek_eq hP a4 b4
  obtain ⟨x7, a7, h1⟩ := bd_some h1
  obtain ⟨y7, b7, h2⟩ := bd_some h2
  obtain ⟨exy, hlt⟩ := sgn_eq hq a7 b7
  rw [← exy] at h2
  by_cases z : x7 = 0
  · rw [if_pos z] at h1 h2
    obtain ⟨-, h1⟩ := gd_some h1
    obtain ⟨⟨r21, v22⟩, b21, h2⟩ := bd_some h2
    obtain ⟨-, h2⟩ := gd_some h2
    have hpost := fail_post hP5 b21
    have e1 : (0 : Int32) = r ∧ u5 = u' := by cases h1; exact ⟨rfl, rfl⟩
    have e2 : v22 = v' := by cases h2; rfl
    rw [← e1.1, ← e1.2, ← e2]
    exact ⟨hpost, hle⟩
  · rw [if_neg z] at h1 h2
    have hl := hlt z
    have b2 : (u5.1 1).toInt ≤ 120 := hP5.2.2.2.2.2.2.2.2.2.1
    have b0 : 0 ≤ (u5.1 4).toInt := hP5.2.2.2.2.2.2.2.1
    have p6 : v5.1 6 = u5.1 4 := hP5.2.2.2.2.2.1
    have e5 : (u5.1 4 + 1).toInt = (u5.1 4).toInt + 1 := addc_t (by decide) (by omega) (by omega)
    obtain ⟨u10, j10, h1⟩ := lt_some h1
    obtain ⟨v10, i10, h2⟩ := lt_some h2
    obtain ⟨⟨r12, u13⟩, a12, h1⟩ := bd_some h1
    obtain ⟨⟨s12, v13⟩, b12, h2⟩ := bd_some h2
    rw [p6] at i10
    rw [j10] at a12
    rw [i10] at b12
    obtain ⟨hpo, hmo⟩ := (sums_eq dX).1 64 k _ _ u13 v13 r12 s12 hk (PR_at hP5 (by rw [e5]; omega) (by rw [e5]; omega)) a12 b12
    have hmo : (u5.1 4 + 1).toInt ≤ (u13.1 4).toInt := hmo
    rw [e5] at hmo
    obtain ⟨⟨r15, u16⟩, a15, h1⟩ := bd_some h1
    obtain ⟨-, h1⟩ := gd_some h1
    have e1 : r12 = r ∧ u16 = u' := by cases h1; exact ⟨rfl, rfl⟩
    have e2 : v13 = v' := by
      have h2 : (if c' = 61 then _ else _) = some (r', v') := h2
      by_cases s1 : c' = 61
      · rw [if_pos s1] at h2
        by_cases d : y0 = s12
        · rw [if_pos d] at h2
          obtain ⟨-, h2⟩ := gd_some h2
          cases h2
          rfl
        · rw [if_neg d] at h2
          obtain ⟨-, h2⟩ := gd_some h2
          cases h2
          rfl
      · rw [if_neg s1] at h2
        by_cases s2 : c' = 60
        · rw [if_pos s2] at h2
          by_cases d : s12 ≤ y0
          · rw [if_pos d] at h2
            obtain ⟨-, h2⟩ := gd_some h2
            cases h2
            rfl
          · rw [if_neg d] at h2
            obtain ⟨-, h2⟩ := gd_some h2
            cases h2
            rfl
        · rw [if_neg s2] at h2
          by_cases d : y0 ≤ s12
          · rw [if_pos d] at h2
            obtain ⟨-, h2⟩ := gd_some h2
            cases h2
            rfl
          · rw [if_neg d] at h2
            obtain ⟨-, h2⟩ := gd_some h2
            cases h2
            rfl
    have e4 := emit_at a15
    rw [← e1.1, ← e1.2, ← e2]
    refine ⟨?_, by rw [e4]; omega⟩
    rcases hpo with ⟨n, hP13⟩ | ⟨n, f7, fn⟩
    · exact Or.inl ⟨n, (emit_PR hP13 a15).1⟩
    · exact Or.inr ⟨n, by rw [e4]; exact f7, by rw [e4]; exact fn⟩
theorem ixb : fJ0_indexOf_0f7a4_s0 ((33 : Int32).toUInt32 % 65536).toInt32 = some (-1) ∧ fJ0_indexOf_0f7a4_s1 ((33 : Int32).toUInt32 % 65536).toInt32 = some (-1) ∧ fJ0_indexOf_0f7a4_s2 ((33 : Int32).toUInt32 % 65536).toInt32 = some (-1) ∧ fJ0_indexOf_0f7a4_s0 ((40 : Int32).toUInt32 % 65536).toInt32 = some (-1) ∧ fJ0_indexOf_0f7a4_s1 ((40 : Int32).toUInt32 % 65536).toInt32 = some (-1) ∧ fJ0_indexOf_0f7a4_s2 ((40 : Int32).toUInt32 % 65536).toInt32 = some (-1) := by decide +kernel
/-- X's total where no atom can begin -/
theorem bad_tot {dX : Nat} {k r c c' : Int32} {u v u' : SX} (hP : PR u v k) (hq : PKQ c c' u) (hc : c = 33 ∨ c = 40) (h : rX5conditiong dX 2 k 0 u = some (r, u')) : r = 0 ∧ u' = u := by
  cases dX with
  | zero => cases h
  | succ dX =>
    rw [rX_2] at h
    unfold fX5_total_2 at h
    obtain ⟨N1, hN1⟩ : ∃ N, 5000 = N + 1 := ⟨4999, rfl⟩
    rw [hN1] at h
    have b1 : 0 ≤ (u.1 1).toInt := by
      have a0 := hP.2.2.2.2.2.2.2.1
      have a1 := hP.2.2.2.2.2.2.2.2.1
      omega
    have h : (if (u.1 1) < 0 then _ else ((rX5conditiong dX 3 k 0 u).bind _)) = some (r, u') := h
    rw [if_neg (fun q => by have q9 : (u.1 1).toInt < (0 : Int) := ltI q; omega)] at h
    obtain ⟨⟨r2, u3⟩, a2, h⟩ := bd_some h
    have key : r2 = 0 ∧ u3 = u := by
      cases dX with
      | zero => cases a2
      | succ dX =>
        have a2 : fX5_atom_2 (rX5conditiong dX) k u = some (r2, u3) := a2
        unfold fX5_atom_2 at a2
        obtain ⟨⟨c2, u2⟩, b2, a2⟩ := bd_some a2
        obtain ⟨x1, x2⟩ := peek2 hP hq b2
        rw [x1, x2] at a2
        have a2 : (if c = 91 then _ else GX5_atom_2_52 (rX5conditiong dX) c u) = some (r2, u3) := a2
        obtain ⟨i1, i2, i3, i4, i5, i6⟩ := ixb
        have n91 : ¬ c = 91 := by
          rcases hc with hc | hc <;> (rw [hc]; decide)
        have l48 : c < 48 := by
          rcases hc with hc | hc <;> (rw [hc]; decide)
        have n0 : ¬ c = 0 := by
          rcases hc with hc | hc <;> (rw [hc]; decide)
        rw [if_neg n91] at a2
        unfold GX5_atom_2_52 at a2
        rw [if_pos l48] at a2
        unfold GX5_atom_2_87 at a2
        rw [if_neg n0] at a2
        have fin : GX5_atom_2_104 (rX5conditiong dX) (-1) u = some (r2, u3) → r2 = 0 ∧ u3 = u := fun z => by
          unfold GX5_atom_2_104 at z
          rw [if_neg (by decide)] at z
          obtain ⟨-, z⟩ := gd_some z
          have e1 : (0 : Int32) = r2 ∧ u = u3 := by cases z; exact ⟨rfl, rfl⟩
          exact ⟨e1.1.symm, e1.2.symm⟩
        rcases hP.2.2.2.1 with ⟨t1, -⟩ | ⟨t1, -⟩ | ⟨t1, -⟩
        · rw [if_pos t1] at a2
          rcases hc with hc | hc
          · rw [hc, i1] at a2; exact fin a2
          · rw [hc, i4] at a2; exact fin a2
        · rw [if_neg (by rw [t1]; decide), if_pos t1] at a2
          rcases hc with hc | hc
          · rw [hc, i2] at a2; exact fin a2
          · rw [hc, i5] at a2; exact fin a2
        · rw [if_neg (by rw [t1]; decide), if_neg (by rw [t1]; decide), if_pos t1] at a2
          rcases hc with hc | hc
          · rw [hc, i3] at a2; exact fin a2
          · rw [hc, i6] at a2; exact fin a2
    have h : (if r2 = 0 then _ else _) = some (r, u') := h
    rw [if_pos key.1] at h
    obtain ⟨-, h⟩ := gd_some h
    have e1 : (0 : Int32) = r ∧ u3 = u' := by cases h; exact ⟨rfl, rfl⟩
    exact ⟨e1.1.symm, by rw [← e1.2, key.2]⟩
