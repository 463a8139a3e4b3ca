/-! part, look, done, clean. -/
theorem has3_eq {x c r r' : Int32} {u u' : SX} (hc : u.1 5 = c) (h0 : 0 ≤ (u.1 5).toInt) (h9 : (u.1 5).toInt ≤ 12) (h1 : fX8_has_3 x u = some (r, u')) (h2 : fX12_isIn x 0 (c - 1) = some r') : u' = u ∧ r = r' := by
  unfold fX8_has_3 at h1
  unfold fX12_isIn at h2
  have ec : (c - 1).toInt = (u.1 5).toInt - 1 := by
    rw [← hc]
    exact subc_t (by decide) (by omega) (by omega)
  by_cases c0 : x < 0
  · rw [if_pos c0] at h1 h2
    obtain ⟨-, h1⟩ := gd_some h1
    obtain ⟨-, h2⟩ := gd_some h2
    cases h1
    cases h2
    exact ⟨rfl, rfl⟩
  · rw [if_neg c0] at h1 h2
    by_cases d : u.1 5 ≤ x
    · have d9 : (u.1 5).toInt ≤ x.toInt := leI d
      rw [if_pos d] at h1
      rw [if_pos (by exact Int32.lt_iff_toInt_lt.mpr (by rw [ec]; omega))] at h2
      obtain ⟨-, h1⟩ := gd_some h1
      obtain ⟨-, h2⟩ := gd_some h2
      cases h1
      cases h2
      exact ⟨rfl, rfl⟩
    · have d9 : ¬ (u.1 5).toInt ≤ x.toInt := nleI d
      rw [if_neg d] at h1
      rw [if_neg (fun z => by have z9 := ltI z; rw [ec] at z9; omega)] at h2
      obtain ⟨-, h1⟩ := gd_some h1
      obtain ⟨-, h2⟩ := gd_some h2
      cases h1
      cases h2
      exact ⟨rfl, rfl⟩
theorem has3_st {x r : Int32} {u u' : SX} (h1 : fX8_has_3 x u = some (r, u')) : u' = u := by
  unfold fX8_has_3 at h1
  by_cases c0 : x < 0
  · rw [if_pos c0] at h1
    obtain ⟨-, h1⟩ := gd_some h1
    cases h1
    rfl
  · rw [if_neg c0] at h1
    by_cases d : u.1 5 ≤ x
    · rw [if_pos d] at h1
      obtain ⟨-, h1⟩ := gd_some h1
      cases h1
      rfl
    · rw [if_neg d] at h1
      obtain ⟨-, h1⟩ := gd_some h1
      cases h1
      rfl
theorem part_eq {x1 x2 x3 x4 r r' : Int32} {u u' v v' : SX} (hI : IX u) (hC : TieC u v) (hp : TieP u v) (h1 : fX11_part_0 x1 x2 x3 x4 u = some (r, u')) (h2 : fX12_part__0 x1 x2 x3 x4 v = some (r', v')) : r = r' ∧ TieP u' v' := by
  have b1 : (u.1 8).toInt ≤ (12 : Int) := (hI.1 8).2
  unfold fX11_part_0 at h1
  unfold fX12_part__0 at h2
  obtain ⟨v1, e1, h2⟩ := lt_some h2
  have hp1 : TieP u v1 := by rw [e1]; exact hp
  have hc1 : u.1 5 = v1.2.1 4 0 := by rw [e1]; exact hC.1
  clear e1
  obtain ⟨t1, t2, t3, t4⟩ := hp1
  rw [← t1] at h2
  have no : some ((-1 : Int32), u) = some (r, u') → some ((-1 : Int32), v1) = some (r', v') → r = r' ∧ TieP u' v' := fun g1 g2 => by
    have e1 : (-1 : Int32) = r ∧ u = u' := by cases g1; exact ⟨rfl, rfl⟩
    have e2 : (-1 : Int32) = r' ∧ v1 = v' := by cases g2; exact ⟨rfl, rfl⟩
    rw [← e1.1, ← e1.2, ← e2.1, ← e2.2]
    exact ⟨rfl, t1, t2, t3, t4⟩
  obtain ⟨⟨s1, u2⟩, a1, h1⟩ := bd_some h1
  rw [has3_st a1] at h1
  have h1 : (if s1 = 0 then (some ((-1), u)) else _) = some (r, u') := h1
  by_cases c12 : u.1 8 = 12
  · rw [if_pos c12] at h2
    have n12 : ¬ u.1 8 < 12 := fun z => by
      rw [c12] at z
      exact absurd z (by decide)
    refine no ?_ h2
    by_cases c1 : s1 = 0
    · rw [if_pos c1] at h1; exact h1
    · rw [if_neg c1] at h1
      obtain ⟨s4, a4, h1⟩ := bd_some h1
      by_cases c4 : s4 = 0
      · rw [if_pos c4] at h1; exact h1
      · rw [if_neg c4] at h1
        obtain ⟨s7, a7, h1⟩ := bd_some h1
        by_cases c7 : s7 = 0
        · rw [if_pos c7] at h1; exact h1
        · rw [if_neg c7, if_neg n12] at h1; exact h1
  · rw [if_neg c12] at h2
    have n12 : u.1 8 < 12 := by
      have z : ¬ (u.1 8).toInt = (12 : Int) := neI c12
      exact Int32.lt_iff_toInt_lt.mpr (show (u.1 8).toInt < (12 : Int) by omega)
    obtain ⟨-, h2⟩ := gd_some h2
    obtain ⟨q4, b4, h2⟩ := bd_some h2
    have b4 : fX12_isIn x1 0 (v1.2.1 4 0 - 1) = some q4 := b4
    obtain ⟨-, es⟩ := has3_eq hc1 (hI.1 5).1 (hI.1 5).2 a1 b4
    rw [← es] at h2
    by_cases c1 : s1 = 0
    · rw [if_pos c1] at h1 h2
      exact no h1 h2
    · rw [if_neg c1] at h1 h2
      obtain ⟨s4, a4, h1⟩ := bd_some h1
      obtain ⟨q7, b7, h2⟩ := bd_some h2
      obtain ⟨es4, -⟩ := loud_eq a4 b7
      rw [← es4] at h2
      by_cases c4 : s4 = 0
      · rw [if_pos c4] at h1 h2
        exact no h1 h2
      · rw [if_neg c4] at h1 h2
        obtain ⟨s7, a7, h1⟩ := bd_some h1
        obtain ⟨q10, b10, h2⟩ := bd_some h2
        have es7 : s7 = q10 := Option.some.inj (a7.symm.trans (show fX11_within x4 0 400 = some q10 from b10))
        rw [← es7] at h2
        by_cases c7 : s7 = 0
        · rw [if_pos c7] at h1 h2
          exact no h1 h2
        · rw [if_neg c7] at h1 h2
          rw [if_pos n12] at h1
          obtain ⟨⟨s10, u11⟩, a10, h1⟩ := bd_some h1
          have e1 : s10 = r ∧ u11 = u' := by cases h1; exact ⟨rfl, rfl⟩
          have a10 : fX6_add_6 x1 x2 x3 x4 (u.1 0) u = some (s10, u11) := a10
          unfold fX6_add_6 at a10
          rw [if_pos n12] at a10
          obtain ⟨-, a10⟩ := gd_some a10
          obtain ⟨w1, j1, a10⟩ := lt_some a10
          obtain ⟨-, a10⟩ := gd_some a10
          obtain ⟨w2, j2, a10⟩ := lt_some a10
          obtain ⟨-, a10⟩ := gd_some a10
          obtain ⟨w3, j3, a10⟩ := lt_some a10
          obtain ⟨-, a10⟩ := gd_some a10
          obtain ⟨w4, j4, a10⟩ := lt_some a10
          obtain ⟨-, a10⟩ := gd_some a10
          obtain ⟨w5, j5, a10⟩ := lt_some a10
          obtain ⟨w6, j6, a10⟩ := lt_some a10
          have e3 : w6.1 8 - 1 = s10 ∧ w6 = u11 := by cases a10; exact ⟨rfl, rfl⟩
          obtain ⟨-, h2⟩ := gd_some h2
          obtain ⟨y1, i1, h2⟩ := lt_some h2
          obtain ⟨-, h2⟩ := gd_some h2
          obtain ⟨y2, i2, h2⟩ := lt_some h2
          obtain ⟨-, h2⟩ := gd_some h2
          obtain ⟨y3, i3, h2⟩ := lt_some h2
          obtain ⟨-, h2⟩ := gd_some h2
          obtain ⟨y4, i4, h2⟩ := lt_some h2
          obtain ⟨-, h2⟩ := gd_some h2
          obtain ⟨y5, i5, h2⟩ := lt_some h2
          obtain ⟨y6, i6, h2⟩ := lt_some h2
          have e2 : y6.1 12 - 1 = r' ∧ y6 = v' := by cases h2; exact ⟨rfl, rfl⟩
          have k8 : w6.1 8 = u.1 8 + 1 := by rw [j6, j5, j4, j3, j2, j1]; rfl
          have k29 : w6.1 29 = u.1 29 := by rw [j6, j5, j4, j3, j2, j1]; rfl
          have k9 : w6.1 9 = u.1 9 := by rw [j6, j5, j4, j3, j2, j1]; rfl
          have k0 : w6.1 0 = u.1 0 := by rw [j6, j5, j4, j3, j2, j1]; rfl
          have k52 : w6.2.1 52 = u.2.1 52 := by rw [j6, j5, j4, j3, j2, j1]; rfl
          have m12 : y6.1 12 = u.1 8 + 1 := by
            rw [i6, i5, i4, i3, i2, i1]
            show v1.1 12 + 1 = _
            rw [t1]
          have m21 : y6.1 21 = v1.1 21 := by rw [i6, i5, i4, i3, i2, i1]; rfl
          have m14 : y6.1 14 = v1.1 14 := by rw [i6, i5, i4, i3, i2, i1]; rfl
          have m33 : y6.2.1 33 = v1.2.1 33 := by rw [i6, i5, i4, i3, i2, i1]; rfl
          rw [← e1.1, ← e1.2, ← e3.1, ← e3.2, ← e2.1, ← e2.2]
          refine ⟨by rw [k8, m12], by rw [k8, m12], by rw [k29, m21]; exact t2, by rw [k9, m14]; exact t3, fun i hi => ?_⟩
          rw [k29] at hi
          rw [k52, m33, k0]
          exact t4 i hi
