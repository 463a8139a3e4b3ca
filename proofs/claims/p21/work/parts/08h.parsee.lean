/-! look and done. -/
theorem look_eq {x1 x2 x3 x4 r r' : Int32} {u u' v v' : SX} (hI : IX u) (hp : TieP u v) (h1 : fX11_look_0 x1 x2 x3 x4 u = some (r, u')) (h2 : fX12_look__0 x1 x2 x3 x4 v = some (r', v')) : r = r' ∧ TieP u' v' := by
  have b1 : (u.1 29).toInt ≤ (10 : Int) := (hI.1 29).2
  have b0 : (0 : Int) ≤ (u.1 29).toInt := (hI.1 29).1
  have bn : (0 : Int) ≤ (u.1 0).toInt := (hI.1 0).1
  unfold fX11_look_0 at h1
  unfold fX12_look__0 at h2
  obtain ⟨v1, e1, h2⟩ := lt_some h2
  have hp1 : TieP u v1 := by rw [e1]; exact hp
  clear e1
  obtain ⟨t1, t2, t3, t4⟩ := hp1
  rw [← t2] at h2
  have no : some ((-1 : Int32), u) = some (r, u') → some ((-1 : Int32), v1) = some (r', v') → r = r' ∧ TieP u' v' := fun g1 g2 => by
    have e1 : (-1 : Int32) = r ∧ u = u' := by cases g1; exact ⟨rfl, rfl⟩
    have e2 : (-1 : Int32) = r' ∧ v1 = v' := by cases g2; exact ⟨rfl, rfl⟩
    rw [← e1.1, ← e1.2, ← e2.1, ← e2.2]
    exact ⟨rfl, t1, t2, t3, t4⟩
  have g34 : GX11_look_0_34 x1 x2 x3 x4 u = some ((-1), u) := by
    unfold GX11_look_0_34 GX11_look_0_35
    rw [if_pos rfl]
  obtain ⟨⟨s1, u2⟩, a1, h1⟩ := bd_some h1
  rw [hasP_st a1] at h1
  have h1 : (if s1 = 0 then (GX11_look_0_34 x1 x2 x3 x4 u) else _) = some (r, u') := h1
  by_cases c10 : u.1 29 = 10
  · rw [if_pos c10] at h2
    have n10 : ¬ u.1 29 < 10 := fun z => by
      rw [c10] at z
      exact absurd z (by decide)
    refine no ?_ h2
    by_cases c1 : s1 = 0
    · rw [if_pos c1, g34] at h1; exact h1
    · rw [if_neg c1] at h1
      obtain ⟨s7, a7, h1⟩ := bd_some h1
      by_cases c7 : s7 = 0
      · rw [if_pos c7, g34] at h1; exact h1
      · rw [if_neg c7] at h1
        obtain ⟨s10, a10, h1⟩ := bd_some h1
        by_cases d10 : s10 = 0
        · rw [if_pos d10, g34] at h1; exact h1
        · rw [if_neg d10] at h1
          unfold GX11_look_0_35 at h1
          rw [if_neg (by decide), if_neg n10] at h1
          exact h1
  · rw [if_neg c10] at h2
    have n10 : u.1 29 < 10 := by
      have z : ¬ (u.1 29).toInt = (10 : Int) := neI c10
      exact Int32.lt_iff_toInt_lt.mpr (show (u.1 29).toInt < (10 : Int) by omega)
    obtain ⟨⟨q3, v4⟩, b3, h2⟩ := bd_some h2
    obtain ⟨-, ev, es, -⟩ := hasP t1 a1 b3
    rw [ev, ← es] at h2
    have h2 : (if s1 = 0 then (some ((-1), v1)) else _) = some (r', v') := h2
    by_cases c1 : s1 = 0
    · rw [if_pos c1] at h1 h2
      rw [g34] at h1
      exact no h1 h2
    · rw [if_neg c1] at h1 h2
      obtain ⟨s7, a7, h1⟩ := bd_some h1
      obtain ⟨q6, b6, h2⟩ := bd_some h2
      obtain ⟨es7, -⟩ := loud_eq a7 b6
      rw [← es7] at h2
      by_cases c7 : s7 = 0
      · rw [if_pos c7] at h1 h2
        rw [g34] at h1
        exact no h1 h2
      · rw [if_neg c7] at h1 h2
        obtain ⟨s10, a10, h1⟩ := bd_some h1
        obtain ⟨q9, b9, h2⟩ := bd_some h2
        have es10 : s10 = q9 := Option.some.inj (a10.symm.trans (show fX11_within x4 1 50 = some q9 from b9))
        rw [← es10] at h2
        by_cases d10 : s10 = 0
        · rw [if_pos d10] at h1 h2
          rw [g34] at h1
          exact no h1 h2
        · rw [if_neg d10] at h1 h2
          unfold GX11_look_0_35 at h1
          rw [if_neg (by decide), if_pos n10] at h1
          obtain ⟨⟨s4, u5⟩, a4, h1⟩ := bd_some h1
          have e1 : s4 = r ∧ u5 = u' := by cases h1; exact ⟨rfl, rfl⟩
          unfold fX3_add_10 at a4
          rw [if_pos n10] at a4
          obtain ⟨-, a4⟩ := gd_some a4
          obtain ⟨w1, j1, a4⟩ := lt_some a4
          obtain ⟨-, a4⟩ := gd_some a4
          obtain ⟨w2, j2, a4⟩ := lt_some a4
          obtain ⟨-, a4⟩ := gd_some a4
          obtain ⟨w3, j3, a4⟩ := lt_some a4
          obtain ⟨-, a4⟩ := gd_some a4
          obtain ⟨w4, j4, a4⟩ := lt_some a4
          obtain ⟨-, a4⟩ := gd_some a4
          obtain ⟨w5, j5, a4⟩ := lt_some a4
          obtain ⟨w6, j6, a4⟩ := lt_some a4
          have e3 : w6.1 29 - 1 = s4 ∧ w6 = u5 := by cases a4; exact ⟨rfl, rfl⟩
          obtain ⟨-, h2⟩ := gd_some h2
          obtain ⟨y1, i1, h2⟩ := lt_some h2
          obtain ⟨-, h2⟩ := gd_some h2
          obtain ⟨y2, i2, h2⟩ := lt_some h2
          obtain ⟨-, h2⟩ := gd_some h2
          obtain ⟨y3, i3, h2⟩ := lt_some h2
          obtain ⟨-, h2⟩ := gd_some h2
          obtain ⟨y4, i4, h2⟩ := lt_some h2
          obtain ⟨-, h2⟩ := gd_some h2
          obtain ⟨y5, i5, h2⟩ := lt_some h2
          obtain ⟨y6, i6, h2⟩ := lt_some h2
          have e2 : y6.1 21 - 1 = r' ∧ y6 = v' := by cases h2; exact ⟨rfl, rfl⟩
          have k29 : w6.1 29 = u.1 29 + 1 := by rw [j6, j5, j4, j3, j2, j1]; rfl
          have k8 : w6.1 8 = u.1 8 := by rw [j6, j5, j4, j3, j2, j1]; rfl
          have k9 : w6.1 9 = u.1 9 := by rw [j6, j5, j4, j3, j2, j1]; rfl
          have k0 : w6.1 0 = u.1 0 := by rw [j6, j5, j4, j3, j2, j1]; rfl
          have k52 : w6.2.1 52 = upd (u.2.1 52) (u.1 29).toNatClampNeg (-1) := by rw [j6, j5, j4, j3, j2, j1]; rfl
          have m21 : y6.1 21 = u.1 29 + 1 := by
            rw [i6, i5, i4, i3, i2, i1]
            show v1.1 21 + 1 = _
            rw [t2]
          have m12 : y6.1 12 = v1.1 12 := by rw [i6, i5, i4, i3, i2, i1]; rfl
          have m14 : y6.1 14 = v1.1 14 := by rw [i6, i5, i4, i3, i2, i1]; rfl
          have m33 : y6.2.1 33 = upd (v1.2.1 33) (u.1 29).toNatClampNeg (-1) := by
            rw [i6, i5, i4, i3, i2, i1]
            show upd (v1.2.1 33) (v1.1 21).toNatClampNeg (-1) = _
            rw [t2]
          have n9 : (u.1 29).toInt < (10 : Int) := ltI n10
          have e5 : (u.1 29 + 1).toInt = (u.1 29).toInt + 1 := addc_t (by decide) (by omega) (by omega)
          rw [← e1.1, ← e1.2, ← e3.1, ← e3.2, ← e2.1, ← e2.2]
          refine ⟨by rw [k29, m21], by rw [k8, m12]; exact t1, by rw [k29, m21], by rw [k9, m14]; exact t3, fun i hi => ?_⟩
          rw [k29, e5] at hi
          rw [k52, m33, k0]
          show ((if i = (u.1 29).toNatClampNeg then (-1 : Int32) else u.2.1 52 i) = -1 ↔ (if i = (u.1 29).toNatClampNeg then (-1 : Int32) else v1.2.1 33 i) = -1) ∧ (if i = (u.1 29).toNatClampNeg then (-1 : Int32) else u.2.1 52 i).toInt ≤ _
          by_cases ci : i = (u.1 29).toNatClampNeg
          · rw [if_pos ci, if_pos ci]
            refine ⟨Iff.rfl, ?_⟩
            show (-1 : Int) ≤ _
            omega
          · rw [if_neg ci, if_neg ci]
            have ci : ¬ i = (u.1 29).toInt.toNat := ci
            exact t4 i (by omega)
