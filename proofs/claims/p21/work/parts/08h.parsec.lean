/-! Parts, looks, cleanings: how many, and which looks are done. -/
def TieP (u v : SX) : Prop := u.1 8 = v.1 12 ∧ u.1 29 = v.1 21 ∧ u.1 9 = v.1 14 ∧ ∀ i : Nat, (i : Int) < (u.1 29).toInt → ((u.2.1 52 i = -1 ↔ v.2.1 33 i = -1) ∧ (u.2.1 52 i).toInt ≤ (u.1 0).toInt)
theorem TieP_fr {u u' v v' : SX} (h1 : u'.1 8 = u.1 8) (h2 : u'.1 29 = u.1 29) (h3 : u'.1 9 = u.1 9) (h4 : u'.1 0 = u.1 0) (h5 : u'.2.1 52 = u.2.1 52) (k1 : v'.1 12 = v.1 12) (k2 : v'.1 21 = v.1 21) (k3 : v'.1 14 = v.1 14) (k4 : v'.2.1 33 = v.2.1 33) (h : TieP u v) : TieP u' v' := by
  obtain ⟨t1, t2, t3, t4⟩ := h
  refine ⟨by rw [h1, k1]; exact t1, by rw [h2, k2]; exact t2, by rw [h3, k3]; exact t3, fun i hi => ?_⟩
  rw [h2] at hi
  rw [h5, k4, h4]
  exact t4 i hi
theorem TieP_0 : TieP uX uM := ⟨rfl, rfl, rfl, fun i hi => by
  have hi : (i : Int) < 0 := hi
  omega⟩
theorem daysP {x1 : Int32} {u u' v v' : SX} {r r' : Int32} (hI : IX u) (h : TieP u v) (h1 : fX11_days_0 x1 u = some (r, u')) (h2 : fX12_days_0 x1 v = some (r', v')) : TieP u' v' := by
  obtain ⟨t1, t2, t3, t4⟩ := h
  have b0 : (0 : Int) ≤ (u.1 0).toInt := (hI.1 0).1
  have b1 : (u.1 0).toInt ≤ (120 : Int) := (hI.1 0).2
  unfold fX11_days_0 at h1
  unfold fX12_days_0 at h2
  obtain ⟨v1, e1, h2⟩ := lt_some h2
  obtain ⟨q1, a1, h1⟩ := bd_some h1
  obtain ⟨q2, a2, h2⟩ := bd_some h2
  have hv : v'.1 12 = v.1 12 ∧ v'.1 21 = v.1 21 ∧ v'.1 14 = v.1 14 ∧ v'.2.1 33 = v.2.1 33 := by
    by_cases c : q2 = 0
    · rw [if_pos c] at h2
      have e2 : v1 = v' := by cases h2; rfl
      rw [← e2, e1]
      exact ⟨rfl, rfl, rfl, rfl⟩
    · rw [if_neg c] at h2
      by_cases d : v1.1 1 + x1 ≤ 120
      · rw [if_pos d] at h2
        obtain ⟨v6, e6, h2⟩ := lt_some h2
        have e2 : v6 = v' := by cases h2; rfl
        rw [← e2, e6, e1]
        exact ⟨rfl, rfl, rfl, rfl⟩
      · rw [if_neg d] at h2
        have e2 : v1 = v' := by cases h2; rfl
        rw [← e2, e1]
        exact ⟨rfl, rfl, rfl, rfl⟩
  have hu : u'.1 8 = u.1 8 ∧ u'.1 29 = u.1 29 ∧ u'.1 9 = u.1 9 ∧ u'.2.1 52 = u.2.1 52 ∧ (u.1 0).toInt ≤ (u'.1 0).toInt := by
    by_cases c : q1 = 0
    · rw [if_pos c] at h1
      have e2 : u = u' := by cases h1; rfl
      rw [← e2]
      exact ⟨rfl, rfl, rfl, rfl, Int.le_refl _⟩
    · rw [if_neg c] at h1
      have hb := (Tot_at (tfX11_within x1 0 60) a1).2 (neI c)
      have hb1 : (0 : Int) ≤ x1.toInt := hb.1
      have hb2 : x1.toInt ≤ (60 : Int) := hb.2
      by_cases d : u.1 0 + x1 ≤ 120
      · rw [if_pos d] at h1
        obtain ⟨u4, e4, h1⟩ := lt_some h1
        have e2 : u4 = u' := by cases h1; rfl
        rw [← e2, e4]
        refine ⟨rfl, rfl, rfl, rfl, ?_⟩
        show _ ≤ (u.1 0 + x1).toInt
        rw [add_t (by omega) (by omega)]
        omega
      · rw [if_neg d] at h1
        have e2 : u = u' := by cases h1; rfl
        rw [← e2]
        exact ⟨rfl, rfl, rfl, rfl, Int.le_refl _⟩
  obtain ⟨y1, y2, y3, y4⟩ := hv
  obtain ⟨x8, x29, x9, x52, x0⟩ := hu
  refine ⟨by rw [x8, y1]; exact t1, by rw [x29, y2]; exact t2, by rw [x9, y3]; exact t3, fun i hi => ?_⟩
  rw [x29] at hi
  rw [x52, y4]
  obtain ⟨g1, g2⟩ := t4 i hi
  exact ⟨g1, by omega⟩
theorem loud_eq {x0 x1 a b : Int32} (h1 : fX11_isLoudness x0 x1 = some a) (h2 : fX12_isSpan x0 x1 = some b) : a = b ∧ (¬ a = 0 → (0 ≤ x0.toInt ∧ x0.toInt ≤ 400 ∧ 0 ≤ x1.toInt ∧ x1.toInt ≤ 400)) := by
  unfold fX11_isLoudness at h1
  unfold fX12_isSpan at h2
  obtain ⟨r1, a1, h2⟩ := bd_some h2
  unfold fX12_isIn at a1
  by_cases c0 : x0 < 0
  · rw [if_pos c0] at h1 a1
    have e1 : (0 : Int32) = a := by cases (gd_some h1).2; rfl
    have e2 : (0 : Int32) = r1 := by cases (gd_some a1).2; rfl
    rw [if_pos e2.symm] at h2
    have e3 : (0 : Int32) = b := by cases (gd_some h2).2; rfl
    exact ⟨by rw [← e1, ← e3], fun z => absurd e1.symm z⟩
  · rw [if_neg c0] at h1 a1
    have z0 : ¬ x0.toInt < (0 : Int) := nltI c0
    by_cases c1 : 400 < x0
    · rw [if_pos c1] at a1
      have z1 : (400 : Int) < x0.toInt := ltI c1
      have e2 : (0 : Int32) = r1 := by cases (gd_some a1).2; rfl
      rw [if_pos e2.symm] at h2
      have e3 : (0 : Int32) = b := by cases (gd_some h2).2; rfl
      have e1 : (0 : Int32) = a := by
        by_cases c2 : 400 < x1
        · rw [if_pos c2] at h1
          cases (gd_some h1).2; rfl
        · have z2 : ¬ (400 : Int) < x1.toInt := nltI c2
          rw [if_neg c2, if_pos (by exact Int32.lt_iff_toInt_lt.mpr (by omega))] at h1
          cases (gd_some h1).2; rfl
      exact ⟨by rw [← e1, ← e3], fun z => absurd e1.symm z⟩
    · rw [if_neg c1] at a1
      have z1 : ¬ (400 : Int) < x0.toInt := nltI c1
      have e2 : (1 : Int32) = r1 := by cases (gd_some a1).2; rfl
      rw [if_neg (by rw [← e2]; decide)] at h2
      obtain ⟨r5, a5, h2⟩ := bd_some h2
      unfold fX12_isIn at a5
      by_cases c2 : x1 < x0
      · rw [if_pos c2] at a5
        have e5 : (0 : Int32) = r5 := by cases (gd_some a5).2; rfl
        rw [if_pos e5.symm] at h2
        have e3 : (0 : Int32) = b := by cases (gd_some h2).2; rfl
        have e1 : (0 : Int32) = a := by
          by_cases c3 : 400 < x1
          · rw [if_pos c3] at h1
            cases (gd_some h1).2; rfl
          · rw [if_neg c3, if_pos c2] at h1
            cases (gd_some h1).2; rfl
        exact ⟨by rw [← e1, ← e3], fun z => absurd e1.symm z⟩
      · rw [if_neg c2] at a5
        have z2 : ¬ x1.toInt < x0.toInt := nltI c2
        by_cases c3 : 400 < x1
        · rw [if_pos c3] at a5 h1
          have e5 : (0 : Int32) = r5 := by cases (gd_some a5).2; rfl
          rw [if_pos e5.symm] at h2
          have e3 : (0 : Int32) = b := by cases (gd_some h2).2; rfl
          have e1 : (0 : Int32) = a := by cases (gd_some h1).2; rfl
          exact ⟨by rw [← e1, ← e3], fun z => absurd e1.symm z⟩
        · rw [if_neg c3] at a5 h1
          have z3 : ¬ (400 : Int) < x1.toInt := nltI c3
          rw [if_neg c2] at h1
          have e5 : (1 : Int32) = r5 := by cases (gd_some a5).2; rfl
          rw [if_neg (by rw [← e5]; decide)] at h2
          have e3 : (1 : Int32) = b := by cases (gd_some h2).2; rfl
          have e1 : (1 : Int32) = a := by cases (gd_some h1).2; rfl
          exact ⟨by rw [← e1, ← e3], fun _ => ⟨by omega, by omega, by omega, by omega⟩⟩
theorem hasP {x : Int32} {u u' v v' : SX} {r r' : Int32} (ht : u.1 8 = v.1 12) (h1 : fX6_has_6 x u = some (r, u')) (h2 : fX12_isPart_0 x v = some (r', v')) : u' = u ∧ v' = v ∧ r = r' ∧ (¬ r = 0 → (0 ≤ x.toInt ∧ x.toInt < (u.1 8).toInt)) := by
  unfold fX6_has_6 at h1
  unfold fX12_isPart_0 at h2
  rw [← ht] at h2
  by_cases c : x < 0
  · rw [if_pos c] at h1 h2
    obtain ⟨-, h1⟩ := gd_some h1
    obtain ⟨-, h2⟩ := gd_some h2
    cases h1
    cases h2
    exact ⟨rfl, rfl, rfl, fun z => absurd rfl z⟩
  · rw [if_neg c] at h1 h2
    by_cases d : u.1 8 ≤ x
    · rw [if_pos d] at h1 h2
      obtain ⟨-, h1⟩ := gd_some h1
      obtain ⟨-, h2⟩ := gd_some h2
      cases h1
      cases h2
      exact ⟨rfl, rfl, rfl, fun z => absurd rfl z⟩
    · rw [if_neg d] at h1 h2
      obtain ⟨-, h1⟩ := gd_some h1
      obtain ⟨-, h2⟩ := gd_some h2
      cases h1
      cases h2
      have z1 : ¬ x.toInt < (0 : Int) := nltI c
      have z2 : ¬ (u.1 8).toInt ≤ x.toInt := nleI d
      exact ⟨rfl, rfl, rfl, fun _ => ⟨by omega, by omega⟩⟩
theorem hasP_st {x : Int32} {u u' : SX} {r : Int32} (h1 : fX6_has_6 x u = some (r, u')) : u' = u := by
  unfold fX6_has_6 at h1
  by_cases c : x < 0
  · rw [if_pos c] at h1
    obtain ⟨-, h1⟩ := gd_some h1
    cases h1
    rfl
  · rw [if_neg c] at h1
    by_cases d : u.1 8 ≤ x
    · rw [if_pos d] at h1
      obtain ⟨-, h1⟩ := gd_some h1
      cases h1
      rfl
    · rw [if_neg d] at h1
      obtain ⟨-, h1⟩ := gd_some h1
      cases h1
      rfl
