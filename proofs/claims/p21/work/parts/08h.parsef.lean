/-! done and clean. -/
theorem carry_row {x1 x2 r : Int32} {u u' : SX} (hI : IX u) (h0 : 0 ≤ x2.toInt ∧ x2.toInt ≤ 120) (h : fX3_carryOut_10 x1 x2 u = some (r, u')) : u'.2.1 52 = upd (u.2.1 52) x1.toNatClampNeg x2 := by
  unfold fX3_carryOut_10 at h
  obtain ⟨-, h⟩ := gd_some h
  obtain ⟨v2, e2, h⟩ := lt_some h
  obtain ⟨⟨r4, u5⟩, a4, h⟩ := bd_some h
  have s5 : StX mdX6_recall_6 u u5 := (Tot_at (tfX6_recall_6 x2 u hI h0) a4).1
  obtain ⟨-, h⟩ := gd_some h
  obtain ⟨-, h⟩ := gd_some h
  obtain ⟨u9, j9, h⟩ := lt_some h
  obtain ⟨-, h⟩ := gd_some h
  obtain ⟨-, h⟩ := gd_some h
  obtain ⟨u13, j13, h⟩ := lt_some h
  obtain ⟨-, h⟩ := gd_some h
  obtain ⟨-, h⟩ := gd_some h
  obtain ⟨⟨r17, u18⟩, a17, h⟩ := bd_some h
  have I9 : IX u9 := by
    rw [j9]
    exact (StX_sA (md := ([], [53], [], [])) (StX_rf s5.1) (by decide) (Int.le_trans (by decide) (s5.1.2.1 27 _).1) (Int.le_trans (s5.1.2.1 27 _).2 (by decide)) rfl).1
  have I13 : IX u13 := by
    rw [j13]
    exact (StX_sA (md := ([], [54], [], [])) (StX_rf I9) (by decide) (Int.le_trans (by decide) (I9.2.1 28 _).1) (Int.le_trans (I9.2.1 28 _).2 (by decide)) rfl).1
  have bv : 0 ≤ v2.toInt ∧ v2.toInt ≤ 11 := by rw [e2]; exact ⟨(hI.2.1 48 _).1, (hI.2.1 48 _).2⟩
  have s18 : StX mdX6_change_6 u13 u18 := (Tot_at (tfX6_change_6 v2 _ _ x2 0 u13 I13 bv ⟨(I13.2.1 49 _).1, (I13.2.1 49 _).2⟩ ⟨(I13.2.1 50 _).1, (I13.2.1 50 _).2⟩ h0 (by decide)) a17).1
  obtain ⟨⟨r20, u21⟩, a20, h⟩ := bd_some h
  have s21 : StX mdX6_recall_6 u18 u21 := (Tot_at (tfX6_recall_6 x2 u18 s18.1 h0) a20).1
  obtain ⟨-, h⟩ := gd_some h
  obtain ⟨-, h⟩ := gd_some h
  obtain ⟨u25, j25, h⟩ := lt_some h
  obtain ⟨-, h⟩ := gd_some h
  obtain ⟨-, h⟩ := gd_some h
  obtain ⟨u29, j29, h⟩ := lt_some h
  obtain ⟨-, h⟩ := gd_some h
  obtain ⟨u32, j32, h⟩ := lt_some h
  have e : u32 = u' := by cases h; rfl
  have k5 : u5.2.1 52 = u.2.1 52 := s5.2.2.1 52 (by decide)
  have k13 : u13.2.1 52 = u5.2.1 52 := by rw [j13, j9]; rfl
  have k18 : u18.2.1 52 = u13.2.1 52 := s18.2.2.1 52 (by decide)
  have k21 : u21.2.1 52 = u18.2.1 52 := s21.2.2.1 52 (by decide)
  have k29 : u29.2.1 52 = u21.2.1 52 := by rw [j29, j25]; rfl
  rw [← e, j32]
  show upd (u29.2.1 52) x1.toNatClampNeg x2 = _
  rw [k29, k21, k18, k13, k5]
theorem done_eq {x1 r r' : Int32} {u u' v v' : SX} (hI : IX u) (hJ : IM v) (hp : TieP u v) (hx : FrM mdX11_done_0 u u') (hm : FrM mdX12_done_0 v v') (h1 : fX11_done_0 x1 u = some (r, u')) (h2 : fX12_done_0 x1 v = some (r', v')) : r = r' ∧ TieP u' v' := by
  obtain ⟨t1, t2, t3, t4⟩ := hp
  have bn0 : (0 : Int) ≤ (u.1 0).toInt := (hI.1 0).1
  have bn1 : (u.1 0).toInt ≤ (120 : Int) := (hI.1 0).2
  have be : (0 : Int) ≤ (v.1 13).toInt := (hJ.1 13).1
  have x8 : u'.1 8 = u.1 8 := hx.1 8 (by decide)
  have x29 : u'.1 29 = u.1 29 := hx.1 29 (by decide)
  have x9 : u'.1 9 = u.1 9 := hx.1 9 (by decide)
  have x0 : u'.1 0 = u.1 0 := hx.1 0 (by decide)
  have m12 : v'.1 12 = v.1 12 := hm.1 12 (by decide)
  have m21 : v'.1 21 = v.1 21 := hm.1 21 (by decide)
  have m14 : v'.1 14 = v.1 14 := hm.1 14 (by decide)
  have fin : r = r' → (∀ i : Nat, (i : Int) < (u.1 29).toInt → ((u'.2.1 52 i = -1 ↔ v'.2.1 33 i = -1) ∧ (u'.2.1 52 i).toInt ≤ (u.1 0).toInt)) → r = r' ∧ TieP u' v' := fun e k => ⟨e, by rw [x8, m12]; exact t1, by rw [x29, m21]; exact t2, by rw [x9, m14]; exact t3, fun i hi => by
    rw [x29] at hi
    rw [x0]
    exact k i hi⟩
  unfold fX11_done_0 at h1
  unfold fX12_done_0 at h2
  obtain ⟨v1, e1, h2⟩ := lt_some h2
  have y33 : v1.2.1 33 = v.2.1 33 := by rw [e1]; rfl
  have y21 : v1.1 21 = v.1 21 := by rw [e1]; rfl
  have y13 : v1.1 13 = v.1 13 := by rw [e1]; rfl
  clear e1
  obtain ⟨⟨s1, u2⟩, a1, h1⟩ := bd_some h1
  obtain ⟨⟨q3, v4⟩, b3, h2⟩ := bd_some h2
  obtain ⟨ev, hq⟩ := lok_eq b3
  rw [ev] at h2
  unfold fX3_has_10 at a1
  unfold fX12_isLook_0 at b3
  rw [y21, ← t2] at b3
  have same : u2 = u ∧ s1 = q3 := by
    by_cases c0 : x1 < 0
    · rw [if_pos c0] at a1 b3
      obtain ⟨-, a1⟩ := gd_some a1
      obtain ⟨-, b3⟩ := gd_some b3
      cases a1
      cases b3
      exact ⟨rfl, rfl⟩
    · rw [if_neg c0] at a1 b3
      by_cases c1 : u.1 29 ≤ x1
      · rw [if_pos c1] at a1 b3
        obtain ⟨-, a1⟩ := gd_some a1
        obtain ⟨-, b3⟩ := gd_some b3
        cases a1
        cases b3
        exact ⟨rfl, rfl⟩
      · rw [if_neg c1] at a1 b3
        obtain ⟨-, a1⟩ := gd_some a1
        obtain ⟨-, b3⟩ := gd_some b3
        cases a1
        cases b3
        exact ⟨rfl, rfl⟩
  clear a1 b3
  rw [same.1, same.2] at h1
  have h1 : (if q3 = 0 then (gd (isB 0) (some (0, u))) else _) = some (r, u') := h1
  have h2 : (if q3 = 0 then (gd (isB 0) (some (0, v1))) else _) = some (r', v') := h2
  have no : some ((0 : Int32), u) = some (r, u') → some ((0 : Int32), v1) = some (r', v') → r = r' ∧ TieP u' v' := fun g1 g2 => by
    have e1 : (0 : Int32) = r ∧ u = u' := by cases g1; exact ⟨rfl, rfl⟩
    have e2 : (0 : Int32) = r' ∧ v1 = v' := by cases g2; exact ⟨rfl, rfl⟩
    refine fin (by rw [← e1.1, ← e2.1]) (fun i hi => ?_)
    rw [← e1.2, ← e2.2, y33]
    exact t4 i hi
  by_cases c3 : q3 = 0
  · rw [if_pos c3] at h1 h2
    exact no (gd_some h1).2 (gd_some h2).2
  · rw [if_neg c3] at h1 h2
    obtain ⟨d1, d2⟩ := hq c3
    have z1 : ¬ x1.toInt < (0 : Int) := nltI d1
    have z2 : ¬ (v1.1 21).toInt ≤ x1.toInt := nleI d2
    rw [y21, ← t2] at z2
    obtain ⟨tt, -⟩ := t4 x1.toNatClampNeg (by show ((x1.toInt.toNat : Nat) : Int) < _; omega)
    obtain ⟨⟨s5, u6⟩, a5, h1⟩ := bd_some h1
    unfold fX3_isDone_10 at a5
    obtain ⟨-, a5⟩ := gd_some a5
    obtain ⟨-, h2⟩ := gd_some h2
    rw [y33] at h2
    have h1 : (if s5 = 0 then _ else _) = some (r, u') := h1
    by_cases cd : u.2.1 52 x1.toNatClampNeg = -1
    · rw [if_pos cd] at a5
      rw [if_pos (tt.mp cd)] at h2
      obtain ⟨-, a5⟩ := gd_some a5
      have e5 : (0 : Int32) = s5 ∧ u = u6 := by cases a5; exact ⟨rfl, rfl⟩
      rw [if_pos e5.1.symm, ← e5.2] at h1
      obtain ⟨⟨s8, u9⟩, a8, h1⟩ := bd_some h1
      obtain ⟨-, h1⟩ := gd_some h1
      have e1 : (1 : Int32) = r ∧ u9 = u' := by cases h1; exact ⟨rfl, rfl⟩
      have kr := carry_row hI ⟨bn0, bn1⟩ a8
      rw [e1.2] at kr
      obtain ⟨-, h2⟩ := gd_some h2
      obtain ⟨w9, i9, h2⟩ := lt_some h2
      obtain ⟨-, h2⟩ := gd_some h2
      obtain ⟨-, h2⟩ := gd_some h2
      obtain ⟨-, h2⟩ := gd_some h2
      obtain ⟨⟨q14, w15⟩, b14, h2⟩ := bd_some h2
      obtain ⟨-, h2⟩ := gd_some h2
      have e2 : (1 : Int32) = r' ∧ w15 = v' := by cases h2; exact ⟨rfl, rfl⟩
      obtain ⟨-, -, -, g33⟩ := hap_eq b14
      have k33 : v'.2.1 33 = upd (v.2.1 33) x1.toNatClampNeg (v.1 13) := by
        rw [← e2.2, g33, i9]
        show upd (v.2.1 33) x1.toNatClampNeg (v1.1 13) = _
        rw [y13]
      refine fin (by rw [← e1.1, ← e2.1]) (fun i hi => ?_)
      rw [kr, k33]
      show ((if i = x1.toNatClampNeg then u.1 0 else u.2.1 52 i) = -1 ↔ (if i = x1.toNatClampNeg then v.1 13 else v.2.1 33 i) = -1) ∧ (if i = x1.toNatClampNeg then u.1 0 else u.2.1 52 i).toInt ≤ _
      by_cases ci : i = x1.toNatClampNeg
      · rw [if_pos ci, if_pos ci]
        refine ⟨⟨fun z => ?_, fun z => ?_⟩, Int.le_refl _⟩
        · have z9 : (u.1 0).toInt = (-1 : Int) := eqI z
          omega
        · have z9 : (v.1 13).toInt = (-1 : Int) := eqI z
          omega
      · rw [if_neg ci, if_neg ci]
        exact t4 i hi
    · rw [if_neg cd] at a5
      rw [if_neg (fun z => cd (tt.mpr z))] at h2
      obtain ⟨-, a5⟩ := gd_some a5
      have e5 : (1 : Int32) = s5 ∧ u = u6 := by cases a5; exact ⟨rfl, rfl⟩
      rw [if_neg (by rw [← e5.1]; decide), ← e5.2] at h1
      exact no (gd_some h1).2 (gd_some h2).2
theorem clean_eq {x1 x2 x3 x4 r r' : Int32} {u u' v v' : SX} (hI : IX u) (hp : TieP u v) (hx : FrM mdX11_clean_0 u u') (hm : FrM mdX12_clean_0 v v') (h1 : fX11_clean_0 x1 x2 x3 x4 u = some (r, u')) (h2 : fX12_clean_0 x1 x2 x3 x4 v = some (r', v')) : r = r' ∧ TieP u' v' := by
  obtain ⟨t1, t2, t3, t4⟩ := hp
  have b9 : (u.1 9).toInt ≤ (20 : Int) := (hI.1 9).2
  have b8 : (u.1 8).toInt ≤ (12 : Int) := (hI.1 8).2
  have bn0 : (0 : Int) ≤ (u.1 0).toInt := (hI.1 0).1
  have bn1 : (u.1 0).toInt ≤ (120 : Int) := (hI.1 0).2
  have b90 : (0 : Int) ≤ (u.1 9).toInt := (hI.1 9).1
  have x8 : u'.1 8 = u.1 8 := hx.1 8 (by decide)
  have x29 : u'.1 29 = u.1 29 := hx.1 29 (by decide)
  have x0 : u'.1 0 = u.1 0 := hx.1 0 (by decide)
  have x52 : u'.2.1 52 = u.2.1 52 := hx.2.1 52 (by decide)
  have m12 : v'.1 12 = v.1 12 := hm.1 12 (by decide)
  have m21 : v'.1 21 = v.1 21 := hm.1 21 (by decide)
  have m33 : v'.2.1 33 = v.2.1 33 := hm.2.1 33 (by decide)
  have fin : r = r' → u'.1 9 = v'.1 14 → r = r' ∧ TieP u' v' := fun e k => ⟨e, by rw [x8, m12]; exact t1, by rw [x29, m21]; exact t2, k, fun i hi => by
    rw [x29] at hi
    rw [x52, m33, x0]
    exact t4 i hi⟩
  unfold fX11_clean_0 at h1
  unfold fX12_clean_0 at h2
  obtain ⟨v1, e1, h2⟩ := lt_some h2
  have y12 : u.1 8 = v1.1 12 := by rw [e1]; exact t1
  have y14 : u.1 9 = v1.1 14 := by rw [e1]; exact t3
  clear e1
  rw [← y14] at h2
  have no : some ((0 : Int32), u) = some (r, u') → some ((0 : Int32), v1) = some (r', v') → r = r' ∧ TieP u' v' := fun g1 g2 => by
    have e1 : (0 : Int32) = r ∧ u = u' := by cases g1; exact ⟨rfl, rfl⟩
    have e2 : (0 : Int32) = r' ∧ v1 = v' := by cases g2; exact ⟨rfl, rfl⟩
    exact fin (by rw [← e1.1, ← e2.1]) (by rw [← e1.2, ← e2.2]; exact y14)
  have g35 : GX11_clean_0_35 x1 x2 x3 x4 u = some (0, u) := by
    unfold GX11_clean_0_35 GX11_clean_0_36
    rw [if_pos rfl]
    rfl
  obtain ⟨⟨s1, u2⟩, a1, h1⟩ := bd_some h1
  have es2 := hasP_st a1
  rw [es2] at h1 a1
  have h1 : (if s1 = 0 then (GX11_clean_0_35 x1 x2 x3 x4 u) else _) = some (r, u') := h1
  by_cases c20 : u.1 9 = 20
  · rw [if_pos c20] at h2
    have n20 : ¬ u.1 9 < 20 := fun z => by
      rw [c20] at z
      exact absurd z (by decide)
    refine no ?_ (gd_some h2).2
    by_cases c1 : s1 = 0
    · rw [if_pos c1, g35] at h1; exact h1
    · rw [if_neg c1] at h1
      obtain ⟨s7, a7, h1⟩ := bd_some h1
      by_cases c7 : s7 = 0
      · rw [if_pos c7, g35] at h1; exact h1
      · rw [if_neg c7] at h1
        obtain ⟨s10, a10, h1⟩ := bd_some h1
        by_cases d10 : s10 = 0
        · rw [if_pos d10, g35] at h1; exact h1
        · rw [if_neg d10] at h1
          unfold GX11_clean_0_36 at h1
          rw [if_neg (by decide), if_neg n20] at h1
          exact (gd_some h1).2
  · rw [if_neg c20] at h2
    have n20 : u.1 9 < 20 := by
      have z : ¬ (u.1 9).toInt = (20 : Int) := neI c20
      exact Int32.lt_iff_toInt_lt.mpr (show (u.1 9).toInt < (20 : Int) by omega)
    obtain ⟨⟨q4, v5⟩, b4, h2⟩ := bd_some h2
    obtain ⟨-, ev, es, hin⟩ := hasP y12 a1 b4
    rw [ev, ← es] at h2
    have h2 : (if s1 = 0 then _ else _) = some (r', v') := h2
    by_cases c1 : s1 = 0
    · rw [if_pos c1] at h1 h2
      rw [g35] at h1
      exact no h1 (gd_some h2).2
    · rw [if_neg c1] at h1 h2
      obtain ⟨i1, i2⟩ := hin c1
      obtain ⟨s7, a7, h1⟩ := bd_some h1
      obtain ⟨q8, b8', h2⟩ := bd_some h2
      obtain ⟨es7, hl⟩ := loud_eq a7 b8'
      rw [← es7] at h2
      by_cases c7 : s7 = 0
      · rw [if_pos c7] at h1 h2
        rw [g35] at h1
        exact no h1 (gd_some h2).2
      · rw [if_neg c7] at h1 h2
        obtain ⟨l1, l2, l3, l4⟩ := hl c7
        obtain ⟨s10, a10, h1⟩ := bd_some h1
        obtain ⟨q12, b12, h2⟩ := bd_some h2
        have es10 : s10 = q12 := Option.some.inj (a10.symm.trans (show fX11_within x4 0 400 = some q12 from b12))
        rw [← es10] at h2
        by_cases d10 : s10 = 0
        · rw [if_pos d10] at h1 h2
          rw [g35] at h1
          exact no h1 (gd_some h2).2
        · rw [if_neg d10] at h1 h2
          have hw := (Tot_at (tfX11_within x4 0 400) a10).2 (neI d10)
          have hw1 : (0 : Int) ≤ x4.toInt := hw.1
          have hw2 : x4.toInt ≤ (400 : Int) := hw.2
          unfold GX11_clean_0_36 at h1
          rw [if_neg (by decide), if_pos n20] at h1
          obtain ⟨u5, j5, h1⟩ := lt_some h1
          obtain ⟨-, h1⟩ := gd_some h1
          obtain ⟨u8, j8, h1⟩ := lt_some h1
          obtain ⟨⟨s11, u11⟩, a11, h1⟩ := bd_some h1
          obtain ⟨-, h1⟩ := gd_some h1
          have e1 : (1 : Int32) = r ∧ u11 = u' := by cases h1; exact ⟨rfl, rfl⟩
          have n9 : (u.1 9).toInt < (20 : Int) := ltI n20
          have e9 : (u.1 9 + 1).toInt = (u.1 9).toInt + 1 := addc_t (by decide) (by omega) (by omega)
          have I5 : IX u5 := by
            rw [j5]
            exact (StX_sI (md := ([9], [], [], [])) (StX_rf hI) (by decide) (by rw [e9]; show (0 : Int) ≤ _; omega) (by rw [e9]; show _ ≤ (20 : Int); omega)).1
          have I8 : IX u8 := by
            rw [j8]
            exact (StX_sA (md := ([], [26], [], [])) (StX_rf I5) (by decide) (Int.le_trans (by decide) hw1) (Int.le_trans hw2 (by decide)) rfl).1
          have k80 : u8.1 0 = u.1 0 := by rw [j8, j5]; rfl
          have s9 : StX mdX6_change_6 u8 u11 := (Tot_at (tfX6_change_6 x1 x2 x3 (u8.1 0) 1 u8 I8 ⟨i1, by omega⟩ ⟨l1, l2⟩ ⟨l3, l4⟩ (by rw [k80]; exact ⟨bn0, bn1⟩) (by decide)) a11).1
          have k9 : u'.1 9 = u.1 9 + 1 := by
            rw [← e1.2, s9.2.1 9 (by decide), j8, j5]
            rfl
          obtain ⟨⟨q15, w16⟩, b15, h2⟩ := bd_some h2
          obtain ⟨-, g14, -, -⟩ := hap_eq b15
          obtain ⟨-, h2⟩ := gd_some h2
          obtain ⟨w19, i19, h2⟩ := lt_some h2
          obtain ⟨w21, i21, h2⟩ := lt_some h2
          obtain ⟨-, h2⟩ := gd_some h2
          have e2 : (1 : Int32) = r' ∧ w21 = v' := by cases h2; exact ⟨rfl, rfl⟩
          have k14 : v'.1 14 = u.1 9 + 1 := by
            rw [← e2.2, i21, i19]
            show w16.1 14 + 1 = _
            rw [g14, ← y14]
          exact fin (by rw [← e1.1, ← e2.1]) (by rw [k9, k14])
