/-! What both sides have alike. -/
def Tie (u v : SX) : Prop := u.1 0 = v.1 1 ∧ u.1 35 = v.1 22 ∧ u.1 36 = v.1 23 ∧ u.1 37 = v.1 24 ∧ u.1 38 = v.1 25 ∧ u.1 13 = v.1 15
def tieF (mx mm : List Nat) : Bool := [0, 35, 36, 37, 38, 13].all (fun k => !mx.contains k) && [1, 22, 23, 24, 25, 15].all (fun k => !mm.contains k)
theorem not_b {b : Bool} (h : (!b) = true) : b = false := by
  cases b with
  | false => rfl
  | true => cases h
theorem Tie_fr {u u' v v' : SX} {mx mm : List Nat} (hx : ∀ k, mx.contains k = false → u'.1 k = u.1 k) (hm : ∀ k, mm.contains k = false → v'.1 k = v.1 k) (c : tieF mx mm = true) (h : Tie u v) : Tie u' v' := by
  unfold tieF at c
  simp only [Bool.and_eq_true] at c
  obtain ⟨c1, c2⟩ := c
  have k1 : ∀ k, k ∈ [0, 35, 36, 37, 38, 13] → u'.1 k = u.1 k := fun k hk => hx k (not_b (List.all_eq_true.mp c1 k hk))
  have k2 : ∀ k, k ∈ [1, 22, 23, 24, 25, 15] → v'.1 k = v.1 k := fun k hk => hm k (not_b (List.all_eq_true.mp c2 k hk))
  obtain ⟨t0, t1, t2, t3, t4, t5⟩ := h
  exact ⟨(k1 0 (by decide)).trans (t0.trans (k2 1 (by decide)).symm), (k1 35 (by decide)).trans (t1.trans (k2 22 (by decide)).symm), (k1 36 (by decide)).trans (t2.trans (k2 23 (by decide)).symm), (k1 37 (by decide)).trans (t3.trans (k2 24 (by decide)).symm), (k1 38 (by decide)).trans (t4.trans (k2 25 (by decide)).symm), (k1 13 (by decide)).trans (t5.trans (k2 15 (by decide)).symm)⟩
theorem days_eq {x1 : Int32} {u u' v v' : SX} {r r' : Int32} (hI : IX u) (hJ : IM v) (ht : Tie u v) (h1 : fX11_days_0 x1 u = some (r, u')) (h2 : fX12_days_0 x1 v = some (r', v')) : r = r' ∧ Tie u' v' := by
  obtain ⟨t0, t1, t2, t3, t4, t5⟩ := ht
  unfold fX11_days_0 at h1
  unfold fX12_days_0 at h2
  obtain ⟨v1, e1, h2⟩ := lt_some h2
  obtain ⟨q1, a1, h1⟩ := bd_some h1
  obtain ⟨q2, a2, h2⟩ := bd_some h2
  have e : q1 = q2 := Option.some.inj (a1.symm.trans (show fX11_within x1 0 60 = some q2 from a2))
  subst e
  have f0 : v1.1 1 = u.1 0 := by rw [e1, t0]; rfl
  have f1 : u.1 35 = v1.1 22 := by rw [e1]; exact t1
  have f2 : u.1 36 = v1.1 23 := by rw [e1]; exact t2
  have f3 : u.1 37 = v1.1 24 := by rw [e1]; exact t3
  have f4 : u.1 38 = v1.1 25 := by rw [e1]; exact t4
  have f5 : u.1 13 = v1.1 15 := by rw [e1]; exact t5
  by_cases c : q1 = 0
  · rw [if_pos c] at h1 h2
    cases h1
    cases h2
    exact ⟨rfl, f0.symm, f1, f2, f3, f4, f5⟩
  · rw [if_neg c] at h1 h2
    rw [f0] at h2
    by_cases d : u.1 0 + x1 ≤ 120
    · rw [if_pos d] at h1 h2
      obtain ⟨u4, e4, h1⟩ := lt_some h1
      obtain ⟨v6, e6, h2⟩ := lt_some h2
      cases h1
      cases h2
      subst e4 e6
      exact ⟨rfl, rfl, f1, f2, f3, f4, f5⟩
    · rw [if_neg d] at h1 h2
      cases h1
      cases h2
      exact ⟨rfl, f0.symm, f1, f2, f3, f4, f5⟩
theorem house_eq {u u' v v' : SX} {r r' : Int32} (hI : IX u) (hJ : IM v) (ht : Tie u v) (h1 : fX11_house_0 u = some (r, u')) (h2 : fX12_house_0 v = some (r', v')) : r = r' ∧ Tie u' v' := by
  obtain ⟨t0, t1, t2, t3, t4, t5⟩ := ht
  unfold fX11_house_0 at h1
  unfold fX12_house_0 at h2
  obtain ⟨v1, e1, h2⟩ := lt_some h2
  have f0 : u.1 0 = v1.1 1 := by rw [e1]; exact t0
  have f1 : v1.1 22 = u.1 35 := by rw [e1, t1]; rfl
  have f2 : u.1 36 = v1.1 23 := by rw [e1]; exact t2
  have f3 : u.1 37 = v1.1 24 := by rw [e1]; exact t3
  have f4 : u.1 38 = v1.1 25 := by rw [e1]; exact t4
  have f5 : u.1 13 = v1.1 15 := by rw [e1]; exact t5
  have b1 : (u.1 35).toInt ≤ (8 : Int) := (hI.1 35).2
  rw [f1] at h2
  by_cases c : u.1 35 < 8
  · rw [if_pos c] at h1
    have n1 : ¬ u.1 35 = 8 := fun z => by
      rw [z] at c
      exact absurd c (by decide)
    rw [if_neg n1] at h2
    obtain ⟨u3, e3, h1⟩ := lt_some h1
    obtain ⟨v3, e4, h2⟩ := lt_some h2
    cases h1
    cases h2
    subst e3 e4
    exact ⟨rfl, f0, rfl, f2, f3, f4, f5⟩
  · rw [if_neg c] at h1
    have c9 : ¬ (u.1 35).toInt < (8 : Int) := nltI c
    have n1 : u.1 35 = 8 := Int32.toInt.inj ((show (u.1 35).toInt = (8 : Int) by omega).trans (by decide))
    rw [if_pos n1] at h2
    cases h1
    cases h2
    exact ⟨rfl, f0, f1.symm, f2, f3, f4, f5⟩
theorem has_eq {x : Int32} {u u' v v' : SX} {r r' : Int32} (ht : u.1 35 = v.1 22) (h1 : fX2_has_11 x u = some (r, u')) (h2 : fX12_isHouse_0 x v = some (r', v')) : u' = u ∧ v' = v ∧ r = r' ∧ (¬ r = 0 → (0 ≤ x.toInt ∧ x.toInt < (u.1 35).toInt)) := by
  unfold fX2_has_11 at h1
  unfold fX12_isHouse_0 at h2
  rw [← ht] at h2
  by_cases c : x < 0
  · rw [if_pos c] at h1 h2
    obtain ⟨-, h1⟩ := gd_some h1
    obtain ⟨-, h2⟩ := gd_some h2
    cases h1
    cases h2
    exact ⟨rfl, rfl, rfl, fun z => absurd rfl z⟩
  · rw [if_neg c] at h1 h2
    by_cases d : u.1 35 ≤ x
    · rw [if_pos d] at h1 h2
      obtain ⟨-, h1⟩ := gd_some h1
      obtain ⟨-, h2⟩ := gd_some h2
      cases h1
      cases h2
      exact ⟨rfl, rfl, rfl, fun z => absurd rfl z⟩
    · rw [if_neg d] at h1 h2
      obtain ⟨-, h1⟩ := gd_some h1
      obtain ⟨-, h2⟩ := gd_some h2
      cases h1
      cases h2
      have z1 : ¬ x.toInt < (0 : Int) := nltI c
      have z2 : ¬ (u.1 35).toInt ≤ x.toInt := nleI d
      exact ⟨rfl, rfl, rfl, fun _ => ⟨by omega, by omega⟩⟩
theorem has_st {x : Int32} {u u' : SX} {r : Int32} (h1 : fX2_has_11 x u = some (r, u')) : u' = u := by
  unfold fX2_has_11 at h1
  by_cases c : x < 0
  · rw [if_pos c] at h1
    obtain ⟨-, h1⟩ := gd_some h1
    cases h1
    rfl
  · rw [if_neg c] at h1
    by_cases d : u.1 35 ≤ x
    · rw [if_pos d] at h1
      obtain ⟨-, h1⟩ := gd_some h1
      cases h1
      rfl
    · rw [if_neg d] at h1
      obtain ⟨-, h1⟩ := gd_some h1
      cases h1
      rfl
theorem send_eq {x1 x2 x3 : Int32} {u u' : SX} {r : Int32} (c : u.1 38 < 60) (h : fX2_send_11 x1 x2 x3 u = some (r, u')) : u'.1 0 = u.1 0 ∧ u'.1 35 = u.1 35 ∧ u'.1 36 = u.1 36 ∧ u'.1 37 = u.1 37 ∧ u'.1 38 = u.1 38 + 1 ∧ u'.1 13 = u.1 13 := by
  unfold fX2_send_11 at h
  rw [if_pos c] at h
  obtain ⟨-, h⟩ := gd_some h
  obtain ⟨u2, e2, h⟩ := lt_some h
  obtain ⟨-, h⟩ := gd_some h
  obtain ⟨u5, e5, h⟩ := lt_some h
  obtain ⟨-, h⟩ := gd_some h
  obtain ⟨u8, e8, h⟩ := lt_some h
  obtain ⟨u10, e10, h⟩ := lt_some h
  obtain ⟨-, h⟩ := gd_some h
  obtain ⟨u13, e13, h⟩ := lt_some h
  obtain ⟨u15, e15, h⟩ := lt_some h
  cases h
  subst e15 e13 e10 e8 e5 e2
  exact ⟨rfl, rfl, rfl, rfl, rfl, rfl⟩
theorem letter_eq {x1 x2 : Int32} {u u' v v' : SX} {r r' : Int32} (hI : IX u) (hJ : IM v) (ht : Tie u v) (h1 : fX11_letter_0 x1 x2 u = some (r, u')) (h2 : fX12_letter_0 x1 x2 v = some (r', v')) : r = r' ∧ Tie u' v' := by
  obtain ⟨t0, t1, t2, t3, t4, t5⟩ := ht
  unfold fX11_letter_0 at h1
  unfold fX12_letter_0 at h2
  obtain ⟨v1, e1, h2⟩ := lt_some h2
  have f0 : u.1 0 = v1.1 1 := by rw [e1]; exact t0
  have f1 : u.1 35 = v1.1 22 := by rw [e1]; exact t1
  have f2 : u.1 36 = v1.1 23 := by rw [e1]; exact t2
  have f3 : u.1 37 = v1.1 24 := by rw [e1]; exact t3
  have f4 : u.1 38 = v1.1 25 := by rw [e1]; exact t4
  have f5 : u.1 13 = v1.1 15 := by rw [e1]; exact t5
  have b1 : (u.1 38).toInt ≤ (60 : Int) := (hI.1 38).2
  have T0 : Tie u v1 := ⟨f0, f1, f2, f3, f4, f5⟩
  clear e1 t0 t1 t2 t3 t4 t5
  obtain ⟨⟨r1, u2⟩, a1, h1⟩ := bd_some h1
  rw [has_st a1] at h1
  have h1 : (if r1 = 0 then _ else _) = some (r, u') := h1
  by_cases c0 : v1.1 25 = 60
  · rw [if_pos c0] at h2
    obtain ⟨-, h2⟩ := gd_some h2
    cases h2
    have n1 : ¬ u.1 38 < 60 := fun z => by
      rw [f4, c0] at z
      exact absurd z (by decide)
    by_cases c1 : r1 = 0
    · rw [if_pos c1] at h1
      obtain ⟨-, h1⟩ := gd_some h1
      cases h1
      exact ⟨rfl, T0⟩
    · rw [if_neg c1] at h1
      obtain ⟨⟨r5, u6⟩, a5, h1⟩ := bd_some h1
      rw [has_st a5] at h1
      have h1 : (if r5 = 0 then _ else _) = some (r, u') := h1
      by_cases c5 : r5 = 0
      · rw [if_pos c5] at h1
        obtain ⟨-, h1⟩ := gd_some h1
        cases h1
        exact ⟨rfl, T0⟩
      · rw [if_neg c5] at h1
        by_cases c6 : x1 = x2
        · rw [if_pos c6] at h1
          obtain ⟨-, h1⟩ := gd_some h1
          cases h1
          exact ⟨rfl, T0⟩
        · rw [if_neg c6, if_neg n1] at h1
          obtain ⟨-, h1⟩ := gd_some h1
          cases h1
          exact ⟨rfl, T0⟩
  · rw [if_neg c0] at h2
    obtain ⟨⟨r4, v5⟩, a4, h2⟩ := bd_some h2
    obtain ⟨-, g1, g2, -⟩ := has_eq f1 a1 a4
    rw [g1, ← g2] at h2
    have h2 : (if r1 = 0 then _ else _) = some (r', v') := h2
    have n1 : u.1 38 < 60 := by
      have z : ¬ (v1.1 25).toInt = (60 : Int) := neI c0
      rw [← f4] at z
      exact Int32.lt_iff_toInt_lt.mpr (show (u.1 38).toInt < (60 : Int) by omega)
    by_cases c1 : r1 = 0
    · rw [if_pos c1] at h1 h2
      obtain ⟨-, h1⟩ := gd_some h1
      obtain ⟨-, h2⟩ := gd_some h2
      cases h1
      cases h2
      exact ⟨rfl, T0⟩
    · rw [if_neg c1] at h1 h2
      obtain ⟨⟨r5, u6⟩, a5, h1⟩ := bd_some h1
      obtain ⟨⟨r8, v9⟩, a8, h2⟩ := bd_some h2
      obtain ⟨g0, g1, g2, -⟩ := has_eq f1 a5 a8
      rw [g0] at h1
      rw [g1, ← g2] at h2
      have h1 : (if r5 = 0 then _ else _) = some (r, u') := h1
      have h2 : (if r5 = 0 then _ else _) = some (r', v') := h2
      by_cases c5 : r5 = 0
      · rw [if_pos c5] at h1 h2
        obtain ⟨-, h1⟩ := gd_some h1
        obtain ⟨-, h2⟩ := gd_some h2
        cases h1
        cases h2
        exact ⟨rfl, T0⟩
      · rw [if_neg c5] at h1 h2
        by_cases c6 : x1 = x2
        · rw [if_pos c6] at h1 h2
          obtain ⟨-, h1⟩ := gd_some h1
          obtain ⟨-, h2⟩ := gd_some h2
          cases h1
          cases h2
          exact ⟨rfl, T0⟩
        · rw [if_neg c6] at h1 h2
          rw [if_pos n1] at h1
          obtain ⟨⟨r10, u11⟩, a10, h1⟩ := bd_some h1
          obtain ⟨-, h1⟩ := gd_some h1
          cases h1
          obtain ⟨s0, s1, s2, s3, s4, s5⟩ := send_eq n1 a10
          obtain ⟨-, h2⟩ := gd_some h2
          obtain ⟨w1, j1, h2⟩ := lt_some h2
          obtain ⟨-, h2⟩ := gd_some h2
          obtain ⟨w2, j2, h2⟩ := lt_some h2
          obtain ⟨-, h2⟩ := gd_some h2
          obtain ⟨w3, j3, h2⟩ := lt_some h2
          obtain ⟨w4, j4, h2⟩ := lt_some h2
          obtain ⟨-, h2⟩ := gd_some h2
          cases h2
          subst j4 j3 j2 j1
          exact ⟨rfl, s0.trans f0, s1.trans f1, s2.trans f2, s3.trans f3, s4.trans (by rw [f4]; rfl), s5.trans f5⟩
theorem read_eq {x1 x2 x3 x4 x5 x6 : Int32} {u u' v v' : SX} {r r' : Int32} (hI : IX u) (hJ : IM v) (ht : Tie u v) (h1 : fX11_read_0 x1 x2 x3 x4 x5 x6 u = some (r, u')) (h2 : fX12_read_0 x1 x2 x3 x4 x5 x6 v = some (r', v')) : r = r' ∧ Tie u' v' := by
  obtain ⟨t0, t1, t2, t3, t4, t5⟩ := ht
  unfold fX11_read_0 at h1
  unfold fX12_read_0 at h2
  obtain ⟨v1, e1, h2⟩ := lt_some h2
  have f0 : u.1 0 = v1.1 1 := by rw [e1]; exact t0
  have f1 : u.1 35 = v1.1 22 := by rw [e1]; exact t1
  have f2 : u.1 36 = v1.1 23 := by rw [e1]; exact t2
  have f3 : u.1 37 = v1.1 24 := by rw [e1]; exact t3
  have f4 : u.1 38 = v1.1 25 := by rw [e1]; exact t4
  have f5 : u.1 13 = v1.1 15 := by rw [e1]; exact t5
  have b1 : (u.1 13).toInt ≤ (80 : Int) := (hI.1 13).2
  have T0 : Tie u v1 := ⟨f0, f1, f2, f3, f4, f5⟩
  clear e1 t0 t1 t2 t3 t4 t5
  obtain ⟨r1, a1, h1⟩ := bd_some h1
  rw [← f5] at h2
  by_cases c0 : u.1 13 = 80
  · rw [if_pos c0] at h2
    cases h2
    have n0 : ¬ u.1 13 < 80 := fun z => by
      rw [c0] at z
      exact absurd z (by decide)
    by_cases c1 : r1 = 0
    · rw [if_pos c1] at h1
      cases h1
      exact ⟨rfl, T0⟩
    · rw [if_neg c1] at h1
      obtain ⟨r4, a4, h1⟩ := bd_some h1
      by_cases c4 : r4 = 0
      · rw [if_pos c4] at h1
        cases h1
        exact ⟨rfl, T0⟩
      · rw [if_neg c4, if_neg n0] at h1
        cases h1
        exact ⟨rfl, T0⟩
  · rw [if_neg c0] at h2
    have n0 : u.1 13 < 80 := by
      have z : ¬ (u.1 13).toInt = (80 : Int) := neI c0
      exact Int32.lt_iff_toInt_lt.mpr (show (u.1 13).toInt < (80 : Int) by omega)
    obtain ⟨r3, a3, h2⟩ := bd_some h2
    have e : r1 = r3 := Option.some.inj (a1.symm.trans (show fX11_isAim x1 x2 x3 x4 x5 = some r3 from a3))
    subst e
    by_cases c1 : r1 = 0
    · rw [if_pos c1] at h1 h2
      cases h1
      cases h2
      exact ⟨rfl, T0⟩
    · rw [if_neg c1] at h1 h2
      obtain ⟨r4, a4, h1⟩ := bd_some h1
      obtain ⟨r6, a6, h2⟩ := bd_some h2
      have e : r4 = r6 := Option.some.inj (a4.symm.trans (show fX11_within x6 (-100000) 100000 = some r6 from a6))
      subst e
      by_cases c4 : r4 = 0
      · rw [if_pos c4] at h1 h2
        cases h1
        cases h2
        exact ⟨rfl, T0⟩
      · rw [if_neg c4] at h1 h2
        rw [if_pos n0] at h1
        obtain ⟨r7, a7, h1⟩ := bd_some h1
        obtain ⟨⟨r10, u11⟩, a10, h1⟩ := bd_some h1
        obtain ⟨⟨r13, u14⟩, a13, h1⟩ := bd_some h1
        cases h1
        obtain ⟨z1, z2, z3, z4, z5, z6, z7, z8, z9, z10⟩ := (Tot_at (tfX11_isAim x1 x2 x3 x4 x5) a1).2 (neI c1)
        have zs := (Tot_at (tfX11_seasonOf (u.1 0) ⟨(hI.1 0).1, (hI.1 0).2⟩) a7).1
        have hs : StX mdX8_setAim_3 u u11 := (Tot_at (tfX8_setAim_3 x1 x2 x3 r7 x4 x5 u hI ⟨z1, z2⟩ ⟨z3, z4⟩ ⟨z5, z6⟩ zs ⟨z7, z8⟩ ⟨z9, z10⟩) a10).1
        have k : ∀ k, mdX8_setAim_3.1.contains k = false → u11.1 k = u.1 k := hs.2.1
        have a13 : fX7_add_7 x6 (u11.1 0) u11 = some (r, u') := a13
        unfold fX7_add_7 at a13
        rw [if_pos (by rw [k 13 rfl]; exact n0)] at a13
        obtain ⟨-, a13⟩ := gd_some a13
        obtain ⟨w1, j1, a13⟩ := lt_some a13
        obtain ⟨-, a13⟩ := gd_some a13
        obtain ⟨w2, j2, a13⟩ := lt_some a13
        obtain ⟨-, a13⟩ := gd_some a13
        obtain ⟨w3, j3, a13⟩ := lt_some a13
        obtain ⟨w4, j4, a13⟩ := lt_some a13
        cases a13
        have s0 : u'.1 0 = u.1 0 := by rw [j4, j3, j2, j1]; exact k 0 rfl
        have s1 : u'.1 35 = u.1 35 := by rw [j4, j3, j2, j1]; exact k 35 rfl
        have s2 : u'.1 36 = u.1 36 := by rw [j4, j3, j2, j1]; exact k 36 rfl
        have s3 : u'.1 37 = u.1 37 := by rw [j4, j3, j2, j1]; exact k 37 rfl
        have s4 : u'.1 38 = u.1 38 := by rw [j4, j3, j2, j1]; exact k 38 rfl
        have s5 : u'.1 13 = u.1 13 + 1 := by
          rw [j4, j3, j2, j1]
          show u11.1 13 + 1 = _
          rw [k 13 rfl]
        clear j1 j2 j3 j4
        obtain ⟨-, h2⟩ := gd_some h2
        obtain ⟨y1, i1, h2⟩ := lt_some h2
        obtain ⟨-, h2⟩ := gd_some h2
        obtain ⟨y2, i2, h2⟩ := lt_some h2
        obtain ⟨-, h2⟩ := gd_some h2
        obtain ⟨y3, i3, h2⟩ := lt_some h2
        obtain ⟨-, h2⟩ := gd_some h2
        obtain ⟨y4, i4, h2⟩ := lt_some h2
        obtain ⟨-, h2⟩ := gd_some h2
        obtain ⟨y5, i5, h2⟩ := lt_some h2
        obtain ⟨-, h2⟩ := gd_some h2
        obtain ⟨y6, i6, h2⟩ := lt_some h2
        obtain ⟨-, h2⟩ := gd_some h2
        obtain ⟨y7, i7, h2⟩ := lt_some h2
        obtain ⟨y8, i8, h2⟩ := lt_some h2
        cases h2
        have p0 : v'.1 1 = v1.1 1 := by rw [i8, i7, i6, i5, i4, i3, i2, i1]; rfl
        have p1 : v'.1 22 = v1.1 22 := by rw [i8, i7, i6, i5, i4, i3, i2, i1]; rfl
        have p2 : v'.1 23 = v1.1 23 := by rw [i8, i7, i6, i5, i4, i3, i2, i1]; rfl
        have p3 : v'.1 24 = v1.1 24 := by rw [i8, i7, i6, i5, i4, i3, i2, i1]; rfl
        have p4 : v'.1 25 = v1.1 25 := by rw [i8, i7, i6, i5, i4, i3, i2, i1]; rfl
        have p5 : v'.1 15 = v1.1 15 + 1 := by rw [i8, i7, i6, i5, i4, i3, i2, i1]; rfl
        refine ⟨by rw [s5, p5, f5], ?_, ?_, ?_, ?_, ?_, ?_⟩
        · rw [s0, p0]; exact f0
        · rw [s1, p1]; exact f1
        · rw [s2, p2]; exact f2
        · rw [s3, p3]; exact f3
        · rw [s4, p4]; exact f4
        · rw [s5, p5, f5]
/-! Prints and papers. -/
theorem addPrint_G {z1 z4 : Int32} {u u' : SX} {r : Int32} (hI : IX u) (hc : (u.1 36).toInt < 40) (b1 : 0 ≤ z1.toInt ∧ z1.toInt ≤ 7) (b4 : 0 ≤ z4.toInt ∧ z4.toInt ≤ 120) (h : GX2_addPrint_11_70 z1 z4 u = some (r, u')) : u'.1 0 = u.1 0 ∧ u'.1 35 = u.1 35 ∧ u'.1 36 = u.1 36 + 1 ∧ u'.1 37 = u.1 37 ∧ u'.1 38 = u.1 38 ∧ u'.1 13 = u.1 13 ∧ r = u.1 36 + 1 - 1 := by
  unfold GX2_addPrint_11_70 at h
  obtain ⟨r13, a13, h⟩ := bd_some h
  obtain ⟨⟨r16, u17⟩, a16, h⟩ := bd_some h
  have hs : StX mdX2_tell_11 u u17 := (Tot_at (tfX2_tell_11 z1 r13 z4 u hI b1 b4) a16).1
  obtain ⟨u19, e19, h⟩ := lt_some h
  cases h
  have k : ∀ k, mdX2_tell_11.1.contains k = false → u17.1 k = u.1 k := hs.2.1
  subst e19
  refine ⟨k 0 (by decide), k 35 (by decide), by show u17.1 36 + 1 = _; rw [k 36 (by decide)], k 37 (by decide), k 38 (by decide), k 13 (by decide), ?_⟩
  show u17.1 36 + 1 - 1 = _
  rw [k 36 (by decide)]
theorem addPrint_L : ∀ (n : Nat) (z1 z4 z5 : Int32) (u u' : SX) (r : Int32), IX u → (u.1 36).toInt < 40 → (0 ≤ z1.toInt ∧ z1.toInt ≤ 7) → (0 ≤ z4.toInt ∧ z4.toInt ≤ 120) → (0 ≤ z5.toInt ∧ z5.toInt ≤ 20) → LX2_addPrint_11_45 GX2_addPrint_11_70 n z1 z4 z5 u = some (r, u') → u'.1 0 = u.1 0 ∧ u'.1 35 = u.1 35 ∧ u'.1 36 = u.1 36 + 1 ∧ u'.1 37 = u.1 37 ∧ u'.1 38 = u.1 38 ∧ u'.1 13 = u.1 13 ∧ r = u.1 36 + 1 - 1 := by
  intro n
  induction n with
  | zero => intro z1 z4 z5 u u' r _ _ _ _ _ h; cases h
  | succ n ih =>
    intro z1 z4 z5 u u' r hI hc b1 b4 b5 h
    have h : (if (u.1 37) ≤ z5 then _ else _) = some (r, u') := h
    by_cases c : u.1 37 ≤ z5
    · rw [if_pos c] at h
      exact addPrint_G hI hc b1 b4 h
    · rw [if_neg c] at h
      have c9 : ¬ (u.1 37).toInt ≤ z5.toInt := nleI c
      have bo : (u.1 37).toInt ≤ (20 : Int) := (hI.1 37).2
      have bf : (0 : Int) ≤ (u.1 36).toInt := (hI.1 36).1
      obtain ⟨⟨r10, u11⟩, a10, h⟩ := bd_some h
      have hs : StX mdX2_compare_11 u u11 := (Tot_at (tfX2_compare_11 (u.1 36) z5 u hI ⟨by omega, by omega⟩ ⟨by omega, by omega⟩) a10).1
      have k : ∀ k, mdX2_compare_11.1.contains k = false → u11.1 k = u.1 k := hs.2.1
      have e5 : (z5 + 1).toInt = z5.toInt + 1 := addc_t (by decide) (by omega) (by omega)
      have q := ih z1 z4 (z5 + 1) u11 u' r hs.1 (by rw [k 36 rfl]; exact hc) b1 b4 ⟨by rw [e5]; omega, by rw [e5]; omega⟩ h
      rw [k 0 rfl, k 35 rfl, k 36 rfl, k 37 rfl, k 38 rfl, k 13 rfl] at q
      exact q
theorem addPrint_eq {x1 x2 x3 x4 : Int32} {u u' : SX} {r : Int32} (hI : IX u) (hc : u.1 36 < 40) (b1 : 0 ≤ x1.toInt ∧ x1.toInt ≤ 7) (b2 : (-400) ≤ x2.toInt ∧ x2.toInt ≤ 400) (b3 : (-400) ≤ x3.toInt ∧ x3.toInt ≤ 400) (b4 : 0 ≤ x4.toInt ∧ x4.toInt ≤ 120) (h : fX2_addPrint_11 x1 x2 x3 x4 u = some (r, u')) : u'.1 0 = u.1 0 ∧ u'.1 35 = u.1 35 ∧ u'.1 36 = u.1 36 + 1 ∧ u'.1 37 = u.1 37 ∧ u'.1 38 = u.1 38 ∧ u'.1 13 = u.1 13 ∧ r = u.1 36 + 1 - 1 := by
  unfold fX2_addPrint_11 at h
  rw [if_pos hc] at h
  have hc9 : (u.1 36).toInt < (40 : Int) := ltI hc
  obtain ⟨-, h⟩ := gd_some h
  obtain ⟨w1, j1, h⟩ := lt_some h
  obtain ⟨-, h⟩ := gd_some h
  obtain ⟨w2, j2, h⟩ := lt_some h
  obtain ⟨-, h⟩ := gd_some h
  obtain ⟨w3, j3, h⟩ := lt_some h
  have hs : StX (([], [63, 64, 65], [], [])) u w3 := by
    subst j3 j2 j1
    exact StX_sA (StX_sA (StX_sA (StX_rf hI) (by decide) (by first | exact b2.1 | exact Int.le_trans (by decide) b2.1) (by first | exact b2.2 | exact Int.le_trans b2.2 (by decide)) rfl) (by decide) (by first | exact b3.1 | exact Int.le_trans (by decide) b3.1) (by first | exact b3.2 | exact Int.le_trans b3.2 (by decide)) rfl) (by decide) (by first | exact b4.1 | exact Int.le_trans (by decide) b4.1) (by first | exact b4.2 | exact Int.le_trans b4.2 (by decide)) rfl
  have k : ∀ k, (([], [63, 64, 65], [], []) : MD).1.contains k = false → w3.1 k = u.1 k := hs.2.1
  have q := addPrint_L 5000 x1 x4 0 w3 u' r hs.1 (by rw [k 36 rfl]; exact hc9) b1 b4 ⟨by decide, by decide⟩ h
  rw [k 0 rfl, k 35 rfl, k 36 rfl, k 37 rfl, k 38 rfl, k 13 rfl] at q
  exact q
theorem addPaper_G {z1 z4 : Int32} {u u' : SX} {r : Int32} (hI : IX u) (hc : (u.1 37).toInt < 20) (b1 : 0 ≤ z1.toInt ∧ z1.toInt ≤ 7) (b4 : 0 ≤ z4.toInt ∧ z4.toInt ≤ 120) (h : GX2_addPaper_11_59 z1 z4 u = some (r, u')) : u'.1 0 = u.1 0 ∧ u'.1 35 = u.1 35 ∧ u'.1 36 = u.1 36 ∧ u'.1 37 = u.1 37 + 1 ∧ u'.1 38 = u.1 38 ∧ u'.1 13 = u.1 13 ∧ r = u.1 37 + 1 - 1 := by
  unfold GX2_addPaper_11_59 at h
  obtain ⟨r13, a13, h⟩ := bd_some h
  obtain ⟨⟨r16, u17⟩, a16, h⟩ := bd_some h
  have hs : StX mdX2_tell_11 u u17 := (Tot_at (tfX2_tell_11 z1 r13 z4 u hI b1 b4) a16).1
  obtain ⟨u19, e19, h⟩ := lt_some h
  cases h
  have k : ∀ k, mdX2_tell_11.1.contains k = false → u17.1 k = u.1 k := hs.2.1
  subst e19
  refine ⟨k 0 (by decide), k 35 (by decide), k 36 (by decide), by show u17.1 37 + 1 = _; rw [k 37 (by decide)], k 38 (by decide), k 13 (by decide), ?_⟩
  show u17.1 37 + 1 - 1 = _
  rw [k 37 (by decide)]
theorem addPaper_L : ∀ (n : Nat) (z1 z4 z5 : Int32) (u u' : SX) (r : Int32), IX u → (u.1 37).toInt < 20 → (0 ≤ z1.toInt ∧ z1.toInt ≤ 7) → (0 ≤ z4.toInt ∧ z4.toInt ≤ 120) → (0 ≤ z5.toInt ∧ z5.toInt ≤ 40) → LX2_addPaper_11_34 GX2_addPaper_11_59 n z1 z4 z5 u = some (r, u') → u'.1 0 = u.1 0 ∧ u'.1 35 = u.1 35 ∧ u'.1 36 = u.1 36 ∧ u'.1 37 = u.1 37 + 1 ∧ u'.1 38 = u.1 38 ∧ u'.1 13 = u.1 13 ∧ r = u.1 37 + 1 - 1 := by
  intro n
  induction n with
  | zero => intro z1 z4 z5 u u' r _ _ _ _ _ h; cases h
  | succ n ih =>
    intro z1 z4 z5 u u' r hI hc b1 b4 b5 h
    have h : (if (u.1 36) ≤ z5 then _ else _) = some (r, u') := h
    by_cases c : u.1 36 ≤ z5
    · rw [if_pos c] at h
      exact addPaper_G hI hc b1 b4 h
    · rw [if_neg c] at h
      have c9 : ¬ (u.1 36).toInt ≤ z5.toInt := nleI c
      have bo : (u.1 36).toInt ≤ (40 : Int) := (hI.1 36).2
      have bf : (0 : Int) ≤ (u.1 37).toInt := (hI.1 37).1
      obtain ⟨⟨r10, u11⟩, a10, h⟩ := bd_some h
      have hs : StX mdX2_compare_11 u u11 := (Tot_at (tfX2_compare_11 z5 (u.1 37) u hI ⟨by omega, by omega⟩ ⟨by omega, by omega⟩) a10).1
      have k : ∀ k, mdX2_compare_11.1.contains k = false → u11.1 k = u.1 k := hs.2.1
      have e5 : (z5 + 1).toInt = z5.toInt + 1 := addc_t (by decide) (by omega) (by omega)
      have q := ih z1 z4 (z5 + 1) u11 u' r hs.1 (by rw [k 37 rfl]; exact hc) b1 b4 ⟨by rw [e5]; omega, by rw [e5]; omega⟩ h
      rw [k 0 rfl, k 35 rfl, k 36 rfl, k 37 rfl, k 38 rfl, k 13 rfl] at q
      exact q
theorem addPaper_eq {x1 x2 x3 x4 : Int32} {u u' : SX} {r : Int32} (hI : IX u) (hc : u.1 37 < 20) (b1 : 0 ≤ x1.toInt ∧ x1.toInt ≤ 7) (b2 : (-400) ≤ x2.toInt ∧ x2.toInt ≤ 400) (b3 : (-400) ≤ x3.toInt ∧ x3.toInt ≤ 400) (b4 : 0 ≤ x4.toInt ∧ x4.toInt ≤ 120) (h : fX2_addPaper_11 x1 x2 x3 x4 u = some (r, u')) : u'.1 0 = u.1 0 ∧ u'.1 35 = u.1 35 ∧ u'.1 36 = u.1 36 ∧ u'.1 37 = u.1 37 + 1 ∧ u'.1 38 = u.1 38 ∧ u'.1 13 = u.1 13 ∧ r = u.1 37 + 1 - 1 := by
  unfold fX2_addPaper_11 at h
  rw [if_pos hc] at h
  have hc9 : (u.1 37).toInt < (20 : Int) := ltI hc
  obtain ⟨-, h⟩ := gd_some h
  obtain ⟨w1, j1, h⟩ := lt_some h
  obtain ⟨-, h⟩ := gd_some h
  obtain ⟨w2, j2, h⟩ := lt_some h
  have hs : StX (([], [66, 67], [], [])) u w2 := by
    subst j2 j1
    exact StX_sA (StX_sA (StX_rf hI) (by decide) (by first | exact b2.1 | exact Int.le_trans (by decide) b2.1) (by first | exact b2.2 | exact Int.le_trans b2.2 (by decide)) rfl) (by decide) (by first | exact b3.1 | exact Int.le_trans (by decide) b3.1) (by first | exact b3.2 | exact Int.le_trans b3.2 (by decide)) rfl
  have k : ∀ k, (([], [66, 67], [], []) : MD).1.contains k = false → w2.1 k = u.1 k := hs.2.1
  have q := addPaper_L 5000 x1 x4 0 w2 u' r hs.1 (by rw [k 37 rfl]; exact hc9) b1 b4 ⟨by decide, by decide⟩ h
  rw [k 0 rfl, k 35 rfl, k 36 rfl, k 37 rfl, k 38 rfl, k 13 rfl] at q
  exact q
theorem print_eq {x1 x2 x3 x4 : Int32} {u u' v v' : SX} {r r' : Int32} (hI : IX u) (hJ : IM v) (ht : Tie u v) (h1 : fX11_print_0 x1 x2 x3 x4 u = some (r, u')) (h2 : fX12_print_0 x1 x2 x3 x4 v = some (r', v')) : r = r' ∧ Tie u' v' := by
  obtain ⟨t0, t1, t2, t3, t4, t5⟩ := ht
  unfold fX11_print_0 at h1
  unfold fX12_print_0 at h2
  obtain ⟨v1, e1, h2⟩ := lt_some h2
  have f0 : u.1 0 = v1.1 1 := by rw [e1]; exact t0
  have f1 : u.1 35 = v1.1 22 := by rw [e1]; exact t1
  have f2 : u.1 36 = v1.1 23 := by rw [e1]; exact t2
  have f3 : u.1 37 = v1.1 24 := by rw [e1]; exact t3
  have f4 : u.1 38 = v1.1 25 := by rw [e1]; exact t4
  have f5 : u.1 13 = v1.1 15 := by rw [e1]; exact t5
  have b1 : (u.1 36).toInt ≤ (40 : Int) := (hI.1 36).2
  have b2 : (u.1 37).toInt ≤ (20 : Int) := (hI.1 37).2
  have b3 : (0 : Int) ≤ (u.1 0).toInt := (hI.1 0).1
  have b4 : (u.1 0).toInt ≤ (120 : Int) := (hI.1 0).2
  have b5 : (u.1 35).toInt ≤ (8 : Int) := (hI.1 35).2
  have T0 : Tie u v1 := ⟨f0, f1, f2, f3, f4, f5⟩
  clear e1 t0 t1 t2 t3 t4 t5
  obtain ⟨⟨r1, u2⟩, a1, h1⟩ := bd_some h1
  obtain ⟨⟨r3, v4⟩, a3, h2⟩ := bd_some h2
  obtain ⟨g0, g1, g2, g3⟩ := has_eq f1 a1 a3
  rw [g0] at h1
  rw [g1, ← g2] at h2
  have h1 : (if r1 = 0 then _ else _) = some (r, u') := h1
  have h2 : (if r1 = 0 then _ else _) = some (r', v') := h2
  by_cases c1 : r1 = 0
  · rw [if_pos c1] at h1 h2
    cases h1
    cases h2
    exact ⟨rfl, T0⟩
  rw [if_neg c1] at h1 h2
  obtain ⟨y0, y1⟩ := g3 c1
  obtain ⟨r6, a6, h2⟩ := bd_some h2
  have i6 : fX12_isIn x3 (-400) 400 = some r6 := a6
  unfold fX12_isIn at i6
  by_cases c2 : x3 < -400
  · rw [if_pos c2] at h1 i6
    obtain ⟨-, i6⟩ := gd_some i6
    cases i6
    rw [if_pos rfl] at h2
    cases h1
    cases h2
    exact ⟨rfl, T0⟩
  rw [if_neg c2] at h1 i6
  have z2 : ¬ x3.toInt < (-400 : Int) := nltI c2
  by_cases c3 : 400 < x4
  · rw [if_pos c3] at h1
    cases h1
    have z3 : (400 : Int) < x4.toInt := ltI c3
    by_cases c4 : 400 < x3
    · rw [if_pos c4] at i6
      obtain ⟨-, i6⟩ := gd_some i6
      cases i6
      rw [if_pos rfl] at h2
      cases h2
      exact ⟨rfl, T0⟩
    · rw [if_neg c4] at i6
      obtain ⟨-, i6⟩ := gd_some i6
      cases i6
      rw [if_neg (by decide)] at h2
      obtain ⟨r9, a9, h2⟩ := bd_some h2
      unfold fX12_isIn at a9
      have n9 : ¬ x4 < x3 := fun z => by
        have := ltI z
        have : ¬ (400 : Int) < x3.toInt := nltI c4
        omega
      rw [if_neg n9, if_pos c3] at a9
      obtain ⟨-, a9⟩ := gd_some a9
      cases a9
      rw [if_pos rfl] at h2
      cases h2
      exact ⟨rfl, T0⟩
  rw [if_neg c3] at h1
  have z3 : ¬ (400 : Int) < x4.toInt := nltI c3
  by_cases c4 : x3 ≤ x4
  · rw [if_pos c4] at h1
    have z4 : x3.toInt ≤ x4.toInt := leI c4
    have n4 : ¬ 400 < x3 := fun z => by
      have : (400 : Int) < x3.toInt := ltI z
      omega
    rw [if_neg n4] at i6
    obtain ⟨-, i6⟩ := gd_some i6
    cases i6
    rw [if_neg (by decide)] at h2
    obtain ⟨r9, a9, h2⟩ := bd_some h2
    unfold fX12_isIn at a9
    have n9 : ¬ x4 < x3 := fun z => by
      have := ltI z
      omega
    rw [if_neg n9, if_neg c3] at a9
    obtain ⟨-, a9⟩ := gd_some a9
    cases a9
    rw [if_neg (by decide)] at h2
    by_cases c5 : x2 = 0
    · rw [if_pos c5] at h1 h2
      rw [← f2] at h2
      by_cases c6 : u.1 36 < 40
      · rw [if_pos c6] at h1
        have n6 : ¬ u.1 36 = 40 := fun z => by
          rw [z] at c6
          exact absurd c6 (by decide)
        rw [if_neg n6] at h2
        obtain ⟨⟨r4, u5⟩, a4, h1⟩ := bd_some h1
        cases h1
        obtain ⟨s0, s1, s2, s3, s4, s6, s5⟩ := addPrint_eq hI c6 ⟨by omega, by omega⟩ ⟨by omega, by omega⟩ ⟨by omega, by omega⟩ ⟨by omega, by omega⟩ a4
        unfold GX12_print_0_65 GX12_print_0_83 GX12_print_0_148 at h2
        rw [if_pos c5] at h2
        obtain ⟨-, h2⟩ := gd_some h2
        obtain ⟨w1, j1, h2⟩ := lt_some h2
        obtain ⟨-, h2⟩ := gd_some h2
        obtain ⟨w2, j2, h2⟩ := lt_some h2
        obtain ⟨-, h2⟩ := gd_some h2
        obtain ⟨w3, j3, h2⟩ := lt_some h2
        obtain ⟨-, h2⟩ := gd_some h2
        obtain ⟨w4, j4, h2⟩ := lt_some h2
        rw [if_pos c5] at h2
        obtain ⟨w5, j5, h2⟩ := lt_some h2
        rw [if_pos c5] at h2
        cases h2
        subst j5 j4 j3 j2 j1
        refine ⟨?_, s0.trans f0, s1.trans f1, s2.trans (by rw [f2]; rfl), s3.trans f3, s4.trans f4, s6.trans f5⟩
        rw [s5, f2]
        rfl
      · rw [if_neg c6] at h1
        have z6 : ¬ (u.1 36).toInt < (40 : Int) := nltI c6
        have n6 : u.1 36 = 40 := Int32.toInt.inj ((show (u.1 36).toInt = (40 : Int) by omega).trans (by decide))
        rw [if_pos n6] at h2
        cases h1
        cases h2
        exact ⟨rfl, T0⟩
    · rw [if_neg c5] at h1 h2
      rw [← f3] at h2
      by_cases c6 : u.1 37 < 20
      · rw [if_pos c6] at h1
        have n6 : ¬ u.1 37 = 20 := fun z => by
          rw [z] at c6
          exact absurd c6 (by decide)
        rw [if_neg n6] at h2
        obtain ⟨⟨r4, u5⟩, a4, h1⟩ := bd_some h1
        cases h1
        obtain ⟨s0, s1, s2, s3, s4, s6, s5⟩ := addPaper_eq hI c6 ⟨by omega, by omega⟩ ⟨by omega, by omega⟩ ⟨by omega, by omega⟩ ⟨by omega, by omega⟩ a4
        unfold GX12_print_0_65 GX12_print_0_83 GX12_print_0_148 at h2
        rw [if_neg c5] at h2
        obtain ⟨-, h2⟩ := gd_some h2
        obtain ⟨w1, j1, h2⟩ := lt_some h2
        obtain ⟨-, h2⟩ := gd_some h2
        obtain ⟨w2, j2, h2⟩ := lt_some h2
        obtain ⟨-, h2⟩ := gd_some h2
        obtain ⟨w3, j3, h2⟩ := lt_some h2
        obtain ⟨-, h2⟩ := gd_some h2
        obtain ⟨w4, j4, h2⟩ := lt_some h2
        rw [if_neg c5] at h2
        obtain ⟨w5, j5, h2⟩ := lt_some h2
        rw [if_neg c5] at h2
        cases h2
        subst j5 j4 j3 j2 j1
        refine ⟨?_, s0.trans f0, s1.trans f1, s2.trans f2, s3.trans (by rw [f3]; rfl), s4.trans f4, s6.trans f5⟩
        rw [s5, f3]
        rfl
      · rw [if_neg c6] at h1
        have z6 : ¬ (u.1 37).toInt < (20 : Int) := nltI c6
        have n6 : u.1 37 = 20 := Int32.toInt.inj ((show (u.1 37).toInt = (20 : Int) by omega).trans (by decide))
        rw [if_pos n6] at h2
        cases h1
        cases h2
        exact ⟨rfl, T0⟩
  · rw [if_neg c4] at h1
    cases h1
    have z4 : ¬ x3.toInt ≤ x4.toInt := nleI c4
    by_cases c5 : 400 < x3
    · rw [if_pos c5] at i6
      obtain ⟨-, i6⟩ := gd_some i6
      cases i6
      rw [if_pos rfl] at h2
      cases h2
      exact ⟨rfl, T0⟩
    · rw [if_neg c5] at i6
      obtain ⟨-, i6⟩ := gd_some i6
      cases i6
      rw [if_neg (by decide)] at h2
      obtain ⟨r9, a9, h2⟩ := bd_some h2
      unfold fX12_isIn at a9
      rw [if_pos (Int32.lt_iff_toInt_lt.mpr (by omega))] at a9
      obtain ⟨-, a9⟩ := gd_some a9
      cases a9
      rw [if_pos rfl] at h2
      cases h2
      exact ⟨rfl, T0⟩
