/-! part and look keep what is alike. -/
theorem upd_at {d : Nat → Int32} {n : Nat} {x : Int32} : upd d n x n = x := by
  show (if n = n then x else d n) = x
  rw [if_pos rfl]
theorem upd_ne {d : Nat → Int32} {n i : Nat} {x : Int32} (h : ¬ i = n) : upd d n x i = d i := by
  show (if i = n then x else d i) = d i
  rw [if_neg h]
theorem Srt_app {d : Nat → Int32} {n x : Int32} (h0 : 0 ≤ n.toInt) (h9 : n.toInt < 2147483647) (hs : Srt d n) (hx : ∀ i : Nat, (i : Int) < n.toInt → (d i).toInt ≤ x.toInt) : Srt (upd d n.toNatClampNeg x) (n + 1) := by
  have e : (n + 1).toInt = n.toInt + 1 := addc_t (by decide) (by omega) (by omega)
  intro i j hij hj
  rw [e] at hj
  by_cases cj : j = n.toNatClampNeg
  · rw [cj, upd_at]
    by_cases ci : i = n.toNatClampNeg
    · rw [ci, upd_at]
      exact Int.le_refl _
    · rw [upd_ne ci]
      have ci : ¬ i = n.toInt.toNat := ci
      have cj : j = n.toInt.toNat := cj
      exact hx i (by omega)
  · have cj9 : ¬ j = n.toInt.toNat := cj
    have ci : ¬ i = n.toNatClampNeg := fun z => by
      have z : i = n.toInt.toNat := z
      omega
    rw [upd_ne cj, upd_ne ci]
    exact hs i j hij (by omega)
theorem loud_le {x0 x1 a : Int32} (h1 : fX11_isLoudness x0 x1 = some a) (c : ¬ a = 0) : x0.toInt ≤ x1.toInt := by
  unfold fX11_isLoudness at h1
  by_cases c0 : x0 < 0
  · rw [if_pos c0] at h1
    have e1 : (0 : Int32) = a := by cases (gd_some h1).2; rfl
    exact absurd e1.symm c
  · rw [if_neg c0] at h1
    by_cases c2 : 400 < x1
    · rw [if_pos c2] at h1
      have e1 : (0 : Int32) = a := by cases (gd_some h1).2; rfl
      exact absurd e1.symm c
    · rw [if_neg c2] at h1
      by_cases c3 : x1 < x0
      · rw [if_pos c3] at h1
        have e1 : (0 : Int32) = a := by cases (gd_some h1).2; rfl
        exact absurd e1.symm c
      · have d := nltI c3
        omega
theorem partX {x1 x2 x3 x4 r : Int32} {u u' : SX} (hI : IX u) (h1 : fX11_part_0 x1 x2 x3 x4 u = some (r, u')) : (r = -1 ∧ u' = u) ∨ (¬ r = -1 ∧ (u.1 8).toInt < 12 ∧ x2.toInt ≤ x3.toInt ∧ u'.1 8 = u.1 8 + 1 ∧ u'.2.1 24 = upd (u.2.1 24) (u.1 8).toNatClampNeg x1 ∧ u'.2.1 26 = upd (u.2.1 26) (u.1 8).toNatClampNeg x4 ∧ u'.2.1 29 = upd (u.2.1 29) (u.1 8).toNatClampNeg x2 ∧ u'.2.1 30 = upd (u.2.1 30) (u.1 8).toNatClampNeg x3 ∧ u'.2.1 25 = upd (u.2.1 25) (u.1 8).toNatClampNeg (u.1 0)) := by
  have b0 : (0 : Int) ≤ (u.1 8).toInt := (hI.1 8).1
  unfold fX11_part_0 at h1
  have no : some ((-1 : Int32), u) = some (r, u') → r = -1 ∧ u' = u := fun g => by
    cases g
    exact ⟨rfl, rfl⟩
  obtain ⟨⟨s1, u2⟩, a1, h1⟩ := bd_some h1
  rw [has3_st a1] at h1
  have h1 : (if s1 = 0 then (some ((-1), u)) else _) = some (r, u') := h1
  by_cases c1 : s1 = 0
  · rw [if_pos c1] at h1
    exact Or.inl (no h1)
  · rw [if_neg c1] at h1
    obtain ⟨s4, a4, h1⟩ := bd_some h1
    by_cases c4 : s4 = 0
    · rw [if_pos c4] at h1
      exact Or.inl (no h1)
    · rw [if_neg c4] at h1
      obtain ⟨s7, a7, h1⟩ := bd_some h1
      by_cases c7 : s7 = 0
      · rw [if_pos c7] at h1
        exact Or.inl (no h1)
      · rw [if_neg c7] at h1
        by_cases n12 : u.1 8 < 12
        · rw [if_pos n12] at h1
          have n9 : (u.1 8).toInt < (12 : Int) := ltI n12
          obtain ⟨⟨s10, u11⟩, a10, h1⟩ := bd_some h1
          have e1 : s10 = r ∧ u11 = u' := by cases h1; exact ⟨rfl, rfl⟩
          have a10 : fX6_add_6 x1 x2 x3 x4 (u.1 0) u = some (s10, u11) := a10
          unfold fX6_add_6 at a10
          rw [if_pos n12] at a10
          obtain ⟨-, a10⟩ := gd_some a10
          obtain ⟨w1, j1, a10⟩ := lt_some a10
          obtain ⟨-, a10⟩ := gd_some a10
          obtain ⟨w2, j2, a10⟩ := lt_some a10
          obtain ⟨-, a10⟩ := gd_some a10
          obtain ⟨w3, j3, a10⟩ := lt_some a10
          obtain ⟨-, a10⟩ := gd_some a10
          obtain ⟨w4, j4, a10⟩ := lt_some a10
          obtain ⟨-, a10⟩ := gd_some a10
          obtain ⟨w5, j5, a10⟩ := lt_some a10
          obtain ⟨w6, j6, a10⟩ := lt_some a10
          have e3 : w6.1 8 - 1 = s10 ∧ w6 = u11 := by cases a10; exact ⟨rfl, rfl⟩
          have k8 : w6.1 8 = u.1 8 + 1 := by rw [j6, j5, j4, j3, j2, j1]; rfl
          have e8 : (u.1 8 + 1).toInt = (u.1 8).toInt + 1 := addc_t (by decide) (by omega) (by omega)
          have e9 : (u.1 8 + 1 - 1).toInt = (u.1 8).toInt + 1 - 1 := by
            rw [subc_t (n := 1) (by decide) (by rw [e8]; omega) (by rw [e8]; omega), e8]
          refine Or.inr ⟨fun z => ?_, n9, loud_le a4 c4, ?_⟩
          · rw [← e1.1, ← e3.1, k8] at z
            have z9 : (u.1 8 + 1 - 1).toInt = (-1 : Int) := eqI z
            rw [e9] at z9
            omega
          · rw [← e1.2, ← e3.2]
            exact ⟨k8, by rw [j6, j5, j4, j3, j2, j1]; rfl, by rw [j6, j5, j4, j3, j2, j1]; rfl, by rw [j6, j5, j4, j3, j2, j1]; rfl, by rw [j6, j5, j4, j3, j2, j1]; rfl, by rw [j6, j5, j4, j3, j2, j1]; rfl⟩
        · rw [if_neg n12] at h1
          exact Or.inl (no h1)
theorem partM {x1 x2 x3 x4 r : Int32} {v v' : SX} (hJ : IM v) (h2 : fX12_part__0 x1 x2 x3 x4 v = some (r, v')) : (r = -1 ∧ v' = sI v 0 0) ∨ (¬ r = -1 ∧ v'.1 12 = v.1 12 + 1 ∧ v'.2.1 6 = upd (v.2.1 6) (v.1 12).toNatClampNeg x1 ∧ v'.2.1 7 = upd (v.2.1 7) (v.1 12).toNatClampNeg x2 ∧ v'.2.1 8 = upd (v.2.1 8) (v.1 12).toNatClampNeg x3 ∧ v'.2.1 9 = upd (v.2.1 9) (v.1 12).toNatClampNeg x4 ∧ v'.2.1 10 = upd (v.2.1 10) (v.1 12).toNatClampNeg (v.1 1)) := by
  have b0 : (0 : Int) ≤ (v.1 12).toInt := (hJ.1 12).1
  have b9 : (v.1 12).toInt ≤ (12 : Int) := (hJ.1 12).2
  unfold fX12_part__0 at h2
  obtain ⟨v1, e1, h2⟩ := lt_some h2
  have no : some ((-1 : Int32), v1) = some (r, v') → r = -1 ∧ v' = sI v 0 0 := fun g => by
    have e : (-1 : Int32) = r ∧ v1 = v' := by cases g; exact ⟨rfl, rfl⟩
    exact ⟨e.1.symm, by rw [← e.2, e1]⟩
  by_cases c12 : v1.1 12 = 12
  · rw [if_pos c12] at h2
    exact Or.inl (no h2)
  · rw [if_neg c12] at h2
    obtain ⟨-, h2⟩ := gd_some h2
    obtain ⟨q4, b4, h2⟩ := bd_some h2
    by_cases c4 : q4 = 0
    · rw [if_pos c4] at h2
      exact Or.inl (no h2)
    · rw [if_neg c4] at h2
      obtain ⟨q7, b7, h2⟩ := bd_some h2
      by_cases c7 : q7 = 0
      · rw [if_pos c7] at h2
        exact Or.inl (no h2)
      · rw [if_neg c7] at h2
        obtain ⟨q10, b10, h2⟩ := bd_some h2
        by_cases c10 : q10 = 0
        · rw [if_pos c10] at h2
          exact Or.inl (no h2)
        · rw [if_neg c10] at h2
          obtain ⟨-, h2⟩ := gd_some h2
          obtain ⟨y1, i1, h2⟩ := lt_some h2
          obtain ⟨-, h2⟩ := gd_some h2
          obtain ⟨y2, i2, h2⟩ := lt_some h2
          obtain ⟨-, h2⟩ := gd_some h2
          obtain ⟨y3, i3, h2⟩ := lt_some h2
          obtain ⟨-, h2⟩ := gd_some h2
          obtain ⟨y4, i4, h2⟩ := lt_some h2
          obtain ⟨-, h2⟩ := gd_some h2
          obtain ⟨y5, i5, h2⟩ := lt_some h2
          obtain ⟨y6, i6, h2⟩ := lt_some h2
          have e2 : y6.1 12 - 1 = r ∧ y6 = v' := by cases h2; exact ⟨rfl, rfl⟩
          have k8 : y6.1 12 = v.1 12 + 1 := by rw [i6, i5, i4, i3, i2, i1, e1]; rfl
          have e8 : (v.1 12 + 1).toInt = (v.1 12).toInt + 1 := addc_t (by decide) (by omega) (by omega)
          have e9 : (v.1 12 + 1 - 1).toInt = (v.1 12).toInt + 1 - 1 := by
            rw [subc_t (n := 1) (by decide) (by rw [e8]; omega) (by rw [e8]; omega), e8]
          refine Or.inr ⟨fun z => ?_, ?_⟩
          · rw [← e2.1, k8] at z
            have z9 : (v.1 12 + 1 - 1).toInt = (-1 : Int) := eqI z
            rw [e9] at z9
            omega
          · rw [← e2.2]
            exact ⟨k8, by rw [i6, i5, i4, i3, i2, i1, e1]; rfl, by rw [i6, i5, i4, i3, i2, i1, e1]; rfl, by rw [i6, i5, i4, i3, i2, i1, e1]; rfl, by rw [i6, i5, i4, i3, i2, i1, e1]; rfl, by rw [i6, i5, i4, i3, i2, i1, e1]; rfl⟩
theorem partS {x1 x2 x3 x4 r r' : Int32} {u u' v v' : SX} (hI : IX u) (hJ : IM v) (ht : Tie u v) (hp : TieP u v) (hS : TieS u v) (hC : CX u) (hx : FrM mdX11_part_0 u u') (hm : FrM mdX12_part__0 v v') (er : r = r') (h1 : fX11_part_0 x1 x2 x3 x4 u = some (r, u')) (h2 : fX12_part__0 x1 x2 x3 x4 v = some (r', v')) : TieS u' v' ∧ CX u' := by
  rcases partX hI h1 with ⟨z1, e1⟩ | ⟨z1, n9, le, k8, k24, k26, k29, k30, k25⟩
  · rcases partM hJ h2 with ⟨z2, e2⟩ | ⟨z2, -⟩
    · rw [e1, e2]
      exact ⟨TieS_of (fun _ _ => rfl) (fun _ _ => rfl) rfl (fun _ _ => rfl) hS, hC⟩
    · exact absurd (er.symm.trans z1) z2
  · rcases partM hJ h2 with ⟨z2, -⟩ | ⟨z2, m12, m6, m7, m8, m9, m10⟩
    · exact absurd (er.trans z2) z1
    · have b0 : (0 : Int) ≤ (u.1 8).toInt := (hI.1 8).1
      have e8 : (u.1 8 + 1).toInt = (u.1 8).toInt + 1 := addc_t (by decide) (by omega) (by omega)
      rw [← hp.1] at m6 m7 m8 m9 m10
      obtain ⟨s1, s2, s3, s4, s5, s6⟩ := hS
      have x0 : u'.1 0 = u.1 0 := hx.1 0 (by decide)
      have x12 : u'.1 12 = u.1 12 := hx.1 12 (by decide)
      have x29 : u'.1 29 = u.1 29 := hx.1 29 (by decide)
      have sp : ∀ k i : Nat, (i : Int) < (u.1 8).toInt → spX u' k i = spX u k i := fun k i hi => by
        have ni : ¬ i = (u.1 8).toNatClampNeg := fun z => by
          have z : i = (u.1 8).toInt.toNat := z
          omega
        refine rpS_cg ?_ ?_ k (fun j _ => ?_)
        · rw [k29, upd_ne ni]
        · rw [k30, upd_ne ni]
        · rw [hx.2.1 31 (by decide), hx.2.1 32 (by decide), hx.2.1 33 (by decide), hx.2.1 35 (by decide)]
          exact ⟨rfl, rfl, rfl, Iff.rfl⟩
      refine ⟨⟨by rw [x12, hm.1 13 (by decide)]; exact s1, fun i hi => ?_, fun i hi => ?_, fun k hk => ?_, ?_, ?_⟩, ?_⟩
      · rw [k8, e8] at hi
        rw [k24, k25, k26, k29, k30, m6, m7, m8, m9, m10, x0]
        by_cases ci : i = (u.1 8).toNatClampNeg
        · rw [ci, upd_at, upd_at, upd_at, upd_at, upd_at, upd_at, upd_at, upd_at, upd_at, upd_at]
          exact ⟨rfl, ht.1, rfl, rfl, rfl, le, Int.le_refl _⟩
        · rw [upd_ne ci, upd_ne ci, upd_ne ci, upd_ne ci, upd_ne ci, upd_ne ci, upd_ne ci, upd_ne ci, upd_ne ci, upd_ne ci]
          have ci : ¬ i = (u.1 8).toInt.toNat := ci
          exact s2 i (by omega)
      · rw [x12] at hi
        rw [hx.2.1 31 (by decide), hx.2.1 32 (by decide), hx.2.1 33 (by decide), hx.2.1 34 (by decide), hx.2.1 35 (by decide), hm.2.1 11 (by decide), hm.2.1 12 (by decide), hm.2.1 13 (by decide), hm.2.1 14 (by decide), hm.2.1 15 (by decide), x0]
        exact s3 i hi
      · rw [x29] at hk
        obtain ⟨l1, l2, l3, l4, l5, l6, l7, l8⟩ := s4 k hk
        rw [hx.2.1 48 (by decide), hx.2.1 49 (by decide), hx.2.1 50 (by decide), hx.2.1 51 (by decide), hm.2.1 29 (by decide), hm.2.1 30 (by decide), hm.2.1 31 (by decide), hm.2.1 32 (by decide), hm.2.1 33 (by decide), k8, e8]
        refine ⟨l1, l2, l3, l4, l5, l6, by omega, fun z => ?_⟩
        obtain ⟨d1, d2, d3, d4, d5, d6, d7, d8⟩ := l8 z
        have hn : (((u.2.1 48 k).toNatClampNeg : Nat) : Int) < (u.1 8).toInt := by
          show (((u.2.1 48 k).toInt.toNat : Nat) : Int) < _
          omega
        unfold LkD
        rw [hx.2.1 48 (by decide), hx.2.1 49 (by decide), hx.2.1 50 (by decide), hx.2.1 53 (by decide), hx.2.1 54 (by decide), hx.2.1 55 (by decide), hx.2.1 56 (by decide), hx.2.1 31 (by decide), hx.2.1 32 (by decide), hx.2.1 33 (by decide), hx.2.1 35 (by decide), x12, sp _ _ hn, sp _ _ hn]
        exact ⟨d1, d2, d3, d4, d5, d6, d7, d8⟩
      · rw [hx.2.1 34 (by decide), x12]
        exact s5
      · rw [k25, k8]
        exact Srt_app b0 (by omega) s6 (fun i hi => (s2 i hi).2.2.2.2.2.2)
      · obtain ⟨c1, c2, c3⟩ := hC
        have x10 : u'.1 10 = u.1 10 := hx.1 10 (by decide)
        have x11 : u'.1 11 = u.1 11 := hx.1 11 (by decide)
        refine ⟨by rw [x10, k8, e8]; omega, by rw [x11, x12]; exact c2, fun i hi => ?_⟩
        rw [x10] at hi
        rw [hx.2.1 27 (by decide), hx.2.1 28 (by decide), x11, sp _ _ (by omega)]
        exact c3 i hi
theorem lookX {x1 x2 x3 x4 r : Int32} {u u' : SX} (hI : IX u) (h1 : fX11_look_0 x1 x2 x3 x4 u = some (r, u')) : (r = -1 ∧ u' = u) ∨ (¬ r = -1 ∧ (u.1 29).toInt < 10 ∧ x2.toInt ≤ x3.toInt ∧ 0 ≤ x1.toInt ∧ x1.toInt < (u.1 8).toInt ∧ u'.1 29 = u.1 29 + 1 ∧ u'.2.1 48 = upd (u.2.1 48) (u.1 29).toNatClampNeg x1 ∧ u'.2.1 49 = upd (u.2.1 49) (u.1 29).toNatClampNeg x2 ∧ u'.2.1 50 = upd (u.2.1 50) (u.1 29).toNatClampNeg x3 ∧ u'.2.1 51 = upd (u.2.1 51) (u.1 29).toNatClampNeg x4) := by
  have b0 : (0 : Int) ≤ (u.1 29).toInt := (hI.1 29).1
  unfold fX11_look_0 at h1
  have no : some ((-1 : Int32), u) = some (r, u') → r = -1 ∧ u' = u := fun g => by
    cases g
    exact ⟨rfl, rfl⟩
  have g34 : GX11_look_0_34 x1 x2 x3 x4 u = some ((-1), u) := by
    unfold GX11_look_0_34 GX11_look_0_35
    rw [if_pos rfl]
  obtain ⟨⟨s1, u2⟩, a1, h1⟩ := bd_some h1
  obtain ⟨es, k1⟩ := hasPi a1
  rw [es] at h1
  have h1 : (if s1 = 0 then (GX11_look_0_34 x1 x2 x3 x4 u) else _) = some (r, u') := h1
  rcases k1 with ⟨z, -⟩ | ⟨z, p0, p1⟩
  · rw [if_pos z, g34] at h1
    exact Or.inl (no h1)
  · rw [if_neg (ne01 z)] at h1
    obtain ⟨s4, a4, h1⟩ := bd_some h1
    by_cases c4 : s4 = 0
    · rw [if_pos c4, g34] at h1
      exact Or.inl (no h1)
    · rw [if_neg c4] at h1
      obtain ⟨s7, a7, h1⟩ := bd_some h1
      by_cases c7 : s7 = 0
      · rw [if_pos c7, g34] at h1
        exact Or.inl (no h1)
      · rw [if_neg c7] at h1
        unfold GX11_look_0_35 at h1
        rw [if_neg (by decide)] at h1
        by_cases n10 : u.1 29 < 10
        · rw [if_pos n10] at h1
          have n9 : (u.1 29).toInt < (10 : Int) := ltI n10
          obtain ⟨⟨s10, u11⟩, a10, h1⟩ := bd_some h1
          have e1 : s10 = r ∧ u11 = u' := by cases h1; exact ⟨rfl, rfl⟩
          unfold fX3_add_10 at a10
          rw [if_pos n10] at a10
          obtain ⟨-, a10⟩ := gd_some a10
          obtain ⟨w1, j1, a10⟩ := lt_some a10
          obtain ⟨-, a10⟩ := gd_some a10
          obtain ⟨w2, j2, a10⟩ := lt_some a10
          obtain ⟨-, a10⟩ := gd_some a10
          obtain ⟨w3, j3, a10⟩ := lt_some a10
          obtain ⟨-, a10⟩ := gd_some a10
          obtain ⟨w4, j4, a10⟩ := lt_some a10
          obtain ⟨-, a10⟩ := gd_some a10
          obtain ⟨w5, j5, a10⟩ := lt_some a10
          obtain ⟨w6, j6, a10⟩ := lt_some a10
          have e3 : w6.1 29 - 1 = s10 ∧ w6 = u11 := by cases a10; exact ⟨rfl, rfl⟩
          have k8 : w6.1 29 = u.1 29 + 1 := by rw [j6, j5, j4, j3, j2, j1]; rfl
          have e8 : (u.1 29 + 1).toInt = (u.1 29).toInt + 1 := addc_t (by decide) (by omega) (by omega)
          have e9 : (u.1 29 + 1 - 1).toInt = (u.1 29).toInt + 1 - 1 := by
            rw [subc_t (n := 1) (by decide) (by rw [e8]; omega) (by rw [e8]; omega), e8]
          refine Or.inr ⟨fun z => ?_, n9, loud_le a4 c4, p0, p1, ?_⟩
          · rw [← e1.1, ← e3.1, k8] at z
            have z9 : (u.1 29 + 1 - 1).toInt = (-1 : Int) := eqI z
            rw [e9] at z9
            omega
          · rw [← e1.2, ← e3.2]
            exact ⟨k8, by rw [j6, j5, j4, j3, j2, j1]; rfl, by rw [j6, j5, j4, j3, j2, j1]; rfl, by rw [j6, j5, j4, j3, j2, j1]; rfl, by rw [j6, j5, j4, j3, j2, j1]; rfl⟩
        · rw [if_neg n10] at h1
          exact Or.inl (no h1)
theorem lookM {x1 x2 x3 x4 r : Int32} {v v' : SX} (hJ : IM v) (h2 : fX12_look__0 x1 x2 x3 x4 v = some (r, v')) : (r = -1 ∧ v' = sI v 0 0) ∨ (¬ r = -1 ∧ v'.2.1 29 = upd (v.2.1 29) (v.1 21).toNatClampNeg x1 ∧ v'.2.1 30 = upd (v.2.1 30) (v.1 21).toNatClampNeg x2 ∧ v'.2.1 31 = upd (v.2.1 31) (v.1 21).toNatClampNeg x3 ∧ v'.2.1 32 = upd (v.2.1 32) (v.1 21).toNatClampNeg x4 ∧ v'.2.1 33 = upd (v.2.1 33) (v.1 21).toNatClampNeg (-1)) := by
  have b0 : (0 : Int) ≤ (v.1 21).toInt := (hJ.1 21).1
  have b9 : (v.1 21).toInt ≤ (10 : Int) := (hJ.1 21).2
  unfold fX12_look__0 at h2
  obtain ⟨v1, e1, h2⟩ := lt_some h2
  have no : some ((-1 : Int32), v1) = some (r, v') → r = -1 ∧ v' = sI v 0 0 := fun g => by
    have e : (-1 : Int32) = r ∧ v1 = v' := by cases g; exact ⟨rfl, rfl⟩
    exact ⟨e.1.symm, by rw [← e.2, e1]⟩
  by_cases c10 : v1.1 21 = 10
  · rw [if_pos c10] at h2
    exact Or.inl (no h2)
  · rw [if_neg c10] at h2
    obtain ⟨⟨q3, v4⟩, b3, h2⟩ := bd_some h2
    rw [(isPi b3).1] at h2
    have h2 : (if q3 = 0 then (some ((-1), v1)) else _) = some (r, v') := h2
    by_cases c4 : q3 = 0
    · rw [if_pos c4] at h2
      exact Or.inl (no h2)
    · rw [if_neg c4] at h2
      obtain ⟨q7, b7, h2⟩ := bd_some h2
      by_cases c7 : q7 = 0
      · rw [if_pos c7] at h2
        exact Or.inl (no h2)
      · rw [if_neg c7] at h2
        obtain ⟨q10, b10, h2⟩ := bd_some h2
        by_cases c10 : q10 = 0
        · rw [if_pos c10] at h2
          exact Or.inl (no h2)
        · rw [if_neg c10] at h2
          obtain ⟨-, h2⟩ := gd_some h2
          obtain ⟨y1, i1, h2⟩ := lt_some h2
          obtain ⟨-, h2⟩ := gd_some h2
          obtain ⟨y2, i2, h2⟩ := lt_some h2
          obtain ⟨-, h2⟩ := gd_some h2
          obtain ⟨y3, i3, h2⟩ := lt_some h2
          obtain ⟨-, h2⟩ := gd_some h2
          obtain ⟨y4, i4, h2⟩ := lt_some h2
          obtain ⟨-, h2⟩ := gd_some h2
          obtain ⟨y5, i5, h2⟩ := lt_some h2
          obtain ⟨y6, i6, h2⟩ := lt_some h2
          have e2 : y6.1 21 - 1 = r ∧ y6 = v' := by cases h2; exact ⟨rfl, rfl⟩
          have k8 : y6.1 21 = v.1 21 + 1 := by rw [i6, i5, i4, i3, i2, i1, e1]; rfl
          have e8 : (v.1 21 + 1).toInt = (v.1 21).toInt + 1 := addc_t (by decide) (by omega) (by omega)
          have e9 : (v.1 21 + 1 - 1).toInt = (v.1 21).toInt + 1 - 1 := by
            rw [subc_t (n := 1) (by decide) (by rw [e8]; omega) (by rw [e8]; omega), e8]
          refine Or.inr ⟨fun z => ?_, ?_⟩
          · rw [← e2.1, k8] at z
            have z9 : (v.1 21 + 1 - 1).toInt = (-1 : Int) := eqI z
            rw [e9] at z9
            omega
          · rw [← e2.2]
            exact ⟨by rw [i6, i5, i4, i3, i2, i1, e1]; rfl, by rw [i6, i5, i4, i3, i2, i1, e1]; rfl, by rw [i6, i5, i4, i3, i2, i1, e1]; rfl, by rw [i6, i5, i4, i3, i2, i1, e1]; rfl, by rw [i6, i5, i4, i3, i2, i1, e1]; rfl⟩
theorem lookS {x1 x2 x3 x4 r r' : Int32} {u u' v v' : SX} (hI : IX u) (hJ : IM v) (hp : TieP u v) (hS : TieS u v) (hC : CX u) (hx : FrM mdX11_look_0 u u') (hm : FrM mdX12_look__0 v v') (er : r = r') (h1 : fX11_look_0 x1 x2 x3 x4 u = some (r, u')) (h2 : fX12_look__0 x1 x2 x3 x4 v = some (r', v')) : TieS u' v' ∧ CX u' := by
  refine ⟨?_, CX_md hx (by decide) hC⟩
  rcases lookX hI h1 with ⟨z1, e1⟩ | ⟨z1, n9, le, p0, p1, k29, k48, k49, k50, k51⟩
  · rcases lookM hJ h2 with ⟨z2, e2⟩ | ⟨z2, -⟩
    · rw [e1, e2]
      exact TieS_of (fun _ _ => rfl) (fun _ _ => rfl) rfl (fun _ _ => rfl) hS
    · exact absurd (er.symm.trans z1) z2
  · rcases lookM hJ h2 with ⟨z2, -⟩ | ⟨z2, m29, m30, m31, m32, m33⟩
    · exact absurd (er.trans z2) z1
    · have b0 : (0 : Int) ≤ (u.1 29).toInt := (hI.1 29).1
      have e8 : (u.1 29 + 1).toInt = (u.1 29).toInt + 1 := addc_t (by decide) (by omega) (by omega)
      rw [← hp.2.1] at m29 m30 m31 m32 m33
      obtain ⟨s1, s2, s3, s4, s5, s6⟩ := hS
      have x0 : u'.1 0 = u.1 0 := hx.1 0 (by decide)
      have x12 : u'.1 12 = u.1 12 := hx.1 12 (by decide)
      have x8 : u'.1 8 = u.1 8 := hx.1 8 (by decide)
      have sp : spX u' = spX u := by
        unfold spX
        rw [hx.2.1 29 (by decide), hx.2.1 30 (by decide), hx.2.1 31 (by decide), hx.2.1 32 (by decide), hx.2.1 33 (by decide), hx.2.1 35 (by decide)]
      refine ⟨by rw [x12, hm.1 13 (by decide)]; exact s1, fun i hi => ?_, fun i hi => ?_, fun k hk => ?_, ?_, ?_⟩
      · rw [x8] at hi
        rw [hx.2.1 24 (by decide), hx.2.1 25 (by decide), hx.2.1 26 (by decide), hx.2.1 29 (by decide), hx.2.1 30 (by decide), hm.2.1 6 (by decide), hm.2.1 7 (by decide), hm.2.1 8 (by decide), hm.2.1 9 (by decide), hm.2.1 10 (by decide), x0]
        exact s2 i hi
      · rw [x12] at hi
        rw [hx.2.1 31 (by decide), hx.2.1 32 (by decide), hx.2.1 33 (by decide), hx.2.1 34 (by decide), hx.2.1 35 (by decide), hm.2.1 11 (by decide), hm.2.1 12 (by decide), hm.2.1 13 (by decide), hm.2.1 14 (by decide), hm.2.1 15 (by decide), x0]
        exact s3 i hi
      · rw [k29, e8] at hk
        unfold LkD
        rw [k48, k49, k50, k51, m29, m30, m31, m32, m33, x8]
        by_cases ci : k = (u.1 29).toNatClampNeg
        · rw [ci, upd_at, upd_at, upd_at, upd_at, upd_at, upd_at, upd_at, upd_at, upd_at]
          exact ⟨rfl, rfl, rfl, rfl, le, p0, p1, fun z => absurd rfl z⟩
        · rw [upd_ne ci, upd_ne ci, upd_ne ci, upd_ne ci, upd_ne ci, upd_ne ci, upd_ne ci, upd_ne ci, upd_ne ci]
          have ci : ¬ k = (u.1 29).toInt.toNat := ci
          rw [hx.2.1 53 (by decide), hx.2.1 54 (by decide), hx.2.1 55 (by decide), hx.2.1 56 (by decide), hx.2.1 31 (by decide), hx.2.1 32 (by decide), hx.2.1 33 (by decide), hx.2.1 35 (by decide), x12, sp]
          exact s4 k (by omega)
      · rw [hx.2.1 34 (by decide), x12]
        exact s5
      · rw [hx.2.1 25 (by decide), x8]
        exact s6
