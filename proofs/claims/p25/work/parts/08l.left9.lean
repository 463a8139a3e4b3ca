/-! alike; what else recalls keeps all. -/
def RK (u : SX) : Prop := RW u ∧ CK u
def rkM (mx : MD) : Bool := tieCX mx && ([5, 8, 12, 13, 14, 15, 16].all fun k => !mx.1.contains k) && ([24, 29, 30, 31, 32, 33, 35, 36, 38, 39, 40, 41].all fun k => !mx.2.1.contains k)
theorem all_sub {l m : List Nat} {p : Nat → Bool} (hs : ∀ k, k ∈ l → k ∈ m) (h : m.all p = true) : l.all p = true := List.all_eq_true.mpr (fun k hk => List.all_eq_true.mp h k (hs k hk))
theorem RK_md {u u' : SX} {mx : MD} (s : StX mx u u') (c : rkM mx = true) (h : RK u) : RK u' := by
  unfold rkM at c
  simp only [Bool.and_eq_true] at c
  obtain ⟨⟨c1, c2⟩, c3⟩ := c
  exact ⟨RW_md s.1 s.2 c1 (all_sub (by decide) c2) (all_sub (by decide) c3) h.1, CK_md s.2 (all_sub (by decide) c2) (all_sub (by decide) c3) h.2⟩
theorem recall7_RK {x1 r : Int32} {u u' : SX} (h : RK u) (b0 : 0 ≤ x1.toInt) (b1 : x1.toInt ≤ 120) (g : fX7_recall_7 x1 u = some (r, u')) : RK u' := by
  obtain ⟨q1, q2, -⟩ := recall7_sp h.1 h.2 b0 b1 g
  exact ⟨q1, q2⟩
theorem has4i {x r : Int32} {u u' : SX} (h : fX8_has_4 x u = some (r, u')) : u' = u ∧ ((r = 0 ∧ ¬ (0 ≤ x.toInt ∧ x.toInt < (u.1 6).toInt)) ∨ (r = 1 ∧ 0 ≤ x.toInt ∧ x.toInt < (u.1 6).toInt)) := by
  unfold fX8_has_4 at h
  by_cases c : x < 0
  · rw [if_pos c] at h
    have c9 : x.toInt < (0 : Int) := ltI c
    have e : (0 : Int32) = r ∧ u = u' := by cases (gd_some h).2; exact ⟨rfl, rfl⟩
    exact ⟨e.2.symm, Or.inl ⟨e.1.symm, by omega⟩⟩
  · rw [if_neg c] at h
    have c9 : ¬ x.toInt < (0 : Int) := nltI c
    by_cases d : u.1 6 ≤ x
    · rw [if_pos d] at h
      have d9 := leI d
      have e : (0 : Int32) = r ∧ u = u' := by cases (gd_some h).2; exact ⟨rfl, rfl⟩
      exact ⟨e.2.symm, Or.inl ⟨e.1.symm, by omega⟩⟩
    · rw [if_neg d] at h
      have d9 := nleI d
      have e : (1 : Int32) = r ∧ u = u' := by cases (gd_some h).2; exact ⟨rfl, rfl⟩
      exact ⟨e.2.symm, Or.inr ⟨e.1.symm, by omega, by omega⟩⟩
theorem has5i {x r : Int32} {u u' : SX} (h : fX8_has_5 x u = some (r, u')) : u' = u ∧ ((r = 0 ∧ ¬ (0 ≤ x.toInt ∧ x.toInt < (u.1 7).toInt)) ∨ (r = 1 ∧ 0 ≤ x.toInt ∧ x.toInt < (u.1 7).toInt)) := by
  unfold fX8_has_5 at h
  by_cases c : x < 0
  · rw [if_pos c] at h
    have c9 : x.toInt < (0 : Int) := ltI c
    have e : (0 : Int32) = r ∧ u = u' := by cases (gd_some h).2; exact ⟨rfl, rfl⟩
    exact ⟨e.2.symm, Or.inl ⟨e.1.symm, by omega⟩⟩
  · rw [if_neg c] at h
    have c9 : ¬ x.toInt < (0 : Int) := nltI c
    by_cases d : u.1 7 ≤ x
    · rw [if_pos d] at h
      have d9 := leI d
      have e : (0 : Int32) = r ∧ u = u' := by cases (gd_some h).2; exact ⟨rfl, rfl⟩
      exact ⟨e.2.symm, Or.inl ⟨e.1.symm, by omega⟩⟩
    · rw [if_neg d] at h
      have d9 := nleI d
      have e : (1 : Int32) = r ∧ u = u' := by cases (gd_some h).2; exact ⟨rfl, rfl⟩
      exact ⟨e.2.symm, Or.inr ⟨e.1.symm, by omega, by omega⟩⟩
theorem goes_K {x1 x2 r : Int32} {u u' : SX} (hK : RK u) (h : fX11_goes_0 x1 x2 u = some (r, u')) : RK u' := by
  have b120 : (u.1 0).toInt ≤ (120 : Int) := (hK.1.1.1 0).2
  unfold fX11_goes_0 at h
  have no : ∀ w : SX, RK w → some ((-100000000 : Int32), w) = some (r, u') → RK u' := fun w hw g => by
    have e : w = u' := by cases g; rfl
    rw [← e]
    exact hw
  obtain ⟨⟨r1, u2⟩, a1, h⟩ := bd_some h
  obtain ⟨e1, k1⟩ := isDayi a1
  rw [e1] at h
  have h : (if r1 = 0 then (some ((-100000000), u)) else ((fX11_within x2 0 5).bind fun r4 => (if r4 = 0 then (some ((-100000000), u)) else ((fX7_recall_7 x1 u).bind fun q => match q with | (r7, u8) => ((fX1_meansBy_8 x2 u8).bind fun q => match q with | (r10, u11) => (if r10 = 0 then (some ((-100000000), u11)) else ((fX1_distance_8  u11).bind fun q => match q with | (r13, u14) => (some (r13, u14))))))))) = some (r, u') := h
  rcases k1 with ⟨z, k1⟩ | ⟨z, k1, k1'⟩
  · rw [if_pos z] at h
    exact no u hK h
  · rw [if_neg (ne01 z)] at h
    obtain ⟨r4, a4, h⟩ := bd_some h
    rcases win a4 with ⟨z, k4⟩ | ⟨z, k4, k4'⟩
    · rw [if_pos z] at h
      exact no u hK h
    · rw [if_neg (ne01 z)] at h
      obtain ⟨⟨r7, u8⟩, a7, h⟩ := bd_some h
      have K8 := recall7_RK hK k1 (by omega) a7
      obtain ⟨⟨r10, u11⟩, a10, h⟩ := bd_some h
      have s11 : StX mdX1_meansBy_8 u8 u11 := (Tot_at (tfX1_meansBy_8 x2 u8 K8.1.1 ⟨k4, k4'⟩) a10).1
      have K11 := RK_md s11 (by decide) K8
      have h : (if r10 = 0 then (some ((-100000000), u11)) else ((fX1_distance_8  u11).bind fun q => match q with | (r13, u14) => (some (r13, u14)))) = some (r, u') := h
      by_cases c : r10 = 0
      · rw [if_pos c] at h
        exact no u11 K11 h
      · rw [if_neg c] at h
        obtain ⟨⟨r13, u14⟩, a13, h⟩ := bd_some h
        have s14 : StX mdX1_distance_8 u11 u14 := (Tot_at (tfX1_distance_8 u11 K11.1.1) a13).1
        have e : u14 = u' := by cases h; rfl
        rw [← e]
        exact RK_md s14 (by decide) K11
theorem even_K {x1 x2 r : Int32} {u u' : SX} (hK : RK u) (h : fX11_even_0 x1 x2 u = some (r, u')) : RK u' := by
  have b120 : (u.1 0).toInt ≤ (120 : Int) := (hK.1.1.1 0).2
  unfold fX11_even_0 at h
  have no : ∀ w : SX, RK w → some ((-100000000 : Int32), w) = some (r, u') → RK u' := fun w hw g => by
    have e : w = u' := by cases g; rfl
    rw [← e]
    exact hw
  obtain ⟨⟨r1, u2⟩, a1, h⟩ := bd_some h
  obtain ⟨e1, k1⟩ := isDayi a1
  rw [e1] at h
  have h : (if r1 = 0 then (some ((-100000000), u)) else ((fX11_isEither x2).bind fun r4 => (if r4 = 0 then (some ((-100000000), u)) else ((fX7_recall_7 x1 u).bind fun q => match q with | (r7, u8) => ((fX1_meansBy_8 0 u8).bind fun q => match q with | (r10, u11) => (if x2 = 1 then ((fX1_oneSide_8  u11).bind fun q => match q with | (r16, u17) => (some (r16, u17))) else (if 2 ≤ r10 then ((fX1_distance_8  u11).bind fun q => match q with | (r13, u14) => (some (r13, u14))) else (some ((-100000000), u11))))))))) = some (r, u') := h
  rcases k1 with ⟨z, k1⟩ | ⟨z, k1, k1'⟩
  · rw [if_pos z] at h
    exact no u hK h
  · rw [if_neg (ne01 z)] at h
    obtain ⟨r4, a4, h⟩ := bd_some h
    by_cases c4 : r4 = 0
    · rw [if_pos c4] at h
      exact no u hK h
    · rw [if_neg c4] at h
      obtain ⟨⟨r7, u8⟩, a7, h⟩ := bd_some h
      have K8 := recall7_RK hK k1 (by omega) a7
      obtain ⟨⟨r10, u11⟩, a10, h⟩ := bd_some h
      have s11 : StX mdX1_meansBy_8 u8 u11 := (Tot_at (tfX1_meansBy_8 0 u8 K8.1.1 (by decide)) a10).1
      have K11 := RK_md s11 (by decide) K8
      have h : (if x2 = 1 then ((fX1_oneSide_8  u11).bind fun q => match q with | (r16, u17) => (some (r16, u17))) else (if 2 ≤ r10 then ((fX1_distance_8  u11).bind fun q => match q with | (r13, u14) => (some (r13, u14))) else (some ((-100000000), u11)))) = some (r, u') := h
      by_cases c : x2 = 1
      · rw [if_pos c] at h
        obtain ⟨⟨r13, u14⟩, a13, h⟩ := bd_some h
        have s14 : StX mdX1_oneSide_8 u11 u14 := (Tot_at (tfX1_oneSide_8 u11 K11.1.1) a13).1
        have e : u14 = u' := by cases h; rfl
        rw [← e]
        exact RK_md s14 (by decide) K11
      · rw [if_neg c] at h
        by_cases d : 2 ≤ r10
        · rw [if_pos d] at h
          obtain ⟨⟨r13, u14⟩, a13, h⟩ := bd_some h
          have s14 : StX mdX1_distance_8 u11 u14 := (Tot_at (tfX1_distance_8 u11 K11.1.1) a13).1
          have e : u14 = u' := by cases h; rfl
          rw [← e]
          exact RK_md s14 (by decide) K11
        · rw [if_neg d] at h
          exact no u11 K11 h
theorem fits_K {x1 x2 x3 r : Int32} {u u' : SX} (hK : RK u) (h : fX11_fits_0 x1 x2 x3 u = some (r, u')) : RK u' := by
  have b120 : (u.1 0).toInt ≤ (120 : Int) := (hK.1.1.1 0).2
  have b6 : (u.1 6).toInt ≤ (6 : Int) := (hK.1.1.1 6).2
  unfold fX11_fits_0 at h
  have no : some ((-1 : Int32), u) = some (r, u') → RK u' := fun g => by
    have e : u = u' := by cases g; rfl
    rw [← e]
    exact hK
  obtain ⟨⟨r1, u2⟩, a1, h⟩ := bd_some h
  obtain ⟨e1, k1⟩ := isDayi a1
  rw [e1] at h
  have h : (if r1 = 0 then (some ((-1), u)) else ((fX8_has_4 x1 u).bind fun q => match q with | (r4, u5) => (if r4 = 0 then (some ((-1), u5)) else ((fX11_within x3 0 2).bind fun r7 => (if r7 = 0 then (some ((-1), u5)) else ((fX7_recall_7 x2 u5).bind fun q => match q with | (r10, u11) => ((fX1_fit_8 x1 u11).bind fun q => match q with | (r13, u14) => (if x3 = 2 then (some (u14.1 21, u14)) else (if x3 = 0 then (some (u14.1 19, u14)) else (some (u14.1 20, u14))))))))))) = some (r, u') := h
  rcases k1 with ⟨z, k1⟩ | ⟨z, k1, k1'⟩
  · rw [if_pos z] at h
    exact no h
  · rw [if_neg (ne01 z)] at h
    obtain ⟨⟨r4, u5⟩, a4, h⟩ := bd_some h
    obtain ⟨e4, k4⟩ := has4i a4
    rw [e4] at h
    have h : (if r4 = 0 then (some ((-1), u)) else ((fX11_within x3 0 2).bind fun r7 => (if r7 = 0 then (some ((-1), u)) else ((fX7_recall_7 x2 u).bind fun q => match q with | (r10, u11) => ((fX1_fit_8 x1 u11).bind fun q => match q with | (r13, u14) => (if x3 = 2 then (some (u14.1 21, u14)) else (if x3 = 0 then (some (u14.1 19, u14)) else (some (u14.1 20, u14))))))))) = some (r, u') := h
    rcases k4 with ⟨z, k4⟩ | ⟨z, k4, k4'⟩
    · rw [if_pos z] at h
      exact no h
    · rw [if_neg (ne01 z)] at h
      obtain ⟨r7, a7, h⟩ := bd_some h
      by_cases c7 : r7 = 0
      · rw [if_pos c7] at h
        exact no h
      · rw [if_neg c7] at h
        obtain ⟨⟨r10, u11⟩, a10, h⟩ := bd_some h
        have K11 := recall7_RK hK k1 (by omega) a10
        obtain ⟨⟨r13, u14⟩, a13, h⟩ := bd_some h
        have s14 : StX mdX1_fit_8 u11 u14 := (Tot_at (tfX1_fit_8 x1 u11 K11.1.1 ⟨k4, by omega⟩) a13).1
        have h : (if x3 = 2 then (some (u14.1 21, u14)) else (if x3 = 0 then (some (u14.1 19, u14)) else (some (u14.1 20, u14)))) = some (r, u') := h
        have e : u14 = u' := by
          by_cases c : x3 = 2
          · rw [if_pos c] at h
            cases h
            rfl
          · rw [if_neg c] at h
            by_cases d : x3 = 0
            · rw [if_pos d] at h
              cases h
              rfl
            · rw [if_neg d] at h
              cases h
              rfl
        rw [← e]
        exact RK_md s14 (by decide) K11
theorem next_K {x1 x2 x3 x4 r : Int32} {u u' : SX} (hK : RK u) (h : fX11_next_0 x1 x2 x3 x4 u = some (r, u')) : RK u' := by
  have b120 : (u.1 0).toInt ≤ (120 : Int) := (hK.1.1.1 0).2
  have b6 : (u.1 6).toInt ≤ (6 : Int) := (hK.1.1.1 6).2
  unfold fX11_next_0 at h
  have no : ∀ w : SX, RK w → some ((-1 : Int32), w) = some (r, u') → RK u' := fun w hw g => by
    have e : w = u' := by cases g; rfl
    rw [← e]
    exact hw
  obtain ⟨⟨r1, u2⟩, a1, h⟩ := bd_some h
  obtain ⟨e1, k1⟩ := isDayi a1
  rw [e1] at h
  rcases k1 with ⟨z, k1⟩ | ⟨z, k1, k1'⟩
  · have h : (if r1 = 0 then (some ((-1), u)) else _) = some (r, u') := h
    rw [if_pos z] at h
    exact no u hK h
  · have h : (if r1 = 0 then (some ((-1), u)) else _) = some (r, u') := h
    rw [if_neg (ne01 z)] at h
    obtain ⟨⟨r4, u5⟩, a4, h⟩ := bd_some h
    obtain ⟨e4, k4⟩ := has4i a4
    rw [e4] at h
    have h : (if r4 = 0 then (some ((-1), u)) else _) = some (r, u') := h
    rcases k4 with ⟨z, k4⟩ | ⟨z, k4, k4'⟩
    · rw [if_pos z] at h
      exact no u hK h
    · rw [if_neg (ne01 z)] at h
      obtain ⟨⟨r7, u8⟩, a7, h⟩ := bd_some h
      obtain ⟨e7, k7⟩ := has4i a7
      rw [e7] at h
      have h : (if r7 = 0 then (some ((-1), u)) else _) = some (r, u') := h
      rcases k7 with ⟨z, k7⟩ | ⟨z, k7, k7'⟩
      · rw [if_pos z] at h
        exact no u hK h
      · rw [if_neg (ne01 z)] at h
        obtain ⟨r10, a10, h⟩ := bd_some h
        by_cases c10 : r10 = 0
        · rw [if_pos c10] at h
          exact no u hK h
        · rw [if_neg c10] at h
          obtain ⟨⟨r13, u14⟩, a13, h⟩ := bd_some h
          have K14 := recall7_RK hK k1 (by omega) a13
          obtain ⟨⟨r16, u17⟩, a16, h⟩ := bd_some h
          have q17 := Tot_at (tfX1_fit_8 x1 u14 K14.1.1 ⟨k4, by omega⟩) a16
          have s17 : StX mdX1_fit_8 u14 u17 := q17.1
          have K17 := RK_md s17 (by decide) K14
          obtain ⟨v19, i19, h⟩ := lt_some h
          obtain ⟨⟨r21, u22⟩, a21, h⟩ := bd_some h
          have s22 : StX mdX1_fit_8 u17 u22 := (Tot_at (tfX1_fit_8 x2 u17 K17.1.1 ⟨k7, by omega⟩) a21).1
          have K22 := RK_md s22 (by decide) K17
          obtain ⟨v24, i24, h⟩ := lt_some h
          by_cases c1 : v19 = -1
          · rw [if_pos c1] at h
            exact no u22 K22 h
          · rw [if_neg c1] at h
            by_cases c2 : v24 = -1
            · rw [if_pos c2] at h
              exact no u22 K22 h
            · rw [if_neg c2] at h
              have n19 : ¬ v19.toInt = (-1 : Int) := neI c1
              have n24 : ¬ v24.toInt = (-1 : Int) := neI c2
              have b19 : (-1 : Int) ≤ v19.toInt ∧ v19.toInt ≤ (60 : Int) := by rw [i19]; exact ⟨(K17.1.1.1 19).1, (K17.1.1.1 19).2⟩
              have b24 : (-1 : Int) ≤ v24.toInt ∧ v24.toInt ≤ (60 : Int) := by rw [i24]; exact ⟨(K22.1.1.1 19).1, (K22.1.1.1 19).2⟩
              obtain ⟨⟨r26, u27⟩, a26, h⟩ := bd_some h
              have s27 : StX mdX1_tellApart_8 u22 u27 := (Tot_at (tfX1_tellApart_8 x1 v19 x2 v24 u22 K22.1.1 ⟨k4, by omega⟩ ⟨by omega, by omega⟩ ⟨k7, by omega⟩ ⟨by omega, by omega⟩) a26).1
              have h : (if x4 = 0 then (some (u27.1 22, u27)) else (some (u27.1 23, u27))) = some (r, u') := h
              have e : u27 = u' := by
                by_cases c : x4 = 0
                · rw [if_pos c] at h
                  cases h
                  rfl
                · rw [if_neg c] at h
                  cases h
                  rfl
              rw [← e]
              exact RK_md s27 (by decide) K22
theorem say_L {r : Int32} {u' : SX} : ∀ (n : Nat) (z1 z2 : Int32) (u : SX), RK u → 0 ≤ z1.toInt → z1.toInt ≤ 5 → 0 ≤ z2.toInt → LX11_say_0_15 n z1 z2 u = some (r, u') → RK u' := by
  intro n
  induction n with
  | zero => intro z1 z2 u _ _ _ _ h; cases h
  | succ n ih =>
    intro z1 z2 u hK a0 a1 h0 g
    have b120 : (u.1 0).toInt ≤ (120 : Int) := (hK.1.1.1 0).2
    have g : (if (u.1 0) < z2 then (some ((-1), u)) else ((fX7_recall_7 z2 u).bind fun q => match q with | (r4, u5) => ((fX1_compare_8  u5).bind fun q => match q with | (r7, u8) => ((fX8_set_5 0 (u8.1 14) u8).bind fun q => match q with | (r10, u11) => (if r7 = 0 then (GX11_say_0_82 (LX11_say_0_15 n) z1 z2 r7 0 1 u11) else (GX11_say_0_82 (LX11_say_0_15 n) z1 z2 r7 ((u11.1 18) - (u11.1 17)) 1 u11)))))) = some (r, u') := g
    by_cases c : u.1 0 < z2
    · rw [if_pos c] at g
      have e : u = u' := by cases g; rfl
      rw [← e]
      exact hK
    · rw [if_neg c] at g
      have c9 := nltI c
      have et : (z2 + 1).toInt = z2.toInt + 1 := addc_t (by decide) (by omega) (by omega)
      obtain ⟨⟨r4, u5⟩, a4, g⟩ := bd_some g
      have K5 := recall7_RK hK h0 (by omega) a4
      obtain ⟨⟨r7, u8⟩, a7, g⟩ := bd_some g
      have s8 : StX mdX1_compare_8 u5 u8 := (Tot_at (tfX1_compare_8 u5 K5.1.1) a7).1
      have K8 := RK_md s8 (by decide) K5
      obtain ⟨⟨r10, u11⟩, a10, g⟩ := bd_some g
      have s11 : StX mdX8_set_5 u8 u11 := (Tot_at (tfX8_set_5 0 (u8.1 14) u8 K8.1.1 (by decide)) a10).1
      have K11 := RK_md s11 (by decide) K8
      have f105 : ∀ (y0 : Int32) (w : SX), RK w → GX11_say_0_105 (LX11_say_0_15 n) z1 z2 y0 2 w = some (r, u') → RK u' := fun y0 w Kw k => by
        unfold GX11_say_0_105 at k
        obtain ⟨⟨r16, u17⟩, a16, k⟩ := bd_some k
        have K17 := RK_md (Tot_at (tfX8_set_5 2 y0 w Kw.1.1 (by decide)) a16).1 (by decide) Kw
        obtain ⟨⟨r19, u20⟩, a19, k⟩ := bd_some k
        have K20 := RK_md (Tot_at (tfX3_doneUpTo_10 z2 u17 K17.1.1 ⟨h0, by omega⟩) a19).1 (by decide) K17
        obtain ⟨⟨r22, u23⟩, a22, k⟩ := bd_some k
        have K23 := RK_md (Tot_at (tfX8_set_5 3 r19 u20 K20.1.1 (by decide)) a22).1 (by decide) K20
        obtain ⟨⟨r25, u26⟩, a25, k⟩ := bd_some k
        have K26 := RK_md (Tot_at (tfX8_set_5 4 z2 u23 K23.1.1 (by decide)) a25).1 (by decide) K23
        obtain ⟨⟨r28, u29⟩, a28, k⟩ := bd_some k
        have K29 := RK_md (Tot_at (tfX8_ask_5 z1 u26 K26.1.1 ⟨a0, a1⟩) a28).1 (by decide) K26
        have k : (if r28 = 0 then (LX11_say_0_15 n z1 (z2 + 1) u29) else (some (z2, u29))) = some (r, u') := k
        by_cases d : r28 = 0
        · rw [if_pos d] at k
          exact ih z1 (z2 + 1) u29 K29 a0 a1 (by rw [et]; omega) k
        · rw [if_neg d] at k
          have e : u29 = u' := by cases k; rfl
          rw [← e]
          exact K29
      have f82 : ∀ (z3 y0 : Int32), GX11_say_0_82 (LX11_say_0_15 n) z1 z2 z3 y0 1 u11 = some (r, u') → RK u' := fun z3 y0 k => by
        unfold GX11_say_0_82 at k
        obtain ⟨⟨r13, u14⟩, a13, k⟩ := bd_some k
        have K14 := RK_md (Tot_at (tfX8_set_5 1 y0 u11 K11.1.1 (by decide)) a13).1 (by decide) K11
        have k : (if z3 = 0 then (GX11_say_0_105 (LX11_say_0_15 n) z1 z2 0 2 u14) else (GX11_say_0_105 (LX11_say_0_15 n) z1 z2 (u14.1 17) 2 u14)) = some (r, u') := k
        by_cases d : z3 = 0
        · rw [if_pos d] at k
          exact f105 _ u14 K14 k
        · rw [if_neg d] at k
          exact f105 _ u14 K14 k
      have g : (if r7 = 0 then (GX11_say_0_82 (LX11_say_0_15 n) z1 z2 r7 0 1 u11) else (GX11_say_0_82 (LX11_say_0_15 n) z1 z2 r7 ((u11.1 18) - (u11.1 17)) 1 u11)) = some (r, u') := g
      by_cases d : r7 = 0
      · rw [if_pos d] at g
        exact f82 _ _ g
      · rw [if_neg d] at g
        exact f82 _ _ g
theorem say_K {x1 r : Int32} {u u' : SX} (hK : RK u) (h : fX11_say_0 x1 u = some (r, u')) : RK u' := by
  have b7 : (u.1 7).toInt ≤ (6 : Int) := (hK.1.1.1 7).2
  unfold fX11_say_0 at h
  obtain ⟨⟨r1, u2⟩, a1, h⟩ := bd_some h
  obtain ⟨e1, k1⟩ := has5i a1
  rw [e1] at h
  have h : (if r1 = 0 then (some ((-1), u)) else (LX11_say_0_15 5000 x1 0 u)) = some (r, u') := h
  rcases k1 with ⟨z, k1⟩ | ⟨z, k1, k1'⟩
  · rw [if_pos z] at h
    have e : u = u' := by cases h; rfl
    rw [← e]
    exact hK
  · rw [if_neg (ne01 z)] at h
    generalize (5000 : Nat) = N1 at h
    exact say_L N1 x1 0 u hK k1 (by omega) (by decide) h
/-! alike -/
def alF (L : Nat → Int32 × Int32) : Nat → Int32
  | 0 => (L 0).1
  | k + 1 => if alF L k < (L (k + 1)).1 then (L (k + 1)).1 else alF L k
def alT (L : Nat → Int32 × Int32) : Nat → Int32
  | 0 => (L 0).2
  | k + 1 => if (L (k + 1)).2 < alT L k then (L (k + 1)).2 else alT L k
theorem al_cg {L L' : Nat → Int32 × Int32} : ∀ k : Nat, (∀ i, i ≤ k → L i = L' i) → alF L k = alF L' k ∧ alT L k = alT L' k := by
  intro k
  induction k with
  | zero =>
    intro h
    show (L 0).1 = (L' 0).1 ∧ (L 0).2 = (L' 0).2
    rw [h 0 (Nat.le_refl _)]
    exact ⟨rfl, rfl⟩
  | succ k ih =>
    intro h
    obtain ⟨a, b⟩ := ih (fun i hi => h i (by omega))
    show (if alF L k < (L (k + 1)).1 then (L (k + 1)).1 else alF L k) = (if alF L' k < (L' (k + 1)).1 then (L' (k + 1)).1 else alF L' k) ∧ (if (L (k + 1)).2 < alT L k then (L (k + 1)).2 else alT L k) = (if (L' (k + 1)).2 < alT L' k then (L' (k + 1)).2 else alT L' k)
    rw [a, b, h (k + 1) (Nat.le_refl _)]
    exact ⟨rfl, rfl⟩
theorem cmp_40 {k97 : SX → Option (Int32 × SX)} {r : Int32} {u' : SX} {L : Nat → Int32 × Int32} : ∀ (n : Nat) (z1 : Int32) (m : Nat) (u : SX), z1.toInt = (m : Int) + 1 → z1.toInt ≤ (u.1 14).toInt → (u.1 14).toInt ≤ 80 → (∀ i, L i = (u.2.1 38 i, u.2.1 39 i)) → u.1 17 = alF L m → u.1 18 = alT L m → LX1_compare_8_40 k97 n z1 u = some (r, u') → ∃ w : SX, FrM mdX1_compare_8 u w ∧ w.1 17 = alF L ((u.1 14).toNatClampNeg - 1) ∧ w.1 18 = alT L ((u.1 14).toNatClampNeg - 1) ∧ k97 w = some (r, u') := by
  intro n
  induction n with
  | zero => intro z1 m u _ _ _ _ _ _ h; cases h
  | succ n ih =>
    intro z1 m u hz h14 b14 hL e17 e18 g
    have g : (if (u.1 14) ≤ z1 then (k97 u) else (gd (inb z1 80) (lt (sI u 17 (if (u.1 17) < (u.2.1 38 z1.toNatClampNeg) then (u.2.1 38 z1.toNatClampNeg) else (u.1 17))) fun u8 => (gd (inb z1 80) (lt (sI u8 18 (if (u8.2.1 39 z1.toNatClampNeg) < (u8.1 18) then (u8.2.1 39 z1.toNatClampNeg) else (u8.1 18))) fun u11 => ((LX1_compare_8_40 k97 n) (z1 + 1) u11)))))) = some (r, u') := g
    by_cases c : u.1 14 ≤ z1
    · rw [if_pos c] at g
      have c9 := leI c
      have em : (u.1 14).toNatClampNeg - 1 = m := by
        show (u.1 14).toInt.toNat - 1 = m
        omega
      rw [em]
      exact ⟨u, FrM_rf, e17, e18, g⟩
    · rw [if_neg c] at g
      have c9 := nleI c
      obtain ⟨-, g⟩ := gd_some g
      obtain ⟨u8, i8, g⟩ := lt_some g
      obtain ⟨-, g⟩ := gd_some g
      obtain ⟨u11, i11, g⟩ := lt_some g
      have ez : z1.toNatClampNeg = m + 1 := by
        show z1.toInt.toNat = m + 1
        omega
      have et : (z1 + 1).toInt = z1.toInt + 1 := addc_t (by decide) (by omega) (by omega)
      have F11 : FrM mdX1_compare_8 u u11 := by
        rw [i11, i8]
        exact FrM_sI (FrM_sI FrM_rf (by decide)) (by decide)
      have k17 : u11.1 17 = alF L (m + 1) := by
        rw [i11, i8]
        show (if (u.1 17) < (u.2.1 38 z1.toNatClampNeg) then (u.2.1 38 z1.toNatClampNeg) else (u.1 17)) = (if alF L m < (L (m + 1)).1 then (L (m + 1)).1 else alF L m)
        rw [e17, ez, hL (m + 1)]
      have k18 : u11.1 18 = alT L (m + 1) := by
        rw [i11, i8]
        show (if (u.2.1 39 z1.toNatClampNeg) < (u.1 18) then (u.2.1 39 z1.toNatClampNeg) else (u.1 18)) = (if (L (m + 1)).2 < alT L m then (L (m + 1)).2 else alT L m)
        rw [e18, ez, hL (m + 1)]
      obtain ⟨w, q1, q2, q3, q4⟩ := ih (z1 + 1) (m + 1) u11 (by rw [et]; omega) (by rw [et, F11.1 14 (by decide)]; omega) (by rw [F11.1 14 (by decide)]; exact b14) (fun i => by rw [F11.2.1 38 (by decide), F11.2.1 39 (by decide)]; exact hL i) k17 k18 g
      rw [F11.1 14 (by decide)] at q2 q3
      exact ⟨w, FrM_tr F11 q1 (by decide), q2, q3, q4⟩
/-- the class's ALIKE over the readings as last recalled -/
theorem compare_sp {r : Int32} {u u' : SX} (hI : IX u) (h : fX1_compare_8 u = some (r, u')) : (u.1 14 = 0 ∧ r = 0 ∧ u' = u) ∨ (¬ u.1 14 = 0 ∧ FrM mdX1_compare_8 u u' ∧ u'.1 17 = alF (fun i => (u.2.1 38 i, u.2.1 39 i)) ((u.1 14).toNatClampNeg - 1) ∧ u'.1 18 = alT (fun i => (u.2.1 38 i, u.2.1 39 i)) ((u.1 14).toNatClampNeg - 1) ∧ r = if u'.1 18 < u'.1 17 then 0 else 1) := by
  have b0 : (0 : Int) ≤ (u.1 14).toInt := (hI.1 14).1
  have b14 : (u.1 14).toInt ≤ (80 : Int) := (hI.1 14).2
  unfold fX1_compare_8 at h
  by_cases c : u.1 14 = 0
  · rw [if_pos c] at h
    have e : (0 : Int32) = r ∧ u = u' := by cases (gd_some h).2; exact ⟨rfl, rfl⟩
    exact Or.inl ⟨c, e.1.symm, e.2.symm⟩
  · rw [if_neg c] at h
    have c9 : ¬ (u.1 14).toInt = (0 : Int) := neI c
    obtain ⟨-, h⟩ := gd_some h
    obtain ⟨u2, i2, h⟩ := lt_some h
    obtain ⟨-, h⟩ := gd_some h
    obtain ⟨u5, i5, h⟩ := lt_some h
    have F5 : FrM mdX1_compare_8 u u5 := by
      rw [i5, i2]
      exact FrM_sI (FrM_sI FrM_rf (by decide)) (by decide)
    generalize (5000 : Nat) = N1 at h
    obtain ⟨w, q1, q2, q3, q4⟩ := cmp_40 (L := fun i => (u.2.1 38 i, u.2.1 39 i)) N1 1 0 u5 (by decide) (by
      rw [F5.1 14 (by decide)]
      show (1 : Int) ≤ _
      omega) (by rw [F5.1 14 (by decide)]; exact b14) (fun i => by rw [F5.2.1 38 (by decide), F5.2.1 39 (by decide)]) (by rw [i5, i2]; rfl) (by rw [i5, i2]; rfl) h
    rw [F5.1 14 (by decide)] at q2 q3
    unfold GX1_compare_8_97 at q4
    have e : (if w.1 18 < w.1 17 then (0 : Int32) else 1) = r ∧ w = u' := by
      by_cases d : w.1 18 < w.1 17
      · rw [if_pos d] at q4 ⊢
        cases (gd_some q4).2
        exact ⟨rfl, rfl⟩
      · rw [if_neg d] at q4 ⊢
        cases (gd_some q4).2
        exact ⟨rfl, rfl⟩
    rw [e.2] at q1 q2 q3 e
    exact Or.inr ⟨c, FrM_tr F5 q1 (by decide), q2, q3, e.1.symm⟩
