/-! A print or a paper keeps what both sides have alike. -/
theorem inc1 {x : Int32} (h0 : 0 ≤ x.toInt) (h9 : x.toInt ≤ 1000) : x + 1 - 1 = x := by
  apply Int32.toInt.inj
  have y1 : (x + 1).toInt = x.toInt + 1 := addc_t (by decide) (by omega) (by omega)
  have y2 : (x + 1 - 1).toInt = (x + 1).toInt - 1 := subc_t (by decide) (by omega) (by omega)
  omega
theorem hasB {x r : Int32} {u u' : SX} (h : fX2_has_11 x u = some (r, u')) : ¬ r = 0 → 0 ≤ x.toInt ∧ x.toInt < (u.1 35).toInt := by
  unfold fX2_has_11 at h
  by_cases c : x < 0
  · rw [if_pos c] at h
    obtain ⟨-, h⟩ := gd_some h
    cases h
    exact fun z => absurd rfl z
  · rw [if_neg c] at h
    have c0 : ¬ x.toInt < (0 : Int) := nltI c
    by_cases d : u.1 35 ≤ x
    · rw [if_pos d] at h
      obtain ⟨-, h⟩ := gd_some h
      cases h
      exact fun z => absurd rfl z
    · rw [if_neg d] at h
      have d0 := nleI d
      obtain ⟨-, h⟩ := gd_some h
      cases h
      exact fun _ => ⟨by omega, by omega⟩
theorem printX {x1 x2 x3 x4 r : Int32} {u u' : SX} (h : fX11_print_0 x1 x2 x3 x4 u = some (r, u')) : (r = -1 ∧ u' = u) ∨ (x2 = 0 ∧ 0 ≤ x1.toInt ∧ x1.toInt < (u.1 35).toInt ∧ u.1 36 < 40 ∧ fX2_addPrint_11 x1 x3 x4 (u.1 0) u = some (r, u')) ∨ (¬ x2 = 0 ∧ 0 ≤ x1.toInt ∧ x1.toInt < (u.1 35).toInt ∧ x3.toInt ≤ x4.toInt ∧ u.1 37 < 20 ∧ fX2_addPaper_11 x1 x3 x4 (u.1 0) u = some (r, u')) := by
  unfold fX11_print_0 at h
  have no : some ((-1 : Int32), u) = some (r, u') → (r = -1 ∧ u' = u) := fun g => by
    cases g
    exact ⟨rfl, rfl⟩
  obtain ⟨⟨r1, u2⟩, a1, h⟩ := bd_some h
  rw [has_st a1] at h
  have h : (if r1 = 0 then (some ((-1), u)) else (if x3 < (-400) then (some ((-1), u)) else (if 400 < x4 then (some ((-1), u)) else (if x3 ≤ x4 then (if x2 = 0 then (if (u.1 36) < 40 then ((fX2_addPrint_11 x1 x3 x4 (u.1 0) u).bind fun q => match q with | (r4, u5) => (some (r4, u5))) else (some ((-1), u))) else (if (u.1 37) < 20 then ((fX2_addPaper_11 x1 x3 x4 (u.1 0) u).bind fun q => match q with | (r7, u8) => (some (r7, u8))) else (some ((-1), u)))) else (some ((-1 : Int32), u)))))) = some (r, u') := h
  by_cases c1 : r1 = 0
  · rw [if_pos c1] at h
    exact Or.inl (no h)
  rw [if_neg c1] at h
  have k1 := hasB a1 c1
  by_cases c2 : x3 < -400
  · rw [if_pos c2] at h
    exact Or.inl (no h)
  rw [if_neg c2] at h
  by_cases c3 : 400 < x4
  · rw [if_pos c3] at h
    exact Or.inl (no h)
  rw [if_neg c3] at h
  by_cases c4 : x3 ≤ x4
  · rw [if_pos c4] at h
    by_cases c5 : x2 = 0
    · rw [if_pos c5] at h
      by_cases c6 : u.1 36 < 40
      · rw [if_pos c6] at h
        obtain ⟨⟨r4, u5⟩, a4, h⟩ := bd_some h
        cases h
        exact Or.inr (Or.inl ⟨c5, k1.1, k1.2, c6, a4⟩)
      · rw [if_neg c6] at h
        exact Or.inl (no h)
    · rw [if_neg c5] at h
      by_cases c6 : u.1 37 < 20
      · rw [if_pos c6] at h
        obtain ⟨⟨r4, u5⟩, a4, h⟩ := bd_some h
        cases h
        exact Or.inr (Or.inr ⟨c5, k1.1, k1.2, leI c4, c6, a4⟩)
      · rw [if_neg c6] at h
        exact Or.inl (no h)
  · rw [if_neg c4] at h
    exact Or.inl (no h)
/-- what the reference keeps of a print or paper at a place -/
def prM (v : SX) (y x1 x3 x4 : Int32) : SX := sA (sA (sA (sA (sI v 0 0) 35 (upd (v.2.1 35) y.toNatClampNeg x1)) 36 (upd (v.2.1 36) y.toNatClampNeg x3)) 37 (upd (v.2.1 37) y.toNatClampNeg x4)) 38 (upd (v.2.1 38) y.toNatClampNeg (v.1 1))
theorem printM {x1 x2 x3 x4 r : Int32} {v v' : SX} (hJ : IM v) (h : fX12_print_0 x1 x2 x3 x4 v = some (r, v')) : (r = -1 ∧ v' = sI v 0 0) ∨ (x2 = 0 ∧ 0 ≤ x1.toInt ∧ x1.toInt < (v.1 22).toInt ∧ r = v.1 23 ∧ v' = sI (prM v (v.1 23) x1 x3 x4) 23 (v.1 23 + 1)) ∨ (¬ x2 = 0 ∧ 0 ≤ x1.toInt ∧ x1.toInt < (v.1 22).toInt ∧ r = v.1 24 ∧ v' = sI (prM v (40 + v.1 24) x1 x3 x4) 24 (v.1 24 + 1)) := by
  unfold fX12_print_0 at h
  obtain ⟨v1, e1, h⟩ := lt_some h
  have no : some ((-1 : Int32), v1) = some (r, v') → (r = -1 ∧ v' = sI v 0 0) := fun g => by
    rw [← e1]
    cases g
    exact ⟨rfl, rfl⟩
  have b23 : (0 : Int) ≤ (v.1 23).toInt := (hJ.1 23).1
  have c23 : (v.1 23).toInt ≤ (40 : Int) := (hJ.1 23).2
  have b24 : (0 : Int) ≤ (v.1 24).toInt := (hJ.1 24).1
  have c24 : (v.1 24).toInt ≤ (20 : Int) := (hJ.1 24).2
  obtain ⟨⟨r3, u4⟩, a3, h⟩ := bd_some h
  obtain ⟨i3, k3⟩ := isHo a3
  rw [i3] at h
  have h : (if r3 = 0 then (some ((-1), v1)) else ((fX12_isIn x3 (-400) 400).bind fun r6 => (if r6 = 0 then (some ((-1), v1)) else ((fX12_isIn x4 x3 400).bind fun r9 => (if r9 = 0 then (some ((-1), v1)) else (if x2 = 0 then (if (v1.1 23) = 40 then (some ((-1), v1)) else (GX12_print_0_65 x1 x2 x3 x4 v1)) else (if (v1.1 24) = 20 then (some ((-1 : Int32), v1)) else (GX12_print_0_65 x1 x2 x3 x4 v1)))))))) = some (r, v') := h
  by_cases c3 : r3 = 0
  · rw [if_pos c3] at h
    exact Or.inl (no h)
  rw [if_neg c3] at h
  have k3 := k3 c3
  rw [e1] at k3
  have k3 : 0 ≤ x1.toInt ∧ x1.toInt < (v.1 22).toInt := k3
  obtain ⟨r6, a6, h⟩ := bd_some h
  by_cases c6 : r6 = 0
  · rw [if_pos c6] at h
    exact Or.inl (no h)
  rw [if_neg c6] at h
  obtain ⟨r9, a9, h⟩ := bd_some h
  by_cases c9 : r9 = 0
  · rw [if_pos c9] at h
    exact Or.inl (no h)
  rw [if_neg c9] at h
  have fin : ∀ y0 : Int32, GX12_print_0_83 x1 x2 x3 x4 y0 v1 = some (r, v') → (x2 = 0 ∧ r = v.1 23 ∧ v' = sI (prM v y0 x1 x3 x4) 23 (v.1 23 + 1)) ∨ (¬ x2 = 0 ∧ r = v.1 24 ∧ v' = sI (prM v y0 x1 x3 x4) 24 (v.1 24 + 1)) := by
    intro y0 g
    unfold GX12_print_0_83 at g
    obtain ⟨-, g⟩ := gd_some g
    obtain ⟨w1, j1, g⟩ := lt_some g
    obtain ⟨-, g⟩ := gd_some g
    obtain ⟨w2, j2, g⟩ := lt_some g
    obtain ⟨-, g⟩ := gd_some g
    obtain ⟨w3, j3, g⟩ := lt_some g
    obtain ⟨-, g⟩ := gd_some g
    obtain ⟨w4, j4, g⟩ := lt_some g
    have e4 : w4 = prM v y0 x1 x3 x4 := by
      rw [j4, j3, j2, j1, e1]
      rfl
    by_cases c : x2 = 0
    · rw [if_pos c] at g
      obtain ⟨w5, j5, g⟩ := lt_some g
      unfold GX12_print_0_148 at g
      rw [if_pos c] at g
      have er : r = w5.1 23 - 1 ∧ v' = w5 := by cases g; exact ⟨rfl, rfl⟩
      refine Or.inl ⟨c, ?_, ?_⟩
      · rw [er.1, j5, e4]
        show v.1 23 + 1 - 1 = v.1 23
        exact inc1 b23 (Int.le_trans c23 (by decide))
      · rw [er.2, j5, e4]
        rfl
    · rw [if_neg c] at g
      obtain ⟨w5, j5, g⟩ := lt_some g
      unfold GX12_print_0_148 at g
      rw [if_neg c] at g
      have er : r = w5.1 24 - 1 ∧ v' = w5 := by cases g; exact ⟨rfl, rfl⟩
      refine Or.inr ⟨c, ?_, ?_⟩
      · rw [er.1, j5, e4]
        show v.1 24 + 1 - 1 = v.1 24
        exact inc1 b24 (Int.le_trans c24 (by decide))
      · rw [er.2, j5, e4]
        rfl
  unfold GX12_print_0_65 at h
  by_cases c : x2 = 0
  · rw [if_pos c] at h
    by_cases d : v1.1 23 = 40
    · rw [if_pos d] at h
      exact Or.inl (no h)
    · rw [if_neg d, if_pos c] at h
      have ev : v1.1 23 = v.1 23 := by
        rw [e1]
        rfl
      rw [ev] at h
      rcases fin _ h with ⟨g1, g2, g3⟩ | ⟨g1, -⟩
      · exact Or.inr (Or.inl ⟨c, k3.1, k3.2, g2, g3⟩)
      · exact absurd c g1
  · rw [if_neg c] at h
    by_cases d : v1.1 24 = 20
    · rw [if_pos d] at h
      exact Or.inl (no h)
    · rw [if_neg d, if_neg c] at h
      have ev : v1.1 24 = v.1 24 := by
        rw [e1]
        rfl
      rw [ev] at h
      rcases fin _ h with ⟨g1, -⟩ | ⟨g1, g2, g3⟩
      · exact absurd g1 c
      · exact Or.inr (Or.inr ⟨c, k3.1, k3.2, g2, g3⟩)
theorem printK {x1 x2 x3 x4 r r' : Int32} {u u' v v' : SX} (hI : IX u) (hJ : IM v) (ht : Tie u v) (hR : TieR u v) (hK : TieK u v) (er : r = r') (h1 : fX11_print_0 x1 x2 x3 x4 u = some (r, u')) (h2 : fX12_print_0 x1 x2 x3 x4 v = some (r', v')) : TieK u' v' := by
  obtain ⟨t0, t1, t2, t3, t4, t5⟩ := ht
  have b36 : (0 : Int) ≤ (u.1 36).toInt := (hI.1 36).1
  have b37 : (0 : Int) ≤ (u.1 37).toInt := (hI.1 37).1
  have c37 : (u.1 37).toInt ≤ (20 : Int) := (hI.1 37).2
  have b35 : (u.1 35).toInt ≤ (8 : Int) := (hI.1 35).2
  have bn : (0 : Int) ≤ (u.1 0).toInt := (hI.1 0).1
  have bn9 : (u.1 0).toInt ≤ (120 : Int) := (hI.1 0).2
  have neg : ∀ x : Int32, 0 ≤ x.toInt → ¬ x = -1 := fun x hx z => by
    rw [z] at hx
    exact absurd hx (by decide)
  have tp := tn b36
  have tq := tn b37
  have kept : TieK u (sI v 0 0) := TieK_fr (mx := ([], [], [], [])) (mm := ([0], [], [], [])) FrM_rf (FrM_sI FrM_rf (by decide)) (by decide) hK
  rcases printX h1 with ⟨z1, e1⟩ | ⟨c1, a0, a9, n1, g1⟩ | ⟨c1, a0, a9, le34, n1, g1⟩
  · rcases printM hJ h2 with ⟨z2, e2⟩ | ⟨-, -, -, z2, -⟩ | ⟨-, -, -, z2, -⟩
    · rw [e1, e2]
      exact kept
    · exact absurd (z2.symm.trans (er.symm.trans z1)) (neg _ (by rw [← t2]; exact b36))
    · exact absurd (z2.symm.trans (er.symm.trans z1)) (neg _ (by rw [← t3]; exact b37))
  · have n9 : (u.1 36).toInt < (40 : Int) := ltI n1
    obtain ⟨xr, fr, w37, w66, w67, w69, w59, w39, w68, wJ⟩ := addPrintX hI n1 a0 (by omega) bn bn9 g1
    rcases printM hJ h2 with ⟨z2, -⟩ | ⟨-, -, -, z2, e2⟩ | ⟨c2, -⟩
    · exact absurd (xr.symm.trans (er.trans z2)) (neg _ b36)
    · have m23 : v'.1 23 = u.1 36 + 1 := by
        rw [e2, t2]
        rfl
      have i23 : (u.1 36 + 1).toInt = (u.1 36).toInt + 1 := addc_t (by decide) (by omega) (by omega)
      have m24 : v'.1 24 = v.1 24 := by
        rw [e2]
        rfl
      have m36 : v'.2.1 36 = upd (v.2.1 36) (u.1 36).toNatClampNeg x3 := by
        rw [e2, t2]
        rfl
      have m37 : v'.2.1 37 = upd (v.2.1 37) (u.1 36).toNatClampNeg x4 := by
        rw [e2, t2]
        rfl
      obtain ⟨k1, kb, kc⟩ := toldK (u' := u') (v' := v') (x1 := x1) (xb := u.1 36) (w := 0) hI a0 (by omega) b36 (by omega) (by
        rintro (⟨g1, g2⟩ | ⟨g1, g2⟩)
        · rw [← t2] at g2
          omega
        · omega) w69 w59 w39 (fr.1 38 (by decide)) (fr.2.1 60 (by decide)) (fr.2.1 61 (by decide)) (fr.2.1 62 (by decide)) (fr.2.2.2.1 70 (by decide)) (by
        intro x
        unfold thM
        rw [m23, m24, i23, ← t2]
        omega) (by rw [e2, t2]; rfl) (by rw [e2, t2, t0]; rfl) (by rw [e2]; rfl) (by rw [e2]; rfl) (by rw [e2]; rfl) (by rw [e2]; rfl) (by rw [e2]; rfl) hK
      refine ⟨k1, kb, kc, ?_⟩
      refine TieM_add (Q := fun i x => i = (u.1 36).toNatClampNeg ∧ ∃ j : Nat, (j : Int) < (u.1 37).toInt ∧ x = 40 + j ∧ 0 < x3.toInt ∧ x3.toInt ≤ (u.2.1 67 j).toInt ∧ (u.2.1 66 j).toInt ≤ x4.toInt) ?_ (fun i x _ => w68 i x) ?_ ?_ hK.2.2.2
      · intro i y
        unfold MT
        rw [m23, m24, m36, m37, i23, ← t2, ← t3]
        by_cases ci : i = (u.1 36).toNatClampNeg
        · rw [ci, upd_at, upd_at]
          constructor
          · rintro ⟨-, q1, q2, q3, q4, q5⟩
            have ny : ¬ y = (u.1 36).toNatClampNeg := by omega
            rw [upd_ne ny] at q4 q5
            obtain ⟨p1, p2, -⟩ := hK.2.2.2.2.2 (y - 40) (by omega)
            rw [show 40 + (y - 40) = y by omega] at p1 p2
            exact Or.inr ⟨rfl, y - 40, by omega, by omega, q3, by rw [p2]; exact q4, by rw [p1]; exact q5⟩
          · rintro (⟨q, -⟩ | ⟨-, j, q1, q2, q3, q4, q5⟩)
            · omega
            · obtain ⟨p1, p2, -⟩ := hK.2.2.2.2.2 j q1
              have ny : ¬ y = (u.1 36).toNatClampNeg := by omega
              rw [upd_ne ny, upd_ne ny, q2, ← p1, ← p2]
              exact ⟨by omega, by omega, by omega, q3, q4, q5⟩
        · rw [upd_ne ci, upd_ne ci]
          constructor
          · rintro ⟨q0, q1, q2, q3, q4, q5⟩
            have ny : ¬ y = (u.1 36).toNatClampNeg := by omega
            rw [upd_ne ny] at q4 q5
            exact Or.inl ⟨by omega, q1, q2, q3, q4, q5⟩
          · rintro (⟨q0, q1, q2, q3, q4, q5⟩ | ⟨q, -⟩)
            · have ny : ¬ y = (u.1 36).toNatClampNeg := by omega
              rw [upd_ne ny, upd_ne ny]
              exact ⟨by omega, q1, q2, q3, q4, q5⟩
            · exact absurd q ci
      · intro x
        rw [wJ x]
        constructor
        · rintro (g | ⟨j, q1, ⟨q2, q3, q4⟩, q5⟩)
          · exact Or.inl g
          · rcases q5 with q5 | q5
            · exact Or.inr (Or.inl ⟨40 + j, q5, j, q1, rfl, q2, q3, q4⟩)
            · exact Or.inr (Or.inr ⟨_, rfl, j, q1, q5, q2, q3, q4⟩)
        · rintro (g | ⟨y, q, j, q1, q2, q3, q4, q5⟩ | ⟨i, q, j, q1, q2, q3, q4, q5⟩)
          · exact Or.inl g
          · exact Or.inr ⟨j, q1, ⟨q3, q4, q5⟩, Or.inl q⟩
          · exact Or.inr ⟨j, q1, ⟨q3, q4, q5⟩, Or.inr q2⟩
      · intro j hj
        rw [w37] at hj
        have nj : ¬ 40 + j = (u.1 36).toNatClampNeg := by omega
        rw [w66, w67, m36, m37, upd_ne nj, upd_ne nj]
        exact hK.2.2.2.2.2 j hj
    · exact absurd c1 c2
  · have n9 : (u.1 37).toInt < (20 : Int) := ltI n1
    obtain ⟨xr, fr, w37, w66, w67, w69, w59, w39, w68, wJ⟩ := addPaperX hI n1 a0 (by omega) bn bn9 g1
    rcases printM hJ h2 with ⟨z2, -⟩ | ⟨c2, -⟩ | ⟨-, -, -, z2, e2⟩
    · exact absurd (xr.symm.trans (er.trans z2)) (neg _ b37)
    · exact absurd c2 c1
    · have c36 : (u.1 36).toInt ≤ (40 : Int) := (hI.1 36).2
      have e40 : (40 + u.1 37).toInt = 40 + (u.1 37).toInt := by
        have c : (40 : Int32).toInt = 40 := by decide
        rw [add_t (by rw [c]; omega) (by rw [c]; omega), c]
      have n40 : (40 + u.1 37).toNatClampNeg = 40 + (u.1 37).toNatClampNeg := by
        show (40 + u.1 37).toInt.toNat = 40 + (u.1 37).toInt.toNat
        omega
      have m24 : v'.1 24 = u.1 37 + 1 := by
        rw [e2, t3]
        rfl
      have i24 : (u.1 37 + 1).toInt = (u.1 37).toInt + 1 := addc_t (by decide) (by omega) (by omega)
      have m23 : v'.1 23 = v.1 23 := by
        rw [e2]
        rfl
      have m36 : v'.2.1 36 = upd (v.2.1 36) (40 + (u.1 37).toNatClampNeg) x3 := by
        rw [e2, ← n40, t3]
        rfl
      have m37 : v'.2.1 37 = upd (v.2.1 37) (40 + (u.1 37).toNatClampNeg) x4 := by
        rw [e2, ← n40, t3]
        rfl
      obtain ⟨k1, kb, kc⟩ := toldK (u' := u') (v' := v') (x1 := x1) (xb := 40 + u.1 37) (w := 0) hI a0 (by omega) (by omega) (by omega) (by
        rw [n40]
        rintro (⟨g1, g2⟩ | ⟨g1, g2⟩)
        · omega
        · rw [← t3] at g2
          omega) w69 w59 w39 (fr.1 38 (by decide)) (fr.2.1 60 (by decide)) (fr.2.1 61 (by decide)) (fr.2.1 62 (by decide)) (fr.2.2.2.1 70 (by decide)) (by
        intro x
        unfold thM
        rw [m23, m24, i24, ← t3, n40]
        omega) (by rw [e2, t3]; rfl) (by rw [e2, t3, t0]; rfl) (by rw [e2]; rfl) (by rw [e2]; rfl) (by rw [e2]; rfl) (by rw [e2]; rfl) (by rw [e2]; rfl) hK
      refine ⟨k1, kb, kc, ?_⟩
      refine TieM_add (Q := fun i x => (i : Int) < (u.1 36).toInt ∧ x = 40 + (u.1 37).toNatClampNeg ∧ 0 < (u.2.1 63 i).toInt ∧ (u.2.1 63 i).toInt ≤ x4.toInt ∧ x3.toInt ≤ (u.2.1 64 i).toInt) ?_ (fun i x _ => w68 i x) ?_ ?_ hK.2.2.2
      · intro i y
        unfold MT
        rw [m23, m24, m36, m37, i24, ← t2, ← t3]
        by_cases hi : (i : Int) < (u.1 36).toInt
        · obtain ⟨r1, r2, -, -⟩ := hR i hi
          have ni : ¬ i = 40 + (u.1 37).toNatClampNeg := by omega
          rw [upd_ne ni, upd_ne ni, r1, r2]
          by_cases cy : y = 40 + (u.1 37).toNatClampNeg
          · rw [cy, upd_at, upd_at]
            constructor
            · rintro ⟨q0, q1, q2, q3, q4, q5⟩
              exact Or.inr ⟨hi, rfl, q3, q4, q5⟩
            · rintro (⟨-, q1, q2, -⟩ | ⟨-, -, q3, q4, q5⟩)
              · omega
              · exact ⟨hi, by omega, by omega, q3, q4, q5⟩
          · rw [upd_ne cy, upd_ne cy]
            constructor
            · rintro ⟨q0, q1, q2, q3⟩
              exact Or.inl ⟨q0, q1, by omega, q3⟩
            · rintro (⟨q0, q1, q2, q3⟩ | ⟨-, q, -⟩)
              · exact ⟨q0, q1, by omega, q3⟩
              · exact absurd q cy
        · exact ⟨fun g => absurd g.1 hi, fun g => g.elim (fun g => absurd g.1 hi) (fun g => absurd g.1 hi)⟩
      · intro x
        rw [wJ x]
        constructor
        · rintro (g | ⟨i, q1, ⟨q2, q3, q4⟩, q5⟩)
          · exact Or.inl g
          · rcases q5 with q5 | q5
            · exact Or.inr (Or.inl ⟨40 + (u.1 37).toNatClampNeg, by rw [q5]; exact q1, rfl, by rw [q5]; exact ⟨q2, q3, q4⟩⟩)
            · exact Or.inr (Or.inr ⟨i, q1, q5, q2, q3, q4⟩)
        · rintro (g | ⟨y, q1, q2, q3, q4, q5⟩ | ⟨i, q1, q2, q3, q4, q5⟩)
          · exact Or.inl g
          · exact Or.inr ⟨x, q1, ⟨q3, q4, q5⟩, Or.inl rfl⟩
          · exact Or.inr ⟨i, q1, ⟨q3, q4, q5⟩, Or.inr q2⟩
      · intro j hj
        rw [w37, i24] at hj
        rw [w66, w67, m36, m37]
        by_cases cj : j = (u.1 37).toNatClampNeg
        · rw [cj, upd_at, upd_at, upd_at, upd_at]
          exact ⟨rfl, rfl, le34⟩
        · have nj : ¬ 40 + j = 40 + (u.1 37).toNatClampNeg := by omega
          rw [upd_ne cj, upd_ne cj, upd_ne nj, upd_ne nj]
          exact hK.2.2.2.2.2 j (by omega)
