/-! The prints' rows. -/
def TieR (u v : SX) : Prop := ∀ i : Nat, (i : Int) < (u.1 36).toInt → u.2.1 63 i = v.2.1 36 i ∧ u.2.1 64 i = v.2.1 37 i ∧ u.2.1 65 i = v.2.1 38 i ∧ (u.2.1 63 i).toInt ≤ (u.2.1 64 i).toInt
theorem TieR_fr {u u' v v' : SX} (h0 : u'.1 36 = u.1 36) (h1 : u'.2.1 63 = u.2.1 63) (h2 : u'.2.1 64 = u.2.1 64) (h3 : u'.2.1 65 = u.2.1 65) (k1 : v'.2.1 36 = v.2.1 36) (k2 : v'.2.1 37 = v.2.1 37) (k3 : v'.2.1 38 = v.2.1 38) (h : TieR u v) : TieR u' v' := fun i hi => by
  rw [h0] at hi
  rw [h1, h2, h3, k1, k2, k3]
  exact h i hi
theorem addPrint_GR {z1 z4 : Int32} {u u' : SX} {r : Int32} (hI : IX u) (b1 : 0 ≤ z1.toInt ∧ z1.toInt ≤ 7) (b4 : 0 ≤ z4.toInt ∧ z4.toInt ≤ 120) (h : GX2_addPrint_11_70 z1 z4 u = some (r, u')) : u'.2.1 63 = u.2.1 63 ∧ u'.2.1 64 = u.2.1 64 ∧ u'.2.1 65 = u.2.1 65 := by
  unfold GX2_addPrint_11_70 at h
  obtain ⟨r13, a13, h⟩ := bd_some h
  obtain ⟨⟨r16, u17⟩, a16, h⟩ := bd_some h
  have hs : StX mdX2_tell_11 u u17 := (Tot_at (tfX2_tell_11 z1 r13 z4 u hI b1 b4) a16).1
  obtain ⟨u19, e19, h⟩ := lt_some h
  cases h
  have k : ∀ k, mdX2_tell_11.2.1.contains k = false → u17.2.1 k = u.2.1 k := hs.2.2.1
  subst e19
  exact ⟨k 63 (by decide), k 64 (by decide), k 65 (by decide)⟩
theorem addPrint_LR : ∀ (n : Nat) (z1 z4 z5 : Int32) (u u' : SX) (r : Int32), IX u → (u.1 36).toInt < 40 → (0 ≤ z1.toInt ∧ z1.toInt ≤ 7) → (0 ≤ z4.toInt ∧ z4.toInt ≤ 120) → (0 ≤ z5.toInt ∧ z5.toInt ≤ 20) → LX2_addPrint_11_45 GX2_addPrint_11_70 n z1 z4 z5 u = some (r, u') → u'.2.1 63 = u.2.1 63 ∧ u'.2.1 64 = u.2.1 64 ∧ u'.2.1 65 = u.2.1 65 := by
  intro n
  induction n with
  | zero => intro z1 z4 z5 u u' r _ _ _ _ _ h; cases h
  | succ n ih =>
    intro z1 z4 z5 u u' r hI hc b1 b4 b5 h
    have h : (if (u.1 37) ≤ z5 then _ else _) = some (r, u') := h
    by_cases c : u.1 37 ≤ z5
    · rw [if_pos c] at h
      exact addPrint_GR hI b1 b4 h
    · rw [if_neg c] at h
      have c9 : ¬ (u.1 37).toInt ≤ z5.toInt := nleI c
      have bo : (u.1 37).toInt ≤ (20 : Int) := (hI.1 37).2
      have bf : (0 : Int) ≤ (u.1 36).toInt := (hI.1 36).1
      obtain ⟨⟨r10, u11⟩, a10, h⟩ := bd_some h
      have hs : StX mdX2_compare_11 u u11 := (Tot_at (tfX2_compare_11 (u.1 36) z5 u hI ⟨by omega, by omega⟩ ⟨by omega, by omega⟩) a10).1
      have k : ∀ k, mdX2_compare_11.2.1.contains k = false → u11.2.1 k = u.2.1 k := hs.2.2.1
      have k0 : u11.1 36 = u.1 36 := hs.2.1 36 (by decide)
      have e5 : (z5 + 1).toInt = z5.toInt + 1 := addc_t (by decide) (by omega) (by omega)
      have q := ih z1 z4 (z5 + 1) u11 u' r hs.1 (by rw [k0]; exact hc) b1 b4 ⟨by rw [e5]; omega, by rw [e5]; omega⟩ h
      rw [k 63 rfl, k 64 rfl, k 65 rfl] at q
      exact q
theorem addPrint_row {x1 x2 x3 x4 : Int32} {u u' : SX} {r : Int32} (hI : IX u) (hc : u.1 36 < 40) (b1 : 0 ≤ x1.toInt ∧ x1.toInt ≤ 7) (b2 : (-400) ≤ x2.toInt ∧ x2.toInt ≤ 400) (b3 : (-400) ≤ x3.toInt ∧ x3.toInt ≤ 400) (b4 : 0 ≤ x4.toInt ∧ x4.toInt ≤ 120) (h : fX2_addPrint_11 x1 x2 x3 x4 u = some (r, u')) : u'.2.1 63 = upd (u.2.1 63) (u.1 36).toNatClampNeg x2 ∧ u'.2.1 64 = upd (u.2.1 64) (u.1 36).toNatClampNeg x3 ∧ u'.2.1 65 = upd (u.2.1 65) (u.1 36).toNatClampNeg x4 := by
  unfold fX2_addPrint_11 at h
  rw [if_pos hc] at h
  have hc9 : (u.1 36).toInt < (40 : Int) := ltI hc
  obtain ⟨-, h⟩ := gd_some h
  obtain ⟨w1, j1, h⟩ := lt_some h
  obtain ⟨-, h⟩ := gd_some h
  obtain ⟨w2, j2, h⟩ := lt_some h
  obtain ⟨-, h⟩ := gd_some h
  obtain ⟨w3, j3, h⟩ := lt_some h
  have hs : IX w3 := by
    subst j3 j2 j1
    exact (StX_sA (md := ([], [63, 64, 65], [], [])) (StX_sA (md := ([], [63, 64, 65], [], [])) (StX_sA (md := ([], [63, 64, 65], [], [])) (StX_rf hI) (by decide) (by first | exact b2.1 | exact Int.le_trans (by decide) b2.1) (by first | exact b2.2 | exact Int.le_trans b2.2 (by decide)) rfl) (by decide) (by first | exact b3.1 | exact Int.le_trans (by decide) b3.1) (by first | exact b3.2 | exact Int.le_trans b3.2 (by decide)) rfl) (by decide) (by first | exact b4.1 | exact Int.le_trans (by decide) b4.1) (by first | exact b4.2 | exact Int.le_trans b4.2 (by decide)) rfl).1
  have k0 : w3.1 36 = u.1 36 := by rw [j3, j2, j1]; rfl
  have q := addPrint_LR 5000 x1 x4 0 w3 u' r hs (by rw [k0]; exact hc9) b1 b4 ⟨by decide, by decide⟩ h
  subst j3 j2 j1
  exact q
theorem row_new {u u' v v' : SX} {x3 x4 d : Int32} (hR : TieR u v) (h0 : 0 ≤ (u.1 36).toInt) (hc : u.1 36 < 40) (hn : v.1 23 = u.1 36) (s2 : u'.1 36 = u.1 36 + 1) (q1 : u'.2.1 63 = upd (u.2.1 63) (u.1 36).toNatClampNeg x3) (q2 : u'.2.1 64 = upd (u.2.1 64) (u.1 36).toNatClampNeg x4) (q3 : u'.2.1 65 = upd (u.2.1 65) (u.1 36).toNatClampNeg d) (p1 : v'.2.1 36 = upd (v.2.1 36) (v.1 23).toNatClampNeg x3) (p2 : v'.2.1 37 = upd (v.2.1 37) (v.1 23).toNatClampNeg x4) (p3 : v'.2.1 38 = upd (v.2.1 38) (v.1 23).toNatClampNeg d) (hz : x3.toInt ≤ x4.toInt) : TieR u' v' := fun i hi => by
  have hc9 : (u.1 36).toInt < (40 : Int) := ltI hc
  have e : (u.1 36 + 1).toInt = (u.1 36).toInt + 1 := addc_t (by decide) (by omega) (by omega)
  rw [s2, e] at hi
  rw [q1, q2, q3, p1, p2, p3, hn]
  show (if i = (u.1 36).toNatClampNeg then x3 else _) = (if i = (u.1 36).toNatClampNeg then x3 else _) ∧ (if i = (u.1 36).toNatClampNeg then x4 else _) = (if i = (u.1 36).toNatClampNeg then x4 else _) ∧ (if i = (u.1 36).toNatClampNeg then d else _) = (if i = (u.1 36).toNatClampNeg then d else _) ∧ (if i = (u.1 36).toNatClampNeg then x3 else _).toInt ≤ (if i = (u.1 36).toNatClampNeg then x4 else _).toInt
  by_cases c : i = (u.1 36).toNatClampNeg
  · rw [if_pos c, if_pos c, if_pos c, if_pos c, if_pos c, if_pos c]
    exact ⟨rfl, rfl, rfl, hz⟩
  · rw [if_neg c, if_neg c, if_neg c, if_neg c, if_neg c, if_neg c]
    have c9 : ¬ i = (u.1 36).toInt.toNat := c
    exact hR i (by omega)
theorem row_far {u u' v v' : SX} {x3 x4 d : Int32} (hR : TieR u v) (h0 : 0 ≤ (u.1 37).toInt) (hb : (u.1 36).toInt ≤ (40 : Int)) (hn : v.1 24 = u.1 37) (hc : u.1 37 < 20) (s2 : u'.1 36 = u.1 36) (q1 : u'.2.1 63 = u.2.1 63) (q2 : u'.2.1 64 = u.2.1 64) (q3 : u'.2.1 65 = u.2.1 65) (p1 : v'.2.1 36 = upd (v.2.1 36) (40 + v.1 24).toNatClampNeg x3) (p2 : v'.2.1 37 = upd (v.2.1 37) (40 + v.1 24).toNatClampNeg x4) (p3 : v'.2.1 38 = upd (v.2.1 38) (40 + v.1 24).toNatClampNeg d) : TieR u' v' := fun i hi => by
  have hc9 : (u.1 37).toInt < (20 : Int) := ltI hc
  have e : (40 + u.1 37).toInt = 40 + (u.1 37).toInt := cadd_t (by decide) (by omega) (by omega)
  rw [s2] at hi
  have c : ¬ i = (40 + u.1 37).toNatClampNeg := fun z => by
    have z : i = (40 + u.1 37).toInt.toNat := z
    rw [e] at z
    omega
  rw [q1, q2, q3, p1, p2, p3, hn]
  show _ = (if i = (40 + u.1 37).toNatClampNeg then x3 else _) ∧ _ = (if i = (40 + u.1 37).toNatClampNeg then x4 else _) ∧ _ = (if i = (40 + u.1 37).toNatClampNeg then d else _) ∧ _
  rw [if_neg c, if_neg c, if_neg c]
  exact hR i hi
theorem print_eq2 {x1 x2 x3 x4 : Int32} {u u' v v' : SX} {r r' : Int32} (hI : IX u) (hJ : IM v) (ht : Tie u v) (hr : TieR u v) (h1 : fX11_print_0 x1 x2 x3 x4 u = some (r, u')) (h2 : fX12_print_0 x1 x2 x3 x4 v = some (r', v')) : r = r' ∧ Tie u' v' ∧ TieR u' v' := by
  obtain ⟨t0, t1, t2, t3, t4, t5⟩ := ht
  unfold fX11_print_0 at h1
  unfold fX12_print_0 at h2
  obtain ⟨v1, e1, h2⟩ := lt_some h2
  have f0 : u.1 0 = v1.1 1 := by rw [e1]; exact t0
  have f1 : u.1 35 = v1.1 22 := by rw [e1]; exact t1
  have f2 : u.1 36 = v1.1 23 := by rw [e1]; exact t2
  have f3 : u.1 37 = v1.1 24 := by rw [e1]; exact t3
  have f4 : u.1 38 = v1.1 25 := by rw [e1]; exact t4
  have f5 : u.1 13 = v1.1 15 := by rw [e1]; exact t5
  have b1 : (u.1 36).toInt ≤ (40 : Int) := (hI.1 36).2
  have b2 : (u.1 37).toInt ≤ (20 : Int) := (hI.1 37).2
  have b3 : (0 : Int) ≤ (u.1 0).toInt := (hI.1 0).1
  have b4 : (u.1 0).toInt ≤ (120 : Int) := (hI.1 0).2
  have b5 : (u.1 35).toInt ≤ (8 : Int) := (hI.1 35).2
  have T0 : Tie u v1 := ⟨f0, f1, f2, f3, f4, f5⟩
  have R0 : TieR u v1 := by rw [e1]; exact hr
  clear e1 t0 t1 t2 t3 t4 t5
  obtain ⟨⟨r1, u2⟩, a1, h1⟩ := bd_some h1
  obtain ⟨⟨r3, v4⟩, a3, h2⟩ := bd_some h2
  obtain ⟨g0, g1, g2, g3⟩ := has_eq f1 a1 a3
  rw [g0] at h1
  rw [g1, ← g2] at h2
  have h1 : (if r1 = 0 then _ else _) = some (r, u') := h1
  have h2 : (if r1 = 0 then _ else _) = some (r', v') := h2
  by_cases c1 : r1 = 0
  · rw [if_pos c1] at h1 h2
    cases h1
    cases h2
    exact ⟨rfl, T0, R0⟩
  rw [if_neg c1] at h1 h2
  obtain ⟨y0, y1⟩ := g3 c1
  obtain ⟨r6, a6, h2⟩ := bd_some h2
  have i6 : fX12_isIn x3 (-400) 400 = some r6 := a6
  unfold fX12_isIn at i6
  by_cases c2 : x3 < -400
  · rw [if_pos c2] at h1 i6
    obtain ⟨-, i6⟩ := gd_some i6
    cases i6
    rw [if_pos rfl] at h2
    cases h1
    cases h2
    exact ⟨rfl, T0, R0⟩
  rw [if_neg c2] at h1 i6
  have z2 : ¬ x3.toInt < (-400 : Int) := nltI c2
  by_cases c3 : 400 < x4
  · rw [if_pos c3] at h1
    cases h1
    have z3 : (400 : Int) < x4.toInt := ltI c3
    by_cases c4 : 400 < x3
    · rw [if_pos c4] at i6
      obtain ⟨-, i6⟩ := gd_some i6
      cases i6
      rw [if_pos rfl] at h2
      cases h2
      exact ⟨rfl, T0, R0⟩
    · rw [if_neg c4] at i6
      obtain ⟨-, i6⟩ := gd_some i6
      cases i6
      rw [if_neg (by decide)] at h2
      obtain ⟨r9, a9, h2⟩ := bd_some h2
      unfold fX12_isIn at a9
      have n9 : ¬ x4 < x3 := fun z => by
        have := ltI z
        have : ¬ (400 : Int) < x3.toInt := nltI c4
        omega
      rw [if_neg n9, if_pos c3] at a9
      obtain ⟨-, a9⟩ := gd_some a9
      cases a9
      rw [if_pos rfl] at h2
      cases h2
      exact ⟨rfl, T0, R0⟩
  rw [if_neg c3] at h1
  have z3 : ¬ (400 : Int) < x4.toInt := nltI c3
  by_cases c4 : x3 ≤ x4
  · rw [if_pos c4] at h1
    have z4 : x3.toInt ≤ x4.toInt := leI c4
    have n4 : ¬ 400 < x3 := fun z => by
      have : (400 : Int) < x3.toInt := ltI z
      omega
    rw [if_neg n4] at i6
    obtain ⟨-, i6⟩ := gd_some i6
    cases i6
    rw [if_neg (by decide)] at h2
    obtain ⟨r9, a9, h2⟩ := bd_some h2
    unfold fX12_isIn at a9
    have n9 : ¬ x4 < x3 := fun z => by
      have := ltI z
      omega
    rw [if_neg n9, if_neg c3] at a9
    obtain ⟨-, a9⟩ := gd_some a9
    cases a9
    rw [if_neg (by decide)] at h2
    by_cases c5 : x2 = 0
    · rw [if_pos c5] at h1 h2
      rw [← f2] at h2
      by_cases c6 : u.1 36 < 40
      · rw [if_pos c6] at h1
        have n6 : ¬ u.1 36 = 40 := fun z => by
          rw [z] at c6
          exact absurd c6 (by decide)
        rw [if_neg n6] at h2
        obtain ⟨⟨r4, u5⟩, a4, h1⟩ := bd_some h1
        cases h1
        obtain ⟨q1, q2, q3⟩ := addPrint_row hI c6 ⟨by omega, by omega⟩ ⟨by omega, by omega⟩ ⟨by omega, by omega⟩ ⟨by omega, by omega⟩ a4
        obtain ⟨s0, s1, s2, s3, s4, s6, s5⟩ := addPrint_eq hI c6 ⟨by omega, by omega⟩ ⟨by omega, by omega⟩ ⟨by omega, by omega⟩ ⟨by omega, by omega⟩ a4
        unfold GX12_print_0_65 GX12_print_0_83 GX12_print_0_148 at h2
        rw [if_pos c5] at h2
        obtain ⟨-, h2⟩ := gd_some h2
        obtain ⟨w1, j1, h2⟩ := lt_some h2
        obtain ⟨-, h2⟩ := gd_some h2
        obtain ⟨w2, j2, h2⟩ := lt_some h2
        obtain ⟨-, h2⟩ := gd_some h2
        obtain ⟨w3, j3, h2⟩ := lt_some h2
        obtain ⟨-, h2⟩ := gd_some h2
        obtain ⟨w4, j4, h2⟩ := lt_some h2
        rw [if_pos c5] at h2
        obtain ⟨w5, j5, h2⟩ := lt_some h2
        rw [if_pos c5] at h2
        cases h2
        subst j5 j4 j3 j2 j1
        refine ⟨?_, ⟨s0.trans f0, s1.trans f1, s2.trans (by rw [f2]; rfl), s3.trans f3, s4.trans f4, s6.trans f5⟩, ?_⟩
        · rw [s5, f2]
          rfl
        · exact row_new R0 (hI.1 36).1 c6 f2.symm s2 q1 q2 q3 rfl rfl (by rw [f0]; rfl) z4
      · rw [if_neg c6] at h1
        have z6 : ¬ (u.1 36).toInt < (40 : Int) := nltI c6
        have n6 : u.1 36 = 40 := Int32.toInt.inj ((show (u.1 36).toInt = (40 : Int) by omega).trans (by decide))
        rw [if_pos n6] at h2
        cases h1
        cases h2
        exact ⟨rfl, T0, R0⟩
    · rw [if_neg c5] at h1 h2
      rw [← f3] at h2
      by_cases c6 : u.1 37 < 20
      · rw [if_pos c6] at h1
        have n6 : ¬ u.1 37 = 20 := fun z => by
          rw [z] at c6
          exact absurd c6 (by decide)
        rw [if_neg n6] at h2
        obtain ⟨⟨r4, u5⟩, a4, h1⟩ := bd_some h1
        cases h1
        have hs9 := (Tot_at (tfX2_addPaper_11 x1 x3 x4 (u.1 0) u hI ⟨by omega, by omega⟩ ⟨by omega, by omega⟩ ⟨by omega, by omega⟩ ⟨by omega, by omega⟩) a4).1
        have q1 : u'.2.1 63 = u.2.1 63 := hs9.2.2.1 63 (by decide)
        have q2 : u'.2.1 64 = u.2.1 64 := hs9.2.2.1 64 (by decide)
        have q3 : u'.2.1 65 = u.2.1 65 := hs9.2.2.1 65 (by decide)
        clear hs9
        obtain ⟨s0, s1, s2, s3, s4, s6, s5⟩ := addPaper_eq hI c6 ⟨by omega, by omega⟩ ⟨by omega, by omega⟩ ⟨by omega, by omega⟩ ⟨by omega, by omega⟩ a4
        unfold GX12_print_0_65 GX12_print_0_83 GX12_print_0_148 at h2
        rw [if_neg c5] at h2
        obtain ⟨-, h2⟩ := gd_some h2
        obtain ⟨w1, j1, h2⟩ := lt_some h2
        obtain ⟨-, h2⟩ := gd_some h2
        obtain ⟨w2, j2, h2⟩ := lt_some h2
        obtain ⟨-, h2⟩ := gd_some h2
        obtain ⟨w3, j3, h2⟩ := lt_some h2
        obtain ⟨-, h2⟩ := gd_some h2
        obtain ⟨w4, j4, h2⟩ := lt_some h2
        rw [if_neg c5] at h2
        obtain ⟨w5, j5, h2⟩ := lt_some h2
        rw [if_neg c5] at h2
        cases h2
        subst j5 j4 j3 j2 j1
        refine ⟨?_, ⟨s0.trans f0, s1.trans f1, s2.trans f2, s3.trans (by rw [f3]; rfl), s4.trans f4, s6.trans f5⟩, ?_⟩
        · rw [s5, f3]
          rfl
        · exact row_far R0 (hI.1 37).1 b1 f3.symm c6 s2 q1 q2 q3 rfl rfl rfl
      · rw [if_neg c6] at h1
        have z6 : ¬ (u.1 37).toInt < (20 : Int) := nltI c6
        have n6 : u.1 37 = 20 := Int32.toInt.inj ((show (u.1 37).toInt = (20 : Int) by omega).trans (by decide))
        rw [if_pos n6] at h2
        cases h1
        cases h2
        exact ⟨rfl, T0, R0⟩
  · rw [if_neg c4] at h1
    cases h1
    have z4 : ¬ x3.toInt ≤ x4.toInt := nleI c4
    by_cases c5 : 400 < x3
    · rw [if_pos c5] at i6
      obtain ⟨-, i6⟩ := gd_some i6
      cases i6
      rw [if_pos rfl] at h2
      cases h2
      exact ⟨rfl, T0, R0⟩
    · rw [if_neg c5] at i6
      obtain ⟨-, i6⟩ := gd_some i6
      cases i6
      rw [if_neg (by decide)] at h2
      obtain ⟨r9, a9, h2⟩ := bd_some h2
      unfold fX12_isIn at a9
      rw [if_pos (Int32.lt_iff_toInt_lt.mpr (by omega))] at a9
      obtain ⟨-, a9⟩ := gd_some a9
      cases a9
      rw [if_pos rfl] at h2
      cases h2
      exact ⟨rfl, T0, R0⟩
theorem TieR_0 : TieR uX uM := fun i hi => by
  have hi : (i : Int) < 0 := hi
  omega
/-! had -/
theorem had_loop {u v : SX} {q y w : Int32} (hI : IX u) (ht : u.1 36 = v.1 23) (hR : TieR u v) (hw : (w = 0 ∧ y = 1) ∨ (¬ w = 0 ∧ y = 0)) : ∀ (n m : Nat) (z3 z4 r r' : Int32) (u' v' : SX), 0 ≤ z4.toInt → LX2_having_11_5 n q y z3 z4 u = some (r, u') → LX12_had_0_33 m q w z3 z4 v = some (r', v') → r = r' := by
  intro n
  induction n with
  | zero => intro m z3 z4 r r' u' v' _ h; cases h
  | succ n ih =>
    intro m z3 z4 r r' u' v' h0 h1 h2
    cases m with
    | zero => cases h2
    | succ m =>
      have h1 : (if (u.1 36) ≤ z4 then _ else _) = some (r, u') := h1
      have h2 : (if (v.1 23) ≤ z4 then _ else _) = some (r', v') := h2
      rw [← ht] at h2
      have b1 : (u.1 36).toInt ≤ (40 : Int) := (hI.1 36).2
      by_cases c : u.1 36 ≤ z4
      · rw [if_pos c] at h1 h2
        cases h1
        cases h2
        rfl
      · rw [if_neg c] at h1 h2
        have c9 : ¬ (u.1 36).toInt ≤ z4.toInt := nleI c
        have e4 : (z4 + 1).toInt = z4.toInt + 1 := addc_t (by decide) (by omega) (by omega)
        obtain ⟨t1, t2, t3, t4⟩ := hR z4.toNatClampNeg (by show ((z4.toInt.toNat : Nat) : Int) < _; omega)
        unfold GX2_having_11_29 GX2_having_11_61 at h1
        unfold GX12_had_0_95 GX12_had_0_91 GX12_had_0_96 at h2
        obtain ⟨-, h1⟩ := gd_some h1
        obtain ⟨-, h2⟩ := gd_some h2
        rw [← t1, ← t2, ← t3] at h2
        have z0 : z3 + 0 = z3 := by simp
        have k0 : 0 ≤ (z4 + 1).toInt := by rw [e4]; omega
        generalize u.2.1 63 z4.toNatClampNeg = lo at h1 h2 t4
        generalize u.2.1 64 z4.toNatClampNeg = hi at h1 h2 t4
        generalize u.2.1 65 z4.toNatClampNeg = da at h1 h2
        by_cases dl : lo ≤ 0
        · rw [if_pos dl] at h1
          have nl : ¬ 0 < lo := fun z => by
            have a1 : (0 : Int) < lo.toInt := ltI z
            have a2 : lo.toInt ≤ (0 : Int) := leI dl
            omega
          obtain ⟨-, h1⟩ := gd_some h1
          by_cases dq : q < da
          · rw [if_pos dq] at h1 h2
            obtain ⟨v10, e10, h2⟩ := lt_some h2
            rw [e10, z0] at h2
            exact ih m z3 (z4 + 1) r r' u' v' k0 h1 h2
          · rw [if_neg dq] at h1 h2
            obtain ⟨-, h1⟩ := gd_some h1
            rcases hw with ⟨w0, y1⟩ | ⟨w1, y0⟩
            · rw [if_pos w0] at h2
              obtain ⟨-, h2⟩ := gd_some h2
              rw [if_pos dl] at h2
              obtain ⟨v10, e10, h2⟩ := lt_some h2
              rw [e10, z0] at h2
              have ny : ¬ (0 : Int32) = y := by rw [y1]; decide
              by_cases dh : hi ≤ 0
              · rw [if_pos dh] at h1
                exact ih m z3 (z4 + 1) r r' u' v' k0 h1 h2
              · rw [if_neg dh, if_neg ny] at h1
                exact ih m z3 (z4 + 1) r r' u' v' k0 h1 h2
            · rw [if_neg w1] at h2
              obtain ⟨-, h2⟩ := gd_some h2
              rw [if_neg nl] at h2
              obtain ⟨-, h2⟩ := gd_some h2
              by_cases dh : hi ≤ 0
              · rw [if_pos dh] at h1 h2
                obtain ⟨v10, e10, h2⟩ := lt_some h2
                rw [e10, z0] at h2
                exact ih m z3 (z4 + 1) r r' u' v' k0 h1 h2
              · rw [if_neg dh, if_pos y0.symm] at h1
                rw [if_neg dh] at h2
                obtain ⟨v10, e10, h2⟩ := lt_some h2
                rw [e10] at h2
                exact ih m (z3 + 1) (z4 + 1) r r' u' v' k0 h1 h2
        · rw [if_neg dl] at h1
          have pl : 0 < lo := by
            have a2 : ¬ lo.toInt ≤ (0 : Int) := nleI dl
            exact Int32.lt_iff_toInt_lt.mpr (show (0 : Int) < lo.toInt by omega)
          have nh : ¬ hi ≤ 0 := fun z => by
            have a1 : hi.toInt ≤ (0 : Int) := leI z
            have a2 : ¬ lo.toInt ≤ (0 : Int) := nleI dl
            omega
          obtain ⟨-, h1⟩ := gd_some h1
          by_cases dq : q < da
          · rw [if_pos dq] at h1 h2
            obtain ⟨v10, e10, h2⟩ := lt_some h2
            rw [e10, z0] at h2
            exact ih m z3 (z4 + 1) r r' u' v' k0 h1 h2
          · rw [if_neg dq] at h1 h2
            obtain ⟨-, h1⟩ := gd_some h1
            rw [if_neg nh] at h1
            rcases hw with ⟨w0, y1⟩ | ⟨w1, y0⟩
            · rw [if_pos w0] at h2
              obtain ⟨-, h2⟩ := gd_some h2
              rw [if_neg dl] at h2
              rw [if_pos y1.symm] at h1
              obtain ⟨v10, e10, h2⟩ := lt_some h2
              rw [e10] at h2
              exact ih m (z3 + 1) (z4 + 1) r r' u' v' k0 h1 h2
            · rw [if_neg w1] at h2
              obtain ⟨-, h2⟩ := gd_some h2
              rw [if_pos pl] at h2
              have ny : ¬ (1 : Int32) = y := by rw [y0]; decide
              rw [if_neg ny] at h1
              obtain ⟨v10, e10, h2⟩ := lt_some h2
              rw [e10, z0] at h2
              exact ih m z3 (z4 + 1) r r' u' v' k0 h1 h2
theorem had_eq {x1 x2 : Int32} {u u' v v' : SX} {r r' : Int32} (hI : IX u) (hJ : IM v) (ht : Tie u v) (hR : TieR u v) (h1 : fX11_had_0 x1 x2 u = some (r, u')) (h2 : fX12_had_0 x1 x2 v = some (r', v')) : r = r' := by
  obtain ⟨t0, t1, t2, t3, t4, t5⟩ := ht
  unfold fX11_had_0 at h1
  unfold fX12_had_0 at h2
  obtain ⟨v1, e1, h2⟩ := lt_some h2
  have f0 : v1.1 1 = u.1 0 := by rw [e1, t0]; rfl
  have f2 : u.1 36 = v1.1 23 := by rw [e1]; exact t2
  have R0 : TieR u v1 := by rw [e1]; exact hR
  clear e1 t0 t1 t2 t3 t4 t5
  obtain ⟨⟨r1, u2⟩, a1, h1⟩ := bd_some h1
  unfold fX11_isDay_0 at a1
  obtain ⟨r0, a0, a1⟩ := bd_some a1
  obtain ⟨-, a1⟩ := gd_some a1
  have er : r0 = r1 ∧ u = u2 := by cases a1; exact ⟨rfl, rfl⟩
  clear a1
  rw [← er.1, ← er.2] at h1
  rw [f0] at h2
  obtain ⟨r3, a3, h2⟩ := bd_some h2
  have e : r0 = r3 := Option.some.inj (a0.symm.trans (show fX11_within x1 0 (u.1 0) = some r3 from a3))
  rw [← e] at h2
  have h1 : (if r0 = 0 then _ else _) = some (r, u') := h1
  by_cases c0 : r0 = 0
  · rw [if_pos c0] at h1 h2
    cases h1
    cases h2
    rfl
  · rw [if_neg c0] at h1 h2
    obtain ⟨r4, a4, h1⟩ := bd_some h1
    obtain ⟨r6, a6, h2⟩ := bd_some h2
    unfold fX11_isEither at a4
    unfold fX12_isIn at a6
    by_cases d0 : x2 = 0
    · rw [if_pos d0] at a4
      obtain ⟨-, a4⟩ := gd_some a4
      rw [if_neg (by rw [d0]; decide), if_neg (by rw [d0]; decide)] at a6
      obtain ⟨-, a6⟩ := gd_some a6
      cases a4
      cases a6
      rw [if_neg (by decide)] at h1 h2
      rw [if_pos d0] at h1
      unfold GX11_had_0_29 fX2_having_11 at h1
      obtain ⟨⟨r7, u8⟩, a7, h1⟩ := bd_some h1
      cases h1
      exact had_loop hI f2 R0 (Or.inl ⟨d0, rfl⟩) 5000 5000 0 0 _ _ _ _ (by decide) a7 h2
    · rw [if_neg d0] at a4
      by_cases d1 : x2 = 1
      · rw [if_pos d1] at a4
        obtain ⟨-, a4⟩ := gd_some a4
        rw [if_neg (by rw [d1]; decide), if_neg (by rw [d1]; decide)] at a6
        obtain ⟨-, a6⟩ := gd_some a6
        cases a4
        cases a6
        rw [if_neg (by decide)] at h1 h2
        rw [if_neg d0] at h1
        unfold GX11_had_0_29 fX2_having_11 at h1
        obtain ⟨⟨r7, u8⟩, a7, h1⟩ := bd_some h1
        cases h1
        exact had_loop hI f2 R0 (Or.inr ⟨d0, rfl⟩) 5000 5000 0 0 _ _ _ _ (by decide) a7 h2
      · rw [if_neg d1] at a4
        obtain ⟨-, a4⟩ := gd_some a4
        cases a4
        rw [if_pos rfl] at h1
        cases h1
        have e6 : r6 = 0 := by
          by_cases e0 : x2 < 0
          · rw [if_pos e0] at a6
            obtain ⟨-, a6⟩ := gd_some a6
            cases a6
            rfl
          · rw [if_neg e0] at a6
            have z1 : ¬ x2.toInt < (0 : Int) := nltI e0
            have z2 : ¬ x2.toInt = (0 : Int) := neI d0
            have z3 : ¬ x2.toInt = (1 : Int) := neI d1
            rw [if_pos (by exact Int32.lt_iff_toInt_lt.mpr (show (1 : Int) < x2.toInt by omega))] at a6
            obtain ⟨-, a6⟩ := gd_some a6
            cases a6
            rfl
        rw [if_pos e6] at h2
        cases h2
        rfl
