/-! Both parsers: clauses, and where a text fails. -/
theorem g131 {z2 z3 r : Int32} {v v' : SX} (h : GX12_clause_0_131 z2 z3 v = some (r, v')) : (∀ (u : SX) (d : Int32), PR u v d → PR u v' d) ∧ v'.1 7 = v.1 7 := by
  unfold GX12_clause_0_131 at h
  have keep : some ((0 : Int32), v) = some (r, v') → (∀ (u : SX) (d : Int32), PR u v d → PR u v' d) ∧ v'.1 7 = v.1 7 := fun h => by
    have e : v = v' := by cases h; rfl
    rw [← e]
    exact ⟨fun u d z => z, rfl⟩
  by_cases c7 : v.1 7 = -1
  · rw [if_pos c7] at h
    by_cases c11 : v.1 11 = 0
    · rw [if_pos c11] at h
      by_cases cz : z2 = 0
      · rw [if_pos cz] at h
        exact keep h
      · rw [if_neg cz] at h
        obtain ⟨-, h⟩ := gd_some h
        obtain ⟨w1, i1, h⟩ := lt_some h
        obtain ⟨w2, i2, h⟩ := lt_some h
        have e : w2 = v' := by cases h; rfl
        rw [← e, i2, i1]
        exact ⟨fun u d z => z, rfl⟩
    · rw [if_neg c11] at h
      exact keep h
  · rw [if_neg c7] at h
    exact keep h
theorem POST_131 {z2 z3 r k d : Int32} {u v v' : SX} (h : GX12_clause_0_131 z2 z3 v = some (r, v')) (hp : POST k u v d) : POST k u v' d := by
  obtain ⟨g1, g2⟩ := g131 h
  rcases hp with ⟨n, hP⟩ | ⟨n, f7, fn⟩
  · exact Or.inl ⟨n, g1 _ _ hP⟩
  · exact Or.inr ⟨n, by rw [g2]; exact f7, fn⟩
theorem d0 : Dp 0 := ⟨by decide, by decide⟩
/-- a condition, a ?, a sum -/
theorem tail_eq {b y r r' : Int32} {u v v36 u' v' : SX} {r35 : Int32} (hb : b = 0 ∨ b = 1) (hP : PR u v 0) (h1 : GX5_clause_2_76 b u = some (r, u')) (h35 : rX12conditiong 64 0 b y v = some (r35, v36)) (h2 : ((fX12_takes_0 63 v36).bind fun q => match q with | (r38, u39) => (if r38 = 0 then (some (0, u39)) else ((rX12sumg 64 0 0 u39).bind fun q => match q with | (r41, u42) => (GX12_clause_0_131 r35 r41 u42)))) = some (r', v')) : POST r u' v' 0 ∧ (u.1 4).toInt ≤ (u'.1 4).toInt := by
  unfold GX5_clause_2_76 at h1
  obtain ⟨⟨r11, u12⟩, a11, h1⟩ := bd_some h1
  obtain ⟨hpo, hmo⟩ := (conds_eq 64).2 64 0 b y u v u12 v36 r11 r35 d0 hb hP a11 h35
  have h1 : (if r11 = 0 then _ else _) = some (r, u') := h1
  obtain ⟨⟨r38, v39⟩, b38, h2⟩ := bd_some h2
  have h2 : (if r38 = 0 then (some (0, v39)) else _) = some (r', v') := h2
  rcases hpo with ⟨n, hP2⟩ | ⟨n, f7, fn⟩
  · rw [if_neg n] at h1
    obtain ⟨⟨r15, u16⟩, a15, h1⟩ := bd_some h1
    obtain ⟨er, hpo2, hmo2⟩ := takes_eq (by decide) (by decide) hP2 a15 b38
    have h1 : (if r15 = 0 then _ else _) = some (r, u') := h1
    rw [← er] at h2
    rcases hpo2 with ⟨n2, hP3⟩ | ⟨n2, f7, fn⟩
    · rw [if_neg n2] at h1 h2
      obtain ⟨⟨r18, u19⟩, a18, h1⟩ := bd_some h1
      obtain ⟨hP4, e4⟩ := emit_PR hP3 a18
      obtain ⟨⟨r21, u22⟩, a21, h1⟩ := bd_some h1
      obtain ⟨⟨r41, v42⟩, b41, h2⟩ := bd_some h2
      have h2 : GX12_clause_0_131 r35 r41 v42 = some (r', v') := h2
      obtain ⟨hpo3, hmo3⟩ := (sums_eq 64).1 64 0 u19 v39 u22 v42 r21 r41 d0 hP4 a21 b41
      rw [e4] at hmo3
      have h1 : (if r21 = 0 then _ else _) = some (r, u') := h1
      have hpo4 := POST_131 h2 hpo3
      rcases hpo4 with ⟨n3, hP5⟩ | ⟨n3, f7, fn⟩
      · rw [if_neg n3] at h1
        obtain ⟨⟨r24, u25⟩, a24, h1⟩ := bd_some h1
        obtain ⟨-, h1⟩ := gd_some h1
        have e1 : (1 : Int32) = r ∧ u25 = u' := by cases h1; exact ⟨rfl, rfl⟩
        obtain ⟨hP6, e6⟩ := emit_PR hP5 a24
        rw [← e1.1, ← e1.2]
        exact ⟨Or.inl ⟨by decide, hP6⟩, by rw [e6]; omega⟩
      · rw [if_pos n3] at h1
        obtain ⟨-, h1⟩ := gd_some h1
        have e1 : (0 : Int32) = r ∧ u22 = u' := by cases h1; exact ⟨rfl, rfl⟩
        rw [← e1.1, ← e1.2]
        exact ⟨Or.inr ⟨rfl, f7, fn⟩, by omega⟩
    · rw [if_pos n2] at h1 h2
      obtain ⟨-, h1⟩ := gd_some h1
      have e1 : (0 : Int32) = r ∧ u16 = u' := by cases h1; exact ⟨rfl, rfl⟩
      have e2 : v39 = v' := by cases h2; rfl
      rw [← e1.1, ← e1.2, ← e2]
      exact ⟨Or.inr ⟨rfl, f7, fn⟩, by omega⟩
  · rw [if_pos n] at h1
    obtain ⟨-, h1⟩ := gd_some h1
    obtain ⟨g1, g2⟩ := takes_still (POST_n7 f7 fn) b38
    rw [if_pos g1] at h2
    have e1 : (0 : Int32) = r ∧ u12 = u' := by cases h1; exact ⟨rfl, rfl⟩
    have e2 : v39 = v' := by cases h2; rfl
    rw [← e1.1, ← e1.2, ← e2, g2]
    exact ⟨Or.inr ⟨rfl, f7, fn⟩, hmo⟩
set_option maxHeartbeats 1000000 in
theorem clause_eq {r r' : Int32} {u v u' v' : SX} (hP : PR u v 0) (h1 : fX5_clause_2 u = some (r, u')) (h2 : fX12_clause_0 v = some (r', v')) : POST r u' v' 0 ∧ (u.1 4).toInt ≤ (u'.1 4).toInt := by
  unfold fX5_clause_2 at h1
  unfold fX12_clause_0 at h2
  obtain ⟨⟨r1, u2⟩, a1, h1⟩ := bd_some h1
  obtain ⟨⟨c', v2⟩, b1, h2⟩ := bd_some h2
  have h1 : (if r1 = 0 then _ else _) = some (r, u') := h1
  have h2 : (if c' = 121 then _ else _) = some (r', v') := h2
  unfold fX5_takes_2 at a1
  obtain ⟨⟨c, u0⟩, a0, a1⟩ := bd_some a1
  obtain ⟨hP0, hle0, hq0⟩ := peek_eq hP a0 b1
  have a1 : (if c = 121 then _ else _) = some (r1, u2) := a1
  have k121 := pkq_eq hq0 (k := 121) (by decide) (by decide)
  by_cases cy : c = 121
  · rw [if_pos cy] at a1
    rw [if_pos (k121.mp cy)] at h2
    obtain ⟨w4, j4, a1⟩ := lt_some a1
    obtain ⟨-, a1⟩ := gd_some a1
    have e1 : (1 : Int32) = r1 ∧ w4 = u2 := by cases a1; exact ⟨rfl, rfl⟩
    rw [if_neg (by rw [← e1.1]; decide)] at h1
    have hlt : (u0.1 4).toInt < (u0.1 1).toInt := by
      rcases hq0 with ⟨q1, -⟩ | ⟨-, -, -, q4, -⟩
      · rw [q1] at cy
        exact absurd cy (by decide)
      · exact q4
    have b2 : (u0.1 1).toInt ≤ 120 := hP0.2.2.2.2.2.2.2.2.2.1
    have b0 : 0 ≤ (u0.1 4).toInt := hP0.2.2.2.2.2.2.2.1
    have p6 : v2.1 6 = u0.1 4 := hP0.2.2.2.2.2.1
    have e5 : (u0.1 4 + 1).toInt = (u0.1 4).toInt + 1 := addc_t (by decide) (by omega) (by omega)
    obtain ⟨v4, i4, h2⟩ := lt_some h2
    rw [p6] at i4
    have hP1 : PR u2 v4 0 := by
      rw [← e1.2, j4, i4]
      exact PR_at hP0 (by rw [e5]; omega) (by rw [e5]; omega)
    have hm1 : (u.1 4).toInt ≤ (u2.1 4).toInt := by
      rw [← e1.2, j4]
      show _ ≤ (u0.1 4 + 1).toInt
      rw [e5]
      omega
    obtain ⟨⟨r5, u6⟩, a5, h1⟩ := bd_some h1
    obtain ⟨⟨r6, v7⟩, b6, h2⟩ := bd_some h2
    obtain ⟨er, hpo, hmo⟩ := takes_eq (by decide) (by decide) hP1 a5 b6
    have h1 : (if r5 = 0 then _ else _) = some (r, u') := h1
    have h2 : (if r6 = 0 then (some (0, v7)) else _) = some (r', v') := h2
    rw [← er] at h2
    rcases hpo with ⟨n5, hP2⟩ | ⟨n5, f7, fn⟩
    · rw [if_neg n5] at h1 h2
      obtain ⟨⟨c8, u9⟩, a8, h1⟩ := bd_some h1
      obtain ⟨⟨c9, v10⟩, b9, h2⟩ := bd_some h2
      obtain ⟨hP3, hle3, hq3⟩ := peek_eq hP2 a8 b9
      have k33 := pkq_eq hq3 (k := 33) (by decide) (by decide)
      have k40 := pkq_eq hq3 (k := 40) (by decide) (by decide)
      have h1 : (if c8 = 33 then (GX5_clause_2_42 0 u9) else (if c8 = 40 then (GX5_clause_2_42 0 u9) else (GX5_clause_2_42 1 u9))) = some (r, u') := h1
      have h2 : (if c9 = 33 then (GX12_clause_0_61 v10) else (if c9 = 40 then (GX12_clause_0_61 v10) else ((rX12sumg 64 0 0 v10).bind _))) = some (r', v') := h2
      have cond0 : GX5_clause_2_42 0 u9 = some (r, u') → GX12_clause_0_61 v10 = some (r', v') → POST r u' v' 0 ∧ (u.1 4).toInt ≤ (u'.1 4).toInt := fun g1 g2 => by
        unfold GX5_clause_2_42 at g1
        rw [if_pos rfl] at g1
        unfold GX12_clause_0_61 at g2
        obtain ⟨⟨r12, v13⟩, b12, g2⟩ := bd_some g2
        obtain ⟨q1, q2⟩ := tail_eq (Or.inl rfl) hP3 g1 b12 g2
        exact ⟨q1, by omega⟩
      by_cases c33 : c8 = 33
      · rw [if_pos c33] at h1
        rw [if_pos (k33.mp c33)] at h2
        exact cond0 h1 h2
      · rw [if_neg c33] at h1
        rw [if_neg (fun z => c33 (k33.mpr z))] at h2
        by_cases c40 : c8 = 40
        · rw [if_pos c40] at h1
          rw [if_pos (k40.mp c40)] at h2
          exact cond0 h1 h2
        · rw [if_neg c40] at h1
          rw [if_neg (fun z => c40 (k40.mpr z))] at h2
          unfold GX5_clause_2_42 at h1
          rw [if_neg (by decide)] at h1
          obtain ⟨⟨r30, u31⟩, a30, h1⟩ := bd_some h1
          obtain ⟨⟨r26, v27⟩, b26, h2⟩ := bd_some h2
          obtain ⟨hpo3, hmo3⟩ := (sums_eq 64).1 64 0 u9 v10 u31 v27 r30 r26 d0 hP3 a30 b26
          have h1 : (if r30 = 0 then _ else _) = some (r, u') := h1
          have h2 : (if (v27.1 7) = (-1) then ((fX12_look_0 v27).bind _) else (GX12_clause_0_131 1 r26 v27)) = some (r', v') := h2
          rcases hpo3 with ⟨n30, hP4⟩ | ⟨n30, f7, fn⟩
          · rw [if_neg n30] at h1
            rw [if_pos hP4.2.2.2.2.1] at h2
            obtain ⟨⟨c33', u34⟩, a33, h1⟩ := bd_some h1
            obtain ⟨⟨c29, v30⟩, b29, h2⟩ := bd_some h2
            obtain ⟨hP5, hle5, hq5⟩ := peek_eq hP4 a33 b29
            obtain ⟨r36, a36, h1⟩ := bd_some h1
            obtain ⟨r32, b32, h2⟩ := bd_some h2
            obtain ⟨exy, -⟩ := sgn_eq hq5 a36 b32
            rw [← exy] at h2
            by_cases z36 : r36 = 0
            · rw [if_pos z36] at h1 h2
              obtain ⟨⟨r39, u40⟩, a39, h1⟩ := bd_some h1
              obtain ⟨-, h1⟩ := gd_some h1
              have e3 : (1 : Int32) = r ∧ u40 = u' := by cases h1; exact ⟨rfl, rfl⟩
              obtain ⟨hP6, e6⟩ := emit_PR ((g131 h2).1 _ _ hP5) a39
              rw [← e3.1, ← e3.2]
              exact ⟨Or.inl ⟨by decide, hP6⟩, by rw [e6]; omega⟩
            · rw [if_neg z36] at h1 h2
              obtain ⟨⟨r35, v36⟩, b35, h2⟩ := bd_some h2
              obtain ⟨q1, q2⟩ := tail_eq (Or.inr rfl) hP5 h1 b35 h2
              exact ⟨q1, by omega⟩
          · rw [if_pos n30] at h1
            obtain ⟨-, h1⟩ := gd_some h1
            rw [if_neg (POST_n7 f7 fn)] at h2
            have e3 : (0 : Int32) = r ∧ u31 = u' := by cases h1; exact ⟨rfl, rfl⟩
            rw [← e3.1, ← e3.2]
            exact ⟨POST_131 h2 (Or.inr ⟨rfl, f7, fn⟩), by omega⟩
    · rw [if_pos n5] at h1 h2
      obtain ⟨-, h1⟩ := gd_some h1
      have e3 : (0 : Int32) = r ∧ u6 = u' := by cases h1; exact ⟨rfl, rfl⟩
      have e2 : v7 = v' := by cases h2; rfl
      rw [← e3.1, ← e3.2, ← e2]
      exact ⟨Or.inr ⟨rfl, f7, fn⟩, by omega⟩
  · rw [if_neg cy] at a1
    rw [if_neg (fun z => cy (k121.mpr z))] at h2
    obtain ⟨-, a1⟩ := gd_some a1
    have e1 : (0 : Int32) = r1 ∧ u0 = u2 := by cases a1; exact ⟨rfl, rfl⟩
    rw [if_pos e1.1.symm] at h1
    obtain ⟨-, h1⟩ := gd_some h1
    obtain ⟨⟨r44, v45⟩, b44, h2⟩ := bd_some h2
    have hpost := fail_post hP0 b44
    have e3 : (0 : Int32) = r ∧ u2 = u' := by cases h1; exact ⟨rfl, rfl⟩
    have e2 : v45 = v' := by cases h2; rfl
    rw [← e3.1, ← e3.2, ← e1.2, ← e2]
    exact ⟨hpost, hle0⟩
