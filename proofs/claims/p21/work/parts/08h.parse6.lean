/-! Both parsers: units. -/
def UniH (dX : Nat) : Prop := ∀ (dM : Nat) (k : Int32) (u v u' v' : SX) (r r' : Int32), Dp k → PR u v k → rX5conditiong dX 1 k 0 u = some (r, u') → rX12conditiong dM 2 0 0 v = some (r', v') → POST r u' v' k ∧ (u.1 4).toInt ≤ (u'.1 4).toInt
def CndH (dX : Nat) : Prop := ∀ (dM : Nat) (k b y : Int32) (u v u' v' : SX) (r r' : Int32), Dp k → (b = 0 ∨ b = 1) → PR u v k → rX5conditiong dX 0 k b u = some (r, u') → rX12conditiong dM 0 b y v = some (r', v') → POST r u' v' k ∧ (u.1 4).toInt ≤ (u'.1 4).toInt
/-- a sum, then its comparison (X: no sum has been read) -/
theorem sumcmp_eq {dX : Nat} {k r r' : Int32} {u v u' v' : SX} (hk : Dp k) (hP : PR u v k) (h1 : GX5_unit_2_102 (rX5conditiong dX) k 0 u = some (r, u')) (h2 : fX12_compares_0 0 0 v = some (r', v')) : POST r u' v' k ∧ (u.1 4).toInt ≤ (u'.1 4).toInt := by
  unfold GX5_unit_2_102 at h1
  unfold fX12_compares_0 at h2
  rw [if_pos rfl] at h1 h2
  obtain ⟨⟨r20, u21⟩, a20, h1⟩ := bd_some h1
  obtain ⟨⟨s1, v2⟩, b1, h2⟩ := bd_some h2
  obtain ⟨hpo, hmo⟩ := (sums_eq dX).1 64 k u v u21 v2 r20 s1 hk hP a20 b1
  have h1 : (if r20 = 0 then _ else GX5_unit_2_116 (rX5conditiong dX) k u21) = some (r, u') := h1
  have h2 : GX12_compares_0_12 s1 v2 = some (r', v') := h2
  rcases hpo with ⟨n, hP2⟩ | ⟨n, f7, fn⟩
  · rw [if_neg n] at h1
    obtain ⟨q1, q2⟩ := cmp_eq hk hP2 h1 h2
    exact ⟨q1, by omega⟩
  · rw [if_pos n] at h1
    obtain ⟨-, h1⟩ := gd_some h1
    have e1 : (0 : Int32) = r ∧ u21 = u' := by cases h1; exact ⟨rfl, rfl⟩
    unfold GX12_compares_0_12 at h2
    rw [if_neg (POST_n7 f7 fn)] at h2
    obtain ⟨-, h2⟩ := gd_some h2
    have e2 : v2 = v' := by cases h2; rfl
    rw [← e1.1, ← e1.2, ← e2]
    exact ⟨Or.inr ⟨rfl, f7, fn⟩, hmo⟩
/-- M goes in: one deeper, the sign eaten; or it fails there -/
theorem goesIn_eq {k r : Int32} {u v v' : SX} (hk : Dp k) (hP : PR u v k) (hlt : (u.1 4).toInt < (u.1 1).toInt) (h : fX12_goesIn_0 v = some (r, v')) : (6 ≤ k ∧ r = 0 ∧ POST 0 u v' k) ∨ (¬ 6 ≤ k ∧ r = 1 ∧ Dp (k + 1) ∧ PR (sI u 4 (u.1 4 + 1)) v' (k + 1) ∧ (u.1 4 + 1).toInt = (u.1 4).toInt + 1 ∧ (k + 1).toInt = k.toInt + 1) := by
  have p7 : v.1 7 = -1 := hP.2.2.2.2.1
  have p8 : v.1 8 = k := hP.2.2.2.2.2.2.1
  have p6 : v.1 6 = u.1 4 := hP.2.2.2.2.2.1
  have b2 : (u.1 1).toInt ≤ 120 := hP.2.2.2.2.2.2.2.2.2.1
  have b0 : 0 ≤ (u.1 4).toInt := hP.2.2.2.2.2.2.2.1
  have e5 : (u.1 4 + 1).toInt = (u.1 4).toInt + 1 := addc_t (by decide) (by omega) (by omega)
  obtain ⟨k0, k6⟩ := hk
  unfold fX12_goesIn_0 at h
  rw [p8] at h
  by_cases c : k = 6
  · rw [if_pos c] at h
    obtain ⟨⟨r6, v7⟩, a6, h⟩ := bd_some h
    obtain ⟨-, h⟩ := gd_some h
    have hpost := fail_post hP a6
    obtain ⟨f1, -⟩ := fails_at p7 a6
    have e : r6 = r ∧ v7 = v' := by cases h; exact ⟨rfl, rfl⟩
    exact Or.inl ⟨by rw [c]; decide, by rw [← e.1, f1], by rw [← e.2]; exact hpost⟩
  · rw [if_neg c] at h
    have c9 : ¬ k.toInt = (6 : Int) := neI c
    have ek : (k + 1).toInt = k.toInt + 1 := addc_t (by decide) (by omega) (by omega)
    obtain ⟨w1, i1, h⟩ := lt_some h
    obtain ⟨w2, i2, h⟩ := lt_some h
    obtain ⟨-, h⟩ := gd_some h
    have e : (1 : Int32) = r ∧ w2 = v' := by cases h; exact ⟨rfl, rfl⟩
    refine Or.inr ⟨fun z => by have z9 : (6 : Int) ≤ k.toInt := leI z; omega, e.1.symm, ⟨by rw [ek]; omega, by rw [ek]; omega⟩, ?_, e5, ek⟩
    rw [← e.2, i2, i1]
    have q := PR_at (x := u.1 4 + 1) (PR_deep (e := k + 1) hP) (by rw [e5]; omega) (by rw [e5]; omega)
    have p6' : (sI v 8 (k + 1)).1 6 = u.1 4 := p6
    rw [p6']
    exact q
theorem back_k {k x : Int32} (hk : Dp k) (h6 : ¬ 6 ≤ k) (e : x = k + 1) : x - 1 = k := by
  obtain ⟨k0, k6⟩ := hk
  have c9 : ¬ (6 : Int) ≤ k.toInt := nleI h6
  have ek : (k + 1).toInt = k.toInt + 1 := addc_t (by decide) (by omega) (by omega)
  rw [e]
  exact Int32.toInt.inj (by rw [subc_t (n := 1) (by decide) (by rw [ek]; omega) (by rw [ek]; omega), ek]; omega)
set_option maxHeartbeats 1000000 in
theorem unit_eq {dX : Nat} (hU : UniH dX) (hC : CndH dX) : UniH (dX + 1) := by
  intro dM k u v u' v' r r' hk hP h1 h2
  cases dM with
  | zero => cases h2
  | succ dM =>
    rw [rX_1] at h1
    rw [rC_2] at h2
    unfold fX5_unit_2 at h1
    unfold fX12_unit_0 at h2
    obtain ⟨⟨c, u2⟩, a1, h1⟩ := bd_some h1
    obtain ⟨⟨c', v2⟩, b1, h2⟩ := bd_some h2
    obtain ⟨hP2, hle, hq⟩ := peek_eq hP a1 b1
    have k33 := pkq_eq hq (k := 33) (by decide) (by decide)
    have k40 := pkq_eq hq (k := 40) (by decide) (by decide)
    have h1 : (if (0 : Int32) = 0 then (if 6 ≤ k then GX5_unit_2_50 (rX5conditiong dX) k 0 c u2 else (if c = 33 then (lt (sI u2 4 ((u2.1 4) + 1)) fun u35 => ((rX5conditiong dX 1 (k + 1) 0 u35).bind _)) else (GX5_unit_2_50 (rX5conditiong dX) k 0 c u2))) else (GX5_unit_2_50 (rX5conditiong dX) k 0 c u2)) = some (r, u') := h1
    rw [if_pos rfl] at h1
    have h2 : (if c' = 33 then _ else _) = some (r', v') := h2
    have hlt : ¬ c = 0 → (u2.1 4).toInt < (u2.1 1).toInt := fun z => by
      rcases hq with ⟨q1, -⟩ | ⟨-, -, -, q4, -⟩
      · exact absurd q1 z
      · exact q4
    have h50 : ∀ {z3 : Int32}, 6 ≤ k → GX5_unit_2_50 (rX5conditiong dX) k 0 z3 u2 = GX5_unit_2_102 (rX5conditiong dX) k 0 u2 := fun {z3} z => by
      unfold GX5_unit_2_50
      rw [if_pos rfl, if_pos z]
    have hdeep : (c = 33 ∨ c = 40) → 6 ≤ k → GX5_unit_2_50 (rX5conditiong dX) k 0 c u2 = some (r, u') → r = 0 ∧ u' = u2 := fun hc z h => by
      rw [h50 z] at h
      unfold GX5_unit_2_102 at h
      rw [if_pos rfl] at h
      obtain ⟨⟨r20, u21⟩, a20, h⟩ := bd_some h
      obtain ⟨x1, x2⟩ := bad_tot hP2 hq hc a20
      have h : (if r20 = 0 then _ else _) = some (r, u') := h
      rw [if_pos x1] at h
      obtain ⟨-, h⟩ := gd_some h
      have e1 : (0 : Int32) = r ∧ u21 = u' := by cases h; exact ⟨rfl, rfl⟩
      exact ⟨e1.1.symm, by rw [← e1.2, x2]⟩
    by_cases c33 : c = 33
    · rw [if_pos (k33.mp c33)] at h2
      obtain ⟨⟨r22, v23⟩, b22, h2⟩ := bd_some h2
      have h2 : (if r22 = 0 then _ else _) = some (r', v') := h2
      rcases goesIn_eq hk hP2 (hlt (by rw [c33]; decide)) b22 with ⟨z6, zr, hpost⟩ | ⟨z6, zr, hk1, hPd, e5, ek⟩
      · rw [if_pos z6] at h1
        obtain ⟨x1, x2⟩ := hdeep (Or.inl c33) z6 h1
        rw [if_pos zr] at h2
        obtain ⟨-, h2⟩ := gd_some h2
        have e2 : v23 = v' := by cases h2; rfl
        rw [x1, x2, ← e2]
        exact ⟨hpost, hle⟩
      · rw [if_neg z6, if_pos c33] at h1
        rw [if_neg (by rw [zr]; decide)] at h2
        obtain ⟨u35, j35, h1⟩ := lt_some h1
        obtain ⟨⟨r37, u38⟩, a37, h1⟩ := bd_some h1
        obtain ⟨⟨r25, v26⟩, b25, h2⟩ := bd_some h2
        rw [j35] at a37
        obtain ⟨hpo, hmo⟩ := hU dM (k + 1) _ _ u38 v26 r37 r25 hk1 hPd a37 b25
        have hmo : (u2.1 4 + 1).toInt ≤ (u38.1 4).toInt := hmo
        rw [e5] at hmo
        obtain ⟨⟨r40, u41⟩, a40, h1⟩ := bd_some h1
        obtain ⟨-, h1⟩ := gd_some h1
        obtain ⟨v28, i28, h2⟩ := lt_some h2
        have e1 : r37 = r ∧ u41 = u' := by cases h1; exact ⟨rfl, rfl⟩
        have e2 : v28 = v' := by
          by_cases z : r25 = 0
          · rw [if_pos z] at h2
            obtain ⟨-, h2⟩ := gd_some h2
            cases h2
            rfl
          · rw [if_neg z] at h2
            obtain ⟨-, h2⟩ := gd_some h2
            cases h2
            rfl
        have e4 := emit_at a40
        rw [← e1.1, ← e1.2, ← e2, i28]
        refine ⟨?_, by rw [e4]; omega⟩
        rcases hpo with ⟨n, hP3⟩ | ⟨n, f7, fn⟩
        · have e8 : v26.1 8 = k + 1 := hP3.2.2.2.2.2.2.1
          rw [back_k hk z6 e8]
          exact Or.inl ⟨n, (emit_PR (PR_deep (e := k) hP3) a40).1⟩
        · exact Or.inr ⟨n, by rw [e4]; exact f7, by rw [e4]; exact fn⟩
    · rw [if_neg (fun z => c33 (k33.mpr z))] at h2
      have h1 : GX5_unit_2_50 (rX5conditiong dX) k 0 c u2 = some (r, u') := by
        by_cases z : 6 ≤ k
        · rw [if_pos z] at h1; exact h1
        · rw [if_neg z, if_neg c33] at h1; exact h1
      have h2 : (if c' = 40 then _ else _) = some (r', v') := h2
      by_cases c40 : c = 40
      · rw [if_pos (k40.mp c40)] at h2
        obtain ⟨⟨r8, v9⟩, b8, h2⟩ := bd_some h2
        have h2 : (if r8 = 0 then _ else _) = some (r', v') := h2
        rcases goesIn_eq hk hP2 (hlt (by rw [c40]; decide)) b8 with ⟨z6, zr, hpost⟩ | ⟨z6, zr, hk1, hPd, e5, ek⟩
        · obtain ⟨x1, x2⟩ := hdeep (Or.inr c40) z6 h1
          rw [if_pos zr] at h2
          obtain ⟨-, h2⟩ := gd_some h2
          have e2 : v9 = v' := by cases h2; rfl
          rw [x1, x2, ← e2]
          exact ⟨hpost, hle⟩
        · unfold GX5_unit_2_50 at h1
          rw [if_pos rfl, if_neg z6, if_pos c40] at h1
          rw [if_neg (by rw [zr]; decide)] at h2
          obtain ⟨u24, j24, h1⟩ := lt_some h1
          obtain ⟨⟨r26, u27⟩, a26, h1⟩ := bd_some h1
          obtain ⟨⟨r11, v12⟩, b11, h2⟩ := bd_some h2
          rw [j24] at a26
          obtain ⟨hpo, hmo⟩ := hC dM (k + 1) 0 0 _ _ u27 v12 r26 r11 hk1 (Or.inl rfl) hPd a26 b11
          have hmo : (u2.1 4 + 1).toInt ≤ (u27.1 4).toInt := hmo
          rw [e5] at hmo
          have h1 : (if r26 = 0 then _ else _) = some (r, u') := h1
          obtain ⟨⟨r14, v15⟩, b14, h2⟩ := bd_some h2
          have h2 : (if r14 = 0 then _ else _) = some (r', v') := h2
          rcases hpo with ⟨n, hP3⟩ | ⟨n, f7, fn⟩
          · rw [if_neg n] at h1
            obtain ⟨⟨r30, u31⟩, a30, h1⟩ := bd_some h1
            obtain ⟨er, hpo2, hmo2⟩ := takes_eq (by decide) (by decide) hP3 a30 b14
            have h1 : (if r30 = 0 then _ else _) = some (r, u') := h1
            rw [← er] at h2
            rcases hpo2 with ⟨n30, hP4⟩ | ⟨z30, g7, gn⟩
            · rw [if_neg n30] at h1 h2
              obtain ⟨-, h1⟩ := gd_some h1
              obtain ⟨v17, i17, h2⟩ := lt_some h2
              obtain ⟨-, h2⟩ := gd_some h2
              have e1 : (1 : Int32) = r ∧ u31 = u' := by cases h1; exact ⟨rfl, rfl⟩
              have e2 : v17 = v' := by cases h2; rfl
              have e8 : v15.1 8 = k + 1 := hP4.2.2.2.2.2.2.1
              rw [← e1.1, ← e1.2, ← e2, i17, back_k hk z6 e8]
              exact ⟨Or.inl ⟨by decide, PR_deep hP4⟩, by omega⟩
            · rw [if_pos z30] at h1 h2
              obtain ⟨-, h1⟩ := gd_some h1
              obtain ⟨-, h2⟩ := gd_some h2
              have e1 : (0 : Int32) = r ∧ u31 = u' := by cases h1; exact ⟨rfl, rfl⟩
              have e2 : v15 = v' := by cases h2; rfl
              rw [← e1.1, ← e1.2, ← e2]
              exact ⟨Or.inr ⟨rfl, g7, gn⟩, by omega⟩
          · rw [if_pos n] at h1
            obtain ⟨-, h1⟩ := gd_some h1
            obtain ⟨g1, g2⟩ := takes_still (POST_n7 f7 fn) b14
            rw [if_pos g1] at h2
            obtain ⟨-, h2⟩ := gd_some h2
            have e1 : (0 : Int32) = r ∧ u27 = u' := by cases h1; exact ⟨rfl, rfl⟩
            have e2 : v15 = v' := by cases h2; rfl
            rw [← e1.1, ← e1.2, ← e2, g2]
            exact ⟨Or.inr ⟨rfl, f7, fn⟩, by omega⟩
      · rw [if_neg (fun z => c40 (k40.mpr z))] at h2
        have h1 : GX5_unit_2_102 (rX5conditiong dX) k 0 u2 = some (r, u') := by
          unfold GX5_unit_2_50 at h1
          rw [if_pos rfl] at h1
          by_cases z : 6 ≤ k
          · rw [if_pos z] at h1; exact h1
          · rw [if_neg z, if_neg c40] at h1; exact h1
        obtain ⟨⟨r4, v5⟩, b4, h2⟩ := bd_some h2
        obtain ⟨-, h2⟩ := gd_some h2
        have e2 : v5 = v' := by cases h2; rfl
        obtain ⟨q1, q2⟩ := sumcmp_eq hk hP2 h1 b4
        rw [← e2]
        exact ⟨q1, by omega⟩
