/-! Both parsers: where a text fails. -/
set_option maxHeartbeats 1000000 in
theorem fb0_loop : ∀ (n : Nat) (z2 : Int32) (u v v1 u' v' : SX) (r r' rc : Int32) (m : Nat), PR u v 0 → 0 ≤ z2.toInt → z2.toInt ≤ (u.1 4).toInt → LX5_faultBy_2_as0_17 GX5_faultBy_2_as0_49 GX5_faultBy_2_as0_58 n z2 u = some (r, u') → fX12_clause_0 v = some (rc, v1) → LX12_goThrough_0_a1_73 GX12_goThrough_0_a1_107 m v1 = some (r', v') → r = v'.1 7 := by
  intro n
  induction n with
  | zero => intro z2 u v v1 u' v' r r' rc m _ _ _ h; cases h
  | succ n ih =>
    intro z2 u v v1 u' v' r r' rc m hP hz0 hz1 h1 ha hb
    have al : (u.1 4).toInt ≤ (u.1 1).toInt := hP.2.2.2.2.2.2.2.2.1
    have h1 : (if (u.1 1) < z2 then _ else ((fX5_clause_2 u).bind _)) = some (r, u') := h1
    rw [if_neg (fun q => by have := ltI q; omega)] at h1
    obtain ⟨⟨r7, u8⟩, a7, h1⟩ := bd_some h1
    obtain ⟨hpo, hmo⟩ := clause_eq hP a7 ha
    have h1 : (if r7 = 0 then (some (u8.1 4, u8)) else _) = some (r, u') := h1
    cases m with
    | zero => cases hb
    | succ m =>
      have hb : (if (v1.1 7) = (-1) then ((fX12_look_0 v1).bind _) else (GX12_goThrough_0_a1_107 v1)) = some (r', v') := hb
      rcases hpo with ⟨n7, hP1⟩ | ⟨n7, f7, fn⟩
      · rw [if_neg n7] at h1
        rw [if_pos hP1.2.2.2.2.1] at hb
        obtain ⟨⟨r10, u11⟩, a10, h1⟩ := bd_some h1
        obtain ⟨⟨c', v24⟩, b23, hb⟩ := bd_some hb
        unfold fX5_takes_2 at a10
        obtain ⟨⟨c, u0⟩, a0, a10⟩ := bd_some a10
        obtain ⟨hP2, hle, hq⟩ := peek_eq hP1 a0 b23
        have a10 : (if c = 59 then _ else _) = some (r10, u11) := a10
        have h1 : (if r10 = 0 then (GX5_faultBy_2_as0_49 u11) else ((LX5_faultBy_2_as0_17 GX5_faultBy_2_as0_49 GX5_faultBy_2_as0_58 n) (z2 + 1) u11)) = some (r, u') := h1
        have hb : (if c' = 59 then _ else (GX12_goThrough_0_a1_107 v24)) = some (r', v') := hb
        have k59 := pkq_eq hq (k := 59) (by decide) (by decide)
        have b2 : (u0.1 1).toInt ≤ 120 := hP2.2.2.2.2.2.2.2.2.2.1
        have b0 : 0 ≤ (u0.1 4).toInt := hP2.2.2.2.2.2.2.2.1
        have p6 : v24.1 6 = u0.1 4 := hP2.2.2.2.2.2.1
        by_cases c59 : c = 59
        · rw [if_pos c59] at a10
          rw [if_pos (k59.mp c59)] at hb
          obtain ⟨w4, j4, a10⟩ := lt_some a10
          obtain ⟨-, a10⟩ := gd_some a10
          have e1 : (1 : Int32) = r10 ∧ w4 = u11 := by cases a10; exact ⟨rfl, rfl⟩
          rw [if_neg (by rw [← e1.1]; decide)] at h1
          have hlt : (u0.1 4).toInt < (u0.1 1).toInt := by
            rcases hq with ⟨q1, -⟩ | ⟨-, -, -, q4, -⟩
            · rw [q1] at c59
              exact absurd c59 (by decide)
            · exact q4
          have e5 : (u0.1 4 + 1).toInt = (u0.1 4).toInt + 1 := addc_t (by decide) (by omega) (by omega)
          have ez : (z2 + 1).toInt = z2.toInt + 1 := addc_t (by decide) (by omega) (by omega)
          obtain ⟨v26, i26, hb⟩ := lt_some hb
          rw [p6] at i26
          obtain ⟨⟨r28, v29⟩, b28, hb⟩ := bd_some hb
          rw [i26] at b28
          rw [← e1.2, j4] at h1
          exact ih (z2 + 1) _ _ v29 u' v' r r' r28 m (PR_at hP2 (by rw [e5]; omega) (by rw [e5]; omega)) (by rw [ez]; omega) (by show _ ≤ (u0.1 4 + 1).toInt; rw [e5, ez]; omega) h1 b28 hb
        · rw [if_neg c59] at a10
          rw [if_neg (fun z => c59 (k59.mpr z))] at hb
          obtain ⟨-, a10⟩ := gd_some a10
          have e1 : (0 : Int32) = r10 ∧ u0 = u11 := by cases a10; exact ⟨rfl, rfl⟩
          rw [if_pos e1.1.symm, ← e1.2] at h1
          unfold GX5_faultBy_2_as0_49 GX5_faultBy_2_as0_58 at h1
          unfold GX12_goThrough_0_a1_107 at hb
          rw [if_pos hP2.2.2.2.2.1] at hb
          obtain ⟨⟨c2, u14⟩, a13, h1⟩ := bd_some h1
          obtain ⟨x1, x2⟩ := peek2 hP2 hq a13
          rw [x1, x2] at h1
          obtain ⟨⟨c3, v32⟩, b31, hb⟩ := bd_some hb
          obtain ⟨x3, x4⟩ := look2 hP2 hq b31
          rw [x3, x4] at hb
          have h1 : (if c = 0 then (some ((-1), u0)) else (some (u0.1 4, u0))) = some (r, u') := h1
          have hb : (if c' = (-1) then (some (0, v24)) else _) = some (r', v') := hb
          rcases hq with ⟨q1, q2, -⟩ | ⟨q1, q2, q3, q4, -⟩
          · rw [if_pos q1] at h1
            rw [if_pos q2] at hb
            have e3 : (-1 : Int32) = r := by cases h1; rfl
            have e2 : v24 = v' := by cases hb; rfl
            rw [← e3, ← e2]
            exact hP2.2.2.2.2.1.symm
          · rw [if_neg (fun z => by have z9 : c.toInt = (0 : Int) := eqI z; omega)] at h1
            rw [if_neg (fun z => by rw [← q1] at z; have z9 : c.toInt = (-1 : Int) := eqI z; omega)] at hb
            obtain ⟨⟨r34, v35⟩, b34, hb⟩ := bd_some hb
            obtain ⟨-, g2⟩ := fails_at hP2.2.2.2.2.1 b34
            have e3 : u0.1 4 = r := by cases h1; rfl
            have e2 : v35 = v' := by cases hb; rfl
            rw [← e3, ← e2, g2]
            exact p6.symm
      · rw [if_pos n7] at h1
        rw [if_neg (POST_n7 f7 fn)] at hb
        unfold GX12_goThrough_0_a1_107 at hb
        rw [if_neg (POST_n7 f7 fn)] at hb
        have e3 : u8.1 4 = r := by cases h1; rfl
        have e2 : v1 = v' := by cases hb; rfl
        rw [← e3, ← e2]
        exact f7.symm
set_option maxHeartbeats 1000000 in
theorem fb1_loop : ∀ (n : Nat) (z2 : Int32) (u v v1 u' v' : SX) (r r' rc : Int32) (m : Nat), PR u v 0 → 0 ≤ z2.toInt → z2.toInt ≤ (u.1 4).toInt → LX5_faultBy_2_as1_17 GX5_faultBy_2_as1_49 GX5_faultBy_2_as1_58 n z2 u = some (r, u') → fX12_clause_0 v = some (rc, v1) → LX12_goThrough_0_a1_73 GX12_goThrough_0_a1_107 m v1 = some (r', v') → r = v'.1 7 := by
  intro n
  induction n with
  | zero => intro z2 u v v1 u' v' r r' rc m _ _ _ h; cases h
  | succ n ih =>
    intro z2 u v v1 u' v' r r' rc m hP hz0 hz1 h1 ha hb
    have al : (u.1 4).toInt ≤ (u.1 1).toInt := hP.2.2.2.2.2.2.2.2.1
    have h1 : (if (u.1 1) < z2 then _ else ((fX5_clause_2 u).bind _)) = some (r, u') := h1
    rw [if_neg (fun q => by have := ltI q; omega)] at h1
    obtain ⟨⟨r7, u8⟩, a7, h1⟩ := bd_some h1
    obtain ⟨hpo, hmo⟩ := clause_eq hP a7 ha
    have h1 : (if r7 = 0 then (some (u8.1 4, u8)) else _) = some (r, u') := h1
    cases m with
    | zero => cases hb
    | succ m =>
      have hb : (if (v1.1 7) = (-1) then ((fX12_look_0 v1).bind _) else (GX12_goThrough_0_a1_107 v1)) = some (r', v') := hb
      rcases hpo with ⟨n7, hP1⟩ | ⟨n7, f7, fn⟩
      · rw [if_neg n7] at h1
        rw [if_pos hP1.2.2.2.2.1] at hb
        obtain ⟨⟨r10, u11⟩, a10, h1⟩ := bd_some h1
        obtain ⟨⟨c', v24⟩, b23, hb⟩ := bd_some hb
        unfold fX5_takes_2 at a10
        obtain ⟨⟨c, u0⟩, a0, a10⟩ := bd_some a10
        obtain ⟨hP2, hle, hq⟩ := peek_eq hP1 a0 b23
        have a10 : (if c = 59 then _ else _) = some (r10, u11) := a10
        have h1 : (if r10 = 0 then (GX5_faultBy_2_as1_49 u11) else ((LX5_faultBy_2_as1_17 GX5_faultBy_2_as1_49 GX5_faultBy_2_as1_58 n) (z2 + 1) u11)) = some (r, u') := h1
        have hb : (if c' = 59 then _ else (GX12_goThrough_0_a1_107 v24)) = some (r', v') := hb
        have k59 := pkq_eq hq (k := 59) (by decide) (by decide)
        have b2 : (u0.1 1).toInt ≤ 120 := hP2.2.2.2.2.2.2.2.2.2.1
        have b0 : 0 ≤ (u0.1 4).toInt := hP2.2.2.2.2.2.2.2.1
        have p6 : v24.1 6 = u0.1 4 := hP2.2.2.2.2.2.1
        by_cases c59 : c = 59
        · rw [if_pos c59] at a10
          rw [if_pos (k59.mp c59)] at hb
          obtain ⟨w4, j4, a10⟩ := lt_some a10
          obtain ⟨-, a10⟩ := gd_some a10
          have e1 : (1 : Int32) = r10 ∧ w4 = u11 := by cases a10; exact ⟨rfl, rfl⟩
          rw [if_neg (by rw [← e1.1]; decide)] at h1
          have hlt : (u0.1 4).toInt < (u0.1 1).toInt := by
            rcases hq with ⟨q1, -⟩ | ⟨-, -, -, q4, -⟩
            · rw [q1] at c59
              exact absurd c59 (by decide)
            · exact q4
          have e5 : (u0.1 4 + 1).toInt = (u0.1 4).toInt + 1 := addc_t (by decide) (by omega) (by omega)
          have ez : (z2 + 1).toInt = z2.toInt + 1 := addc_t (by decide) (by omega) (by omega)
          obtain ⟨v26, i26, hb⟩ := lt_some hb
          rw [p6] at i26
          obtain ⟨⟨r28, v29⟩, b28, hb⟩ := bd_some hb
          rw [i26] at b28
          rw [← e1.2, j4] at h1
          exact ih (z2 + 1) _ _ v29 u' v' r r' r28 m (PR_at hP2 (by rw [e5]; omega) (by rw [e5]; omega)) (by rw [ez]; omega) (by show _ ≤ (u0.1 4 + 1).toInt; rw [e5, ez]; omega) h1 b28 hb
        · rw [if_neg c59] at a10
          rw [if_neg (fun z => c59 (k59.mpr z))] at hb
          obtain ⟨-, a10⟩ := gd_some a10
          have e1 : (0 : Int32) = r10 ∧ u0 = u11 := by cases a10; exact ⟨rfl, rfl⟩
          rw [if_pos e1.1.symm, ← e1.2] at h1
          unfold GX5_faultBy_2_as1_49 GX5_faultBy_2_as1_58 at h1
          unfold GX12_goThrough_0_a1_107 at hb
          rw [if_pos hP2.2.2.2.2.1] at hb
          obtain ⟨⟨c2, u14⟩, a13, h1⟩ := bd_some h1
          obtain ⟨x1, x2⟩ := peek2 hP2 hq a13
          rw [x1, x2] at h1
          obtain ⟨⟨c3, v32⟩, b31, hb⟩ := bd_some hb
          obtain ⟨x3, x4⟩ := look2 hP2 hq b31
          rw [x3, x4] at hb
          have h1 : (if c = 0 then (some ((-1), u0)) else (some (u0.1 4, u0))) = some (r, u') := h1
          have hb : (if c' = (-1) then (some (0, v24)) else _) = some (r', v') := hb
          rcases hq with ⟨q1, q2, -⟩ | ⟨q1, q2, q3, q4, -⟩
          · rw [if_pos q1] at h1
            rw [if_pos q2] at hb
            have e3 : (-1 : Int32) = r := by cases h1; rfl
            have e2 : v24 = v' := by cases hb; rfl
            rw [← e3, ← e2]
            exact hP2.2.2.2.2.1.symm
          · rw [if_neg (fun z => by have z9 : c.toInt = (0 : Int) := eqI z; omega)] at h1
            rw [if_neg (fun z => by rw [← q1] at z; have z9 : c.toInt = (-1 : Int) := eqI z; omega)] at hb
            obtain ⟨⟨r34, v35⟩, b34, hb⟩ := bd_some hb
            obtain ⟨-, g2⟩ := fails_at hP2.2.2.2.2.1 b34
            have e3 : u0.1 4 = r := by cases h1; rfl
            have e2 : v35 = v' := by cases hb; rfl
            rw [← e3, ← e2, g2]
            exact p6.symm
      · rw [if_pos n7] at h1
        rw [if_neg (POST_n7 f7 fn)] at hb
        unfold GX12_goThrough_0_a1_107 at hb
        rw [if_neg (POST_n7 f7 fn)] at hb
        have e3 : u8.1 4 = r := by cases h1; rfl
        have e2 : v1 = v' := by cases hb; rfl
        rw [← e3, ← e2]
        exact f7.symm
set_option maxHeartbeats 1000000 in
theorem fb2_loop : ∀ (n : Nat) (z2 : Int32) (u v v1 u' v' : SX) (r r' rc : Int32) (m : Nat), PR u v 0 → 0 ≤ z2.toInt → z2.toInt ≤ (u.1 4).toInt → LX5_faultBy_2_as2_17 GX5_faultBy_2_as2_49 GX5_faultBy_2_as2_58 n z2 u = some (r, u') → fX12_clause_0 v = some (rc, v1) → LX12_goThrough_0_a1_73 GX12_goThrough_0_a1_107 m v1 = some (r', v') → r = v'.1 7 := by
  intro n
  induction n with
  | zero => intro z2 u v v1 u' v' r r' rc m _ _ _ h; cases h
  | succ n ih =>
    intro z2 u v v1 u' v' r r' rc m hP hz0 hz1 h1 ha hb
    have al : (u.1 4).toInt ≤ (u.1 1).toInt := hP.2.2.2.2.2.2.2.2.1
    have h1 : (if (u.1 1) < z2 then _ else ((fX5_clause_2 u).bind _)) = some (r, u') := h1
    rw [if_neg (fun q => by have := ltI q; omega)] at h1
    obtain ⟨⟨r7, u8⟩, a7, h1⟩ := bd_some h1
    obtain ⟨hpo, hmo⟩ := clause_eq hP a7 ha
    have h1 : (if r7 = 0 then (some (u8.1 4, u8)) else _) = some (r, u') := h1
    cases m with
    | zero => cases hb
    | succ m =>
      have hb : (if (v1.1 7) = (-1) then ((fX12_look_0 v1).bind _) else (GX12_goThrough_0_a1_107 v1)) = some (r', v') := hb
      rcases hpo with ⟨n7, hP1⟩ | ⟨n7, f7, fn⟩
      · rw [if_neg n7] at h1
        rw [if_pos hP1.2.2.2.2.1] at hb
        obtain ⟨⟨r10, u11⟩, a10, h1⟩ := bd_some h1
        obtain ⟨⟨c', v24⟩, b23, hb⟩ := bd_some hb
        unfold fX5_takes_2 at a10
        obtain ⟨⟨c, u0⟩, a0, a10⟩ := bd_some a10
        obtain ⟨hP2, hle, hq⟩ := peek_eq hP1 a0 b23
        have a10 : (if c = 59 then _ else _) = some (r10, u11) := a10
        have h1 : (if r10 = 0 then (GX5_faultBy_2_as2_49 u11) else ((LX5_faultBy_2_as2_17 GX5_faultBy_2_as2_49 GX5_faultBy_2_as2_58 n) (z2 + 1) u11)) = some (r, u') := h1
        have hb : (if c' = 59 then _ else (GX12_goThrough_0_a1_107 v24)) = some (r', v') := hb
        have k59 := pkq_eq hq (k := 59) (by decide) (by decide)
        have b2 : (u0.1 1).toInt ≤ 120 := hP2.2.2.2.2.2.2.2.2.2.1
        have b0 : 0 ≤ (u0.1 4).toInt := hP2.2.2.2.2.2.2.2.1
        have p6 : v24.1 6 = u0.1 4 := hP2.2.2.2.2.2.1
        by_cases c59 : c = 59
        · rw [if_pos c59] at a10
          rw [if_pos (k59.mp c59)] at hb
          obtain ⟨w4, j4, a10⟩ := lt_some a10
          obtain ⟨-, a10⟩ := gd_some a10
          have e1 : (1 : Int32) = r10 ∧ w4 = u11 := by cases a10; exact ⟨rfl, rfl⟩
          rw [if_neg (by rw [← e1.1]; decide)] at h1
          have hlt : (u0.1 4).toInt < (u0.1 1).toInt := by
            rcases hq with ⟨q1, -⟩ | ⟨-, -, -, q4, -⟩
            · rw [q1] at c59
              exact absurd c59 (by decide)
            · exact q4
          have e5 : (u0.1 4 + 1).toInt = (u0.1 4).toInt + 1 := addc_t (by decide) (by omega) (by omega)
          have ez : (z2 + 1).toInt = z2.toInt + 1 := addc_t (by decide) (by omega) (by omega)
          obtain ⟨v26, i26, hb⟩ := lt_some hb
          rw [p6] at i26
          obtain ⟨⟨r28, v29⟩, b28, hb⟩ := bd_some hb
          rw [i26] at b28
          rw [← e1.2, j4] at h1
          exact ih (z2 + 1) _ _ v29 u' v' r r' r28 m (PR_at hP2 (by rw [e5]; omega) (by rw [e5]; omega)) (by rw [ez]; omega) (by show _ ≤ (u0.1 4 + 1).toInt; rw [e5, ez]; omega) h1 b28 hb
        · rw [if_neg c59] at a10
          rw [if_neg (fun z => c59 (k59.mpr z))] at hb
          obtain ⟨-, a10⟩ := gd_some a10
          have e1 : (0 : Int32) = r10 ∧ u0 = u11 := by cases a10; exact ⟨rfl, rfl⟩
          rw [if_pos e1.1.symm, ← e1.2] at h1
          unfold GX5_faultBy_2_as2_49 GX5_faultBy_2_as2_58 at h1
          unfold GX12_goThrough_0_a1_107 at hb
          rw [if_pos hP2.2.2.2.2.1] at hb
          obtain ⟨⟨c2, u14⟩, a13, h1⟩ := bd_some h1
          obtain ⟨x1, x2⟩ := peek2 hP2 hq a13
          rw [x1, x2] at h1
          obtain ⟨⟨c3, v32⟩, b31, hb⟩ := bd_some hb
          obtain ⟨x3, x4⟩ := look2 hP2 hq b31
          rw [x3, x4] at hb
          have h1 : (if c = 0 then (some ((-1), u0)) else (some (u0.1 4, u0))) = some (r, u') := h1
          have hb : (if c' = (-1) then (some (0, v24)) else _) = some (r', v') := hb
          rcases hq with ⟨q1, q2, -⟩ | ⟨q1, q2, q3, q4, -⟩
          · rw [if_pos q1] at h1
            rw [if_pos q2] at hb
            have e3 : (-1 : Int32) = r := by cases h1; rfl
            have e2 : v24 = v' := by cases hb; rfl
            rw [← e3, ← e2]
            exact hP2.2.2.2.2.1.symm
          · rw [if_neg (fun z => by have z9 : c.toInt = (0 : Int) := eqI z; omega)] at h1
            rw [if_neg (fun z => by rw [← q1] at z; have z9 : c.toInt = (-1 : Int) := eqI z; omega)] at hb
            obtain ⟨⟨r34, v35⟩, b34, hb⟩ := bd_some hb
            obtain ⟨-, g2⟩ := fails_at hP2.2.2.2.2.1 b34
            have e3 : u0.1 4 = r := by cases h1; rfl
            have e2 : v35 = v' := by cases hb; rfl
            rw [← e3, ← e2, g2]
            exact p6.symm
      · rw [if_pos n7] at h1
        rw [if_neg (POST_n7 f7 fn)] at hb
        unfold GX12_goThrough_0_a1_107 at hb
        rw [if_neg (POST_n7 f7 fn)] at hb
        have e3 : u8.1 4 = r := by cases h1; rfl
        have e2 : v1 = v' := by cases hb; rfl
        rw [← e3, ← e2]
        exact f7.symm
/-- both sides' tapes -/
def TieT (u v : SX) : Prop := u.1 1 = v.1 3 ∧ TapeR u v (u.1 1).toInt
theorem fb0_eq {u u' v v' : SX} {r r' : Int32} (h0 : 0 ≤ (u.1 1).toInt) (h1 : (u.1 1).toInt ≤ 120) (hT : TieT u v) (hX : fX5_faultBy_2_as0 u = some (r, u')) (hM : fX12_goThrough_0_a1 0 (v.1 3) 0 v = some (r', v')) : r = v'.1 7 := by
  unfold fX5_faultBy_2_as0 at hX
  obtain ⟨w1, j1, hX⟩ := lt_some hX
  obtain ⟨w2, j2, hX⟩ := lt_some hX
  obtain ⟨w3, j3, hX⟩ := lt_some hX
  unfold fX12_goThrough_0_a1 at hM
  obtain ⟨y1, i1, hM⟩ := lt_some hM
  obtain ⟨y2, i2, hM⟩ := lt_some hM
  obtain ⟨y3, i3, hM⟩ := lt_some hM
  have hM : GX12_goThrough_0_a1_41b y3 = some (r', v') := hM
  unfold GX12_goThrough_0_a1_41b at hM
  obtain ⟨y4, i4, hM⟩ := lt_some hM
  obtain ⟨y5, i5, hM⟩ := lt_some hM
  obtain ⟨y6, i6, hM⟩ := lt_some hM
  obtain ⟨y7, i7, hM⟩ := lt_some hM
  obtain ⟨-, hM⟩ := gd_some hM
  obtain ⟨y8, i8, hM⟩ := lt_some hM
  obtain ⟨y9, i9, hM⟩ := lt_some hM
  obtain ⟨⟨rc, v1⟩, ha, hM⟩ := bd_some hM
  have hP : PR w3 y9 0 := by
    subst i9 i8 i7 i6 i5 i4 i3 i2 i1 j3 j2 j1
    obtain ⟨t1, t2⟩ := hT
    exact ⟨t1, rfl, rfl, Or.inl ⟨rfl, rfl⟩, rfl, rfl, rfl, by show (0 : Int) ≤ 0; exact Int.le_refl _, h0, h1, t2⟩
  have a4 : 0 ≤ (w3.1 4).toInt := hP.2.2.2.2.2.2.2.1
  exact fb0_loop 5000 0 w3 y9 v1 u' v' r r' rc 5000 hP (by decide) (by show (0 : Int) ≤ _; exact a4) hX ha hM
theorem fb1_eq {u u' v v' : SX} {r r' : Int32} (h0 : 0 ≤ (u.1 1).toInt) (h1 : (u.1 1).toInt ≤ 120) (hT : TieT u v) (hX : fX5_faultBy_2_as1 u = some (r, u')) (hM : fX12_goThrough_0_a1 0 (v.1 3) 1 v = some (r', v')) : r = v'.1 7 := by
  unfold fX5_faultBy_2_as1 at hX
  obtain ⟨w1, j1, hX⟩ := lt_some hX
  obtain ⟨w2, j2, hX⟩ := lt_some hX
  obtain ⟨w3, j3, hX⟩ := lt_some hX
  unfold fX12_goThrough_0_a1 at hM
  obtain ⟨y1, i1, hM⟩ := lt_some hM
  obtain ⟨y2, i2, hM⟩ := lt_some hM
  obtain ⟨y3, i3, hM⟩ := lt_some hM
  have hM : GX12_goThrough_0_a1_41a y3 = some (r', v') := hM
  unfold GX12_goThrough_0_a1_41a at hM
  obtain ⟨y4, i4, hM⟩ := lt_some hM
  obtain ⟨y5, i5, hM⟩ := lt_some hM
  obtain ⟨y6, i6, hM⟩ := lt_some hM
  obtain ⟨y7, i7, hM⟩ := lt_some hM
  obtain ⟨-, hM⟩ := gd_some hM
  obtain ⟨y8, i8, hM⟩ := lt_some hM
  obtain ⟨y9, i9, hM⟩ := lt_some hM
  obtain ⟨⟨rc, v1⟩, ha, hM⟩ := bd_some hM
  have hP : PR w3 y9 0 := by
    subst i9 i8 i7 i6 i5 i4 i3 i2 i1 j3 j2 j1
    obtain ⟨t1, t2⟩ := hT
    exact ⟨t1, rfl, rfl, Or.inr (Or.inl ⟨rfl, rfl⟩), rfl, rfl, rfl, by show (0 : Int) ≤ 0; exact Int.le_refl _, h0, h1, t2⟩
  have a4 : 0 ≤ (w3.1 4).toInt := hP.2.2.2.2.2.2.2.1
  exact fb1_loop 5000 0 w3 y9 v1 u' v' r r' rc 5000 hP (by decide) (by show (0 : Int) ≤ _; exact a4) hX ha hM
theorem fb2_eq {u u' v v' : SX} {r r' : Int32} (h0 : 0 ≤ (u.1 1).toInt) (h1 : (u.1 1).toInt ≤ 120) (hT : TieT u v) (hX : fX5_faultBy_2_as2 u = some (r, u')) (hM : fX12_goThrough_0_a1 0 (v.1 3) 2 v = some (r', v')) : r = v'.1 7 := by
  unfold fX5_faultBy_2_as2 at hX
  obtain ⟨w1, j1, hX⟩ := lt_some hX
  obtain ⟨w2, j2, hX⟩ := lt_some hX
  obtain ⟨w3, j3, hX⟩ := lt_some hX
  unfold fX12_goThrough_0_a1 at hM
  obtain ⟨y1, i1, hM⟩ := lt_some hM
  obtain ⟨y2, i2, hM⟩ := lt_some hM
  obtain ⟨y3, i3, hM⟩ := lt_some hM
  have hM : GX12_goThrough_0_a1_41 y3 = some (r', v') := hM
  unfold GX12_goThrough_0_a1_41 at hM
  obtain ⟨y4, i4, hM⟩ := lt_some hM
  obtain ⟨y5, i5, hM⟩ := lt_some hM
  obtain ⟨y6, i6, hM⟩ := lt_some hM
  obtain ⟨y7, i7, hM⟩ := lt_some hM
  obtain ⟨-, hM⟩ := gd_some hM
  obtain ⟨y8, i8, hM⟩ := lt_some hM
  obtain ⟨y9, i9, hM⟩ := lt_some hM
  obtain ⟨⟨rc, v1⟩, ha, hM⟩ := bd_some hM
  have hP : PR w3 y9 0 := by
    subst i9 i8 i7 i6 i5 i4 i3 i2 i1 j3 j2 j1
    obtain ⟨t1, t2⟩ := hT
    exact ⟨t1, rfl, rfl, Or.inr (Or.inr ⟨rfl, rfl⟩), rfl, rfl, rfl, by show (0 : Int) ≤ 0; exact Int.le_refl _, h0, h1, t2⟩
  have a4 : 0 ≤ (w3.1 4).toInt := hP.2.2.2.2.2.2.2.1
  exact fb2_loop 5000 0 w3 y9 v1 u' v' r r' rc 5000 hP (by decide) (by show (0 : Int) ≤ _; exact a4) hX ha hM
