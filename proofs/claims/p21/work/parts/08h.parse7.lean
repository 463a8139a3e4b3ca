/-! Both parsers: conditions. -/
theorem part_still {rc : Nat → Int32 → Int32 → SX → Option (Int32 × SX)} {m : Nat} {z r : Int32} {v v' : SX} (h7 : ¬ v.1 7 = -1) (h : LX12_part_0_18 rc m z v = some (r, v')) : v' = v := by
  cases m with
  | zero => cases h
  | succ m =>
    have h : (if (v.1 7) = (-1) then _ else (gd (isB z) (some (z, v)))) = some (r, v') := h
    rw [if_neg h7] at h
    obtain ⟨-, h⟩ := gd_some h
    cases h
    rfl
theorem cond_still {rc : Nat → Int32 → Int32 → SX → Option (Int32 × SX)} {m : Nat} {z r : Int32} {v v' : SX} (h7 : ¬ v.1 7 = -1) (h : LX12_condition_0_7 rc m z v = some (r, v')) : v' = v := by
  cases m with
  | zero => cases h
  | succ m =>
    have h : (if (v.1 7) = (-1) then _ else (gd (isB z) (some (z, v)))) = some (r, v') := h
    rw [if_neg h7] at h
    obtain ⟨-, h⟩ := gd_some h
    cases h
    rfl
theorem cndX_go {rc : Nat → Int32 → Int32 → SX → Option (Int32 × SX)} {k8 : Int32 → Int32 → Int32 → Int32 → Int32 → SX → Option (Int32 × SX)} {z1 z2 z3 z5 c r : Int32} {u u' : SX} (hc : c = 38 ∨ c = 124) (h : (if c = 38 then (GX5_condition_2_70 rc k8 z1 z2 z3 z5 c c u) else (GX5_condition_2_70 rc k8 z1 z2 z3 z5 c 0 u)) = some (r, u')) : ∃ (z3' z4' : Int32) (w : SX), (∀ (v : SX) (d : Int32), PR u v d → PR w v d) ∧ w.1 4 = u.1 4 ∧ w.1 1 = u.1 1 ∧ k8 z1 z2 z3' z4' (z5 + 1) (sI w 4 (w.1 4 + 1)) = some (r, u') := by
  rcases hc with hc | hc
  · rw [if_pos hc] at h
    unfold GX5_condition_2_70 at h
    rw [if_neg (by rw [hc]; decide)] at h
    unfold GX5_condition_2_103 at h
    obtain ⟨w, e, h⟩ := lt_some h
    rw [e] at h
    exact ⟨_, _, u, fun v d z => z, rfl, rfl, h⟩
  · rw [if_neg (by rw [hc]; decide)] at h
    unfold GX5_condition_2_70 at h
    rw [if_pos rfl] at h
    obtain ⟨⟨r13, u14⟩, a13, h⟩ := bd_some h
    have h : (if c = 124 then _ else _) = some (r, u') := h
    rw [if_pos hc] at h
    unfold GX5_condition_2_96 at h
    rw [if_neg (by rw [hc]; decide)] at h
    unfold GX5_condition_2_103 at h
    obtain ⟨w, e, h⟩ := lt_some h
    rw [e] at h
    exact ⟨_, _, u14, fun v d z => (emit_PR z a13).1, emit_at a13, emit_ln a13, h⟩
theorem cndX_end {rc : Nat → Int32 → Int32 → SX → Option (Int32 × SX)} {k8 : Int32 → Int32 → Int32 → Int32 → Int32 → SX → Option (Int32 × SX)} {z1 z2 z3 z5 c r : Int32} {u u' : SX} (h38 : ¬ c = 38) (h124 : ¬ c = 124) (h : (if c = 38 then (GX5_condition_2_70 rc k8 z1 z2 z3 z5 c c u) else (GX5_condition_2_70 rc k8 z1 z2 z3 z5 c 0 u)) = some (r, u')) : r = 1 ∧ (∀ (v : SX) (d : Int32), PR u v d → PR u' v d) ∧ u'.1 4 = u.1 4 := by
  rw [if_neg h38] at h
  unfold GX5_condition_2_70 at h
  rw [if_pos rfl] at h
  obtain ⟨⟨r13, u14⟩, a13, h⟩ := bd_some h
  have h : (if c = 124 then _ else _) = some (r, u') := h
  rw [if_neg h124] at h
  unfold GX5_condition_2_96 at h
  rw [if_pos rfl] at h
  obtain ⟨-, h⟩ := gd_some h
  have e : (1 : Int32) = r ∧ u14 = u' := by cases h; exact ⟨rfl, rfl⟩
  exact ⟨e.1.symm, fun v d z => by rw [← e.2]; exact (emit_PR z a13).1, by rw [← e.2]; exact emit_at a13⟩
def CndK (dM : Nat) (K : Int32 × SX → Option (Int32 × SX)) : Prop := ∀ q, ∃ (m : Nat) (z : Int32), K q = LX12_condition_0_7 (rX12conditiong (dM + 1)) m z q.2
/-- behind a unit -/
def CndC (dX dM : Nat) (k b : Int32) (n : Nat) : Prop := ∀ (z3 z4 z5 : Int32) (u3 v2 u' v' : SX) (r r' r2 z : Int32) (m : Nat) (K : Int32 × SX → Option (Int32 × SX)), POST r2 u3 v2 k → 0 ≤ z5.toInt → z5.toInt ≤ (u3.1 4).toInt → CndK dM K → (if r2 = 0 then (gd (isB 0) (some (0, u3))) else ((fX5_emit_2 z4 0 u3).bind fun q => match q with | (r5, u6) => ((fX5_peek_2 u6).bind fun q => match q with | (r8, u9) => (if r8 = 38 then (GX5_condition_2_70 (rX5conditiong dX) (LX5_condition_2_8 (rX5conditiong dX) n) k b z3 z5 r8 r8 u9) else (GX5_condition_2_70 (rX5conditiong dX) (LX5_condition_2_8 (rX5conditiong dX) n) k b z3 z5 r8 0 u9))))) = some (r, u') → (LX12_part_0_18 (rX12conditiong dM) m z v2).bind K = some (r', v') → POST r u' v' k ∧ (u3.1 4).toInt ≤ (u'.1 4).toInt
set_option maxHeartbeats 2000000 in
theorem cnd_step {dX dM : Nat} {k b : Int32} (hU : UniH dX) (hk : Dp k) (n : Nat) (ih : ∀ n', n = n' + 1 → CndC dX dM k b n') : CndC dX dM k b n := by
  intro z3 z4 z5 u3 v2 u' v' r r' r2 z m K hpo hz0 hz1 hK h1 hb
  obtain ⟨⟨r3, v4⟩, hb1, hb2⟩ := bd_some hb
  rcases hpo with ⟨n2, hP3⟩ | ⟨e2, f7, fn⟩
  · rw [if_neg n2] at h1
    obtain ⟨⟨r5, u6⟩, a5, h1⟩ := bd_some h1
    obtain ⟨⟨c, u9⟩, a8, h1⟩ := bd_some h1
    obtain ⟨hP6, e6⟩ := emit_PR hP3 a5
    cases m with
    | zero => cases hb1
    | succ m =>
      have p7 : v2.1 7 = -1 := hP6.2.2.2.2.1
      have hb1 : (if (v2.1 7) = (-1) then ((fX12_look_0 v2).bind _) else _) = some (r3, v4) := hb1
      rw [if_pos p7] at hb1
      obtain ⟨⟨c', v5⟩, b4, hb1⟩ := bd_some hb1
      obtain ⟨hP9, hle, hq⟩ := peek_eq hP6 a8 b4
      have hb1 : (if c' = 38 then _ else _) = some (r3, v4) := hb1
      have h1 : (if c = 38 then (GX5_condition_2_70 (rX5conditiong dX) (LX5_condition_2_8 (rX5conditiong dX) n) k b z3 z5 c c u9) else (GX5_condition_2_70 (rX5conditiong dX) (LX5_condition_2_8 (rX5conditiong dX) n) k b z3 z5 c 0 u9)) = some (r, u') := h1
      have k38 := pkq_eq hq (k := 38) (by decide) (by decide)
      have k124 := pkq_eq hq (k := 124) (by decide) (by decide)
      rw [e6] at hle
      by_cases go : c = 38 ∨ c = 124
      · obtain ⟨z3', z4', w, hw, hw4, hw1, h1⟩ := cndX_go go h1
        have hPw := hw _ _ hP9
        have hlt : (u9.1 4).toInt < (u9.1 1).toInt := by
          rcases hq with ⟨q1, -⟩ | ⟨-, -, -, q4, -⟩
          · rw [q1] at go
            exact absurd go (by decide)
          · exact q4
        have b2 : (u9.1 1).toInt ≤ 120 := hP9.2.2.2.2.2.2.2.2.2.1
        have b0 : 0 ≤ (u9.1 4).toInt := hP9.2.2.2.2.2.2.2.1
        have p6 : v5.1 6 = u9.1 4 := hP9.2.2.2.2.2.1
        have e5 : (u9.1 4 + 1).toInt = (u9.1 4).toInt + 1 := addc_t (by decide) (by omega) (by omega)
        have hPn : PR (sI w 4 (w.1 4 + 1)) (sI v5 6 (u9.1 4 + 1)) k := by
          rw [hw4]
          exact PR_at hPw (by rw [e5]; omega) (by rw [e5, hw1]; omega)
        have ez : (z5 + 1).toInt = z5.toInt + 1 := addc_t (by decide) (by omega) (by omega)
        have nz : ¬ z5 + 1 = 0 := fun q => by
          have q9 : (z5 + 1).toInt = (0 : Int) := eqI q
          omega
        -- X's next unit
        cases n with
        | zero => cases h1
        | succ n =>
          have g36 : GX5_condition_2_36 (rX5conditiong dX) (LX5_condition_2_8 (rX5conditiong dX) n) k b z3' z4' (z5 + 1) 0 k (sI w 4 (w.1 4 + 1)) = some (r, u') := by
            have h1 : (if ((sI w 4 (w.1 4 + 1)).1 1) < z5 + 1 then _ else (if b = 0 then (GX5_condition_2_35 (rX5conditiong dX) (LX5_condition_2_8 (rX5conditiong dX) n) k b z3' z4' (z5 + 1) k (sI w 4 (w.1 4 + 1))) else (if z5 + 1 = 0 then _ else (GX5_condition_2_35 (rX5conditiong dX) (LX5_condition_2_8 (rX5conditiong dX) n) k b z3' z4' (z5 + 1) k (sI w 4 (w.1 4 + 1)))))) = some (r, u') := h1
            rw [if_neg (fun q => by
              have q9 : (w.1 1).toInt < (z5 + 1).toInt := ltI q
              rw [hw1, ez] at q9
              omega)] at h1
            by_cases bz : b = 0
            · rw [if_pos bz] at h1; exact h1
            · rw [if_neg bz, if_neg nz] at h1; exact h1
          unfold GX5_condition_2_36 at g36
          obtain ⟨⟨r2', u3'⟩, a2', g36⟩ := bd_some g36
          have fin : ∀ {X : Int}, (u3'.1 4).toInt ≤ X → ((sI w 4 (w.1 4 + 1)).1 4).toInt ≤ (u3'.1 4).toInt → (u3.1 4).toInt ≤ X := fun {X} q1 q2 => by
            have q2 : (w.1 4 + 1).toInt ≤ (u3'.1 4).toInt := q2
            rw [hw4, e5] at q2
            omega
          have gz : ((sI w 4 (w.1 4 + 1)).1 4).toInt ≤ (u3'.1 4).toInt → (z5 + 1).toInt ≤ (u3'.1 4).toInt := fun q2 => by
            have q2 : (w.1 4 + 1).toInt ≤ (u3'.1 4).toInt := q2
            rw [hw4, e5] at q2
            rw [ez]
            omega
          by_cases tm : c' = 38
          · rw [if_pos tm] at hb1
            obtain ⟨v9, i9, hb1⟩ := lt_some hb1
            rw [p6] at i9
            obtain ⟨⟨ra, va⟩, ha', hb1⟩ := bd_some hb1
            rw [i9] at ha'
            obtain ⟨hpo', hmo'⟩ := hU dM k _ _ u3' va r2' ra hk hPn a2' ha'
            have nxt : ∃ z9, LX12_part_0_18 (rX12conditiong dM) m z9 va = some (r3, v4) := by
              have hb1 : (if z = 0 then _ else _) = some (r3, v4) := hb1
              by_cases zz : z = 0
              · rw [if_pos zz] at hb1
                exact ⟨_, hb1⟩
              · rw [if_neg zz] at hb1
                by_cases zr : ra = 0
                · rw [if_pos zr] at hb1
                  exact ⟨_, hb1⟩
                · rw [if_neg zr] at hb1
                  exact ⟨_, hb1⟩
            obtain ⟨z9, hb'⟩ := nxt
            have q := ih n rfl z3' z4' (z5 + 1) u3' va u' v' r r' r2' z9 m K hpo' (by rw [ez]; omega) (gz hmo') hK g36 (by rw [hb']; exact hb2)
            exact ⟨q.1, fin q.2 hmo'⟩
          · rw [if_neg tm] at hb1
            obtain ⟨-, hb1⟩ := gd_some hb1
            have e34 : v5 = v4 := by cases hb1; rfl
            obtain ⟨m3, z8, hK8⟩ := hK (r3, v4)
            have hb2 : K (r3, v4) = some (r', v') := hb2
            rw [hK8, ← e34] at hb2
            cases m3 with
            | zero => cases hb2
            | succ m3 =>
              have p75 : v5.1 7 = -1 := hP9.2.2.2.2.1
              have hb2 : (if (v5.1 7) = (-1) then ((fX12_look_0 v5).bind _) else _) = some (r', v') := hb2
              rw [if_pos p75] at hb2
              obtain ⟨⟨c3, v7⟩, b6, hb2⟩ := bd_some hb2
              obtain ⟨x3, x4⟩ := look2 hP9 hq b6
              rw [x3, x4] at hb2
              have hb2 : (if c' = 124 then _ else _) = some (r', v') := hb2
              have c124 : c' = 124 := by
                rcases go with g | g
                · exact absurd (k38.mp g) tm
                · exact k124.mp g
              rw [if_pos c124] at hb2
              obtain ⟨v9, i9, hb2⟩ := lt_some hb2
              rw [p6] at i9
              obtain ⟨⟨r11, v12⟩, a11, hb2⟩ := bd_some hb2
              rw [rC_1] at a11
              unfold fX12_part_0 GX12_part_0_17 at a11
              generalize (5000 : Nat) = N5 at a11
              rw [if_pos rfl] at a11
              obtain ⟨⟨ra, va⟩, ha', a11⟩ := bd_some a11
              rw [i9] at ha'
              have a11 : LX12_part_0_18 (rX12conditiong dM) N5 ra va = some (r11, v12) := a11
              obtain ⟨hpo', hmo'⟩ := hU dM k _ _ u3' va r2' ra hk hPn a2' ha'
              have nxt : ∃ y, LX12_condition_0_7 (rX12conditiong (dM + 1)) m3 y v12 = some (r', v') := by
                have hb2 : (if z8 = 0 then _ else _) = some (r', v') := hb2
                by_cases zz : z8 = 0
                · rw [if_pos zz] at hb2
                  by_cases zr : r11 = 0
                  · rw [if_pos zr] at hb2
                    exact ⟨_, hb2⟩
                  · rw [if_neg zr] at hb2
                    exact ⟨_, hb2⟩
                · rw [if_neg zz] at hb2
                  exact ⟨_, hb2⟩
              obtain ⟨y, hy⟩ := nxt
              have q := ih n rfl z3' z4' (z5 + 1) u3' va u' v' r r' r2' ra N5 (fun q => LX12_condition_0_7 (rX12conditiong (dM + 1)) m3 y q.2) hpo' (by rw [ez]; omega) (gz hmo') (fun q => ⟨m3, y, rfl⟩) g36 (by rw [a11]; exact hy)
              exact ⟨q.1, fin q.2 hmo'⟩
      · have n38 : ¬ c = 38 := fun q => go (Or.inl q)
        have n124 : ¬ c = 124 := fun q => go (Or.inr q)
        obtain ⟨er, hPu, hu4⟩ := cndX_end n38 n124 h1
        rw [if_neg (fun q => n38 (k38.mpr q))] at hb1
        obtain ⟨-, hb1⟩ := gd_some hb1
        have e34 : v5 = v4 := by cases hb1; rfl
        obtain ⟨m3, z8, hK8⟩ := hK (r3, v4)
        have hb2 : K (r3, v4) = some (r', v') := hb2
        rw [hK8, ← e34] at hb2
        cases m3 with
        | zero => cases hb2
        | succ m3 =>
          have p75 : v5.1 7 = -1 := hP9.2.2.2.2.1
          have hb2 : (if (v5.1 7) = (-1) then ((fX12_look_0 v5).bind _) else _) = some (r', v') := hb2
          rw [if_pos p75] at hb2
          obtain ⟨⟨c3, v7⟩, b6, hb2⟩ := bd_some hb2
          obtain ⟨x3, x4⟩ := look2 hP9 hq b6
          rw [x3, x4] at hb2
          have hb2 : (if c' = 124 then _ else _) = some (r', v') := hb2
          rw [if_neg (fun q => n124 (k124.mpr q))] at hb2
          obtain ⟨-, hb2⟩ := gd_some hb2
          have e5 : v5 = v' := by cases hb2; rfl
          rw [er, ← e5]
          exact ⟨Or.inl ⟨by decide, hPu _ _ hP9⟩, by rw [hu4]; omega⟩
  · rw [if_pos e2] at h1
    obtain ⟨-, h1⟩ := gd_some h1
    have e1 : (0 : Int32) = r ∧ u3 = u' := by cases h1; exact ⟨rfl, rfl⟩
    have n7 : ¬ v2.1 7 = -1 := POST_n7 f7 fn
    have e4 : v4 = v2 := part_still n7 hb1
    obtain ⟨m3, z8, hK8⟩ := hK (r3, v4)
    have hb2 : K (r3, v4) = some (r', v') := hb2
    rw [hK8, e4] at hb2
    have e5 : v' = v2 := cond_still n7 hb2
    rw [← e1.1, ← e1.2, e5]
    exact ⟨Or.inr ⟨rfl, f7, fn⟩, Int.le_refl _⟩
theorem cnd_all {dX dM : Nat} {k b : Int32} (hU : UniH dX) (hk : Dp k) : ∀ n, CndC dX dM k b n := by
  intro n
  induction n with
  | zero => exact cnd_step hU hk 0 (fun n' e => by cases e)
  | succ n ih => exact cnd_step hU hk (n + 1) (fun n' e => by cases e; exact ih)
/-- the first unit where its sum has been read -/
theorem begun_eq {dX : Nat} {k y r r' : Int32} {u v u' v' : SX} (hk : Dp k) (hP : PR u v k) (h1 : rX5conditiong dX 1 k 1 u = some (r, u')) (h2 : fX12_compares_0 1 y v = some (r', v')) : POST r u' v' k ∧ (u.1 4).toInt ≤ (u'.1 4).toInt := by
  cases dX with
  | zero => cases h1
  | succ dX =>
    rw [rX_1] at h1
    unfold fX5_unit_2 at h1
    obtain ⟨⟨c, u2⟩, a1, h1⟩ := bd_some h1
    have h1 : (if (1 : Int32) = 0 then _ else (GX5_unit_2_50 (rX5conditiong dX) k 1 c u2)) = some (r, u') := h1
    rw [if_neg (by decide)] at h1
    unfold GX5_unit_2_50 at h1
    rw [if_neg (by decide)] at h1
    unfold GX5_unit_2_102 at h1
    rw [if_neg (by decide)] at h1
    unfold fX12_compares_0 at h2
    rw [if_neg (by decide)] at h2
    have p7 : v.1 7 = -1 := hP.2.2.2.2.1
    have h3 := h2
    unfold GX12_compares_0_12 at h3
    rw [if_pos p7] at h3
    obtain ⟨⟨c', v5⟩, b4, -⟩ := bd_some h3
    obtain ⟨hP2, hle, hq⟩ := peek_eq hP a1 b4
    have h1' : GX5_unit_2_116 (rX5conditiong dX) k u = some (r, u') := by
      unfold GX5_unit_2_116 at h1 ⊢
      obtain ⟨⟨c2, u3⟩, a3, h1⟩ := bd_some h1
      obtain ⟨x1, x2⟩ := peek2 hP2 hq a3
      rw [x1, x2] at h1
      rw [a1]
      exact h1
    exact cmp_eq hk hP h1' h2
theorem cond_eq {dX : Nat} (hU : UniH dX) : CndH (dX + 1) := by
  intro dM k b y u v u' v' r r' hk hb hP h1 h2
  cases dM with
  | zero => cases h2
  | succ dM =>
    rw [rX_0] at h1
    unfold fX5_condition_2 at h1
    obtain ⟨N1, hN1⟩ : ∃ N, 5000 = N + 1 := ⟨4999, rfl⟩
    rw [hN1] at h1
    rw [rC_0] at h2
    unfold fX12_condition_0 at h2
    generalize (5000 : Nat) = N2 at h2
    obtain ⟨⟨r1, v1⟩, a1, h2⟩ := bd_some h2
    have h2 : LX12_condition_0_7 (rX12conditiong dM) N2 r1 v1 = some (r', v') := h2
    have al : (u.1 4).toInt ≤ (u.1 1).toInt := hP.2.2.2.2.2.2.2.2.1
    have a0 : 0 ≤ (u.1 4).toInt := hP.2.2.2.2.2.2.2.1
    have h1 : (if (u.1 1) < 0 then _ else (if b = 0 then (GX5_condition_2_36 (rX5conditiong dX) (LX5_condition_2_8 (rX5conditiong dX) N1) k b 0 0 0 0 k u) else (if (0 : Int32) = 0 then (GX5_condition_2_36 (rX5conditiong dX) (LX5_condition_2_8 (rX5conditiong dX) N1) k b 0 0 0 1 k u) else _))) = some (r, u') := h1
    rw [if_neg (fun q => by have q9 : (u.1 1).toInt < (0 : Int) := ltI q; omega)] at h1
    cases dM with
    | zero => cases a1
    | succ dM =>
      rw [rC_1] at a1
      unfold fX12_part_0 GX12_part_0_17 at a1
      generalize (5000 : Nat) = N3 at a1
      rcases hb with hb | hb
      · rw [if_pos hb] at h1 a1
        unfold GX5_condition_2_36 at h1
        obtain ⟨⟨r2, u3⟩, a2, h1⟩ := bd_some h1
        obtain ⟨⟨ra, va⟩, ha, a1⟩ := bd_some a1
        have a1 : LX12_part_0_18 (rX12conditiong dM) N3 ra va = some (r1, v1) := a1
        obtain ⟨hpo, hmo⟩ := hU dM k u v u3 va r2 ra hk hP a2 ha
        have q := cnd_all (dM := dM) (b := b) hU hk N1 0 0 0 u3 va u' v' r r' r2 ra N3 (fun q => LX12_condition_0_7 (rX12conditiong (dM + 1)) N2 q.1 q.2) hpo (by decide) (by show (0 : Int) ≤ _; omega) (fun q => ⟨N2, q.1, rfl⟩) h1 (by rw [a1]; exact h2)
        exact ⟨q.1, by omega⟩
      · rw [if_neg (by rw [hb]; decide), if_pos rfl] at h1
        rw [if_neg (by rw [hb]; decide)] at a1
        unfold GX5_condition_2_36 at h1
        obtain ⟨⟨r2, u3⟩, a2, h1⟩ := bd_some h1
        obtain ⟨⟨ra, va⟩, ha, a1⟩ := bd_some a1
        have a1 : LX12_part_0_18 (rX12conditiong dM) N3 ra va = some (r1, v1) := a1
        obtain ⟨hpo, hmo⟩ := begun_eq hk hP a2 ha
        have q := cnd_all (dM := dM) (b := b) hU hk N1 0 0 0 u3 va u' v' r r' r2 ra N3 (fun q => LX12_condition_0_7 (rX12conditiong (dM + 1)) N2 q.1 q.2) hpo (by decide) (by show (0 : Int) ≤ _; omega) (fun q => ⟨N2, q.1, rfl⟩) h1 (by rw [a1]; exact h2)
        exact ⟨q.1, by omega⟩
theorem conds_eq : ∀ dX, UniH dX ∧ CndH dX := by
  intro dX
  induction dX with
  | zero => exact ⟨fun dM k u v u' v' r r' _ _ h => (by cases h), fun dM k b y u v u' v' r r' _ _ _ h => (by cases h)⟩
  | succ dX ih => exact ⟨unit_eq ih.1 ih.2, cond_eq ih.1⟩
