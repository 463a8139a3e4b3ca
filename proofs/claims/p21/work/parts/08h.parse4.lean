/-! Both parsers: sums. -/
theorem rX_0 (d : Nat) (a b : Int32) (u : SX) : rX5conditiong (d + 1) 0 a b u = fX5_condition_2 (rX5conditiong d) a b u := by
  rw [rX5conditiong, if_pos rfl]
theorem rX_1 (d : Nat) (a b : Int32) (u : SX) : rX5conditiong (d + 1) 1 a b u = fX5_unit_2 (rX5conditiong d) a b u := by
  rw [rX5conditiong, if_neg (by decide), if_pos rfl]
theorem rX_2 (d : Nat) (a b : Int32) (u : SX) : rX5conditiong (d + 1) 2 a b u = fX5_total_2 (rX5conditiong d) a u := by
  rw [rX5conditiong, if_neg (by decide), if_neg (by decide), if_pos rfl]
theorem rS_0 (d : Nat) (a : Int32) (u : SX) : rX12sumg (d + 1) 0 a u = fX12_sum_0 (rX12sumg d) u := by
  rw [rX12sumg, if_pos rfl]
theorem rS_1 (d : Nat) (a : Int32) (u : SX) : rX12sumg (d + 1) 1 a u = fX12_term_0 (rX12sumg d) u := by
  rw [rX12sumg, if_neg (by decide), if_pos rfl]
theorem rC_0 (d : Nat) (a b : Int32) (u : SX) : rX12conditiong (d + 1) 0 a b u = fX12_condition_0 (rX12conditiong d) a b u := by
  rw [rX12conditiong, if_pos rfl]
theorem rC_1 (d : Nat) (a b : Int32) (u : SX) : rX12conditiong (d + 1) 1 a b u = fX12_part_0 (rX12conditiong d) a b u := by
  rw [rX12conditiong, if_neg (by decide), if_pos rfl]
theorem rC_2 (d : Nat) (a b : Int32) (u : SX) : rX12conditiong (d + 1) 2 a b u = fX12_unit_0 (rX12conditiong d) u := by
  rw [rX12conditiong, if_neg (by decide), if_neg (by decide), if_pos rfl]
theorem POST_n7 {u v : SX} (h7 : v.1 7 = u.1 4) (h0 : 0 ≤ (u.1 4).toInt) : ¬ v.1 7 = -1 := fun z => by
  rw [h7] at z
  have z9 : (u.1 4).toInt = (-1 : Int) := eqI z
  omega
theorem term_still {rc : Nat → Int32 → SX → Option (Int32 × SX)} {m : Nat} {z r : Int32} {v v' : SX} (h7 : ¬ v.1 7 = -1) (h : LX12_term_0_5 rc m z v = some (r, v')) : v' = v := by
  cases m with
  | zero => cases h
  | succ m =>
    have h : (if (v.1 7) = (-1) then _ else some (z, v)) = some (r, v') := h
    rw [if_neg h7] at h
    cases h
    rfl
theorem sum_still {rc : Nat → Int32 → SX → Option (Int32 × SX)} {m : Nat} {z r : Int32} {v v' : SX} (h7 : ¬ v.1 7 = -1) (h : LX12_sum_0_5 rc m z v = some (r, v')) : v' = v := by
  cases m with
  | zero => cases h
  | succ m =>
    have h : (if (v.1 7) = (-1) then _ else some (z, v)) = some (r, v') := h
    rw [if_neg h7] at h
    cases h
    rfl
/-- X behind an atom, a sign of joining ahead: it is eaten, the next round begins -/
theorem totX_go {rc : Nat → Int32 → Int32 → SX → Option (Int32 × SX)} {n : Nat} {z1 z2 z4 c r : Int32} {u u' : SX} (hc : c = 42 ∨ c = 47 ∨ c = 43 ∨ c = 45) (h : (if c = 42 then (GX5_total_2_55 rc (LX5_total_2_7 rc n) z1 z2 z4 c u) else (if c = 47 then (GX5_total_2_55 rc (LX5_total_2_7 rc n) z1 z2 z4 c u) else (GX5_total_2_61 rc (LX5_total_2_7 rc n) z1 z2 z4 c 0 u))) = some (r, u')) : ∃ (z2' z3' : Int32) (w : SX), (∀ (v : SX) (d : Int32), PR u v d → PR w v d) ∧ w.1 4 = u.1 4 ∧ w.1 1 = u.1 1 ∧ LX5_total_2_7 rc n z1 z2' z3' (z4 + 1) (sI w 4 (w.1 4 + 1)) = some (r, u') := by
  rcases hc with hc | hc | hc | hc
  · rw [if_pos hc] at h
    unfold GX5_total_2_55 GX5_total_2_61 at h
    rw [if_neg (by rw [hc]; decide)] at h
    unfold GX5_total_2_99 at h
    obtain ⟨w, e, h⟩ := lt_some h
    rw [e] at h
    exact ⟨_, _, u, fun v d z => z, rfl, rfl, h⟩
  · rw [if_neg (by rw [hc]; decide), if_pos hc] at h
    unfold GX5_total_2_55 GX5_total_2_61 at h
    rw [if_neg (by rw [hc]; decide)] at h
    unfold GX5_total_2_99 at h
    obtain ⟨w, e, h⟩ := lt_some h
    rw [e] at h
    exact ⟨_, _, u, fun v d z => z, rfl, rfl, h⟩
  · rw [if_neg (by rw [hc]; decide), if_neg (by rw [hc]; decide)] at h
    unfold GX5_total_2_61 at h
    rw [if_pos rfl] at h
    obtain ⟨⟨r13, u14⟩, a13, h⟩ := bd_some h
    have h : (if c = 43 then _ else _) = some (r, u') := h
    rw [if_pos hc] at h
    unfold GX5_total_2_86 GX5_total_2_92 at h
    rw [if_neg (by rw [hc]; decide)] at h
    unfold GX5_total_2_99 at h
    obtain ⟨w, e, h⟩ := lt_some h
    rw [e] at h
    exact ⟨_, _, u14, fun v d z => (emit_PR z a13).1, emit_at a13, emit_ln a13, h⟩
  · rw [if_neg (by rw [hc]; decide), if_neg (by rw [hc]; decide)] at h
    unfold GX5_total_2_61 at h
    rw [if_pos rfl] at h
    obtain ⟨⟨r13, u14⟩, a13, h⟩ := bd_some h
    have h : (if c = 43 then _ else _) = some (r, u') := h
    rw [if_neg (by rw [hc]; decide), if_pos hc] at h
    unfold GX5_total_2_86 GX5_total_2_92 at h
    rw [if_neg (by rw [hc]; decide)] at h
    unfold GX5_total_2_99 at h
    obtain ⟨w, e, h⟩ := lt_some h
    rw [e] at h
    exact ⟨_, _, u14, fun v d z => (emit_PR z a13).1, emit_at a13, emit_ln a13, h⟩
theorem totX_end {rc : Nat → Int32 → Int32 → SX → Option (Int32 × SX)} {n : Nat} {z1 z2 z4 c r : Int32} {u u' : SX} (h42 : ¬ c = 42) (h47 : ¬ c = 47) (h43 : ¬ c = 43) (h45 : ¬ c = 45) (h : (if c = 42 then (GX5_total_2_55 rc (LX5_total_2_7 rc n) z1 z2 z4 c u) else (if c = 47 then (GX5_total_2_55 rc (LX5_total_2_7 rc n) z1 z2 z4 c u) else (GX5_total_2_61 rc (LX5_total_2_7 rc n) z1 z2 z4 c 0 u))) = some (r, u')) : r = 1 ∧ (∀ (v : SX) (d : Int32), PR u v d → PR u' v d) ∧ u'.1 4 = u.1 4 := by
  rw [if_neg h42, if_neg h47] at h
  unfold GX5_total_2_61 at h
  rw [if_pos rfl] at h
  obtain ⟨⟨r13, u14⟩, a13, h⟩ := bd_some h
  have h : (if c = 43 then _ else _) = some (r, u') := h
  rw [if_neg h43, if_neg h45] at h
  unfold GX5_total_2_92 at h
  rw [if_pos rfl] at h
  obtain ⟨-, h⟩ := gd_some h
  have e : (1 : Int32) = r ∧ u14 = u' := by cases h; exact ⟨rfl, rfl⟩
  exact ⟨e.1.symm, fun v d z => by rw [← e.2]; exact (emit_PR z a13).1, by rw [← e.2]; exact emit_at a13⟩
/-- what goes on behind a term: a sum's loop -/
def SumK (dM : Nat) (K : Int32 × SX → Option (Int32 × SX)) : Prop := ∀ q, ∃ (m : Nat) (z : Int32), K q = LX12_sum_0_5 (rX12sumg (dM + 1)) m z q.2
theorem within_some (y : Int64) : ∃ z, fX12_within y = some z := ⟨_, rfl⟩
set_option maxHeartbeats 2000000 in
theorem tot_loop {dX dM : Nat} {k : Int32} (hA : AtmH dX) (hk : Dp k) : ∀ (n : Nat) (z2 z3 z4 : Int32) (u v v2 u' v' : SX) (r r' r1 z : Int32) (m : Nat) (K : Int32 × SX → Option (Int32 × SX)), PR u v k → 0 ≤ z4.toInt → z4.toInt ≤ (u.1 4).toInt → SumK dM K → LX5_total_2_7 (rX5conditiong dX) n k z2 z3 z4 u = some (r, u') → rX12sumg dM 2 0 v = some (r1, v2) → (LX12_term_0_5 (rX12sumg dM) m z v2).bind K = some (r', v') → POST r u' v' k ∧ (u.1 4).toInt ≤ (u'.1 4).toInt := by
  intro n
  induction n with
  | zero => intro z2 z3 z4 u v v2 u' v' r r' r1 z m K _ _ _ _ h; cases h
  | succ n ih =>
    intro z2 z3 z4 u v v2 u' v' r r' r1 z m K hP hz0 hz1 hK h1 ha hb
    have h1 : (if (u.1 1) < z4 then _ else ((rX5conditiong dX 3 k 0 u).bind _)) = some (r, u') := h1
    have al : (u.1 4).toInt ≤ (u.1 1).toInt := hP.2.2.2.2.2.2.2.2.1
    rw [if_neg (fun q => by have := ltI q; omega)] at h1
    obtain ⟨⟨r2, u3⟩, a2, h1⟩ := bd_some h1
    obtain ⟨hpo, hmo⟩ := hA dM k u v u3 v2 r2 r1 hk hP a2 ha
    have h1 : (if r2 = 0 then _ else _) = some (r, u') := h1
    obtain ⟨⟨r3, v4⟩, hb1, hb2⟩ := bd_some hb
    rcases hpo with ⟨n2, hP3⟩ | ⟨e2, f7, fn⟩
    · rw [if_neg n2] at h1
      obtain ⟨⟨r5, u6⟩, a5, h1⟩ := bd_some h1
      obtain ⟨⟨c, u9⟩, a8, h1⟩ := bd_some h1
      obtain ⟨hP6, e6⟩ := emit_PR hP3 a5
      cases m with
      | zero => cases hb1
      | succ m =>
        have p7 : v2.1 7 = -1 := hP6.2.2.2.2.1
        have hb1 : (if (v2.1 7) = (-1) then ((fX12_look_0 v2).bind _) else _) = some (r3, v4) := hb1
        rw [if_pos p7] at hb1
        obtain ⟨⟨c', v5⟩, b4, hb1⟩ := bd_some hb1
        obtain ⟨hP9, hle, hq⟩ := peek_eq hP6 a8 b4
        have hb1 : (if c' = 42 then _ else _) = some (r3, v4) := hb1
        have h1 : (if c = 42 then (GX5_total_2_55 (rX5conditiong dX) (LX5_total_2_7 (rX5conditiong dX) n) k z2 z4 c u9) else (if c = 47 then (GX5_total_2_55 (rX5conditiong dX) (LX5_total_2_7 (rX5conditiong dX) n) k z2 z4 c u9) else (GX5_total_2_61 (rX5conditiong dX) (LX5_total_2_7 (rX5conditiong dX) n) k z2 z4 c 0 u9))) = some (r, u') := h1
        have k42 := pkq_eq hq (k := 42) (by decide) (by decide)
        have k47 := pkq_eq hq (k := 47) (by decide) (by decide)
        have k43 := pkq_eq hq (k := 43) (by decide) (by decide)
        have k45 := pkq_eq hq (k := 45) (by decide) (by decide)
        rw [e6] at hle
        by_cases go : c = 42 ∨ c = 47 ∨ c = 43 ∨ c = 45
        · obtain ⟨z2', z3', w, hw, hw4, hw1, h1⟩ := totX_go go h1
          have hPw := hw _ _ hP9
          have hlt : (u9.1 4).toInt < (u9.1 1).toInt := by
            rcases hq with ⟨q1, -⟩ | ⟨-, -, -, q4, -⟩
            · rw [q1] at go
              exact absurd go (by decide)
            · exact q4
          have b2 : (u9.1 1).toInt ≤ 120 := hP9.2.2.2.2.2.2.2.2.2.1
          have b0 : 0 ≤ (u9.1 4).toInt := hP9.2.2.2.2.2.2.2.1
          have p6 : v5.1 6 = u9.1 4 := hP9.2.2.2.2.2.1
          have e5 : (u9.1 4 + 1).toInt = (u9.1 4).toInt + 1 := addc_t (by decide) (by omega) (by omega)
          have hPn : PR (sI w 4 (w.1 4 + 1)) (sI v5 6 (u9.1 4 + 1)) k := by
            rw [hw4]
            exact PR_at hPw (by rw [e5]; omega) (by rw [e5, hw1]; omega)
          have ez : (z4 + 1).toInt = z4.toInt + 1 := addc_t (by decide) (by omega) (by omega)
          have g0 : 0 ≤ (z4 + 1).toInt := by rw [ez]; omega
          have g1 : (z4 + 1).toInt ≤ ((sI w 4 (w.1 4 + 1)).1 4).toInt := by
            show _ ≤ (w.1 4 + 1).toInt
            rw [hw4, ez, e5]
            omega
          have fin : ∀ {X : Int}, ((sI w 4 (w.1 4 + 1)).1 4).toInt ≤ X → (u.1 4).toInt ≤ X := fun {X} z => by
            have z : (w.1 4 + 1).toInt ≤ X := z
            rw [hw4, e5] at z
            omega
          by_cases tm : c' = 42 ∨ c' = 47
          · -- a term goes on
            have nxt : ∃ (ra : Int32) (va : SX) (z9 : Int32), rX12sumg dM 2 0 (sI v5 6 (u9.1 4 + 1)) = some (ra, va) ∧ LX12_term_0_5 (rX12sumg dM) m z9 va = some (r3, v4) := by
              have go31 : GX12_term_0_31 (rX12sumg dM) (LX12_term_0_5 (rX12sumg dM) m) z v5 = some (r3, v4) := by
                rcases tm with t | t
                · rw [if_pos t] at hb1
                  exact hb1
                · rw [if_neg (by rw [t]; decide)] at hb1
                  obtain ⟨⟨c2, v6⟩, b5, hb1⟩ := bd_some hb1
                  obtain ⟨x1, x2⟩ := look2 hP9 hq b5
                  rw [x1, x2] at hb1
                  have hb1 : (if c' = 47 then _ else _) = some (r3, v4) := hb1
                  rw [if_pos t] at hb1
                  exact hb1
              unfold GX12_term_0_31 at go31
              obtain ⟨⟨c2, v6⟩, b5, go31⟩ := bd_some go31
              obtain ⟨x1, x2⟩ := look2 hP9 hq b5
              rw [x1, x2] at go31
              have both : ∀ y0, GX12_term_0_45 (rX12sumg dM) (LX12_term_0_5 (rX12sumg dM) m) z y0 v5 = some (r3, v4) → ∃ (ra : Int32) (va : SX) (z9 : Int32), rX12sumg dM 2 0 (sI v5 6 (u9.1 4 + 1)) = some (ra, va) ∧ LX12_term_0_5 (rX12sumg dM) m z9 va = some (r3, v4) := fun y0 h => by
                unfold GX12_term_0_45 at h
                obtain ⟨v10, e10, h⟩ := lt_some h
                rw [p6] at e10
                obtain ⟨⟨r12, v13⟩, a12, h⟩ := bd_some h
                rw [e10] at a12
                obtain ⟨v15, e15, h⟩ := lt_some h
                refine ⟨r12, v13, ?_⟩
                have lastly : ∀ y, GX12_term_0_87 (rX12sumg dM) (LX12_term_0_5 (rX12sumg dM) m) y v13 = some (r3, v4) → ∃ z9, rX12sumg dM 2 0 (sI v5 6 (u9.1 4 + 1)) = some (r12, v13) ∧ LX12_term_0_5 (rX12sumg dM) m z9 v13 = some (r3, v4) := fun y h => by
                  unfold GX12_term_0_87 at h
                  obtain ⟨r18, -, h⟩ := bd_some h
                  exact ⟨r18, a12, h⟩
                by_cases y0c : y0 = 0
                · rw [if_pos y0c] at h
                  by_cases cc : lg_cmp v15 0 = 0
                  · rw [if_pos cc] at h
                    exact lastly _ h
                  · rw [if_neg cc] at h
                    obtain ⟨-, h⟩ := gd_some h
                    exact lastly _ h
                · rw [if_neg y0c] at h
                  exact lastly _ h
              have go31 : (if c' = 42 then _ else _) = some (r3, v4) := go31
              by_cases t : c' = 42
              · rw [if_pos t] at go31
                exact both _ go31
              · rw [if_neg t] at go31
                exact both _ go31
            obtain ⟨ra, va, z9, ha', hb'⟩ := nxt
            have q := ih z2' z3' (z4 + 1) _ _ va u' v' r r' ra z9 m K hPn g0 g1 hK h1 ha' (by rw [hb']; exact hb2)
            exact ⟨q.1, fin q.2⟩
          · -- a sum goes on
            have n42 : ¬ c' = 42 := fun z => tm (Or.inl z)
            have n47 : ¬ c' = 47 := fun z => tm (Or.inr z)
            rw [if_neg n42] at hb1
            obtain ⟨⟨c2, v6⟩, b5, hb1⟩ := bd_some hb1
            obtain ⟨x1, x2⟩ := look2 hP9 hq b5
            rw [x1, x2] at hb1
            have hb1 : (if c' = 47 then _ else some (z, v5)) = some (r3, v4) := hb1
            rw [if_neg n47] at hb1
            have e34 : v5 = v4 := by cases hb1; rfl
            obtain ⟨m3, z8, hK8⟩ := hK (r3, v4)
            have hb2 : K (r3, v4) = some (r', v') := hb2
            rw [hK8, ← e34] at hb2
            cases m3 with
            | zero => cases hb2
            | succ m3 =>
              have p75 : v5.1 7 = -1 := hP9.2.2.2.2.1
              have hb2 : (if (v5.1 7) = (-1) then ((fX12_look_0 v5).bind _) else _) = some (r', v') := hb2
              rw [if_pos p75] at hb2
              obtain ⟨⟨c3, v7⟩, b6, hb2⟩ := bd_some hb2
              obtain ⟨x3, x4⟩ := look2 hP9 hq b6
              rw [x3, x4] at hb2
              have hb2 : (if c' = 43 then _ else _) = some (r', v') := hb2
              have c4345 : c' = 43 ∨ c' = 45 := by
                rcases go with g | g | g | g
                · exact absurd (k42.mp g) n42
                · exact absurd (k47.mp g) n47
                · exact Or.inl (k43.mp g)
                · exact Or.inr (k45.mp g)
              have go31 : GX12_sum_0_31 (rX12sumg (dM + 1)) (LX12_sum_0_5 (rX12sumg (dM + 1)) m3) z8 v5 = some (r', v') := by
                rcases c4345 with t | t
                · rw [if_pos t] at hb2
                  exact hb2
                · rw [if_neg (by rw [t]; decide)] at hb2
                  obtain ⟨⟨c5, v8⟩, b7, hb2⟩ := bd_some hb2
                  obtain ⟨x5, x6⟩ := look2 hP9 hq b7
                  rw [x5, x6] at hb2
                  have hb2 : (if c' = 45 then _ else _) = some (r', v') := hb2
                  rw [if_pos t] at hb2
                  exact hb2
              unfold GX12_sum_0_31 at go31
              obtain ⟨⟨c6, v9⟩, b8, go31⟩ := bd_some go31
              obtain ⟨x7, x8⟩ := look2 hP9 hq b8
              rw [x7, x8] at go31
              have both : ∀ y0, GX12_sum_0_45 (rX12sumg (dM + 1)) (LX12_sum_0_5 (rX12sumg (dM + 1)) m3) z8 y0 v5 = some (r', v') → POST r u' v' k ∧ ((sI w 4 (w.1 4 + 1)).1 4).toInt ≤ (u'.1 4).toInt := fun y0 h => by
                unfold GX12_sum_0_45 at h
                obtain ⟨v10, e10, h⟩ := lt_some h
                rw [p6] at e10
                obtain ⟨⟨r12, v13⟩, a12, h⟩ := bd_some h
                rw [rS_1] at a12
                unfold fX12_term_0 at a12
                obtain ⟨⟨ra, va⟩, ha', a12⟩ := bd_some a12
                rw [e10] at ha'
                have a12 : LX12_term_0_5 (rX12sumg dM) 5000 ra va = some (r12, v13) := a12
                refine ih z2' z3' (z4 + 1) _ _ va u' v' r r' ra ra 5000 (fun q => (lt (q.1.toInt64) fun v15 => (if y0 = 0 then (GX12_sum_0_77 (rX12sumg (dM + 1)) (LX12_sum_0_5 (rX12sumg (dM + 1)) m3) ((z8.toInt64) - v15) q.2) else (GX12_sum_0_77 (rX12sumg (dM + 1)) (LX12_sum_0_5 (rX12sumg (dM + 1)) m3) ((z8.toInt64) + v15) q.2)))) hPn g0 g1 (fun q => ?_) h1 ha' (by rw [a12]; exact h)
                by_cases y0c : y0 = 0
                · obtain ⟨s, es⟩ := within_some (z8.toInt64 - q.1.toInt64)
                  refine ⟨m3, s, ?_⟩
                  show (if y0 = 0 then _ else _) = _
                  rw [if_pos y0c]
                  unfold GX12_sum_0_77
                  rw [es]
                  rfl
                · obtain ⟨s, es⟩ := within_some (z8.toInt64 + q.1.toInt64)
                  refine ⟨m3, s, ?_⟩
                  show (if y0 = 0 then _ else _) = _
                  rw [if_neg y0c]
                  unfold GX12_sum_0_77
                  rw [es]
                  rfl
              have go31 : (if c' = 43 then _ else _) = some (r', v') := go31
              by_cases t : c' = 43
              · rw [if_pos t] at go31
                have q := both _ go31
                exact ⟨q.1, fin q.2⟩
              · rw [if_neg t] at go31
                have q := both _ go31
                exact ⟨q.1, fin q.2⟩
        · -- the end of the sum
          have n42 : ¬ c = 42 := fun z => go (Or.inl z)
          have n47 : ¬ c = 47 := fun z => go (Or.inr (Or.inl z))
          have n43 : ¬ c = 43 := fun z => go (Or.inr (Or.inr (Or.inl z)))
          have n45 : ¬ c = 45 := fun z => go (Or.inr (Or.inr (Or.inr z)))
          obtain ⟨er, hPu, hu4⟩ := totX_end n42 n47 n43 n45 h1
          rw [if_neg (fun z => n42 (k42.mpr z))] at hb1
          obtain ⟨⟨c2, v6⟩, b5, hb1⟩ := bd_some hb1
          obtain ⟨x1, x2⟩ := look2 hP9 hq b5
          rw [x1, x2] at hb1
          have hb1 : (if c' = 47 then _ else some (z, v5)) = some (r3, v4) := hb1
          rw [if_neg (fun z => n47 (k47.mpr z))] at hb1
          have e34 : v5 = v4 := by cases hb1; rfl
          obtain ⟨m3, z8, hK8⟩ := hK (r3, v4)
          have hb2 : K (r3, v4) = some (r', v') := hb2
          rw [hK8, ← e34] at hb2
          cases m3 with
          | zero => cases hb2
          | succ m3 =>
            have p75 : v5.1 7 = -1 := hP9.2.2.2.2.1
            have hb2 : (if (v5.1 7) = (-1) then ((fX12_look_0 v5).bind _) else _) = some (r', v') := hb2
            rw [if_pos p75] at hb2
            obtain ⟨⟨c3, v7⟩, b6, hb2⟩ := bd_some hb2
            obtain ⟨x3, x4⟩ := look2 hP9 hq b6
            rw [x3, x4] at hb2
            have hb2 : (if c' = 43 then _ else _) = some (r', v') := hb2
            rw [if_neg (fun z => n43 (k43.mpr z))] at hb2
            obtain ⟨⟨c5, v8⟩, b7, hb2⟩ := bd_some hb2
            obtain ⟨x5, x6⟩ := look2 hP9 hq b7
            rw [x5, x6] at hb2
            have hb2 : (if c' = 45 then _ else some (z8, v5)) = some (r', v') := hb2
            rw [if_neg (fun z => n45 (k45.mpr z))] at hb2
            have e5 : v5 = v' := by cases hb2; rfl
            rw [er, ← e5]
            exact ⟨Or.inl ⟨by decide, hPu _ _ hP9⟩, by rw [hu4]; omega⟩
    · rw [if_pos e2] at h1
      obtain ⟨-, h1⟩ := gd_some h1
      have e1 : (0 : Int32) = r ∧ u3 = u' := by cases h1; exact ⟨rfl, rfl⟩
      have n7 : ¬ v2.1 7 = -1 := POST_n7 f7 fn
      have e4 : v4 = v2 := term_still n7 hb1
      obtain ⟨m3, z8, hK8⟩ := hK (r3, v4)
      have hb2 : K (r3, v4) = some (r', v') := hb2
      rw [hK8, e4] at hb2
      have e5 : v' = v2 := sum_still n7 hb2
      rw [← e1.1, ← e1.2, e5]
      exact ⟨Or.inr ⟨rfl, f7, fn⟩, hmo⟩
theorem total_eq {dX : Nat} (hA : AtmH dX) : TotH (dX + 1) := by
  intro dM k u v u' v' r r' hk hP h1 h2
  cases dM with
  | zero => cases h2
  | succ dM =>
    rw [rX_2] at h1
    unfold fX5_total_2 at h1
    rw [rS_0] at h2
    unfold fX12_sum_0 at h2
    generalize (5000 : Nat) = N1 at h1
    generalize (5000 : Nat) = N2 at h2
    obtain ⟨⟨r1, v1⟩, a1, h2⟩ := bd_some h2
    cases dM with
    | zero => cases a1
    | succ dM =>
      rw [rS_1] at a1
      unfold fX12_term_0 at a1
      generalize (5000 : Nat) = N3 at a1
      obtain ⟨⟨ra, va⟩, ha, a1⟩ := bd_some a1
      have a1 : LX12_term_0_5 (rX12sumg dM) N3 ra va = some (r1, v1) := a1
      exact tot_loop hA hk N1 0 0 0 u v va u' v' r r' ra ra N3 (fun q => LX12_sum_0_5 (rX12sumg (dM + 1)) N2 q.1 q.2) hP (by decide) hP.2.2.2.2.2.2.2.1 (fun q => ⟨N2, q.1, rfl⟩) h1 ha (by rw [a1]; exact h2)
theorem sums_eq : ∀ dX, TotH dX ∧ AtmH dX := by
  intro dX
  induction dX with
  | zero => exact ⟨fun dM k u v u' v' r r' _ _ h => (by cases h), fun dM k u v u' v' r r' _ _ h => (by cases h)⟩
  | succ dX ih => exact ⟨total_eq ih.2, atom_eq ih.1⟩
