/-! Both parsers: signs, digits. -/
def TapeR (u v : SX) (n : Int) : Prop := ∀ i : Nat, (i : Int) < n → (1 ≤ (u.2.1 13 i).toInt ∧ (u.2.1 13 i).toInt ≤ 255) ∧ v.2.1 1 i &&& 255 = u.2.1 13 i ∧ (((u.2.1 13 i).toInt ≤ 127 ∧ v.2.1 1 i = u.2.1 13 i) ∨ (128 ≤ (u.2.1 13 i).toInt ∧ (v.2.1 1 i).toInt < 0))
/-- both stand at the same place, nothing has failed -/
def PR (u v : SX) (d : Int32) : Prop := u.1 1 = v.1 5 ∧ v.1 2 = 2 ∧ v.1 4 = 0 ∧ ((u.1 3 = 0 ∧ v.1 10 = 5) ∨ (u.1 3 = 1 ∧ v.1 10 = 6) ∨ (u.1 3 = 2 ∧ v.1 10 = 7)) ∧ v.1 7 = -1 ∧ v.1 6 = u.1 4 ∧ v.1 8 = d ∧ 0 ≤ (u.1 4).toInt ∧ (u.1 4).toInt ≤ (u.1 1).toInt ∧ (u.1 1).toInt ≤ 120 ∧ TapeR u v (u.1 1).toInt
/-- what X's peek and M's look have seen -/
def PKQ (c c' : Int32) (u : SX) : Prop := (c = 0 ∧ c' = -1 ∧ (u.1 4).toInt = (u.1 1).toInt) ∨ (c = c' ∧ 1 ≤ c.toInt ∧ c.toInt ≤ 255 ∧ (u.1 4).toInt < (u.1 1).toInt ∧ c = u.2.1 13 (u.1 4).toNatClampNeg ∧ ¬ c = 32)
/-- gone well, or failed at the same place -/
def POST (r : Int32) (u v : SX) (d : Int32) : Prop := (¬ r = 0 ∧ PR u v d) ∨ (r = 0 ∧ v.1 7 = u.1 4 ∧ 0 ≤ (u.1 4).toInt)
theorem PR_at {u v : SX} {d x : Int32} (h : PR u v d) (h0 : 0 ≤ x.toInt) (h1 : x.toInt ≤ (u.1 1).toInt) : PR (sI u 4 x) (sI v 6 x) d := by
  obtain ⟨pl, p2, p4, pt, p7, p6, p8, a0, a1, a2, pT⟩ := h
  exact ⟨pl, p2, p4, pt, p7, rfl, p8, h0, h1, a2, pT⟩
theorem PR_deep {u v : SX} {d e : Int32} (h : PR u v d) : PR u (sI v 8 e) e := by
  obtain ⟨pl, p2, p4, pt, p7, p6, p8, a0, a1, a2, pT⟩ := h
  exact ⟨pl, p2, p4, pt, p7, p6, rfl, a0, a1, a2, pT⟩
theorem emit_PR {c w r d : Int32} {u u' v : SX} (h : PR u v d) (he : fX5_emit_2 c w u = some (r, u')) : PR u' v d ∧ u'.1 4 = u.1 4 := by
  unfold fX5_emit_2 at he
  by_cases c0 : c = 0
  · rw [if_pos c0] at he
    cases he
    exact ⟨h, rfl⟩
  · rw [if_neg c0] at he
    by_cases c1 : 121 ≤ u.1 2
    · rw [if_pos c1] at he
      cases he
      exact ⟨h, rfl⟩
    · rw [if_neg c1] at he
      obtain ⟨-, he⟩ := gd_some he
      obtain ⟨u2, e2, he⟩ := lt_some he
      obtain ⟨u4, e4, he⟩ := lt_some he
      cases he
      subst e4 e2
      exact ⟨h, rfl⟩
theorem emit_at {c w r : Int32} {u u' : SX} (he : fX5_emit_2 c w u = some (r, u')) : u'.1 4 = u.1 4 := by
  unfold fX5_emit_2 at he
  by_cases c0 : c = 0
  · rw [if_pos c0] at he
    cases he
    rfl
  · rw [if_neg c0] at he
    by_cases c1 : 121 ≤ u.1 2
    · rw [if_pos c1] at he
      cases he
      rfl
    · rw [if_neg c1] at he
      obtain ⟨-, he⟩ := gd_some he
      obtain ⟨u2, e2, he⟩ := lt_some he
      obtain ⟨u4, e4, he⟩ := lt_some he
      cases he
      subst e4 e2
      rfl
theorem emit_ln {c w r : Int32} {u u' : SX} (he : fX5_emit_2 c w u = some (r, u')) : u'.1 1 = u.1 1 := by
  unfold fX5_emit_2 at he
  by_cases c0 : c = 0
  · rw [if_pos c0] at he
    cases he
    rfl
  · rw [if_neg c0] at he
    by_cases c1 : 121 ≤ u.1 2
    · rw [if_pos c1] at he
      cases he
      rfl
    · rw [if_neg c1] at he
      obtain ⟨-, he⟩ := gd_some he
      obtain ⟨u2, e2, he⟩ := lt_some he
      obtain ⟨u4, e4, he⟩ := lt_some he
      cases he
      subst e4 e2
      rfl
theorem z0add (x : Int32) : (0 : Int32) + x = x := by simp
theorem PR_sgn {u v : SX} {d : Int32} (h : PR u v d) (hlt : (u.1 4).toInt < (u.1 1).toInt) : (1 ≤ (u.2.1 13 (u.1 4).toNatClampNeg).toInt ∧ (u.2.1 13 (u.1 4).toNatClampNeg).toInt ≤ 255) ∧ v.2.1 1 (u.1 4).toNatClampNeg &&& 255 = u.2.1 13 (u.1 4).toNatClampNeg ∧ (((u.2.1 13 (u.1 4).toNatClampNeg).toInt ≤ 127 ∧ v.2.1 1 (u.1 4).toNatClampNeg = u.2.1 13 (u.1 4).toNatClampNeg) ∨ (128 ≤ (u.2.1 13 (u.1 4).toNatClampNeg).toInt ∧ (v.2.1 1 (u.1 4).toNatClampNeg).toInt < 0)) := by
  obtain ⟨pl, p2, p4, pt, p7, p6, p8, a0, a1, a2, pT⟩ := h
  exact pT _ (by show (((u.1 4).toInt.toNat : Nat) : Int) < _; omega)
theorem sp_eq {x y : Int32} {k : Int32} {n : Int} (hk : k.toInt = n) (h0 : 0 ≤ n) (h1 : n ≤ 127) (h : (x.toInt ≤ 127 ∧ y = x) ∨ (128 ≤ x.toInt ∧ y.toInt < 0)) : y = k ↔ x = k := by
  constructor
  · intro e
    rcases h with ⟨-, h⟩ | ⟨-, h⟩
    · rw [← h]; exact e
    · rw [e, hk] at h; omega
  · intro e
    rcases h with ⟨-, h⟩ | ⟨h, -⟩
    · rw [h]; exact e
    · rw [e, hk] at h; omega
theorem pkk_eq {d : Int32} : ∀ (n m : Nat) (u v u' v' : SX) (c c' : Int32), PR u v d → LX5_peek_2_0 GX5_peek_2_44 n u = some (c, u') → LX12_look_0_0 GX12_look_0_43 m v = some (c', v') → PR u' v' d ∧ (u.1 4).toInt ≤ (u'.1 4).toInt ∧ PKQ c c' u' := by
  intro n
  induction n with
  | zero => intro m u v u' v' c c' _ h; cases h
  | succ n ih =>
    intro m u v u' v' c c' hP h1 h2
    cases m with
    | zero => cases h2
    | succ m =>
      have hP0 := hP
      obtain ⟨pl, p2, p4, pt, p7, p6, p8, a0, a1, a2, pT⟩ := hP
      have h1 : (if u.1 1 ≤ u.1 4 then GX5_peek_2_44 u else (gd (inb (u.1 4) 120) (if u.2.1 13 (u.1 4).toNatClampNeg = 32 then lt (sI u 4 (u.1 4 + 1)) (fun u2 => LX5_peek_2_0 GX5_peek_2_44 n u2) else GX5_peek_2_44 u))) = some (c, u') := h1
      have h2 : (if v.1 5 ≤ v.1 6 then GX12_look_0_43 v else (if v.1 2 = 2 then (gd (inb (v.1 4 + v.1 6) 120) (if v.2.1 1 (v.1 4 + v.1 6).toNatClampNeg = 32 then lt (sI v 6 (v.1 6 + 1)) (fun u2 => LX12_look_0_0 GX12_look_0_43 m u2) else GX12_look_0_43 v)) else _)) = some (c', v') := h2
      rw [← pl, p6, p4, z0add] at h2
      by_cases e : u.1 1 ≤ u.1 4
      · rw [if_pos e] at h1 h2
        unfold GX5_peek_2_44 at h1
        unfold GX12_look_0_43 at h2
        rw [← pl, p6, if_pos e] at h2
        rw [if_pos e] at h1
        cases h1
        cases h2
        refine ⟨hP0, Int.le_refl _, Or.inl ⟨rfl, rfl, ?_⟩⟩
        have := leI e
        omega
      · rw [if_neg e] at h1 h2
        have e9 : ¬ (u.1 1).toInt ≤ (u.1 4).toInt := nleI e
        have e5 : (u.1 4 + 1).toInt = (u.1 4).toInt + 1 := addc_t (by decide) (by omega) (by omega)
        rw [if_pos p2] at h2
        obtain ⟨-, h1⟩ := gd_some h1
        obtain ⟨-, h2⟩ := gd_some h2
        obtain ⟨⟨b1, b2⟩, hm, hraw⟩ := PR_sgn hP0 (by omega)
        have hs := sp_eq (k := 32) (n := 32) (by decide) (by decide) (by decide) hraw
        by_cases s : u.2.1 13 (u.1 4).toNatClampNeg = 32
        · rw [if_pos s] at h1
          rw [if_pos (hs.mpr s)] at h2
          obtain ⟨u2, j1, h1⟩ := lt_some h1
          obtain ⟨v2, j2, h2⟩ := lt_some h2
          have q := ih m u2 v2 u' v' c c' (by rw [j1, j2]; exact PR_at hP0 (by rw [e5]; omega) (by rw [e5]; omega)) h1 h2
          refine ⟨q.1, ?_, q.2.2⟩
          have q2 := q.2.1
          have k : u2.1 4 = u.1 4 + 1 := by rw [j1]; rfl
          rw [k, e5] at q2
          omega
        · rw [if_neg s] at h1
          rw [if_neg (fun z => s (hs.mp z))] at h2
          unfold GX5_peek_2_44 at h1
          unfold GX12_look_0_43 at h2
          rw [← pl, p6, if_neg e, if_pos p2, p4, z0add] at h2
          rw [if_neg e] at h1
          obtain ⟨-, h1⟩ := gd_some h1
          obtain ⟨-, h2⟩ := gd_some h2
          cases h1
          cases h2
          exact ⟨hP0, Int.le_refl _, Or.inr ⟨hm.symm, b1, b2, by omega, rfl, s⟩⟩
theorem peek_eq {d : Int32} {u v u' v' : SX} {c c' : Int32} (hP : PR u v d) (h1 : fX5_peek_2 u = some (c, u')) (h2 : fX12_look_0 v = some (c', v')) : PR u' v' d ∧ (u.1 4).toInt ≤ (u'.1 4).toInt ∧ PKQ c c' u' := pkk_eq 5000 5000 u v u' v' c c' hP h1 h2
/-- a second look sees the same -/
theorem lk2 {d : Int32} {u v v' : SX} {c c' c2 : Int32} (hP : PR u v d) (hq : PKQ c c' u) : ∀ m, LX12_look_0_0 GX12_look_0_43 m v = some (c2, v') → c2 = c' ∧ v' = v := by
  intro m h2
  cases m with
  | zero => cases h2
  | succ m =>
    have hP0 := hP
    obtain ⟨pl, p2, p4, pt, p7, p6, p8, a0, a1, a2, pT⟩ := hP
    have h2 : (if v.1 5 ≤ v.1 6 then GX12_look_0_43 v else (if v.1 2 = 2 then (gd (inb (v.1 4 + v.1 6) 120) (if v.2.1 1 (v.1 4 + v.1 6).toNatClampNeg = 32 then lt (sI v 6 (v.1 6 + 1)) (fun u2 => LX12_look_0_0 GX12_look_0_43 m u2) else GX12_look_0_43 v)) else _)) = some (c2, v') := h2
    rw [← pl, p6, p4, z0add] at h2
    rcases hq with ⟨q1, q2, q3⟩ | ⟨q1, q2, q3, q4, q5, q6⟩
    · have e : u.1 1 ≤ u.1 4 := Int32.le_iff_toInt_le.mpr (by omega)
      rw [if_pos e] at h2
      unfold GX12_look_0_43 at h2
      rw [← pl, p6, if_pos e] at h2
      cases h2
      exact ⟨q2.symm, rfl⟩
    · have e : ¬ u.1 1 ≤ u.1 4 := fun z => by
        have := leI z
        omega
      rw [if_neg e, if_pos p2] at h2
      obtain ⟨-, h2⟩ := gd_some h2
      obtain ⟨⟨b1, b2⟩, hm, hraw⟩ := PR_sgn hP0 q4
      have hs := sp_eq (k := 32) (n := 32) (by decide) (by decide) (by decide) hraw
      rw [if_neg (fun z => q6 (q5.trans (hs.mp z)))] at h2
      unfold GX12_look_0_43 at h2
      rw [← pl, p6, if_neg e, if_pos p2, p4, z0add] at h2
      obtain ⟨-, h2⟩ := gd_some h2
      cases h2
      exact ⟨by rw [hm, ← q5]; exact q1, rfl⟩
theorem look2 {d : Int32} {u v v' : SX} {c c' c2 : Int32} (hP : PR u v d) (hq : PKQ c c' u) (h : fX12_look_0 v = some (c2, v')) : c2 = c' ∧ v' = v := lk2 hP hq 5000 h
/-- signs are alike where they are signs of the grammar -/
theorem pkq_eq {c c' k : Int32} {u : SX} (hq : PKQ c c' u) (h0 : ¬ k = 0) (h1 : ¬ k = -1) : c = k ↔ c' = k := by
  rcases hq with ⟨q1, q2, -⟩ | ⟨q1, -⟩
  · rw [q1, q2]
    exact ⟨fun z => absurd z.symm h0, fun z => absurd z.symm h1⟩
  · rw [q1]
theorem fails_at {v v' : SX} {r : Int32} (h7 : v.1 7 = -1) (h : fX12_fails_0 v = some (r, v')) : r = 0 ∧ v' = sI v 7 (v.1 6) := by
  unfold fX12_fails_0 at h
  rw [if_pos h7] at h
  obtain ⟨u2, e2, h⟩ := lt_some h
  obtain ⟨-, h⟩ := gd_some h
  have e : (0 : Int32) = r ∧ u2 = v' := by cases h; exact ⟨rfl, rfl⟩
  exact ⟨e.1.symm, by rw [← e.2, e2]⟩
theorem fails_still {v v' : SX} {r : Int32} (h7 : ¬ v.1 7 = -1) (h : fX12_fails_0 v = some (r, v')) : r = 0 ∧ v' = v := by
  unfold fX12_fails_0 at h
  rw [if_neg h7] at h
  obtain ⟨-, h⟩ := gd_some h
  have e : (0 : Int32) = r ∧ v = v' := by cases h; exact ⟨rfl, rfl⟩
  exact ⟨e.1.symm, e.2.symm⟩
theorem takes_still {x r : Int32} {v v' : SX} (h7 : ¬ v.1 7 = -1) (h : fX12_takes_0 x v = some (r, v')) : r = 0 ∧ v' = v := by
  unfold fX12_takes_0 at h
  rw [if_neg h7] at h
  unfold GX12_takes_0_16 at h
  obtain ⟨⟨r1, v1⟩, a1, h⟩ := bd_some h
  obtain ⟨-, h⟩ := gd_some h
  obtain ⟨f1, f2⟩ := fails_still h7 a1
  have e : r1 = r ∧ v1 = v' := by cases h; exact ⟨rfl, rfl⟩
  exact ⟨by rw [← e.1, f1], by rw [← e.2, f2]⟩
/-- failing where both stand -/
theorem fail_post {u v v' : SX} {d r : Int32} (hP : PR u v d) (h : fX12_fails_0 v = some (r, v')) : POST 0 u v' d := by
  obtain ⟨pl, p2, p4, pt, p7, p6, p8, a0, a1, a2, pT⟩ := hP
  obtain ⟨-, f2⟩ := fails_at p7 h
  refine Or.inr ⟨rfl, ?_, a0⟩
  rw [f2]
  exact p6
theorem takes_eq {x r r' d : Int32} {u v u' v' : SX} (h0 : ¬ x = 0) (hm1 : ¬ x = -1) (hP : PR u v d) (h1 : fX5_takes_2 x u = some (r, u')) (h2 : fX12_takes_0 x v = some (r', v')) : r = r' ∧ POST r u' v' d ∧ (u.1 4).toInt ≤ (u'.1 4).toInt := by
  have p7 : v.1 7 = -1 := hP.2.2.2.2.1
  unfold fX5_takes_2 at h1
  unfold fX12_takes_0 at h2
  rw [if_pos p7] at h2
  obtain ⟨⟨c, u2⟩, a1, h1⟩ := bd_some h1
  obtain ⟨⟨c', v2⟩, a2, h2⟩ := bd_some h2
  obtain ⟨hP2, hle, hq⟩ := peek_eq hP a1 a2
  have h1 : (if c = x then _ else _) = some (r, u') := h1
  have h2 : (if c' = x then _ else _) = some (r', v') := h2
  have hk := pkq_eq hq h0 hm1
  by_cases e : c = x
  · rw [if_pos e] at h1
    rw [if_pos (hk.mp e)] at h2
    obtain ⟨u4, j4, h1⟩ := lt_some h1
    obtain ⟨v4, i4, h2⟩ := lt_some h2
    obtain ⟨-, h1⟩ := gd_some h1
    obtain ⟨-, h2⟩ := gd_some h2
    have e1 : (1 : Int32) = r ∧ u4 = u' := by cases h1; exact ⟨rfl, rfl⟩
    have e2 : (1 : Int32) = r' ∧ v4 = v' := by cases h2; exact ⟨rfl, rfl⟩
    have hlt : (u2.1 4).toInt < (u2.1 1).toInt := by
      rcases hq with ⟨q1, -⟩ | ⟨-, -, -, q4, -⟩
      · exact absurd (e.symm.trans q1) h0
      · exact q4
    have b : (u2.1 1).toInt ≤ 120 := hP2.2.2.2.2.2.2.2.2.2.1
    have b0 : 0 ≤ (u2.1 4).toInt := hP2.2.2.2.2.2.2.2.1
    have p6 : v2.1 6 = u2.1 4 := hP2.2.2.2.2.2.1
    have e5 : (u2.1 4 + 1).toInt = (u2.1 4).toInt + 1 := addc_t (by decide) (by omega) (by omega)
    rw [p6] at i4
    refine ⟨e1.1.symm.trans e2.1, Or.inl ⟨by rw [← e1.1]; decide, ?_⟩, ?_⟩
    · rw [← e1.2, ← e2.2, j4, i4]
      exact PR_at hP2 (by rw [e5]; omega) (by rw [e5]; omega)
    · rw [← e1.2, j4]
      show _ ≤ (u2.1 4 + 1).toInt
      rw [e5]
      omega
  · rw [if_neg e] at h1
    rw [if_neg (fun z => e (hk.mpr z))] at h2
    obtain ⟨-, h1⟩ := gd_some h1
    unfold GX12_takes_0_16 at h2
    obtain ⟨⟨r1, v3⟩, a3, h2⟩ := bd_some h2
    obtain ⟨-, h2⟩ := gd_some h2
    have p72 : v2.1 7 = -1 := hP2.2.2.2.2.1
    obtain ⟨f1, f2⟩ := fails_at p72 a3
    have e1 : (0 : Int32) = r ∧ u2 = u' := by cases h1; exact ⟨rfl, rfl⟩
    have e2 : r1 = r' ∧ v3 = v' := by cases h2; exact ⟨rfl, rfl⟩
    refine ⟨by rw [← e1.1, ← e2.1, f1], ?_, by rw [← e1.2]; exact hle⟩
    rw [← e1.1, ← e1.2, ← e2.2]
    exact fail_post hP2 a3
