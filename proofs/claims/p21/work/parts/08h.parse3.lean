/-! Both parsers: atoms. -/
set_option maxRecDepth 100000 in
theorem nl4 : ∀ n : Fin 256, (n.val = 91 ∨ (48 ≤ n.val ∧ n.val ≤ 57)) → fJ0_indexOf_0f7a4_s4 (Int32.ofNat n.val) = some (-1) := by decide +kernel
set_option maxRecDepth 100000 in
theorem nl5 : ∀ n : Fin 256, (n.val = 91 ∨ (48 ≤ n.val ∧ n.val ≤ 57)) → fJ0_indexOf_0f7a4_s5 (Int32.ofNat n.val) = some (-1) := by decide +kernel
set_option maxRecDepth 100000 in
theorem nl6 : ∀ n : Fin 256, (n.val = 91 ∨ (48 ≤ n.val ∧ n.val ≤ 57)) → fJ0_indexOf_0f7a4_s6 (Int32.ofNat n.val) = some (-1) := by decide +kernel
theorem fin_in {c : Int32} {n : Fin 256} (e : c = Int32.ofNat n.val) : c.toInt = (n.val : Int) := by
  rw [e]
  exact Int32.toInt_ofNat_of_lt (by have := n.isLt; omega)
theorem dig_still {r : Int32} {v v' : SX} (h : fX12_isDigit_0 v = some (r, v')) : v' = v := by
  unfold fX12_isDigit_0 at h
  by_cases c1 : v.1 5 ≤ v.1 6
  · rw [if_pos c1] at h
    obtain ⟨-, h⟩ := gd_some h
    cases h
    rfl
  · rw [if_neg c1] at h
    by_cases c2 : v.1 2 = 2
    · rw [if_pos c2] at h
      obtain ⟨-, h⟩ := gd_some h
      by_cases c3 : v.2.1 1 (v.1 4 + v.1 6).toNatClampNeg < 48
      · rw [if_pos c3] at h
        obtain ⟨-, h⟩ := gd_some h
        cases h
        rfl
      · rw [if_neg c3, if_pos c2] at h
        obtain ⟨-, h⟩ := gd_some h
        by_cases c4 : 57 < v.2.1 1 (v.1 4 + v.1 6).toNatClampNeg
        · rw [if_pos c4] at h
          obtain ⟨-, h⟩ := gd_some h
          cases h
          rfl
        · rw [if_neg c4] at h
          obtain ⟨-, h⟩ := gd_some h
          cases h
          rfl
    · rw [if_neg c2] at h
      by_cases c5 : v.1 2 = 3
      · rw [if_pos c5] at h
        obtain ⟨-, h⟩ := gd_some h
        by_cases c3 : v.2.1 2 (v.1 4 + v.1 6).toNatClampNeg < 48
        · rw [if_pos c3] at h
          obtain ⟨-, h⟩ := gd_some h
          cases h
          rfl
        · rw [if_neg c3, if_neg c2, if_pos c5] at h
          obtain ⟨-, h⟩ := gd_some h
          by_cases c4 : 57 < v.2.1 2 (v.1 4 + v.1 6).toNatClampNeg
          · rw [if_pos c4] at h
            obtain ⟨-, h⟩ := gd_some h
            cases h
            rfl
          · rw [if_neg c4] at h
            obtain ⟨-, h⟩ := gd_some h
            cases h
            rfl
      · rw [if_neg c5] at h
        cases h
theorem num_still {rc : Nat → Int32 → SX → Option (Int32 × SX)} {k : SX → Option (Int32 × SX)} {m : Nat} {z z3 r : Int32} {v v' : SX} (h7 : ¬ v.1 7 = -1) (h : LX12_atom_0_97 rc k m z z3 v = some (r, v')) : v' = v := by
  cases m with
  | zero => cases h
  | succ m =>
    have h : ((fX12_isDigit_0 v).bind _) = some (r, v') := h
    obtain ⟨⟨r7, v8⟩, a7, h⟩ := bd_some h
    have e := dig_still a7
    rw [e] at h
    have h : (if r7 = 0 then some (z, v) else _) = some (r, v') := h
    by_cases c : r7 = 0
    · rw [if_pos c] at h
      cases h
      rfl
    · rw [if_neg c, if_neg h7] at h
      cases h
      rfl
/-- letters: X's and M's place of a sign -/
theorem let_eq {rc : Nat → Int32 → Int32 → SX → Option (Int32 × SX)} {rM : Nat → Int32 → SX → Option (Int32 × SX)} {c d r : Int32} {u v v' : SX} (hP : PR u v d) (h1 : 1 ≤ c.toInt) (h2 : c.toInt ≤ 255)
    (h : (if c = (-1) then (GX12_atom_0_38 rM c v) else (if v.1 10 = 5 then ((fJ0_indexOf_0f7a4_s4 c).bind fun r37 => (if r37 < 0 then (GX12_atom_0_38 rM c v) else (lt (sI v 6 ((v.1 6) + 1)) fun u40 => (gd (inb c 128) (some (u40.2.1 5 c.toNatClampNeg, u40)))))) else (if v.1 10 = 6 then ((fJ0_indexOf_0f7a4_s5 c).bind fun r43 => (if r43 < 0 then (GX12_atom_0_38 rM c v) else (lt (sI v 6 ((v.1 6) + 1)) fun u46 => (gd (inb c 128) (some (u46.2.1 5 c.toNatClampNeg, u46)))))) else (if v.1 10 = 7 then ((fJ0_indexOf_0f7a4_s6 c).bind fun r49 => (if r49 < 0 then (GX12_atom_0_38 rM c v) else (lt (sI v 6 ((v.1 6) + 1)) fun u52 => (gd (inb c 128) (some (u52.2.1 5 c.toNatClampNeg, u52)))))) else none)))) = some (r, v')) :
    ∃ j : Int32, GX5_atom_2_87 rc c u = GX5_atom_2_104 rc j u ∧ (if j < 0 then (GX12_atom_0_38 rM c v) else (lt (sI v 6 ((v.1 6) + 1)) fun u40 => (gd (inb c 128) (some (u40.2.1 5 c.toNatClampNeg, u40))))) = some (r, v') ∧ ((c = 91 ∨ (48 ≤ c.toInt ∧ c.toInt ≤ 57)) → j = -1) := by
  obtain ⟨pl, p2, p4, pt, p7, p6, p8, a0, a1, a2, pT⟩ := hP
  obtain ⟨n, en⟩ := fin_of (c := c) (by omega) h2
  have hn := fin_in en
  have nc : ¬ c = -1 := fun z => by
    have z9 : c.toInt = (-1 : Int) := eqI z
    omega
  have n0 : ¬ c = 0 := fun z => by
    have z9 : c.toInt = (0 : Int) := eqI z
    omega
  rw [if_neg nc] at h
  have hcond : (c = 91 ∨ (48 ≤ c.toInt ∧ c.toInt ≤ 57)) → (n.val = 91 ∨ (48 ≤ n.val ∧ n.val ≤ 57)) := fun z => by
    rcases z with z | z
    · have z9 : c.toInt = (91 : Int) := eqI z
      omega
    · omega
  rcases pt with ⟨t1, t2⟩ | ⟨t1, t2⟩ | ⟨t1, t2⟩
  · rw [if_pos t2] at h
    obtain ⟨j, aj, h⟩ := bd_some h
    refine ⟨j, ?_, h, fun z => ?_⟩
    · unfold GX5_atom_2_87
      rw [if_neg n0, if_pos t1, en, ix0 n, ← en, aj]
      rfl
    · have := nl4 n (hcond z)
      rw [← en, aj] at this
      exact Option.some.inj this
  · rw [if_neg (by rw [t2]; decide), if_pos t2] at h
    obtain ⟨j, aj, h⟩ := bd_some h
    refine ⟨j, ?_, h, fun z => ?_⟩
    · unfold GX5_atom_2_87
      rw [if_neg n0, if_neg (by rw [t1]; decide), if_pos t1, en, ix1 n, ← en, aj]
      rfl
    · have := nl5 n (hcond z)
      rw [← en, aj] at this
      exact Option.some.inj this
  · rw [if_neg (by rw [t2]; decide), if_neg (by rw [t2]; decide), if_pos t2] at h
    obtain ⟨j, aj, h⟩ := bd_some h
    refine ⟨j, ?_, h, fun z => ?_⟩
    · unfold GX5_atom_2_87
      rw [if_neg n0, if_neg (by rw [t1]; decide), if_neg (by rw [t1]; decide), if_pos t1, en, ix2 n, ← en, aj]
      rfl
    · have := nl6 n (hcond z)
      rw [← en, aj] at this
      exact Option.some.inj this
def Dp (k : Int32) : Prop := 0 ≤ k.toInt ∧ k.toInt ≤ 6
def TotH (dX : Nat) : Prop := ∀ (dM : Nat) (k : Int32) (u v u' v' : SX) (r r' : Int32), Dp k → PR u v k → rX5conditiong dX 2 k 0 u = some (r, u') → rX12sumg dM 0 0 v = some (r', v') → POST r u' v' k ∧ (u.1 4).toInt ≤ (u'.1 4).toInt
def AtmH (dX : Nat) : Prop := ∀ (dM : Nat) (k : Int32) (u v u' v' : SX) (r r' : Int32), Dp k → PR u v k → rX5conditiong dX 3 k 0 u = some (r, u') → rX12sumg dM 2 0 v = some (r', v') → POST r u' v' k ∧ (u.1 4).toInt ≤ (u'.1 4).toInt
set_option maxHeartbeats 1000000 in
theorem atom_eq {dX : Nat} (hT : TotH dX) : AtmH (dX + 1) := by
  intro dM k u v u' v' r r' hk hP h1 h2
  cases dM with
  | zero => cases h2
  | succ dM =>
    have h1 : fX5_atom_2 (rX5conditiong dX) k u = some (r, u') := h1
    have h2 : fX12_atom_0 (rX12sumg dM) v = some (r', v') := h2
    unfold fX5_atom_2 at h1
    unfold fX12_atom_0 at h2
    obtain ⟨⟨c, u2⟩, a1, h1⟩ := bd_some h1
    obtain ⟨⟨c', v2⟩, a2, h2⟩ := bd_some h2
    obtain ⟨hP2, hle, hq⟩ := peek_eq hP a1 a2
    have hP0 := hP2
    obtain ⟨pl, p2, p4, pt, p7, p6, p8, b0, b1, b2, pT⟩ := hP0
    have h1 : (if c = 91 then (if 6 ≤ k then GX5_atom_2_52 (rX5conditiong dX) c u2 else (lt (sI u2 4 ((u2.1 4) + 1)) fun u31 => ((rX5conditiong dX 2 (k + 1) 0 u31).bind _))) else GX5_atom_2_52 (rX5conditiong dX) c u2) = some (r, u') := h1
    rcases hq with ⟨q1, q2, q3⟩ | ⟨q1, q2, q3, q4, q5, q6⟩
    · have h2 : (if c' = (-1) then (GX12_atom_0_38 (rX12sumg dM) c' v2) else _) = some (r', v') := h2
      rw [if_pos q2] at h2
      rw [if_neg (by rw [q1]; decide)] at h1
      unfold GX5_atom_2_52 at h1
      rw [if_pos (by rw [q1]; decide)] at h1
      unfold GX5_atom_2_87 at h1
      rw [if_pos q1] at h1
      unfold GX5_atom_2_104 at h1
      rw [if_neg (by decide)] at h1
      obtain ⟨-, h1⟩ := gd_some h1
      have e1 : (0 : Int32) = r ∧ u2 = u' := by cases h1; exact ⟨rfl, rfl⟩
      unfold GX12_atom_0_38 at h2
      rw [if_neg (by rw [q2]; decide)] at h2
      obtain ⟨⟨r4, v5⟩, a5, h2⟩ := bd_some h2
      obtain ⟨ev, hd⟩ := dig_eq hP2 a5
      rw [ev] at h2
      have h2 : (if r4 = 0 then _ else _) = some (r', v') := h2
      have er : r4 = 0 := by
        rcases hd with ⟨er, -⟩ | ⟨-, hlt, -⟩
        · exact er
        · omega
      rw [if_pos er] at h2
      obtain ⟨⟨r23, v24⟩, a23, h2⟩ := bd_some h2
      have hpost := fail_post hP2 a23
      obtain ⟨-, f2⟩ := fails_at p7 a23
      have n7 : ¬ v24.1 7 = -1 := fun z => by
        rw [f2] at z
        have z : v2.1 6 = -1 := z
        rw [p6] at z
        have z9 : (u2.1 4).toInt = (-1 : Int) := eqI z
        omega
      have e2 : v' = v24 := num_still n7 h2
      rw [← e1.1, ← e1.2, e2]
      exact ⟨hpost, hle⟩
    · obtain ⟨j, hX, hM, hj⟩ := let_eq (rc := rX5conditiong dX) (rM := rX12sumg dM) hP2 q2 q3 (by rw [← q1] at h2; exact h2)
      clear h2
      have e5 : (u2.1 4 + 1).toInt = (u2.1 4).toInt + 1 := addc_t (by decide) (by omega) (by omega)
      have hPn : PR (sI u2 4 (u2.1 4 + 1)) (sI v2 6 (u2.1 4 + 1)) k := PR_at hP2 (by rw [e5]; omega) (by rw [e5]; omega)
      have hfailX : c < 48 ∨ 57 < c → GX5_atom_2_52 (rX5conditiong dX) c u2 = GX5_atom_2_104 (rX5conditiong dX) j u2 := fun z => by
        unfold GX5_atom_2_52
        by_cases z1 : c < 48
        · rw [if_pos z1]; exact hX
        · rcases z with z | z
          · exact absurd z z1
          · rw [if_neg z1, if_pos z]; exact hX
      by_cases jn : j < 0
      · rw [if_pos jn] at hM
        have jn9 : j.toInt < (0 : Int) := ltI jn
        have h104 : GX5_atom_2_104 (rX5conditiong dX) j u2 = some (0, u2) := by
          unfold GX5_atom_2_104
          rw [if_neg (fun z => by have z9 : (0 : Int) ≤ j.toInt := leI z; omega)]
          rfl
        unfold GX12_atom_0_38 at hM
        by_cases c91 : c = 91
        · rw [if_pos c91] at h1 hM
          obtain ⟨⟨r26, v27⟩, a26, hM⟩ := bd_some hM
          have hM : (if r26 = 0 then _ else _) = some (r', v') := hM
          unfold fX12_goesIn_0 at a26
          rw [p8] at a26
          by_cases k6 : 6 ≤ k
          · rw [if_pos k6] at h1
            have k69 : (6 : Int) ≤ k.toInt := leI k6
            have ek : k = 6 := Int32.toInt.inj ((show k.toInt = (6 : Int) by have := hk.2; omega).trans (by decide))
            rw [hfailX (Or.inr (by rw [c91]; decide)), h104] at h1
            rw [if_pos ek] at a26
            obtain ⟨⟨r6, v7⟩, a6, a26⟩ := bd_some a26
            obtain ⟨-, a26⟩ := gd_some a26
            have hpost := fail_post hP2 a6
            obtain ⟨f1, -⟩ := fails_at p7 a6
            have e26 : r6 = r26 ∧ v7 = v27 := by cases a26; exact ⟨rfl, rfl⟩
            rw [if_pos (by rw [← e26.1, f1])] at hM
            have e2 : v27 = v' := by cases hM; rfl
            have e1 : (0 : Int32) = r ∧ u2 = u' := by cases h1; exact ⟨rfl, rfl⟩
            rw [← e1.1, ← e1.2, ← e2, ← e26.2]
            exact ⟨hpost, hle⟩
          · rw [if_neg k6] at h1
            have k69 : ¬ (6 : Int) ≤ k.toInt := nleI k6
            rw [if_neg (fun z => by have z9 : k.toInt = (6 : Int) := eqI z; omega)] at a26
            obtain ⟨w1, i1, a26⟩ := lt_some a26
            obtain ⟨w2, i2, a26⟩ := lt_some a26
            obtain ⟨-, a26⟩ := gd_some a26
            have e26 : (1 : Int32) = r26 ∧ w2 = v27 := by cases a26; exact ⟨rfl, rfl⟩
            have ek : (k + 1).toInt = k.toInt + 1 := addc_t (by decide) (by have := hk.1; omega) (by omega)
            have hk1 : Dp (k + 1) := ⟨by rw [ek]; have := hk.1; omega, by rw [ek]; omega⟩
            have hPd : PR (sI u2 4 (u2.1 4 + 1)) v27 (k + 1) := by
              rw [← e26.2, i2, i1]
              have q := PR_at (x := u2.1 4 + 1) (PR_deep (e := k + 1) hP2) (by rw [e5]; omega) (by rw [e5]; omega)
              have p6' : (sI v2 8 (k + 1)).1 6 = u2.1 4 := p6
              rw [p6']
              exact q
            rw [if_neg (by rw [← e26.1]; decide)] at hM
            obtain ⟨u31, j31, h1⟩ := lt_some h1
            obtain ⟨⟨r33, u34⟩, a33, h1⟩ := bd_some h1
            obtain ⟨⟨r29, v30⟩, a29, hM⟩ := bd_some hM
            rw [j31] at a33
            obtain ⟨hpo, hmo⟩ := hT dM (k + 1) _ _ u34 v30 r33 r29 hk1 hPd a33 a29
            have hmo : (u2.1 4 + 1).toInt ≤ (u34.1 4).toInt := hmo
            rw [e5] at hmo
            have h1 : (if r33 = 0 then _ else _) = some (r, u') := h1
            obtain ⟨⟨r32, v33⟩, a32, hM⟩ := bd_some hM
            have hM : (if r32 = 0 then _ else _) = some (r', v') := hM
            rcases hpo with ⟨n33, hP3⟩ | ⟨z33, f7, fn⟩
            · rw [if_neg n33] at h1
              obtain ⟨⟨r37, u38⟩, a37, h1⟩ := bd_some h1
              obtain ⟨er, hpo2, hmo2⟩ := takes_eq (by decide) (by decide) hP3 a37 a32
              have h1 : (if r37 = 0 then _ else _) = some (r, u') := h1
              rw [← er] at hM
              by_cases z37 : r37 = 0
              · rw [if_pos z37] at h1 hM
                obtain ⟨-, h1⟩ := gd_some h1
                have e1 : (0 : Int32) = r ∧ u38 = u' := by cases h1; exact ⟨rfl, rfl⟩
                have e2 : v33 = v' := by cases hM; rfl
                rw [← e1.1, ← e1.2, ← e2]
                rcases hpo2 with ⟨n, -⟩ | ⟨-, g7, gn⟩
                · exact absurd z37 n
                · exact ⟨Or.inr ⟨rfl, g7, gn⟩, by omega⟩
              · rw [if_neg z37] at h1 hM
                obtain ⟨-, h1⟩ := gd_some h1
                obtain ⟨w5, i5, hM⟩ := lt_some hM
                have e1 : (1 : Int32) = r ∧ u38 = u' := by cases h1; exact ⟨rfl, rfl⟩
                have e2 : w5 = v' := by cases hM; rfl
                rcases hpo2 with ⟨-, hP4⟩ | ⟨n, -, -⟩
                · have e8 : v33.1 8 = k + 1 := hP4.2.2.2.2.2.2.1
                  have ek2 : v33.1 8 - 1 = k := by
                    rw [e8]
                    exact Int32.toInt.inj (by rw [subc_t (n := 1) (by decide) (by rw [ek]; have := hk.1; omega) (by rw [ek]; omega), ek]; omega)
                  rw [← e1.1, ← e1.2, ← e2, i5, ek2]
                  exact ⟨Or.inl ⟨by decide, PR_deep hP4⟩, by omega⟩
                · exact absurd n z37
            · rw [if_pos z33] at h1
              obtain ⟨-, h1⟩ := gd_some h1
              have n7 : ¬ v30.1 7 = -1 := fun z => by
                rw [f7] at z
                have z9 : (u34.1 4).toInt = (-1 : Int) := eqI z
                omega
              obtain ⟨g1, g2⟩ := takes_still n7 a32
              rw [if_pos g1] at hM
              have e1 : (0 : Int32) = r ∧ u34 = u' := by cases h1; exact ⟨rfl, rfl⟩
              have e2 : v33 = v' := by cases hM; rfl
              rw [← e1.1, ← e1.2, ← e2, g2]
              exact ⟨Or.inr ⟨rfl, f7, fn⟩, by omega⟩
        · rw [if_neg c91] at h1 hM
          obtain ⟨⟨r4, v5⟩, a5, hM⟩ := bd_some hM
          obtain ⟨ev, hd⟩ := dig_eq hP2 a5
          rw [ev] at hM
          have hM : (if r4 = 0 then _ else _) = some (r', v') := hM
          rw [← q5] at hd
          rcases hd with ⟨er, hd⟩ | ⟨er, hlt, hd1, hd2, hraw⟩
          · rw [if_pos er] at hM
            have hor : c < 48 ∨ 57 < c := by
              rcases hd with hd | ⟨-, hd | hd⟩
              · omega
              · exact Or.inl (Int32.lt_iff_toInt_lt.mpr (show c.toInt < (48 : Int) from hd))
              · exact Or.inr (Int32.lt_iff_toInt_lt.mpr (show (57 : Int) < c.toInt from hd))
            rw [hfailX hor, h104] at h1
            obtain ⟨⟨r23, v24⟩, a23, hM⟩ := bd_some hM
            have hpost := fail_post hP2 a23
            obtain ⟨-, f2⟩ := fails_at p7 a23
            have n7 : ¬ v24.1 7 = -1 := fun z => by
              rw [f2] at z
              have z : v2.1 6 = -1 := z
              rw [p6] at z
              have z9 : (u2.1 4).toInt = (-1 : Int) := eqI z
              omega
            have e2 : v' = v24 := num_still n7 hM
            have e1 : (0 : Int32) = r ∧ u2 = u' := by cases h1; exact ⟨rfl, rfl⟩
            rw [← e1.1, ← e1.2, e2]
            exact ⟨hpost, hle⟩
          · rw [if_neg (by rw [er]; decide)] at hM
            unfold GX5_atom_2_52 at h1
            rw [if_neg (fun z => by have z9 : c.toInt < (48 : Int) := ltI z; omega), if_neg (fun z => by have z9 : (57 : Int) < c.toInt := ltI z; omega)] at h1
            obtain ⟨⟨r23, u24⟩, a23, h1⟩ := bd_some h1
            obtain ⟨hn, hmo⟩ := num_eq 5000 5000 0 0 0 u2 v2 u24 v' r23 r' hP2 ⟨by decide, Or.inl ⟨by decide, by decide⟩⟩ a23 hM
            obtain ⟨⟨r26, u27⟩, a26, h1⟩ := bd_some h1
            have h1 : (if r23 = (-1) then _ else _) = some (r, u') := h1
            rcases hn with ⟨n23, hP3⟩ | ⟨z23, f7, fn⟩
            · obtain ⟨hP4, e4⟩ := emit_PR hP3 a26
              rw [if_neg n23] at h1
              obtain ⟨-, h1⟩ := gd_some h1
              have e1 : (1 : Int32) = r ∧ u27 = u' := by cases h1; exact ⟨rfl, rfl⟩
              rw [← e1.1, ← e1.2]
              exact ⟨Or.inl ⟨by decide, hP4⟩, by rw [e4]; omega⟩
            · have e4 : u27.1 4 = u24.1 4 := emit_at a26
              rw [if_pos z23] at h1
              obtain ⟨-, h1⟩ := gd_some h1
              have e1 : (0 : Int32) = r ∧ u27 = u' := by cases h1; exact ⟨rfl, rfl⟩
              rw [← e1.1, ← e1.2]
              exact ⟨Or.inr ⟨rfl, by rw [e4]; exact f7, by rw [e4]; exact fn⟩, by rw [e4]; omega⟩
      · rw [if_neg jn] at hM
        have jn9 : ¬ j.toInt < (0 : Int) := nltI jn
        have nc : ¬ (c = 91 ∨ (48 ≤ c.toInt ∧ c.toInt ≤ 57)) := fun z => by
          have z9 : j.toInt = (-1 : Int) := eqI (hj z)
          omega
        have hor : c < 48 ∨ 57 < c := by
          by_cases z : c < 48
          · exact Or.inl z
          · have z9 : ¬ c.toInt < (48 : Int) := nltI z
            exact Or.inr (Int32.lt_iff_toInt_lt.mpr (show (57 : Int) < c.toInt by
              rcases Int.lt_or_le 57 c.toInt with y | y
              · exact y
              · exact absurd (Or.inr ⟨by omega, y⟩) nc))
        rw [if_neg (fun z => nc (Or.inl z)), hfailX hor] at h1
        unfold GX5_atom_2_104 at h1
        rw [if_pos (by exact Int32.le_iff_toInt_le.mpr (show (0 : Int) ≤ j.toInt by omega))] at h1
        obtain ⟨u7, j7, h1⟩ := lt_some h1
        obtain ⟨⟨r9, u10⟩, a9, h1⟩ := bd_some h1
        obtain ⟨-, h1⟩ := gd_some h1
        obtain ⟨w1, i1, hM⟩ := lt_some hM
        obtain ⟨-, hM⟩ := gd_some hM
        have e1 : (1 : Int32) = r ∧ u10 = u' := by cases h1; exact ⟨rfl, rfl⟩
        have e2 : w1 = v' := by cases hM; rfl
        rw [p6] at i1
        rw [j7] at a9
        obtain ⟨hP4, e4⟩ := emit_PR hPn a9
        have e4 : u10.1 4 = u2.1 4 + 1 := e4
        rw [← e1.1, ← e1.2, ← e2, i1]
        exact ⟨Or.inl ⟨by decide, hP4⟩, by rw [e4, e5]; omega⟩
