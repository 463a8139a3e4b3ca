/-! When two had met, as the reference has it. -/
theorem me39 {k105 : Int32 → Int32 → SX → Option (Int32 × SX)} {z1 z2 r : Int32} {v v' : SX} (hJ : IM v) (a0 : 0 ≤ z1.toInt) (a9 : z1.toInt ≤ 7) (p0 : 0 ≤ z2.toInt) (p9 : z2.toInt < (v.1 23).toInt) (hf : 0 < (v.2.1 36 z2.toNatClampNeg).toInt) (hl : (v.2.1 36 z2.toNatClampNeg).toInt ≤ (v.2.1 37 z2.toNatClampNeg).toInt) (hl2 : ∀ j : Nat, (j : Int) < (v.1 24).toInt → (v.2.1 36 (40 + j)).toInt ≤ (v.2.1 37 (40 + j)).toInt) : ∀ (n : Nat) (z3 : Int32), 40 ≤ z3.toInt → (∀ y : Nat, y < z3.toNatClampNeg → ¬ (kn v z1.toNatClampNeg y ∧ MT v z2.toNatClampNeg y)) → LX12_meets_0_39 k105 n z1 z2 z3 v = some (r, v') → ((∀ y : Nat, ¬ (kn v z1.toNatClampNeg y ∧ MT v z2.toNatClampNeg y)) ∧ k105 z1 z2 v = some (r, v')) ∨ ((∃ y : Nat, kn v z1.toNatClampNeg y ∧ MT v z2.toNatClampNeg y) ∧ r = 1 ∧ v' = v) := by
  intro n
  induction n with
  | zero => intro z3 _ _ h; cases h
  | succ n ih =>
    intro z3 h0 hb h
    have b24 : (0 : Int) ≤ (v.1 24).toInt := (hJ.1 24).1
    have c24 : (v.1 24).toInt ≤ (20 : Int) := (hJ.1 24).2
    have h : (if (40 + (v.1 24)) ≤ z3 then (k105 z1 z2 v) else (gd (inb ((60 * z1) + z3) 480) (if (v.2.1 42 ((60 * z1) + z3).toNatClampNeg) = 0 then (LX12_meets_0_39 k105 n z1 z2 (z3 + 1) v) else (gd (inb z2 60) (gd (inb z3 60) (gd (inb z2 60) (gd (inb z3 60) (if (if (v.2.1 37 z3.toNatClampNeg) < (v.2.1 37 z2.toNatClampNeg) then (v.2.1 37 z3.toNatClampNeg) else (v.2.1 37 z2.toNatClampNeg)) < (if (v.2.1 36 z2.toNatClampNeg) < (v.2.1 36 z3.toNatClampNeg) then (v.2.1 36 z3.toNatClampNeg) else (v.2.1 36 z2.toNatClampNeg)) then (LX12_meets_0_39 k105 n z1 z2 (z3 + 1) v) else (gd (isB 1) (some (1, v))))))))))) = some (r, v') := h
    have e40 : (40 + v.1 24).toInt = 40 + (v.1 24).toInt := by
      have c : (40 : Int32).toInt = 40 := by decide
      rw [add_t (by rw [c]; omega) (by rw [c]; omega), c]
    have t3 := tn (a := z3) (by omega)
    have t2 := tn p0
    by_cases c : 40 + v.1 24 ≤ z3
    · rw [if_pos c] at h
      have c9 := leI c
      refine Or.inl ⟨fun y g => ?_, h⟩
      obtain ⟨m1, m2, m3, -⟩ := id g.2
      exact hb y (by omega) g
    · rw [if_neg c] at h
      have c9 := nleI c
      have et : (z3 + 1).toInt = z3.toInt + 1 := addc_t (by decide) (by omega) (by omega)
      have en := ns1 (z := z3) (by omega) (show z3.toInt ≤ 5000 by omega)
      obtain ⟨-, h⟩ := gd_some h
      rw [ix60 a0 a9 (by omega) (by omega)] at h
      have nx : ¬ (kn v z1.toNatClampNeg z3.toNatClampNeg ∧ MT v z2.toNatClampNeg z3.toNatClampNeg) → LX12_meets_0_39 k105 n z1 z2 (z3 + 1) v = some (r, v') → _ := fun q g => ih (z3 + 1) (by rw [et]; omega) (fun y hy => by
        by_cases cy : y = z3.toNatClampNeg
        · rw [cy]
          exact q
        · exact hb y (by omega)) g
      by_cases c1 : v.2.1 42 (60 * z1.toNatClampNeg + z3.toNatClampNeg) = 0
      · rw [if_pos c1] at h
        exact nx (fun g => g.1 c1) h
      · rw [if_neg c1] at h
        obtain ⟨-, h⟩ := gd_some h
        obtain ⟨-, h⟩ := gd_some h
        obtain ⟨-, h⟩ := gd_some h
        obtain ⟨-, h⟩ := gd_some h
        have l3 := hl2 (z3.toNatClampNeg - 40) (by omega)
        rw [show 40 + (z3.toNatClampNeg - 40) = z3.toNatClampNeg by omega] at l3
        have mn : (if (v.2.1 37 z3.toNatClampNeg) < (v.2.1 37 z2.toNatClampNeg) then (v.2.1 37 z3.toNatClampNeg) else (v.2.1 37 z2.toNatClampNeg)).toInt = min (v.2.1 37 z3.toNatClampNeg).toInt (v.2.1 37 z2.toNatClampNeg).toInt := by
          by_cases d : v.2.1 37 z3.toNatClampNeg < v.2.1 37 z2.toNatClampNeg
          · rw [if_pos d]
            have := ltI d
            omega
          · rw [if_neg d]
            have := nltI d
            omega
        have mx : (if (v.2.1 36 z2.toNatClampNeg) < (v.2.1 36 z3.toNatClampNeg) then (v.2.1 36 z3.toNatClampNeg) else (v.2.1 36 z2.toNatClampNeg)).toInt = max (v.2.1 36 z2.toNatClampNeg).toInt (v.2.1 36 z3.toNatClampNeg).toInt := by
          by_cases d : v.2.1 36 z2.toNatClampNeg < v.2.1 36 z3.toNatClampNeg
          · rw [if_pos d]
            have := ltI d
            omega
          · rw [if_neg d]
            have := nltI d
            omega
        by_cases c2 : (if (v.2.1 37 z3.toNatClampNeg) < (v.2.1 37 z2.toNatClampNeg) then (v.2.1 37 z3.toNatClampNeg) else (v.2.1 37 z2.toNatClampNeg)) < (if (v.2.1 36 z2.toNatClampNeg) < (v.2.1 36 z3.toNatClampNeg) then (v.2.1 36 z3.toNatClampNeg) else (v.2.1 36 z2.toNatClampNeg))
        · rw [if_pos c2] at h
          have d9 := ltI c2
          rw [mn, mx] at d9
          refine nx (fun g => ?_) h
          obtain ⟨-, -, -, -, m5, m6⟩ := id g.2
          omega
        · rw [if_neg c2] at h
          have d9 := nltI c2
          rw [mn, mx] at d9
          obtain ⟨-, h⟩ := gd_some h
          have e : r = 1 ∧ v' = v := by cases h; exact ⟨rfl, rfl⟩
          exact Or.inr ⟨⟨z3.toNatClampNeg, c1, by omega, by omega, by omega, hf, by omega, by omega⟩, e⟩
/-- spans from their lower end to their upper one -/
def SpL (v : SX) : Prop := (∀ i : Nat, (i : Int) < (v.1 23).toInt → (v.2.1 36 i).toInt ≤ (v.2.1 37 i).toInt) ∧ ∀ j : Nat, (j : Int) < (v.1 24).toInt → (v.2.1 36 (40 + j)).toInt ≤ (v.2.1 37 (40 + j)).toInt
theorem me2 {z1 r : Int32} {v v' : SX} (hJ : IM v) (hS : SpL v) (a0 : 0 ≤ z1.toInt) (a9 : z1.toInt ≤ 7) : ∀ (n : Nat) (z2 : Int32), 0 ≤ z2.toInt → (∀ i y : Nat, i < z2.toNatClampNeg → ¬ (kn v z1.toNatClampNeg i ∧ kn v z1.toNatClampNeg y ∧ MT v i y)) → LX12_meets_0_2 n z1 z2 v = some (r, v') → v' = v ∧ ((r = 1 ∧ MetS v (kn v z1.toNatClampNeg)) ∨ (r = 0 ∧ ¬ MetS v (kn v z1.toNatClampNeg))) := by
  intro n
  induction n with
  | zero => intro z2 _ _ h; cases h
  | succ n ih =>
    intro z2 h0 hb h
    have b23 : (v.1 23).toInt ≤ (40 : Int) := (hJ.1 23).2
    have h : (if (v.1 23) ≤ z2 then (gd (isB 0) (some (0, v))) else (gd (inb ((60 * z1) + z2) 480) (if (v.2.1 42 ((60 * z1) + z2).toNatClampNeg) = 0 then (LX12_meets_0_2 n z1 (z2 + 1) v) else (gd (inb z2 60) (if 0 < (v.2.1 36 z2.toNatClampNeg) then (LX12_meets_0_39 (GX12_meets_0_105 (LX12_meets_0_2 n)) 5000 z1 z2 40 v) else (LX12_meets_0_2 n z1 (z2 + 1) v)))))) = some (r, v') := h
    have t2 := tn h0
    by_cases c : v.1 23 ≤ z2
    · rw [if_pos c] at h
      have c9 := leI c
      obtain ⟨-, h⟩ := gd_some h
      have e : r = 0 ∧ v' = v := by cases h; exact ⟨rfl, rfl⟩
      refine ⟨e.2, Or.inr ⟨e.1, ?_⟩⟩
      rintro ⟨i, y, g⟩
      have m := g.2.2.1
      exact hb i y (by omega) g
    · rw [if_neg c] at h
      have c9 := nleI c
      have et : (z2 + 1).toInt = z2.toInt + 1 := addc_t (by decide) (by omega) (by omega)
      have en := ns1 h0 (show z2.toInt ≤ 5000 by omega)
      obtain ⟨-, h⟩ := gd_some h
      rw [ix60 a0 a9 h0 (by omega)] at h
      have nx : (∀ y : Nat, ¬ (kn v z1.toNatClampNeg z2.toNatClampNeg ∧ kn v z1.toNatClampNeg y ∧ MT v z2.toNatClampNeg y)) → LX12_meets_0_2 n z1 (z2 + 1) v = some (r, v') → _ := fun q g => ih (z2 + 1) (by rw [et]; omega) (fun i y hi => by
        by_cases ci : i = z2.toNatClampNeg
        · rw [ci]
          exact q y
        · exact hb i y (by omega)) g
      by_cases c1 : v.2.1 42 (60 * z1.toNatClampNeg + z2.toNatClampNeg) = 0
      · rw [if_pos c1] at h
        exact nx (fun y g => g.1 c1) h
      · rw [if_neg c1] at h
        obtain ⟨-, h⟩ := gd_some h
        by_cases c2 : 0 < v.2.1 36 z2.toNatClampNeg
        · rw [if_pos c2] at h
          have d2 : (0 : Int) < (v.2.1 36 z2.toNatClampNeg).toInt := ltI c2
          have c24 : (0 : Int) ≤ (v.1 24).toInt := (hJ.1 24).1
          rcases me39 hJ a0 a9 h0 (by omega) d2 (hS.1 _ (by omega)) hS.2 5000 40 (by decide) (fun y hy g => by
            have m := g.2.2.1
            have hy : y < 40 := hy
            omega) h with ⟨g1, g2⟩ | ⟨⟨y, g1, g2⟩, g3, g4⟩
          · exact nx (fun y g => g1 y ⟨g.2.1, g.2.2⟩) g2
          · exact ⟨g4, Or.inl ⟨g3, z2.toNatClampNeg, y, c1, g1, g2⟩⟩
        · rw [if_neg c2] at h
          have d2 : ¬ (0 : Int) < (v.2.1 36 z2.toNatClampNeg).toInt := nltI c2
          exact nx (fun y g => d2 g.2.2.2.2.2.1) h
theorem MetS_fr {v w : SX} (s : StM mdX12_passes_0 v w) {S : Nat → Prop} : MetS w S ↔ MetS v S := by
  have e23 : w.1 23 = v.1 23 := s.2.1 23 (by decide)
  have e24 : w.1 24 = v.1 24 := s.2.1 24 (by decide)
  have e36 : w.2.1 36 = v.2.1 36 := s.2.2.1 36 (by decide)
  have e37 : w.2.1 37 = v.2.1 37 := s.2.2.1 37 (by decide)
  unfold MetS MT
  rw [e23, e24, e36, e37]
theorem MetD_fr {T L : Nat → Nat → Nat → Prop} {v w : SX} (s : StM mdX12_passes_0 v w) {d : Nat} : MetD T L w d ↔ MetD T L v d := by
  have e22 : w.1 22 = v.1 22 := s.2.1 22 (by decide)
  unfold MetD
  rw [e22]
  constructor
  · rintro ⟨h, a, b⟩
    exact ⟨h, a, (MetS_fr s).mp b⟩
  · rintro ⟨h, a, b⟩
    exact ⟨h, a, (MetS_fr s).mpr b⟩
theorem SpL_fr {v w : SX} (s : StM mdX12_passes_0 v w) (h : SpL v) : SpL w := by
  unfold SpL at h ⊢
  rw [s.2.1 23 (by decide), s.2.1 24 (by decide), s.2.2.1 36 (by decide), s.2.2.1 37 (by decide)]
  exact h
theorem mb20 {T L : Nat → Nat → Nat → Prop} {k46 : Int32 → Int32 → Int32 → SX → Option (Int32 × SX)} {z1 z2 z3 r : Int32} {v v' : SX} {d : Nat} (hJ : IM v) (hS : SpL v) (hW : KW T L v (d + 1)) : ∀ (n : Nat) (z4 : Int32), 0 ≤ z4.toInt → (∀ k : Nat, k < z4.toNatClampNeg → ¬ MetS v (Kn T L d k)) → LX12_metBy_0_20 k46 n z1 z2 z3 z4 v = some (r, v') → (¬ MetD T L v d ∧ k46 z1 z2 z3 v = some (r, v')) ∨ (MetD T L v d ∧ r = z3 ∧ v' = v) := by
  intro n
  induction n with
  | zero => intro z4 _ _ h; cases h
  | succ n ih =>
    intro z4 h0 hb h
    have b22 : (v.1 22).toInt ≤ (8 : Int) := (hJ.1 22).2
    have h : (if (v.1 22) ≤ z4 then (k46 z1 z2 z3 v) else ((fX12_meets_0 z4 v).bind fun q => match q with | (r7, u8) => (if r7 = 0 then ((LX12_metBy_0_20 k46 n) z1 z2 z3 (z4 + 1) u8) else (some (z3, u8))))) = some (r, v') := h
    have t4 := tn h0
    by_cases c : v.1 22 ≤ z4
    · rw [if_pos c] at h
      have c9 := leI c
      refine Or.inl ⟨?_, h⟩
      rintro ⟨k, hk, g⟩
      exact hb k (by omega) g
    · rw [if_neg c] at h
      have c9 := nleI c
      have et : (z4 + 1).toInt = z4.toInt + 1 := addc_t (by decide) (by omega) (by omega)
      have en := ns1 h0 (show z4.toInt ≤ 5000 by omega)
      obtain ⟨⟨r7, u8⟩, a7, h⟩ := bd_some h
      unfold fX12_meets_0 at a7
      obtain ⟨e8, k7⟩ := me2 hJ hS h0 (by omega) 5000 0 (by decide) (fun i y hi => absurd hi (Nat.not_lt_zero _)) a7
      rw [e8] at h
      have h : (if r7 = 0 then ((LX12_metBy_0_20 k46 n) z1 z2 z3 (z4 + 1) v) else (some (z3, v))) = some (r, v') := h
      have ms : MetS v (kn v z4.toNatClampNeg) ↔ MetS v (Kn T L d z4.toNatClampNeg) := MetS_cg (fun x hx => by
        rw [hW _ x (by omega) hx]
        exact ⟨fun g => g.2, fun g => ⟨by omega, g⟩⟩) hJ
      rcases k7 with ⟨z, k7⟩ | ⟨z, k7⟩
      · rw [if_neg (ne01 z)] at h
        have e : r = z3 ∧ v' = v := by cases h; exact ⟨rfl, rfl⟩
        exact Or.inr ⟨⟨z4.toNatClampNeg, by omega, ms.mp k7⟩, e⟩
      · rw [if_pos z] at h
        refine ih (z4 + 1) (by rw [et]; omega) (fun k hk => ?_) h
        by_cases ck : k = z4.toNatClampNeg
        · rw [ck]
          exact fun g => k7 (ms.mpr g)
        · exact hb k (by omega)
theorem mb6 {n0 : Int} {T L : Nat → Nat → Nat → Prop} {z1 z2 r : Int32} {v' : SX} (n1 : z1.toInt = n0) (n2 : 0 ≤ z1.toInt) (n3 : z1.toInt ≤ 61) (hz9 : z2.toInt ≤ 120) : ∀ (n : Nat) (z3 : Int32) (v : SX), IM v → SpL v → LHn v n0 → TM v = T → LMn v n0 = L → 0 ≤ z3.toInt → z3.toInt ≤ 121 → KW T L v z3.toNatClampNeg → (∀ d : Nat, d < z3.toNatClampNeg → ¬ MetD T L v d) → LX12_metBy_0_6 n z1 z2 z3 v = some (r, v') → StM mdX12_passes_0 v v' ∧ First (MetD T L v) z2.toInt r := by
  intro n
  induction n with
  | zero => intro z3 v _ _ _ _ _ _ _ _ _ h; cases h
  | succ n ih =>
    intro z3 v hJ hS hH eT eL h0 h9 hW hp h
    have h : (if z2 < z3 then (some ((-1), v)) else ((fX12_passes_0 z3 z1 v).bind fun q => match q with | (r4, u5) => (LX12_metBy_0_20 (GX12_metBy_0_46 (LX12_metBy_0_6 n)) 5000 z1 z2 z3 0 u5))) = some (r, v') := h
    have t3 := tn h0
    by_cases c : z2 < z3
    · rw [if_pos c] at h
      have c9 := ltI c
      have e : r = -1 ∧ v' = v := by cases h; exact ⟨rfl, rfl⟩
      rw [e.2]
      exact ⟨StM_rf hJ, Or.inl ⟨e.1, fun d hd => hp d (by omega)⟩⟩
    · rw [if_neg c] at h
      have c9 := nltI c
      have et : (z3 + 1).toInt = z3.toInt + 1 := addc_t (by decide) (by omega) (by omega)
      have en := ns1 h0 (show z3.toInt ≤ 5000 by omega)
      obtain ⟨⟨r4, w⟩, a4, h⟩ := bd_some h
      rw [← eT, ← eL] at hW
      obtain ⟨sw, W⟩ := KW_step hJ hH n1 h0 (by omega) n2 n3 hW a4
      rw [eT, eL] at W
      rcases mb20 sw.1 (SpL_fr sw hS) W 5000 0 (by decide) (fun k hk => absurd hk (Nat.not_lt_zero _)) h with ⟨g1, g2⟩ | ⟨g1, g2, g3⟩
      · unfold GX12_metBy_0_46 at g2
        obtain ⟨s2, f2⟩ := ih (z3 + 1) w sw.1 (SpL_fr sw hS) (LHn_fr sw hH) ((TM_fr sw).trans eT) ((LMn_fr sw).trans eL) (by rw [et]; omega) (by rw [et]; omega) (by rw [en]; exact W) (fun d hd => by
          by_cases cd : d = z3.toNatClampNeg
          · rw [cd]
            exact g1
          · exact fun g => hp d (by omega) ((MetD_fr sw).mp g)) g2
        refine ⟨StM_tr sw s2 (by decide), ?_⟩
        rcases f2 with ⟨p, q⟩ | ⟨p, q, s, t⟩
        · exact Or.inl ⟨p, fun d hd g => q d hd ((MetD_fr sw).mpr g)⟩
        · exact Or.inr ⟨p, q, (MetD_fr sw).mp s, fun d hd g => t d hd ((MetD_fr sw).mpr g)⟩
      · rw [g3]
        refine ⟨sw, Or.inr ?_⟩
        rw [g2]
        exact ⟨h0, by omega, (MetD_fr sw).mp g1, fun d hd => hp d (by omega)⟩
theorem metBy_sp {n0 : Int} {z1 z2 r : Int32} {v v' : SX} (hJ : IM v) (hS : SpL v) (n1 : z1.toInt = n0) (n2 : 0 ≤ z1.toInt) (n3 : z1.toInt ≤ 61) (hz9 : z2.toInt ≤ 120) (hH : LHn v n0) (h : fX12_metBy_0 z1 z2 v = some (r, v')) : StM mdX12_passes_0 v v' ∧ First (MetD (TM v) (LMn v n0) v) z2.toInt r := by
  unfold fX12_metBy_0 at h
  obtain ⟨⟨r1, w⟩, a1, h⟩ := bd_some h
  obtain ⟨s1, W1⟩ := KW_0 (T := TM v) (L := LMn v n0) hJ a1
  have s1' : StM mdX12_passes_0 v w := ⟨s1.1, FrM_tr FrM_rf s1.2 (by decide)⟩
  obtain ⟨s2, f2⟩ := mb6 (T := TM v) (L := LMn v n0) n1 n2 n3 hz9 5000 0 w s1.1 (SpL_fr s1' hS) (LHn_fr s1' hH) (TM_fr s1') (LMn_fr s1') (by decide) (by decide) W1 (fun d hd => absurd hd (Nat.not_lt_zero _)) h
  refine ⟨StM_tr s1' s2 (by decide), ?_⟩
  rcases f2 with ⟨p, q⟩ | ⟨p, q, s, t⟩
  · exact Or.inl ⟨p, fun d hd g => q d hd ((MetD_fr s1').mpr g)⟩
  · exact Or.inr ⟨p, q, (MetD_fr s1').mp s, fun d hd g => t d hd ((MetD_fr s1').mpr g)⟩
theorem SpL_of {u v : SX} (ht : Tie u v) (hR : TieR u v) (hM : TieM u v) : SpL v := by
  obtain ⟨t0, t1, t2, t3, t4, t5⟩ := ht
  refine ⟨fun i hi => ?_, fun j hj => ?_⟩
  · rw [← t2] at hi
    obtain ⟨r1, r2, -, r4⟩ := hR i hi
    rw [← r1, ← r2]
    exact r4
  · rw [← t3] at hj
    obtain ⟨p1, p2, p3⟩ := hM.2.2 j hj
    rw [← p1, ← p2]
    exact p3
theorem met_eq {r r' : Int32} {u u' v v' : SX} (hI : IX u) (hJ : IM v) (ht : Tie u v) (hR : TieR u v) (hK : TieK u v) (h1 : fX11_met_0 u = some (r, u')) (h2 : fX12_met_0 v = some (r', v')) : r = r' ∧ TieK u' v := by
  obtain ⟨t0, t1, t2, t3, t4, t5⟩ := id ht
  have hS := SpL_of ht hR hK.2.2.2
  have bn : (0 : Int) ≤ (u.1 0).toInt := (hI.1 0).1
  have bn9 : (u.1 0).toInt ≤ (120 : Int) := (hI.1 0).2
  unfold fX11_met_0 at h1
  obtain ⟨⟨r1, u2⟩, a1, h1⟩ := bd_some h1
  obtain ⟨K2, s2, -, V2⟩ := TieK_set hI hK bn bn9 a1
  obtain ⟨⟨r4, u5⟩, a4, h1⟩ := bd_some h1
  have e1 : r = r4 ∧ u' = u5 := by cases h1; exact ⟨rfl, rfl⟩
  have w0 : u2.1 0 = u.1 0 := s2.2.1 0 (by decide)
  unfold fX4_firstDay_12 at a4
  have tN := tn bn
  obtain ⟨e5, f1⟩ := fst2 s2.1 ((s2.2.1 36 (by decide)).trans t2) ((s2.2.1 35 (by decide)).trans t1) K2.2.2.2 K2.1 (by rw [w0]; exact bn9) (fun d hd => V2 d (by rw [w0] at hd; omega)) 5000 0 (by decide) (by decide) (fun d hd => absurd hd (Nat.not_lt_zero _)) a4
  unfold fX12_met_0 at h2
  obtain ⟨v1, j1, h2⟩ := lt_some h2
  have sv : StM ([0], [], [], []) v v1 := by
    rw [j1]
    exact StM_sI (StM_rf hJ) (by decide) (by decide) (by decide)
  obtain ⟨⟨r3, v4⟩, a3, h2⟩ := bd_some h2
  have e2 : r' = r3 := by cases h2; rfl
  have q25 : v1.1 25 = v.1 25 := by rw [j1]; rfl
  have q1 : v1.1 1 = u.1 0 := by rw [j1, t0]; rfl
  have b25 : (0 : Int) ≤ (v.1 25).toInt := (hJ.1 25).1
  have c25 : (v.1 25).toInt ≤ (60 : Int) := (hJ.1 25).2
  have eT : TM v1 = TM v := by rw [j1]; rfl
  have eL : LMn v1 (v.1 25).toInt = LK v := by rw [j1]; rfl
  have S1 : SpL v1 := by rw [j1]; exact hS
  have H1 : LHn v1 (v.1 25).toInt := by rw [j1]; exact hK.2.2.1
  obtain ⟨-, f2⟩ := metBy_sp (n0 := (v.1 25).toInt) sv.1 S1 (by rw [q25]) (by rw [q25]; exact b25) (by rw [q25]; omega) (by rw [q1]; exact bn9) H1 a3
  rw [eT, eL, q1] at f2
  rw [w0] at f1
  refine ⟨?_, by rw [e1.2, e5]; exact K2⟩
  rw [e1.1, e2]
  refine First_uq f1 ?_
  have ee : ∀ d, MetD (TM v) (LK v) v1 d ↔ MetD (TM v) (LK v) v d := by
    intro d
    rw [j1]
    exact Iff.rfl
  rcases f2 with ⟨p, q⟩ | ⟨p, q, s, t⟩
  · exact Or.inl ⟨p, fun d hd g => q d hd ((ee d).mpr g)⟩
  · exact Or.inr ⟨p, q, (ee _).mp s, fun d hd g => t d hd ((ee d).mpr g)⟩
