/-! goes, even. -/
theorem isDay0 {x r : Int32} {n : Int32} (h : fX12_isIn x 0 n = some r) : (r = 0 ∧ ¬ (0 ≤ x.toInt ∧ x.toInt ≤ n.toInt)) ∨ (r = 1 ∧ 0 ≤ x.toInt ∧ x.toInt ≤ n.toInt) := inn h
theorem goesX {x1 x2 r : Int32} {u u' : SX} (h : fX11_goes_0 x1 x2 u = some (r, u')) : (¬ (0 ≤ x1.toInt ∧ x1.toInt ≤ (u.1 0).toInt ∧ 0 ≤ x2.toInt ∧ x2.toInt ≤ 5) ∧ r = -100000000) ∨ ((0 ≤ x1.toInt ∧ x1.toInt ≤ (u.1 0).toInt ∧ 0 ≤ x2.toInt ∧ x2.toInt ≤ 5) ∧ ∃ (s t : Int32) (w w2 : SX), fX7_recall_7 x1 u = some (s, w) ∧ fX1_meansBy_8 x2 w = some (t, w2) ∧ ((t = 0 ∧ r = -100000000) ∨ (¬ t = 0 ∧ fX1_distance_8 w2 = some (r, u')))) := by
  unfold fX11_goes_0 at h
  have no : ∀ w : SX, some ((-100000000 : Int32), w) = some (r, u') → r = -100000000 := fun w g => by cases g; rfl
  obtain ⟨⟨r1, u2⟩, a1, h⟩ := bd_some h
  obtain ⟨e1, k1⟩ := isDayi a1
  rw [e1] at h
  have h : (if r1 = 0 then (some ((-100000000), u)) else ((fX11_within x2 0 5).bind fun r4 => (if r4 = 0 then (some ((-100000000), u)) else ((fX7_recall_7 x1 u).bind fun q => match q with | (r7, u8) => ((fX1_meansBy_8 x2 u8).bind fun q => match q with | (r10, u11) => (if r10 = 0 then (some ((-100000000), u11)) else ((fX1_distance_8  u11).bind fun q => match q with | (r13, u14) => (some (r13, u14))))))))) = some (r, u') := h
  rcases k1 with ⟨z, k1⟩ | ⟨z, k1, k1'⟩
  · rw [if_pos z] at h
    exact Or.inl ⟨fun q => k1 ⟨q.1, q.2.1⟩, no _ h⟩
  · rw [if_neg (ne01 z)] at h
    obtain ⟨r4, a4, h⟩ := bd_some h
    rcases win a4 with ⟨z, k4⟩ | ⟨z, k4, k4'⟩
    · rw [if_pos z] at h
      exact Or.inl ⟨fun q => k4 ⟨q.2.2.1, q.2.2.2⟩, no _ h⟩
    · rw [if_neg (ne01 z)] at h
      obtain ⟨⟨r7, u8⟩, a7, h⟩ := bd_some h
      obtain ⟨⟨r10, u11⟩, a10, h⟩ := bd_some h
      refine Or.inr ⟨⟨k1, k1', k4, k4'⟩, r7, r10, u8, u11, a7, a10, ?_⟩
      have h : (if r10 = 0 then (some ((-100000000), u11)) else ((fX1_distance_8  u11).bind fun q => match q with | (r13, u14) => (some (r13, u14)))) = some (r, u') := h
      by_cases c : r10 = 0
      · rw [if_pos c] at h
        exact Or.inl ⟨c, no _ h⟩
      · rw [if_neg c] at h
        obtain ⟨⟨r13, u14⟩, a13, h⟩ := bd_some h
        have e : r13 = r ∧ u14 = u' := by cases h; exact ⟨rfl, rfl⟩
        rw [e.1, e.2] at a13
        exact Or.inr ⟨c, a13⟩
theorem goesM {x1 x2 r : Int32} {v v' : SX} (h : fX12_goes_0 x1 x2 v = some (r, v')) : (¬ (0 ≤ x1.toInt ∧ x1.toInt ≤ (v.1 1).toInt ∧ 0 ≤ x2.toInt ∧ x2.toInt ≤ 5) ∧ r = -100000000) ∨ ((0 ≤ x1.toInt ∧ x1.toInt ≤ (v.1 1).toInt ∧ 0 ≤ x2.toInt ∧ x2.toInt ≤ 5) ∧ ∃ (s : Int32) (w : SX), fX12_layAlike_0 x1 (sI v 0 0) = some (s, w) ∧ ((w.1 18 = 0 ∧ r = -100000000) ∨ (¬ w.1 18 = 0 ∧ ∃ (s2 : Int32) (w2 : SX), fX12_layMeans_0 x1 x2 w = some (s2, w2) ∧ fX12_apart_0 w2 = some (r, v')))) := by
  unfold fX12_goes_0 at h
  obtain ⟨v1, e1, h⟩ := lt_some h
  rw [← e1]
  have f1 : v1.1 1 = v.1 1 := by rw [e1]; rfl
  clear e1
  rw [← f1]
  have no : ∀ w : SX, some ((-100000000 : Int32), w) = some (r, v') → r = -100000000 := fun w g => by cases g; rfl
  obtain ⟨r3, a3, h⟩ := bd_some h
  rcases inn a3 with ⟨z, k3⟩ | ⟨z, k3, k3'⟩
  · rw [if_pos z] at h
    exact Or.inl ⟨fun q => k3 ⟨q.1, q.2.1⟩, no _ h⟩
  · rw [if_neg (ne01 z)] at h
    obtain ⟨r6, a6, h⟩ := bd_some h
    rcases inn a6 with ⟨z, k6⟩ | ⟨z, k6, k6'⟩
    · rw [if_pos z] at h
      exact Or.inl ⟨fun q => k6 ⟨q.2.2.1, q.2.2.2⟩, no _ h⟩
    · rw [if_neg (ne01 z)] at h
      obtain ⟨⟨r9, u10⟩, a9, h⟩ := bd_some h
      refine Or.inr ⟨⟨k3, k3', k6, k6'⟩, r9, u10, a9, ?_⟩
      have h : (if (u10.1 18) = 0 then (some ((-100000000), u10)) else ((fX12_layMeans_0 x1 x2 u10).bind fun q => match q with | (r12, u13) => ((fX12_apart_0  u13).bind fun q => match q with | (r15, u16) => (some (r15, u16))))) = some (r, v') := h
      by_cases c : u10.1 18 = 0
      · rw [if_pos c] at h
        exact Or.inl ⟨c, no _ h⟩
      · rw [if_neg c] at h
        obtain ⟨⟨r12, u13⟩, a12, h⟩ := bd_some h
        obtain ⟨⟨r15, u16⟩, a15, h⟩ := bd_some h
        have e : r15 = r ∧ u16 = v' := by cases h; exact ⟨rfl, rfl⟩
        rw [e.1, e.2] at a15
        exact Or.inr ⟨c, r12, u13, a12, a15⟩
theorem goes_eq {x1 x2 r r' : Int32} {u u' v v' : SX} (hK : RK u) (ht : Tie u v) (hM : MR u v) (h1 : fX11_goes_0 x1 x2 u = some (r, u')) (h2 : fX12_goes_0 x1 x2 v = some (r', v')) : r = r' := by
  have b120 : (u.1 0).toInt ≤ (120 : Int) := (hK.1.1.1 0).2
  have hI := hK.1.1
  have x15 : v.1 15 = u.1 13 := ht.2.2.2.2.2.symm
  rcases goesX h1 with ⟨n1, g1⟩ | ⟨o1, s, t, w, w2, a1, a2, g1⟩
  · rcases goesM h2 with ⟨-, g2⟩ | ⟨o2, -⟩
    · rw [g1, g2]
    · rw [← ht.1] at o2
      exact absurd o2 n1
  · rcases goesM h2 with ⟨n2, -⟩ | ⟨-, s2, y, a3, g2⟩
    · rw [← ht.1] at n2
      exact absurd o1 n2
    · obtain ⟨q1, q2, q3, q4⟩ := o1
      obtain ⟨Rw, Kw, Fw, -, -, U10, U11, U14⟩ := recall7_sp hK.1 hK.2 q1 (by omega) a1
      obtain ⟨My, Fy, e18, -⟩ := layAlike_sp hI hK.1.2.2.1 (MR_0 hM) (show (sI v 0 0).1 15 = u.1 13 from x15) U10 U11 U14 q1 (by omega) a3
      have y15 : y.1 15 = u.1 13 := (Fy.1 15 (by decide)).trans x15
      have k0 := U14.1
      have pt : ∀ {X : Prop}, ((w.1 14).toInt = 0 → t.toInt = 0) → t.toInt = (cntN (w2.2.1 43) 41 : Nat) → (¬ (w.1 14).toInt = 0 → ∃ i : Nat, i < 41 ∧ ¬ w2.2.1 43 i = 0) → ((w.1 14).toInt = 0 → t = 0 → X) → (¬ (w.1 14).toInt = 0 → ¬ t = 0 → X) → X := fun {X} z1 z2 z3 f1 f2 => by
        by_cases c : (w.1 14).toInt = 0
        · exact f1 c (Int32.toInt.inj (by show t.toInt = (0 : Int); exact z1 c))
        · obtain ⟨i, i1, i2⟩ := z3 c
          have p := cntN_pos (g := w2.2.1 43) i2 41 i1
          exact f2 c (fun z => by
            have z9 : t.toInt = (0 : Int) := eqI z
            omega)
      obtain ⟨s3, hs3⟩ : ∃ q, fX12_layMeans_0 x1 x2 y = some q := by
        obtain ⟨q, e, -⟩ := tfX12_layMeans_0 x1 x2 y My.1 ⟨q1, by omega⟩ ⟨q3, q4⟩
        exact ⟨q, e⟩
      obtain ⟨s3, v3⟩ := s3
      obtain ⟨-, MNw, e22, ct, cz, cn, -⟩ := means_both hK My y15 q1 (by omega) q3 q4 a1 a2 hs3
      refine pt cz ct cn (fun c ct0 => ?_) (fun c ct0 => ?_)
      · have z18 : y.1 18 = 0 := by
          rw [e18]
          exact Int32.toInt.inj (by show _ = (0 : Int); exact c)
        rcases g1 with ⟨-, e1⟩ | ⟨z, -⟩
        · rcases g2 with ⟨-, e2⟩ | ⟨z, -⟩
          · rw [e1, e2]
          · exact absurd z18 z
        · exact absurd ct0 z
      · have z18 : ¬ y.1 18 = 0 := fun z => by
          rw [e18] at z
          exact c (eqI z)
        rcases g1 with ⟨z, -⟩ | ⟨-, e1⟩
        · exact absurd z ct0
        · rcases g2 with ⟨z, -⟩ | ⟨-, s4, v4, e2, e3⟩
          · exact absurd z z18
          · have ev : v3 = v4 := congrArg Prod.snd (Option.some.inj (hs3.symm.trans e2))
            rw [← ev] at e3
            exact dist_eq MNw e22 (cn c) e1 e3
/-! even -/
theorem evenX {x1 x2 r : Int32} {u u' : SX} (h : fX11_even_0 x1 x2 u = some (r, u')) : (¬ (0 ≤ x1.toInt ∧ x1.toInt ≤ (u.1 0).toInt ∧ 0 ≤ x2.toInt ∧ x2.toInt ≤ 1) ∧ r = -100000000) ∨ ((0 ≤ x1.toInt ∧ x1.toInt ≤ (u.1 0).toInt ∧ 0 ≤ x2.toInt ∧ x2.toInt ≤ 1) ∧ ∃ (s t : Int32) (w w2 : SX), fX7_recall_7 x1 u = some (s, w) ∧ fX1_meansBy_8 0 w = some (t, w2) ∧ ((x2 = 1 ∧ fX1_oneSide_8 w2 = some (r, u')) ∨ (¬ x2 = 1 ∧ 2 ≤ t ∧ fX1_distance_8 w2 = some (r, u')) ∨ (¬ x2 = 1 ∧ ¬ 2 ≤ t ∧ r = -100000000))) := by
  unfold fX11_even_0 at h
  have no : ∀ w : SX, some ((-100000000 : Int32), w) = some (r, u') → r = -100000000 := fun w g => by cases g; rfl
  obtain ⟨⟨r1, u2⟩, a1, h⟩ := bd_some h
  obtain ⟨e1, k1⟩ := isDayi a1
  rw [e1] at h
  have h : (if r1 = 0 then (some ((-100000000), u)) else ((fX11_isEither x2).bind fun r4 => (if r4 = 0 then (some ((-100000000), u)) else ((fX7_recall_7 x1 u).bind fun q => match q with | (r7, u8) => ((fX1_meansBy_8 0 u8).bind fun q => match q with | (r10, u11) => (if x2 = 1 then ((fX1_oneSide_8  u11).bind fun q => match q with | (r16, u17) => (some (r16, u17))) else (if 2 ≤ r10 then ((fX1_distance_8  u11).bind fun q => match q with | (r13, u14) => (some (r13, u14))) else (some ((-100000000), u11))))))))) = some (r, u') := h
  rcases k1 with ⟨z, k1⟩ | ⟨z, k1, k1'⟩
  · rw [if_pos z] at h
    exact Or.inl ⟨fun q => k1 ⟨q.1, q.2.1⟩, no _ h⟩
  · rw [if_neg (ne01 z)] at h
    obtain ⟨r4, a4, h⟩ := bd_some h
    rcases eith a4 with ⟨z, k4⟩ | ⟨z, k4, k4'⟩
    · rw [if_pos z] at h
      exact Or.inl ⟨fun q => k4 ⟨q.2.2.1, q.2.2.2⟩, no _ h⟩
    · rw [if_neg (ne01 z)] at h
      obtain ⟨⟨r7, u8⟩, a7, h⟩ := bd_some h
      obtain ⟨⟨r10, u11⟩, a10, h⟩ := bd_some h
      refine Or.inr ⟨⟨k1, k1', k4, k4'⟩, r7, r10, u8, u11, a7, a10, ?_⟩
      have h : (if x2 = 1 then ((fX1_oneSide_8  u11).bind fun q => match q with | (r16, u17) => (some (r16, u17))) else (if 2 ≤ r10 then ((fX1_distance_8  u11).bind fun q => match q with | (r13, u14) => (some (r13, u14))) else (some ((-100000000), u11)))) = some (r, u') := h
      by_cases c : x2 = 1
      · rw [if_pos c] at h
        obtain ⟨⟨r16, u17⟩, a16, h⟩ := bd_some h
        have e : r16 = r ∧ u17 = u' := by cases h; exact ⟨rfl, rfl⟩
        rw [e.1, e.2] at a16
        exact Or.inl ⟨c, a16⟩
      · rw [if_neg c] at h
        by_cases d : 2 ≤ r10
        · rw [if_pos d] at h
          obtain ⟨⟨r13, u14⟩, a13, h⟩ := bd_some h
          have e : r13 = r ∧ u14 = u' := by cases h; exact ⟨rfl, rfl⟩
          rw [e.1, e.2] at a13
          exact Or.inr (Or.inl ⟨c, d, a13⟩)
        · rw [if_neg d] at h
          exact Or.inr (Or.inr ⟨c, d, no _ h⟩)
theorem evenM {x1 x2 r : Int32} {v v' : SX} (h : fX12_even_0 x1 x2 v = some (r, v')) : (¬ (0 ≤ x1.toInt ∧ x1.toInt ≤ (v.1 1).toInt ∧ 0 ≤ x2.toInt ∧ x2.toInt ≤ 1) ∧ r = -100000000) ∨ ((0 ≤ x1.toInt ∧ x1.toInt ≤ (v.1 1).toInt ∧ 0 ≤ x2.toInt ∧ x2.toInt ≤ 1) ∧ ∃ (s : Int32) (w : SX), fX12_layMeans_0 x1 0 (sI v 0 0) = some (s, w) ∧ ((x2 = 0 ∧ LX12_even_0_45 GX12_even_0_76 5000 0 0 w = some (r, v')) ∨ (¬ x2 = 0 ∧ LX12_even_0_99 5000 (-100000000) 0 w = some (r, v')))) := by
  unfold fX12_even_0 at h
  obtain ⟨v1, e1, h⟩ := lt_some h
  rw [← e1]
  have f1 : v1.1 1 = v.1 1 := by rw [e1]; rfl
  clear e1
  rw [← f1]
  have no : ∀ w : SX, some ((-100000000 : Int32), w) = some (r, v') → r = -100000000 := fun w g => by cases g; rfl
  obtain ⟨r3, a3, h⟩ := bd_some h
  rcases inn a3 with ⟨z, k3⟩ | ⟨z, k3, k3'⟩
  · rw [if_pos z] at h
    exact Or.inl ⟨fun q => k3 ⟨q.1, q.2.1⟩, no _ h⟩
  · rw [if_neg (ne01 z)] at h
    obtain ⟨r6, a6, h⟩ := bd_some h
    rcases inn a6 with ⟨z, k6⟩ | ⟨z, k6, k6'⟩
    · rw [if_pos z] at h
      exact Or.inl ⟨fun q => k6 ⟨q.2.2.1, q.2.2.2⟩, no _ h⟩
    · rw [if_neg (ne01 z)] at h
      obtain ⟨⟨r9, u10⟩, a9, h⟩ := bd_some h
      refine Or.inr ⟨⟨k3, k3', k6, k6'⟩, r9, u10, a9, ?_⟩
      have h : (if x2 = 0 then (LX12_even_0_45 GX12_even_0_76 5000 0 0 u10) else (LX12_even_0_99  5000 (-100000000) 0 u10)) = some (r, v') := h
      by_cases c : x2 = 0
      · rw [if_pos c] at h
        exact Or.inl ⟨c, h⟩
      · rw [if_neg c] at h
        exact Or.inr ⟨c, h⟩
/-- the reference's count of directions -/
theorem ev45 {r : Int32} {v v' : SX} (hg : ∀ i, i < 41 → 0 ≤ (v.2.1 23 i).toInt) : ∀ (n : Nat) (z3 z4 : Int32), 0 ≤ z4.toInt → z4.toInt ≤ 16 → z3.toInt = (cntN (v.2.1 23) z4.toNatClampNeg : Nat) → LX12_even_0_45 GX12_even_0_76 n z3 z4 v = some (r, v') → ∃ c : Int32, c.toInt = (cntN (v.2.1 23) 16 : Nat) ∧ GX12_even_0_76 c v = some (r, v') := by
  intro n
  induction n with
  | zero => intro z3 z4 _ _ _ h; cases h
  | succ n ih =>
    intro z3 z4 h0 h9 e3 h
    have h : (if 16 ≤ z4 then (GX12_even_0_76 z3 v) else (gd (inb z4 41) (if (v.2.1 23 z4.toNatClampNeg) ≤ 0 then (GX12_even_0_68 (LX12_even_0_45 GX12_even_0_76 n) z4 0 z3 v) else (GX12_even_0_68 (LX12_even_0_45 GX12_even_0_76 n) z4 1 z3 v)))) = some (r, v') := h
    have zn : z4.toNatClampNeg = z4.toInt.toNat := rfl
    by_cases c : 16 ≤ z4
    · rw [if_pos c] at h
      have c9 : (16 : Int) ≤ z4.toInt := leI c
      have ez : z4.toNatClampNeg = 16 := by rw [zn]; omega
      rw [ez] at e3
      exact ⟨z3, e3, h⟩
    · rw [if_neg c] at h
      have c9 : ¬ (16 : Int) ≤ z4.toInt := nleI c
      have et : (z4 + 1).toInt = z4.toInt + 1 := addc_t (by decide) (by omega) (by omega)
      have en := ns1 h0 (show z4.toInt ≤ 5000 by omega)
      obtain ⟨-, h⟩ := gd_some h
      have hle := cntN_le (g := v.2.1 23) z4.toNatClampNeg
      have hle : cntN (v.2.1 23) z4.toNatClampNeg ≤ z4.toInt.toNat := hle
      have nx : ∀ (y0 : Int32) (m : Nat), y0.toInt = (m : Int) → m ≤ 1 → cntN (v.2.1 23) (z4.toNatClampNeg + 1) = cntN (v.2.1 23) z4.toNatClampNeg + m → GX12_even_0_68 (LX12_even_0_45 GX12_even_0_76 n) z4 y0 z3 v = some (r, v') → ∃ c : Int32, c.toInt = (cntN (v.2.1 23) 16 : Nat) ∧ GX12_even_0_76 c v = some (r, v') := fun y0 m ey hm ec g => by
        unfold GX12_even_0_68 at g
        obtain ⟨v23, i23, g⟩ := lt_some g
        refine ih v23 (z4 + 1) (by rw [et]; omega) (by rw [et]; omega) ?_ g
        rw [en, i23, add_t (by omega) (by omega), ec, e3, ey]
        omega
      have g0 := hg z4.toNatClampNeg (by rw [zn]; omega)
      by_cases d : v.2.1 23 z4.toNatClampNeg ≤ 0
      · have d9 : (v.2.1 23 z4.toNatClampNeg).toInt ≤ (0 : Int) := leI d
        have d0 : v.2.1 23 z4.toNatClampNeg = 0 := Int32.toInt.inj (by show _ = (0 : Int); omega)
        rw [if_pos d] at h
        refine nx 0 0 (by decide) (by decide) ?_ h
        rw [cntN_s, if_pos d0]
      · have d0 : ¬ v.2.1 23 z4.toNatClampNeg = 0 := fun z => d (by rw [z]; decide)
        rw [if_neg d] at h
        refine nx 1 1 (by decide) (by decide) ?_ h
        rw [cntN_s, if_neg d0]
theorem meanM {z r1 c : Int32} {s : Int64} {v w : SX} (p22 : v.2.2.2.1 22 z.toNatClampNeg = s) (p23 : v.2.1 23 z.toNatClampNeg = c) (hb : -48100000 ≤ (mnL64 s c).toInt ∧ (mnL64 s c).toInt ≤ 48100000) (h : fX12_mean_0 z v = some (r1, w)) : r1.toInt = (mnL64 s c).toInt ∧ w = v := by
  unfold fX12_mean_0 at h
  obtain ⟨-, h⟩ := gd_some h
  obtain ⟨-, h⟩ := gd_some h
  obtain ⟨-, h⟩ := gd_some h
  have e : (v.2.2.2.1 22 z.toNatClampNeg / (v.2.1 23 z.toNatClampNeg).toInt64).toInt32 = r1 ∧ v = w := by cases h; exact ⟨rfl, rfl⟩
  rw [p22, p23] at e
  have e1 : (mnL64 s c).toInt32 = r1 := e.1
  rw [← e1]
  exact ⟨i64_32 (by omega) (by omega), e.2.symm⟩
theorem absLM {A B : Int64} {a b : Int32} (ha : a.toInt = A.toInt) (hb : b.toInt = B.toInt) (A0 : -48100000 ≤ A.toInt) (A1 : A.toInt ≤ 48100000) (B0 : -48100000 ≤ B.toInt) (B1 : B.toInt ≤ 48100000) : (if 0 < (A - B) then (A - B) else -(A - B)).toInt32 = (if 0 ≤ (a - b) then (a - b) else 0 - (a - b)) := by
  have e : (A - B).toInt = A.toInt - B.toInt := by
    rw [Int64.toInt_sub]
    exact bm_l (by omega) (by omega)
  have f : (a - b).toInt = a.toInt - b.toInt := sub_t (by omega) (by omega)
  refine Int32.toInt.inj ?_
  by_cases c : 0 < (A - B)
  · have c9 : (0 : Int) < (A - B).toInt := Int64.lt_iff_toInt_lt.mp c
    have d : 0 ≤ (a - b) := Int32.le_iff_toInt_le.mpr (by show (0 : Int) ≤ _; omega)
    rw [if_pos c, if_pos d, i64_32 (by omega) (by omega)]
    omega
  · have c9 : ¬ (0 : Int) < (A - B).toInt := fun z => c (Int64.lt_iff_toInt_lt.mpr z)
    have n : (-(A - B)).toInt = -(A - B).toInt := by
      rw [Int64.toInt_neg]
      exact bm_l (by omega) (by omega)
    rw [if_neg c, i64_32 (by omega) (by omega), n]
    by_cases d : 0 ≤ (a - b)
    · have d9 : (0 : Int) ≤ (a - b).toInt := leI d
      rw [if_pos d]
      omega
    · rw [if_neg d, csub_t (n := 0) (by decide) (by omega) (by omega)]
      omega
/-- one side: both alike -/
theorem side_L {r r' : Int32} {u u' v v' : SX} (hm : MN (u.2.2.2.1 42) (u.2.1 43)) (e22 : ∀ i : Nat, i < 41 → v.2.2.2.1 22 i = u.2.2.2.1 42 i ∧ v.2.1 23 i = u.2.1 43 i) : ∀ (n m : Nat) (z1 z3 : Int32), 0 ≤ z3.toInt → LX1_oneSide_8_8 n z1 8 z3 u = some (r, u') → LX12_even_0_99 m z1 z3 v = some (r', v') → r = r' := by
  intro n
  induction n with
  | zero => intro m z1 z3 _ h; cases h
  | succ n ih =>
    intro m z1 z3 h0 g k
    cases m with
    | zero => cases k
    | succ m =>
      have g : (if 8 ≤ z3 then (some (z1, u)) else (gd (inb z3 41) (if (u.2.1 43 z3.toNatClampNeg) ≤ 0 then (GX1_oneSide_8_79 (LX1_oneSide_8_8 n) z1 8 z3 u) else (gd (inb (z3 + 8) 41) (if (u.2.1 43 (z3 + 8).toNatClampNeg) ≤ 0 then (GX1_oneSide_8_79 (LX1_oneSide_8_8 n) z1 8 z3 u) else (gd (inb z3 41) (gd (inb z3 41) (gd (nzL ((u.2.1 43 z3.toNatClampNeg).toInt64)) (gd (inb (z3 + 8) 41) (gd (inb (z3 + 8) 41) (gd (nzL ((u.2.1 43 (z3 + 8).toNatClampNeg).toInt64)) (lt (((u.2.2.2.1 42 z3.toNatClampNeg) / ((u.2.1 43 z3.toNatClampNeg).toInt64)) - ((u.2.2.2.1 42 (z3 + 8).toNatClampNeg) / ((u.2.1 43 (z3 + 8).toNatClampNeg).toInt64))) fun v9 => (lt (if z1 < ((if 0 < v9 then v9 else -v9).toInt32) then ((if 0 < v9 then v9 else -v9).toInt32) else z1) fun v11 => (GX1_oneSide_8_79 (LX1_oneSide_8_8 n) v11 8 z3 u)))))))))))))) = some (r, u') := g
      have k : (if 8 ≤ z3 then (some (z1, v)) else (gd (inb z3 41) (if (v.2.1 23 z3.toNatClampNeg) ≤ 0 then (GX12_even_0_153 (LX12_even_0_99 m) z1 z3 v) else (gd (inb (z3 + 8) 41) (if (v.2.1 23 (z3 + 8).toNatClampNeg) ≤ 0 then (GX12_even_0_153 (LX12_even_0_99 m) z1 z3 v) else ((fX12_mean_0 z3 v).bind fun q => match q with | (r14, u15) => ((fX12_mean_0 (z3 + 8) u15).bind fun q => match q with | (r17, u18) => (lt (if z1 < (if 0 ≤ (r14 - r17) then (r14 - r17) else 0 - (r14 - r17)) then (if 0 ≤ (r14 - r17) then (r14 - r17) else 0 - (r14 - r17)) else z1) fun v20 => (GX12_even_0_153 (LX12_even_0_99 m) v20 z3 u18))))))))) = some (r', v') := k
      by_cases c : 8 ≤ z3
      · rw [if_pos c] at g k
        have e : z1 = r := by cases g; rfl
        have e' : z1 = r' := by cases k; rfl
        rw [← e, ← e']
      · rw [if_neg c] at g k
        have c9 : ¬ (8 : Int) ≤ z3.toInt := nleI c
        have et : (z3 + 1).toInt = z3.toInt + 1 := addc_t (by decide) (by omega) (by omega)
        have e8 : (z3 + 8).toInt = z3.toInt + 8 := addc_t (by decide) (by omega) (by omega)
        have zn : z3.toNatClampNeg = z3.toInt.toNat := rfl
        have h1 : 0 ≤ (z3 + 1).toInt := by rw [et]; omega
        have n8 : (z3 + 8).toNatClampNeg = z3.toNatClampNeg + 8 := by
          show (z3 + 8).toInt.toNat = z3.toInt.toNat + 8
          rw [e8]
          omega
        clear et e8
        rw [n8] at g k
        obtain ⟨-, g⟩ := gd_some g
        obtain ⟨-, k⟩ := gd_some k
        obtain ⟨p22, p23⟩ := e22 z3.toNatClampNeg (by rw [zn]; omega)
        obtain ⟨n0, n1, n2⟩ := hm z3.toNatClampNeg (by rw [zn]; omega)
        obtain ⟨q22, q23⟩ := e22 (z3.toNatClampNeg + 8) (by rw [zn]; omega)
        obtain ⟨m0, m1, m2⟩ := hm (z3.toNatClampNeg + 8) (by rw [zn]; omega)
        rw [p23, q23] at k
        by_cases d : u.2.1 43 z3.toNatClampNeg ≤ 0
        · rw [if_pos d] at g k
          exact ih m z1 (z3 + 1) h1 g k
        · rw [if_neg d] at g k
          have d9 : ¬ (u.2.1 43 z3.toNatClampNeg).toInt ≤ (0 : Int) := nleI d
          obtain ⟨-, g⟩ := gd_some g
          obtain ⟨-, k⟩ := gd_some k
          by_cases d2 : u.2.1 43 (z3.toNatClampNeg + 8) ≤ 0
          · rw [if_pos d2] at g k
            exact ih m z1 (z3 + 1) h1 g k
          · rw [if_neg d2] at g k
            have d29 : ¬ (u.2.1 43 (z3.toNatClampNeg + 8)).toInt ≤ (0 : Int) := nleI d2
            obtain ⟨-, g⟩ := gd_some g
            obtain ⟨-, g⟩ := gd_some g
            obtain ⟨-, g⟩ := gd_some g
            obtain ⟨-, g⟩ := gd_some g
            obtain ⟨-, g⟩ := gd_some g
            obtain ⟨-, g⟩ := gd_some g
            obtain ⟨v9, i9, g⟩ := lt_some g
            obtain ⟨v11, i11, g⟩ := lt_some g
            have g : LX1_oneSide_8_8 n v11 8 (z3 + 1) u = some (r, u') := g
            obtain ⟨-, w1, w2⟩ := mean_t (by omega) n1 n2
            obtain ⟨-, y1, y2⟩ := mean_t (by omega) m1 m2
            have i9 : v9 = mnL64 (u.2.2.2.1 42 z3.toNatClampNeg) (u.2.1 43 z3.toNatClampNeg) - mnL64 (u.2.2.2.1 42 (z3.toNatClampNeg + 8)) (u.2.1 43 (z3.toNatClampNeg + 8)) := i9
            obtain ⟨⟨r14, u15⟩, a14, k⟩ := bd_some k
            obtain ⟨f14, g15⟩ := meanM p22 p23 ⟨w1, w2⟩ a14
            rw [g15] at k
            obtain ⟨⟨r17, u18⟩, a17, k⟩ := bd_some k
            obtain ⟨f17, g18⟩ := meanM (by rw [n8]; exact q22) (by rw [n8]; exact q23) ⟨y1, y2⟩ a17
            rw [g18] at k
            obtain ⟨v20, i20, k⟩ := lt_some k
            have k : LX12_even_0_99 m v20 (z3 + 1) v = some (r', v') := k
            have ea := absLM f14 f17 w1 w2 y1 y2
            have ev : v11 = v20 := by rw [i11, i20, i9, ea]
            rw [← ev] at k
            exact ih m v11 (z3 + 1) h1 g k
theorem msC_hi {V : Nat → Int32} : ∀ (K i : Nat), (∀ n, n < K → (V n).toNatClampNeg < 16) → 16 ≤ i → msC V K i = 0 := by
  intro K
  induction K with
  | zero => intro i _ _; rfl
  | succ K ih =>
    intro i h hi
    have q := h K (by omega)
    rw [msC_s, if_neg (by omega)]
    exact ih i (fun n hn => h n (by omega)) hi
theorem cntN_tail {g : Nat → Int32} {a : Nat} : ∀ d : Nat, (∀ i, a ≤ i → i < a + d → g i = 0) → cntN g (a + d) = cntN g a := by
  intro d
  induction d with
  | zero => intro _; rfl
  | succ d ih =>
    intro h
    show cntN g (a + d + 1) = _
    rw [cntN_s, ih (fun i h1 h2 => h i h1 (by omega)), if_pos (h (a + d) (by omega) (by omega)), Nat.add_zero]
theorem even_eq {x1 x2 r r' : Int32} {u u' v v' : SX} (hK : RK u) (hWG : WG u) (ht : Tie u v) (hM : MR u v) (h1 : fX11_even_0 x1 x2 u = some (r, u')) (h2 : fX12_even_0 x1 x2 v = some (r', v')) : r = r' := by
  have b120 : (u.1 0).toInt ≤ (120 : Int) := (hK.1.1.1 0).2
  have hI := hK.1.1
  rcases evenX h1 with ⟨n1, g1⟩ | ⟨o1, s, t, w, w2, a1, a2, g1⟩
  · rcases evenM h2 with ⟨-, g2⟩ | ⟨o2, -⟩
    · rw [g1, g2]
    · rw [← ht.1] at o2
      exact absurd o2 n1
  · rcases evenM h2 with ⟨n2, -⟩ | ⟨-, s2, y, a3, g2⟩
    · rw [← ht.1] at n2
      exact absurd o1 n2
    · obtain ⟨q1, q2, q3, q4⟩ := o1
      obtain ⟨U14, MNw, e22, ct, cz, cn, em⟩ := means_both hK (MR_0 hM) (show (sI v 0 0).1 15 = u.1 13 from ht.2.2.2.2.2.symm) q1 (by omega) (show 0 ≤ (0 : Int32).toInt by decide) (show (0 : Int32).toInt ≤ 5 by decide) a1 a2 a3
      have k1 := U14.2.1
      have kn : (w.1 14).toNatClampNeg = (w.1 14).toInt.toNat := rfl
      by_cases c1 : x2 = 1
      · have c0 : ¬ x2 = 0 := by rw [c1]; decide
        rcases g1 with ⟨-, p1⟩ | ⟨z, -⟩ | ⟨z, -⟩
        · rcases g2 with ⟨z, -⟩ | ⟨-, p2⟩
          · exact absurd z c0
          · unfold fX1_oneSide_8 at p1
            generalize (5000 : Nat) = N at p1 p2
            exact side_L MNw e22 N N _ 0 (by decide) p1 p2
        · exact absurd c1 z
        · exact absurd c1 z
      · have n1 : ¬ x2.toInt = (1 : Int) := neI c1
        have c0 : x2 = 0 := Int32.toInt.inj (by show x2.toInt = (0 : Int); omega)
        rcases g2 with ⟨-, p2⟩ | ⟨z, -⟩
        · generalize (5000 : Nat) = N at p2
          obtain ⟨c, ec, p2⟩ := ev45 (fun i hi => by rw [(e22 i hi).2]; exact (MNw i hi).1) N 0 0 (by decide) (by decide) rfl p2
          have tail := cntN_tail (g := w2.2.1 43) (a := 16) 25 (fun i h1 h2 => by
            rw [em i (by omega)]
            refine msC_hi _ i (fun n hn => ?_) h1
            have b := (hWG n (by rw [kn] at hn; omega)).2
            show (u.2.1 36 (6 * n)).toInt.toNat < 16
            omega)
          have ev16 : cntN (w2.2.1 43) 41 = cntN (y.2.1 23) 16 := by
            have e41 : cntN (w2.2.1 43) 41 = cntN (w2.2.1 43) 16 := tail
            rw [e41]
            exact cntN_cg 16 (fun i hi => by rw [(e22 i (by omega)).2])
          have etc : t = c := Int32.toInt.inj (by rw [ct, ec, ev16])
          unfold GX12_even_0_76 at p2
          rw [← etc] at p2
          rcases g1 with ⟨z, -⟩ | ⟨-, z2, p1⟩ | ⟨-, z2, p1⟩
          · exact absurd z c1
          · rw [if_pos z2] at p2
            obtain ⟨⟨r25, u26⟩, a25, p2⟩ := bd_some p2
            have e : r25 = r' := by cases p2; rfl
            rw [← e]
            refine dist_eq MNw e22 (cn (fun q => ?_)) p1 a25
            have t0 := cz q
            have z29 : (2 : Int) ≤ t.toInt := leI z2
            omega
          · rw [if_neg z2] at p2
            have e : (-100000000 : Int32) = r' := by cases p2; rfl
            rw [p1, ← e]
        · exact absurd c0 z
