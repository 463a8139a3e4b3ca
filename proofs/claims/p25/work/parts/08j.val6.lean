/-! What a text says: the whole text. -/
def BytR (a f2 : Nat → Int32) (n : Int) : Prop := ∀ i : Nat, (i : Int) < n → (1 ≤ (a i).toInt ∧ (a i).toInt ≤ 255) ∧ f2 i &&& 255 = a i ∧ (((a i).toInt ≤ 127 ∧ f2 i = a i) ∨ (128 ≤ (a i).toInt ∧ (f2 i).toInt < 0))
def srtT (sort : Int32) : Int32 := if sort = 0 then 5 else if sort = 1 then 6 else 7
/-- the code says what the reference reads of these bytes, whatever the letters are worth -/
def SEM (sort len : Int32) (f2 code : Nat → Int32) (size : Nat) : Prop := ∀ (ρ L : Nat → Int32) (N B : Int32) (v v' : SX) (r' : Int32), LetR ρ L N (srtT sort) → v.2.1 5 = L → (0 ≤ B.toInt ∧ B.toInt ≤ 4200) → (∀ i : Nat, (i : Int) < len.toInt → v.2.1 2 (B.toNatClampNeg + i) = f2 i) → fX12_goThrough_0_a2 B len sort v = some (r', v') → SAY ρ N code size (v'.1 11) (v'.1 9) ∧ size ≤ 120
set_option maxHeartbeats 1000000 in
theorem fbV0_loop {B : Int32} {L ρ : Nat → Int32} {N : Int32} : ∀ (n : Nat) (z2 : Int32) (u v v1 u' v' : SX) (r r' rc : Int32) (m : Nat) (Q : Int32 × Int32 × Int32), LetR ρ L N Q.2.2 → IX u → PV B L Q 0 u v 0 → SAY ρ N (u.2.1 14) (u.1 2).toNatClampNeg Q.2.1 Q.1 → 0 ≤ z2.toInt → z2.toInt ≤ (u.1 4).toInt → LX5_faultBy_2_as0_17 GX5_faultBy_2_as0_49 GX5_faultBy_2_as0_58 n z2 u = some (r, u') → r = -1 → fX12_clause_0 v = some (rc, v1) → LX12_goThrough_0_a2_73 GX12_goThrough_0_a2_107 m v1 = some (r', v') → SAY ρ N (u'.2.1 14) (u'.1 2).toNatClampNeg (v'.1 11) (v'.1 9) ∧ (u'.1 2).toInt ≤ 120 := by
  intro n
  induction n with
  | zero => intro z2 u v v1 u' v' r r' rc m Q _ _ _ _ _ _ h; cases h
  | succ n ih =>
    intro z2 u v v1 u' v' r r' rc m Q hL hI hP hS hz0 hz1 h1 hr ha hb
    have al : (u.1 4).toInt ≤ (u.1 1).toInt := hP.1.2.2.2.2.2.2.2.2.1
    have h1 : (if (u.1 1) < z2 then _ else ((fX5_clause_2 u).bind _)) = some (r, u') := h1
    rw [if_neg (fun q => by have := ltI q; omega)] at h1
    obtain ⟨⟨r7, u8⟩, a7, h1⟩ := bd_some h1
    have h1 : (if r7 = 0 then (some (u8.1 4, u8)) else _) = some (r, u') := h1
    have I8 : IX u8 := (Tot_at (tfX5_clause_2 u hI) a7).1.1
    have n7 : ¬ r7 = 0 := fun z => by
      rw [if_pos z] at h1
      have e1 : u8.1 4 = r := by cases h1; rfl
      have b4 : (0 : Int) ≤ (u8.1 4).toInt := (I8.1 4).1
      rw [e1, hr] at b4
      exact absurd b4 (by decide)
    rw [if_neg n7] at h1
    obtain ⟨o, hcl, hpf, hP1, hmo⟩ := clauseV hL (by decide) hP a7 n7 ha
    have s0 : 0 ≤ (u.1 2).toInt := hP.2.2.2.2.1
    -- what the code says now
    have hS0 : SAY ρ N (u8.2.1 14) (u.1 2).toNatClampNeg Q.2.1 Q.1 := SAY_cg (fun i hi => hpf.2 i (by
      have hi : i < (u.1 2).toInt.toNat := hi
      omega)) hS
    have hlt := CL_lt hcl
    have hS1 : SAY ρ N (u8.2.1 14) (u8.1 2).toNatClampNeg (Qo Q o).2.1 (Qo Q o).1 := by
      rcases hS0 with ⟨q1, q2, k, q3⟩ | ⟨q1, k, c, d, q2, q3, q4⟩
      · unfold Qo
        rw [if_pos q1]
        cases o with
        | none => exact Or.inl ⟨q1, q2, k + 1, _, q3, hcl⟩
        | some w => exact Or.inr ⟨rfl, k, _, _, q3, hcl, Nat.le_refl _⟩
      · unfold Qo
        rw [if_neg (by rw [q1]; decide)]
        exact Or.inr ⟨q1, k, c, d, q2, q3, by omega⟩
    have hL1 : LetR ρ L N (Qo Q o).2.2 := by
      have eq : (Qo Q o).2.2 = Q.2.2 := by
        unfold Qo
        by_cases z : Q.2.1 = 0
        · rw [if_pos z]
          cases o with
          | none => rfl
          | some w => rfl
        · rw [if_neg z]
      rw [eq]
      exact hL
    cases m with
    | zero => cases hb
    | succ m =>
      have hb : (if (v1.1 7) = (-1) then ((fX12_look_0 v1).bind _) else (GX12_goThrough_0_a2_107 v1)) = some (r', v') := hb
      rw [if_pos hP1.1.2.2.2.2.1] at hb
      obtain ⟨⟨r10, u11⟩, a10, h1⟩ := bd_some h1
      obtain ⟨⟨c', v24⟩, b23, hb⟩ := bd_some hb
      have I11 : IX u11 := (Tot_at (tfX5_takes_2 59 u8 I8 (by decide)) a10).1.1
      unfold fX5_takes_2 at a10
      obtain ⟨⟨c, u0⟩, a0, a10⟩ := bd_some a10
      obtain ⟨hP2, hle, hq, hz⟩ := peekV hP1 a0 b23
      have a10 : (if c = 59 then _ else _) = some (r10, u11) := a10
      have h1 : (if r10 = 0 then (GX5_faultBy_2_as0_49 u11) else ((LX5_faultBy_2_as0_17 GX5_faultBy_2_as0_49 GX5_faultBy_2_as0_58 n) (z2 + 1) u11)) = some (r, u') := h1
      have hb : (if c' = 59 then _ else (GX12_goThrough_0_a2_107 v24)) = some (r', v') := hb
      have k59 := pkq_eq hq (k := 59) (by decide) (by decide)
      have b2 : (u0.1 1).toInt ≤ 120 := hP2.1.2.2.2.2.2.2.2.2.2.1
      have b1 : (u0.1 4).toInt ≤ (u0.1 1).toInt := hP2.1.2.2.2.2.2.2.2.2.1
      have b0 : 0 ≤ (u0.1 4).toInt := hP2.1.2.2.2.2.2.2.2.1
      have p6 : v24.1 6 = u0.1 4 := hP2.1.2.2.2.2.2.1
      have sl0 : (u0.1 2).toInt + 0 ≤ (u0.1 4).toInt := hP2.2.2.2.2.2
      have hS2 : SAY ρ N (u0.2.1 14) (u0.1 2).toNatClampNeg (Qo Q o).2.1 (Qo Q o).1 := by
        rw [hz.1, hz.2]
        exact hS1
      by_cases c59 : c = 59
      · rw [if_pos c59] at a10
        rw [if_pos (k59.mp c59)] at hb
        obtain ⟨w4, j4, a10⟩ := lt_some a10
        obtain ⟨-, a10⟩ := gd_some a10
        have e1 : (1 : Int32) = r10 ∧ w4 = u11 := by cases a10; exact ⟨rfl, rfl⟩
        rw [if_neg (by rw [← e1.1]; decide)] at h1
        have hlt2 : (u0.1 4).toInt < (u0.1 1).toInt := by
          rcases hq with ⟨q1, -⟩ | ⟨-, -, -, q4, -⟩
          · rw [q1] at c59
            exact absurd c59 (by decide)
          · exact q4
        have e5 : (u0.1 4 + 1).toInt = (u0.1 4).toInt + 1 := addc_t (by decide) (by omega) (by omega)
        have ez : (z2 + 1).toInt = z2.toInt + 1 := addc_t (by decide) (by omega) (by omega)
        obtain ⟨v26, i26, hb⟩ := lt_some hb
        rw [p6] at i26
        obtain ⟨⟨r28, v29⟩, b28, hb⟩ := bd_some hb
        rw [i26] at b28
        rw [← e1.2, j4] at h1 I11
        exact ih (z2 + 1) _ _ v29 u' v' r r' r28 m (Qo Q o) hL1 I11 (PV_at hP2 (by rw [e5]; omega) (by rw [e5]; omega) (by rw [e5]; omega)) hS2 (by rw [ez]; omega) (by show _ ≤ (u0.1 4 + 1).toInt; rw [e5, ez]; omega) h1 hr b28 hb
      · rw [if_neg c59] at a10
        rw [if_neg (fun z => c59 (k59.mpr z))] at hb
        obtain ⟨-, a10⟩ := gd_some a10
        have e1 : (0 : Int32) = r10 ∧ u0 = u11 := by cases a10; exact ⟨rfl, rfl⟩
        rw [if_pos e1.1.symm, ← e1.2] at h1
        unfold GX5_faultBy_2_as0_49 GX5_faultBy_2_as0_58 at h1
        unfold GX12_goThrough_0_a2_107 at hb
        rw [if_pos hP2.1.2.2.2.2.1] at hb
        obtain ⟨⟨c2, u14⟩, a13, h1⟩ := bd_some h1
        obtain ⟨v0, hP0⟩ := PV_PR hP2
        obtain ⟨x1, x2⟩ := peek2 hP0 hq a13
        rw [x1, x2] at h1
        obtain ⟨⟨c3, v32⟩, b31, hb⟩ := bd_some hb
        obtain ⟨x3, x4⟩ := look2V hP2 hq b31
        rw [x3, x4] at hb
        have h1 : (if c = 0 then (some ((-1), u0)) else (some (u0.1 4, u0))) = some (r, u') := h1
        have hb : (if c' = (-1) then (some (0, v24)) else _) = some (r', v') := hb
        rcases hq with ⟨q1, q2, -⟩ | ⟨q1, q2, q3, q4, -⟩
        · rw [if_pos q1] at h1
          rw [if_pos q2] at hb
          have e3 : u0 = u' := by cases h1; rfl
          have e2 : v24 = v' := by cases hb; rfl
          have pQ : (v24.1 9, v24.1 11, v24.1 10) = Qo Q o := hP2.2.2.2.1
          rw [← pQ] at hS2
          rw [← e3, ← e2]
          exact ⟨hS2, by omega⟩
        · rw [if_neg (fun z => by have z9 : c.toInt = (0 : Int) := eqI z; omega)] at h1
          have e3 : u0.1 4 = r := by cases h1; rfl
          rw [e3, hr] at b0
          exact absurd b0 (by decide)
set_option maxHeartbeats 1000000 in
theorem sem0 {u u' : SX} {f2 : Nat → Int32} (hI : IX u) (hf : BytR (u.2.1 13) f2 (u.1 1).toInt) (hX : fX5_faultBy_2_as0 u = some (-1, u')) : SEM 0 (u.1 1) f2 (u'.2.1 14) (u'.1 2).toNatClampNeg := by
  intro ρ L N B v v' r' hL hv5 hB hrow hM
  have b1 : 0 ≤ (u.1 1).toInt ∧ (u.1 1).toInt ≤ 120 := ⟨(hI.1 1).1, (hI.1 1).2⟩
  unfold fX5_faultBy_2_as0 at hX
  obtain ⟨w1, j1, hX⟩ := lt_some hX
  obtain ⟨w2, j2, hX⟩ := lt_some hX
  obtain ⟨w3, j3, hX⟩ := lt_some hX
  have I3 : IX w3 := by
    rw [j3, j2, j1]
    exact (StX_sI (md := ([2, 3, 4], [], [], [])) (StX_sI (StX_sI (StX_rf hI) (by decide) (by decide) (by decide)) (by decide) (by decide) (by decide)) (by decide) (by decide) (by decide)).1
  unfold fX12_goThrough_0_a2 at hM
  obtain ⟨y1, i1, hM⟩ := lt_some hM
  obtain ⟨y2, i2, hM⟩ := lt_some hM
  obtain ⟨y3, i3, hM⟩ := lt_some hM
  have hM : GX12_goThrough_0_a2_41b y3 = some (r', v') := hM
  unfold GX12_goThrough_0_a2_41b at hM
  obtain ⟨y4, i4, hM⟩ := lt_some hM
  obtain ⟨y5, i5, hM⟩ := lt_some hM
  obtain ⟨y6, i6, hM⟩ := lt_some hM
  obtain ⟨y7, i7, hM⟩ := lt_some hM
  obtain ⟨-, hM⟩ := gd_some hM
  obtain ⟨y8, i8, hM⟩ := lt_some hM
  obtain ⟨y9, i9, hM⟩ := lt_some hM
  obtain ⟨⟨rc, v1⟩, ha, hM⟩ := bd_some hM
  have hP : PV B L (0, 0, 5) 0 w3 y9 0 := by
    subst i9 i8 i7 i6 i5 i4 i3 i2 i1 j3 j2 j1
    refine ⟨⟨rfl, rfl, rfl, Or.inl ⟨rfl, rfl⟩, rfl, rfl, rfl, by show (0 : Int) ≤ 0; exact Int.le_refl _, b1.1, b1.2, fun i hi => ?_⟩, hv5, hB, rfl, by show (0 : Int) ≤ 0; exact Int.le_refl _, by show (0 : Int) + 0 ≤ 0; exact Int.le_refl _⟩
    obtain ⟨h1, h2, h3⟩ := hf i hi
    have e := hrow i hi
    have e : (v.2.1 2 (B.toNatClampNeg + i)) = f2 i := e
    refine ⟨h1, ?_, ?_⟩
    · show v.2.1 2 (B.toNatClampNeg + i) &&& 255 = _
      rw [e]
      exact h2
    · show ((_ ∧ v.2.1 2 (B.toNatClampNeg + i) = _) ∨ (_ ∧ (v.2.1 2 (B.toNatClampNeg + i)).toInt < 0))
      rw [e]
      exact h3
  have hs3 : (w3.1 2).toNatClampNeg = 0 := by rw [j3]; rfl
  have a4 : 0 ≤ (w3.1 4).toInt := hP.1.2.2.2.2.2.2.2.1
  have hS : SAY ρ N (w3.2.1 14) (w3.1 2).toNatClampNeg ((0, 0, 5) : Int32 × Int32 × Int32).2.1 ((0, 0, 5) : Int32 × Int32 × Int32).1 := by
    rw [hs3]
    exact Or.inl ⟨rfl, rfl, 0, rfl⟩
  obtain ⟨q1, q2⟩ := fbV0_loop 5000 0 w3 y9 v1 u' v' (-1) r' rc 5000 (0, 0, 5) hL I3 hP hS (by decide) (by show (0 : Int) ≤ _; exact a4) hX rfl ha hM
  exact ⟨q1, by show (u'.1 2).toInt.toNat ≤ 120; omega⟩
set_option maxHeartbeats 1000000 in
theorem fbV1_loop {B : Int32} {L ρ : Nat → Int32} {N : Int32} : ∀ (n : Nat) (z2 : Int32) (u v v1 u' v' : SX) (r r' rc : Int32) (m : Nat) (Q : Int32 × Int32 × Int32), LetR ρ L N Q.2.2 → IX u → PV B L Q 0 u v 0 → SAY ρ N (u.2.1 14) (u.1 2).toNatClampNeg Q.2.1 Q.1 → 0 ≤ z2.toInt → z2.toInt ≤ (u.1 4).toInt → LX5_faultBy_2_as1_17 GX5_faultBy_2_as1_49 GX5_faultBy_2_as1_58 n z2 u = some (r, u') → r = -1 → fX12_clause_0 v = some (rc, v1) → LX12_goThrough_0_a2_73 GX12_goThrough_0_a2_107 m v1 = some (r', v') → SAY ρ N (u'.2.1 14) (u'.1 2).toNatClampNeg (v'.1 11) (v'.1 9) ∧ (u'.1 2).toInt ≤ 120 := by
  intro n
  induction n with
  | zero => intro z2 u v v1 u' v' r r' rc m Q _ _ _ _ _ _ h; cases h
  | succ n ih =>
    intro z2 u v v1 u' v' r r' rc m Q hL hI hP hS hz0 hz1 h1 hr ha hb
    have al : (u.1 4).toInt ≤ (u.1 1).toInt := hP.1.2.2.2.2.2.2.2.2.1
    have h1 : (if (u.1 1) < z2 then _ else ((fX5_clause_2 u).bind _)) = some (r, u') := h1
    rw [if_neg (fun q => by have := ltI q; omega)] at h1
    obtain ⟨⟨r7, u8⟩, a7, h1⟩ := bd_some h1
    have h1 : (if r7 = 0 then (some (u8.1 4, u8)) else _) = some (r, u') := h1
    have I8 : IX u8 := (Tot_at (tfX5_clause_2 u hI) a7).1.1
    have n7 : ¬ r7 = 0 := fun z => by
      rw [if_pos z] at h1
      have e1 : u8.1 4 = r := by cases h1; rfl
      have b4 : (0 : Int) ≤ (u8.1 4).toInt := (I8.1 4).1
      rw [e1, hr] at b4
      exact absurd b4 (by decide)
    rw [if_neg n7] at h1
    obtain ⟨o, hcl, hpf, hP1, hmo⟩ := clauseV hL (by decide) hP a7 n7 ha
    have s0 : 0 ≤ (u.1 2).toInt := hP.2.2.2.2.1
    -- what the code says now
    have hS0 : SAY ρ N (u8.2.1 14) (u.1 2).toNatClampNeg Q.2.1 Q.1 := SAY_cg (fun i hi => hpf.2 i (by
      have hi : i < (u.1 2).toInt.toNat := hi
      omega)) hS
    have hlt := CL_lt hcl
    have hS1 : SAY ρ N (u8.2.1 14) (u8.1 2).toNatClampNeg (Qo Q o).2.1 (Qo Q o).1 := by
      rcases hS0 with ⟨q1, q2, k, q3⟩ | ⟨q1, k, c, d, q2, q3, q4⟩
      · unfold Qo
        rw [if_pos q1]
        cases o with
        | none => exact Or.inl ⟨q1, q2, k + 1, _, q3, hcl⟩
        | some w => exact Or.inr ⟨rfl, k, _, _, q3, hcl, Nat.le_refl _⟩
      · unfold Qo
        rw [if_neg (by rw [q1]; decide)]
        exact Or.inr ⟨q1, k, c, d, q2, q3, by omega⟩
    have hL1 : LetR ρ L N (Qo Q o).2.2 := by
      have eq : (Qo Q o).2.2 = Q.2.2 := by
        unfold Qo
        by_cases z : Q.2.1 = 0
        · rw [if_pos z]
          cases o with
          | none => rfl
          | some w => rfl
        · rw [if_neg z]
      rw [eq]
      exact hL
    cases m with
    | zero => cases hb
    | succ m =>
      have hb : (if (v1.1 7) = (-1) then ((fX12_look_0 v1).bind _) else (GX12_goThrough_0_a2_107 v1)) = some (r', v') := hb
      rw [if_pos hP1.1.2.2.2.2.1] at hb
      obtain ⟨⟨r10, u11⟩, a10, h1⟩ := bd_some h1
      obtain ⟨⟨c', v24⟩, b23, hb⟩ := bd_some hb
      have I11 : IX u11 := (Tot_at (tfX5_takes_2 59 u8 I8 (by decide)) a10).1.1
      unfold fX5_takes_2 at a10
      obtain ⟨⟨c, u0⟩, a0, a10⟩ := bd_some a10
      obtain ⟨hP2, hle, hq, hz⟩ := peekV hP1 a0 b23
      have a10 : (if c = 59 then _ else _) = some (r10, u11) := a10
      have h1 : (if r10 = 0 then (GX5_faultBy_2_as1_49 u11) else ((LX5_faultBy_2_as1_17 GX5_faultBy_2_as1_49 GX5_faultBy_2_as1_58 n) (z2 + 1) u11)) = some (r, u') := h1
      have hb : (if c' = 59 then _ else (GX12_goThrough_0_a2_107 v24)) = some (r', v') := hb
      have k59 := pkq_eq hq (k := 59) (by decide) (by decide)
      have b2 : (u0.1 1).toInt ≤ 120 := hP2.1.2.2.2.2.2.2.2.2.2.1
      have b1 : (u0.1 4).toInt ≤ (u0.1 1).toInt := hP2.1.2.2.2.2.2.2.2.2.1
      have b0 : 0 ≤ (u0.1 4).toInt := hP2.1.2.2.2.2.2.2.2.1
      have p6 : v24.1 6 = u0.1 4 := hP2.1.2.2.2.2.2.1
      have sl0 : (u0.1 2).toInt + 0 ≤ (u0.1 4).toInt := hP2.2.2.2.2.2
      have hS2 : SAY ρ N (u0.2.1 14) (u0.1 2).toNatClampNeg (Qo Q o).2.1 (Qo Q o).1 := by
        rw [hz.1, hz.2]
        exact hS1
      by_cases c59 : c = 59
      · rw [if_pos c59] at a10
        rw [if_pos (k59.mp c59)] at hb
        obtain ⟨w4, j4, a10⟩ := lt_some a10
        obtain ⟨-, a10⟩ := gd_some a10
        have e1 : (1 : Int32) = r10 ∧ w4 = u11 := by cases a10; exact ⟨rfl, rfl⟩
        rw [if_neg (by rw [← e1.1]; decide)] at h1
        have hlt2 : (u0.1 4).toInt < (u0.1 1).toInt := by
          rcases hq with ⟨q1, -⟩ | ⟨-, -, -, q4, -⟩
          · rw [q1] at c59
            exact absurd c59 (by decide)
          · exact q4
        have e5 : (u0.1 4 + 1).toInt = (u0.1 4).toInt + 1 := addc_t (by decide) (by omega) (by omega)
        have ez : (z2 + 1).toInt = z2.toInt + 1 := addc_t (by decide) (by omega) (by omega)
        obtain ⟨v26, i26, hb⟩ := lt_some hb
        rw [p6] at i26
        obtain ⟨⟨r28, v29⟩, b28, hb⟩ := bd_some hb
        rw [i26] at b28
        rw [← e1.2, j4] at h1 I11
        exact ih (z2 + 1) _ _ v29 u' v' r r' r28 m (Qo Q o) hL1 I11 (PV_at hP2 (by rw [e5]; omega) (by rw [e5]; omega) (by rw [e5]; omega)) hS2 (by rw [ez]; omega) (by show _ ≤ (u0.1 4 + 1).toInt; rw [e5, ez]; omega) h1 hr b28 hb
      · rw [if_neg c59] at a10
        rw [if_neg (fun z => c59 (k59.mpr z))] at hb
        obtain ⟨-, a10⟩ := gd_some a10
        have e1 : (0 : Int32) = r10 ∧ u0 = u11 := by cases a10; exact ⟨rfl, rfl⟩
        rw [if_pos e1.1.symm, ← e1.2] at h1
        unfold GX5_faultBy_2_as1_49 GX5_faultBy_2_as1_58 at h1
        unfold GX12_goThrough_0_a2_107 at hb
        rw [if_pos hP2.1.2.2.2.2.1] at hb
        obtain ⟨⟨c2, u14⟩, a13, h1⟩ := bd_some h1
        obtain ⟨v0, hP0⟩ := PV_PR hP2
        obtain ⟨x1, x2⟩ := peek2 hP0 hq a13
        rw [x1, x2] at h1
        obtain ⟨⟨c3, v32⟩, b31, hb⟩ := bd_some hb
        obtain ⟨x3, x4⟩ := look2V hP2 hq b31
        rw [x3, x4] at hb
        have h1 : (if c = 0 then (some ((-1), u0)) else (some (u0.1 4, u0))) = some (r, u') := h1
        have hb : (if c' = (-1) then (some (0, v24)) else _) = some (r', v') := hb
        rcases hq with ⟨q1, q2, -⟩ | ⟨q1, q2, q3, q4, -⟩
        · rw [if_pos q1] at h1
          rw [if_pos q2] at hb
          have e3 : u0 = u' := by cases h1; rfl
          have e2 : v24 = v' := by cases hb; rfl
          have pQ : (v24.1 9, v24.1 11, v24.1 10) = Qo Q o := hP2.2.2.2.1
          rw [← pQ] at hS2
          rw [← e3, ← e2]
          exact ⟨hS2, by omega⟩
        · rw [if_neg (fun z => by have z9 : c.toInt = (0 : Int) := eqI z; omega)] at h1
          have e3 : u0.1 4 = r := by cases h1; rfl
          rw [e3, hr] at b0
          exact absurd b0 (by decide)
set_option maxHeartbeats 1000000 in
theorem sem1 {u u' : SX} {f2 : Nat → Int32} (hI : IX u) (hf : BytR (u.2.1 13) f2 (u.1 1).toInt) (hX : fX5_faultBy_2_as1 u = some (-1, u')) : SEM 1 (u.1 1) f2 (u'.2.1 14) (u'.1 2).toNatClampNeg := by
  intro ρ L N B v v' r' hL hv5 hB hrow hM
  have b1 : 0 ≤ (u.1 1).toInt ∧ (u.1 1).toInt ≤ 120 := ⟨(hI.1 1).1, (hI.1 1).2⟩
  unfold fX5_faultBy_2_as1 at hX
  obtain ⟨w1, j1, hX⟩ := lt_some hX
  obtain ⟨w2, j2, hX⟩ := lt_some hX
  obtain ⟨w3, j3, hX⟩ := lt_some hX
  have I3 : IX w3 := by
    rw [j3, j2, j1]
    exact (StX_sI (md := ([2, 3, 4], [], [], [])) (StX_sI (StX_sI (StX_rf hI) (by decide) (by decide) (by decide)) (by decide) (by decide) (by decide)) (by decide) (by decide) (by decide)).1
  unfold fX12_goThrough_0_a2 at hM
  obtain ⟨y1, i1, hM⟩ := lt_some hM
  obtain ⟨y2, i2, hM⟩ := lt_some hM
  obtain ⟨y3, i3, hM⟩ := lt_some hM
  have hM : GX12_goThrough_0_a2_41a y3 = some (r', v') := hM
  unfold GX12_goThrough_0_a2_41a at hM
  obtain ⟨y4, i4, hM⟩ := lt_some hM
  obtain ⟨y5, i5, hM⟩ := lt_some hM
  obtain ⟨y6, i6, hM⟩ := lt_some hM
  obtain ⟨y7, i7, hM⟩ := lt_some hM
  obtain ⟨-, hM⟩ := gd_some hM
  obtain ⟨y8, i8, hM⟩ := lt_some hM
  obtain ⟨y9, i9, hM⟩ := lt_some hM
  obtain ⟨⟨rc, v1⟩, ha, hM⟩ := bd_some hM
  have hP : PV B L (0, 0, 6) 0 w3 y9 0 := by
    subst i9 i8 i7 i6 i5 i4 i3 i2 i1 j3 j2 j1
    refine ⟨⟨rfl, rfl, rfl, Or.inr (Or.inl ⟨rfl, rfl⟩), rfl, rfl, rfl, by show (0 : Int) ≤ 0; exact Int.le_refl _, b1.1, b1.2, fun i hi => ?_⟩, hv5, hB, rfl, by show (0 : Int) ≤ 0; exact Int.le_refl _, by show (0 : Int) + 0 ≤ 0; exact Int.le_refl _⟩
    obtain ⟨h1, h2, h3⟩ := hf i hi
    have e := hrow i hi
    have e : (v.2.1 2 (B.toNatClampNeg + i)) = f2 i := e
    refine ⟨h1, ?_, ?_⟩
    · show v.2.1 2 (B.toNatClampNeg + i) &&& 255 = _
      rw [e]
      exact h2
    · show ((_ ∧ v.2.1 2 (B.toNatClampNeg + i) = _) ∨ (_ ∧ (v.2.1 2 (B.toNatClampNeg + i)).toInt < 0))
      rw [e]
      exact h3
  have hs3 : (w3.1 2).toNatClampNeg = 0 := by rw [j3]; rfl
  have a4 : 0 ≤ (w3.1 4).toInt := hP.1.2.2.2.2.2.2.2.1
  have hS : SAY ρ N (w3.2.1 14) (w3.1 2).toNatClampNeg ((0, 0, 6) : Int32 × Int32 × Int32).2.1 ((0, 0, 6) : Int32 × Int32 × Int32).1 := by
    rw [hs3]
    exact Or.inl ⟨rfl, rfl, 0, rfl⟩
  obtain ⟨q1, q2⟩ := fbV1_loop 5000 0 w3 y9 v1 u' v' (-1) r' rc 5000 (0, 0, 6) hL I3 hP hS (by decide) (by show (0 : Int) ≤ _; exact a4) hX rfl ha hM
  exact ⟨q1, by show (u'.1 2).toInt.toNat ≤ 120; omega⟩
set_option maxHeartbeats 1000000 in
theorem fbV2_loop {B : Int32} {L ρ : Nat → Int32} {N : Int32} : ∀ (n : Nat) (z2 : Int32) (u v v1 u' v' : SX) (r r' rc : Int32) (m : Nat) (Q : Int32 × Int32 × Int32), LetR ρ L N Q.2.2 → IX u → PV B L Q 0 u v 0 → SAY ρ N (u.2.1 14) (u.1 2).toNatClampNeg Q.2.1 Q.1 → 0 ≤ z2.toInt → z2.toInt ≤ (u.1 4).toInt → LX5_faultBy_2_as2_17 GX5_faultBy_2_as2_49 GX5_faultBy_2_as2_58 n z2 u = some (r, u') → r = -1 → fX12_clause_0 v = some (rc, v1) → LX12_goThrough_0_a2_73 GX12_goThrough_0_a2_107 m v1 = some (r', v') → SAY ρ N (u'.2.1 14) (u'.1 2).toNatClampNeg (v'.1 11) (v'.1 9) ∧ (u'.1 2).toInt ≤ 120 := by
  intro n
  induction n with
  | zero => intro z2 u v v1 u' v' r r' rc m Q _ _ _ _ _ _ h; cases h
  | succ n ih =>
    intro z2 u v v1 u' v' r r' rc m Q hL hI hP hS hz0 hz1 h1 hr ha hb
    have al : (u.1 4).toInt ≤ (u.1 1).toInt := hP.1.2.2.2.2.2.2.2.2.1
    have h1 : (if (u.1 1) < z2 then _ else ((fX5_clause_2 u).bind _)) = some (r, u') := h1
    rw [if_neg (fun q => by have := ltI q; omega)] at h1
    obtain ⟨⟨r7, u8⟩, a7, h1⟩ := bd_some h1
    have h1 : (if r7 = 0 then (some (u8.1 4, u8)) else _) = some (r, u') := h1
    have I8 : IX u8 := (Tot_at (tfX5_clause_2 u hI) a7).1.1
    have n7 : ¬ r7 = 0 := fun z => by
      rw [if_pos z] at h1
      have e1 : u8.1 4 = r := by cases h1; rfl
      have b4 : (0 : Int) ≤ (u8.1 4).toInt := (I8.1 4).1
      rw [e1, hr] at b4
      exact absurd b4 (by decide)
    rw [if_neg n7] at h1
    obtain ⟨o, hcl, hpf, hP1, hmo⟩ := clauseV hL (by decide) hP a7 n7 ha
    have s0 : 0 ≤ (u.1 2).toInt := hP.2.2.2.2.1
    -- what the code says now
    have hS0 : SAY ρ N (u8.2.1 14) (u.1 2).toNatClampNeg Q.2.1 Q.1 := SAY_cg (fun i hi => hpf.2 i (by
      have hi : i < (u.1 2).toInt.toNat := hi
      omega)) hS
    have hlt := CL_lt hcl
    have hS1 : SAY ρ N (u8.2.1 14) (u8.1 2).toNatClampNeg (Qo Q o).2.1 (Qo Q o).1 := by
      rcases hS0 with ⟨q1, q2, k, q3⟩ | ⟨q1, k, c, d, q2, q3, q4⟩
      · unfold Qo
        rw [if_pos q1]
        cases o with
        | none => exact Or.inl ⟨q1, q2, k + 1, _, q3, hcl⟩
        | some w => exact Or.inr ⟨rfl, k, _, _, q3, hcl, Nat.le_refl _⟩
      · unfold Qo
        rw [if_neg (by rw [q1]; decide)]
        exact Or.inr ⟨q1, k, c, d, q2, q3, by omega⟩
    have hL1 : LetR ρ L N (Qo Q o).2.2 := by
      have eq : (Qo Q o).2.2 = Q.2.2 := by
        unfold Qo
        by_cases z : Q.2.1 = 0
        · rw [if_pos z]
          cases o with
          | none => rfl
          | some w => rfl
        · rw [if_neg z]
      rw [eq]
      exact hL
    cases m with
    | zero => cases hb
    | succ m =>
      have hb : (if (v1.1 7) = (-1) then ((fX12_look_0 v1).bind _) else (GX12_goThrough_0_a2_107 v1)) = some (r', v') := hb
      rw [if_pos hP1.1.2.2.2.2.1] at hb
      obtain ⟨⟨r10, u11⟩, a10, h1⟩ := bd_some h1
      obtain ⟨⟨c', v24⟩, b23, hb⟩ := bd_some hb
      have I11 : IX u11 := (Tot_at (tfX5_takes_2 59 u8 I8 (by decide)) a10).1.1
      unfold fX5_takes_2 at a10
      obtain ⟨⟨c, u0⟩, a0, a10⟩ := bd_some a10
      obtain ⟨hP2, hle, hq, hz⟩ := peekV hP1 a0 b23
      have a10 : (if c = 59 then _ else _) = some (r10, u11) := a10
      have h1 : (if r10 = 0 then (GX5_faultBy_2_as2_49 u11) else ((LX5_faultBy_2_as2_17 GX5_faultBy_2_as2_49 GX5_faultBy_2_as2_58 n) (z2 + 1) u11)) = some (r, u') := h1
      have hb : (if c' = 59 then _ else (GX12_goThrough_0_a2_107 v24)) = some (r', v') := hb
      have k59 := pkq_eq hq (k := 59) (by decide) (by decide)
      have b2 : (u0.1 1).toInt ≤ 120 := hP2.1.2.2.2.2.2.2.2.2.2.1
      have b1 : (u0.1 4).toInt ≤ (u0.1 1).toInt := hP2.1.2.2.2.2.2.2.2.2.1
      have b0 : 0 ≤ (u0.1 4).toInt := hP2.1.2.2.2.2.2.2.2.1
      have p6 : v24.1 6 = u0.1 4 := hP2.1.2.2.2.2.2.1
      have sl0 : (u0.1 2).toInt + 0 ≤ (u0.1 4).toInt := hP2.2.2.2.2.2
      have hS2 : SAY ρ N (u0.2.1 14) (u0.1 2).toNatClampNeg (Qo Q o).2.1 (Qo Q o).1 := by
        rw [hz.1, hz.2]
        exact hS1
      by_cases c59 : c = 59
      · rw [if_pos c59] at a10
        rw [if_pos (k59.mp c59)] at hb
        obtain ⟨w4, j4, a10⟩ := lt_some a10
        obtain ⟨-, a10⟩ := gd_some a10
        have e1 : (1 : Int32) = r10 ∧ w4 = u11 := by cases a10; exact ⟨rfl, rfl⟩
        rw [if_neg (by rw [← e1.1]; decide)] at h1
        have hlt2 : (u0.1 4).toInt < (u0.1 1).toInt := by
          rcases hq with ⟨q1, -⟩ | ⟨-, -, -, q4, -⟩
          · rw [q1] at c59
            exact absurd c59 (by decide)
          · exact q4
        have e5 : (u0.1 4 + 1).toInt = (u0.1 4).toInt + 1 := addc_t (by decide) (by omega) (by omega)
        have ez : (z2 + 1).toInt = z2.toInt + 1 := addc_t (by decide) (by omega) (by omega)
        obtain ⟨v26, i26, hb⟩ := lt_some hb
        rw [p6] at i26
        obtain ⟨⟨r28, v29⟩, b28, hb⟩ := bd_some hb
        rw [i26] at b28
        rw [← e1.2, j4] at h1 I11
        exact ih (z2 + 1) _ _ v29 u' v' r r' r28 m (Qo Q o) hL1 I11 (PV_at hP2 (by rw [e5]; omega) (by rw [e5]; omega) (by rw [e5]; omega)) hS2 (by rw [ez]; omega) (by show _ ≤ (u0.1 4 + 1).toInt; rw [e5, ez]; omega) h1 hr b28 hb
      · rw [if_neg c59] at a10
        rw [if_neg (fun z => c59 (k59.mpr z))] at hb
        obtain ⟨-, a10⟩ := gd_some a10
        have e1 : (0 : Int32) = r10 ∧ u0 = u11 := by cases a10; exact ⟨rfl, rfl⟩
        rw [if_pos e1.1.symm, ← e1.2] at h1
        unfold GX5_faultBy_2_as2_49 GX5_faultBy_2_as2_58 at h1
        unfold GX12_goThrough_0_a2_107 at hb
        rw [if_pos hP2.1.2.2.2.2.1] at hb
        obtain ⟨⟨c2, u14⟩, a13, h1⟩ := bd_some h1
        obtain ⟨v0, hP0⟩ := PV_PR hP2
        obtain ⟨x1, x2⟩ := peek2 hP0 hq a13
        rw [x1, x2] at h1
        obtain ⟨⟨c3, v32⟩, b31, hb⟩ := bd_some hb
        obtain ⟨x3, x4⟩ := look2V hP2 hq b31
        rw [x3, x4] at hb
        have h1 : (if c = 0 then (some ((-1), u0)) else (some (u0.1 4, u0))) = some (r, u') := h1
        have hb : (if c' = (-1) then (some (0, v24)) else _) = some (r', v') := hb
        rcases hq with ⟨q1, q2, -⟩ | ⟨q1, q2, q3, q4, -⟩
        · rw [if_pos q1] at h1
          rw [if_pos q2] at hb
          have e3 : u0 = u' := by cases h1; rfl
          have e2 : v24 = v' := by cases hb; rfl
          have pQ : (v24.1 9, v24.1 11, v24.1 10) = Qo Q o := hP2.2.2.2.1
          rw [← pQ] at hS2
          rw [← e3, ← e2]
          exact ⟨hS2, by omega⟩
        · rw [if_neg (fun z => by have z9 : c.toInt = (0 : Int) := eqI z; omega)] at h1
          have e3 : u0.1 4 = r := by cases h1; rfl
          rw [e3, hr] at b0
          exact absurd b0 (by decide)
set_option maxHeartbeats 1000000 in
theorem sem2 {u u' : SX} {f2 : Nat → Int32} (hI : IX u) (hf : BytR (u.2.1 13) f2 (u.1 1).toInt) (hX : fX5_faultBy_2_as2 u = some (-1, u')) : SEM 2 (u.1 1) f2 (u'.2.1 14) (u'.1 2).toNatClampNeg := by
  intro ρ L N B v v' r' hL hv5 hB hrow hM
  have b1 : 0 ≤ (u.1 1).toInt ∧ (u.1 1).toInt ≤ 120 := ⟨(hI.1 1).1, (hI.1 1).2⟩
  unfold fX5_faultBy_2_as2 at hX
  obtain ⟨w1, j1, hX⟩ := lt_some hX
  obtain ⟨w2, j2, hX⟩ := lt_some hX
  obtain ⟨w3, j3, hX⟩ := lt_some hX
  have I3 : IX w3 := by
    rw [j3, j2, j1]
    exact (StX_sI (md := ([2, 3, 4], [], [], [])) (StX_sI (StX_sI (StX_rf hI) (by decide) (by decide) (by decide)) (by decide) (by decide) (by decide)) (by decide) (by decide) (by decide)).1
  unfold fX12_goThrough_0_a2 at hM
  obtain ⟨y1, i1, hM⟩ := lt_some hM
  obtain ⟨y2, i2, hM⟩ := lt_some hM
  obtain ⟨y3, i3, hM⟩ := lt_some hM
  have hM : GX12_goThrough_0_a2_41 y3 = some (r', v') := hM
  unfold GX12_goThrough_0_a2_41 at hM
  obtain ⟨y4, i4, hM⟩ := lt_some hM
  obtain ⟨y5, i5, hM⟩ := lt_some hM
  obtain ⟨y6, i6, hM⟩ := lt_some hM
  obtain ⟨y7, i7, hM⟩ := lt_some hM
  obtain ⟨-, hM⟩ := gd_some hM
  obtain ⟨y8, i8, hM⟩ := lt_some hM
  obtain ⟨y9, i9, hM⟩ := lt_some hM
  obtain ⟨⟨rc, v1⟩, ha, hM⟩ := bd_some hM
  have hP : PV B L (0, 0, 7) 0 w3 y9 0 := by
    subst i9 i8 i7 i6 i5 i4 i3 i2 i1 j3 j2 j1
    refine ⟨⟨rfl, rfl, rfl, Or.inr (Or.inr ⟨rfl, rfl⟩), rfl, rfl, rfl, by show (0 : Int) ≤ 0; exact Int.le_refl _, b1.1, b1.2, fun i hi => ?_⟩, hv5, hB, rfl, by show (0 : Int) ≤ 0; exact Int.le_refl _, by show (0 : Int) + 0 ≤ 0; exact Int.le_refl _⟩
    obtain ⟨h1, h2, h3⟩ := hf i hi
    have e := hrow i hi
    have e : (v.2.1 2 (B.toNatClampNeg + i)) = f2 i := e
    refine ⟨h1, ?_, ?_⟩
    · show v.2.1 2 (B.toNatClampNeg + i) &&& 255 = _
      rw [e]
      exact h2
    · show ((_ ∧ v.2.1 2 (B.toNatClampNeg + i) = _) ∨ (_ ∧ (v.2.1 2 (B.toNatClampNeg + i)).toInt < 0))
      rw [e]
      exact h3
  have hs3 : (w3.1 2).toNatClampNeg = 0 := by rw [j3]; rfl
  have a4 : 0 ≤ (w3.1 4).toInt := hP.1.2.2.2.2.2.2.2.1
  have hS : SAY ρ N (w3.2.1 14) (w3.1 2).toNatClampNeg ((0, 0, 7) : Int32 × Int32 × Int32).2.1 ((0, 0, 7) : Int32 × Int32 × Int32).1 := by
    rw [hs3]
    exact Or.inl ⟨rfl, rfl, 0, rfl⟩
  obtain ⟨q1, q2⟩ := fbV2_loop 5000 0 w3 y9 v1 u' v' (-1) r' rc 5000 (0, 0, 7) hL I3 hP hS (by decide) (by show (0 : Int) ≤ _; exact a4) hX rfl ha hM
  exact ⟨q1, by show (u'.1 2).toInt.toNat ≤ 120; omega⟩
