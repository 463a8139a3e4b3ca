def mdX5_faultBy_2_as0 : MD := ([2, 3, 4], [14], [], [])
abbrev qX5_faultBy_2_as0 (u : SX) (q : Int32 × SX) : Prop := StX mdX5_faultBy_2_as0 u q.2 ∧ ((-1) ≤ q.1.toInt ∧ q.1.toInt ≤ 120) ∧ (True)
set_option maxHeartbeats 400000 in
set_option maxRecDepth 10000 in
theorem tLX5_faultBy_2_as0_17 (u0 : SX)  {k49 : SX → Option (Int32 × SX)} {k58 : SX → Option (Int32 × SX)} (hk49 : ∀  (u : SX), (StX mdX5_faultBy_2_as0 u0 u) → Tot (k49  u) (qX5_faultBy_2_as0 u0)) (hk58 : ∀  (u : SX), (StX mdX5_faultBy_2_as0 u0 u) → Tot (k58  u) (qX5_faultBy_2_as0 u0)) : ∀ (n : Nat) (z2 : Int32) (u : SX), (StX mdX5_faultBy_2_as0 u0 u) → (0 ≤ z2.toInt ∧ z2.toInt ≤ 121) → (121 - z2.toInt < (n : Int)) → Tot (LX5_faultBy_2_as0_17 k49 k58 n z2 u) (qX5_faultBy_2_as0 u0) := by
  intro n
  induction n with
  | zero =>
    intro z2 u hs_u h0 hm
    exfalso
    omega
  | succ n ih =>
    intro z2 u hs_u h0 hm
    rw [LX5_faultBy_2_as0_17]
    have : 0 ≤ (u.1 1).toInt ∧ (u.1 1).toInt ≤ 120 := hs_u.1.1 1
    refine Tot_ite (fun c206 => ?_) (fun c206 => ?_)
    · have : (u.1 1).toInt < z2.toInt := ltI c206
      exact hk58 u hs_u
    · have : ¬ (u.1 1).toInt < z2.toInt := nltI c206
      refine Tot_bind (tfX5_clause_2 u hs_u.1) (fun q hq => ?_)
      obtain ⟨r7, u8⟩ := q
      have hc_u8 : StX mdX5_clause_2 u u8 := hq.1
      have hs_u8 : StX mdX5_faultBy_2_as0 u0 u8 := StX_tr hs_u hc_u8 (by decide)
      have : 0 ≤ r7.toInt ∧ r7.toInt ≤ 1 := hq.2.1
      refine Tot_ite (fun c207 => ?_) (fun c207 => ?_)
      · have : r7.toInt = (0 : Int) := eqI c207
        have : 0 ≤ (u8.1 4).toInt ∧ (u8.1 4).toInt ≤ 120 := hs_u8.1.1 4
        exact Tot_some ⟨hs_u8, (by show (-1) ≤ (u8.1 4).toInt ∧ (u8.1 4).toInt ≤ 120; omega), trivial⟩
      · have : ¬ r7.toInt = (0 : Int) := neI c207
        refine Tot_bind (tfX5_takes_2 59 u8 hs_u8.1 (by show 41 ≤ (59 : Int) ∧ (59 : Int) ≤ 121; omega)) (fun q hq => ?_)
        obtain ⟨r10, u11⟩ := q
        have hc_u11 : StX mdX5_takes_2 u8 u11 := hq.1
        have hs_u11 : StX mdX5_faultBy_2_as0 u0 u11 := StX_tr hs_u8 hc_u11 (by decide)
        have : 0 ≤ r10.toInt ∧ r10.toInt ≤ 1 := hq.2.1
        refine Tot_ite (fun c208 => ?_) (fun c208 => ?_)
        · have : r10.toInt = (0 : Int) := eqI c208
          exact hk49 u11 hs_u11
        · have : ¬ r10.toInt = (0 : Int) := neI c208
          have : (z2 + 1).toInt = z2.toInt + (1 : Int) := addc_t (by decide) (by omega) (by omega)
          exact ih (z2 + 1) u11 hs_u11 ⟨by omega, by omega⟩ (by omega)
set_option maxHeartbeats 400000 in
set_option maxRecDepth 10000 in
theorem tGX5_faultBy_2_as0_58 (u0 : SX)     (u : SX) (hs_u : StX mdX5_faultBy_2_as0 u0 u)  : Tot (GX5_faultBy_2_as0_58  u) (qX5_faultBy_2_as0 u0) := by
  unfold GX5_faultBy_2_as0_58
  refine Tot_bind (tfX5_peek_2 u hs_u.1) (fun q hq => ?_)
  obtain ⟨r13, u14⟩ := q
  have hc_u14 : StX mdX5_peek_2 u u14 := hq.1
  have hs_u14 : StX mdX5_faultBy_2_as0 u0 u14 := StX_tr hs_u hc_u14 (by decide)
  have : 0 ≤ r13.toInt ∧ r13.toInt ≤ 255 := hq.2.1
  have : 0 ≤ (u14.1 4).toInt ∧ (u14.1 4).toInt ≤ 120 := hs_u14.1.1 4
  have : (u14.1 1).toInt = (u.1 1).toInt := congrArg Int32.toInt (hc_u14.2.1 1 (by decide))
  have : 0 ≤ (u.1 1).toInt ∧ (u.1 1).toInt ≤ 120 := hs_u.1.1 1
  have : r13.toInt ≠ 0 → ((u14.1 4).toInt < (u14.1 1).toInt) := hq.2.2
  refine Tot_ite (fun c209 => ?_) (fun c209 => ?_)
  · have : r13.toInt = (0 : Int) := eqI c209
    exact Tot_some ⟨hs_u14, (by show (-1) ≤ (-1 : Int) ∧ (-1 : Int) ≤ 120; omega), trivial⟩
  · have : ¬ r13.toInt = (0 : Int) := neI c209
    exact Tot_some ⟨hs_u14, (by show (-1) ≤ (u14.1 4).toInt ∧ (u14.1 4).toInt ≤ 120; omega), trivial⟩
set_option maxHeartbeats 400000 in
set_option maxRecDepth 10000 in
theorem tGX5_faultBy_2_as0_49 (u0 : SX)     (u : SX) (hs_u : StX mdX5_faultBy_2_as0 u0 u)  : Tot (GX5_faultBy_2_as0_49  u) (qX5_faultBy_2_as0 u0) := by
  unfold GX5_faultBy_2_as0_49
  exact tGX5_faultBy_2_as0_58 u0 u hs_u
set_option maxHeartbeats 400000 in
set_option maxRecDepth 10000 in
theorem tfX5_faultBy_2_as0  (u : SX) (hI : IX u)  : Tot (fX5_faultBy_2_as0  u) (qX5_faultBy_2_as0 u) := by
  unfold fX5_faultBy_2_as0
  have hs_u : StX mdX5_faultBy_2_as0 u u := StX_rf hI
  refine Tot_lt (fun u1 e_u1 => ?_)
  have hs_u1 : StX mdX5_faultBy_2_as0 u u1 := by rw [e_u1]; exact StX_sI hs_u (by decide) (by show 0 ≤ (0 : Int); omega) (by show (0 : Int) ≤ 3; omega)
  refine Tot_lt (fun u3 e_u3 => ?_)
  have hs_u3 : StX mdX5_faultBy_2_as0 u u3 := by rw [e_u3]; exact StX_sI hs_u1 (by decide) (by show 0 ≤ (0 : Int); omega) (by show (0 : Int) ≤ 120; omega)
  refine Tot_lt (fun u5 e_u5 => ?_)
  have hs_u5 : StX mdX5_faultBy_2_as0 u u5 := by rw [e_u5]; exact StX_sI hs_u3 (by decide) (by show 0 ≤ (0 : Int); omega) (by show (0 : Int) ≤ 121; omega)
  exact tLX5_faultBy_2_as0_17 u (tGX5_faultBy_2_as0_49 u) (tGX5_faultBy_2_as0_58 u) 5000 0 u5 hs_u5 (by show 0 ≤ (0 : Int) ∧ (0 : Int) ≤ 121; omega) (by show 121 - (0 : Int) < ((5000 : Nat) : Int); omega)

def mdX5_faultBy_2_as1 : MD := ([2, 3, 4], [14], [], [])
abbrev qX5_faultBy_2_as1 (u : SX) (q : Int32 × SX) : Prop := StX mdX5_faultBy_2_as1 u q.2 ∧ ((-1) ≤ q.1.toInt ∧ q.1.toInt ≤ 120) ∧ (True)
set_option maxHeartbeats 400000 in
set_option maxRecDepth 10000 in
theorem tLX5_faultBy_2_as1_17 (u0 : SX)  {k49 : SX → Option (Int32 × SX)} {k58 : SX → Option (Int32 × SX)} (hk49 : ∀  (u : SX), (StX mdX5_faultBy_2_as1 u0 u) → Tot (k49  u) (qX5_faultBy_2_as1 u0)) (hk58 : ∀  (u : SX), (StX mdX5_faultBy_2_as1 u0 u) → Tot (k58  u) (qX5_faultBy_2_as1 u0)) : ∀ (n : Nat) (z2 : Int32) (u : SX), (StX mdX5_faultBy_2_as1 u0 u) → (0 ≤ z2.toInt ∧ z2.toInt ≤ 121) → (121 - z2.toInt < (n : Int)) → Tot (LX5_faultBy_2_as1_17 k49 k58 n z2 u) (qX5_faultBy_2_as1 u0) := by
  intro n
  induction n with
  | zero =>
    intro z2 u hs_u h0 hm
    exfalso
    omega
  | succ n ih =>
    intro z2 u hs_u h0 hm
    rw [LX5_faultBy_2_as1_17]
    have : 0 ≤ (u.1 1).toInt ∧ (u.1 1).toInt ≤ 120 := hs_u.1.1 1
    refine Tot_ite (fun c210 => ?_) (fun c210 => ?_)
    · have : (u.1 1).toInt < z2.toInt := ltI c210
      exact hk58 u hs_u
    · have : ¬ (u.1 1).toInt < z2.toInt := nltI c210
      refine Tot_bind (tfX5_clause_2 u hs_u.1) (fun q hq => ?_)
      obtain ⟨r7, u8⟩ := q
      have hc_u8 : StX mdX5_clause_2 u u8 := hq.1
      have hs_u8 : StX mdX5_faultBy_2_as1 u0 u8 := StX_tr hs_u hc_u8 (by decide)
      have : 0 ≤ r7.toInt ∧ r7.toInt ≤ 1 := hq.2.1
      refine Tot_ite (fun c211 => ?_) (fun c211 => ?_)
      · have : r7.toInt = (0 : Int) := eqI c211
        have : 0 ≤ (u8.1 4).toInt ∧ (u8.1 4).toInt ≤ 120 := hs_u8.1.1 4
        exact Tot_some ⟨hs_u8, (by show (-1) ≤ (u8.1 4).toInt ∧ (u8.1 4).toInt ≤ 120; omega), trivial⟩
      · have : ¬ r7.toInt = (0 : Int) := neI c211
        refine Tot_bind (tfX5_takes_2 59 u8 hs_u8.1 (by show 41 ≤ (59 : Int) ∧ (59 : Int) ≤ 121; omega)) (fun q hq => ?_)
        obtain ⟨r10, u11⟩ := q
        have hc_u11 : StX mdX5_takes_2 u8 u11 := hq.1
        have hs_u11 : StX mdX5_faultBy_2_as1 u0 u11 := StX_tr hs_u8 hc_u11 (by decide)
        have : 0 ≤ r10.toInt ∧ r10.toInt ≤ 1 := hq.2.1
        refine Tot_ite (fun c212 => ?_) (fun c212 => ?_)
        · have : r10.toInt = (0 : Int) := eqI c212
          exact hk49 u11 hs_u11
        · have : ¬ r10.toInt = (0 : Int) := neI c212
          have : (z2 + 1).toInt = z2.toInt + (1 : Int) := addc_t (by decide) (by omega) (by omega)
          exact ih (z2 + 1) u11 hs_u11 ⟨by omega, by omega⟩ (by omega)
set_option maxHeartbeats 400000 in
set_option maxRecDepth 10000 in
theorem tGX5_faultBy_2_as1_58 (u0 : SX)     (u : SX) (hs_u : StX mdX5_faultBy_2_as1 u0 u)  : Tot (GX5_faultBy_2_as1_58  u) (qX5_faultBy_2_as1 u0) := by
  unfold GX5_faultBy_2_as1_58
  refine Tot_bind (tfX5_peek_2 u hs_u.1) (fun q hq => ?_)
  obtain ⟨r13, u14⟩ := q
  have hc_u14 : StX mdX5_peek_2 u u14 := hq.1
  have hs_u14 : StX mdX5_faultBy_2_as1 u0 u14 := StX_tr hs_u hc_u14 (by decide)
  have : 0 ≤ r13.toInt ∧ r13.toInt ≤ 255 := hq.2.1
  have : 0 ≤ (u14.1 4).toInt ∧ (u14.1 4).toInt ≤ 120 := hs_u14.1.1 4
  have : (u14.1 1).toInt = (u.1 1).toInt := congrArg Int32.toInt (hc_u14.2.1 1 (by decide))
  have : 0 ≤ (u.1 1).toInt ∧ (u.1 1).toInt ≤ 120 := hs_u.1.1 1
  have : r13.toInt ≠ 0 → ((u14.1 4).toInt < (u14.1 1).toInt) := hq.2.2
  refine Tot_ite (fun c213 => ?_) (fun c213 => ?_)
  · have : r13.toInt = (0 : Int) := eqI c213
    exact Tot_some ⟨hs_u14, (by show (-1) ≤ (-1 : Int) ∧ (-1 : Int) ≤ 120; omega), trivial⟩
  · have : ¬ r13.toInt = (0 : Int) := neI c213
    exact Tot_some ⟨hs_u14, (by show (-1) ≤ (u14.1 4).toInt ∧ (u14.1 4).toInt ≤ 120; omega), trivial⟩
set_option maxHeartbeats 400000 in
set_option maxRecDepth 10000 in
theorem tGX5_faultBy_2_as1_49 (u0 : SX)     (u : SX) (hs_u : StX mdX5_faultBy_2_as1 u0 u)  : Tot (GX5_faultBy_2_as1_49  u) (qX5_faultBy_2_as1 u0) := by
  unfold GX5_faultBy_2_as1_49
  exact tGX5_faultBy_2_as1_58 u0 u hs_u
set_option maxHeartbeats 400000 in
set_option maxRecDepth 10000 in
theorem tfX5_faultBy_2_as1  (u : SX) (hI : IX u)  : Tot (fX5_faultBy_2_as1  u) (qX5_faultBy_2_as1 u) := by
  unfold fX5_faultBy_2_as1
  have hs_u : StX mdX5_faultBy_2_as1 u u := StX_rf hI
  refine Tot_lt (fun u1 e_u1 => ?_)
  have hs_u1 : StX mdX5_faultBy_2_as1 u u1 := by rw [e_u1]; exact StX_sI hs_u (by decide) (by show 0 ≤ (1 : Int); omega) (by show (1 : Int) ≤ 3; omega)
  refine Tot_lt (fun u3 e_u3 => ?_)
  have hs_u3 : StX mdX5_faultBy_2_as1 u u3 := by rw [e_u3]; exact StX_sI hs_u1 (by decide) (by show 0 ≤ (0 : Int); omega) (by show (0 : Int) ≤ 120; omega)
  refine Tot_lt (fun u5 e_u5 => ?_)
  have hs_u5 : StX mdX5_faultBy_2_as1 u u5 := by rw [e_u5]; exact StX_sI hs_u3 (by decide) (by show 0 ≤ (0 : Int); omega) (by show (0 : Int) ≤ 121; omega)
  exact tLX5_faultBy_2_as1_17 u (tGX5_faultBy_2_as1_49 u) (tGX5_faultBy_2_as1_58 u) 5000 0 u5 hs_u5 (by show 0 ≤ (0 : Int) ∧ (0 : Int) ≤ 121; omega) (by show 121 - (0 : Int) < ((5000 : Nat) : Int); omega)

def mdX5_faultBy_2_as2 : MD := ([2, 3, 4], [14], [], [])
abbrev qX5_faultBy_2_as2 (u : SX) (q : Int32 × SX) : Prop := StX mdX5_faultBy_2_as2 u q.2 ∧ ((-1) ≤ q.1.toInt ∧ q.1.toInt ≤ 120) ∧ (True)
set_option maxHeartbeats 400000 in
set_option maxRecDepth 10000 in
theorem tLX5_faultBy_2_as2_17 (u0 : SX)  {k49 : SX → Option (Int32 × SX)} {k58 : SX → Option (Int32 × SX)} (hk49 : ∀  (u : SX), (StX mdX5_faultBy_2_as2 u0 u) → Tot (k49  u) (qX5_faultBy_2_as2 u0)) (hk58 : ∀  (u : SX), (StX mdX5_faultBy_2_as2 u0 u) → Tot (k58  u) (qX5_faultBy_2_as2 u0)) : ∀ (n : Nat) (z2 : Int32) (u : SX), (StX mdX5_faultBy_2_as2 u0 u) → (0 ≤ z2.toInt ∧ z2.toInt ≤ 121) → (121 - z2.toInt < (n : Int)) → Tot (LX5_faultBy_2_as2_17 k49 k58 n z2 u) (qX5_faultBy_2_as2 u0) := by
  intro n
  induction n with
  | zero =>
    intro z2 u hs_u h0 hm
    exfalso
    omega
  | succ n ih =>
    intro z2 u hs_u h0 hm
    rw [LX5_faultBy_2_as2_17]
    have : 0 ≤ (u.1 1).toInt ∧ (u.1 1).toInt ≤ 120 := hs_u.1.1 1
    refine Tot_ite (fun c214 => ?_) (fun c214 => ?_)
    · have : (u.1 1).toInt < z2.toInt := ltI c214
      exact hk58 u hs_u
    · have : ¬ (u.1 1).toInt < z2.toInt := nltI c214
      refine Tot_bind (tfX5_clause_2 u hs_u.1) (fun q hq => ?_)
      obtain ⟨r7, u8⟩ := q
      have hc_u8 : StX mdX5_clause_2 u u8 := hq.1
      have hs_u8 : StX mdX5_faultBy_2_as2 u0 u8 := StX_tr hs_u hc_u8 (by decide)
      have : 0 ≤ r7.toInt ∧ r7.toInt ≤ 1 := hq.2.1
      refine Tot_ite (fun c215 => ?_) (fun c215 => ?_)
      · have : r7.toInt = (0 : Int) := eqI c215
        have : 0 ≤ (u8.1 4).toInt ∧ (u8.1 4).toInt ≤ 120 := hs_u8.1.1 4
        exact Tot_some ⟨hs_u8, (by show (-1) ≤ (u8.1 4).toInt ∧ (u8.1 4).toInt ≤ 120; omega), trivial⟩
      · have : ¬ r7.toInt = (0 : Int) := neI c215
        refine Tot_bind (tfX5_takes_2 59 u8 hs_u8.1 (by show 41 ≤ (59 : Int) ∧ (59 : Int) ≤ 121; omega)) (fun q hq => ?_)
        obtain ⟨r10, u11⟩ := q
        have hc_u11 : StX mdX5_takes_2 u8 u11 := hq.1
        have hs_u11 : StX mdX5_faultBy_2_as2 u0 u11 := StX_tr hs_u8 hc_u11 (by decide)
        have : 0 ≤ r10.toInt ∧ r10.toInt ≤ 1 := hq.2.1
        refine Tot_ite (fun c216 => ?_) (fun c216 => ?_)
        · have : r10.toInt = (0 : Int) := eqI c216
          exact hk49 u11 hs_u11
        · have : ¬ r10.toInt = (0 : Int) := neI c216
          have : (z2 + 1).toInt = z2.toInt + (1 : Int) := addc_t (by decide) (by omega) (by omega)
          exact ih (z2 + 1) u11 hs_u11 ⟨by omega, by omega⟩ (by omega)
set_option maxHeartbeats 400000 in
set_option maxRecDepth 10000 in
theorem tGX5_faultBy_2_as2_58 (u0 : SX)     (u : SX) (hs_u : StX mdX5_faultBy_2_as2 u0 u)  : Tot (GX5_faultBy_2_as2_58  u) (qX5_faultBy_2_as2 u0) := by
  unfold GX5_faultBy_2_as2_58
  refine Tot_bind (tfX5_peek_2 u hs_u.1) (fun q hq => ?_)
  obtain ⟨r13, u14⟩ := q
  have hc_u14 : StX mdX5_peek_2 u u14 := hq.1
  have hs_u14 : StX mdX5_faultBy_2_as2 u0 u14 := StX_tr hs_u hc_u14 (by decide)
  have : 0 ≤ r13.toInt ∧ r13.toInt ≤ 255 := hq.2.1
  have : 0 ≤ (u14.1 4).toInt ∧ (u14.1 4).toInt ≤ 120 := hs_u14.1.1 4
  have : (u14.1 1).toInt = (u.1 1).toInt := congrArg Int32.toInt (hc_u14.2.1 1 (by decide))
  have : 0 ≤ (u.1 1).toInt ∧ (u.1 1).toInt ≤ 120 := hs_u.1.1 1
  have : r13.toInt ≠ 0 → ((u14.1 4).toInt < (u14.1 1).toInt) := hq.2.2
  refine Tot_ite (fun c217 => ?_) (fun c217 => ?_)
  · have : r13.toInt = (0 : Int) := eqI c217
    exact Tot_some ⟨hs_u14, (by show (-1) ≤ (-1 : Int) ∧ (-1 : Int) ≤ 120; omega), trivial⟩
  · have : ¬ r13.toInt = (0 : Int) := neI c217
    exact Tot_some ⟨hs_u14, (by show (-1) ≤ (u14.1 4).toInt ∧ (u14.1 4).toInt ≤ 120; omega), trivial⟩
set_option maxHeartbeats 400000 in
set_option maxRecDepth 10000 in
theorem tGX5_faultBy_2_as2_49 (u0 : SX)     (u : SX) (hs_u : StX mdX5_faultBy_2_as2 u0 u)  : Tot (GX5_faultBy_2_as2_49  u) (qX5_faultBy_2_as2 u0) := by
  unfold GX5_faultBy_2_as2_49
  exact tGX5_faultBy_2_as2_58 u0 u hs_u
set_option maxHeartbeats 400000 in
set_option maxRecDepth 10000 in
theorem tfX5_faultBy_2_as2  (u : SX) (hI : IX u)  : Tot (fX5_faultBy_2_as2  u) (qX5_faultBy_2_as2 u) := by
  unfold fX5_faultBy_2_as2
  have hs_u : StX mdX5_faultBy_2_as2 u u := StX_rf hI
  refine Tot_lt (fun u1 e_u1 => ?_)
  have hs_u1 : StX mdX5_faultBy_2_as2 u u1 := by rw [e_u1]; exact StX_sI hs_u (by decide) (by show 0 ≤ (2 : Int); omega) (by show (2 : Int) ≤ 3; omega)
  refine Tot_lt (fun u3 e_u3 => ?_)
  have hs_u3 : StX mdX5_faultBy_2_as2 u u3 := by rw [e_u3]; exact StX_sI hs_u1 (by decide) (by show 0 ≤ (0 : Int); omega) (by show (0 : Int) ≤ 120; omega)
  refine Tot_lt (fun u5 e_u5 => ?_)
  have hs_u5 : StX mdX5_faultBy_2_as2 u u5 := by rw [e_u5]; exact StX_sI hs_u3 (by decide) (by show 0 ≤ (0 : Int); omega) (by show (0 : Int) ≤ 121; omega)
  exact tLX5_faultBy_2_as2_17 u (tGX5_faultBy_2_as2_49 u) (tGX5_faultBy_2_as2_58 u) 5000 0 u5 hs_u5 (by show 0 ≤ (0 : Int) ∧ (0 : Int) ≤ 121; omega) (by show 121 - (0 : Int) < ((5000 : Nat) : Int); omega)

def mdX11_fault_0 : MD := ([2, 3, 4], [14], [], [])
abbrev qX11_fault_0 (u : SX) (q : Int32 × SX) : Prop := StX mdX11_fault_0 u q.2 ∧ ((-2) ≤ q.1.toInt ∧ q.1.toInt ≤ 120) ∧ (True)
set_option maxHeartbeats 400000 in
set_option maxRecDepth 10000 in
theorem tfX11_fault_0 (x1 : Int32) (u : SX) (hI : IX u)  : Tot (fX11_fault_0 x1 u) (qX11_fault_0 u) := by
  unfold fX11_fault_0
  have hs_u : StX mdX11_fault_0 u u := StX_rf hI
  refine Tot_bind (tfX11_shelfOf_0 x1 u hs_u.1) (fun q hq => ?_)
  obtain ⟨r1, u2⟩ := q
  have hc_u2 : StX mdX11_shelfOf_0 u u2 := hq.1
  have hs_u2 : StX mdX11_fault_0 u u2 := StX_tr hs_u hc_u2 (by decide)
  have : r1 = 0 ∨ r1 = 4 ∨ r1 = 5 ∨ r1 = 6 := hq.2.1
  refine Tot_ite (fun c218 => ?_) (fun c218 => ?_)
  · exact Tot_some ⟨hs_u2, (by show (-2) ≤ (-2 : Int) ∧ (-2 : Int) ≤ 120; omega), trivial⟩
  · refine Tot_ite (fun c219 => ?_) (fun c219 => ?_)
    · refine Tot_bind (tfX5_faultBy_2_as0 u2 hs_u2.1) (fun q hq => ?_)
      obtain ⟨r4, u5⟩ := q
      have hc_u5 : StX mdX5_faultBy_2_as0 u2 u5 := hq.1
      have hs_u5 : StX mdX11_fault_0 u u5 := StX_tr hs_u2 hc_u5 (by decide)
      have : (-1) ≤ r4.toInt ∧ r4.toInt ≤ 120 := hq.2.1
      exact Tot_some ⟨hs_u5, (by show (-2) ≤ r4.toInt ∧ r4.toInt ≤ 120; omega), trivial⟩
    · refine Tot_ite (fun c220 => ?_) (fun c220 => ?_)
      · refine Tot_bind (tfX5_faultBy_2_as1 u2 hs_u2.1) (fun q hq => ?_)
        obtain ⟨r7, u8⟩ := q
        have hc_u8 : StX mdX5_faultBy_2_as1 u2 u8 := hq.1
        have hs_u8 : StX mdX11_fault_0 u u8 := StX_tr hs_u2 hc_u8 (by decide)
        have : (-1) ≤ r7.toInt ∧ r7.toInt ≤ 120 := hq.2.1
        exact Tot_some ⟨hs_u8, (by show (-2) ≤ r7.toInt ∧ r7.toInt ≤ 120; omega), trivial⟩
      · refine Tot_ite (fun c221 => ?_) (fun c221 => ?_)
        · refine Tot_bind (tfX5_faultBy_2_as2 u2 hs_u2.1) (fun q hq => ?_)
          obtain ⟨r10, u11⟩ := q
          have hc_u11 : StX mdX5_faultBy_2_as2 u2 u11 := hq.1
          have hs_u11 : StX mdX11_fault_0 u u11 := StX_tr hs_u2 hc_u11 (by decide)
          have : (-1) ≤ r10.toInt ∧ r10.toInt ≤ 120 := hq.2.1
          exact Tot_some ⟨hs_u11, (by show (-2) ≤ r10.toInt ∧ r10.toInt ≤ 120; omega), trivial⟩
        · exfalso
          omega

def mdX8_has_3 : MD := ([], [], [], [])
abbrev qX8_has_3 (x1 : Int32) (u : SX) (q : Int32 × SX) : Prop := StX mdX8_has_3 u q.2 ∧ (0 ≤ q.1.toInt ∧ q.1.toInt ≤ 1) ∧ ((q.1.toInt ≠ 0 → ((0 : Int) ≤ x1.toInt ∧ x1.toInt < (u.1 5).toInt)))
set_option maxHeartbeats 400000 in
set_option maxRecDepth 10000 in
theorem tfX8_has_3 (x1 : Int32) (u : SX) (hI : IX u)  : Tot (fX8_has_3 x1 u) (qX8_has_3 x1 u) := by
  unfold fX8_has_3
  have hs_u : StX mdX8_has_3 u u := StX_rf hI
  refine Tot_ite (fun c222 => ?_) (fun c222 => ?_)
  · have : x1.toInt < (0 : Int) := ltI c222
    refine Tot_gd (by decide) ?_
    have : 0 ≤ (u.1 5).toInt ∧ (u.1 5).toInt ≤ 12 := hs_u.1.1 5
    exact Tot_some ⟨hs_u, (by show 0 ≤ (0 : Int) ∧ (0 : Int) ≤ 1; omega), (by show (0 : Int) ≠ 0 → ((0 : Int) ≤ x1.toInt ∧ x1.toInt < (u.1 5).toInt); omega)⟩
  · have : ¬ x1.toInt < (0 : Int) := nltI c222
    have : 0 ≤ (u.1 5).toInt ∧ (u.1 5).toInt ≤ 12 := hs_u.1.1 5
    refine Tot_ite (fun c223 => ?_) (fun c223 => ?_)
    · have : (u.1 5).toInt ≤ x1.toInt := leI c223
      refine Tot_gd (by decide) ?_
      exact Tot_some ⟨hs_u, (by show 0 ≤ (0 : Int) ∧ (0 : Int) ≤ 1; omega), (by show (0 : Int) ≠ 0 → ((0 : Int) ≤ x1.toInt ∧ x1.toInt < (u.1 5).toInt); omega)⟩
    · have : ¬ (u.1 5).toInt ≤ x1.toInt := nleI c223
      refine Tot_gd (by decide) ?_
      exact Tot_some ⟨hs_u, (by show 0 ≤ (1 : Int) ∧ (1 : Int) ≤ 1; omega), (by show (1 : Int) ≠ 0 → ((0 : Int) ≤ x1.toInt ∧ x1.toInt < (u.1 5).toInt); omega)⟩

abbrev qX11_isAim (x0 : Int32) (x1 : Int32) (x2 : Int32) (x3 : Int32) (x4 : Int32) (q : Int32) : Prop := (0 ≤ q.toInt ∧ q.toInt ≤ 1) ∧ ((q.toInt ≠ 0 → ((0 : Int) ≤ x0.toInt ∧ x0.toInt ≤ (15 : Int) ∧ (0 : Int) ≤ x1.toInt ∧ x1.toInt ≤ (9 : Int) ∧ (0 : Int) ≤ x2.toInt ∧ x2.toInt ≤ (23 : Int) ∧ (0 : Int) ≤ x3.toInt ∧ x3.toInt ≤ (9 : Int) ∧ (1 : Int) ≤ x4.toInt ∧ x4.toInt ≤ (40 : Int))))
set_option maxHeartbeats 400000 in
set_option maxRecDepth 10000 in
theorem tfX11_isAim (x0 : Int32) (x1 : Int32) (x2 : Int32) (x3 : Int32) (x4 : Int32)  : Tot (fX11_isAim x0 x1 x2 x3 x4) (qX11_isAim x0 x1 x2 x3 x4 ) := by
  unfold fX11_isAim
  refine Tot_bind (tfX11_within x0 0 15) (fun r1 hq => ?_)
  have : 0 ≤ r1.toInt ∧ r1.toInt ≤ 1 := hq.1
  have : r1.toInt ≠ 0 → ((0 : Int) ≤ x0.toInt ∧ x0.toInt ≤ (15 : Int)) := hq.2
  refine Tot_ite (fun c224 => ?_) (fun c224 => ?_)
  · have : r1.toInt = (0 : Int) := eqI c224
    refine Tot_gd (by decide) ?_
    exact Tot_some ⟨(by show 0 ≤ (0 : Int) ∧ (0 : Int) ≤ 1; omega), (by show (0 : Int) ≠ 0 → ((0 : Int) ≤ x0.toInt ∧ x0.toInt ≤ (15 : Int) ∧ (0 : Int) ≤ x1.toInt ∧ x1.toInt ≤ (9 : Int) ∧ (0 : Int) ≤ x2.toInt ∧ x2.toInt ≤ (23 : Int) ∧ (0 : Int) ≤ x3.toInt ∧ x3.toInt ≤ (9 : Int) ∧ (1 : Int) ≤ x4.toInt ∧ x4.toInt ≤ (40 : Int)); omega)⟩
  · have : ¬ r1.toInt = (0 : Int) := neI c224
    refine Tot_bind (tfX11_within x1 0 9) (fun r5 hq => ?_)
    have : 0 ≤ r5.toInt ∧ r5.toInt ≤ 1 := hq.1
    have : r5.toInt ≠ 0 → ((0 : Int) ≤ x1.toInt ∧ x1.toInt ≤ (9 : Int)) := hq.2
    refine Tot_ite (fun c225 => ?_) (fun c225 => ?_)
    · have : r5.toInt = (0 : Int) := eqI c225
      refine Tot_gd (by decide) ?_
      exact Tot_some ⟨(by show 0 ≤ (0 : Int) ∧ (0 : Int) ≤ 1; omega), (by show (0 : Int) ≠ 0 → ((0 : Int) ≤ x0.toInt ∧ x0.toInt ≤ (15 : Int) ∧ (0 : Int) ≤ x1.toInt ∧ x1.toInt ≤ (9 : Int) ∧ (0 : Int) ≤ x2.toInt ∧ x2.toInt ≤ (23 : Int) ∧ (0 : Int) ≤ x3.toInt ∧ x3.toInt ≤ (9 : Int) ∧ (1 : Int) ≤ x4.toInt ∧ x4.toInt ≤ (40 : Int)); omega)⟩
    · have : ¬ r5.toInt = (0 : Int) := neI c225
      refine Tot_bind (tfX11_within x2 0 23) (fun r9 hq => ?_)
      have : 0 ≤ r9.toInt ∧ r9.toInt ≤ 1 := hq.1
      have : r9.toInt ≠ 0 → ((0 : Int) ≤ x2.toInt ∧ x2.toInt ≤ (23 : Int)) := hq.2
      refine Tot_ite (fun c226 => ?_) (fun c226 => ?_)
      · have : r9.toInt = (0 : Int) := eqI c226
        refine Tot_gd (by decide) ?_
        exact Tot_some ⟨(by show 0 ≤ (0 : Int) ∧ (0 : Int) ≤ 1; omega), (by show (0 : Int) ≠ 0 → ((0 : Int) ≤ x0.toInt ∧ x0.toInt ≤ (15 : Int) ∧ (0 : Int) ≤ x1.toInt ∧ x1.toInt ≤ (9 : Int) ∧ (0 : Int) ≤ x2.toInt ∧ x2.toInt ≤ (23 : Int) ∧ (0 : Int) ≤ x3.toInt ∧ x3.toInt ≤ (9 : Int) ∧ (1 : Int) ≤ x4.toInt ∧ x4.toInt ≤ (40 : Int)); omega)⟩
      · have : ¬ r9.toInt = (0 : Int) := neI c226
        refine Tot_bind (tfX11_within x3 0 9) (fun r13 hq => ?_)
        have : 0 ≤ r13.toInt ∧ r13.toInt ≤ 1 := hq.1
        have : r13.toInt ≠ 0 → ((0 : Int) ≤ x3.toInt ∧ x3.toInt ≤ (9 : Int)) := hq.2
        refine Tot_ite (fun c227 => ?_) (fun c227 => ?_)
        · have : r13.toInt = (0 : Int) := eqI c227
          refine Tot_gd (by decide) ?_
          exact Tot_some ⟨(by show 0 ≤ (0 : Int) ∧ (0 : Int) ≤ 1; omega), (by show (0 : Int) ≠ 0 → ((0 : Int) ≤ x0.toInt ∧ x0.toInt ≤ (15 : Int) ∧ (0 : Int) ≤ x1.toInt ∧ x1.toInt ≤ (9 : Int) ∧ (0 : Int) ≤ x2.toInt ∧ x2.toInt ≤ (23 : Int) ∧ (0 : Int) ≤ x3.toInt ∧ x3.toInt ≤ (9 : Int) ∧ (1 : Int) ≤ x4.toInt ∧ x4.toInt ≤ (40 : Int)); omega)⟩
        · have : ¬ r13.toInt = (0 : Int) := neI c227
          refine Tot_bind (tfX11_within x4 1 40) (fun r17 hq => ?_)
          have : 0 ≤ r17.toInt ∧ r17.toInt ≤ 1 := hq.1
          have : r17.toInt ≠ 0 → ((1 : Int) ≤ x4.toInt ∧ x4.toInt ≤ (40 : Int)) := hq.2
          refine Tot_ite (fun c228 => ?_) (fun c228 => ?_)
          · have : r17.toInt = (0 : Int) := eqI c228
            refine Tot_gd (by decide) ?_
            exact Tot_some ⟨(by show 0 ≤ (0 : Int) ∧ (0 : Int) ≤ 1; omega), (by show (0 : Int) ≠ 0 → ((0 : Int) ≤ x0.toInt ∧ x0.toInt ≤ (15 : Int) ∧ (0 : Int) ≤ x1.toInt ∧ x1.toInt ≤ (9 : Int) ∧ (0 : Int) ≤ x2.toInt ∧ x2.toInt ≤ (23 : Int) ∧ (0 : Int) ≤ x3.toInt ∧ x3.toInt ≤ (9 : Int) ∧ (1 : Int) ≤ x4.toInt ∧ x4.toInt ≤ (40 : Int)); omega)⟩
          · have : ¬ r17.toInt = (0 : Int) := neI c228
            refine Tot_gd (by decide) ?_
            exact Tot_some ⟨(by show 0 ≤ (1 : Int) ∧ (1 : Int) ≤ 1; omega), (by show (1 : Int) ≠ 0 → ((0 : Int) ≤ x0.toInt ∧ x0.toInt ≤ (15 : Int) ∧ (0 : Int) ≤ x1.toInt ∧ x1.toInt ≤ (9 : Int) ∧ (0 : Int) ≤ x2.toInt ∧ x2.toInt ≤ (23 : Int) ∧ (0 : Int) ≤ x3.toInt ∧ x3.toInt ≤ (9 : Int) ∧ (1 : Int) ≤ x4.toInt ∧ x4.toInt ≤ (40 : Int)); omega)⟩

def mdX8_set_3 : MD := ([], [16], [], [])
abbrev qX8_set_3 (u : SX) (q : Int32 × SX) : Prop := StX mdX8_set_3 u q.2 ∧ (0 ≤ q.1.toInt ∧ q.1.toInt ≤ 0) ∧ (True)
set_option maxHeartbeats 400000 in
set_option maxRecDepth 10000 in
theorem tfX8_set_3 (x1 : Int32) (x2 : Int32) (u : SX) (hI : IX u) (h0 : 0 ≤ x1.toInt ∧ x1.toInt ≤ 5) (h1 : 0 ≤ x2.toInt ∧ x2.toInt ≤ 40) : Tot (fX8_set_3 x1 x2 u) (qX8_set_3 u) := by
  unfold fX8_set_3
  have hs_u : StX mdX8_set_3 u u := StX_rf hI
  refine Tot_ite (fun c229 => ?_) (fun c229 => ?_)
  · have : x1.toInt < (0 : Int) := ltI c229
    exfalso
    omega
  · have : ¬ x1.toInt < (0 : Int) := nltI c229
    refine Tot_ite (fun c230 => ?_) (fun c230 => ?_)
    · have : (6 : Int) ≤ x1.toInt := leI c230
      exfalso
      omega
    · have : ¬ (6 : Int) ≤ x1.toInt := nleI c230
      refine Tot_gd (inb_t (by omega) (by omega)) ?_
      refine Tot_lt (fun u2 e_u2 => ?_)
      have hs_u2 : StX mdX8_set_3 u u2 := by rw [e_u2]; exact StX_sA hs_u (by decide) (by show 0 ≤ x2.toInt; omega) (by show x2.toInt ≤ 40; omega) (by decide)
      exact Tot_some ⟨hs_u2, (by show 0 ≤ (0 : Int) ∧ (0 : Int) ≤ 0; omega), trivial⟩

def mdX8_setAim_3 : MD := ([], [16], [], [])
abbrev qX8_setAim_3 (u : SX) (q : Int32 × SX) : Prop := StX mdX8_setAim_3 u q.2 ∧ (0 ≤ q.1.toInt ∧ q.1.toInt ≤ 0) ∧ (True)
set_option maxHeartbeats 400000 in
set_option maxRecDepth 10000 in
theorem tfX8_setAim_3 (x1 : Int32) (x2 : Int32) (x3 : Int32) (x4 : Int32) (x5 : Int32) (x6 : Int32) (u : SX) (hI : IX u) (h0 : 0 ≤ x1.toInt ∧ x1.toInt ≤ 15) (h1 : 0 ≤ x2.toInt ∧ x2.toInt ≤ 9) (h2 : 0 ≤ x3.toInt ∧ x3.toInt ≤ 23) (h3 : 0 ≤ x4.toInt ∧ x4.toInt ≤ 3) (h4 : 0 ≤ x5.toInt ∧ x5.toInt ≤ 9) (h5 : 1 ≤ x6.toInt ∧ x6.toInt ≤ 40) : Tot (fX8_setAim_3 x1 x2 x3 x4 x5 x6 u) (qX8_setAim_3 u) := by
  unfold fX8_setAim_3
  have hs_u : StX mdX8_setAim_3 u u := StX_rf hI
  refine Tot_bind (tfX8_set_3 0 x1 u hs_u.1 (by show 0 ≤ (0 : Int) ∧ (0 : Int) ≤ 5; omega) ⟨by omega, by omega⟩) (fun q hq => ?_)
  obtain ⟨r1, u2⟩ := q
  have hc_u2 : StX mdX8_set_3 u u2 := hq.1
  have hs_u2 : StX mdX8_setAim_3 u u2 := StX_tr hs_u hc_u2 (by decide)
  have : 0 ≤ r1.toInt ∧ r1.toInt ≤ 0 := hq.2.1
  refine Tot_bind (tfX8_set_3 1 x2 u2 hs_u2.1 (by show 0 ≤ (1 : Int) ∧ (1 : Int) ≤ 5; omega) ⟨by omega, by omega⟩) (fun q hq => ?_)
  obtain ⟨r4, u5⟩ := q
  have hc_u5 : StX mdX8_set_3 u2 u5 := hq.1
  have hs_u5 : StX mdX8_setAim_3 u u5 := StX_tr hs_u2 hc_u5 (by decide)
  have : 0 ≤ r4.toInt ∧ r4.toInt ≤ 0 := hq.2.1
  refine Tot_bind (tfX8_set_3 2 x3 u5 hs_u5.1 (by show 0 ≤ (2 : Int) ∧ (2 : Int) ≤ 5; omega) ⟨by omega, by omega⟩) (fun q hq => ?_)
  obtain ⟨r7, u8⟩ := q
  have hc_u8 : StX mdX8_set_3 u5 u8 := hq.1
  have hs_u8 : StX mdX8_setAim_3 u u8 := StX_tr hs_u5 hc_u8 (by decide)
  have : 0 ≤ r7.toInt ∧ r7.toInt ≤ 0 := hq.2.1
  refine Tot_bind (tfX8_set_3 3 x4 u8 hs_u8.1 (by show 0 ≤ (3 : Int) ∧ (3 : Int) ≤ 5; omega) ⟨by omega, by omega⟩) (fun q hq => ?_)
  obtain ⟨r10, u11⟩ := q
  have hc_u11 : StX mdX8_set_3 u8 u11 := hq.1
  have hs_u11 : StX mdX8_setAim_3 u u11 := StX_tr hs_u8 hc_u11 (by decide)
  have : 0 ≤ r10.toInt ∧ r10.toInt ≤ 0 := hq.2.1
  refine Tot_bind (tfX8_set_3 4 x5 u11 hs_u11.1 (by show 0 ≤ (4 : Int) ∧ (4 : Int) ≤ 5; omega) ⟨by omega, by omega⟩) (fun q hq => ?_)
  obtain ⟨r13, u14⟩ := q
  have hc_u14 : StX mdX8_set_3 u11 u14 := hq.1
  have hs_u14 : StX mdX8_setAim_3 u u14 := StX_tr hs_u11 hc_u14 (by decide)
  have : 0 ≤ r13.toInt ∧ r13.toInt ≤ 0 := hq.2.1
  refine Tot_bind (tfX8_set_3 5 x6 u14 hs_u14.1 (by show 0 ≤ (5 : Int) ∧ (5 : Int) ≤ 5; omega) ⟨by omega, by omega⟩) (fun q hq => ?_)
  obtain ⟨r16, u17⟩ := q
  have hc_u17 : StX mdX8_set_3 u14 u17 := hq.1
  have hs_u17 : StX mdX8_setAim_3 u u17 := StX_tr hs_u14 hc_u17 (by decide)
  have : 0 ≤ r16.toInt ∧ r16.toInt ≤ 0 := hq.2.1
  exact Tot_some ⟨hs_u17, (by show 0 ≤ (0 : Int) ∧ (0 : Int) ≤ 0; omega), trivial⟩

abbrev qX10_join (q : Int64) : Prop := (True) ∧ (True)
set_option maxHeartbeats 400000 in
set_option maxRecDepth 10000 in
theorem tfX10_join (x0 : Int32) (x1 : Int64) (x3 : Int64) (h0 : 0 ≤ x0.toInt ∧ x0.toInt ≤ 255) : Tot (fX10_join x0 x1 x3) (qX10_join ) := by
  unfold fX10_join
  refine Tot_ite (fun c231 => ?_) (fun c231 => ?_)
  · have : x0.toInt = (38 : Int) := eqI c231
    refine Tot_ite (fun c232 => ?_) (fun c232 => ?_)
    · exact Tot_some ⟨trivial, trivial⟩
    · have hz_x1 := nzL_cmp c232
      refine Tot_ite (fun c233 => ?_) (fun c233 => ?_)
      · exact Tot_some ⟨trivial, trivial⟩
      · have hz_x3 := nzL_cmp c233
        exact Tot_some ⟨trivial, trivial⟩
  · refine Tot_ite (fun c234 => ?_) (fun c234 => ?_)
    · have : x0.toInt = (39 : Int) := eqI c234
      refine Tot_ite (fun c235 => ?_) (fun c235 => ?_)
      · refine Tot_ite (fun c236 => ?_) (fun c236 => ?_)
        · exact Tot_some ⟨trivial, trivial⟩
        · have hz_x3 := nzL_cmp c236
          exact Tot_some ⟨trivial, trivial⟩
      · have hz_x1 := nzL_cmp c235
        exact Tot_some ⟨trivial, trivial⟩
    · refine Tot_ite (fun c237 => ?_) (fun c237 => ?_)
      · have : x0.toInt = (40 : Int) := eqI c237
        refine Tot_ite (fun c238 => ?_) (fun c238 => ?_)
        · refine Tot_ite (fun c239 => ?_) (fun c239 => ?_)
          · exact Tot_some ⟨trivial, trivial⟩
          · have hz_x3 := nzL_cmp c239
            exact Tot_some ⟨trivial, trivial⟩
        · have hz_x1 := nzL_cmp c238
          exact Tot_some ⟨trivial, trivial⟩
      · refine Tot_ite (fun c240 => ?_) (fun c240 => ?_)
        · have : x0.toInt = (41 : Int) := eqI c240
          refine Tot_ite (fun c241 => ?_) (fun c241 => ?_)
          · refine Tot_ite (fun c242 => ?_) (fun c242 => ?_)
            · exact Tot_some ⟨trivial, trivial⟩
            · have hz_x3 := nzL_cmp c242
              exact Tot_some ⟨trivial, trivial⟩
          · have hz_x1 := nzL_cmp c241
            exact Tot_some ⟨trivial, trivial⟩
        · refine Tot_ite (fun c243 => ?_) (fun c243 => ?_)
          · have : x0.toInt = (42 : Int) := eqI c243
            exact Tot_some ⟨trivial, trivial⟩
          · refine Tot_ite (fun c244 => ?_) (fun c244 => ?_)
            · have : x0.toInt = (43 : Int) := eqI c244
              exact Tot_some ⟨trivial, trivial⟩
            · refine Tot_ite (fun c245 => ?_) (fun c245 => ?_)
              · have : x0.toInt = (44 : Int) := eqI c245
                refine Tot_ite (fun c246 => ?_) (fun c246 => ?_)
                · refine Tot_ite (fun c247 => ?_) (fun c247 => ?_)
                  · exact Tot_some ⟨trivial, trivial⟩
                  · have hz_x3 := nzL_cmp c247
                    exact Tot_some ⟨trivial, trivial⟩
                · have hz_x1 := nzL_cmp c246
                  exact Tot_some ⟨trivial, trivial⟩
              · refine Tot_ite (fun c248 => ?_) (fun c248 => ?_)
                · have : x0.toInt = (45 : Int) := eqI c248
                  exact Tot_some ⟨trivial, trivial⟩
                · refine Tot_ite (fun c249 => ?_) (fun c249 => ?_)
                  · have : x0.toInt = (46 : Int) := eqI c249
                    refine Tot_ite (fun c250 => ?_) (fun c250 => ?_)
                    · refine Tot_ite (fun c251 => ?_) (fun c251 => ?_)
                      · exact Tot_some ⟨trivial, trivial⟩
                      · have hz_x3 := nzL_cmp c251
                        exact Tot_some ⟨trivial, trivial⟩
                    · have hz_x1 := nzL_cmp c250
                      exact Tot_some ⟨trivial, trivial⟩
                  · refine Tot_ite (fun c252 => ?_) (fun c252 => ?_)
                    · have : x0.toInt = (47 : Int) := eqI c252
                      refine Tot_ite (fun c253 => ?_) (fun c253 => ?_)
                      · exact Tot_some ⟨trivial, trivial⟩
                      · have hz_x3 := nzL_cmp c253
                        refine Tot_gd (hz_x3) ?_
                        exact Tot_some ⟨trivial, trivial⟩
                    · refine Tot_ite (fun c254 => ?_) (fun c254 => ?_)
                      · have : x0.toInt = (48 : Int) := eqI c254
                        refine Tot_ite (fun c255 => ?_) (fun c255 => ?_)
                        · refine Tot_ite (fun c256 => ?_) (fun c256 => ?_)
                          · exact Tot_some ⟨trivial, trivial⟩
                          · have hz_x3 := nzL_cmp c256
                            exact Tot_some ⟨trivial, trivial⟩
                        · have hz_x1 := nzL_cmp c255
                          exact Tot_some ⟨trivial, trivial⟩
                      · refine Tot_ite (fun c257 => ?_) (fun c257 => ?_)
                        · have : x0.toInt = (49 : Int) := eqI c257
                          refine Tot_ite (fun c258 => ?_) (fun c258 => ?_)
                          · refine Tot_ite (fun c259 => ?_) (fun c259 => ?_)
                            · exact Tot_some ⟨trivial, trivial⟩
                            · have hz_x3 := nzL_cmp c259
                              exact Tot_some ⟨trivial, trivial⟩
                          · have hz_x1 := nzL_cmp c258
                            exact Tot_some ⟨trivial, trivial⟩
                        · refine Tot_ite (fun c260 => ?_) (fun c260 => ?_)
                          · have : x0.toInt = (50 : Int) := eqI c260
                            refine Tot_ite (fun c261 => ?_) (fun c261 => ?_)
                            · refine Tot_ite (fun c262 => ?_) (fun c262 => ?_)
                              · exact Tot_some ⟨trivial, trivial⟩
                              · have hz_x3 := nzL_cmp c262
                                exact Tot_some ⟨trivial, trivial⟩
                            · have hz_x1 := nzL_cmp c261
                              exact Tot_some ⟨trivial, trivial⟩
                          · refine Tot_ite (fun c263 => ?_) (fun c263 => ?_)
                            · have : x0.toInt = (51 : Int) := eqI c263
                              refine Tot_ite (fun c264 => ?_) (fun c264 => ?_)
                              · refine Tot_ite (fun c265 => ?_) (fun c265 => ?_)
                                · exact Tot_some ⟨trivial, trivial⟩
                                · have hz_x3 := nzL_cmp c265
                                  exact Tot_some ⟨trivial, trivial⟩
                              · have hz_x1 := nzL_cmp c264
                                exact Tot_some ⟨trivial, trivial⟩
                            · refine Tot_ite (fun c266 => ?_) (fun c266 => ?_)
                              · have : x0.toInt = (52 : Int) := eqI c266
                                refine Tot_ite (fun c267 => ?_) (fun c267 => ?_)
                                · refine Tot_ite (fun c268 => ?_) (fun c268 => ?_)
                                  · exact Tot_some ⟨trivial, trivial⟩
                                  · have hz_x3 := nzL_cmp c268
                                    exact Tot_some ⟨trivial, trivial⟩
                                · have hz_x1 := nzL_cmp c267
                                  exact Tot_some ⟨trivial, trivial⟩
                              · refine Tot_ite (fun c269 => ?_) (fun c269 => ?_)
                                · have : x0.toInt = (53 : Int) := eqI c269
                                  refine Tot_ite (fun c270 => ?_) (fun c270 => ?_)
                                  · refine Tot_ite (fun c271 => ?_) (fun c271 => ?_)
                                    · exact Tot_some ⟨trivial, trivial⟩
                                    · have hz_x3 := nzL_cmp c271
                                      exact Tot_some ⟨trivial, trivial⟩
                                  · have hz_x1 := nzL_cmp c270
                                    exact Tot_some ⟨trivial, trivial⟩
                                · refine Tot_ite (fun c272 => ?_) (fun c272 => ?_)
                                  · have : x0.toInt = (54 : Int) := eqI c272
                                    refine Tot_ite (fun c273 => ?_) (fun c273 => ?_)
                                    · refine Tot_ite (fun c274 => ?_) (fun c274 => ?_)
                                      · exact Tot_some ⟨trivial, trivial⟩
                                      · have hz_x3 := nzL_cmp c274
                                        exact Tot_some ⟨trivial, trivial⟩
                                    · have hz_x1 := nzL_cmp c273
                                      exact Tot_some ⟨trivial, trivial⟩
                                  · refine Tot_ite (fun c275 => ?_) (fun c275 => ?_)
                                    · have : x0.toInt = (55 : Int) := eqI c275
                                      refine Tot_ite (fun c276 => ?_) (fun c276 => ?_)
                                      · refine Tot_ite (fun c277 => ?_) (fun c277 => ?_)
                                        · exact Tot_some ⟨trivial, trivial⟩
                                        · have hz_x3 := nzL_cmp c277
                                          exact Tot_some ⟨trivial, trivial⟩
                                      · have hz_x1 := nzL_cmp c276
                                        exact Tot_some ⟨trivial, trivial⟩
                                    · refine Tot_ite (fun c278 => ?_) (fun c278 => ?_)
                                      · have : x0.toInt = (56 : Int) := eqI c278
                                        refine Tot_ite (fun c279 => ?_) (fun c279 => ?_)
                                        · refine Tot_ite (fun c280 => ?_) (fun c280 => ?_)
                                          · exact Tot_some ⟨trivial, trivial⟩
                                          · have hz_x3 := nzL_cmp c280
                                            exact Tot_some ⟨trivial, trivial⟩
                                        · have hz_x1 := nzL_cmp c279
                                          exact Tot_some ⟨trivial, trivial⟩
                                      · refine Tot_ite (fun c281 => ?_) (fun c281 => ?_)
                                        · have : x0.toInt = (57 : Int) := eqI c281
                                          refine Tot_ite (fun c282 => ?_) (fun c282 => ?_)
                                          · refine Tot_ite (fun c283 => ?_) (fun c283 => ?_)
                                            · exact Tot_some ⟨trivial, trivial⟩
                                            · have hz_x3 := nzL_cmp c283
                                              exact Tot_some ⟨trivial, trivial⟩
                                          · have hz_x1 := nzL_cmp c282
                                            exact Tot_some ⟨trivial, trivial⟩
                                        · refine Tot_ite (fun c284 => ?_) (fun c284 => ?_)
                                          · have : x0.toInt = (58 : Int) := eqI c284
                                            refine Tot_ite (fun c285 => ?_) (fun c285 => ?_)
                                            · refine Tot_ite (fun c286 => ?_) (fun c286 => ?_)
                                              · exact Tot_some ⟨trivial, trivial⟩
                                              · have hz_x3 := nzL_cmp c286
                                                exact Tot_some ⟨trivial, trivial⟩
                                            · have hz_x1 := nzL_cmp c285
                                              exact Tot_some ⟨trivial, trivial⟩
                                          · refine Tot_ite (fun c287 => ?_) (fun c287 => ?_)
                                            · have : x0.toInt = (59 : Int) := eqI c287
                                              refine Tot_ite (fun c288 => ?_) (fun c288 => ?_)
                                              · refine Tot_ite (fun c289 => ?_) (fun c289 => ?_)
                                                · exact Tot_some ⟨trivial, trivial⟩
                                                · have hz_x3 := nzL_cmp c289
                                                  exact Tot_some ⟨trivial, trivial⟩
                                              · have hz_x1 := nzL_cmp c288
                                                exact Tot_some ⟨trivial, trivial⟩
                                            · refine Tot_ite (fun c290 => ?_) (fun c290 => ?_)
                                              · have : x0.toInt = (60 : Int) := eqI c290
                                                refine Tot_ite (fun c291 => ?_) (fun c291 => ?_)
                                                · have : (0 : Int) ≤ (lg_cmp x1 x3).toInt := leI c291
                                                  exact Tot_some ⟨trivial, trivial⟩
                                                · have : ¬ (0 : Int) ≤ (lg_cmp x1 x3).toInt := nleI c291
                                                  exact Tot_some ⟨trivial, trivial⟩
                                              · refine Tot_ite (fun c292 => ?_) (fun c292 => ?_)
                                                · have : x0.toInt = (61 : Int) := eqI c292
                                                  refine Tot_ite (fun c293 => ?_) (fun c293 => ?_)
                                                  · exact Tot_some ⟨trivial, trivial⟩
                                                  · exact Tot_some ⟨trivial, trivial⟩
                                                · refine Tot_ite (fun c294 => ?_) (fun c294 => ?_)
                                                  · have : x0.toInt = (62 : Int) := eqI c294
                                                    refine Tot_ite (fun c295 => ?_) (fun c295 => ?_)
                                                    · exact Tot_some ⟨trivial, trivial⟩
                                                    · exact Tot_some ⟨trivial, trivial⟩
                                                  · refine Tot_ite (fun c296 => ?_) (fun c296 => ?_)
                                                    · refine Tot_ite (fun c297 => ?_) (fun c297 => ?_)
                                                      · exact Tot_some ⟨trivial, trivial⟩
                                                      · have hz_x3 := nzL_cmp c297
                                                        exact Tot_some ⟨trivial, trivial⟩
                                                    · have hz_x1 := nzL_cmp c296
                                                      exact Tot_some ⟨trivial, trivial⟩

abbrev qX10_bounded (q : Int32) : Prop := (True) ∧ (True)
set_option maxHeartbeats 400000 in
set_option maxRecDepth 10000 in
theorem tfX10_bounded (x0 : Int64)  : Tot (fX10_bounded x0) (qX10_bounded ) := by
  unfold fX10_bounded
  exact Tot_some ⟨trivial, trivial⟩

def mdX10_worthBy_T_a16_a17 : MD := ([], [17], [], [])
abbrev qX10_worthBy_T_a16_a17 (u : SX) (q : Int32 × SX) : Prop := StX mdX10_worthBy_T_a16_a17 u q.2 ∧ (True) ∧ (True)
set_option maxHeartbeats 400000 in
set_option maxRecDepth 10000 in
theorem tGX10_worthBy_T_a16_a17_227 (u0 : SX) (g8 : Int) {k8 : Nat → Int32 → Int32 → Int32 → SX → Option (Int32 × SX)} (hk8 : ∀ (z0 : Nat) (z3 : Int32) (z4 : Int32) (z5 : Int32) (u : SX), (StX mdX10_worthBy_T_a16_a17 u0 u) → (0 ≤ z3.toInt ∧ z3.toInt ≤ 120) → (0 ≤ z4.toInt ∧ z4.toInt ≤ 1) → (0 ≤ z5.toInt ∧ z5.toInt ≤ 121) → (z0 < tN u0) → (g8 < z5.toInt) → Tot (k8 z0 z3 z4 z5 u) (qX10_worthBy_T_a16_a17 u0)) (z0 : Nat) (z3 : Int32) (z4 : Int32) (z5 : Int32) (u : SX) (hs_u : StX mdX10_worthBy_T_a16_a17 u0 u) (h0 : 0 ≤ z3.toInt ∧ z3.toInt ≤ 120) (h1 : 0 ≤ z4.toInt ∧ z4.toInt ≤ 1) (h2 : 0 ≤ z5.toInt ∧ z5.toInt ≤ 120) (h3 : z0 < tN u0) (h4 : g8 ≤ z5.toInt) : Tot (GX10_worthBy_T_a16_a17_227 k8 z0 z3 z4 z5 u) (qX10_worthBy_T_a16_a17 u0) := by
  unfold GX10_worthBy_T_a16_a17_227
  have : (z5 + 1).toInt = z5.toInt + (1 : Int) := addc_t (by decide) (by omega) (by omega)
  exact hk8 z0 z3 z4 (z5 + 1) u hs_u ⟨by omega, by omega⟩ ⟨by omega, by omega⟩ ⟨by omega, by omega⟩ (by assumption) (by omega)
set_option maxHeartbeats 400000 in
set_option maxRecDepth 10000 in
theorem tGX10_worthBy_T_a16_a17_119 (u0 : SX) (g8 : Int) {k8 : Nat → Int32 → Int32 → Int32 → SX → Option (Int32 × SX)} (hk8 : ∀ (z0 : Nat) (z3 : Int32) (z4 : Int32) (z5 : Int32) (u : SX), (StX mdX10_worthBy_T_a16_a17 u0 u) → (0 ≤ z3.toInt ∧ z3.toInt ≤ 120) → (0 ≤ z4.toInt ∧ z4.toInt ≤ 1) → (0 ≤ z5.toInt ∧ z5.toInt ≤ 121) → (z0 < tN u0) → (g8 < z5.toInt) → Tot (k8 z0 z3 z4 z5 u) (qX10_worthBy_T_a16_a17 u0)) (z0 : Nat) (z3 : Int32) (z4 : Int32) (z5 : Int32) (y0 : Int32) (y1 : Int32) (u : SX) (hs_u : StX mdX10_worthBy_T_a16_a17 u0 u) (h0 : 0 ≤ z3.toInt ∧ z3.toInt ≤ 119) (h1 : 0 ≤ z4.toInt ∧ z4.toInt ≤ 0) (h2 : 0 ≤ z5.toInt ∧ z5.toInt ≤ 120) (h3 : 0 ≤ y1.toInt ∧ y1.toInt ≤ 119) (h4 : z0 < tN u0) (h5 : g8 ≤ z5.toInt) : Tot (GX10_worthBy_T_a16_a17_119 k8 z0 z3 z4 z5 y0 y1 u) (qX10_worthBy_T_a16_a17 u0) := by
  unfold GX10_worthBy_T_a16_a17_119
  refine Tot_gd (inb_t (by omega) (by omega)) ?_
  refine Tot_lt (fun u15 e_u15 => ?_)
  have hs_u15 : StX mdX10_worthBy_T_a16_a17 u0 u15 := by rw [e_u15]; exact StX_sAf hs_u (by decide) rfl rfl (by decide)
  have : (z3 + 1).toInt = z3.toInt + (1 : Int) := addc_t (by decide) (by omega) (by omega)
  exact tGX10_worthBy_T_a16_a17_227 u0 g8 hk8 z0 (z3 + 1) z4 z5 u15 hs_u15 ⟨by omega, by omega⟩ ⟨by omega, by omega⟩ ⟨by omega, by omega⟩ (by assumption) (by omega)
set_option maxHeartbeats 400000 in
set_option maxRecDepth 10000 in
theorem tGX10_worthBy_T_a16_a17_101 (u0 : SX) (g8 : Int) {k8 : Nat → Int32 → Int32 → Int32 → SX → Option (Int32 × SX)} (hk8 : ∀ (z0 : Nat) (z3 : Int32) (z4 : Int32) (z5 : Int32) (u : SX), (StX mdX10_worthBy_T_a16_a17 u0 u) → (0 ≤ z3.toInt ∧ z3.toInt ≤ 120) → (0 ≤ z4.toInt ∧ z4.toInt ≤ 1) → (0 ≤ z5.toInt ∧ z5.toInt ≤ 121) → (z0 < tN u0) → (g8 < z5.toInt) → Tot (k8 z0 z3 z4 z5 u) (qX10_worthBy_T_a16_a17 u0)) (z0 : Nat) (z3 : Int32) (z4 : Int32) (z5 : Int32) (z6 : Int32) (z7 : Int32) (u : SX) (hs_u : StX mdX10_worthBy_T_a16_a17 u0 u) (h0 : 0 ≤ z3.toInt ∧ z3.toInt ≤ 119) (h1 : 0 ≤ z4.toInt ∧ z4.toInt ≤ 0) (h2 : 0 ≤ z5.toInt ∧ z5.toInt ≤ 120) (h3 : 48 ≤ z6.toInt ∧ z6.toInt ≤ 121) (h4 : z0 < tN u0) (h5 : (z6.toInt = 48 ∨ (z6.toInt = 121 ∧ 0 ≤ z7.toInt ∧ z7.toInt < 6))) (h6 : g8 ≤ z5.toInt) : Tot (GX10_worthBy_T_a16_a17_101 k8 z0 z3 z4 z5 z6 z7 u) (qX10_worthBy_T_a16_a17 u0) := by
  unfold GX10_worthBy_T_a16_a17_101
  refine Tot_ite (fun c298 => ?_) (fun c298 => ?_)
  · have : z6.toInt = (48 : Int) := eqI c298
    exact tGX10_worthBy_T_a16_a17_119 u0 g8 hk8 z0 z3 z4 z5 z7 z3 u hs_u ⟨by omega, by omega⟩ ⟨by omega, by omega⟩ ⟨by omega, by omega⟩ ⟨by omega, by omega⟩ (by assumption) (by omega)
  · have : ¬ z6.toInt = (48 : Int) := neI c298
    refine Tot_gd (inb_t (by omega) (by omega)) ?_
    have : 0 ≤ (u.2.1 16 z7.toNatClampNeg).toInt ∧ (u.2.1 16 z7.toNatClampNeg).toInt ≤ 40 := hs_u.1.2.1 16 z7.toNatClampNeg
    exact tGX10_worthBy_T_a16_a17_119 u0 g8 hk8 z0 z3 z4 z5 (u.2.1 16 z7.toNatClampNeg) z3 u hs_u ⟨by omega, by omega⟩ ⟨by omega, by omega⟩ ⟨by omega, by omega⟩ ⟨by omega, by omega⟩ (by assumption) (by omega)
set_option maxHeartbeats 400000 in
set_option maxRecDepth 10000 in
theorem tGX10_worthBy_T_a16_a17_79 (u0 : SX) (g8 : Int) {k8 : Nat → Int32 → Int32 → Int32 → SX → Option (Int32 × SX)} (hk8 : ∀ (z0 : Nat) (z3 : Int32) (z4 : Int32) (z5 : Int32) (u : SX), (StX mdX10_worthBy_T_a16_a17 u0 u) → (0 ≤ z3.toInt ∧ z3.toInt ≤ 120) → (0 ≤ z4.toInt ∧ z4.toInt ≤ 1) → (0 ≤ z5.toInt ∧ z5.toInt ≤ 121) → (z0 < tN u0) → (g8 < z5.toInt) → Tot (k8 z0 z3 z4 z5 u) (qX10_worthBy_T_a16_a17 u0)) (z0 : Nat) (z3 : Int32) (z4 : Int32) (z5 : Int32) (z6 : Int32) (z7 : Int32) (u : SX) (hs_u : StX mdX10_worthBy_T_a16_a17 u0 u) (h0 : 0 ≤ z3.toInt ∧ z3.toInt ≤ 120) (h1 : 0 ≤ z4.toInt ∧ z4.toInt ≤ 0) (h2 : 0 ≤ z5.toInt ∧ z5.toInt ≤ 120) (h3 : 48 ≤ z6.toInt ∧ z6.toInt ≤ 121) (h4 : z0 < tN u0) (h5 : (z6.toInt = 48 ∨ (z6.toInt = 121 ∧ 0 ≤ z7.toInt))) (h6 : g8 ≤ z5.toInt) : Tot (GX10_worthBy_T_a16_a17_79 k8 z0 z3 z4 z5 z6 z7 u) (qX10_worthBy_T_a16_a17 u0) := by
  unfold GX10_worthBy_T_a16_a17_79
  refine Tot_ite (fun c299 => ?_) (fun c299 => ?_)
  · have : (120 : Int) ≤ z3.toInt := leI c299
    exact Tot_some ⟨hs_u, trivial, trivial⟩
  · have : ¬ (120 : Int) ≤ z3.toInt := nleI c299
    refine Tot_ite (fun c300 => ?_) (fun c300 => ?_)
    · have : z6.toInt = (121 : Int) := eqI c300
      refine Tot_ite (fun c301 => ?_) (fun c301 => ?_)
      · have : z7.toInt < (6 : Int) := ltI c301
        exact tGX10_worthBy_T_a16_a17_101 u0 g8 hk8 z0 z3 z4 z5 z6 z7 u hs_u ⟨by omega, by omega⟩ ⟨by omega, by omega⟩ ⟨by omega, by omega⟩ ⟨by omega, by omega⟩ (by assumption) (by omega) (by omega)
      · have : ¬ z7.toInt < (6 : Int) := nltI c301
        exact Tot_some ⟨hs_u, trivial, trivial⟩
    · have : ¬ z6.toInt = (121 : Int) := neI c300
      exact tGX10_worthBy_T_a16_a17_101 u0 g8 hk8 z0 z3 z4 z5 z6 z7 u hs_u ⟨by omega, by omega⟩ ⟨by omega, by omega⟩ ⟨by omega, by omega⟩ ⟨by omega, by omega⟩ (by assumption) (by omega) (by omega)
set_option maxHeartbeats 400000 in
set_option maxRecDepth 10000 in
theorem tGX10_worthBy_T_a16_a17_167 (u0 : SX) (g8 : Int) {k8 : Nat → Int32 → Int32 → Int32 → SX → Option (Int32 × SX)} (hk8 : ∀ (z0 : Nat) (z3 : Int32) (z4 : Int32) (z5 : Int32) (u : SX), (StX mdX10_worthBy_T_a16_a17 u0 u) → (0 ≤ z3.toInt ∧ z3.toInt ≤ 120) → (0 ≤ z4.toInt ∧ z4.toInt ≤ 1) → (0 ≤ z5.toInt ∧ z5.toInt ≤ 121) → (z0 < tN u0) → (g8 < z5.toInt) → Tot (k8 z0 z3 z4 z5 u) (qX10_worthBy_T_a16_a17 u0)) (z0 : Nat) (z3 : Int32) (z5 : Int32) (y0 : Int32) (u : SX) (hs_u : StX mdX10_worthBy_T_a16_a17 u0 u) (h0 : 0 ≤ z3.toInt ∧ z3.toInt ≤ 119) (h1 : 0 ≤ z5.toInt ∧ z5.toInt ≤ 120) (h2 : 0 ≤ y0.toInt ∧ y0.toInt ≤ 1) (h3 : z0 < tN u0) (h4 : g8 ≤ z5.toInt) : Tot (GX10_worthBy_T_a16_a17_167 k8 z0 z3 z5 y0 u) (qX10_worthBy_T_a16_a17 u0) := by
  unfold GX10_worthBy_T_a16_a17_167
  exact tGX10_worthBy_T_a16_a17_227 u0 g8 hk8 z0 z3 y0 z5 u hs_u ⟨by omega, by omega⟩ ⟨by omega, by omega⟩ ⟨by omega, by omega⟩ (by assumption) (by omega)
set_option maxHeartbeats 400000 in
set_option maxRecDepth 10000 in
theorem tGX10_worthBy_T_a16_a17_60 (u0 : SX) (g8 : Int) {k8 : Nat → Int32 → Int32 → Int32 → SX → Option (Int32 × SX)} (hk8 : ∀ (z0 : Nat) (z3 : Int32) (z4 : Int32) (z5 : Int32) (u : SX), (StX mdX10_worthBy_T_a16_a17 u0 u) → (0 ≤ z3.toInt ∧ z3.toInt ≤ 120) → (0 ≤ z4.toInt ∧ z4.toInt ≤ 1) → (0 ≤ z5.toInt ∧ z5.toInt ≤ 121) → (z0 < tN u0) → (g8 < z5.toInt) → Tot (k8 z0 z3 z4 z5 u) (qX10_worthBy_T_a16_a17 u0)) (z0 : Nat) (z3 : Int32) (z5 : Int32) (y0 : Int32) (u : SX) (hs_u : StX mdX10_worthBy_T_a16_a17 u0 u) (h0 : 0 ≤ z3.toInt ∧ z3.toInt ≤ 120) (h1 : 0 ≤ z5.toInt ∧ z5.toInt ≤ 120) (h2 : 0 ≤ y0.toInt ∧ y0.toInt ≤ 1) (h3 : z0 < tN u0) (h4 : g8 ≤ z5.toInt) : Tot (GX10_worthBy_T_a16_a17_60 k8 z0 z3 z5 y0 u) (qX10_worthBy_T_a16_a17 u0) := by
  unfold GX10_worthBy_T_a16_a17_60
  exact tGX10_worthBy_T_a16_a17_227 u0 g8 hk8 z0 z3 y0 z5 u hs_u ⟨by omega, by omega⟩ ⟨by omega, by omega⟩ ⟨by omega, by omega⟩ (by assumption) (by omega)
set_option maxHeartbeats 400000 in
set_option maxRecDepth 10000 in
theorem tLX10_worthBy_T_a16_a17_8 (u0 : SX)    : ∀ (n : Nat) (z0 : Nat) (z3 : Int32) (z4 : Int32) (z5 : Int32) (u : SX), (StX mdX10_worthBy_T_a16_a17 u0 u) → (0 ≤ z3.toInt ∧ z3.toInt ≤ 120) → (0 ≤ z4.toInt ∧ z4.toInt ≤ 1) → (0 ≤ z5.toInt ∧ z5.toInt ≤ 121) → (z0 < tN u0) → (121 - z5.toInt < (n : Int)) → Tot (LX10_worthBy_T_a16_a17_8 n z0 z3 z4 z5 u) (qX10_worthBy_T_a16_a17 u0) := by
  intro n
  induction n with
  | zero =>
    intro z0 z3 z4 z5 u hs_u h0 h1 h2 h3 hm
    exfalso
    omega
  | succ n ih =>
    intro z0 z3 z4 z5 u hs_u h0 h1 h2 h3 hm
    rw [LX10_worthBy_T_a16_a17_8]
    refine Tot_gd (decide_eq_true (by have e : tN u = tN u0 := congrArg (fun t : TX => t.1) hs_u.2.2.2.2.2; rw [e]; assumption)) ?_
    refine Tot_gd (decide_eq_true (by have e : tN u = tN u0 := congrArg (fun t : TX => t.1) hs_u.2.2.2.2.2; rw [e]; assumption)) ?_
    refine Tot_ite (fun c302 => ?_) (fun c302 => ?_)
    · exact Tot_some ⟨hs_u, trivial, trivial⟩
    · have : tL u z0 ≤ 121 := hs_u.1.2.2.2.2.1 z0
      have : z5.toInt < ((tL u z0 : Nat) : Int) := by have a := nleI c302; have b : (Int32.ofNat (tL u z0)).toInt = ((tL u z0 : Nat) : Int) := Int32.toInt_ofNat_of_lt (by omega); omega
      refine Tot_gd (decide_eq_true (by have e : tN u = tN u0 := congrArg (fun t : TX => t.1) hs_u.2.2.2.2.2; rw [e]; assumption)) ?_
      refine Tot_gd (decide_eq_true (by have e : tN u = tN u0 := congrArg (fun t : TX => t.1) hs_u.2.2.2.2.2; rw [e]; assumption)) ?_
      refine Tot_gd (inb_t (by omega) (by omega)) ?_
      have := and255_t (tC u z0 z5.toNatClampNeg)
      refine Tot_lt (fun v6 e_v6 => ?_)
      have : v6.toInt = ((tC u z0 z5.toNatClampNeg) &&& 255).toInt := congrArg Int32.toInt e_v6
      refine Tot_gd (decide_eq_true (by have e : tN u = tN u0 := congrArg (fun t : TX => t.1) hs_u.2.2.2.2.2; rw [e]; assumption)) ?_
      refine Tot_gd (decide_eq_true (by have e : tN u = tN u0 := congrArg (fun t : TX => t.1) hs_u.2.2.2.2.2; rw [e]; assumption)) ?_
      refine Tot_gd (inb_t (by omega) (by omega)) ?_
      refine Tot_lt (fun v11 e_v11 => ?_)
      have : v6.toInt = 121 → 0 ≤ v11.toInt := by rw [e_v6, e_v11]; exact hs_u.1.2.2.2.2.2 z0 _
      refine Tot_ite (fun c303 => ?_) (fun c303 => ?_)
      · have : z4.toInt = (0 : Int) := eqI c303
        refine Tot_ite (fun c304 => ?_) (fun c304 => ?_)
        · have : v6.toInt = (48 : Int) := eqI c304
          exact tGX10_worthBy_T_a16_a17_79 u0 (z5.toInt) (fun a305 a306 a307 a308 w309 hw309 p310 p311 p312 p313 p314 => ih a305 a306 a307 a308 w309 hw309 p310 p311 p312 p313 (by omega)) z0 z3 z4 z5 v6 v11 u hs_u ⟨by omega, by omega⟩ ⟨by omega, by omega⟩ ⟨by omega, by omega⟩ ⟨by omega, by omega⟩ (by assumption) (by omega) (by omega)
        · refine Tot_ite (fun c315 => ?_) (fun c315 => ?_)
          · have : v6.toInt = (121 : Int) := eqI c315
            exact tGX10_worthBy_T_a16_a17_79 u0 (z5.toInt) (fun a316 a317 a318 a319 w320 hw320 p321 p322 p323 p324 p325 => ih a316 a317 a318 a319 w320 hw320 p321 p322 p323 p324 (by omega)) z0 z3 z4 z5 v6 v11 u hs_u ⟨by omega, by omega⟩ ⟨by omega, by omega⟩ ⟨by omega, by omega⟩ ⟨by omega, by omega⟩ (by assumption) (by omega) (by omega)
          · refine Tot_ite (fun c326 => ?_) (fun c326 => ?_)
            · have : (1 : Int) ≤ z3.toInt := leI c326
              refine Tot_ite (fun c327 => ?_) (fun c327 => ?_)
              · have : v6.toInt = (59 : Int) := eqI c327
                have s329 : (z3 - 1).toInt = z3.toInt - (1 : Int) := subc_t (by decide) (by omega) (by omega)
                generalize (z3 - 1) = w328 at s329 ⊢
                refine Tot_gd (inb_t (by omega) (by omega)) ?_
                exact Tot_some ⟨hs_u, trivial, trivial⟩
              · refine Tot_ite (fun c330 => ?_) (fun c330 => ?_)
                · have : v6.toInt = (63 : Int) := eqI c330
                  have s332 : (z3 + (-1)).toInt = z3.toInt + (-1 : Int) := addc_t (by decide) (by omega) (by omega)
                  generalize (z3 + (-1)) = w331 at s332 ⊢
                  refine Tot_gd (inb_t (by omega) (by omega)) ?_
                  refine Tot_ite (fun c333 => ?_) (fun c333 => ?_)
                  · have : (u.2.1 17 w331.toNatClampNeg).toInt = (0 : Int) := eqI c333
                    exact tGX10_worthBy_T_a16_a17_167 u0 (z5.toInt) (fun a334 a335 a336 a337 w338 hw338 p339 p340 p341 p342 p343 => ih a334 a335 a336 a337 w338 hw338 p339 p340 p341 p342 (by omega)) z0 w331 z5 1 u hs_u ⟨by omega, by omega⟩ ⟨by omega, by omega⟩ (by show 0 ≤ (1 : Int) ∧ (1 : Int) ≤ 1; omega) (by assumption) (by omega)
                  · exact tGX10_worthBy_T_a16_a17_167 u0 (z5.toInt) (fun a344 a345 a346 a347 w348 hw348 p349 p350 p351 p352 p353 => ih a344 a345 a346 a347 w348 hw348 p349 p350 p351 p352 (by omega)) z0 w331 z5 0 u hs_u ⟨by omega, by omega⟩ ⟨by omega, by omega⟩ (by show 0 ≤ (0 : Int) ∧ (0 : Int) ≤ 1; omega) (by assumption) (by omega)
                · refine Tot_ite (fun c354 => ?_) (fun c354 => ?_)
                  · have : v6.toInt = (33 : Int) := eqI c354
                    have s356 : (z3 - 1).toInt = z3.toInt - (1 : Int) := subc_t (by decide) (by omega) (by omega)
                    generalize (z3 - 1) = w355 at s356 ⊢
                    refine Tot_gd (inb_t (by omega) (by omega)) ?_
                    refine Tot_gd (inb_t (by omega) (by omega)) ?_
                    refine Tot_lt (fun u30 e_u30 => ?_)
                    have hs_u30 : StX mdX10_worthBy_T_a16_a17 u0 u30 := by rw [e_u30]; exact StX_sAf hs_u (by decide) rfl rfl (by decide)
                    exact tGX10_worthBy_T_a16_a17_227 u0 (z5.toInt) (fun a357 a358 a359 a360 w361 hw361 p362 p363 p364 p365 p366 => ih a357 a358 a359 a360 w361 hw361 p362 p363 p364 p365 (by omega)) z0 z3 z4 z5 u30 hs_u30 ⟨by omega, by omega⟩ ⟨by omega, by omega⟩ ⟨by omega, by omega⟩ (by assumption) (by omega)
                  · refine Tot_ite (fun c367 => ?_) (fun c367 => ?_)
                    · have : (2 : Int) ≤ z3.toInt := leI c367
                      have s369 : (z3 + (-1)).toInt = z3.toInt + (-1 : Int) := addc_t (by decide) (by omega) (by omega)
                      generalize (z3 + (-1)) = w368 at s369 ⊢
                      have s371 : (w368 - 1).toInt = w368.toInt - (1 : Int) := subc_t (by decide) (by omega) (by omega)
                      generalize (w368 - 1) = w370 at s371 ⊢
                      refine Tot_gd (inb_t (by omega) (by omega)) ?_
                      refine Tot_gd (inb_t (by omega) (by omega)) ?_
                      refine Tot_bind (tfX10_join v6 (((u.2.1 17 w370.toNatClampNeg)).toInt64) (((u.2.1 17 w368.toNatClampNeg)).toInt64) ⟨by omega, by omega⟩) (fun r19 hq => ?_)
                      refine Tot_bind (tfX10_bounded r19) (fun r22 hq => ?_)
                      refine Tot_gd (inb_t (by omega) (by omega)) ?_
                      refine Tot_lt (fun u26 e_u26 => ?_)
                      have hs_u26 : StX mdX10_worthBy_T_a16_a17 u0 u26 := by rw [e_u26]; exact StX_sAf hs_u (by decide) rfl rfl (by decide)
                      exact tGX10_worthBy_T_a16_a17_227 u0 (z5.toInt) (fun a372 a373 a374 a375 w376 hw376 p377 p378 p379 p380 p381 => ih a372 a373 a374 a375 w376 hw376 p377 p378 p379 p380 (by omega)) z0 w368 z4 z5 u26 hs_u26 ⟨by omega, by omega⟩ ⟨by omega, by omega⟩ ⟨by omega, by omega⟩ (by assumption) (by omega)
                    · have : ¬ (2 : Int) ≤ z3.toInt := nleI c367
                      exact Tot_some ⟨hs_u, trivial, trivial⟩
            · have : ¬ (1 : Int) ≤ z3.toInt := nleI c326
              exact Tot_some ⟨hs_u, trivial, trivial⟩
      · have : ¬ z4.toInt = (0 : Int) := neI c303
        refine Tot_ite (fun c382 => ?_) (fun c382 => ?_)
        · have : v6.toInt = (59 : Int) := eqI c382
          exact tGX10_worthBy_T_a16_a17_60 u0 (z5.toInt) (fun a383 a384 a385 a386 w387 hw387 p388 p389 p390 p391 p392 => ih a383 a384 a385 a386 w387 hw387 p388 p389 p390 p391 (by omega)) z0 z3 z5 0 u hs_u ⟨by omega, by omega⟩ ⟨by omega, by omega⟩ (by show 0 ≤ (0 : Int) ∧ (0 : Int) ≤ 1; omega) (by assumption) (by omega)
        · exact tGX10_worthBy_T_a16_a17_60 u0 (z5.toInt) (fun a393 a394 a395 a396 w397 hw397 p398 p399 p400 p401 p402 => ih a393 a394 a395 a396 w397 hw397 p398 p399 p400 p401 (by omega)) z0 z3 z5 1 u hs_u ⟨by omega, by omega⟩ ⟨by omega, by omega⟩ (by show 0 ≤ (1 : Int) ∧ (1 : Int) ≤ 1; omega) (by assumption) (by omega)
set_option maxHeartbeats 400000 in
set_option maxRecDepth 10000 in
theorem tfX10_worthBy_T_a16_a17 (x0 : Nat) (u : SX) (hI : IX u) (h0 : x0 < tN u) : Tot (fX10_worthBy_T_a16_a17 x0 u) (qX10_worthBy_T_a16_a17 u) := by
  unfold fX10_worthBy_T_a16_a17
  have hs_u : StX mdX10_worthBy_T_a16_a17 u u := StX_rf hI
  exact tLX10_worthBy_T_a16_a17_8 u 5000 x0 0 0 0 u hs_u (by show 0 ≤ (0 : Int) ∧ (0 : Int) ≤ 120; omega) (by show 0 ≤ (0 : Int) ∧ (0 : Int) ≤ 1; omega) (by show 0 ≤ (0 : Int) ∧ (0 : Int) ≤ 121; omega) (by assumption) (by show 121 - (0 : Int) < ((5000 : Nat) : Int); omega)

def mdX8_ask_3 : MD := ([], [17], [], [])
abbrev qX8_ask_3 (u : SX) (q : Int32 × SX) : Prop := StX mdX8_ask_3 u q.2 ∧ (True) ∧ (True)
set_option maxHeartbeats 400000 in
set_option maxRecDepth 10000 in
theorem tGX8_ask_3_18 (u0 : SX)     (u : SX) (hs_u : StX mdX8_ask_3 u0 u)  : Tot (GX8_ask_3_18  u) (qX8_ask_3 u0) := by
  unfold GX8_ask_3_18
  exact Tot_some ⟨hs_u, trivial, trivial⟩
set_option maxHeartbeats 400000 in
set_option maxRecDepth 10000 in
theorem tGX8_ask_3_18a (u0 : SX)    (y0 : Nat) (u : SX) (hs_u : StX mdX8_ask_3 u0 u) (h0 : y0 < tN u) : Tot (GX8_ask_3_18a y0 u) (qX8_ask_3 u0) := by
  unfold GX8_ask_3_18a
  refine Tot_gd (decide_eq_true (by assumption)) ?_
  refine Tot_bind (tfX10_worthBy_T_a16_a17 y0 u hs_u.1 (by assumption)) (fun q hq => ?_)
  obtain ⟨r7, u8⟩ := q
  have hc_u8 : StX mdX10_worthBy_T_a16_a17 u u8 := hq.1
  have hs_u8 : StX mdX8_ask_3 u0 u8 := StX_tr hs_u hc_u8 (by decide)
  exact Tot_some ⟨hs_u8, trivial, trivial⟩
set_option maxHeartbeats 400000 in
set_option maxRecDepth 10000 in
theorem tfX8_ask_3 (x1 : Int32) (u : SX) (hI : IX u) (h0 : 0 ≤ x1.toInt ∧ x1.toInt ≤ 11) : Tot (fX8_ask_3 x1 u) (qX8_ask_3 u) := by
  unfold fX8_ask_3
  have hs_u : StX mdX8_ask_3 u u := StX_rf hI
  refine Tot_bind (tfX8_has_3 x1 u hs_u.1) (fun q hq => ?_)
  obtain ⟨r1, u2⟩ := q
  have hc_u2 : StX mdX8_has_3 u u2 := hq.1
  have hs_u2 : StX mdX8_ask_3 u u2 := StX_tr hs_u hc_u2 (by decide)
  have : 0 ≤ r1.toInt ∧ r1.toInt ≤ 1 := hq.2.1
  have : 0 ≤ (u.1 5).toInt ∧ (u.1 5).toInt ≤ 12 := hs_u.1.1 5
  have : r1.toInt ≠ 0 → ((0 : Int) ≤ x1.toInt ∧ x1.toInt < (u.1 5).toInt) := hq.2.2
  refine Tot_ite (fun c403 => ?_) (fun c403 => ?_)
  · have : r1.toInt = (0 : Int) := eqI c403
    exact tGX8_ask_3_18 u u2 hs_u2
  · have : ¬ r1.toInt = (0 : Int) := neI c403
    refine Tot_gd (inb_t (by omega) (by omega)) ?_
    refine Tot_tcs (fun ht => ?_) (fun k5 ht => ⟨hs_u2.1.2.2.2.1 _ _ _ ht, ?_⟩)
    · exact tGX8_ask_3_18 u u2 hs_u2
    · have hT_k5 := hs_u2.1.2.2.2.1 _ _ _ ht
      exact tGX8_ask_3_18a u k5 u2 hs_u2 (by assumption)

abbrev qX11_isLoudness (x0 : Int32) (x1 : Int32) (q : Int32) : Prop := (0 ≤ q.toInt ∧ q.toInt ≤ 1) ∧ ((q.toInt ≠ 0 → ((0 : Int) ≤ x0.toInt ∧ x1.toInt ≤ (400 : Int) ∧ x0.toInt ≤ x1.toInt)))
set_option maxHeartbeats 400000 in
set_option maxRecDepth 10000 in
theorem tfX11_isLoudness (x0 : Int32) (x1 : Int32)  : Tot (fX11_isLoudness x0 x1) (qX11_isLoudness x0 x1 ) := by
  unfold fX11_isLoudness
  refine Tot_ite (fun c404 => ?_) (fun c404 => ?_)
  · have : x0.toInt < (0 : Int) := ltI c404
    refine Tot_gd (by decide) ?_
    exact Tot_some ⟨(by show 0 ≤ (0 : Int) ∧ (0 : Int) ≤ 1; omega), (by show (0 : Int) ≠ 0 → ((0 : Int) ≤ x0.toInt ∧ x1.toInt ≤ (400 : Int) ∧ x0.toInt ≤ x1.toInt); omega)⟩
  · have : ¬ x0.toInt < (0 : Int) := nltI c404
    refine Tot_ite (fun c405 => ?_) (fun c405 => ?_)
    · have : (400 : Int) < x1.toInt := ltI c405
      refine Tot_gd (by decide) ?_
      exact Tot_some ⟨(by show 0 ≤ (0 : Int) ∧ (0 : Int) ≤ 1; omega), (by show (0 : Int) ≠ 0 → ((0 : Int) ≤ x0.toInt ∧ x1.toInt ≤ (400 : Int) ∧ x0.toInt ≤ x1.toInt); omega)⟩
    · have : ¬ (400 : Int) < x1.toInt := nltI c405
      refine Tot_ite (fun c406 => ?_) (fun c406 => ?_)
      · have : x1.toInt < x0.toInt := ltI c406
        refine Tot_gd (by decide) ?_
        exact Tot_some ⟨(by show 0 ≤ (0 : Int) ∧ (0 : Int) ≤ 1; omega), (by show (0 : Int) ≠ 0 → ((0 : Int) ≤ x0.toInt ∧ x1.toInt ≤ (400 : Int) ∧ x0.toInt ≤ x1.toInt); omega)⟩
      · have : ¬ x1.toInt < x0.toInt := nltI c406
        refine Tot_gd (by decide) ?_
        exact Tot_some ⟨(by show 0 ≤ (1 : Int) ∧ (1 : Int) ≤ 1; omega), (by show (1 : Int) ≠ 0 → ((0 : Int) ≤ x0.toInt ∧ x1.toInt ≤ (400 : Int) ∧ x0.toInt ≤ x1.toInt); omega)⟩

def mdX6_add_6 : MD := ([8], [24, 25, 26, 29, 30], [], [])
abbrev qX6_add_6 (u : SX) (q : Int32 × SX) : Prop := StX mdX6_add_6 u q.2 ∧ ((-1) ≤ q.1.toInt ∧ q.1.toInt ≤ 11) ∧ (True)
set_option maxHeartbeats 400000 in
set_option maxRecDepth 10000 in
theorem tfX6_add_6 (x1 : Int32) (x2 : Int32) (x3 : Int32) (x4 : Int32) (x5 : Int32) (u : SX) (hI : IX u) (h0 : 0 ≤ x1.toInt ∧ x1.toInt ≤ 11) (h1 : 0 ≤ x2.toInt ∧ x2.toInt ≤ 400) (h2 : 0 ≤ x3.toInt ∧ x3.toInt ≤ 400) (h3 : 0 ≤ x4.toInt ∧ x4.toInt ≤ 400) (h4 : 0 ≤ x5.toInt ∧ x5.toInt ≤ 120) : Tot (fX6_add_6 x1 x2 x3 x4 x5 u) (qX6_add_6 u) := by
  unfold fX6_add_6
  have hs_u : StX mdX6_add_6 u u := StX_rf hI
  have : 0 ≤ (u.1 8).toInt ∧ (u.1 8).toInt ≤ 12 := hs_u.1.1 8
  refine Tot_ite (fun c407 => ?_) (fun c407 => ?_)
  · have : (u.1 8).toInt < (12 : Int) := ltI c407
    refine Tot_gd (inb_t (by omega) (by omega)) ?_
    refine Tot_lt (fun u2 e_u2 => ?_)
    have hs_u2 : StX mdX6_add_6 u u2 := by rw [e_u2]; exact StX_sA hs_u (by decide) (by show 0 ≤ x1.toInt; omega) (by show x1.toInt ≤ 11; omega) (by decide)
    have : (u2.1 8).toInt = (u.1 8).toInt := by rw [e_u2]; rfl
    refine Tot_gd (inb_t (by omega) (by omega)) ?_
    refine Tot_lt (fun u5 e_u5 => ?_)
    have hs_u5 : StX mdX6_add_6 u u5 := by rw [e_u5]; exact StX_sA hs_u2 (by decide) (by show 0 ≤ x4.toInt; omega) (by show x4.toInt ≤ 400; omega) (by decide)
    have : (u5.1 8).toInt = (u2.1 8).toInt := by rw [e_u5]; rfl
    refine Tot_gd (inb_t (by omega) (by omega)) ?_
    refine Tot_lt (fun u8 e_u8 => ?_)
    have hs_u8 : StX mdX6_add_6 u u8 := by rw [e_u8]; exact StX_sA hs_u5 (by decide) (by show 0 ≤ x2.toInt; omega) (by show x2.toInt ≤ 400; omega) (by decide)
    have : (u8.1 8).toInt = (u5.1 8).toInt := by rw [e_u8]; rfl
    refine Tot_gd (inb_t (by omega) (by omega)) ?_
    refine Tot_lt (fun u11 e_u11 => ?_)
    have hs_u11 : StX mdX6_add_6 u u11 := by rw [e_u11]; exact StX_sA hs_u8 (by decide) (by show 0 ≤ x3.toInt; omega) (by show x3.toInt ≤ 400; omega) (by decide)
    have : (u11.1 8).toInt = (u8.1 8).toInt := by rw [e_u11]; rfl
    refine Tot_gd (inb_t (by omega) (by omega)) ?_
    refine Tot_lt (fun u14 e_u14 => ?_)
    have hs_u14 : StX mdX6_add_6 u u14 := by rw [e_u14]; exact StX_sA hs_u11 (by decide) (by show 0 ≤ x5.toInt; omega) (by show x5.toInt ≤ 120; omega) (by decide)
    have : (u14.1 8).toInt = (u11.1 8).toInt := by rw [e_u14]; rfl
    have : ((u14.1 8) + 1).toInt = (u14.1 8).toInt + (1 : Int) := addc_t (by decide) (by omega) (by omega)
    refine Tot_lt (fun u16 e_u16 => ?_)
    have hs_u16 : StX mdX6_add_6 u u16 := by rw [e_u16]; exact StX_sI hs_u14 (by decide) (by show 0 ≤ ((u14.1 8) + 1).toInt; omega) (by show ((u14.1 8) + 1).toInt ≤ 12; omega)
    have : (u16.1 8).toInt = ((u14.1 8) + 1).toInt := by rw [e_u16]; rfl
    have : ((u16.1 8) - 1).toInt = (u16.1 8).toInt - (1 : Int) := subc_t (by decide) (by omega) (by omega)
    exact Tot_some ⟨hs_u16, (by show (-1) ≤ ((u16.1 8) - 1).toInt ∧ ((u16.1 8) - 1).toInt ≤ 11; omega), trivial⟩
  · have : ¬ (u.1 8).toInt < (12 : Int) := nltI c407
    exact Tot_some ⟨hs_u, (by show (-1) ≤ (-1 : Int) ∧ (-1 : Int) ≤ 11; omega), trivial⟩

def mdX11_part_0 : MD := ([8], [24, 25, 26, 29, 30], [], [])
abbrev qX11_part_0 (u : SX) (q : Int32 × SX) : Prop := StX mdX11_part_0 u q.2 ∧ ((-1) ≤ q.1.toInt ∧ q.1.toInt ≤ 11) ∧ (True)
set_option maxHeartbeats 400000 in
set_option maxRecDepth 10000 in
theorem tfX11_part_0 (x1 : Int32) (x2 : Int32) (x3 : Int32) (x4 : Int32) (u : SX) (hI : IX u)  : Tot (fX11_part_0 x1 x2 x3 x4 u) (qX11_part_0 u) := by
  unfold fX11_part_0
  have hs_u : StX mdX11_part_0 u u := StX_rf hI
  refine Tot_bind (tfX8_has_3 x1 u hs_u.1) (fun q hq => ?_)
  obtain ⟨r1, u2⟩ := q
  have hc_u2 : StX mdX8_has_3 u u2 := hq.1
  have hs_u2 : StX mdX11_part_0 u u2 := StX_tr hs_u hc_u2 (by decide)
  have : 0 ≤ r1.toInt ∧ r1.toInt ≤ 1 := hq.2.1
  have : 0 ≤ (u.1 5).toInt ∧ (u.1 5).toInt ≤ 12 := hs_u.1.1 5
  have : r1.toInt ≠ 0 → ((0 : Int) ≤ x1.toInt ∧ x1.toInt < (u.1 5).toInt) := hq.2.2
  refine Tot_ite (fun c408 => ?_) (fun c408 => ?_)
  · have : r1.toInt = (0 : Int) := eqI c408
    exact Tot_some ⟨hs_u2, (by show (-1) ≤ (-1 : Int) ∧ (-1 : Int) ≤ 11; omega), trivial⟩
  · have : ¬ r1.toInt = (0 : Int) := neI c408
    refine Tot_bind (tfX11_isLoudness x2 x3) (fun r4 hq => ?_)
    have : 0 ≤ r4.toInt ∧ r4.toInt ≤ 1 := hq.1
    have : r4.toInt ≠ 0 → ((0 : Int) ≤ x2.toInt ∧ x3.toInt ≤ (400 : Int) ∧ x2.toInt ≤ x3.toInt) := hq.2
    refine Tot_ite (fun c409 => ?_) (fun c409 => ?_)
    · have : r4.toInt = (0 : Int) := eqI c409
      exact Tot_some ⟨hs_u2, (by show (-1) ≤ (-1 : Int) ∧ (-1 : Int) ≤ 11; omega), trivial⟩
    · have : ¬ r4.toInt = (0 : Int) := neI c409
      refine Tot_bind (tfX11_within x4 0 400) (fun r7 hq => ?_)
      have : 0 ≤ r7.toInt ∧ r7.toInt ≤ 1 := hq.1
      have : r7.toInt ≠ 0 → ((0 : Int) ≤ x4.toInt ∧ x4.toInt ≤ (400 : Int)) := hq.2
      refine Tot_ite (fun c410 => ?_) (fun c410 => ?_)
      · have : r7.toInt = (0 : Int) := eqI c410
        exact Tot_some ⟨hs_u2, (by show (-1) ≤ (-1 : Int) ∧ (-1 : Int) ≤ 11; omega), trivial⟩
      · have : ¬ r7.toInt = (0 : Int) := neI c410
        have : (u2.1 8).toInt = (u.1 8).toInt := congrArg Int32.toInt (hc_u2.2.1 8 (by decide))
        have : 0 ≤ (u.1 8).toInt ∧ (u.1 8).toInt ≤ 12 := hs_u.1.1 8
        refine Tot_ite (fun c411 => ?_) (fun c411 => ?_)
        · have : (u2.1 8).toInt < (12 : Int) := ltI c411
          have : (u2.1 0).toInt = (u.1 0).toInt := congrArg Int32.toInt (hc_u2.2.1 0 (by decide))
          have : 0 ≤ (u.1 0).toInt ∧ (u.1 0).toInt ≤ 120 := hs_u.1.1 0
          refine Tot_bind (tfX6_add_6 x1 x2 x3 x4 (u2.1 0) u2 hs_u2.1 ⟨by omega, by omega⟩ ⟨by omega, by omega⟩ ⟨by omega, by omega⟩ ⟨by omega, by omega⟩ ⟨by omega, by omega⟩) (fun q hq => ?_)
          obtain ⟨r10, u11⟩ := q
          have hc_u11 : StX mdX6_add_6 u2 u11 := hq.1
          have hs_u11 : StX mdX11_part_0 u u11 := StX_tr hs_u2 hc_u11 (by decide)
          have : (-1) ≤ r10.toInt ∧ r10.toInt ≤ 11 := hq.2.1
          exact Tot_some ⟨hs_u11, (by show (-1) ≤ r10.toInt ∧ r10.toInt ≤ 11; omega), trivial⟩
        · have : ¬ (u2.1 8).toInt < (12 : Int) := nltI c411
          exact Tot_some ⟨hs_u2, (by show (-1) ≤ (-1 : Int) ∧ (-1 : Int) ≤ 11; omega), trivial⟩

def mdX11_isDay_0 : MD := ([], [], [], [])
abbrev qX11_isDay_0 (x1 : Int32) (u : SX) (q : Int32 × SX) : Prop := StX mdX11_isDay_0 u q.2 ∧ (0 ≤ q.1.toInt ∧ q.1.toInt ≤ 1) ∧ ((q.1.toInt ≠ 0 → ((0 : Int) ≤ x1.toInt ∧ x1.toInt ≤ (u.1 0).toInt)))
set_option maxHeartbeats 400000 in
set_option maxRecDepth 10000 in
theorem tfX11_isDay_0 (x1 : Int32) (u : SX) (hI : IX u)  : Tot (fX11_isDay_0 x1 u) (qX11_isDay_0 x1 u) := by
  unfold fX11_isDay_0
  have hs_u : StX mdX11_isDay_0 u u := StX_rf hI
  have : 0 ≤ (u.1 0).toInt ∧ (u.1 0).toInt ≤ 120 := hs_u.1.1 0
  refine Tot_bind (tfX11_within x1 0 (u.1 0)) (fun r1 hq => ?_)
  have : 0 ≤ r1.toInt ∧ r1.toInt ≤ 1 := hq.1
  have : r1.toInt ≠ 0 → ((0 : Int) ≤ x1.toInt ∧ x1.toInt ≤ (u.1 0).toInt) := hq.2
  refine Tot_gd (isB_t (by omega) (by omega)) ?_
  exact Tot_some ⟨hs_u, (by show 0 ≤ r1.toInt ∧ r1.toInt ≤ 1; omega), (by show r1.toInt ≠ 0 → ((0 : Int) ≤ x1.toInt ∧ x1.toInt ≤ (u.1 0).toInt); omega)⟩

abbrev qX11_isEither (x0 : Int32) (q : Int32) : Prop := (0 ≤ q.toInt ∧ q.toInt ≤ 1) ∧ ((q.toInt ≠ 0 → ((0 : Int) ≤ x0.toInt ∧ x0.toInt ≤ (1 : Int))))
set_option maxHeartbeats 400000 in
set_option maxRecDepth 10000 in
theorem tfX11_isEither (x0 : Int32)  : Tot (fX11_isEither x0) (qX11_isEither x0 ) := by
  unfold fX11_isEither
  refine Tot_ite (fun c412 => ?_) (fun c412 => ?_)
  · have : x0.toInt = (0 : Int) := eqI c412
    refine Tot_gd (by decide) ?_
    exact Tot_some ⟨(by show 0 ≤ (1 : Int) ∧ (1 : Int) ≤ 1; omega), (by show (1 : Int) ≠ 0 → ((0 : Int) ≤ x0.toInt ∧ x0.toInt ≤ (1 : Int)); omega)⟩
  · have : ¬ x0.toInt = (0 : Int) := neI c412
    refine Tot_ite (fun c413 => ?_) (fun c413 => ?_)
    · have : x0.toInt = (1 : Int) := eqI c413
      refine Tot_gd (by decide) ?_
      exact Tot_some ⟨(by show 0 ≤ (1 : Int) ∧ (1 : Int) ≤ 1; omega), (by show (1 : Int) ≠ 0 → ((0 : Int) ≤ x0.toInt ∧ x0.toInt ≤ (1 : Int)); omega)⟩
    · have : ¬ x0.toInt = (1 : Int) := neI c413
      refine Tot_gd (by decide) ?_
      exact Tot_some ⟨(by show 0 ≤ (0 : Int) ∧ (0 : Int) ≤ 1; omega), (by show (0 : Int) ≠ 0 → ((0 : Int) ≤ x0.toInt ∧ x0.toInt ≤ (1 : Int)); omega)⟩

def mdX6_has_6 : MD := ([], [], [], [])
abbrev qX6_has_6 (x1 : Int32) (u : SX) (q : Int32 × SX) : Prop := StX mdX6_has_6 u q.2 ∧ (0 ≤ q.1.toInt ∧ q.1.toInt ≤ 1) ∧ ((q.1.toInt ≠ 0 → ((0 : Int) ≤ x1.toInt ∧ x1.toInt < (u.1 8).toInt)))
set_option maxHeartbeats 400000 in
set_option maxRecDepth 10000 in
theorem tfX6_has_6 (x1 : Int32) (u : SX) (hI : IX u)  : Tot (fX6_has_6 x1 u) (qX6_has_6 x1 u) := by
  unfold fX6_has_6
  have hs_u : StX mdX6_has_6 u u := StX_rf hI
  refine Tot_ite (fun c414 => ?_) (fun c414 => ?_)
  · have : x1.toInt < (0 : Int) := ltI c414
    refine Tot_gd (by decide) ?_
    have : 0 ≤ (u.1 8).toInt ∧ (u.1 8).toInt ≤ 12 := hs_u.1.1 8
    exact Tot_some ⟨hs_u, (by show 0 ≤ (0 : Int) ∧ (0 : Int) ≤ 1; omega), (by show (0 : Int) ≠ 0 → ((0 : Int) ≤ x1.toInt ∧ x1.toInt < (u.1 8).toInt); omega)⟩
  · have : ¬ x1.toInt < (0 : Int) := nltI c414
    have : 0 ≤ (u.1 8).toInt ∧ (u.1 8).toInt ≤ 12 := hs_u.1.1 8
    refine Tot_ite (fun c415 => ?_) (fun c415 => ?_)
    · have : (u.1 8).toInt ≤ x1.toInt := leI c415
      refine Tot_gd (by decide) ?_
      exact Tot_some ⟨hs_u, (by show 0 ≤ (0 : Int) ∧ (0 : Int) ≤ 1; omega), (by show (0 : Int) ≠ 0 → ((0 : Int) ≤ x1.toInt ∧ x1.toInt < (u.1 8).toInt); omega)⟩
    · have : ¬ (u.1 8).toInt ≤ x1.toInt := nleI c415
      refine Tot_gd (by decide) ?_
      exact Tot_some ⟨hs_u, (by show 0 ≤ (1 : Int) ∧ (1 : Int) ≤ 1; omega), (by show (1 : Int) ≠ 0 → ((0 : Int) ≤ x1.toInt ∧ x1.toInt < (u.1 8).toInt); omega)⟩

def mdX11_rowsUpTo_a25 : MD := ([], [], [], [])
abbrev qX11_rowsUpTo_a25 (u : SX) (q : Int32 × SX) : Prop := StX mdX11_rowsUpTo_a25 u q.2 ∧ (0 ≤ q.1.toInt ∧ q.1.toInt ≤ 12) ∧ (True)
set_option maxHeartbeats 400000 in
set_option maxRecDepth 10000 in
theorem tLX11_rowsUpTo_a25_11 (u0 : SX)  {k31 : Int32 → Int32 → SX → Option (Int32 × SX)} (hk31 : ∀ (z0 : Int32) (z4 : Int32) (u : SX), (StX mdX11_rowsUpTo_a25 u0 u) → (0 ≤ z0.toInt ∧ z0.toInt ≤ 120) → (0 ≤ z4.toInt ∧ z4.toInt ≤ 12) → Tot (k31 z0 z4 u) (qX11_rowsUpTo_a25 u0)) : ∀ (n : Nat) (z0 : Int32) (z2 : Int32) (z4 : Int32) (u : SX), (StX mdX11_rowsUpTo_a25 u0 u) → (0 ≤ z0.toInt ∧ z0.toInt ≤ 120) → (0 ≤ z2.toInt ∧ z2.toInt ≤ 12) → (0 ≤ z4.toInt ∧ z4.toInt ≤ 12) → (12 - z4.toInt < (n : Int)) → Tot (LX11_rowsUpTo_a25_11 k31 n z0 z2 z4 u) (qX11_rowsUpTo_a25 u0) := by
  intro n
  induction n with
  | zero =>
    intro z0 z2 z4 u hs_u h0 h1 h2 hm
    exfalso
    omega
  | succ n ih =>
    intro z0 z2 z4 u hs_u h0 h1 h2 hm
    rw [LX11_rowsUpTo_a25_11]
    refine Tot_ite (fun c416 => ?_) (fun c416 => ?_)
    · have : z2.toInt ≤ z4.toInt := leI c416
      exact hk31 z0 z4 u hs_u ⟨by omega, by omega⟩ ⟨by omega, by omega⟩
    · have : ¬ z2.toInt ≤ z4.toInt := nleI c416
      refine Tot_gd (inb_t (by omega) (by omega)) ?_
      have : 0 ≤ (u.2.1 25 z4.toNatClampNeg).toInt ∧ (u.2.1 25 z4.toNatClampNeg).toInt ≤ 120 := hs_u.1.2.1 25 z4.toNatClampNeg
      refine Tot_ite (fun c417 => ?_) (fun c417 => ?_)
      · have : z0.toInt < (u.2.1 25 z4.toNatClampNeg).toInt := ltI c417
        exact hk31 z0 z4 u hs_u ⟨by omega, by omega⟩ ⟨by omega, by omega⟩
      · have : ¬ z0.toInt < (u.2.1 25 z4.toNatClampNeg).toInt := nltI c417
        have : (z4 + 1).toInt = z4.toInt + (1 : Int) := addc_t (by decide) (by omega) (by omega)
        exact ih z0 z2 (z4 + 1) u hs_u ⟨by omega, by omega⟩ ⟨by omega, by omega⟩ ⟨by omega, by omega⟩ (by omega)
set_option maxHeartbeats 400000 in
set_option maxRecDepth 10000 in
theorem tLX11_rowsUpTo_a25_31 (u0 : SX)    : ∀ (n : Nat) (z0 : Int32) (z4 : Int32) (u : SX), (StX mdX11_rowsUpTo_a25 u0 u) → (0 ≤ z0.toInt ∧ z0.toInt ≤ 120) → (0 ≤ z4.toInt ∧ z4.toInt ≤ 12) → (z4.toInt - 0 < (n : Int)) → Tot (LX11_rowsUpTo_a25_31 n z0 z4 u) (qX11_rowsUpTo_a25 u0) := by
  intro n
  induction n with
  | zero =>
    intro z0 z4 u hs_u h0 h1 hm
    exfalso
    omega
  | succ n ih =>
    intro z0 z4 u hs_u h0 h1 hm
    rw [LX11_rowsUpTo_a25_31]
    refine Tot_ite (fun c418 => ?_) (fun c418 => ?_)
    · have : z4.toInt ≤ (0 : Int) := leI c418
      exact Tot_some ⟨hs_u, (by show 0 ≤ z4.toInt ∧ z4.toInt ≤ 12; omega), trivial⟩
    · have : ¬ z4.toInt ≤ (0 : Int) := nleI c418
      have : (z4 - 1).toInt = z4.toInt - (1 : Int) := subc_t (by decide) (by omega) (by omega)
      refine Tot_gd (inb_t (by omega) (by omega)) ?_
      have : 0 ≤ (u.2.1 25 ((z4 - 1)).toNatClampNeg).toInt ∧ (u.2.1 25 ((z4 - 1)).toNatClampNeg).toInt ≤ 120 := hs_u.1.2.1 25 ((z4 - 1)).toNatClampNeg
      refine Tot_ite (fun c419 => ?_) (fun c419 => ?_)
      · have : (u.2.1 25 ((z4 - 1)).toNatClampNeg).toInt ≤ z0.toInt := leI c419
        exact Tot_some ⟨hs_u, (by show 0 ≤ z4.toInt ∧ z4.toInt ≤ 12; omega), trivial⟩
      · have : ¬ (u.2.1 25 ((z4 - 1)).toNatClampNeg).toInt ≤ z0.toInt := nleI c419
        have : (z4 + (-1)).toInt = z4.toInt + (-1 : Int) := addc_t (by decide) (by omega) (by omega)
        exact ih z0 (z4 + (-1)) u hs_u ⟨by omega, by omega⟩ ⟨by omega, by omega⟩ (by omega)
set_option maxHeartbeats 400000 in
set_option maxRecDepth 10000 in
theorem tfX11_rowsUpTo_a25 (x0 : Int32) (x2 : Int32) (x3 : Int32) (u : SX) (hI : IX u) (h0 : 0 ≤ x0.toInt ∧ x0.toInt ≤ 120) (h1 : 0 ≤ x2.toInt ∧ x2.toInt ≤ 12) (h2 : 0 ≤ x3.toInt ∧ x3.toInt ≤ 12) : Tot (fX11_rowsUpTo_a25 x0 x2 x3 u) (qX11_rowsUpTo_a25 u) := by
  unfold fX11_rowsUpTo_a25
  have hs_u : StX mdX11_rowsUpTo_a25 u u := StX_rf hI
  have : (x2.toInt < x3.toInt ∧ (if x2 < x3 then x2 else x3).toInt = x2.toInt) ∨ (¬ x2.toInt < x3.toInt ∧ (if x2 < x3 then x2 else x3).toInt = x3.toInt) := ite_lt_t (x := x2) (y := x3) (p := x2) (q := x3)
  have : ((0 : Int) < (if x2 < x3 then x2 else x3).toInt ∧ (if 0 < (if x2 < x3 then x2 else x3) then (if x2 < x3 then x2 else x3) else 0).toInt = (if x2 < x3 then x2 else x3).toInt) ∨ (¬ (0 : Int) < (if x2 < x3 then x2 else x3).toInt ∧ (if 0 < (if x2 < x3 then x2 else x3) then (if x2 < x3 then x2 else x3) else 0).toInt = (0 : Int)) := ite_lt_t (x := 0) (y := (if x2 < x3 then x2 else x3)) (p := (if x2 < x3 then x2 else x3)) (q := 0)
  refine Tot_lt (fun v1 e_v1 => ?_)
  have : v1.toInt = (if 0 < (if x2 < x3 then x2 else x3) then (if x2 < x3 then x2 else x3) else 0).toInt := congrArg Int32.toInt e_v1
  exact tLX11_rowsUpTo_a25_11 u (fun a420 a421 w422 hw422 p423 p424 => tLX11_rowsUpTo_a25_31 u 5000 a420 a421 w422 hw422 p423 p424 (by omega)) 5000 x0 x2 v1 u hs_u ⟨by omega, by omega⟩ ⟨by omega, by omega⟩ ⟨by omega, by omega⟩ (by show 12 - v1.toInt < ((5000 : Nat) : Int); omega)

def mdX11_rowsUpTo_a34 : MD := ([], [], [], [])
abbrev qX11_rowsUpTo_a34 (u : SX) (q : Int32 × SX) : Prop := StX mdX11_rowsUpTo_a34 u q.2 ∧ (0 ≤ q.1.toInt ∧ q.1.toInt ≤ 30) ∧ (True)
set_option maxHeartbeats 400000 in
set_option maxRecDepth 10000 in
theorem tLX11_rowsUpTo_a34_11 (u0 : SX)  {k31 : Int32 → Int32 → SX → Option (Int32 × SX)} (hk31 : ∀ (z0 : Int32) (z4 : Int32) (u : SX), (StX mdX11_rowsUpTo_a34 u0 u) → (0 ≤ z0.toInt ∧ z0.toInt ≤ 120) → (0 ≤ z4.toInt ∧ z4.toInt ≤ 30) → Tot (k31 z0 z4 u) (qX11_rowsUpTo_a34 u0)) : ∀ (n : Nat) (z0 : Int32) (z2 : Int32) (z4 : Int32) (u : SX), (StX mdX11_rowsUpTo_a34 u0 u) → (0 ≤ z0.toInt ∧ z0.toInt ≤ 120) → (0 ≤ z2.toInt ∧ z2.toInt ≤ 30) → (0 ≤ z4.toInt ∧ z4.toInt ≤ 30) → (30 - z4.toInt < (n : Int)) → Tot (LX11_rowsUpTo_a34_11 k31 n z0 z2 z4 u) (qX11_rowsUpTo_a34 u0) := by
  intro n
  induction n with
  | zero =>
    intro z0 z2 z4 u hs_u h0 h1 h2 hm
    exfalso
    omega
  | succ n ih =>
    intro z0 z2 z4 u hs_u h0 h1 h2 hm
    rw [LX11_rowsUpTo_a34_11]
    refine Tot_ite (fun c425 => ?_) (fun c425 => ?_)
    · have : z2.toInt ≤ z4.toInt := leI c425
      exact hk31 z0 z4 u hs_u ⟨by omega, by omega⟩ ⟨by omega, by omega⟩
    · have : ¬ z2.toInt ≤ z4.toInt := nleI c425
      refine Tot_gd (inb_t (by omega) (by omega)) ?_
      have : 0 ≤ (u.2.1 34 z4.toNatClampNeg).toInt ∧ (u.2.1 34 z4.toNatClampNeg).toInt ≤ 120 := hs_u.1.2.1 34 z4.toNatClampNeg
      refine Tot_ite (fun c426 => ?_) (fun c426 => ?_)
      · have : z0.toInt < (u.2.1 34 z4.toNatClampNeg).toInt := ltI c426
        exact hk31 z0 z4 u hs_u ⟨by omega, by omega⟩ ⟨by omega, by omega⟩
      · have : ¬ z0.toInt < (u.2.1 34 z4.toNatClampNeg).toInt := nltI c426
        have : (z4 + 1).toInt = z4.toInt + (1 : Int) := addc_t (by decide) (by omega) (by omega)
        exact ih z0 z2 (z4 + 1) u hs_u ⟨by omega, by omega⟩ ⟨by omega, by omega⟩ ⟨by omega, by omega⟩ (by omega)
set_option maxHeartbeats 400000 in
set_option maxRecDepth 10000 in
theorem tLX11_rowsUpTo_a34_31 (u0 : SX)    : ∀ (n : Nat) (z0 : Int32) (z4 : Int32) (u : SX), (StX mdX11_rowsUpTo_a34 u0 u) → (0 ≤ z0.toInt ∧ z0.toInt ≤ 120) → (0 ≤ z4.toInt ∧ z4.toInt ≤ 30) → (z4.toInt - 0 < (n : Int)) → Tot (LX11_rowsUpTo_a34_31 n z0 z4 u) (qX11_rowsUpTo_a34 u0) := by
  intro n
  induction n with
  | zero =>
    intro z0 z4 u hs_u h0 h1 hm
    exfalso
    omega
  | succ n ih =>
    intro z0 z4 u hs_u h0 h1 hm
    rw [LX11_rowsUpTo_a34_31]
    refine Tot_ite (fun c427 => ?_) (fun c427 => ?_)
    · have : z4.toInt ≤ (0 : Int) := leI c427
      exact Tot_some ⟨hs_u, (by show 0 ≤ z4.toInt ∧ z4.toInt ≤ 30; omega), trivial⟩
    · have : ¬ z4.toInt ≤ (0 : Int) := nleI c427
      have : (z4 - 1).toInt = z4.toInt - (1 : Int) := subc_t (by decide) (by omega) (by omega)
      refine Tot_gd (inb_t (by omega) (by omega)) ?_
      have : 0 ≤ (u.2.1 34 ((z4 - 1)).toNatClampNeg).toInt ∧ (u.2.1 34 ((z4 - 1)).toNatClampNeg).toInt ≤ 120 := hs_u.1.2.1 34 ((z4 - 1)).toNatClampNeg
      refine Tot_ite (fun c428 => ?_) (fun c428 => ?_)
      · have : (u.2.1 34 ((z4 - 1)).toNatClampNeg).toInt ≤ z0.toInt := leI c428
        exact Tot_some ⟨hs_u, (by show 0 ≤ z4.toInt ∧ z4.toInt ≤ 30; omega), trivial⟩
      · have : ¬ (u.2.1 34 ((z4 - 1)).toNatClampNeg).toInt ≤ z0.toInt := nleI c428
        have : (z4 + (-1)).toInt = z4.toInt + (-1 : Int) := addc_t (by decide) (by omega) (by omega)
        exact ih z0 (z4 + (-1)) u hs_u ⟨by omega, by omega⟩ ⟨by omega, by omega⟩ (by omega)
set_option maxHeartbeats 400000 in
set_option maxRecDepth 10000 in
theorem tfX11_rowsUpTo_a34 (x0 : Int32) (x2 : Int32) (x3 : Int32) (u : SX) (hI : IX u) (h0 : 0 ≤ x0.toInt ∧ x0.toInt ≤ 120) (h1 : 0 ≤ x2.toInt ∧ x2.toInt ≤ 30) (h2 : 0 ≤ x3.toInt ∧ x3.toInt ≤ 30) : Tot (fX11_rowsUpTo_a34 x0 x2 x3 u) (qX11_rowsUpTo_a34 u) := by
  unfold fX11_rowsUpTo_a34
  have hs_u : StX mdX11_rowsUpTo_a34 u u := StX_rf hI
  have : (x2.toInt < x3.toInt ∧ (if x2 < x3 then x2 else x3).toInt = x2.toInt) ∨ (¬ x2.toInt < x3.toInt ∧ (if x2 < x3 then x2 else x3).toInt = x3.toInt) := ite_lt_t (x := x2) (y := x3) (p := x2) (q := x3)
  have : ((0 : Int) < (if x2 < x3 then x2 else x3).toInt ∧ (if 0 < (if x2 < x3 then x2 else x3) then (if x2 < x3 then x2 else x3) else 0).toInt = (if x2 < x3 then x2 else x3).toInt) ∨ (¬ (0 : Int) < (if x2 < x3 then x2 else x3).toInt ∧ (if 0 < (if x2 < x3 then x2 else x3) then (if x2 < x3 then x2 else x3) else 0).toInt = (0 : Int)) := ite_lt_t (x := 0) (y := (if x2 < x3 then x2 else x3)) (p := (if x2 < x3 then x2 else x3)) (q := 0)
  refine Tot_lt (fun v1 e_v1 => ?_)
  have : v1.toInt = (if 0 < (if x2 < x3 then x2 else x3) then (if x2 < x3 then x2 else x3) else 0).toInt := congrArg Int32.toInt e_v1
  exact tLX11_rowsUpTo_a34_11 u (fun a429 a430 w431 hw431 p432 p433 => tLX11_rowsUpTo_a34_31 u 5000 a429 a430 w431 hw431 p432 p433 (by omega)) 5000 x0 x2 v1 u hs_u ⟨by omega, by omega⟩ ⟨by omega, by omega⟩ ⟨by omega, by omega⟩ (by show 30 - v1.toInt < ((5000 : Nat) : Int); omega)

abbrev qX6_apart (q : Int32) : Prop := (0 ≤ q.toInt ∧ q.toInt ≤ 1) ∧ (True)
set_option maxHeartbeats 400000 in
set_option maxRecDepth 10000 in
theorem tfX6_apart (x0 : Int32) (x1 : Int32) (x2 : Int32) (x3 : Int32) (h0 : 0 ≤ x0.toInt ∧ x0.toInt ≤ 400) (h1 : 0 ≤ x1.toInt ∧ x1.toInt ≤ 400) (h2 : 0 ≤ x2.toInt ∧ x2.toInt ≤ 400) (h3 : 0 ≤ x3.toInt ∧ x3.toInt ≤ 400) : Tot (fX6_apart x0 x1 x2 x3) (qX6_apart ) := by
  unfold fX6_apart
  refine Tot_ite (fun c434 => ?_) (fun c434 => ?_)
  · have : x1.toInt < x2.toInt := ltI c434
    refine Tot_gd (by decide) ?_
    exact Tot_some ⟨(by show 0 ≤ (1 : Int) ∧ (1 : Int) ≤ 1; omega), trivial⟩
  · have : ¬ x1.toInt < x2.toInt := nltI c434
    refine Tot_ite (fun c435 => ?_) (fun c435 => ?_)
    · have : x0.toInt ≤ x3.toInt := leI c435
      refine Tot_gd (by decide) ?_
      exact Tot_some ⟨(by show 0 ≤ (0 : Int) ∧ (0 : Int) ≤ 1; omega), trivial⟩
    · have : ¬ x0.toInt ≤ x3.toInt := nleI c435
      refine Tot_gd (by decide) ?_
      exact Tot_some ⟨(by show 0 ≤ (1 : Int) ∧ (1 : Int) ≤ 1; omega), trivial⟩

def mdX6_apply_6 : MD := ([], [27, 28], [], [])
abbrev qX6_apply_6 (u : SX) (q : Int32 × SX) : Prop := StX mdX6_apply_6 u q.2 ∧ (0 ≤ q.1.toInt ∧ q.1.toInt ≤ 0) ∧ (True)
set_option maxHeartbeats 400000 in
set_option maxRecDepth 10000 in
theorem tGX6_apply_6_83 (u0 : SX)    (z2 : Int32) (z4 : Int32) (z5 : Int32) (y0 : Int32) (y1 : Int32) (u : SX) (hs_u : StX mdX6_apply_6 u0 u) (h0 : 0 ≤ z2.toInt ∧ z2.toInt ≤ 11) (h1 : 0 ≤ z4.toInt ∧ z4.toInt ≤ 400) (h2 : 0 ≤ z5.toInt ∧ z5.toInt ≤ 1) (h3 : 0 ≤ y0.toInt ∧ y0.toInt ≤ 400) (h4 : 0 ≤ y1.toInt ∧ y1.toInt ≤ 11) : Tot (GX6_apply_6_83 z2 z4 z5 y0 y1 u) (qX6_apply_6 u0) := by
  unfold GX6_apply_6_83
  refine Tot_gd (inb_t (by omega) (by omega)) ?_
  refine Tot_lt (fun u13 e_u13 => ?_)
  have hs_u13 : StX mdX6_apply_6 u0 u13 := by rw [e_u13]; exact StX_sA hs_u (by decide) (by show 0 ≤ y0.toInt; omega) (by show y0.toInt ≤ 400; omega) (by decide)
  refine Tot_ite (fun c436 => ?_) (fun c436 => ?_)
  · have : z5.toInt = (0 : Int) := eqI c436
    refine Tot_gd (inb_t (by omega) (by omega)) ?_
    refine Tot_gd (inb_t (by omega) (by omega)) ?_
    have : 0 ≤ (u13.2.1 28 z2.toNatClampNeg).toInt ∧ (u13.2.1 28 z2.toNatClampNeg).toInt ≤ 400 := hs_u13.1.2.1 28 z2.toNatClampNeg
    have : (z4.toInt < (u13.2.1 28 z2.toNatClampNeg).toInt ∧ (if z4 < (u13.2.1 28 z2.toNatClampNeg) then z4 else (u13.2.1 28 z2.toNatClampNeg)).toInt = z4.toInt) ∨ (¬ z4.toInt < (u13.2.1 28 z2.toNatClampNeg).toInt ∧ (if z4 < (u13.2.1 28 z2.toNatClampNeg) then z4 else (u13.2.1 28 z2.toNatClampNeg)).toInt = (u13.2.1 28 z2.toNatClampNeg).toInt) := ite_lt_t (x := z4) (y := (u13.2.1 28 z2.toNatClampNeg)) (p := z4) (q := (u13.2.1 28 z2.toNatClampNeg))
    refine Tot_lt (fun u17 e_u17 => ?_)
    have hs_u17 : StX mdX6_apply_6 u0 u17 := by rw [e_u17]; exact StX_sA hs_u13 (by decide) (by show 0 ≤ (if z4 < (u13.2.1 28 z2.toNatClampNeg) then z4 else (u13.2.1 28 z2.toNatClampNeg)).toInt; omega) (by show (if z4 < (u13.2.1 28 z2.toNatClampNeg) then z4 else (u13.2.1 28 z2.toNatClampNeg)).toInt ≤ 400; omega) (by decide)
    exact Tot_some ⟨hs_u17, (by show 0 ≤ (0 : Int) ∧ (0 : Int) ≤ 0; omega), trivial⟩
  · have : ¬ z5.toInt = (0 : Int) := neI c436
    refine Tot_gd (inb_t (by omega) (by omega)) ?_
    refine Tot_lt (fun u20 e_u20 => ?_)
    have hs_u20 : StX mdX6_apply_6 u0 u20 := by rw [e_u20]; exact StX_sA hs_u13 (by decide) (by show 0 ≤ z4.toInt; omega) (by show z4.toInt ≤ 400; omega) (by decide)
    exact Tot_some ⟨hs_u20, (by show 0 ≤ (0 : Int) ∧ (0 : Int) ≤ 0; omega), trivial⟩
set_option maxHeartbeats 400000 in
set_option maxRecDepth 10000 in
theorem tGX6_apply_6_57 (u0 : SX)    (z2 : Int32) (z3 : Int32) (z4 : Int32) (y0 : Int32) (u : SX) (hs_u : StX mdX6_apply_6 u0 u) (h0 : 0 ≤ z2.toInt ∧ z2.toInt ≤ 11) (h1 : 0 ≤ z3.toInt ∧ z3.toInt ≤ 400) (h2 : 0 ≤ z4.toInt ∧ z4.toInt ≤ 400) (h3 : 0 ≤ y0.toInt ∧ y0.toInt ≤ 1) : Tot (GX6_apply_6_57 z2 z3 z4 y0 u) (qX6_apply_6 u0) := by
  unfold GX6_apply_6_57
  refine Tot_ite (fun c437 => ?_) (fun c437 => ?_)
  · have : y0.toInt = (0 : Int) := eqI c437
    refine Tot_gd (inb_t (by omega) (by omega)) ?_
    have : 0 ≤ (u.2.1 27 z2.toNatClampNeg).toInt ∧ (u.2.1 27 z2.toNatClampNeg).toInt ≤ 400 := hs_u.1.2.1 27 z2.toNatClampNeg
    have : ((u.2.1 27 z2.toNatClampNeg).toInt < z3.toInt ∧ (if (u.2.1 27 z2.toNatClampNeg) < z3 then z3 else (u.2.1 27 z2.toNatClampNeg)).toInt = z3.toInt) ∨ (¬ (u.2.1 27 z2.toNatClampNeg).toInt < z3.toInt ∧ (if (u.2.1 27 z2.toNatClampNeg) < z3 then z3 else (u.2.1 27 z2.toNatClampNeg)).toInt = (u.2.1 27 z2.toNatClampNeg).toInt) := ite_lt_t (x := (u.2.1 27 z2.toNatClampNeg)) (y := z3) (p := z3) (q := (u.2.1 27 z2.toNatClampNeg))
    exact tGX6_apply_6_83 u0 z2 z4 y0 (if (u.2.1 27 z2.toNatClampNeg) < z3 then z3 else (u.2.1 27 z2.toNatClampNeg)) z2 u hs_u ⟨by omega, by omega⟩ ⟨by omega, by omega⟩ ⟨by omega, by omega⟩ ⟨by omega, by omega⟩ ⟨by omega, by omega⟩
  · have : ¬ y0.toInt = (0 : Int) := neI c437
    exact tGX6_apply_6_83 u0 z2 z4 y0 z3 z2 u hs_u ⟨by omega, by omega⟩ ⟨by omega, by omega⟩ ⟨by omega, by omega⟩ ⟨by omega, by omega⟩ ⟨by omega, by omega⟩
set_option maxHeartbeats 400000 in
set_option maxRecDepth 10000 in
theorem tGX6_apply_6_52 (u0 : SX)    (z2 : Int32) (z3 : Int32) (z4 : Int32) (u : SX) (hs_u : StX mdX6_apply_6 u0 u) (h0 : 0 ≤ z2.toInt ∧ z2.toInt ≤ 11) (h1 : 0 ≤ z3.toInt ∧ z3.toInt ≤ 400) (h2 : 0 ≤ z4.toInt ∧ z4.toInt ≤ 400) : Tot (GX6_apply_6_52 z2 z3 z4 u) (qX6_apply_6 u0) := by
  unfold GX6_apply_6_52
  exact tGX6_apply_6_57 u0 z2 z3 z4 1 u hs_u ⟨by omega, by omega⟩ ⟨by omega, by omega⟩ ⟨by omega, by omega⟩ (by show 0 ≤ (1 : Int) ∧ (1 : Int) ≤ 1; omega)
set_option maxHeartbeats 400000 in
set_option maxRecDepth 10000 in
theorem tfX6_apply_6 (x1 : Int32) (u : SX) (hI : IX u) (h0 : 0 ≤ x1.toInt ∧ x1.toInt ≤ 29) : Tot (fX6_apply_6 x1 u) (qX6_apply_6 u) := by
  unfold fX6_apply_6
  have hs_u : StX mdX6_apply_6 u u := StX_rf hI
  refine Tot_gd (inb_t (by omega) (by omega)) ?_
  have : 0 ≤ (u.2.1 31 x1.toNatClampNeg).toInt ∧ (u.2.1 31 x1.toNatClampNeg).toInt ≤ 11 := hs_u.1.2.1 31 x1.toNatClampNeg
  refine Tot_lt (fun v2 e_v2 => ?_)
  have : v2.toInt = (u.2.1 31 x1.toNatClampNeg).toInt := congrArg Int32.toInt e_v2
  refine Tot_gd (inb_t (by omega) (by omega)) ?_
  have : 0 ≤ (u.2.1 32 x1.toNatClampNeg).toInt ∧ (u.2.1 32 x1.toNatClampNeg).toInt ≤ 400 := hs_u.1.2.1 32 x1.toNatClampNeg
  refine Tot_lt (fun v5 e_v5 => ?_)
  have : v5.toInt = (u.2.1 32 x1.toNatClampNeg).toInt := congrArg Int32.toInt e_v5
  refine Tot_gd (inb_t (by omega) (by omega)) ?_
  have : 0 ≤ (u.2.1 33 x1.toNatClampNeg).toInt ∧ (u.2.1 33 x1.toNatClampNeg).toInt ≤ 400 := hs_u.1.2.1 33 x1.toNatClampNeg
  refine Tot_lt (fun v8 e_v8 => ?_)
  have : v8.toInt = (u.2.1 33 x1.toNatClampNeg).toInt := congrArg Int32.toInt e_v8
  refine Tot_gd (inb_t (by omega) (by omega)) ?_
  have : 0 ≤ (u.2.1 35 x1.toNatClampNeg).toInt ∧ (u.2.1 35 x1.toNatClampNeg).toInt ≤ 1 := hs_u.1.2.1 35 x1.toNatClampNeg
  refine Tot_ite (fun c438 => ?_) (fun c438 => ?_)
  · have : (u.2.1 35 x1.toNatClampNeg).toInt = (0 : Int) := eqI c438
    refine Tot_gd (inb_t (by omega) (by omega)) ?_
    refine Tot_gd (inb_t (by omega) (by omega)) ?_
    have : 0 ≤ (u.2.1 27 v2.toNatClampNeg).toInt ∧ (u.2.1 27 v2.toNatClampNeg).toInt ≤ 400 := hs_u.1.2.1 27 v2.toNatClampNeg
    have : 0 ≤ (u.2.1 28 v2.toNatClampNeg).toInt ∧ (u.2.1 28 v2.toNatClampNeg).toInt ≤ 400 := hs_u.1.2.1 28 v2.toNatClampNeg
    refine Tot_bind (tfX6_apart (u.2.1 27 v2.toNatClampNeg) (u.2.1 28 v2.toNatClampNeg) v5 v8 ⟨by omega, by omega⟩ ⟨by omega, by omega⟩ ⟨by omega, by omega⟩ ⟨by omega, by omega⟩) (fun r24 hq => ?_)
    have : 0 ≤ r24.toInt ∧ r24.toInt ≤ 1 := hq.1
    refine Tot_ite (fun c439 => ?_) (fun c439 => ?_)
    · have : r24.toInt = (0 : Int) := eqI c439
      exact tGX6_apply_6_57 u v2 v5 v8 0 u hs_u ⟨by omega, by omega⟩ ⟨by omega, by omega⟩ ⟨by omega, by omega⟩ (by show 0 ≤ (0 : Int) ∧ (0 : Int) ≤ 1; omega)
    · have : ¬ r24.toInt = (0 : Int) := neI c439
      exact tGX6_apply_6_52 u v2 v5 v8 u hs_u ⟨by omega, by omega⟩ ⟨by omega, by omega⟩ ⟨by omega, by omega⟩
  · have : ¬ (u.2.1 35 x1.toNatClampNeg).toInt = (0 : Int) := neI c438
    exact tGX6_apply_6_52 u v2 v5 v8 u hs_u ⟨by omega, by omega⟩ ⟨by omega, by omega⟩ ⟨by omega, by omega⟩

def mdX6_recall_6 : MD := ([10, 11], [27, 28], [], [])
abbrev qX6_recall_6 (u : SX) (q : Int32 × SX) : Prop := StX mdX6_recall_6 u q.2 ∧ (0 ≤ q.1.toInt ∧ q.1.toInt ≤ 0) ∧ (True)
set_option maxHeartbeats 400000 in
set_option maxRecDepth 10000 in
theorem tLX6_recall_6_64 (u0 : SX)  {k107 : SX → Option (Int32 × SX)} (hk107 : ∀  (u : SX), (StX mdX6_recall_6 u0 u) → Tot (k107  u) (qX6_recall_6 u0)) : ∀ (n : Nat) (z4 : Int32) (u : SX), (StX mdX6_recall_6 u0 u) → (0 ≤ z4.toInt ∧ z4.toInt ≤ 12) → (12 - z4.toInt < (n : Int)) → Tot (LX6_recall_6_64 k107 n z4 u) (qX6_recall_6 u0) := by
  intro n
  induction n with
  | zero =>
    intro z4 u hs_u h0 hm
    exfalso
    omega
  | succ n ih =>
    intro z4 u hs_u h0 hm
    rw [LX6_recall_6_64]
    have : 0 ≤ (u.1 10).toInt ∧ (u.1 10).toInt ≤ 12 := hs_u.1.1 10
    refine Tot_ite (fun c440 => ?_) (fun c440 => ?_)
    · have : (u.1 10).toInt ≤ z4.toInt := leI c440
      exact hk107 u hs_u
    · have : ¬ (u.1 10).toInt ≤ z4.toInt := nleI c440
      refine Tot_gd (inb_t (by omega) (by omega)) ?_
      refine Tot_gd (inb_t (by omega) (by omega)) ?_
      have : 0 ≤ (u.2.1 29 z4.toNatClampNeg).toInt ∧ (u.2.1 29 z4.toNatClampNeg).toInt ≤ 400 := hs_u.1.2.1 29 z4.toNatClampNeg
      refine Tot_lt (fun u13 e_u13 => ?_)
      have hs_u13 : StX mdX6_recall_6 u0 u13 := by rw [e_u13]; exact StX_sA hs_u (by decide) (by show 0 ≤ (u.2.1 29 z4.toNatClampNeg).toInt; omega) (by show (u.2.1 29 z4.toNatClampNeg).toInt ≤ 400; omega) (by decide)
      refine Tot_gd (inb_t (by omega) (by omega)) ?_
      refine Tot_gd (inb_t (by omega) (by omega)) ?_
      have : 0 ≤ (u13.2.1 30 z4.toNatClampNeg).toInt ∧ (u13.2.1 30 z4.toNatClampNeg).toInt ≤ 400 := hs_u13.1.2.1 30 z4.toNatClampNeg
      refine Tot_lt (fun u17 e_u17 => ?_)
      have hs_u17 : StX mdX6_recall_6 u0 u17 := by rw [e_u17]; exact StX_sA hs_u13 (by decide) (by show 0 ≤ (u13.2.1 30 z4.toNatClampNeg).toInt; omega) (by show (u13.2.1 30 z4.toNatClampNeg).toInt ≤ 400; omega) (by decide)
      have : (z4 + 1).toInt = z4.toInt + (1 : Int) := addc_t (by decide) (by omega) (by omega)
      exact ih (z4 + 1) u17 hs_u17 ⟨by omega, by omega⟩ (by omega)
set_option maxHeartbeats 400000 in
set_option maxRecDepth 10000 in
theorem tLX6_recall_6_110 (u0 : SX)    : ∀ (n : Nat) (z4 : Int32) (u : SX), (StX mdX6_recall_6 u0 u) → (0 ≤ z4.toInt ∧ z4.toInt ≤ 30) → (30 - z4.toInt < (n : Int)) → Tot (LX6_recall_6_110 n z4 u) (qX6_recall_6 u0) := by
  intro n
  induction n with
  | zero =>
    intro z4 u hs_u h0 hm
    exfalso
    omega
  | succ n ih =>
    intro z4 u hs_u h0 hm
    rw [LX6_recall_6_110]
    have : 0 ≤ (u.1 11).toInt ∧ (u.1 11).toInt ≤ 30 := hs_u.1.1 11
    refine Tot_ite (fun c441 => ?_) (fun c441 => ?_)
    · have : (u.1 11).toInt ≤ z4.toInt := leI c441
      exact Tot_some ⟨hs_u, (by show 0 ≤ (0 : Int) ∧ (0 : Int) ≤ 0; omega), trivial⟩
    · have : ¬ (u.1 11).toInt ≤ z4.toInt := nleI c441
      refine Tot_bind (tfX6_apply_6 z4 u hs_u.1 ⟨by omega, by omega⟩) (fun q hq => ?_)
      obtain ⟨r19, u20⟩ := q
      have hc_u20 : StX mdX6_apply_6 u u20 := hq.1
      have hs_u20 : StX mdX6_recall_6 u0 u20 := StX_tr hs_u hc_u20 (by decide)
      have : 0 ≤ r19.toInt ∧ r19.toInt ≤ 0 := hq.2.1
      have : (z4 + 1).toInt = z4.toInt + (1 : Int) := addc_t (by decide) (by omega) (by omega)
      exact ih (z4 + 1) u20 hs_u20 ⟨by omega, by omega⟩ (by omega)
set_option maxHeartbeats 400000 in
set_option maxRecDepth 10000 in
theorem tGX6_recall_6_107 (u0 : SX)     (u : SX) (hs_u : StX mdX6_recall_6 u0 u)  : Tot (GX6_recall_6_107  u) (qX6_recall_6 u0) := by
  unfold GX6_recall_6_107
  exact tLX6_recall_6_110 u0 5000 0 u hs_u (by show 0 ≤ (0 : Int) ∧ (0 : Int) ≤ 30; omega) (by show 30 - (0 : Int) < ((5000 : Nat) : Int); omega)
set_option maxHeartbeats 400000 in
set_option maxRecDepth 10000 in
theorem tGX6_recall_6_51 (u0 : SX)    (z2 : Int32) (z3 : Int32) (u : SX) (hs_u : StX mdX6_recall_6 u0 u) (h0 : 0 ≤ z2.toInt ∧ z2.toInt ≤ 12) (h1 : 0 ≤ z3.toInt ∧ z3.toInt ≤ 30) : Tot (GX6_recall_6_51 z2 z3 u) (qX6_recall_6 u0) := by
  unfold GX6_recall_6_51
  refine Tot_lt (fun u7 e_u7 => ?_)
  have hs_u7 : StX mdX6_recall_6 u0 u7 := by rw [e_u7]; exact StX_sI hs_u (by decide) (by show 0 ≤ z2.toInt; omega) (by show z2.toInt ≤ 12; omega)
  refine Tot_lt (fun u9 e_u9 => ?_)
  have hs_u9 : StX mdX6_recall_6 u0 u9 := by rw [e_u9]; exact StX_sI hs_u7 (by decide) (by show 0 ≤ z3.toInt; omega) (by show z3.toInt ≤ 30; omega)
  exact tLX6_recall_6_64 u0 (tGX6_recall_6_107 u0) 5000 0 u9 hs_u9 (by show 0 ≤ (0 : Int) ∧ (0 : Int) ≤ 12; omega) (by show 12 - (0 : Int) < ((5000 : Nat) : Int); omega)
set_option maxHeartbeats 400000 in
set_option maxRecDepth 10000 in
theorem tfX6_recall_6 (x1 : Int32) (u : SX) (hI : IX u) (h0 : 0 ≤ x1.toInt ∧ x1.toInt ≤ 120) : Tot (fX6_recall_6 x1 u) (qX6_recall_6 u) := by
  unfold fX6_recall_6
  have hs_u : StX mdX6_recall_6 u u := StX_rf hI
  have : 0 ≤ (u.1 8).toInt ∧ (u.1 8).toInt ≤ 12 := hs_u.1.1 8
  have : 0 ≤ (u.1 10).toInt ∧ (u.1 10).toInt ≤ 12 := hs_u.1.1 10
  refine Tot_bind (tfX11_rowsUpTo_a25 x1 (u.1 8) (u.1 10) u hs_u.1 ⟨by omega, by omega⟩ ⟨by omega, by omega⟩ ⟨by omega, by omega⟩) (fun q hq => ?_)
  obtain ⟨r1, u2⟩ := q
  have hc_u2 : StX mdX11_rowsUpTo_a25 u u2 := hq.1
  have hs_u2 : StX mdX6_recall_6 u u2 := StX_tr hs_u hc_u2 (by decide)
  have : 0 ≤ r1.toInt ∧ r1.toInt ≤ 12 := hq.2.1
  have : (u2.1 12).toInt = (u.1 12).toInt := congrArg Int32.toInt (hc_u2.2.1 12 (by decide))
  have : 0 ≤ (u.1 12).toInt ∧ (u.1 12).toInt ≤ 30 := hs_u.1.1 12
  have : (u2.1 11).toInt = (u.1 11).toInt := congrArg Int32.toInt (hc_u2.2.1 11 (by decide))
  have : 0 ≤ (u.1 11).toInt ∧ (u.1 11).toInt ≤ 30 := hs_u.1.1 11
  refine Tot_bind (tfX11_rowsUpTo_a34 x1 (u2.1 12) (u2.1 11) u2 hs_u2.1 ⟨by omega, by omega⟩ ⟨by omega, by omega⟩ ⟨by omega, by omega⟩) (fun q hq => ?_)
  obtain ⟨r4, u5⟩ := q
  have hc_u5 : StX mdX11_rowsUpTo_a34 u2 u5 := hq.1
  have hs_u5 : StX mdX6_recall_6 u u5 := StX_tr hs_u2 hc_u5 (by decide)
  have : 0 ≤ r4.toInt ∧ r4.toInt ≤ 30 := hq.2.1
  have : (u5.1 10).toInt = (u2.1 10).toInt := congrArg Int32.toInt (hc_u5.2.1 10 (by decide))
  have : (u2.1 10).toInt = (u.1 10).toInt := congrArg Int32.toInt (hc_u2.2.1 10 (by decide))
  refine Tot_ite (fun c442 => ?_) (fun c442 => ?_)
  · have : r1.toInt = (u5.1 10).toInt := eqI c442
    have : (u5.1 11).toInt = (u2.1 11).toInt := congrArg Int32.toInt (hc_u5.2.1 11 (by decide))
    refine Tot_ite (fun c443 => ?_) (fun c443 => ?_)
    · have : r4.toInt = (u5.1 11).toInt := eqI c443
      exact Tot_some ⟨hs_u5, (by show 0 ≤ (0 : Int) ∧ (0 : Int) ≤ 0; omega), trivial⟩
    · exact tGX6_recall_6_51 u r1 r4 u5 hs_u5 ⟨by omega, by omega⟩ ⟨by omega, by omega⟩
  · exact tGX6_recall_6_51 u r1 r4 u5 hs_u5 ⟨by omega, by omega⟩ ⟨by omega, by omega⟩

def mdX11_span_0 : MD := ([10, 11], [27, 28], [], [])
abbrev qX11_span_0 (u : SX) (q : Int32 × SX) : Prop := StX mdX11_span_0 u q.2 ∧ ((-1) ≤ q.1.toInt ∧ q.1.toInt ≤ 400) ∧ (True)
set_option maxHeartbeats 400000 in
set_option maxRecDepth 10000 in
theorem tfX11_span_0 (x1 : Int32) (x2 : Int32) (x3 : Int32) (u : SX) (hI : IX u)  : Tot (fX11_span_0 x1 x2 x3 u) (qX11_span_0 u) := by
  unfold fX11_span_0
  have hs_u : StX mdX11_span_0 u u := StX_rf hI
  refine Tot_bind (tfX11_isDay_0 x2 u hs_u.1) (fun q hq => ?_)
  obtain ⟨r1, u2⟩ := q
  have hc_u2 : StX mdX11_isDay_0 u u2 := hq.1
  have hs_u2 : StX mdX11_span_0 u u2 := StX_tr hs_u hc_u2 (by decide)
  have : 0 ≤ r1.toInt ∧ r1.toInt ≤ 1 := hq.2.1
  have : 0 ≤ (u.1 0).toInt ∧ (u.1 0).toInt ≤ 120 := hs_u.1.1 0
  have : r1.toInt ≠ 0 → ((0 : Int) ≤ x2.toInt ∧ x2.toInt ≤ (u.1 0).toInt) := hq.2.2
  refine Tot_ite (fun c444 => ?_) (fun c444 => ?_)
  · have : r1.toInt = (0 : Int) := eqI c444
    exact Tot_some ⟨hs_u2, (by show (-1) ≤ (-1 : Int) ∧ (-1 : Int) ≤ 400; omega), trivial⟩
  · have : ¬ r1.toInt = (0 : Int) := neI c444
    refine Tot_bind (tfX11_isEither x3) (fun r4 hq => ?_)
    have : 0 ≤ r4.toInt ∧ r4.toInt ≤ 1 := hq.1
    have : r4.toInt ≠ 0 → ((0 : Int) ≤ x3.toInt ∧ x3.toInt ≤ (1 : Int)) := hq.2
    refine Tot_ite (fun c445 => ?_) (fun c445 => ?_)
    · have : r4.toInt = (0 : Int) := eqI c445
      exact Tot_some ⟨hs_u2, (by show (-1) ≤ (-1 : Int) ∧ (-1 : Int) ≤ 400; omega), trivial⟩
    · have : ¬ r4.toInt = (0 : Int) := neI c445
      refine Tot_bind (tfX6_has_6 x1 u2 hs_u2.1) (fun q hq => ?_)
      obtain ⟨r7, u8⟩ := q
      have hc_u8 : StX mdX6_has_6 u2 u8 := hq.1
      have hs_u8 : StX mdX11_span_0 u u8 := StX_tr hs_u2 hc_u8 (by decide)
      have : 0 ≤ r7.toInt ∧ r7.toInt ≤ 1 := hq.2.1
      have : (u2.1 8).toInt = (u.1 8).toInt := congrArg Int32.toInt (hc_u2.2.1 8 (by decide))
      have : 0 ≤ (u.1 8).toInt ∧ (u.1 8).toInt ≤ 12 := hs_u.1.1 8
      have : r7.toInt ≠ 0 → ((0 : Int) ≤ x1.toInt ∧ x1.toInt < (u2.1 8).toInt) := hq.2.2
      refine Tot_ite (fun c446 => ?_) (fun c446 => ?_)
      · have : r7.toInt = (0 : Int) := eqI c446
        exact Tot_some ⟨hs_u8, (by show (-1) ≤ (-1 : Int) ∧ (-1 : Int) ≤ 400; omega), trivial⟩
      · have : ¬ r7.toInt = (0 : Int) := neI c446
        refine Tot_gd (inb_t (by omega) (by omega)) ?_
        have : 0 ≤ (u8.2.1 25 x1.toNatClampNeg).toInt ∧ (u8.2.1 25 x1.toNatClampNeg).toInt ≤ 120 := hs_u8.1.2.1 25 x1.toNatClampNeg
        refine Tot_ite (fun c447 => ?_) (fun c447 => ?_)
        · have : (u8.2.1 25 x1.toNatClampNeg).toInt ≤ x2.toInt := leI c447
          refine Tot_bind (tfX6_recall_6 x2 u8 hs_u8.1 ⟨by omega, by omega⟩) (fun q hq => ?_)
          obtain ⟨r11, u12⟩ := q
          have hc_u12 : StX mdX6_recall_6 u8 u12 := hq.1
          have hs_u12 : StX mdX11_span_0 u u12 := StX_tr hs_u8 hc_u12 (by decide)
          have : 0 ≤ r11.toInt ∧ r11.toInt ≤ 0 := hq.2.1
          refine Tot_ite (fun c448 => ?_) (fun c448 => ?_)
          · have : x3.toInt = (0 : Int) := eqI c448
            refine Tot_gd (inb_t (by omega) (by omega)) ?_
            have : 0 ≤ (u12.2.1 27 x1.toNatClampNeg).toInt ∧ (u12.2.1 27 x1.toNatClampNeg).toInt ≤ 400 := hs_u12.1.2.1 27 x1.toNatClampNeg
            exact Tot_some ⟨hs_u12, (by show (-1) ≤ (u12.2.1 27 x1.toNatClampNeg).toInt ∧ (u12.2.1 27 x1.toNatClampNeg).toInt ≤ 400; omega), trivial⟩
          · have : ¬ x3.toInt = (0 : Int) := neI c448
            refine Tot_gd (inb_t (by omega) (by omega)) ?_
            have : 0 ≤ (u12.2.1 28 x1.toNatClampNeg).toInt ∧ (u12.2.1 28 x1.toNatClampNeg).toInt ≤ 400 := hs_u12.1.2.1 28 x1.toNatClampNeg
            exact Tot_some ⟨hs_u12, (by show (-1) ≤ (u12.2.1 28 x1.toNatClampNeg).toInt ∧ (u12.2.1 28 x1.toNatClampNeg).toInt ≤ 400; omega), trivial⟩
        · have : ¬ (u8.2.1 25 x1.toNatClampNeg).toInt ≤ x2.toInt := nleI c447
          exact Tot_some ⟨hs_u8, (by show (-1) ≤ (-1 : Int) ∧ (-1 : Int) ≤ 400; omega), trivial⟩

abbrev qX11_seasonOf (q : Int32) : Prop := (0 ≤ q.toInt ∧ q.toInt ≤ 3) ∧ (True)
set_option maxHeartbeats 400000 in
set_option maxRecDepth 10000 in
theorem tfX11_seasonOf (x0 : Int32) (h0 : 0 ≤ x0.toInt ∧ x0.toInt ≤ 120) : Tot (fX11_seasonOf x0) (qX11_seasonOf ) := by
  unfold fX11_seasonOf
  refine Tot_gd (by decide) ?_
  refine Tot_gd (by decide) ?_
  have : (x0 / 30).toInt = x0.toInt / 30 := divc_t (by decide) (by omega) (by decide)
  have : ((x0 / 30) / 4).toInt = (x0 / 30).toInt / 4 := divc_t (by decide) (by omega) (by decide)
  have : (((x0 / 30) / 4) * 4).toInt = ((x0 / 30) / 4).toInt * 4 := mulc_t (by decide) (by omega) (by omega)
  have : ((x0 / 30) - (((x0 / 30) / 4) * 4)).toInt = (x0 / 30).toInt - (((x0 / 30) / 4) * 4).toInt := sub_t (by omega) (by omega)
  exact Tot_some ⟨(by show 0 ≤ ((x0 / 30) - (((x0 / 30) / 4) * 4)).toInt ∧ ((x0 / 30) - (((x0 / 30) / 4) * 4)).toInt ≤ 3; omega), trivial⟩

abbrev qX11_shine (q : Int32) : Prop := (True) ∧ (True)
set_option maxHeartbeats 400000 in
set_option maxRecDepth 10000 in
theorem tfX11_shine (x0 : Int32) (x1 : Int32) (h0 : 0 ≤ x0.toInt ∧ x0.toInt ≤ 400) : Tot (fX11_shine x0 x1) (qX11_shine ) := by
  unfold fX11_shine
  refine Tot_gd (by decide) ?_
  exact Tot_some ⟨trivial, trivial⟩

def mdX11_trueSum_0 : MD := ([], [17], [], [])
abbrev qX11_trueSum_0 (u : SX) (q : Int32 × SX) : Prop := StX mdX11_trueSum_0 u q.2 ∧ (True) ∧ (True)
set_option maxHeartbeats 400000 in
set_option maxRecDepth 10000 in
theorem tLX11_trueSum_0_4 (u0 : SX)    : ∀ (n : Nat) (z1 : Int32) (z2 : Int32) (u : SX), (StX mdX11_trueSum_0 u0 u) → (0 ≤ z2.toInt ∧ z2.toInt ≤ 12) → (12 - z2.toInt < (n : Int)) → Tot (LX11_trueSum_0_4 n z1 z2 u) (qX11_trueSum_0 u0) := by
  intro n
  induction n with
  | zero =>
    intro z1 z2 u hs_u h0 hm
    exfalso
    omega
  | succ n ih =>
    intro z1 z2 u hs_u h0 hm
    rw [LX11_trueSum_0_4]
    have : 0 ≤ (u.1 8).toInt ∧ (u.1 8).toInt ≤ 12 := hs_u.1.1 8
    refine Tot_ite (fun c449 => ?_) (fun c449 => ?_)
    · have : (u.1 8).toInt ≤ z2.toInt := leI c449
      exact Tot_some ⟨hs_u, trivial, trivial⟩
    · have : ¬ (u.1 8).toInt ≤ z2.toInt := nleI c449
      refine Tot_gd (inb_t (by omega) (by omega)) ?_
      refine Tot_gd (inb_t (by omega) (by omega)) ?_
      have : 0 ≤ (u.2.1 24 z2.toNatClampNeg).toInt ∧ (u.2.1 24 z2.toNatClampNeg).toInt ≤ 11 := hs_u.1.2.1 24 z2.toNatClampNeg
      refine Tot_bind (tfX8_ask_3 (u.2.1 24 z2.toNatClampNeg) u hs_u.1 ⟨by omega, by omega⟩) (fun q hq => ?_)
      obtain ⟨r3, u4⟩ := q
      have hc_u4 : StX mdX8_ask_3 u u4 := hq.1
      have hs_u4 : StX mdX11_trueSum_0 u0 u4 := StX_tr hs_u hc_u4 (by decide)
      have : 0 ≤ (u.2.1 26 z2.toNatClampNeg).toInt ∧ (u.2.1 26 z2.toNatClampNeg).toInt ≤ 400 := hs_u.1.2.1 26 z2.toNatClampNeg
      refine Tot_bind (tfX11_shine (u.2.1 26 z2.toNatClampNeg) r3 ⟨by omega, by omega⟩) (fun r6 hq => ?_)
      refine Tot_lt (fun v9 e_v9 => ?_)
      have : (z2 + 1).toInt = z2.toInt + (1 : Int) := addc_t (by decide) (by omega) (by omega)
      exact ih v9 (z2 + 1) u4 hs_u4 ⟨by omega, by omega⟩ (by omega)
set_option maxHeartbeats 400000 in
set_option maxRecDepth 10000 in
theorem tfX11_trueSum_0  (u : SX) (hI : IX u)  : Tot (fX11_trueSum_0  u) (qX11_trueSum_0 u) := by
  unfold fX11_trueSum_0
  have hs_u : StX mdX11_trueSum_0 u u := StX_rf hI
  exact tLX11_trueSum_0_4 u 5000 0 0 u hs_u (by show 0 ≤ (0 : Int) ∧ (0 : Int) ≤ 12; omega) (by show 12 - (0 : Int) < ((5000 : Nat) : Int); omega)

def mdX11_sum_0 : MD := ([], [16, 17], [], [])
abbrev qX11_sum_0 (u : SX) (q : Int32 × SX) : Prop := StX mdX11_sum_0 u q.2 ∧ (True) ∧ (True)
set_option maxHeartbeats 400000 in
set_option maxRecDepth 10000 in
theorem tfX11_sum_0 (x1 : Int32) (x2 : Int32) (x3 : Int32) (x4 : Int32) (x5 : Int32) (x6 : Int32) (u : SX) (hI : IX u)  : Tot (fX11_sum_0 x1 x2 x3 x4 x5 x6 u) (qX11_sum_0 u) := by
  unfold fX11_sum_0
  have hs_u : StX mdX11_sum_0 u u := StX_rf hI
  refine Tot_bind (tfX11_within x1 0 120) (fun r1 hq => ?_)
  have : 0 ≤ r1.toInt ∧ r1.toInt ≤ 1 := hq.1
  have : r1.toInt ≠ 0 → ((0 : Int) ≤ x1.toInt ∧ x1.toInt ≤ (120 : Int)) := hq.2
  refine Tot_ite (fun c450 => ?_) (fun c450 => ?_)
  · have : r1.toInt = (0 : Int) := eqI c450
    exact Tot_some ⟨hs_u, trivial, trivial⟩
  · have : ¬ r1.toInt = (0 : Int) := neI c450
    refine Tot_bind (tfX11_isAim x2 x3 x4 x5 x6) (fun r4 hq => ?_)
    have : 0 ≤ r4.toInt ∧ r4.toInt ≤ 1 := hq.1
    have : r4.toInt ≠ 0 → ((0 : Int) ≤ x2.toInt ∧ x2.toInt ≤ (15 : Int) ∧ (0 : Int) ≤ x3.toInt ∧ x3.toInt ≤ (9 : Int) ∧ (0 : Int) ≤ x4.toInt ∧ x4.toInt ≤ (23 : Int) ∧ (0 : Int) ≤ x5.toInt ∧ x5.toInt ≤ (9 : Int) ∧ (1 : Int) ≤ x6.toInt ∧ x6.toInt ≤ (40 : Int)) := hq.2
    refine Tot_ite (fun c451 => ?_) (fun c451 => ?_)
    · have : r4.toInt = (0 : Int) := eqI c451
      exact Tot_some ⟨hs_u, trivial, trivial⟩
    · have : ¬ r4.toInt = (0 : Int) := neI c451
      refine Tot_bind (tfX11_seasonOf x1 ⟨by omega, by omega⟩) (fun r7 hq => ?_)
      have : 0 ≤ r7.toInt ∧ r7.toInt ≤ 3 := hq.1
      refine Tot_bind (tfX8_setAim_3 x2 x3 x4 r7 x5 x6 u hs_u.1 ⟨by omega, by omega⟩ ⟨by omega, by omega⟩ ⟨by omega, by omega⟩ ⟨by omega, by omega⟩ ⟨by omega, by omega⟩ ⟨by omega, by omega⟩) (fun q hq => ?_)
      obtain ⟨r10, u11⟩ := q
      have hc_u11 : StX mdX8_setAim_3 u u11 := hq.1
      have hs_u11 : StX mdX11_sum_0 u u11 := StX_tr hs_u hc_u11 (by decide)
      have : 0 ≤ r10.toInt ∧ r10.toInt ≤ 0 := hq.2.1
      refine Tot_bind (tfX11_trueSum_0 u11 hs_u11.1) (fun q hq => ?_)
      obtain ⟨r13, u14⟩ := q
      have hc_u14 : StX mdX11_trueSum_0 u11 u14 := hq.1
      have hs_u14 : StX mdX11_sum_0 u u14 := StX_tr hs_u11 hc_u14 (by decide)
      exact Tot_some ⟨hs_u14, trivial, trivial⟩

def mdX11_heard_0 : MD := ([], [16, 17], [], [])
abbrev qX11_heard_0 (u : SX) (q : Int32 × SX) : Prop := StX mdX11_heard_0 u q.2 ∧ (True) ∧ (True)
set_option maxHeartbeats 400000 in
set_option maxRecDepth 10000 in
theorem tfX11_heard_0 (x1 : Int32) (x2 : Int32) (x3 : Int32) (x4 : Int32) (x5 : Int32) (x6 : Int32) (x7 : Int64) (u : SX) (hI : IX u)  : Tot (fX11_heard_0 x1 x2 x3 x4 x5 x6 x7 u) (qX11_heard_0 u) := by
  unfold fX11_heard_0
  have hs_u : StX mdX11_heard_0 u u := StX_rf hI
  refine Tot_bind (tfX11_isAim x1 x2 x3 x4 x5) (fun r1 hq => ?_)
  have : 0 ≤ r1.toInt ∧ r1.toInt ≤ 1 := hq.1
  have : r1.toInt ≠ 0 → ((0 : Int) ≤ x1.toInt ∧ x1.toInt ≤ (15 : Int) ∧ (0 : Int) ≤ x2.toInt ∧ x2.toInt ≤ (9 : Int) ∧ (0 : Int) ≤ x3.toInt ∧ x3.toInt ≤ (23 : Int) ∧ (0 : Int) ≤ x4.toInt ∧ x4.toInt ≤ (9 : Int) ∧ (1 : Int) ≤ x5.toInt ∧ x5.toInt ≤ (40 : Int)) := hq.2
  refine Tot_ite (fun c452 => ?_) (fun c452 => ?_)
  · have : r1.toInt = (0 : Int) := eqI c452
    exact Tot_some ⟨hs_u, trivial, trivial⟩
  · have : ¬ r1.toInt = (0 : Int) := neI c452
    refine Tot_bind (tfX11_within x6 0 50) (fun r4 hq => ?_)
    have : 0 ≤ r4.toInt ∧ r4.toInt ≤ 1 := hq.1
    have : r4.toInt ≠ 0 → ((0 : Int) ≤ x6.toInt ∧ x6.toInt ≤ (50 : Int)) := hq.2
    refine Tot_ite (fun c453 => ?_) (fun c453 => ?_)
    · have : r4.toInt = (0 : Int) := eqI c453
      exact Tot_some ⟨hs_u, trivial, trivial⟩
    · have : ¬ r4.toInt = (0 : Int) := neI c453
      have : 0 ≤ (u.1 0).toInt ∧ (u.1 0).toInt ≤ 120 := hs_u.1.1 0
      refine Tot_bind (tfX11_seasonOf (u.1 0) ⟨by omega, by omega⟩) (fun r7 hq => ?_)
      have : 0 ≤ r7.toInt ∧ r7.toInt ≤ 3 := hq.1
      refine Tot_bind (tfX8_setAim_3 x1 x2 x3 r7 x4 x5 u hs_u.1 ⟨by omega, by omega⟩ ⟨by omega, by omega⟩ ⟨by omega, by omega⟩ ⟨by omega, by omega⟩ ⟨by omega, by omega⟩ ⟨by omega, by omega⟩) (fun q hq => ?_)
      obtain ⟨r10, u11⟩ := q
      have hc_u11 : StX mdX8_setAim_3 u u11 := hq.1
      have hs_u11 : StX mdX11_heard_0 u u11 := StX_tr hs_u hc_u11 (by decide)
      have : 0 ≤ r10.toInt ∧ r10.toInt ≤ 0 := hq.2.1
      refine Tot_lt (fun v13 e_v13 => ?_)
      refine Tot_bind (tfX11_trueSum_0 u11 hs_u11.1) (fun q hq => ?_)
      obtain ⟨r15, u16⟩ := q
      have hc_u16 : StX mdX11_trueSum_0 u11 u16 := hq.1
      have hs_u16 : StX mdX11_heard_0 u u16 := StX_tr hs_u11 hc_u16 (by decide)
      have : (2 * x6).toInt = 2 * x6.toInt := cmul_t (by decide) (by omega) (by omega)
      have : ((2 * x6) + 1).toInt = (2 * x6).toInt + (1 : Int) := addc_t (by decide) (by omega) (by omega)
      refine Tot_gd (nzL_t (by omega)) ?_
      exact Tot_some ⟨hs_u16, trivial, trivial⟩

def mdX7_add_7 : MD := ([13], [36, 37, 40], [], [])
abbrev qX7_add_7 (u : SX) (q : Int32 × SX) : Prop := StX mdX7_add_7 u q.2 ∧ ((-1) ≤ q.1.toInt ∧ q.1.toInt ≤ 79) ∧ (True)
set_option maxHeartbeats 400000 in
set_option maxRecDepth 10000 in
theorem tfX7_add_7 (x1 : Int32) (x2 : Int32) (u : SX) (hI : IX u) (h0 : (-100000) ≤ x1.toInt ∧ x1.toInt ≤ 100000) (h1 : 0 ≤ x2.toInt ∧ x2.toInt ≤ 120) : Tot (fX7_add_7 x1 x2 u) (qX7_add_7 u) := by
  unfold fX7_add_7
  have hs_u : StX mdX7_add_7 u u := StX_rf hI
  have : 0 ≤ (u.1 13).toInt ∧ (u.1 13).toInt ≤ 80 := hs_u.1.1 13
  refine Tot_ite (fun c454 => ?_) (fun c454 => ?_)
  · have : (u.1 13).toInt < (80 : Int) := ltI c454
    have : ((u.1 13) * 6).toInt = (u.1 13).toInt * 6 := mulc_t (by decide) (by omega) (by omega)
    refine Tot_gd (cpok_t (by show 0 ≤ (0 : Int); omega) (by show 0 ≤ ((u.1 13) * 6).toInt; omega) (by show 0 ≤ (6 : Int); omega) (by show (0 : Int) + (6 : Int) ≤ ((6 : Nat) : Int); omega) (by show ((u.1 13) * 6).toInt + (6 : Int) ≤ ((480 : Nat) : Int); omega)) ?_
    refine Tot_lt (fun u2 e_u2 => ?_)
    have hs_u2 : StX mdX7_add_7 u u2 := by rw [e_u2]; exact StX_cpy hs_u (by decide) (by decide) (by decide) (by decide)
    have : (u2.1 13).toInt = (u.1 13).toInt := by rw [e_u2]; rfl
    refine Tot_gd (inb_t (by omega) (by omega)) ?_
    refine Tot_lt (fun u5 e_u5 => ?_)
    have hs_u5 : StX mdX7_add_7 u u5 := by rw [e_u5]; exact StX_sA hs_u2 (by decide) (by show (-100000) ≤ x1.toInt; omega) (by show x1.toInt ≤ 100000; omega) (by decide)
    have : (u5.1 13).toInt = (u2.1 13).toInt := by rw [e_u5]; rfl
    refine Tot_gd (inb_t (by omega) (by omega)) ?_
    refine Tot_lt (fun u8 e_u8 => ?_)
    have hs_u8 : StX mdX7_add_7 u u8 := by rw [e_u8]; exact StX_sA hs_u5 (by decide) (by show 0 ≤ x2.toInt; omega) (by show x2.toInt ≤ 120; omega) (by decide)
    have : (u8.1 13).toInt = (u5.1 13).toInt := by rw [e_u8]; rfl
    have : ((u8.1 13) + 1).toInt = (u8.1 13).toInt + (1 : Int) := addc_t (by decide) (by omega) (by omega)
    refine Tot_lt (fun u10 e_u10 => ?_)
    have hs_u10 : StX mdX7_add_7 u u10 := by rw [e_u10]; exact StX_sI hs_u8 (by decide) (by show 0 ≤ ((u8.1 13) + 1).toInt; omega) (by show ((u8.1 13) + 1).toInt ≤ 80; omega)
    have : (u10.1 13).toInt = ((u8.1 13) + 1).toInt := by rw [e_u10]; rfl
    have : ((u10.1 13) - 1).toInt = (u10.1 13).toInt - (1 : Int) := subc_t (by decide) (by omega) (by omega)
    exact Tot_some ⟨hs_u10, (by show (-1) ≤ ((u10.1 13) - 1).toInt ∧ ((u10.1 13) - 1).toInt ≤ 79; omega), trivial⟩
  · have : ¬ (u.1 13).toInt < (80 : Int) := nltI c454
    exact Tot_some ⟨hs_u, (by show (-1) ≤ (-1 : Int) ∧ (-1 : Int) ≤ 79; omega), trivial⟩
