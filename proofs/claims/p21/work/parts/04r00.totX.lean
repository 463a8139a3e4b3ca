abbrev qX11_within (x0 : Int32) (x1 : Int32) (x2 : Int32) (q : Int32) : Prop := (0 ≤ q.toInt ∧ q.toInt ≤ 1) ∧ ((q.toInt ≠ 0 → (x1.toInt ≤ x0.toInt ∧ x0.toInt ≤ x2.toInt)))
set_option maxHeartbeats 400000 in
set_option maxRecDepth 10000 in
theorem tfX11_within (x0 : Int32) (x1 : Int32) (x2 : Int32)  : Tot (fX11_within x0 x1 x2) (qX11_within x0 x1 x2 ) := by
  unfold fX11_within
  refine Tot_ite (fun c1 => ?_) (fun c1 => ?_)
  · have : x0.toInt < x1.toInt := ltI c1
    refine Tot_gd (by decide) ?_
    exact Tot_some ⟨(by show 0 ≤ (0 : Int) ∧ (0 : Int) ≤ 1; omega), (by show (0 : Int) ≠ 0 → (x1.toInt ≤ x0.toInt ∧ x0.toInt ≤ x2.toInt); omega)⟩
  · have : ¬ x0.toInt < x1.toInt := nltI c1
    refine Tot_ite (fun c2 => ?_) (fun c2 => ?_)
    · have : x2.toInt < x0.toInt := ltI c2
      refine Tot_gd (by decide) ?_
      exact Tot_some ⟨(by show 0 ≤ (0 : Int) ∧ (0 : Int) ≤ 1; omega), (by show (0 : Int) ≠ 0 → (x1.toInt ≤ x0.toInt ∧ x0.toInt ≤ x2.toInt); omega)⟩
    · have : ¬ x2.toInt < x0.toInt := nltI c2
      refine Tot_gd (by decide) ?_
      exact Tot_some ⟨(by show 0 ≤ (1 : Int) ∧ (1 : Int) ≤ 1; omega), (by show (1 : Int) ≠ 0 → (x1.toInt ≤ x0.toInt ∧ x0.toInt ≤ x2.toInt); omega)⟩

def mdX11_days_0 : MD := ([0], [], [], [])
abbrev qX11_days_0 (u : SX) (q : Int32 × SX) : Prop := StX mdX11_days_0 u q.2 ∧ ((-1) ≤ q.1.toInt ∧ q.1.toInt ≤ 120) ∧ (True)
set_option maxHeartbeats 400000 in
set_option maxRecDepth 10000 in
theorem tfX11_days_0 (x1 : Int32) (u : SX) (hI : IX u)  : Tot (fX11_days_0 x1 u) (qX11_days_0 u) := by
  unfold fX11_days_0
  have hs_u : StX mdX11_days_0 u u := StX_rf hI
  refine Tot_bind (tfX11_within x1 0 60) (fun r1 hq => ?_)
  have : 0 ≤ r1.toInt ∧ r1.toInt ≤ 1 := hq.1
  have : r1.toInt ≠ 0 → ((0 : Int) ≤ x1.toInt ∧ x1.toInt ≤ (60 : Int)) := hq.2
  refine Tot_ite (fun c3 => ?_) (fun c3 => ?_)
  · have : r1.toInt = (0 : Int) := eqI c3
    exact Tot_some ⟨hs_u, (by show (-1) ≤ (-1 : Int) ∧ (-1 : Int) ≤ 120; omega), trivial⟩
  · have : ¬ r1.toInt = (0 : Int) := neI c3
    have : 0 ≤ (u.1 0).toInt ∧ (u.1 0).toInt ≤ 120 := hs_u.1.1 0
    have : ((u.1 0) + x1).toInt = (u.1 0).toInt + x1.toInt := add_t (by omega) (by omega)
    refine Tot_ite (fun c4 => ?_) (fun c4 => ?_)
    · have : ((u.1 0) + x1).toInt ≤ (120 : Int) := leI c4
      refine Tot_lt (fun u4 e_u4 => ?_)
      have hs_u4 : StX mdX11_days_0 u u4 := by rw [e_u4]; exact StX_sI hs_u (by decide) (by show 0 ≤ ((u.1 0) + x1).toInt; omega) (by show ((u.1 0) + x1).toInt ≤ 120; omega)
      have : (u4.1 0).toInt = ((u.1 0) + x1).toInt := by rw [e_u4]; rfl
      exact Tot_some ⟨hs_u4, (by show (-1) ≤ (u4.1 0).toInt ∧ (u4.1 0).toInt ≤ 120; omega), trivial⟩
    · have : ¬ ((u.1 0) + x1).toInt ≤ (120 : Int) := nleI c4
      exact Tot_some ⟨hs_u, (by show (-1) ≤ (-1 : Int) ∧ (-1 : Int) ≤ 120; omega), trivial⟩

abbrev qX9_bytesOf (q : Int32) : Prop := (True) ∧ (True)
set_option maxHeartbeats 400000 in
set_option maxRecDepth 10000 in
theorem tGX9_bytesOf_22 (g5 : Int) {k5 : Int32 → Int32 → Int32 → Option Int32} (hk5 : ∀ (z0 : Int32) (z1 : Int32) (z2 : Int32), ((-8) ≤ z2.toInt ∧ z2.toInt ≤ 24) → (z2.toInt < g5) → Tot (k5 z0 z1 z2) (qX9_bytesOf )) (z0 : Int32) (z1 : Int32) (z2 : Int32) (h0 : 0 ≤ z2.toInt ∧ z2.toInt ≤ 24) (h1 : z2.toInt ≤ g5) : Tot (GX9_bytesOf_22 k5 z0 z1 z2) (qX9_bytesOf ) := by
  unfold GX9_bytesOf_22
  have : (z2 + (-8)).toInt = z2.toInt + (-8 : Int) := addc_t (by decide) (by omega) (by omega)
  exact hk5 z0 z1 (z2 + (-8)) ⟨by omega, by omega⟩ (by omega)
set_option maxHeartbeats 400000 in
set_option maxRecDepth 10000 in
theorem tLX9_bytesOf_5    : ∀ (n : Nat) (z0 : Int32) (z1 : Int32) (z2 : Int32), ((-8) ≤ z2.toInt ∧ z2.toInt ≤ 24) → (z2.toInt - (-8) < (n : Int)) → Tot (LX9_bytesOf_5 n z0 z1 z2) (qX9_bytesOf ) := by
  intro n
  induction n with
  | zero =>
    intro z0 z1 z2 h0 hm
    exfalso
    omega
  | succ n ih =>
    intro z0 z1 z2 h0 hm
    rw [LX9_bytesOf_5]
    refine Tot_ite (fun c5 => ?_) (fun c5 => ?_)
    · have : z2.toInt < (0 : Int) := ltI c5
      exact Tot_some ⟨trivial, trivial⟩
    · have : ¬ z2.toInt < (0 : Int) := nltI c5
      have := and255_t (((z0.toUInt32 >>> (z2.toUInt32 &&& (Int32.toUInt32 31)))).toInt32)
      refine Tot_ite (fun c6 => ?_) (fun c6 => ?_)
      · have : (((z0.toUInt32 >>> (z2.toUInt32 &&& (Int32.toUInt32 31)))).toInt32 &&& 255).toInt = (0 : Int) := eqI c6
        exact tGX9_bytesOf_22 (z2.toInt) (fun a7 a8 a9 p10 p11 => ih a7 a8 a9 p10 (by omega)) z0 z1 z2 ⟨by omega, by omega⟩ (by omega)
      · have : ¬ (((z0.toUInt32 >>> (z2.toUInt32 &&& (Int32.toUInt32 31)))).toInt32 &&& 255).toInt = (0 : Int) := neI c6
        exact tGX9_bytesOf_22 (z2.toInt) (fun a12 a13 a14 p15 p16 => ih a12 a13 a14 p15 (by omega)) z0 (z1 + 1) z2 ⟨by omega, by omega⟩ (by omega)
set_option maxHeartbeats 400000 in
set_option maxRecDepth 10000 in
theorem tfX9_bytesOf (x0 : Int32)  : Tot (fX9_bytesOf x0) (qX9_bytesOf ) := by
  unfold fX9_bytesOf
  exact tLX9_bytesOf_5  5000 x0 0 24 (by show (-8) ≤ (24 : Int) ∧ (24 : Int) ≤ 24; omega) (by show (24 : Int) - (-8) < ((5000 : Nat) : Int); omega)

def mdX9_append_1 : MD := ([1], [13], [], [])
abbrev qX9_append_1 (u : SX) (q : Int32 × SX) : Prop := StX mdX9_append_1 u q.2 ∧ (0 ≤ q.1.toInt ∧ q.1.toInt ≤ 0) ∧ (True)
set_option maxHeartbeats 400000 in
set_option maxRecDepth 10000 in
theorem tGX9_append_1_48 (u0 : SX) (g3 : Int) {k3 : Int32 → Int32 → SX → Option (Int32 × SX)} (hk3 : ∀ (z1 : Int32) (z2 : Int32) (u : SX), (StX mdX9_append_1 u0 u) → ((-8) ≤ z2.toInt ∧ z2.toInt ≤ 24) → (z2.toInt < g3) → Tot (k3 z1 z2 u) (qX9_append_1 u0)) (z1 : Int32) (z2 : Int32) (u : SX) (hs_u : StX mdX9_append_1 u0 u) (h0 : 0 ≤ z2.toInt ∧ z2.toInt ≤ 24) (h1 : z2.toInt ≤ g3) : Tot (GX9_append_1_48 k3 z1 z2 u) (qX9_append_1 u0) := by
  unfold GX9_append_1_48
  have : (z2 + (-8)).toInt = z2.toInt + (-8 : Int) := addc_t (by decide) (by omega) (by omega)
  exact hk3 z1 (z2 + (-8)) u hs_u ⟨by omega, by omega⟩ (by omega)
set_option maxHeartbeats 400000 in
set_option maxRecDepth 10000 in
theorem tLX9_append_1_3 (u0 : SX)    : ∀ (n : Nat) (z1 : Int32) (z2 : Int32) (u : SX), (StX mdX9_append_1 u0 u) → ((-8) ≤ z2.toInt ∧ z2.toInt ≤ 24) → (z2.toInt - (-8) < (n : Int)) → Tot (LX9_append_1_3 n z1 z2 u) (qX9_append_1 u0) := by
  intro n
  induction n with
  | zero =>
    intro z1 z2 u hs_u h0 hm
    exfalso
    omega
  | succ n ih =>
    intro z1 z2 u hs_u h0 hm
    rw [LX9_append_1_3]
    refine Tot_ite (fun c17 => ?_) (fun c17 => ?_)
    · have : z2.toInt < (0 : Int) := ltI c17
      exact Tot_some ⟨hs_u, (by show 0 ≤ (0 : Int) ∧ (0 : Int) ≤ 0; omega), trivial⟩
    · have : ¬ z2.toInt < (0 : Int) := nltI c17
      have := and255_t (((z1.toUInt32 >>> (z2.toUInt32 &&& (Int32.toUInt32 31)))).toInt32)
      refine Tot_lt (fun v1 e_v1 => ?_)
      have : v1.toInt = (((z1.toUInt32 >>> (z2.toUInt32 &&& (Int32.toUInt32 31)))).toInt32 &&& 255).toInt := congrArg Int32.toInt e_v1
      refine Tot_ite (fun c18 => ?_) (fun c18 => ?_)
      · have : v1.toInt = (0 : Int) := eqI c18
        exact tGX9_append_1_48 u0 (z2.toInt) (fun a19 a20 w21 hw21 p22 p23 => ih a19 a20 w21 hw21 p22 (by omega)) z1 z2 u hs_u ⟨by omega, by omega⟩ (by omega)
      · have : ¬ v1.toInt = (0 : Int) := neI c18
        have : 0 ≤ (u.1 1).toInt ∧ (u.1 1).toInt ≤ 120 := hs_u.1.1 1
        refine Tot_ite (fun c24 => ?_) (fun c24 => ?_)
        · have : (120 : Int) ≤ (u.1 1).toInt := leI c24
          exact tGX9_append_1_48 u0 (z2.toInt) (fun a25 a26 w27 hw27 p28 p29 => ih a25 a26 w27 hw27 p28 (by omega)) z1 z2 u hs_u ⟨by omega, by omega⟩ (by omega)
        · have : ¬ (120 : Int) ≤ (u.1 1).toInt := nleI c24
          refine Tot_gd (inb_t (by omega) (by omega)) ?_
          refine Tot_lt (fun u4 e_u4 => ?_)
          have hs_u4 : StX mdX9_append_1 u0 u4 := by rw [e_u4]; exact StX_sA hs_u (by decide) (by show 0 ≤ v1.toInt; omega) (by show v1.toInt ≤ 255; omega) (by decide)
          have : (u4.1 1).toInt = (u.1 1).toInt := by rw [e_u4]; rfl
          have : ((u4.1 1) + 1).toInt = (u4.1 1).toInt + (1 : Int) := addc_t (by decide) (by omega) (by omega)
          refine Tot_lt (fun u6 e_u6 => ?_)
          have hs_u6 : StX mdX9_append_1 u0 u6 := by rw [e_u6]; exact StX_sI hs_u4 (by decide) (by show 0 ≤ ((u4.1 1) + 1).toInt; omega) (by show ((u4.1 1) + 1).toInt ≤ 120; omega)
          exact tGX9_append_1_48 u0 (z2.toInt) (fun a30 a31 w32 hw32 p33 p34 => ih a30 a31 w32 hw32 p33 (by omega)) z1 z2 u6 hs_u6 ⟨by omega, by omega⟩ (by omega)
set_option maxHeartbeats 400000 in
set_option maxRecDepth 10000 in
theorem tfX9_append_1 (x1 : Int32) (u : SX) (hI : IX u)  : Tot (fX9_append_1 x1 u) (qX9_append_1 u) := by
  unfold fX9_append_1
  have hs_u : StX mdX9_append_1 u u := StX_rf hI
  exact tLX9_append_1_3 u 5000 x1 24 u hs_u (by show (-8) ≤ (24 : Int) ∧ (24 : Int) ≤ 24; omega) (by show (24 : Int) - (-8) < ((5000 : Nat) : Int); omega)

def mdX11_feed_0 : MD := ([1], [13], [], [])
abbrev qX11_feed_0 (u : SX) (q : Int32 × SX) : Prop := StX mdX11_feed_0 u q.2 ∧ ((-1) ≤ q.1.toInt ∧ q.1.toInt ≤ 120) ∧ (True)
set_option maxHeartbeats 400000 in
set_option maxRecDepth 10000 in
theorem tfX11_feed_0 (x1 : Int32) (x2 : Int32) (x3 : Int32) (x4 : Int32) (x5 : Int32) (u : SX) (hI : IX u)  : Tot (fX11_feed_0 x1 x2 x3 x4 x5 u) (qX11_feed_0 u) := by
  unfold fX11_feed_0
  have hs_u : StX mdX11_feed_0 u u := StX_rf hI
  refine Tot_bind (tfX9_bytesOf x1) (fun r1 hq => ?_)
  refine Tot_bind (tfX9_bytesOf x2) (fun r4 hq => ?_)
  refine Tot_bind (tfX9_bytesOf x3) (fun r7 hq => ?_)
  refine Tot_bind (tfX9_bytesOf x4) (fun r10 hq => ?_)
  refine Tot_bind (tfX9_bytesOf x5) (fun r13 hq => ?_)
  refine Tot_lt (fun v16 e_v16 => ?_)
  have : 0 ≤ (u.1 1).toInt ∧ (u.1 1).toInt ≤ 120 := hs_u.1.1 1
  refine Tot_ite (fun c35 => ?_) (fun c35 => ?_)
  · have : ((u.1 1) + v16).toInt ≤ (120 : Int) := leI c35
    refine Tot_bind (tfX9_append_1 x1 u hs_u.1) (fun q hq => ?_)
    obtain ⟨r18, u19⟩ := q
    have hc_u19 : StX mdX9_append_1 u u19 := hq.1
    have hs_u19 : StX mdX11_feed_0 u u19 := StX_tr hs_u hc_u19 (by decide)
    have : 0 ≤ r18.toInt ∧ r18.toInt ≤ 0 := hq.2.1
    refine Tot_bind (tfX9_append_1 x2 u19 hs_u19.1) (fun q hq => ?_)
    obtain ⟨r21, u22⟩ := q
    have hc_u22 : StX mdX9_append_1 u19 u22 := hq.1
    have hs_u22 : StX mdX11_feed_0 u u22 := StX_tr hs_u19 hc_u22 (by decide)
    have : 0 ≤ r21.toInt ∧ r21.toInt ≤ 0 := hq.2.1
    refine Tot_bind (tfX9_append_1 x3 u22 hs_u22.1) (fun q hq => ?_)
    obtain ⟨r24, u25⟩ := q
    have hc_u25 : StX mdX9_append_1 u22 u25 := hq.1
    have hs_u25 : StX mdX11_feed_0 u u25 := StX_tr hs_u22 hc_u25 (by decide)
    have : 0 ≤ r24.toInt ∧ r24.toInt ≤ 0 := hq.2.1
    refine Tot_bind (tfX9_append_1 x4 u25 hs_u25.1) (fun q hq => ?_)
    obtain ⟨r27, u28⟩ := q
    have hc_u28 : StX mdX9_append_1 u25 u28 := hq.1
    have hs_u28 : StX mdX11_feed_0 u u28 := StX_tr hs_u25 hc_u28 (by decide)
    have : 0 ≤ r27.toInt ∧ r27.toInt ≤ 0 := hq.2.1
    refine Tot_bind (tfX9_append_1 x5 u28 hs_u28.1) (fun q hq => ?_)
    obtain ⟨r30, u31⟩ := q
    have hc_u31 : StX mdX9_append_1 u28 u31 := hq.1
    have hs_u31 : StX mdX11_feed_0 u u31 := StX_tr hs_u28 hc_u31 (by decide)
    have : 0 ≤ r30.toInt ∧ r30.toInt ≤ 0 := hq.2.1
    have : 0 ≤ (u31.1 1).toInt ∧ (u31.1 1).toInt ≤ 120 := hs_u31.1.1 1
    exact Tot_some ⟨hs_u31, (by show (-1) ≤ (u31.1 1).toInt ∧ (u31.1 1).toInt ≤ 120; omega), trivial⟩
  · have : ¬ ((u.1 1) + v16).toInt ≤ (120 : Int) := nleI c35
    exact Tot_some ⟨hs_u, (by show (-1) ≤ (-1 : Int) ∧ (-1 : Int) ≤ 120; omega), trivial⟩

def mdX11_end_0 : MD := ([1], [], [], [])
abbrev qX11_end_0 (u : SX) (q : Int32 × SX) : Prop := StX mdX11_end_0 u q.2 ∧ (0 ≤ q.1.toInt ∧ q.1.toInt ≤ 1) ∧ (True)
set_option maxHeartbeats 400000 in
set_option maxRecDepth 10000 in
theorem tfX11_end_0 (x1 : Int32) (u : SX) (hI : IX u)  : Tot (fX11_end_0 x1 u) (qX11_end_0 u) := by
  unfold fX11_end_0
  have hs_u : StX mdX11_end_0 u u := StX_rf hI
  have : 0 ≤ (u.1 1).toInt ∧ (u.1 1).toInt ≤ 120 := hs_u.1.1 1
  refine Tot_bind (tfX11_within x1 0 (u.1 1)) (fun r1 hq => ?_)
  have : 0 ≤ r1.toInt ∧ r1.toInt ≤ 1 := hq.1
  have : r1.toInt ≠ 0 → ((0 : Int) ≤ x1.toInt ∧ x1.toInt ≤ (u.1 1).toInt) := hq.2
  refine Tot_ite (fun c36 => ?_) (fun c36 => ?_)
  · have : r1.toInt = (0 : Int) := eqI c36
    refine Tot_gd (by decide) ?_
    exact Tot_some ⟨hs_u, (by show 0 ≤ (0 : Int) ∧ (0 : Int) ≤ 1; omega), trivial⟩
  · have : ¬ r1.toInt = (0 : Int) := neI c36
    refine Tot_lt (fun u4 e_u4 => ?_)
    have hs_u4 : StX mdX11_end_0 u u4 := by rw [e_u4]; exact StX_sI hs_u (by decide) (by show 0 ≤ x1.toInt; omega) (by show x1.toInt ≤ 120; omega)
    refine Tot_gd (by decide) ?_
    exact Tot_some ⟨hs_u4, (by show 0 ≤ (1 : Int) ∧ (1 : Int) ≤ 1; omega), trivial⟩

def mdX11_shelfOf_0 : MD := ([], [], [], [])
abbrev qX11_shelfOf_0 (u : SX) (q : Nat × SX) : Prop := StX mdX11_shelfOf_0 u q.2 ∧ (q.1 = 0 ∨ q.1 = 4 ∨ q.1 = 5 ∨ q.1 = 6) ∧ (True)
set_option maxHeartbeats 400000 in
set_option maxRecDepth 10000 in
theorem tfX11_shelfOf_0 (x1 : Int32) (u : SX) (hI : IX u)  : Tot (fX11_shelfOf_0 x1 u) (qX11_shelfOf_0 u) := by
  unfold fX11_shelfOf_0
  have hs_u : StX mdX11_shelfOf_0 u u := StX_rf hI
  refine Tot_ite (fun c37 => ?_) (fun c37 => ?_)
  · have : x1.toInt = (0 : Int) := eqI c37
    exact Tot_some ⟨hs_u, (by show (4 : Nat) = 0 ∨ (4 : Nat) = 4 ∨ (4 : Nat) = 5 ∨ (4 : Nat) = 6; decide), trivial⟩
  · refine Tot_ite (fun c38 => ?_) (fun c38 => ?_)
    · have : x1.toInt = (1 : Int) := eqI c38
      exact Tot_some ⟨hs_u, (by show (5 : Nat) = 0 ∨ (5 : Nat) = 4 ∨ (5 : Nat) = 5 ∨ (5 : Nat) = 6; decide), trivial⟩
    · refine Tot_ite (fun c39 => ?_) (fun c39 => ?_)
      · have : x1.toInt = (2 : Int) := eqI c39
        exact Tot_some ⟨hs_u, (by show (6 : Nat) = 0 ∨ (6 : Nat) = 4 ∨ (6 : Nat) = 5 ∨ (6 : Nat) = 6; decide), trivial⟩
      · exact Tot_some ⟨hs_u, (by show (0 : Nat) = 0 ∨ (0 : Nat) = 4 ∨ (0 : Nat) = 5 ∨ (0 : Nat) = 6; decide), trivial⟩

def mdX5_peek_2 : MD := ([4], [], [], [])
abbrev qX5_peek_2 (u : SX) (q : Int32 × SX) : Prop := StX mdX5_peek_2 u q.2 ∧ (0 ≤ q.1.toInt ∧ q.1.toInt ≤ 255) ∧ ((q.1.toInt ≠ 0 → ((q.2.1 4).toInt < (q.2.1 1).toInt)))
set_option maxHeartbeats 400000 in
set_option maxRecDepth 10000 in
theorem tLX5_peek_2_0 (u0 : SX)  {k44 : SX → Option (Int32 × SX)} (hk44 : ∀  (u : SX), (StX mdX5_peek_2 u0 u) → Tot (k44  u) (qX5_peek_2 u0)) : ∀ (n : Nat)  (u : SX), (StX mdX5_peek_2 u0 u) → (120 - (u.1 4).toInt < (n : Int)) → Tot (LX5_peek_2_0 k44 n  u) (qX5_peek_2 u0) := by
  intro n
  induction n with
  | zero =>
    intro  u hs_u hm
    have : 0 ≤ (u.1 4).toInt ∧ (u.1 4).toInt ≤ 120 := hs_u.1.1 4
    exfalso
    omega
  | succ n ih =>
    intro  u hs_u hm
    rw [LX5_peek_2_0]
    have : 0 ≤ (u.1 4).toInt ∧ (u.1 4).toInt ≤ 120 := hs_u.1.1 4
    have : 0 ≤ (u.1 1).toInt ∧ (u.1 1).toInt ≤ 120 := hs_u.1.1 1
    refine Tot_ite (fun c40 => ?_) (fun c40 => ?_)
    · have : (u.1 1).toInt ≤ (u.1 4).toInt := leI c40
      exact hk44 u hs_u
    · have : ¬ (u.1 1).toInt ≤ (u.1 4).toInt := nleI c40
      refine Tot_gd (inb_t (by omega) (by omega)) ?_
      have : 0 ≤ (u.2.1 13 ((u.1 4)).toNatClampNeg).toInt ∧ (u.2.1 13 ((u.1 4)).toNatClampNeg).toInt ≤ 255 := hs_u.1.2.1 13 ((u.1 4)).toNatClampNeg
      refine Tot_ite (fun c41 => ?_) (fun c41 => ?_)
      · have : (u.2.1 13 ((u.1 4)).toNatClampNeg).toInt = (32 : Int) := eqI c41
        have : ((u.1 4) + 1).toInt = (u.1 4).toInt + (1 : Int) := addc_t (by decide) (by omega) (by omega)
        refine Tot_lt (fun u2 e_u2 => ?_)
        have hs_u2 : StX mdX5_peek_2 u0 u2 := by rw [e_u2]; exact StX_sI hs_u (by decide) (by show 0 ≤ ((u.1 4) + 1).toInt; omega) (by show ((u.1 4) + 1).toInt ≤ 120; omega)
        have : (u2.1 4).toInt = ((u.1 4) + 1).toInt := by rw [e_u2]; rfl
        exact ih u2 hs_u2 (by omega)
      · exact hk44 u hs_u
set_option maxHeartbeats 400000 in
set_option maxRecDepth 10000 in
theorem tGX5_peek_2_44 (u0 : SX)     (u : SX) (hs_u : StX mdX5_peek_2 u0 u)  : Tot (GX5_peek_2_44  u) (qX5_peek_2 u0) := by
  unfold GX5_peek_2_44
  have : 0 ≤ (u.1 1).toInt ∧ (u.1 1).toInt ≤ 120 := hs_u.1.1 1
  have : 0 ≤ (u.1 4).toInt ∧ (u.1 4).toInt ≤ 120 := hs_u.1.1 4
  refine Tot_ite (fun c42 => ?_) (fun c42 => ?_)
  · have : (u.1 1).toInt ≤ (u.1 4).toInt := leI c42
    exact Tot_some ⟨hs_u, (by show 0 ≤ (0 : Int) ∧ (0 : Int) ≤ 255; omega), (by show (0 : Int) ≠ 0 → ((u.1 4).toInt < (u.1 1).toInt); omega)⟩
  · have : ¬ (u.1 1).toInt ≤ (u.1 4).toInt := nleI c42
    refine Tot_gd (inb_t (by omega) (by omega)) ?_
    have : 0 ≤ (u.2.1 13 ((u.1 4)).toNatClampNeg).toInt ∧ (u.2.1 13 ((u.1 4)).toNatClampNeg).toInt ≤ 255 := hs_u.1.2.1 13 ((u.1 4)).toNatClampNeg
    exact Tot_some ⟨hs_u, (by show 0 ≤ (u.2.1 13 ((u.1 4)).toNatClampNeg).toInt ∧ (u.2.1 13 ((u.1 4)).toNatClampNeg).toInt ≤ 255; omega), (by show (u.2.1 13 ((u.1 4)).toNatClampNeg).toInt ≠ 0 → ((u.1 4).toInt < (u.1 1).toInt); omega)⟩
set_option maxHeartbeats 400000 in
set_option maxRecDepth 10000 in
theorem tfX5_peek_2  (u : SX) (hI : IX u)  : Tot (fX5_peek_2  u) (qX5_peek_2 u) := by
  unfold fX5_peek_2
  have hs_u : StX mdX5_peek_2 u u := StX_rf hI
  have : 0 ≤ (u.1 4).toInt ∧ (u.1 4).toInt ≤ 120 := hs_u.1.1 4
  exact tLX5_peek_2_0 u (tGX5_peek_2_44 u) 5000 u hs_u (by show 120 - (u.1 4).toInt < ((5000 : Nat) : Int); omega)

def mdX5_takes_2 : MD := ([4], [], [], [])
abbrev qX5_takes_2 (u : SX) (q : Int32 × SX) : Prop := StX mdX5_takes_2 u q.2 ∧ (0 ≤ q.1.toInt ∧ q.1.toInt ≤ 1) ∧ (True)
set_option maxHeartbeats 400000 in
set_option maxRecDepth 10000 in
theorem tfX5_takes_2 (x1 : Int32) (u : SX) (hI : IX u) (h0 : 41 ≤ x1.toInt ∧ x1.toInt ≤ 121) : Tot (fX5_takes_2 x1 u) (qX5_takes_2 u) := by
  unfold fX5_takes_2
  have hs_u : StX mdX5_takes_2 u u := StX_rf hI
  refine Tot_bind (tfX5_peek_2 u hs_u.1) (fun q hq => ?_)
  obtain ⟨r1, u2⟩ := q
  have hc_u2 : StX mdX5_peek_2 u u2 := hq.1
  have hs_u2 : StX mdX5_takes_2 u u2 := StX_tr hs_u hc_u2 (by decide)
  have : 0 ≤ r1.toInt ∧ r1.toInt ≤ 255 := hq.2.1
  have : 0 ≤ (u2.1 4).toInt ∧ (u2.1 4).toInt ≤ 120 := hs_u2.1.1 4
  have : (u2.1 1).toInt = (u.1 1).toInt := congrArg Int32.toInt (hc_u2.2.1 1 (by decide))
  have : 0 ≤ (u.1 1).toInt ∧ (u.1 1).toInt ≤ 120 := hs_u.1.1 1
  have : r1.toInt ≠ 0 → ((u2.1 4).toInt < (u2.1 1).toInt) := hq.2.2
  refine Tot_ite (fun c43 => ?_) (fun c43 => ?_)
  · have : r1.toInt = x1.toInt := eqI c43
    have : ((u2.1 4) + 1).toInt = (u2.1 4).toInt + (1 : Int) := addc_t (by decide) (by omega) (by omega)
    refine Tot_lt (fun u4 e_u4 => ?_)
    have hs_u4 : StX mdX5_takes_2 u u4 := by rw [e_u4]; exact StX_sI hs_u2 (by decide) (by show 0 ≤ ((u2.1 4) + 1).toInt; omega) (by show ((u2.1 4) + 1).toInt ≤ 120; omega)
    refine Tot_gd (by decide) ?_
    exact Tot_some ⟨hs_u4, (by show 0 ≤ (1 : Int) ∧ (1 : Int) ≤ 1; omega), trivial⟩
  · have : ¬ r1.toInt = x1.toInt := neI c43
    refine Tot_gd (by decide) ?_
    exact Tot_some ⟨hs_u2, (by show 0 ≤ (0 : Int) ∧ (0 : Int) ≤ 1; omega), trivial⟩

def mdX5_emit_2 : MD := ([2], [14], [], [])
abbrev qX5_emit_2 (u : SX) (q : Int32 × SX) : Prop := StX mdX5_emit_2 u q.2 ∧ (0 ≤ q.1.toInt ∧ q.1.toInt ≤ 0) ∧ (True)
set_option maxHeartbeats 400000 in
set_option maxRecDepth 10000 in
theorem tfX5_emit_2 (x1 : Int32) (x2 : Int32) (u : SX) (hI : IX u) (h0 : 0 ≤ x1.toInt ∧ x1.toInt ≤ 124) (h1 : (x1.toInt = 121 → (0 ≤ x2.toInt ∧ x2.toInt ≤ 255))) : Tot (fX5_emit_2 x1 x2 u) (qX5_emit_2 u) := by
  unfold fX5_emit_2
  have hs_u : StX mdX5_emit_2 u u := StX_rf hI
  refine Tot_ite (fun c44 => ?_) (fun c44 => ?_)
  · have : x1.toInt = (0 : Int) := eqI c44
    exact Tot_some ⟨hs_u, (by show 0 ≤ (0 : Int) ∧ (0 : Int) ≤ 0; omega), trivial⟩
  · have : ¬ x1.toInt = (0 : Int) := neI c44
    have : 0 ≤ (u.1 2).toInt ∧ (u.1 2).toInt ≤ 121 := hs_u.1.1 2
    refine Tot_ite (fun c45 => ?_) (fun c45 => ?_)
    · have : (121 : Int) ≤ (u.1 2).toInt := leI c45
      exact Tot_some ⟨hs_u, (by show 0 ≤ (0 : Int) ∧ (0 : Int) ≤ 0; omega), trivial⟩
    · have : ¬ (121 : Int) ≤ (u.1 2).toInt := nleI c45
      refine Tot_gd (inb_t (by omega) (by omega)) ?_
      refine Tot_lt (fun u2 e_u2 => ?_)
      have hs_u2 : StX mdX5_emit_2 u u2 := by rw [e_u2]; exact StX_sAc hs_u (by decide) (okC_mk (by omega) (by omega) (by omega)) (Int32.le_toInt _) (Int32.toInt_le _)
      have : (u2.1 2).toInt = (u.1 2).toInt := by rw [e_u2]; rfl
      have : ((u2.1 2) + 1).toInt = (u2.1 2).toInt + (1 : Int) := addc_t (by decide) (by omega) (by omega)
      refine Tot_lt (fun u4 e_u4 => ?_)
      have hs_u4 : StX mdX5_emit_2 u u4 := by rw [e_u4]; exact StX_sI hs_u2 (by decide) (by show 0 ≤ ((u2.1 2) + 1).toInt; omega) (by show ((u2.1 2) + 1).toInt ≤ 121; omega)
      exact Tot_some ⟨hs_u4, (by show 0 ≤ (0 : Int) ∧ (0 : Int) ≤ 0; omega), trivial⟩

abbrev qX5_compares (x0 : Int32) (q : Int32) : Prop := (0 ≤ q.toInt ∧ q.toInt ≤ 1) ∧ ((q.toInt ≠ 0 → ((60 : Int) ≤ x0.toInt ∧ x0.toInt ≤ (62 : Int))))
set_option maxHeartbeats 400000 in
set_option maxRecDepth 10000 in
theorem tfX5_compares (x0 : Int32) (h0 : 0 ≤ x0.toInt ∧ x0.toInt ≤ 255) : Tot (fX5_compares x0) (qX5_compares x0 ) := by
  unfold fX5_compares
  refine Tot_ite (fun c46 => ?_) (fun c46 => ?_)
  · have : x0.toInt = (61 : Int) := eqI c46
    refine Tot_gd (by decide) ?_
    exact Tot_some ⟨(by show 0 ≤ (1 : Int) ∧ (1 : Int) ≤ 1; omega), (by show (1 : Int) ≠ 0 → ((60 : Int) ≤ x0.toInt ∧ x0.toInt ≤ (62 : Int)); omega)⟩
  · have : ¬ x0.toInt = (61 : Int) := neI c46
    refine Tot_ite (fun c47 => ?_) (fun c47 => ?_)
    · have : x0.toInt = (60 : Int) := eqI c47
      refine Tot_gd (by decide) ?_
      exact Tot_some ⟨(by show 0 ≤ (1 : Int) ∧ (1 : Int) ≤ 1; omega), (by show (1 : Int) ≠ 0 → ((60 : Int) ≤ x0.toInt ∧ x0.toInt ≤ (62 : Int)); omega)⟩
    · have : ¬ x0.toInt = (60 : Int) := neI c47
      refine Tot_ite (fun c48 => ?_) (fun c48 => ?_)
      · have : x0.toInt = (62 : Int) := eqI c48
        refine Tot_gd (by decide) ?_
        exact Tot_some ⟨(by show 0 ≤ (1 : Int) ∧ (1 : Int) ≤ 1; omega), (by show (1 : Int) ≠ 0 → ((60 : Int) ≤ x0.toInt ∧ x0.toInt ≤ (62 : Int)); omega)⟩
      · have : ¬ x0.toInt = (62 : Int) := neI c48
        refine Tot_gd (by decide) ?_
        exact Tot_some ⟨(by show 0 ≤ (0 : Int) ∧ (0 : Int) ≤ 1; omega), (by show (0 : Int) ≠ 0 → ((60 : Int) ≤ x0.toInt ∧ x0.toInt ≤ (62 : Int)); omega)⟩

abbrev qJ0_isLatin1_aae02_s0 (q : Int32) : Prop := (1 ≤ q.toInt ∧ q.toInt ≤ 1) ∧ (True)
set_option maxHeartbeats 400000 in
set_option maxRecDepth 10000 in
theorem tfJ0_isLatin1_aae02_s0   : Tot (fJ0_isLatin1_aae02_s0 ) (qJ0_isLatin1_aae02_s0 ) := by
  unfold fJ0_isLatin1_aae02_s0
  refine Tot_gd (by decide) ?_
  exact Tot_some ⟨(by show 1 ≤ (1 : Int) ∧ (1 : Int) ≤ 1; omega), trivial⟩

abbrev qJ0_coder_7d493_s0 (q : Int32) : Prop := (0 ≤ q.toInt ∧ q.toInt ≤ 0) ∧ (True)
set_option maxHeartbeats 400000 in
set_option maxRecDepth 10000 in
theorem tfJ0_coder_7d493_s0   : Tot (fJ0_coder_7d493_s0 ) (qJ0_coder_7d493_s0 ) := by
  unfold fJ0_coder_7d493_s0
  exact Tot_some ⟨(by show 0 ≤ (0 : Int) ∧ (0 : Int) ≤ 0; omega), trivial⟩

abbrev qJ0_length_8abf5_s0 (q : Int32) : Prop := (True) ∧ (True)
set_option maxHeartbeats 400000 in
set_option maxRecDepth 10000 in
theorem tfJ0_length_8abf5_s0   : Tot (fJ0_length_8abf5_s0 ) (qJ0_length_8abf5_s0 ) := by
  unfold fJ0_length_8abf5_s0
  refine Tot_bind (tfJ0_coder_7d493_s0 ) (fun r1 hq => ?_)
  have : 0 ≤ r1.toInt ∧ r1.toInt ≤ 0 := hq.1
  exact Tot_some ⟨trivial, trivial⟩

abbrev qJ1_canEncode_9a6ad (q : Int32) : Prop := (0 ≤ q.toInt ∧ q.toInt ≤ 1) ∧ (True)
set_option maxHeartbeats 400000 in
set_option maxRecDepth 10000 in
theorem tfJ1_canEncode_9a6ad (x0 : Int32) (h0 : 0 ≤ x0.toInt ∧ x0.toInt ≤ 65535) : Tot (fJ1_canEncode_9a6ad x0) (qJ1_canEncode_9a6ad ) := by
  unfold fJ1_canEncode_9a6ad
  refine Tot_ite (fun c49 => ?_) (fun c49 => ?_)
  · have : x0.toInt < (0 : Int) := ltI c49
    exfalso
    omega
  · have : ¬ x0.toInt < (0 : Int) := nltI c49
    refine Tot_ite (fun c50 => ?_) (fun c50 => ?_)
    · have : (255 : Int) < x0.toInt := ltI c50
      refine Tot_gd (by decide) ?_
      exact Tot_some ⟨(by show 0 ≤ (0 : Int) ∧ (0 : Int) ≤ 1; omega), trivial⟩
    · have : ¬ (255 : Int) < x0.toInt := nltI c50
      refine Tot_gd (by decide) ?_
      exact Tot_some ⟨(by show 0 ≤ (1 : Int) ∧ (1 : Int) ≤ 1; omega), trivial⟩

abbrev qJ1_indexOfChar_4cfef_ab0 (q : Int32) : Prop := ((-1) ≤ q.toInt ∧ q.toInt ≤ 5) ∧ (True)
set_option maxHeartbeats 400000 in
set_option maxRecDepth 10000 in
theorem tLJ1_indexOfChar_4cfef_ab0_7    : ∀ (n : Nat) (z3 : Int32) (z4 : Int32) (z5 : Int32), (1 ≤ z3.toInt ∧ z3.toInt ≤ 6) → ((-128) ≤ z4.toInt ∧ z4.toInt ≤ 127) → (0 ≤ z5.toInt ∧ z5.toInt ≤ 6) → (6 - z5.toInt < (n : Int)) → Tot (LJ1_indexOfChar_4cfef_ab0_7 n z3 z4 z5) (qJ1_indexOfChar_4cfef_ab0 ) := by
  intro n
  induction n with
  | zero =>
    intro z3 z4 z5 h0 h1 h2 hm
    exfalso
    omega
  | succ n ih =>
    intro z3 z4 z5 h0 h1 h2 hm
    rw [LJ1_indexOfChar_4cfef_ab0_7]
    refine Tot_ite (fun c51 => ?_) (fun c51 => ?_)
    · have : z3.toInt ≤ z5.toInt := leI c51
      exact Tot_some ⟨(by show (-1) ≤ (-1 : Int) ∧ (-1 : Int) ≤ 5; omega), trivial⟩
    · have : ¬ z3.toInt ≤ z5.toInt := nleI c51
      refine Tot_gd (inb_t (by omega) (by omega)) ?_
      refine Tot_ite (fun c52 => ?_) (fun c52 => ?_)
      · have : (zB 0 z5.toNatClampNeg).toInt = z4.toInt := eqI c52
        exact Tot_some ⟨(by show (-1) ≤ z5.toInt ∧ z5.toInt ≤ 5; omega), trivial⟩
      · have : (z5 + 1).toInt = z5.toInt + (1 : Int) := addc_t (by decide) (by omega) (by omega)
        exact ih z3 z4 (z5 + 1) ⟨by omega, by omega⟩ ⟨by omega, by omega⟩ ⟨by omega, by omega⟩ (by omega)
set_option maxHeartbeats 400000 in
set_option maxRecDepth 10000 in
theorem tfJ1_indexOfChar_4cfef_ab0 (x1 : Int32) (x2 : Int32) (x3 : Int32) (h0 : 0 ≤ x1.toInt ∧ x1.toInt ≤ 65535) (h1 : 0 ≤ x2.toInt ∧ x2.toInt ≤ 0) (h2 : 1 ≤ x3.toInt ∧ x3.toInt ≤ 6) : Tot (fJ1_indexOfChar_4cfef_ab0 x1 x2 x3) (qJ1_indexOfChar_4cfef_ab0 ) := by
  unfold fJ1_indexOfChar_4cfef_ab0
  have := i8_t x1
  refine Tot_lt (fun v1 e_v1 => ?_)
  have : v1.toInt = ((x1.toInt8).toInt32).toInt := congrArg Int32.toInt e_v1
  exact tLJ1_indexOfChar_4cfef_ab0_7  5000 x3 v1 x2 ⟨by omega, by omega⟩ ⟨by omega, by omega⟩ ⟨by omega, by omega⟩ (by show 6 - x2.toInt < ((5000 : Nat) : Int); omega)

abbrev qJ1_indexOf_4cfef_ab0 (q : Int32) : Prop := ((-1) ≤ q.toInt ∧ q.toInt ≤ 5) ∧ (True)
set_option maxHeartbeats 400000 in
set_option maxRecDepth 10000 in
theorem tfJ1_indexOf_4cfef_ab0 (x1 : Int32) (x2 : Int32) (x3 : Int32) (h0 : 0 ≤ x1.toInt ∧ x1.toInt ≤ 65535) (h1 : 0 ≤ x2.toInt ∧ x2.toInt ≤ 0) : Tot (fJ1_indexOf_4cfef_ab0 x1 x2 x3) (qJ1_indexOf_4cfef_ab0 ) := by
  unfold fJ1_indexOf_4cfef_ab0
  refine Tot_bind (tfJ1_canEncode_9a6ad x1 ⟨by omega, by omega⟩) (fun r1 hq => ?_)
  have : 0 ≤ r1.toInt ∧ r1.toInt ≤ 1 := hq.1
  refine Tot_ite (fun c53 => ?_) (fun c53 => ?_)
  · have : r1.toInt = (0 : Int) := eqI c53
    exact Tot_some ⟨(by show (-1) ≤ (-1 : Int) ∧ (-1 : Int) ≤ 5; omega), trivial⟩
  · have : ¬ r1.toInt = (0 : Int) := neI c53
    have : (x2.toInt < (0 : Int) ∧ (if x2 < 0 then 0 else x2).toInt = (0 : Int)) ∨ (¬ x2.toInt < (0 : Int) ∧ (if x2 < 0 then 0 else x2).toInt = x2.toInt) := ite_lt_t (x := x2) (y := 0) (p := 0) (q := x2)
    refine Tot_lt (fun v4 e_v4 => ?_)
    have : v4.toInt = (if x2 < 0 then 0 else x2).toInt := congrArg Int32.toInt e_v4
    have : ((6 : Int) < x3.toInt ∧ (if 6 < x3 then 6 else x3).toInt = (6 : Int)) ∨ (¬ (6 : Int) < x3.toInt ∧ (if 6 < x3 then 6 else x3).toInt = x3.toInt) := ite_lt_t (x := 6) (y := x3) (p := 6) (q := x3)
    refine Tot_lt (fun v6 e_v6 => ?_)
    have : v6.toInt = (if 6 < x3 then 6 else x3).toInt := congrArg Int32.toInt e_v6
    refine Tot_ite (fun c54 => ?_) (fun c54 => ?_)
    · have : v4.toInt < v6.toInt := ltI c54
      refine Tot_bind (tfJ1_indexOfChar_4cfef_ab0 x1 v4 v6 ⟨by omega, by omega⟩ ⟨by omega, by omega⟩ ⟨by omega, by omega⟩) (fun r8 hq => ?_)
      have : (-1) ≤ r8.toInt ∧ r8.toInt ≤ 5 := hq.1
      exact Tot_some ⟨(by show (-1) ≤ r8.toInt ∧ r8.toInt ≤ 5; omega), trivial⟩
    · have : ¬ v4.toInt < v6.toInt := nltI c54
      exact Tot_some ⟨(by show (-1) ≤ (-1 : Int) ∧ (-1 : Int) ≤ 5; omega), trivial⟩

abbrev qJ0_indexOf_7cf53_s0 (q : Int32) : Prop := ((-1) ≤ q.toInt ∧ q.toInt ≤ 5) ∧ (True)
set_option maxHeartbeats 400000 in
set_option maxRecDepth 10000 in
theorem tfJ0_indexOf_7cf53_s0 (x1 : Int32) (x2 : Int32) (h0 : 0 ≤ x1.toInt ∧ x1.toInt ≤ 65535) (h1 : 0 ≤ x2.toInt ∧ x2.toInt ≤ 0) : Tot (fJ0_indexOf_7cf53_s0 x1 x2) (qJ0_indexOf_7cf53_s0 ) := by
  unfold fJ0_indexOf_7cf53_s0
  refine Tot_bind (tfJ0_isLatin1_aae02_s0 ) (fun r1 hq => ?_)
  have : 1 ≤ r1.toInt ∧ r1.toInt ≤ 1 := hq.1
  refine Tot_ite (fun c55 => ?_) (fun c55 => ?_)
  · have : r1.toInt = (0 : Int) := eqI c55
    exfalso
    omega
  · refine Tot_bind (tfJ0_length_8abf5_s0 ) (fun r7 hq => ?_)
    refine Tot_bind (tfJ1_indexOf_4cfef_ab0 x1 x2 r7 ⟨by omega, by omega⟩ ⟨by omega, by omega⟩) (fun r10 hq => ?_)
    have : (-1) ≤ r10.toInt ∧ r10.toInt ≤ 5 := hq.1
    exact Tot_some ⟨(by show (-1) ≤ r10.toInt ∧ r10.toInt ≤ 5; omega), trivial⟩

abbrev qJ0_indexOf_0f7a4_s0 (q : Int32) : Prop := ((-1) ≤ q.toInt ∧ q.toInt ≤ 5) ∧ (True)
set_option maxHeartbeats 400000 in
set_option maxRecDepth 10000 in
theorem tfJ0_indexOf_0f7a4_s0 (x1 : Int32) (h0 : 0 ≤ x1.toInt ∧ x1.toInt ≤ 65535) : Tot (fJ0_indexOf_0f7a4_s0 x1) (qJ0_indexOf_0f7a4_s0 ) := by
  unfold fJ0_indexOf_0f7a4_s0
  refine Tot_bind (tfJ0_indexOf_7cf53_s0 x1 0 ⟨by omega, by omega⟩ (by show 0 ≤ (0 : Int) ∧ (0 : Int) ≤ 0; omega)) (fun r1 hq => ?_)
  have : (-1) ≤ r1.toInt ∧ r1.toInt ≤ 5 := hq.1
  exact Tot_some ⟨(by show (-1) ≤ r1.toInt ∧ r1.toInt ≤ 5; omega), trivial⟩

abbrev qJ0_isLatin1_aae02_s1 (q : Int32) : Prop := (1 ≤ q.toInt ∧ q.toInt ≤ 1) ∧ (True)
set_option maxHeartbeats 400000 in
set_option maxRecDepth 10000 in
theorem tfJ0_isLatin1_aae02_s1   : Tot (fJ0_isLatin1_aae02_s1 ) (qJ0_isLatin1_aae02_s1 ) := by
  unfold fJ0_isLatin1_aae02_s1
  refine Tot_gd (by decide) ?_
  exact Tot_some ⟨(by show 1 ≤ (1 : Int) ∧ (1 : Int) ≤ 1; omega), trivial⟩

abbrev qJ0_coder_7d493_s1 (q : Int32) : Prop := (0 ≤ q.toInt ∧ q.toInt ≤ 0) ∧ (True)
set_option maxHeartbeats 400000 in
set_option maxRecDepth 10000 in
theorem tfJ0_coder_7d493_s1   : Tot (fJ0_coder_7d493_s1 ) (qJ0_coder_7d493_s1 ) := by
  unfold fJ0_coder_7d493_s1
  exact Tot_some ⟨(by show 0 ≤ (0 : Int) ∧ (0 : Int) ≤ 0; omega), trivial⟩

abbrev qJ0_length_8abf5_s1 (q : Int32) : Prop := (True) ∧ (True)
set_option maxHeartbeats 400000 in
set_option maxRecDepth 10000 in
theorem tfJ0_length_8abf5_s1   : Tot (fJ0_length_8abf5_s1 ) (qJ0_length_8abf5_s1 ) := by
  unfold fJ0_length_8abf5_s1
  refine Tot_bind (tfJ0_coder_7d493_s1 ) (fun r1 hq => ?_)
  have : 0 ≤ r1.toInt ∧ r1.toInt ≤ 0 := hq.1
  exact Tot_some ⟨trivial, trivial⟩

abbrev qJ1_indexOfChar_4cfef_ab1 (q : Int32) : Prop := ((-1) ≤ q.toInt ∧ q.toInt ≤ 1) ∧ (True)
set_option maxHeartbeats 400000 in
set_option maxRecDepth 10000 in
theorem tLJ1_indexOfChar_4cfef_ab1_7    : ∀ (n : Nat) (z3 : Int32) (z4 : Int32) (z5 : Int32), (1 ≤ z3.toInt ∧ z3.toInt ≤ 2) → ((-128) ≤ z4.toInt ∧ z4.toInt ≤ 127) → (0 ≤ z5.toInt ∧ z5.toInt ≤ 2) → (2 - z5.toInt < (n : Int)) → Tot (LJ1_indexOfChar_4cfef_ab1_7 n z3 z4 z5) (qJ1_indexOfChar_4cfef_ab1 ) := by
  intro n
  induction n with
  | zero =>
    intro z3 z4 z5 h0 h1 h2 hm
    exfalso
    omega
  | succ n ih =>
    intro z3 z4 z5 h0 h1 h2 hm
    rw [LJ1_indexOfChar_4cfef_ab1_7]
    refine Tot_ite (fun c56 => ?_) (fun c56 => ?_)
    · have : z3.toInt ≤ z5.toInt := leI c56
      exact Tot_some ⟨(by show (-1) ≤ (-1 : Int) ∧ (-1 : Int) ≤ 1; omega), trivial⟩
    · have : ¬ z3.toInt ≤ z5.toInt := nleI c56
      refine Tot_gd (inb_t (by omega) (by omega)) ?_
      refine Tot_ite (fun c57 => ?_) (fun c57 => ?_)
      · have : (zB 1 z5.toNatClampNeg).toInt = z4.toInt := eqI c57
        exact Tot_some ⟨(by show (-1) ≤ z5.toInt ∧ z5.toInt ≤ 1; omega), trivial⟩
      · have : (z5 + 1).toInt = z5.toInt + (1 : Int) := addc_t (by decide) (by omega) (by omega)
        exact ih z3 z4 (z5 + 1) ⟨by omega, by omega⟩ ⟨by omega, by omega⟩ ⟨by omega, by omega⟩ (by omega)
set_option maxHeartbeats 400000 in
set_option maxRecDepth 10000 in
theorem tfJ1_indexOfChar_4cfef_ab1 (x1 : Int32) (x2 : Int32) (x3 : Int32) (h0 : 0 ≤ x1.toInt ∧ x1.toInt ≤ 65535) (h1 : 0 ≤ x2.toInt ∧ x2.toInt ≤ 0) (h2 : 1 ≤ x3.toInt ∧ x3.toInt ≤ 2) : Tot (fJ1_indexOfChar_4cfef_ab1 x1 x2 x3) (qJ1_indexOfChar_4cfef_ab1 ) := by
  unfold fJ1_indexOfChar_4cfef_ab1
  have := i8_t x1
  refine Tot_lt (fun v1 e_v1 => ?_)
  have : v1.toInt = ((x1.toInt8).toInt32).toInt := congrArg Int32.toInt e_v1
  exact tLJ1_indexOfChar_4cfef_ab1_7  5000 x3 v1 x2 ⟨by omega, by omega⟩ ⟨by omega, by omega⟩ ⟨by omega, by omega⟩ (by show 2 - x2.toInt < ((5000 : Nat) : Int); omega)

abbrev qJ1_indexOf_4cfef_ab1 (q : Int32) : Prop := ((-1) ≤ q.toInt ∧ q.toInt ≤ 1) ∧ (True)
set_option maxHeartbeats 400000 in
set_option maxRecDepth 10000 in
theorem tfJ1_indexOf_4cfef_ab1 (x1 : Int32) (x2 : Int32) (x3 : Int32) (h0 : 0 ≤ x1.toInt ∧ x1.toInt ≤ 65535) (h1 : 0 ≤ x2.toInt ∧ x2.toInt ≤ 0) : Tot (fJ1_indexOf_4cfef_ab1 x1 x2 x3) (qJ1_indexOf_4cfef_ab1 ) := by
  unfold fJ1_indexOf_4cfef_ab1
  refine Tot_bind (tfJ1_canEncode_9a6ad x1 ⟨by omega, by omega⟩) (fun r1 hq => ?_)
  have : 0 ≤ r1.toInt ∧ r1.toInt ≤ 1 := hq.1
  refine Tot_ite (fun c58 => ?_) (fun c58 => ?_)
  · have : r1.toInt = (0 : Int) := eqI c58
    exact Tot_some ⟨(by show (-1) ≤ (-1 : Int) ∧ (-1 : Int) ≤ 1; omega), trivial⟩
  · have : ¬ r1.toInt = (0 : Int) := neI c58
    have : (x2.toInt < (0 : Int) ∧ (if x2 < 0 then 0 else x2).toInt = (0 : Int)) ∨ (¬ x2.toInt < (0 : Int) ∧ (if x2 < 0 then 0 else x2).toInt = x2.toInt) := ite_lt_t (x := x2) (y := 0) (p := 0) (q := x2)
    refine Tot_lt (fun v4 e_v4 => ?_)
    have : v4.toInt = (if x2 < 0 then 0 else x2).toInt := congrArg Int32.toInt e_v4
    have : ((2 : Int) < x3.toInt ∧ (if 2 < x3 then 2 else x3).toInt = (2 : Int)) ∨ (¬ (2 : Int) < x3.toInt ∧ (if 2 < x3 then 2 else x3).toInt = x3.toInt) := ite_lt_t (x := 2) (y := x3) (p := 2) (q := x3)
    refine Tot_lt (fun v6 e_v6 => ?_)
    have : v6.toInt = (if 2 < x3 then 2 else x3).toInt := congrArg Int32.toInt e_v6
    refine Tot_ite (fun c59 => ?_) (fun c59 => ?_)
    · have : v4.toInt < v6.toInt := ltI c59
      refine Tot_bind (tfJ1_indexOfChar_4cfef_ab1 x1 v4 v6 ⟨by omega, by omega⟩ ⟨by omega, by omega⟩ ⟨by omega, by omega⟩) (fun r8 hq => ?_)
      have : (-1) ≤ r8.toInt ∧ r8.toInt ≤ 1 := hq.1
      exact Tot_some ⟨(by show (-1) ≤ r8.toInt ∧ r8.toInt ≤ 1; omega), trivial⟩
    · have : ¬ v4.toInt < v6.toInt := nltI c59
      exact Tot_some ⟨(by show (-1) ≤ (-1 : Int) ∧ (-1 : Int) ≤ 1; omega), trivial⟩

abbrev qJ0_indexOf_7cf53_s1 (q : Int32) : Prop := ((-1) ≤ q.toInt ∧ q.toInt ≤ 1) ∧ (True)
set_option maxHeartbeats 400000 in
set_option maxRecDepth 10000 in
theorem tfJ0_indexOf_7cf53_s1 (x1 : Int32) (x2 : Int32) (h0 : 0 ≤ x1.toInt ∧ x1.toInt ≤ 65535) (h1 : 0 ≤ x2.toInt ∧ x2.toInt ≤ 0) : Tot (fJ0_indexOf_7cf53_s1 x1 x2) (qJ0_indexOf_7cf53_s1 ) := by
  unfold fJ0_indexOf_7cf53_s1
  refine Tot_bind (tfJ0_isLatin1_aae02_s1 ) (fun r1 hq => ?_)
  have : 1 ≤ r1.toInt ∧ r1.toInt ≤ 1 := hq.1
  refine Tot_ite (fun c60 => ?_) (fun c60 => ?_)
  · have : r1.toInt = (0 : Int) := eqI c60
    exfalso
    omega
  · refine Tot_bind (tfJ0_length_8abf5_s1 ) (fun r7 hq => ?_)
    refine Tot_bind (tfJ1_indexOf_4cfef_ab1 x1 x2 r7 ⟨by omega, by omega⟩ ⟨by omega, by omega⟩) (fun r10 hq => ?_)
    have : (-1) ≤ r10.toInt ∧ r10.toInt ≤ 1 := hq.1
    exact Tot_some ⟨(by show (-1) ≤ r10.toInt ∧ r10.toInt ≤ 1; omega), trivial⟩

abbrev qJ0_indexOf_0f7a4_s1 (q : Int32) : Prop := ((-1) ≤ q.toInt ∧ q.toInt ≤ 1) ∧ (True)
set_option maxHeartbeats 400000 in
set_option maxRecDepth 10000 in
theorem tfJ0_indexOf_0f7a4_s1 (x1 : Int32) (h0 : 0 ≤ x1.toInt ∧ x1.toInt ≤ 65535) : Tot (fJ0_indexOf_0f7a4_s1 x1) (qJ0_indexOf_0f7a4_s1 ) := by
  unfold fJ0_indexOf_0f7a4_s1
  refine Tot_bind (tfJ0_indexOf_7cf53_s1 x1 0 ⟨by omega, by omega⟩ (by show 0 ≤ (0 : Int) ∧ (0 : Int) ≤ 0; omega)) (fun r1 hq => ?_)
  have : (-1) ≤ r1.toInt ∧ r1.toInt ≤ 1 := hq.1
  exact Tot_some ⟨(by show (-1) ≤ r1.toInt ∧ r1.toInt ≤ 1; omega), trivial⟩

abbrev qJ0_isLatin1_aae02_s2 (q : Int32) : Prop := (1 ≤ q.toInt ∧ q.toInt ≤ 1) ∧ (True)
set_option maxHeartbeats 400000 in
set_option maxRecDepth 10000 in
theorem tfJ0_isLatin1_aae02_s2   : Tot (fJ0_isLatin1_aae02_s2 ) (qJ0_isLatin1_aae02_s2 ) := by
  unfold fJ0_isLatin1_aae02_s2
  refine Tot_gd (by decide) ?_
  exact Tot_some ⟨(by show 1 ≤ (1 : Int) ∧ (1 : Int) ≤ 1; omega), trivial⟩

abbrev qJ0_coder_7d493_s2 (q : Int32) : Prop := (0 ≤ q.toInt ∧ q.toInt ≤ 0) ∧ (True)
set_option maxHeartbeats 400000 in
set_option maxRecDepth 10000 in
theorem tfJ0_coder_7d493_s2   : Tot (fJ0_coder_7d493_s2 ) (qJ0_coder_7d493_s2 ) := by
  unfold fJ0_coder_7d493_s2
  exact Tot_some ⟨(by show 0 ≤ (0 : Int) ∧ (0 : Int) ≤ 0; omega), trivial⟩

abbrev qJ0_length_8abf5_s2 (q : Int32) : Prop := (True) ∧ (True)
set_option maxHeartbeats 400000 in
set_option maxRecDepth 10000 in
theorem tfJ0_length_8abf5_s2   : Tot (fJ0_length_8abf5_s2 ) (qJ0_length_8abf5_s2 ) := by
  unfold fJ0_length_8abf5_s2
  refine Tot_bind (tfJ0_coder_7d493_s2 ) (fun r1 hq => ?_)
  have : 0 ≤ r1.toInt ∧ r1.toInt ≤ 0 := hq.1
  exact Tot_some ⟨trivial, trivial⟩

abbrev qJ1_indexOfChar_4cfef_ab2 (q : Int32) : Prop := ((-1) ≤ q.toInt ∧ q.toInt ≤ 4) ∧ (True)
set_option maxHeartbeats 400000 in
set_option maxRecDepth 10000 in
theorem tLJ1_indexOfChar_4cfef_ab2_7    : ∀ (n : Nat) (z3 : Int32) (z4 : Int32) (z5 : Int32), (1 ≤ z3.toInt ∧ z3.toInt ≤ 5) → ((-128) ≤ z4.toInt ∧ z4.toInt ≤ 127) → (0 ≤ z5.toInt ∧ z5.toInt ≤ 5) → (5 - z5.toInt < (n : Int)) → Tot (LJ1_indexOfChar_4cfef_ab2_7 n z3 z4 z5) (qJ1_indexOfChar_4cfef_ab2 ) := by
  intro n
  induction n with
  | zero =>
    intro z3 z4 z5 h0 h1 h2 hm
    exfalso
    omega
  | succ n ih =>
    intro z3 z4 z5 h0 h1 h2 hm
    rw [LJ1_indexOfChar_4cfef_ab2_7]
    refine Tot_ite (fun c61 => ?_) (fun c61 => ?_)
    · have : z3.toInt ≤ z5.toInt := leI c61
      exact Tot_some ⟨(by show (-1) ≤ (-1 : Int) ∧ (-1 : Int) ≤ 4; omega), trivial⟩
    · have : ¬ z3.toInt ≤ z5.toInt := nleI c61
      refine Tot_gd (inb_t (by omega) (by omega)) ?_
      refine Tot_ite (fun c62 => ?_) (fun c62 => ?_)
      · have : (zB 2 z5.toNatClampNeg).toInt = z4.toInt := eqI c62
        exact Tot_some ⟨(by show (-1) ≤ z5.toInt ∧ z5.toInt ≤ 4; omega), trivial⟩
      · have : (z5 + 1).toInt = z5.toInt + (1 : Int) := addc_t (by decide) (by omega) (by omega)
        exact ih z3 z4 (z5 + 1) ⟨by omega, by omega⟩ ⟨by omega, by omega⟩ ⟨by omega, by omega⟩ (by omega)
set_option maxHeartbeats 400000 in
set_option maxRecDepth 10000 in
theorem tfJ1_indexOfChar_4cfef_ab2 (x1 : Int32) (x2 : Int32) (x3 : Int32) (h0 : 0 ≤ x1.toInt ∧ x1.toInt ≤ 65535) (h1 : 0 ≤ x2.toInt ∧ x2.toInt ≤ 0) (h2 : 1 ≤ x3.toInt ∧ x3.toInt ≤ 5) : Tot (fJ1_indexOfChar_4cfef_ab2 x1 x2 x3) (qJ1_indexOfChar_4cfef_ab2 ) := by
  unfold fJ1_indexOfChar_4cfef_ab2
  have := i8_t x1
  refine Tot_lt (fun v1 e_v1 => ?_)
  have : v1.toInt = ((x1.toInt8).toInt32).toInt := congrArg Int32.toInt e_v1
  exact tLJ1_indexOfChar_4cfef_ab2_7  5000 x3 v1 x2 ⟨by omega, by omega⟩ ⟨by omega, by omega⟩ ⟨by omega, by omega⟩ (by show 5 - x2.toInt < ((5000 : Nat) : Int); omega)

abbrev qJ1_indexOf_4cfef_ab2 (q : Int32) : Prop := ((-1) ≤ q.toInt ∧ q.toInt ≤ 4) ∧ (True)
set_option maxHeartbeats 400000 in
set_option maxRecDepth 10000 in
theorem tfJ1_indexOf_4cfef_ab2 (x1 : Int32) (x2 : Int32) (x3 : Int32) (h0 : 0 ≤ x1.toInt ∧ x1.toInt ≤ 65535) (h1 : 0 ≤ x2.toInt ∧ x2.toInt ≤ 0) : Tot (fJ1_indexOf_4cfef_ab2 x1 x2 x3) (qJ1_indexOf_4cfef_ab2 ) := by
  unfold fJ1_indexOf_4cfef_ab2
  refine Tot_bind (tfJ1_canEncode_9a6ad x1 ⟨by omega, by omega⟩) (fun r1 hq => ?_)
  have : 0 ≤ r1.toInt ∧ r1.toInt ≤ 1 := hq.1
  refine Tot_ite (fun c63 => ?_) (fun c63 => ?_)
  · have : r1.toInt = (0 : Int) := eqI c63
    exact Tot_some ⟨(by show (-1) ≤ (-1 : Int) ∧ (-1 : Int) ≤ 4; omega), trivial⟩
  · have : ¬ r1.toInt = (0 : Int) := neI c63
    have : (x2.toInt < (0 : Int) ∧ (if x2 < 0 then 0 else x2).toInt = (0 : Int)) ∨ (¬ x2.toInt < (0 : Int) ∧ (if x2 < 0 then 0 else x2).toInt = x2.toInt) := ite_lt_t (x := x2) (y := 0) (p := 0) (q := x2)
    refine Tot_lt (fun v4 e_v4 => ?_)
    have : v4.toInt = (if x2 < 0 then 0 else x2).toInt := congrArg Int32.toInt e_v4
    have : ((5 : Int) < x3.toInt ∧ (if 5 < x3 then 5 else x3).toInt = (5 : Int)) ∨ (¬ (5 : Int) < x3.toInt ∧ (if 5 < x3 then 5 else x3).toInt = x3.toInt) := ite_lt_t (x := 5) (y := x3) (p := 5) (q := x3)
    refine Tot_lt (fun v6 e_v6 => ?_)
    have : v6.toInt = (if 5 < x3 then 5 else x3).toInt := congrArg Int32.toInt e_v6
    refine Tot_ite (fun c64 => ?_) (fun c64 => ?_)
    · have : v4.toInt < v6.toInt := ltI c64
      refine Tot_bind (tfJ1_indexOfChar_4cfef_ab2 x1 v4 v6 ⟨by omega, by omega⟩ ⟨by omega, by omega⟩ ⟨by omega, by omega⟩) (fun r8 hq => ?_)
      have : (-1) ≤ r8.toInt ∧ r8.toInt ≤ 4 := hq.1
      exact Tot_some ⟨(by show (-1) ≤ r8.toInt ∧ r8.toInt ≤ 4; omega), trivial⟩
    · have : ¬ v4.toInt < v6.toInt := nltI c64
      exact Tot_some ⟨(by show (-1) ≤ (-1 : Int) ∧ (-1 : Int) ≤ 4; omega), trivial⟩

abbrev qJ0_indexOf_7cf53_s2 (q : Int32) : Prop := ((-1) ≤ q.toInt ∧ q.toInt ≤ 4) ∧ (True)
set_option maxHeartbeats 400000 in
set_option maxRecDepth 10000 in
theorem tfJ0_indexOf_7cf53_s2 (x1 : Int32) (x2 : Int32) (h0 : 0 ≤ x1.toInt ∧ x1.toInt ≤ 65535) (h1 : 0 ≤ x2.toInt ∧ x2.toInt ≤ 0) : Tot (fJ0_indexOf_7cf53_s2 x1 x2) (qJ0_indexOf_7cf53_s2 ) := by
  unfold fJ0_indexOf_7cf53_s2
  refine Tot_bind (tfJ0_isLatin1_aae02_s2 ) (fun r1 hq => ?_)
  have : 1 ≤ r1.toInt ∧ r1.toInt ≤ 1 := hq.1
  refine Tot_ite (fun c65 => ?_) (fun c65 => ?_)
  · have : r1.toInt = (0 : Int) := eqI c65
    exfalso
    omega
  · refine Tot_bind (tfJ0_length_8abf5_s2 ) (fun r7 hq => ?_)
    refine Tot_bind (tfJ1_indexOf_4cfef_ab2 x1 x2 r7 ⟨by omega, by omega⟩ ⟨by omega, by omega⟩) (fun r10 hq => ?_)
    have : (-1) ≤ r10.toInt ∧ r10.toInt ≤ 4 := hq.1
    exact Tot_some ⟨(by show (-1) ≤ r10.toInt ∧ r10.toInt ≤ 4; omega), trivial⟩

abbrev qJ0_indexOf_0f7a4_s2 (q : Int32) : Prop := ((-1) ≤ q.toInt ∧ q.toInt ≤ 4) ∧ (True)
set_option maxHeartbeats 400000 in
set_option maxRecDepth 10000 in
theorem tfJ0_indexOf_0f7a4_s2 (x1 : Int32) (h0 : 0 ≤ x1.toInt ∧ x1.toInt ≤ 65535) : Tot (fJ0_indexOf_0f7a4_s2 x1) (qJ0_indexOf_0f7a4_s2 ) := by
  unfold fJ0_indexOf_0f7a4_s2
  refine Tot_bind (tfJ0_indexOf_7cf53_s2 x1 0 ⟨by omega, by omega⟩ (by show 0 ≤ (0 : Int) ∧ (0 : Int) ≤ 0; omega)) (fun r1 hq => ?_)
  have : (-1) ≤ r1.toInt ∧ r1.toInt ≤ 4 := hq.1
  exact Tot_some ⟨(by show (-1) ≤ r1.toInt ∧ r1.toInt ≤ 4; omega), trivial⟩

abbrev qJ0_isLatin1_aae02_s3 (q : Int32) : Prop := (1 ≤ q.toInt ∧ q.toInt ≤ 1) ∧ (True)
set_option maxHeartbeats 400000 in
set_option maxRecDepth 10000 in
theorem tfJ0_isLatin1_aae02_s3   : Tot (fJ0_isLatin1_aae02_s3 ) (qJ0_isLatin1_aae02_s3 ) := by
  unfold fJ0_isLatin1_aae02_s3
  refine Tot_gd (by decide) ?_
  exact Tot_some ⟨(by show 1 ≤ (1 : Int) ∧ (1 : Int) ≤ 1; omega), trivial⟩

abbrev qJ0_coder_7d493_s3 (q : Int32) : Prop := (0 ≤ q.toInt ∧ q.toInt ≤ 0) ∧ (True)
set_option maxHeartbeats 400000 in
set_option maxRecDepth 10000 in
theorem tfJ0_coder_7d493_s3   : Tot (fJ0_coder_7d493_s3 ) (qJ0_coder_7d493_s3 ) := by
  unfold fJ0_coder_7d493_s3
  exact Tot_some ⟨(by show 0 ≤ (0 : Int) ∧ (0 : Int) ≤ 0; omega), trivial⟩

abbrev qJ0_length_8abf5_s3 (q : Int32) : Prop := (True) ∧ (True)
set_option maxHeartbeats 400000 in
set_option maxRecDepth 10000 in
theorem tfJ0_length_8abf5_s3   : Tot (fJ0_length_8abf5_s3 ) (qJ0_length_8abf5_s3 ) := by
  unfold fJ0_length_8abf5_s3
  refine Tot_bind (tfJ0_coder_7d493_s3 ) (fun r1 hq => ?_)
  have : 0 ≤ r1.toInt ∧ r1.toInt ≤ 0 := hq.1
  exact Tot_some ⟨trivial, trivial⟩

abbrev qJ1_indexOf_4cfef_ab3 (q : Int32) : Prop := ((-1) ≤ q.toInt ∧ q.toInt ≤ (-1)) ∧ (True)
set_option maxHeartbeats 400000 in
set_option maxRecDepth 10000 in
theorem tfJ1_indexOf_4cfef_ab3 (x1 : Int32) (x2 : Int32) (x3 : Int32) (h0 : 0 ≤ x1.toInt ∧ x1.toInt ≤ 65535) (h1 : 0 ≤ x2.toInt ∧ x2.toInt ≤ 0) : Tot (fJ1_indexOf_4cfef_ab3 x1 x2 x3) (qJ1_indexOf_4cfef_ab3 ) := by
  unfold fJ1_indexOf_4cfef_ab3
  refine Tot_bind (tfJ1_canEncode_9a6ad x1 ⟨by omega, by omega⟩) (fun r1 hq => ?_)
  have : 0 ≤ r1.toInt ∧ r1.toInt ≤ 1 := hq.1
  refine Tot_ite (fun c66 => ?_) (fun c66 => ?_)
  · have : r1.toInt = (0 : Int) := eqI c66
    exact Tot_some ⟨(by show (-1) ≤ (-1 : Int) ∧ (-1 : Int) ≤ (-1); omega), trivial⟩
  · have : ¬ r1.toInt = (0 : Int) := neI c66
    have : (x2.toInt < (0 : Int) ∧ (if x2 < 0 then 0 else x2).toInt = (0 : Int)) ∨ (¬ x2.toInt < (0 : Int) ∧ (if x2 < 0 then 0 else x2).toInt = x2.toInt) := ite_lt_t (x := x2) (y := 0) (p := 0) (q := x2)
    refine Tot_lt (fun v4 e_v4 => ?_)
    have : v4.toInt = (if x2 < 0 then 0 else x2).toInt := congrArg Int32.toInt e_v4
    have : ((0 : Int) < x3.toInt ∧ (if 0 < x3 then 0 else x3).toInt = (0 : Int)) ∨ (¬ (0 : Int) < x3.toInt ∧ (if 0 < x3 then 0 else x3).toInt = x3.toInt) := ite_lt_t (x := 0) (y := x3) (p := 0) (q := x3)
    refine Tot_lt (fun v6 e_v6 => ?_)
    have : v6.toInt = (if 0 < x3 then 0 else x3).toInt := congrArg Int32.toInt e_v6
    refine Tot_ite (fun c67 => ?_) (fun c67 => ?_)
    · have : v4.toInt < v6.toInt := ltI c67
      exfalso
      omega
    · have : ¬ v4.toInt < v6.toInt := nltI c67
      exact Tot_some ⟨(by show (-1) ≤ (-1 : Int) ∧ (-1 : Int) ≤ (-1); omega), trivial⟩

abbrev qJ0_indexOf_7cf53_s3 (q : Int32) : Prop := ((-1) ≤ q.toInt ∧ q.toInt ≤ (-1)) ∧ (True)
set_option maxHeartbeats 400000 in
set_option maxRecDepth 10000 in
theorem tfJ0_indexOf_7cf53_s3 (x1 : Int32) (x2 : Int32) (h0 : 0 ≤ x1.toInt ∧ x1.toInt ≤ 65535) (h1 : 0 ≤ x2.toInt ∧ x2.toInt ≤ 0) : Tot (fJ0_indexOf_7cf53_s3 x1 x2) (qJ0_indexOf_7cf53_s3 ) := by
  unfold fJ0_indexOf_7cf53_s3
  refine Tot_bind (tfJ0_isLatin1_aae02_s3 ) (fun r1 hq => ?_)
  have : 1 ≤ r1.toInt ∧ r1.toInt ≤ 1 := hq.1
  refine Tot_ite (fun c68 => ?_) (fun c68 => ?_)
  · have : r1.toInt = (0 : Int) := eqI c68
    exfalso
    omega
  · refine Tot_bind (tfJ0_length_8abf5_s3 ) (fun r7 hq => ?_)
    refine Tot_bind (tfJ1_indexOf_4cfef_ab3 x1 x2 r7 ⟨by omega, by omega⟩ ⟨by omega, by omega⟩) (fun r10 hq => ?_)
    have : (-1) ≤ r10.toInt ∧ r10.toInt ≤ (-1) := hq.1
    exact Tot_some ⟨(by show (-1) ≤ r10.toInt ∧ r10.toInt ≤ (-1); omega), trivial⟩

abbrev qJ0_indexOf_0f7a4_s3 (q : Int32) : Prop := ((-1) ≤ q.toInt ∧ q.toInt ≤ (-1)) ∧ (True)
set_option maxHeartbeats 400000 in
set_option maxRecDepth 10000 in
theorem tfJ0_indexOf_0f7a4_s3 (x1 : Int32) (h0 : 0 ≤ x1.toInt ∧ x1.toInt ≤ 65535) : Tot (fJ0_indexOf_0f7a4_s3 x1) (qJ0_indexOf_0f7a4_s3 ) := by
  unfold fJ0_indexOf_0f7a4_s3
  refine Tot_bind (tfJ0_indexOf_7cf53_s3 x1 0 ⟨by omega, by omega⟩ (by show 0 ≤ (0 : Int) ∧ (0 : Int) ≤ 0; omega)) (fun r1 hq => ?_)
  have : (-1) ≤ r1.toInt ∧ r1.toInt ≤ (-1) := hq.1
  exact Tot_some ⟨(by show (-1) ≤ r1.toInt ∧ r1.toInt ≤ (-1); omega), trivial⟩

def mdX5_number_2 : MD := ([4], [], [], [])
abbrev qX5_number_2 (u : SX) (q : Int32 × SX) : Prop := StX mdX5_number_2 u q.2 ∧ (True) ∧ (True)
set_option maxHeartbeats 400000 in
set_option maxRecDepth 10000 in
theorem tGX5_number_2_39 (u0 : SX) (g4 : Int) {k4 : Int32 → Int32 → SX → Option (Int32 × SX)} (hk4 : ∀ (z1 : Int32) (z2 : Int32) (u : SX), (StX mdX5_number_2 u0 u) → (0 ≤ z2.toInt ∧ z2.toInt ≤ 4) → (g4 < z2.toInt) → Tot (k4 z1 z2 u) (qX5_number_2 u0)) (z1 : Int32) (z2 : Int32) (y0 : Int32) (u : SX) (hs_u : StX mdX5_number_2 u0 u) (h0 : 0 ≤ z2.toInt ∧ z2.toInt ≤ 4) (h1 : 0 ≤ y0.toInt ∧ y0.toInt ≤ 255) (h2 : y0.toInt ≠ 0 → ((u.1 4).toInt < (u.1 1).toInt)) (h3 : g4 ≤ z2.toInt) : Tot (GX5_number_2_39 k4 z1 z2 y0 u) (qX5_number_2 u0) := by
  unfold GX5_number_2_39
  have : 0 ≤ (u.1 4).toInt ∧ (u.1 4).toInt ≤ 120 := hs_u.1.1 4
  have : 0 ≤ (u.1 1).toInt ∧ (u.1 1).toInt ≤ 120 := hs_u.1.1 1
  refine Tot_ite (fun c69 => ?_) (fun c69 => ?_)
  · have : y0.toInt < (48 : Int) := ltI c69
    exact Tot_some ⟨hs_u, trivial, trivial⟩
  · have : ¬ y0.toInt < (48 : Int) := nltI c69
    refine Tot_ite (fun c70 => ?_) (fun c70 => ?_)
    · have : y0.toInt ≤ (57 : Int) := leI c70
      refine Tot_ite (fun c71 => ?_) (fun c71 => ?_)
      · have : z2.toInt = (4 : Int) := eqI c71
        exact Tot_some ⟨hs_u, trivial, trivial⟩
      · have : ¬ z2.toInt = (4 : Int) := neI c71
        refine Tot_lt (fun v1 e_v1 => ?_)
        have : ((u.1 4) + 1).toInt = (u.1 4).toInt + (1 : Int) := addc_t (by decide) (by omega) (by omega)
        refine Tot_lt (fun u3 e_u3 => ?_)
        have hs_u3 : StX mdX5_number_2 u0 u3 := by rw [e_u3]; exact StX_sI hs_u (by decide) (by show 0 ≤ ((u.1 4) + 1).toInt; omega) (by show ((u.1 4) + 1).toInt ≤ 120; omega)
        have : (z2 + 1).toInt = z2.toInt + (1 : Int) := addc_t (by decide) (by omega) (by omega)
        exact hk4 v1 (z2 + 1) u3 hs_u3 ⟨by omega, by omega⟩ (by omega)
    · have : ¬ y0.toInt ≤ (57 : Int) := nleI c70
      exact Tot_some ⟨hs_u, trivial, trivial⟩
set_option maxHeartbeats 400000 in
set_option maxRecDepth 10000 in
theorem tLX5_number_2_4 (u0 : SX)    : ∀ (n : Nat) (z1 : Int32) (z2 : Int32) (u : SX), (StX mdX5_number_2 u0 u) → (0 ≤ z2.toInt ∧ z2.toInt ≤ 4) → (4 - z2.toInt < (n : Int)) → Tot (LX5_number_2_4 n z1 z2 u) (qX5_number_2 u0) := by
  intro n
  induction n with
  | zero =>
    intro z1 z2 u hs_u h0 hm
    exfalso
    omega
  | succ n ih =>
    intro z1 z2 u hs_u h0 hm
    rw [LX5_number_2_4]
    refine Tot_ite (fun c72 => ?_) (fun c72 => ?_)
    · have : (4 : Int) < z2.toInt := ltI c72
      exfalso
      omega
    · have : ¬ (4 : Int) < z2.toInt := nltI c72
      have : 0 ≤ (u.1 1).toInt ∧ (u.1 1).toInt ≤ 120 := hs_u.1.1 1
      have : 0 ≤ (u.1 4).toInt ∧ (u.1 4).toInt ≤ 120 := hs_u.1.1 4
      refine Tot_ite (fun c73 => ?_) (fun c73 => ?_)
      · have : (u.1 1).toInt ≤ (u.1 4).toInt := leI c73
        exact tGX5_number_2_39 u0 (z2.toInt) (fun a74 a75 w76 hw76 p77 p78 => ih a74 a75 w76 hw76 p77 (by omega)) z1 z2 0 u hs_u ⟨by omega, by omega⟩ (by show 0 ≤ (0 : Int) ∧ (0 : Int) ≤ 255; omega) (by show (0 : Int) ≠ 0 → ((u.1 4).toInt < (u.1 1).toInt); omega) (by omega)
      · have : ¬ (u.1 1).toInt ≤ (u.1 4).toInt := nleI c73
        refine Tot_gd (inb_t (by omega) (by omega)) ?_
        have : 0 ≤ (u.2.1 13 ((u.1 4)).toNatClampNeg).toInt ∧ (u.2.1 13 ((u.1 4)).toNatClampNeg).toInt ≤ 255 := hs_u.1.2.1 13 ((u.1 4)).toNatClampNeg
        exact tGX5_number_2_39 u0 (z2.toInt) (fun a79 a80 w81 hw81 p82 p83 => ih a79 a80 w81 hw81 p82 (by omega)) z1 z2 (u.2.1 13 ((u.1 4)).toNatClampNeg) u hs_u ⟨by omega, by omega⟩ ⟨by omega, by omega⟩ (by omega) (by omega)
set_option maxHeartbeats 400000 in
set_option maxRecDepth 10000 in
theorem tfX5_number_2  (u : SX) (hI : IX u)  : Tot (fX5_number_2  u) (qX5_number_2 u) := by
  unfold fX5_number_2
  have hs_u : StX mdX5_number_2 u u := StX_rf hI
  exact tLX5_number_2_4 u 5000 0 0 u hs_u (by show 0 ≤ (0 : Int) ∧ (0 : Int) ≤ 4; omega) (by show 4 - (0 : Int) < ((5000 : Nat) : Int); omega)

def mdX5_condition_2 : MD := ([2, 4], [14], [], [])
abbrev qX5_condition_2 (u : SX) (q : Int32 × SX) : Prop := StX mdX5_condition_2 u q.2 ∧ (0 ≤ q.1.toInt ∧ q.1.toInt ≤ 1) ∧ (True)

def mdX5_unit_2 : MD := ([2, 4], [14], [], [])
abbrev qX5_unit_2 (u : SX) (q : Int32 × SX) : Prop := StX mdX5_unit_2 u q.2 ∧ (0 ≤ q.1.toInt ∧ q.1.toInt ≤ 1) ∧ (True)

def mdX5_total_2 : MD := ([2, 4], [14], [], [])
abbrev qX5_total_2 (u : SX) (q : Int32 × SX) : Prop := StX mdX5_total_2 u q.2 ∧ (0 ≤ q.1.toInt ∧ q.1.toInt ≤ 1) ∧ (True)

def mdX5_atom_2 : MD := ([2, 4], [14], [], [])
abbrev qX5_atom_2 (u : SX) (q : Int32 × SX) : Prop := StX mdX5_atom_2 u q.2 ∧ (0 ≤ q.1.toInt ∧ q.1.toInt ≤ 1) ∧ (True)

def RCrX5conditiong (rc : Nat → Int32 → Int32 → SX → Option (Int32 × SX)) (dd : Nat) : Prop := (∀ (x1 : Int32) (x2 : Int32) (u : SX), IX u → (0 ≤ x1.toInt ∧ x1.toInt ≤ 6) → (0 ≤ x2.toInt ∧ x2.toInt ≤ 1) → (4 * (6 - x1.toInt) + 4 < (dd : Int)) → Tot (rc 0 x1 x2 u) (qX5_condition_2 u)) ∧ (∀ (x1 : Int32) (x2 : Int32) (u : SX), IX u → (0 ≤ x1.toInt ∧ x1.toInt ≤ 6) → (0 ≤ x2.toInt ∧ x2.toInt ≤ 1) → (4 * (6 - x1.toInt) + 3 < (dd : Int)) → Tot (rc 1 x1 x2 u) (qX5_unit_2 u)) ∧ (∀ (x1 : Int32) (u : SX), IX u → (0 ≤ x1.toInt ∧ x1.toInt ≤ 6) → (4 * (6 - x1.toInt) + 2 < (dd : Int)) → Tot (rc 2 x1 0 u) (qX5_total_2 u)) ∧ (∀ (x1 : Int32) (u : SX), IX u → (0 ≤ x1.toInt ∧ x1.toInt ≤ 6) → (4 * (6 - x1.toInt) + 1 < (dd : Int)) → Tot (rc 3 x1 0 u) (qX5_atom_2 u))

set_option maxHeartbeats 400000 in
set_option maxRecDepth 10000 in
theorem tGX5_condition_2_103 {rc : Nat → Int32 → Int32 → SX → Option (Int32 × SX)} {dd : Nat} (hrc : RCrX5conditiong rc dd) (u0 : SX) (g8 : Int) {k8 : Int32 → Int32 → Int32 → Int32 → Int32 → SX → Option (Int32 × SX)} (hk8 : ∀ (z1 : Int32) (z2 : Int32) (z3 : Int32) (z4 : Int32) (z5 : Int32) (u : SX), (StX mdX5_condition_2 u0 u) → (0 ≤ z1.toInt ∧ z1.toInt ≤ 6) → (0 ≤ z2.toInt ∧ z2.toInt ≤ 1) → (0 ≤ z3.toInt ∧ z3.toInt ≤ 124) → (0 ≤ z4.toInt ∧ z4.toInt ≤ 38) → (0 ≤ z5.toInt ∧ z5.toInt ≤ 121) → (4 * (6 - z1.toInt) + 4 ≤ (dd : Int)) → (g8 < z5.toInt) → Tot (k8 z1 z2 z3 z4 z5 u) (qX5_condition_2 u0)) (z1 : Int32) (z2 : Int32) (z3 : Int32) (z4 : Int32) (z5 : Int32) (u : SX) (hs_u : StX mdX5_condition_2 u0 u) (h0 : 0 ≤ z1.toInt ∧ z1.toInt ≤ 6) (h1 : 0 ≤ z2.toInt ∧ z2.toInt ≤ 1) (h2 : 0 ≤ z3.toInt ∧ z3.toInt ≤ 124) (h3 : 0 ≤ z4.toInt ∧ z4.toInt ≤ 38) (h4 : 0 ≤ z5.toInt ∧ z5.toInt ≤ 120) (h5 : (u.1 4).toInt < (u.1 1).toInt) (h6 : g8 ≤ z5.toInt) (h7 : 4 * (6 - z1.toInt) + 4 ≤ (dd : Int)) : Tot (GX5_condition_2_103 rc k8 z1 z2 z3 z4 z5 u) (qX5_condition_2 u0) := by
  unfold GX5_condition_2_103
  have : 0 ≤ (u.1 4).toInt ∧ (u.1 4).toInt ≤ 120 := hs_u.1.1 4
  have : 0 ≤ (u.1 1).toInt ∧ (u.1 1).toInt ≤ 120 := hs_u.1.1 1
  have : ((u.1 4) + 1).toInt = (u.1 4).toInt + (1 : Int) := addc_t (by decide) (by omega) (by omega)
  refine Tot_lt (fun u11 e_u11 => ?_)
  have hs_u11 : StX mdX5_condition_2 u0 u11 := by rw [e_u11]; exact StX_sI hs_u (by decide) (by show 0 ≤ ((u.1 4) + 1).toInt; omega) (by show ((u.1 4) + 1).toInt ≤ 120; omega)
  have : (z5 + 1).toInt = z5.toInt + (1 : Int) := addc_t (by decide) (by omega) (by omega)
  exact hk8 z1 z2 z3 z4 (z5 + 1) u11 hs_u11 ⟨by omega, by omega⟩ ⟨by omega, by omega⟩ ⟨by omega, by omega⟩ ⟨by omega, by omega⟩ ⟨by omega, by omega⟩ (by omega) (by omega)
set_option maxHeartbeats 400000 in
set_option maxRecDepth 10000 in
theorem tGX5_condition_2_96 {rc : Nat → Int32 → Int32 → SX → Option (Int32 × SX)} {dd : Nat} (hrc : RCrX5conditiong rc dd) (u0 : SX) (g8 : Int) {k8 : Int32 → Int32 → Int32 → Int32 → Int32 → SX → Option (Int32 × SX)} (hk8 : ∀ (z1 : Int32) (z2 : Int32) (z3 : Int32) (z4 : Int32) (z5 : Int32) (u : SX), (StX mdX5_condition_2 u0 u) → (0 ≤ z1.toInt ∧ z1.toInt ≤ 6) → (0 ≤ z2.toInt ∧ z2.toInt ≤ 1) → (0 ≤ z3.toInt ∧ z3.toInt ≤ 124) → (0 ≤ z4.toInt ∧ z4.toInt ≤ 38) → (0 ≤ z5.toInt ∧ z5.toInt ≤ 121) → (4 * (6 - z1.toInt) + 4 ≤ (dd : Int)) → (g8 < z5.toInt) → Tot (k8 z1 z2 z3 z4 z5 u) (qX5_condition_2 u0)) (z1 : Int32) (z2 : Int32) (z4 : Int32) (z5 : Int32) (y0 : Int32) (u : SX) (hs_u : StX mdX5_condition_2 u0 u) (h0 : 0 ≤ z1.toInt ∧ z1.toInt ≤ 6) (h1 : 0 ≤ z2.toInt ∧ z2.toInt ≤ 1) (h2 : 0 ≤ z4.toInt ∧ z4.toInt ≤ 0) (h3 : 0 ≤ z5.toInt ∧ z5.toInt ≤ 120) (h4 : 0 ≤ y0.toInt ∧ y0.toInt ≤ 124) (h5 : y0.toInt ≠ 0 → ((u.1 4).toInt < (u.1 1).toInt)) (h6 : g8 ≤ z5.toInt) (h7 : 4 * (6 - z1.toInt) + 4 ≤ (dd : Int)) : Tot (GX5_condition_2_96 rc k8 z1 z2 z4 z5 y0 u) (qX5_condition_2 u0) := by
  unfold GX5_condition_2_96
  have : 0 ≤ (u.1 4).toInt ∧ (u.1 4).toInt ≤ 120 := hs_u.1.1 4
  have : 0 ≤ (u.1 1).toInt ∧ (u.1 1).toInt ≤ 120 := hs_u.1.1 1
  refine Tot_ite (fun c84 => ?_) (fun c84 => ?_)
  · have : y0.toInt = (0 : Int) := eqI c84
    refine Tot_gd (by decide) ?_
    exact Tot_some ⟨hs_u, (by show 0 ≤ (1 : Int) ∧ (1 : Int) ≤ 1; omega), trivial⟩
  · have : ¬ y0.toInt = (0 : Int) := neI c84
    exact tGX5_condition_2_103 hrc u0 g8 hk8 z1 z2 y0 z4 z5 u hs_u ⟨by omega, by omega⟩ ⟨by omega, by omega⟩ ⟨by omega, by omega⟩ ⟨by omega, by omega⟩ ⟨by omega, by omega⟩ (by omega) (by omega) (by omega)
set_option maxHeartbeats 400000 in
set_option maxRecDepth 10000 in
theorem tGX5_condition_2_70 {rc : Nat → Int32 → Int32 → SX → Option (Int32 × SX)} {dd : Nat} (hrc : RCrX5conditiong rc dd) (u0 : SX) (g8 : Int) {k8 : Int32 → Int32 → Int32 → Int32 → Int32 → SX → Option (Int32 × SX)} (hk8 : ∀ (z1 : Int32) (z2 : Int32) (z3 : Int32) (z4 : Int32) (z5 : Int32) (u : SX), (StX mdX5_condition_2 u0 u) → (0 ≤ z1.toInt ∧ z1.toInt ≤ 6) → (0 ≤ z2.toInt ∧ z2.toInt ≤ 1) → (0 ≤ z3.toInt ∧ z3.toInt ≤ 124) → (0 ≤ z4.toInt ∧ z4.toInt ≤ 38) → (0 ≤ z5.toInt ∧ z5.toInt ≤ 121) → (4 * (6 - z1.toInt) + 4 ≤ (dd : Int)) → (g8 < z5.toInt) → Tot (k8 z1 z2 z3 z4 z5 u) (qX5_condition_2 u0)) (z1 : Int32) (z2 : Int32) (z3 : Int32) (z5 : Int32) (z6 : Int32) (y0 : Int32) (u : SX) (hs_u : StX mdX5_condition_2 u0 u) (h0 : 0 ≤ z1.toInt ∧ z1.toInt ≤ 6) (h1 : 0 ≤ z2.toInt ∧ z2.toInt ≤ 1) (h2 : 0 ≤ z3.toInt ∧ z3.toInt ≤ 124) (h3 : 0 ≤ z5.toInt ∧ z5.toInt ≤ 120) (h4 : 0 ≤ z6.toInt ∧ z6.toInt ≤ 255) (h5 : 0 ≤ y0.toInt ∧ y0.toInt ≤ 38) (h6 : y0.toInt ≠ 0 → ((u.1 4).toInt < (u.1 1).toInt)) (h7 : z6.toInt ≠ 0 → ((u.1 4).toInt < (u.1 1).toInt)) (h8 : g8 ≤ z5.toInt) (h9 : 4 * (6 - z1.toInt) + 4 ≤ (dd : Int)) : Tot (GX5_condition_2_70 rc k8 z1 z2 z3 z5 z6 y0 u) (qX5_condition_2 u0) := by
  unfold GX5_condition_2_70
  have : 0 ≤ (u.1 4).toInt ∧ (u.1 4).toInt ≤ 120 := hs_u.1.1 4
  have : 0 ≤ (u.1 1).toInt ∧ (u.1 1).toInt ≤ 120 := hs_u.1.1 1
  refine Tot_ite (fun c85 => ?_) (fun c85 => ?_)
  · have : y0.toInt = (0 : Int) := eqI c85
    refine Tot_bind (tfX5_emit_2 z3 0 u hs_u.1 ⟨by omega, by omega⟩ (by show (z3.toInt = 121 → (0 ≤ (0 : Int) ∧ (0 : Int) ≤ 255)); omega)) (fun q hq => ?_)
    obtain ⟨r13, u14⟩ := q
    have hc_u14 : StX mdX5_emit_2 u u14 := hq.1
    have hs_u14 : StX mdX5_condition_2 u0 u14 := StX_tr hs_u hc_u14 (by decide)
    have : 0 ≤ r13.toInt ∧ r13.toInt ≤ 0 := hq.2.1
    refine Tot_ite (fun c86 => ?_) (fun c86 => ?_)
    · have : z6.toInt = (124 : Int) := eqI c86
      have : (u14.1 4).toInt = (u.1 4).toInt := congrArg Int32.toInt (hc_u14.2.1 4 (by decide))
      have : (u14.1 1).toInt = (u.1 1).toInt := congrArg Int32.toInt (hc_u14.2.1 1 (by decide))
      exact tGX5_condition_2_96 hrc u0 g8 hk8 z1 z2 y0 z5 z6 u14 hs_u14 ⟨by omega, by omega⟩ ⟨by omega, by omega⟩ ⟨by omega, by omega⟩ ⟨by omega, by omega⟩ ⟨by omega, by omega⟩ (by omega) (by omega) (by omega)
    · have : ¬ z6.toInt = (124 : Int) := neI c86
      have : (u14.1 4).toInt = (u.1 4).toInt := congrArg Int32.toInt (hc_u14.2.1 4 (by decide))
      have : (u14.1 1).toInt = (u.1 1).toInt := congrArg Int32.toInt (hc_u14.2.1 1 (by decide))
      exact tGX5_condition_2_96 hrc u0 g8 hk8 z1 z2 y0 z5 0 u14 hs_u14 ⟨by omega, by omega⟩ ⟨by omega, by omega⟩ ⟨by omega, by omega⟩ ⟨by omega, by omega⟩ (by show 0 ≤ (0 : Int) ∧ (0 : Int) ≤ 124; omega) (by show (0 : Int) ≠ 0 → ((u14.1 4).toInt < (u14.1 1).toInt); omega) (by omega) (by omega)
  · have : ¬ y0.toInt = (0 : Int) := neI c85
    exact tGX5_condition_2_103 hrc u0 g8 hk8 z1 z2 z3 y0 z5 u hs_u ⟨by omega, by omega⟩ ⟨by omega, by omega⟩ ⟨by omega, by omega⟩ ⟨by omega, by omega⟩ ⟨by omega, by omega⟩ (by omega) (by omega) (by omega)
set_option maxHeartbeats 400000 in
set_option maxRecDepth 10000 in
theorem tGX5_condition_2_36 {rc : Nat → Int32 → Int32 → SX → Option (Int32 × SX)} {dd : Nat} (hrc : RCrX5conditiong rc dd) (u0 : SX) (g8 : Int) {k8 : Int32 → Int32 → Int32 → Int32 → Int32 → SX → Option (Int32 × SX)} (hk8 : ∀ (z1 : Int32) (z2 : Int32) (z3 : Int32) (z4 : Int32) (z5 : Int32) (u : SX), (StX mdX5_condition_2 u0 u) → (0 ≤ z1.toInt ∧ z1.toInt ≤ 6) → (0 ≤ z2.toInt ∧ z2.toInt ≤ 1) → (0 ≤ z3.toInt ∧ z3.toInt ≤ 124) → (0 ≤ z4.toInt ∧ z4.toInt ≤ 38) → (0 ≤ z5.toInt ∧ z5.toInt ≤ 121) → (4 * (6 - z1.toInt) + 4 ≤ (dd : Int)) → (g8 < z5.toInt) → Tot (k8 z1 z2 z3 z4 z5 u) (qX5_condition_2 u0)) (z1 : Int32) (z2 : Int32) (z3 : Int32) (z4 : Int32) (z5 : Int32) (y0 : Int32) (y1 : Int32) (u : SX) (hs_u : StX mdX5_condition_2 u0 u) (h0 : 0 ≤ z1.toInt ∧ z1.toInt ≤ 6) (h1 : 0 ≤ z2.toInt ∧ z2.toInt ≤ 1) (h2 : 0 ≤ z3.toInt ∧ z3.toInt ≤ 124) (h3 : 0 ≤ z4.toInt ∧ z4.toInt ≤ 38) (h4 : 0 ≤ z5.toInt ∧ z5.toInt ≤ 120) (h5 : 0 ≤ y0.toInt ∧ y0.toInt ≤ 1) (h6 : 0 ≤ y1.toInt ∧ y1.toInt ≤ 6) (h7 : y1.toInt = z1.toInt) (h8 : g8 ≤ z5.toInt) (h9 : 4 * (6 - z1.toInt) + 4 ≤ (dd : Int)) : Tot (GX5_condition_2_36 rc k8 z1 z2 z3 z4 z5 y0 y1 u) (qX5_condition_2 u0) := by
  unfold GX5_condition_2_36
  refine Tot_bind (hrc.2.1 y1 y0 u hs_u.1 ⟨by omega, by omega⟩ ⟨by omega, by omega⟩ (by show 4 * (6 - y1.toInt) + 3 < (dd : Int); omega)) (fun q hq => ?_)
  obtain ⟨r2, u3⟩ := q
  have hc_u3 : StX mdX5_unit_2 u u3 := hq.1
  have hs_u3 : StX mdX5_condition_2 u0 u3 := StX_tr hs_u hc_u3 (by decide)
  have : 0 ≤ r2.toInt ∧ r2.toInt ≤ 1 := hq.2.1
  refine Tot_ite (fun c87 => ?_) (fun c87 => ?_)
  · have : r2.toInt = (0 : Int) := eqI c87
    refine Tot_gd (by decide) ?_
    exact Tot_some ⟨hs_u3, (by show 0 ≤ (0 : Int) ∧ (0 : Int) ≤ 1; omega), trivial⟩
  · have : ¬ r2.toInt = (0 : Int) := neI c87
    refine Tot_bind (tfX5_emit_2 z4 0 u3 hs_u3.1 ⟨by omega, by omega⟩ (by show (z4.toInt = 121 → (0 ≤ (0 : Int) ∧ (0 : Int) ≤ 255)); omega)) (fun q hq => ?_)
    obtain ⟨r5, u6⟩ := q
    have hc_u6 : StX mdX5_emit_2 u3 u6 := hq.1
    have hs_u6 : StX mdX5_condition_2 u0 u6 := StX_tr hs_u3 hc_u6 (by decide)
    have : 0 ≤ r5.toInt ∧ r5.toInt ≤ 0 := hq.2.1
    refine Tot_bind (tfX5_peek_2 u6 hs_u6.1) (fun q hq => ?_)
    obtain ⟨r8, u9⟩ := q
    have hc_u9 : StX mdX5_peek_2 u6 u9 := hq.1
    have hs_u9 : StX mdX5_condition_2 u0 u9 := StX_tr hs_u6 hc_u9 (by decide)
    have : 0 ≤ r8.toInt ∧ r8.toInt ≤ 255 := hq.2.1
    have : 0 ≤ (u9.1 4).toInt ∧ (u9.1 4).toInt ≤ 120 := hs_u9.1.1 4
    have : (u9.1 1).toInt = (u6.1 1).toInt := congrArg Int32.toInt (hc_u9.2.1 1 (by decide))
    have : (u6.1 1).toInt = (u3.1 1).toInt := congrArg Int32.toInt (hc_u6.2.1 1 (by decide))
    have : (u3.1 1).toInt = (u.1 1).toInt := congrArg Int32.toInt (hc_u3.2.1 1 (by decide))
    have : 0 ≤ (u.1 1).toInt ∧ (u.1 1).toInt ≤ 120 := hs_u.1.1 1
    have : r8.toInt ≠ 0 → ((u9.1 4).toInt < (u9.1 1).toInt) := hq.2.2
    refine Tot_ite (fun c88 => ?_) (fun c88 => ?_)
    · have : r8.toInt = (38 : Int) := eqI c88
      exact tGX5_condition_2_70 hrc u0 g8 hk8 z1 z2 z3 z5 r8 r8 u9 hs_u9 ⟨by omega, by omega⟩ ⟨by omega, by omega⟩ ⟨by omega, by omega⟩ ⟨by omega, by omega⟩ ⟨by omega, by omega⟩ ⟨by omega, by omega⟩ (by omega) (by omega) (by omega) (by omega)
    · have : ¬ r8.toInt = (38 : Int) := neI c88
      exact tGX5_condition_2_70 hrc u0 g8 hk8 z1 z2 z3 z5 r8 0 u9 hs_u9 ⟨by omega, by omega⟩ ⟨by omega, by omega⟩ ⟨by omega, by omega⟩ ⟨by omega, by omega⟩ ⟨by omega, by omega⟩ (by show 0 ≤ (0 : Int) ∧ (0 : Int) ≤ 38; omega) (by show (0 : Int) ≠ 0 → ((u9.1 4).toInt < (u9.1 1).toInt); omega) (by omega) (by omega) (by omega)
set_option maxHeartbeats 400000 in
set_option maxRecDepth 10000 in
theorem tGX5_condition_2_35 {rc : Nat → Int32 → Int32 → SX → Option (Int32 × SX)} {dd : Nat} (hrc : RCrX5conditiong rc dd) (u0 : SX) (g8 : Int) {k8 : Int32 → Int32 → Int32 → Int32 → Int32 → SX → Option (Int32 × SX)} (hk8 : ∀ (z1 : Int32) (z2 : Int32) (z3 : Int32) (z4 : Int32) (z5 : Int32) (u : SX), (StX mdX5_condition_2 u0 u) → (0 ≤ z1.toInt ∧ z1.toInt ≤ 6) → (0 ≤ z2.toInt ∧ z2.toInt ≤ 1) → (0 ≤ z3.toInt ∧ z3.toInt ≤ 124) → (0 ≤ z4.toInt ∧ z4.toInt ≤ 38) → (0 ≤ z5.toInt ∧ z5.toInt ≤ 121) → (4 * (6 - z1.toInt) + 4 ≤ (dd : Int)) → (g8 < z5.toInt) → Tot (k8 z1 z2 z3 z4 z5 u) (qX5_condition_2 u0)) (z1 : Int32) (z2 : Int32) (z3 : Int32) (z4 : Int32) (z5 : Int32) (y0 : Int32) (u : SX) (hs_u : StX mdX5_condition_2 u0 u) (h0 : 0 ≤ z1.toInt ∧ z1.toInt ≤ 6) (h1 : 0 ≤ z2.toInt ∧ z2.toInt ≤ 1) (h2 : 0 ≤ z3.toInt ∧ z3.toInt ≤ 124) (h3 : 0 ≤ z4.toInt ∧ z4.toInt ≤ 38) (h4 : 0 ≤ z5.toInt ∧ z5.toInt ≤ 120) (h5 : 0 ≤ y0.toInt ∧ y0.toInt ≤ 6) (h6 : y0.toInt = z1.toInt) (h7 : g8 ≤ z5.toInt) (h8 : 4 * (6 - z1.toInt) + 4 ≤ (dd : Int)) : Tot (GX5_condition_2_35 rc k8 z1 z2 z3 z4 z5 y0 u) (qX5_condition_2 u0) := by
  unfold GX5_condition_2_35
  exact tGX5_condition_2_36 hrc u0 g8 hk8 z1 z2 z3 z4 z5 0 y0 u hs_u ⟨by omega, by omega⟩ ⟨by omega, by omega⟩ ⟨by omega, by omega⟩ ⟨by omega, by omega⟩ ⟨by omega, by omega⟩ (by show 0 ≤ (0 : Int) ∧ (0 : Int) ≤ 1; omega) ⟨by omega, by omega⟩ (by omega) (by omega) (by omega)
set_option maxHeartbeats 400000 in
set_option maxRecDepth 10000 in
theorem tLX5_condition_2_8 {rc : Nat → Int32 → Int32 → SX → Option (Int32 × SX)} {dd : Nat} (hrc : RCrX5conditiong rc dd) (u0 : SX)    : ∀ (n : Nat) (z1 : Int32) (z2 : Int32) (z3 : Int32) (z4 : Int32) (z5 : Int32) (u : SX), (StX mdX5_condition_2 u0 u) → (0 ≤ z1.toInt ∧ z1.toInt ≤ 6) → (0 ≤ z2.toInt ∧ z2.toInt ≤ 1) → (0 ≤ z3.toInt ∧ z3.toInt ≤ 124) → (0 ≤ z4.toInt ∧ z4.toInt ≤ 38) → (0 ≤ z5.toInt ∧ z5.toInt ≤ 121) → (4 * (6 - z1.toInt) + 4 ≤ (dd : Int)) → (121 - z5.toInt < (n : Int)) → Tot (LX5_condition_2_8 rc n z1 z2 z3 z4 z5 u) (qX5_condition_2 u0) := by
  intro n
  induction n with
  | zero =>
    intro z1 z2 z3 z4 z5 u hs_u h0 h1 h2 h3 h4 h5 hm
    exfalso
    omega
  | succ n ih =>
    intro z1 z2 z3 z4 z5 u hs_u h0 h1 h2 h3 h4 h5 hm
    rw [LX5_condition_2_8]
    have : 0 ≤ (u.1 1).toInt ∧ (u.1 1).toInt ≤ 120 := hs_u.1.1 1
    refine Tot_ite (fun c89 => ?_) (fun c89 => ?_)
    · have : (u.1 1).toInt < z5.toInt := ltI c89
      refine Tot_gd (by decide) ?_
      exact Tot_some ⟨hs_u, (by show 0 ≤ (0 : Int) ∧ (0 : Int) ≤ 1; omega), trivial⟩
    · have : ¬ (u.1 1).toInt < z5.toInt := nltI c89
      refine Tot_ite (fun c90 => ?_) (fun c90 => ?_)
      · have : z2.toInt = (0 : Int) := eqI c90
        exact tGX5_condition_2_35 hrc u0 (z5.toInt) (fun a91 a92 a93 a94 a95 w96 hw96 p97 p98 p99 p100 p101 p102 p103 => ih a91 a92 a93 a94 a95 w96 hw96 p97 p98 p99 p100 p101 p102 (by omega)) z1 z2 z3 z4 z5 z1 u hs_u ⟨by omega, by omega⟩ ⟨by omega, by omega⟩ ⟨by omega, by omega⟩ ⟨by omega, by omega⟩ ⟨by omega, by omega⟩ ⟨by omega, by omega⟩ (by omega) (by omega) (by omega)
      · have : ¬ z2.toInt = (0 : Int) := neI c90
        refine Tot_ite (fun c104 => ?_) (fun c104 => ?_)
        · have : z5.toInt = (0 : Int) := eqI c104
          exact tGX5_condition_2_36 hrc u0 (z5.toInt) (fun a105 a106 a107 a108 a109 w110 hw110 p111 p112 p113 p114 p115 p116 p117 => ih a105 a106 a107 a108 a109 w110 hw110 p111 p112 p113 p114 p115 p116 (by omega)) z1 z2 z3 z4 z5 1 z1 u hs_u ⟨by omega, by omega⟩ ⟨by omega, by omega⟩ ⟨by omega, by omega⟩ ⟨by omega, by omega⟩ ⟨by omega, by omega⟩ (by show 0 ≤ (1 : Int) ∧ (1 : Int) ≤ 1; omega) ⟨by omega, by omega⟩ (by omega) (by omega) (by omega)
        · have : ¬ z5.toInt = (0 : Int) := neI c104
          exact tGX5_condition_2_35 hrc u0 (z5.toInt) (fun a118 a119 a120 a121 a122 w123 hw123 p124 p125 p126 p127 p128 p129 p130 => ih a118 a119 a120 a121 a122 w123 hw123 p124 p125 p126 p127 p128 p129 (by omega)) z1 z2 z3 z4 z5 z1 u hs_u ⟨by omega, by omega⟩ ⟨by omega, by omega⟩ ⟨by omega, by omega⟩ ⟨by omega, by omega⟩ ⟨by omega, by omega⟩ ⟨by omega, by omega⟩ (by omega) (by omega) (by omega)
set_option maxHeartbeats 400000 in
set_option maxRecDepth 10000 in
theorem tfX5_condition_2 {rc : Nat → Int32 → Int32 → SX → Option (Int32 × SX)} {dd : Nat} (hrc : RCrX5conditiong rc dd) (x1 : Int32) (x2 : Int32) (u : SX) (hI : IX u) (h0 : 0 ≤ x1.toInt ∧ x1.toInt ≤ 6) (h1 : 0 ≤ x2.toInt ∧ x2.toInt ≤ 1) (h2 : 4 * (6 - x1.toInt) + 4 ≤ (dd : Int)) : Tot (fX5_condition_2 rc x1 x2 u) (qX5_condition_2 u) := by
  unfold fX5_condition_2
  have hs_u : StX mdX5_condition_2 u u := StX_rf hI
  exact tLX5_condition_2_8 hrc u 5000 x1 x2 0 0 0 u hs_u ⟨by omega, by omega⟩ ⟨by omega, by omega⟩ (by show 0 ≤ (0 : Int) ∧ (0 : Int) ≤ 124; omega) (by show 0 ≤ (0 : Int) ∧ (0 : Int) ≤ 38; omega) (by show 0 ≤ (0 : Int) ∧ (0 : Int) ≤ 121; omega) (by omega) (by show 121 - (0 : Int) < ((5000 : Nat) : Int); omega)

set_option maxHeartbeats 400000 in
set_option maxRecDepth 10000 in
theorem tGX5_unit_2_116 {rc : Nat → Int32 → Int32 → SX → Option (Int32 × SX)} {dd : Nat} (hrc : RCrX5conditiong rc dd) (u0 : SX)    (z1 : Int32) (u : SX) (hs_u : StX mdX5_unit_2 u0 u) (h0 : 0 ≤ z1.toInt ∧ z1.toInt ≤ 6) (h1 : 4 * (6 - z1.toInt) + 3 ≤ (dd : Int)) : Tot (GX5_unit_2_116 rc z1 u) (qX5_unit_2 u0) := by
  unfold GX5_unit_2_116
  refine Tot_bind (tfX5_peek_2 u hs_u.1) (fun q hq => ?_)
  obtain ⟨r4, u5⟩ := q
  have hc_u5 : StX mdX5_peek_2 u u5 := hq.1
  have hs_u5 : StX mdX5_unit_2 u0 u5 := StX_tr hs_u hc_u5 (by decide)
  have : 0 ≤ r4.toInt ∧ r4.toInt ≤ 255 := hq.2.1
  have : 0 ≤ (u5.1 4).toInt ∧ (u5.1 4).toInt ≤ 120 := hs_u5.1.1 4
  have : (u5.1 1).toInt = (u.1 1).toInt := congrArg Int32.toInt (hc_u5.2.1 1 (by decide))
  have : 0 ≤ (u.1 1).toInt ∧ (u.1 1).toInt ≤ 120 := hs_u.1.1 1
  have : r4.toInt ≠ 0 → ((u5.1 4).toInt < (u5.1 1).toInt) := hq.2.2
  refine Tot_bind (tfX5_compares r4 ⟨by omega, by omega⟩) (fun r7 hq => ?_)
  have : 0 ≤ r7.toInt ∧ r7.toInt ≤ 1 := hq.1
  have : r7.toInt ≠ 0 → ((60 : Int) ≤ r4.toInt ∧ r4.toInt ≤ (62 : Int)) := hq.2
  refine Tot_ite (fun c131 => ?_) (fun c131 => ?_)
  · have : r7.toInt = (0 : Int) := eqI c131
    refine Tot_gd (by decide) ?_
    exact Tot_some ⟨hs_u5, (by show 0 ≤ (0 : Int) ∧ (0 : Int) ≤ 1; omega), trivial⟩
  · have : ¬ r7.toInt = (0 : Int) := neI c131
    have : ((u5.1 4) + 1).toInt = (u5.1 4).toInt + (1 : Int) := addc_t (by decide) (by omega) (by omega)
    refine Tot_lt (fun u10 e_u10 => ?_)
    have hs_u10 : StX mdX5_unit_2 u0 u10 := by rw [e_u10]; exact StX_sI hs_u5 (by decide) (by show 0 ≤ ((u5.1 4) + 1).toInt; omega) (by show ((u5.1 4) + 1).toInt ≤ 120; omega)
    refine Tot_bind (hrc.2.2.1 z1 u10 hs_u10.1 ⟨by omega, by omega⟩ (by show 4 * (6 - z1.toInt) + 2 < (dd : Int); omega)) (fun q hq => ?_)
    obtain ⟨r12, u13⟩ := q
    have hc_u13 : StX mdX5_total_2 u10 u13 := hq.1
    have hs_u13 : StX mdX5_unit_2 u0 u13 := StX_tr hs_u10 hc_u13 (by decide)
    have : 0 ≤ r12.toInt ∧ r12.toInt ≤ 1 := hq.2.1
    refine Tot_bind (tfX5_emit_2 r4 0 u13 hs_u13.1 ⟨by omega, by omega⟩ (by show (r4.toInt = 121 → (0 ≤ (0 : Int) ∧ (0 : Int) ≤ 255)); omega)) (fun q hq => ?_)
    obtain ⟨r15, u16⟩ := q
    have hc_u16 : StX mdX5_emit_2 u13 u16 := hq.1
    have hs_u16 : StX mdX5_unit_2 u0 u16 := StX_tr hs_u13 hc_u16 (by decide)
    have : 0 ≤ r15.toInt ∧ r15.toInt ≤ 0 := hq.2.1
    refine Tot_gd (isB_t (by omega) (by omega)) ?_
    exact Tot_some ⟨hs_u16, (by show 0 ≤ r12.toInt ∧ r12.toInt ≤ 1; omega), trivial⟩
set_option maxHeartbeats 400000 in
set_option maxRecDepth 10000 in
theorem tGX5_unit_2_102 {rc : Nat → Int32 → Int32 → SX → Option (Int32 × SX)} {dd : Nat} (hrc : RCrX5conditiong rc dd) (u0 : SX)    (z1 : Int32) (z2 : Int32) (u : SX) (hs_u : StX mdX5_unit_2 u0 u) (h0 : 0 ≤ z1.toInt ∧ z1.toInt ≤ 6) (h1 : 0 ≤ z2.toInt ∧ z2.toInt ≤ 1) (h2 : 4 * (6 - z1.toInt) + 3 ≤ (dd : Int)) : Tot (GX5_unit_2_102 rc z1 z2 u) (qX5_unit_2 u0) := by
  unfold GX5_unit_2_102
  refine Tot_ite (fun c132 => ?_) (fun c132 => ?_)
  · have : z2.toInt = (0 : Int) := eqI c132
    refine Tot_bind (hrc.2.2.1 z1 u hs_u.1 ⟨by omega, by omega⟩ (by show 4 * (6 - z1.toInt) + 2 < (dd : Int); omega)) (fun q hq => ?_)
    obtain ⟨r20, u21⟩ := q
    have hc_u21 : StX mdX5_total_2 u u21 := hq.1
    have hs_u21 : StX mdX5_unit_2 u0 u21 := StX_tr hs_u hc_u21 (by decide)
    have : 0 ≤ r20.toInt ∧ r20.toInt ≤ 1 := hq.2.1
    refine Tot_ite (fun c133 => ?_) (fun c133 => ?_)
    · have : r20.toInt = (0 : Int) := eqI c133
      refine Tot_gd (by decide) ?_
      exact Tot_some ⟨hs_u21, (by show 0 ≤ (0 : Int) ∧ (0 : Int) ≤ 1; omega), trivial⟩
    · have : ¬ r20.toInt = (0 : Int) := neI c133
      exact tGX5_unit_2_116 hrc u0 z1 u21 hs_u21 ⟨by omega, by omega⟩ (by omega)
  · have : ¬ z2.toInt = (0 : Int) := neI c132
    exact tGX5_unit_2_116 hrc u0 z1 u hs_u ⟨by omega, by omega⟩ (by omega)
set_option maxHeartbeats 400000 in
set_option maxRecDepth 10000 in
theorem tGX5_unit_2_50 {rc : Nat → Int32 → Int32 → SX → Option (Int32 × SX)} {dd : Nat} (hrc : RCrX5conditiong rc dd) (u0 : SX)    (z1 : Int32) (z2 : Int32) (z3 : Int32) (u : SX) (hs_u : StX mdX5_unit_2 u0 u) (h0 : 0 ≤ z1.toInt ∧ z1.toInt ≤ 6) (h1 : 0 ≤ z2.toInt ∧ z2.toInt ≤ 1) (h2 : 0 ≤ z3.toInt ∧ z3.toInt ≤ 255) (h3 : z3.toInt ≠ 0 → ((u.1 4).toInt < (u.1 1).toInt)) (h4 : 4 * (6 - z1.toInt) + 3 ≤ (dd : Int)) : Tot (GX5_unit_2_50 rc z1 z2 z3 u) (qX5_unit_2 u0) := by
  unfold GX5_unit_2_50
  have : 0 ≤ (u.1 4).toInt ∧ (u.1 4).toInt ≤ 120 := hs_u.1.1 4
  have : 0 ≤ (u.1 1).toInt ∧ (u.1 1).toInt ≤ 120 := hs_u.1.1 1
  refine Tot_ite (fun c134 => ?_) (fun c134 => ?_)
  · have : z2.toInt = (0 : Int) := eqI c134
    refine Tot_ite (fun c135 => ?_) (fun c135 => ?_)
    · have : (6 : Int) ≤ z1.toInt := leI c135
      exact tGX5_unit_2_102 hrc u0 z1 z2 u hs_u ⟨by omega, by omega⟩ ⟨by omega, by omega⟩ (by omega)
    · have : ¬ (6 : Int) ≤ z1.toInt := nleI c135
      refine Tot_ite (fun c136 => ?_) (fun c136 => ?_)
      · have : z3.toInt = (40 : Int) := eqI c136
        have : ((u.1 4) + 1).toInt = (u.1 4).toInt + (1 : Int) := addc_t (by decide) (by omega) (by omega)
        refine Tot_lt (fun u24 e_u24 => ?_)
        have hs_u24 : StX mdX5_unit_2 u0 u24 := by rw [e_u24]; exact StX_sI hs_u (by decide) (by show 0 ≤ ((u.1 4) + 1).toInt; omega) (by show ((u.1 4) + 1).toInt ≤ 120; omega)
        have : (z1 + 1).toInt = z1.toInt + (1 : Int) := addc_t (by decide) (by omega) (by omega)
        refine Tot_bind (hrc.1 (z1 + 1) 0 u24 hs_u24.1 ⟨by omega, by omega⟩ (by show 0 ≤ (0 : Int) ∧ (0 : Int) ≤ 1; omega) (by show 4 * (6 - (z1 + 1).toInt) + 4 < (dd : Int); omega)) (fun q hq => ?_)
        obtain ⟨r26, u27⟩ := q
        have hc_u27 : StX mdX5_condition_2 u24 u27 := hq.1
        have hs_u27 : StX mdX5_unit_2 u0 u27 := StX_tr hs_u24 hc_u27 (by decide)
        have : 0 ≤ r26.toInt ∧ r26.toInt ≤ 1 := hq.2.1
        refine Tot_ite (fun c137 => ?_) (fun c137 => ?_)
        · have : r26.toInt = (0 : Int) := eqI c137
          refine Tot_gd (by decide) ?_
          exact Tot_some ⟨hs_u27, (by show 0 ≤ (0 : Int) ∧ (0 : Int) ≤ 1; omega), trivial⟩
        · have : ¬ r26.toInt = (0 : Int) := neI c137
          refine Tot_bind (tfX5_takes_2 41 u27 hs_u27.1 (by show 41 ≤ (41 : Int) ∧ (41 : Int) ≤ 121; omega)) (fun q hq => ?_)
          obtain ⟨r30, u31⟩ := q
          have hc_u31 : StX mdX5_takes_2 u27 u31 := hq.1
          have hs_u31 : StX mdX5_unit_2 u0 u31 := StX_tr hs_u27 hc_u31 (by decide)
          have : 0 ≤ r30.toInt ∧ r30.toInt ≤ 1 := hq.2.1
          refine Tot_ite (fun c138 => ?_) (fun c138 => ?_)
          · have : r30.toInt = (0 : Int) := eqI c138
            refine Tot_gd (by decide) ?_
            exact Tot_some ⟨hs_u31, (by show 0 ≤ (0 : Int) ∧ (0 : Int) ≤ 1; omega), trivial⟩
          · have : ¬ r30.toInt = (0 : Int) := neI c138
            refine Tot_gd (by decide) ?_
            exact Tot_some ⟨hs_u31, (by show 0 ≤ (1 : Int) ∧ (1 : Int) ≤ 1; omega), trivial⟩
      · have : ¬ z3.toInt = (40 : Int) := neI c136
        exact tGX5_unit_2_102 hrc u0 z1 z2 u hs_u ⟨by omega, by omega⟩ ⟨by omega, by omega⟩ (by omega)
  · have : ¬ z2.toInt = (0 : Int) := neI c134
    exact tGX5_unit_2_102 hrc u0 z1 z2 u hs_u ⟨by omega, by omega⟩ ⟨by omega, by omega⟩ (by omega)
set_option maxHeartbeats 400000 in
set_option maxRecDepth 10000 in
theorem tfX5_unit_2 {rc : Nat → Int32 → Int32 → SX → Option (Int32 × SX)} {dd : Nat} (hrc : RCrX5conditiong rc dd) (x1 : Int32) (x2 : Int32) (u : SX) (hI : IX u) (h0 : 0 ≤ x1.toInt ∧ x1.toInt ≤ 6) (h1 : 0 ≤ x2.toInt ∧ x2.toInt ≤ 1) (h2 : 4 * (6 - x1.toInt) + 3 ≤ (dd : Int)) : Tot (fX5_unit_2 rc x1 x2 u) (qX5_unit_2 u) := by
  unfold fX5_unit_2
  have hs_u : StX mdX5_unit_2 u u := StX_rf hI
  refine Tot_bind (tfX5_peek_2 u hs_u.1) (fun q hq => ?_)
  obtain ⟨r1, u2⟩ := q
  have hc_u2 : StX mdX5_peek_2 u u2 := hq.1
  have hs_u2 : StX mdX5_unit_2 u u2 := StX_tr hs_u hc_u2 (by decide)
  have : 0 ≤ r1.toInt ∧ r1.toInt ≤ 255 := hq.2.1
  have : 0 ≤ (u2.1 4).toInt ∧ (u2.1 4).toInt ≤ 120 := hs_u2.1.1 4
  have : (u2.1 1).toInt = (u.1 1).toInt := congrArg Int32.toInt (hc_u2.2.1 1 (by decide))
  have : 0 ≤ (u.1 1).toInt ∧ (u.1 1).toInt ≤ 120 := hs_u.1.1 1
  have : r1.toInt ≠ 0 → ((u2.1 4).toInt < (u2.1 1).toInt) := hq.2.2
  refine Tot_ite (fun c139 => ?_) (fun c139 => ?_)
  · have : x2.toInt = (0 : Int) := eqI c139
    refine Tot_ite (fun c140 => ?_) (fun c140 => ?_)
    · have : (6 : Int) ≤ x1.toInt := leI c140
      exact tGX5_unit_2_50 hrc u x1 x2 r1 u2 hs_u2 ⟨by omega, by omega⟩ ⟨by omega, by omega⟩ ⟨by omega, by omega⟩ (by omega) (by omega)
    · have : ¬ (6 : Int) ≤ x1.toInt := nleI c140
      refine Tot_ite (fun c141 => ?_) (fun c141 => ?_)
      · have : r1.toInt = (33 : Int) := eqI c141
        have : ((u2.1 4) + 1).toInt = (u2.1 4).toInt + (1 : Int) := addc_t (by decide) (by omega) (by omega)
        refine Tot_lt (fun u35 e_u35 => ?_)
        have hs_u35 : StX mdX5_unit_2 u u35 := by rw [e_u35]; exact StX_sI hs_u2 (by decide) (by show 0 ≤ ((u2.1 4) + 1).toInt; omega) (by show ((u2.1 4) + 1).toInt ≤ 120; omega)
        have : (x1 + 1).toInt = x1.toInt + (1 : Int) := addc_t (by decide) (by omega) (by omega)
        refine Tot_bind (hrc.2.1 (x1 + 1) 0 u35 hs_u35.1 ⟨by omega, by omega⟩ (by show 0 ≤ (0 : Int) ∧ (0 : Int) ≤ 1; omega) (by show 4 * (6 - (x1 + 1).toInt) + 3 < (dd : Int); omega)) (fun q hq => ?_)
        obtain ⟨r37, u38⟩ := q
        have hc_u38 : StX mdX5_unit_2 u35 u38 := hq.1
        have hs_u38 : StX mdX5_unit_2 u u38 := StX_tr hs_u35 hc_u38 (by decide)
        have : 0 ≤ r37.toInt ∧ r37.toInt ≤ 1 := hq.2.1
        refine Tot_bind (tfX5_emit_2 r1 0 u38 hs_u38.1 ⟨by omega, by omega⟩ (by show (r1.toInt = 121 → (0 ≤ (0 : Int) ∧ (0 : Int) ≤ 255)); omega)) (fun q hq => ?_)
        obtain ⟨r40, u41⟩ := q
        have hc_u41 : StX mdX5_emit_2 u38 u41 := hq.1
        have hs_u41 : StX mdX5_unit_2 u u41 := StX_tr hs_u38 hc_u41 (by decide)
        have : 0 ≤ r40.toInt ∧ r40.toInt ≤ 0 := hq.2.1
        refine Tot_gd (isB_t (by omega) (by omega)) ?_
        exact Tot_some ⟨hs_u41, (by show 0 ≤ r37.toInt ∧ r37.toInt ≤ 1; omega), trivial⟩
      · have : ¬ r1.toInt = (33 : Int) := neI c141
        exact tGX5_unit_2_50 hrc u x1 x2 r1 u2 hs_u2 ⟨by omega, by omega⟩ ⟨by omega, by omega⟩ ⟨by omega, by omega⟩ (by omega) (by omega)
  · have : ¬ x2.toInt = (0 : Int) := neI c139
    exact tGX5_unit_2_50 hrc u x1 x2 r1 u2 hs_u2 ⟨by omega, by omega⟩ ⟨by omega, by omega⟩ ⟨by omega, by omega⟩ (by omega) (by omega)

set_option maxHeartbeats 400000 in
set_option maxRecDepth 10000 in
theorem tGX5_total_2_99 {rc : Nat → Int32 → Int32 → SX → Option (Int32 × SX)} {dd : Nat} (hrc : RCrX5conditiong rc dd) (u0 : SX) (g7 : Int) {k7 : Int32 → Int32 → Int32 → Int32 → SX → Option (Int32 × SX)} (hk7 : ∀ (z1 : Int32) (z2 : Int32) (z3 : Int32) (z4 : Int32) (u : SX), (StX mdX5_total_2 u0 u) → (0 ≤ z1.toInt ∧ z1.toInt ≤ 6) → (0 ≤ z2.toInt ∧ z2.toInt ≤ 45) → (0 ≤ z3.toInt ∧ z3.toInt ≤ 47) → (0 ≤ z4.toInt ∧ z4.toInt ≤ 121) → (4 * (6 - z1.toInt) + 2 ≤ (dd : Int)) → (g7 < z4.toInt) → Tot (k7 z1 z2 z3 z4 u) (qX5_total_2 u0)) (z1 : Int32) (z2 : Int32) (z3 : Int32) (z4 : Int32) (u : SX) (hs_u : StX mdX5_total_2 u0 u) (h0 : 0 ≤ z1.toInt ∧ z1.toInt ≤ 6) (h1 : 0 ≤ z2.toInt ∧ z2.toInt ≤ 45) (h2 : 0 ≤ z3.toInt ∧ z3.toInt ≤ 47) (h3 : 0 ≤ z4.toInt ∧ z4.toInt ≤ 120) (h4 : (u.1 4).toInt < (u.1 1).toInt) (h5 : g7 ≤ z4.toInt) (h6 : 4 * (6 - z1.toInt) + 2 ≤ (dd : Int)) : Tot (GX5_total_2_99 rc k7 z1 z2 z3 z4 u) (qX5_total_2 u0) := by
  unfold GX5_total_2_99
  have : 0 ≤ (u.1 4).toInt ∧ (u.1 4).toInt ≤ 120 := hs_u.1.1 4
  have : 0 ≤ (u.1 1).toInt ∧ (u.1 1).toInt ≤ 120 := hs_u.1.1 1
  have : ((u.1 4) + 1).toInt = (u.1 4).toInt + (1 : Int) := addc_t (by decide) (by omega) (by omega)
  refine Tot_lt (fun u11 e_u11 => ?_)
  have hs_u11 : StX mdX5_total_2 u0 u11 := by rw [e_u11]; exact StX_sI hs_u (by decide) (by show 0 ≤ ((u.1 4) + 1).toInt; omega) (by show ((u.1 4) + 1).toInt ≤ 120; omega)
  have : (z4 + 1).toInt = z4.toInt + (1 : Int) := addc_t (by decide) (by omega) (by omega)
  exact hk7 z1 z2 z3 (z4 + 1) u11 hs_u11 ⟨by omega, by omega⟩ ⟨by omega, by omega⟩ ⟨by omega, by omega⟩ ⟨by omega, by omega⟩ (by omega) (by omega)
set_option maxHeartbeats 400000 in
set_option maxRecDepth 10000 in
theorem tGX5_total_2_92 {rc : Nat → Int32 → Int32 → SX → Option (Int32 × SX)} {dd : Nat} (hrc : RCrX5conditiong rc dd) (u0 : SX) (g7 : Int) {k7 : Int32 → Int32 → Int32 → Int32 → SX → Option (Int32 × SX)} (hk7 : ∀ (z1 : Int32) (z2 : Int32) (z3 : Int32) (z4 : Int32) (u : SX), (StX mdX5_total_2 u0 u) → (0 ≤ z1.toInt ∧ z1.toInt ≤ 6) → (0 ≤ z2.toInt ∧ z2.toInt ≤ 45) → (0 ≤ z3.toInt ∧ z3.toInt ≤ 47) → (0 ≤ z4.toInt ∧ z4.toInt ≤ 121) → (4 * (6 - z1.toInt) + 2 ≤ (dd : Int)) → (g7 < z4.toInt) → Tot (k7 z1 z2 z3 z4 u) (qX5_total_2 u0)) (z1 : Int32) (z3 : Int32) (z4 : Int32) (y0 : Int32) (u : SX) (hs_u : StX mdX5_total_2 u0 u) (h0 : 0 ≤ z1.toInt ∧ z1.toInt ≤ 6) (h1 : 0 ≤ z3.toInt ∧ z3.toInt ≤ 0) (h2 : 0 ≤ z4.toInt ∧ z4.toInt ≤ 120) (h3 : 0 ≤ y0.toInt ∧ y0.toInt ≤ 45) (h4 : y0.toInt ≠ 0 → ((u.1 4).toInt < (u.1 1).toInt)) (h5 : g7 ≤ z4.toInt) (h6 : 4 * (6 - z1.toInt) + 2 ≤ (dd : Int)) : Tot (GX5_total_2_92 rc k7 z1 z3 z4 y0 u) (qX5_total_2 u0) := by
  unfold GX5_total_2_92
  have : 0 ≤ (u.1 4).toInt ∧ (u.1 4).toInt ≤ 120 := hs_u.1.1 4
  have : 0 ≤ (u.1 1).toInt ∧ (u.1 1).toInt ≤ 120 := hs_u.1.1 1
  refine Tot_ite (fun c142 => ?_) (fun c142 => ?_)
  · have : y0.toInt = (0 : Int) := eqI c142
    refine Tot_gd (by decide) ?_
    exact Tot_some ⟨hs_u, (by show 0 ≤ (1 : Int) ∧ (1 : Int) ≤ 1; omega), trivial⟩
  · have : ¬ y0.toInt = (0 : Int) := neI c142
    exact tGX5_total_2_99 hrc u0 g7 hk7 z1 y0 z3 z4 u hs_u ⟨by omega, by omega⟩ ⟨by omega, by omega⟩ ⟨by omega, by omega⟩ ⟨by omega, by omega⟩ (by omega) (by omega) (by omega)
set_option maxHeartbeats 400000 in
set_option maxRecDepth 10000 in
theorem tGX5_total_2_86 {rc : Nat → Int32 → Int32 → SX → Option (Int32 × SX)} {dd : Nat} (hrc : RCrX5conditiong rc dd) (u0 : SX) (g7 : Int) {k7 : Int32 → Int32 → Int32 → Int32 → SX → Option (Int32 × SX)} (hk7 : ∀ (z1 : Int32) (z2 : Int32) (z3 : Int32) (z4 : Int32) (u : SX), (StX mdX5_total_2 u0 u) → (0 ≤ z1.toInt ∧ z1.toInt ≤ 6) → (0 ≤ z2.toInt ∧ z2.toInt ≤ 45) → (0 ≤ z3.toInt ∧ z3.toInt ≤ 47) → (0 ≤ z4.toInt ∧ z4.toInt ≤ 121) → (4 * (6 - z1.toInt) + 2 ≤ (dd : Int)) → (g7 < z4.toInt) → Tot (k7 z1 z2 z3 z4 u) (qX5_total_2 u0)) (z1 : Int32) (z3 : Int32) (z4 : Int32) (z5 : Int32) (u : SX) (hs_u : StX mdX5_total_2 u0 u) (h0 : 0 ≤ z1.toInt ∧ z1.toInt ≤ 6) (h1 : 0 ≤ z3.toInt ∧ z3.toInt ≤ 0) (h2 : 0 ≤ z4.toInt ∧ z4.toInt ≤ 120) (h3 : 43 ≤ z5.toInt ∧ z5.toInt ≤ 45) (h4 : z5.toInt ≠ 0 → ((u.1 4).toInt < (u.1 1).toInt)) (h5 : g7 ≤ z4.toInt) (h6 : 4 * (6 - z1.toInt) + 2 ≤ (dd : Int)) : Tot (GX5_total_2_86 rc k7 z1 z3 z4 z5 u) (qX5_total_2 u0) := by
  unfold GX5_total_2_86
  have : 0 ≤ (u.1 4).toInt ∧ (u.1 4).toInt ≤ 120 := hs_u.1.1 4
  have : 0 ≤ (u.1 1).toInt ∧ (u.1 1).toInt ≤ 120 := hs_u.1.1 1
  exact tGX5_total_2_92 hrc u0 g7 hk7 z1 z3 z4 z5 u hs_u ⟨by omega, by omega⟩ ⟨by omega, by omega⟩ ⟨by omega, by omega⟩ ⟨by omega, by omega⟩ (by omega) (by omega) (by omega)
set_option maxHeartbeats 400000 in
set_option maxRecDepth 10000 in
theorem tGX5_total_2_61 {rc : Nat → Int32 → Int32 → SX → Option (Int32 × SX)} {dd : Nat} (hrc : RCrX5conditiong rc dd) (u0 : SX) (g7 : Int) {k7 : Int32 → Int32 → Int32 → Int32 → SX → Option (Int32 × SX)} (hk7 : ∀ (z1 : Int32) (z2 : Int32) (z3 : Int32) (z4 : Int32) (u : SX), (StX mdX5_total_2 u0 u) → (0 ≤ z1.toInt ∧ z1.toInt ≤ 6) → (0 ≤ z2.toInt ∧ z2.toInt ≤ 45) → (0 ≤ z3.toInt ∧ z3.toInt ≤ 47) → (0 ≤ z4.toInt ∧ z4.toInt ≤ 121) → (4 * (6 - z1.toInt) + 2 ≤ (dd : Int)) → (g7 < z4.toInt) → Tot (k7 z1 z2 z3 z4 u) (qX5_total_2 u0)) (z1 : Int32) (z2 : Int32) (z4 : Int32) (z5 : Int32) (y0 : Int32) (u : SX) (hs_u : StX mdX5_total_2 u0 u) (h0 : 0 ≤ z1.toInt ∧ z1.toInt ≤ 6) (h1 : 0 ≤ z2.toInt ∧ z2.toInt ≤ 45) (h2 : 0 ≤ z4.toInt ∧ z4.toInt ≤ 120) (h3 : 0 ≤ z5.toInt ∧ z5.toInt ≤ 255) (h4 : 0 ≤ y0.toInt ∧ y0.toInt ≤ 47) (h5 : y0.toInt ≠ 0 → ((u.1 4).toInt < (u.1 1).toInt)) (h6 : z5.toInt ≠ 0 → ((u.1 4).toInt < (u.1 1).toInt)) (h7 : g7 ≤ z4.toInt) (h8 : 4 * (6 - z1.toInt) + 2 ≤ (dd : Int)) : Tot (GX5_total_2_61 rc k7 z1 z2 z4 z5 y0 u) (qX5_total_2 u0) := by
  unfold GX5_total_2_61
  have : 0 ≤ (u.1 4).toInt ∧ (u.1 4).toInt ≤ 120 := hs_u.1.1 4
  have : 0 ≤ (u.1 1).toInt ∧ (u.1 1).toInt ≤ 120 := hs_u.1.1 1
  refine Tot_ite (fun c143 => ?_) (fun c143 => ?_)
  · have : y0.toInt = (0 : Int) := eqI c143
    refine Tot_bind (tfX5_emit_2 z2 0 u hs_u.1 ⟨by omega, by omega⟩ (by show (z2.toInt = 121 → (0 ≤ (0 : Int) ∧ (0 : Int) ≤ 255)); omega)) (fun q hq => ?_)
    obtain ⟨r13, u14⟩ := q
    have hc_u14 : StX mdX5_emit_2 u u14 := hq.1
    have hs_u14 : StX mdX5_total_2 u0 u14 := StX_tr hs_u hc_u14 (by decide)
    have : 0 ≤ r13.toInt ∧ r13.toInt ≤ 0 := hq.2.1
    refine Tot_ite (fun c144 => ?_) (fun c144 => ?_)
    · have : z5.toInt = (43 : Int) := eqI c144
      have : (u14.1 4).toInt = (u.1 4).toInt := congrArg Int32.toInt (hc_u14.2.1 4 (by decide))
      have : (u14.1 1).toInt = (u.1 1).toInt := congrArg Int32.toInt (hc_u14.2.1 1 (by decide))
      exact tGX5_total_2_86 hrc u0 g7 hk7 z1 y0 z4 z5 u14 hs_u14 ⟨by omega, by omega⟩ ⟨by omega, by omega⟩ ⟨by omega, by omega⟩ ⟨by omega, by omega⟩ (by omega) (by omega) (by omega)
    · have : ¬ z5.toInt = (43 : Int) := neI c144
      refine Tot_ite (fun c145 => ?_) (fun c145 => ?_)
      · have : z5.toInt = (45 : Int) := eqI c145
        have : (u14.1 4).toInt = (u.1 4).toInt := congrArg Int32.toInt (hc_u14.2.1 4 (by decide))
        have : (u14.1 1).toInt = (u.1 1).toInt := congrArg Int32.toInt (hc_u14.2.1 1 (by decide))
        exact tGX5_total_2_86 hrc u0 g7 hk7 z1 y0 z4 z5 u14 hs_u14 ⟨by omega, by omega⟩ ⟨by omega, by omega⟩ ⟨by omega, by omega⟩ ⟨by omega, by omega⟩ (by omega) (by omega) (by omega)
      · have : ¬ z5.toInt = (45 : Int) := neI c145
        have : (u14.1 4).toInt = (u.1 4).toInt := congrArg Int32.toInt (hc_u14.2.1 4 (by decide))
        have : (u14.1 1).toInt = (u.1 1).toInt := congrArg Int32.toInt (hc_u14.2.1 1 (by decide))
        exact tGX5_total_2_92 hrc u0 g7 hk7 z1 y0 z4 0 u14 hs_u14 ⟨by omega, by omega⟩ ⟨by omega, by omega⟩ ⟨by omega, by omega⟩ (by show 0 ≤ (0 : Int) ∧ (0 : Int) ≤ 45; omega) (by show (0 : Int) ≠ 0 → ((u14.1 4).toInt < (u14.1 1).toInt); omega) (by omega) (by omega)
  · have : ¬ y0.toInt = (0 : Int) := neI c143
    exact tGX5_total_2_99 hrc u0 g7 hk7 z1 z2 y0 z4 u hs_u ⟨by omega, by omega⟩ ⟨by omega, by omega⟩ ⟨by omega, by omega⟩ ⟨by omega, by omega⟩ (by omega) (by omega) (by omega)
set_option maxHeartbeats 400000 in
set_option maxRecDepth 10000 in
theorem tGX5_total_2_55 {rc : Nat → Int32 → Int32 → SX → Option (Int32 × SX)} {dd : Nat} (hrc : RCrX5conditiong rc dd) (u0 : SX) (g7 : Int) {k7 : Int32 → Int32 → Int32 → Int32 → SX → Option (Int32 × SX)} (hk7 : ∀ (z1 : Int32) (z2 : Int32) (z3 : Int32) (z4 : Int32) (u : SX), (StX mdX5_total_2 u0 u) → (0 ≤ z1.toInt ∧ z1.toInt ≤ 6) → (0 ≤ z2.toInt ∧ z2.toInt ≤ 45) → (0 ≤ z3.toInt ∧ z3.toInt ≤ 47) → (0 ≤ z4.toInt ∧ z4.toInt ≤ 121) → (4 * (6 - z1.toInt) + 2 ≤ (dd : Int)) → (g7 < z4.toInt) → Tot (k7 z1 z2 z3 z4 u) (qX5_total_2 u0)) (z1 : Int32) (z2 : Int32) (z4 : Int32) (z5 : Int32) (u : SX) (hs_u : StX mdX5_total_2 u0 u) (h0 : 0 ≤ z1.toInt ∧ z1.toInt ≤ 6) (h1 : 0 ≤ z2.toInt ∧ z2.toInt ≤ 45) (h2 : 0 ≤ z4.toInt ∧ z4.toInt ≤ 120) (h3 : 42 ≤ z5.toInt ∧ z5.toInt ≤ 47) (h4 : z5.toInt ≠ 0 → ((u.1 4).toInt < (u.1 1).toInt)) (h5 : g7 ≤ z4.toInt) (h6 : 4 * (6 - z1.toInt) + 2 ≤ (dd : Int)) : Tot (GX5_total_2_55 rc k7 z1 z2 z4 z5 u) (qX5_total_2 u0) := by
  unfold GX5_total_2_55
  have : 0 ≤ (u.1 4).toInt ∧ (u.1 4).toInt ≤ 120 := hs_u.1.1 4
  have : 0 ≤ (u.1 1).toInt ∧ (u.1 1).toInt ≤ 120 := hs_u.1.1 1
  exact tGX5_total_2_61 hrc u0 g7 hk7 z1 z2 z4 z5 z5 u hs_u ⟨by omega, by omega⟩ ⟨by omega, by omega⟩ ⟨by omega, by omega⟩ ⟨by omega, by omega⟩ ⟨by omega, by omega⟩ (by omega) (by omega) (by omega) (by omega)
set_option maxHeartbeats 400000 in
set_option maxRecDepth 10000 in
theorem tLX5_total_2_7 {rc : Nat → Int32 → Int32 → SX → Option (Int32 × SX)} {dd : Nat} (hrc : RCrX5conditiong rc dd) (u0 : SX)    : ∀ (n : Nat) (z1 : Int32) (z2 : Int32) (z3 : Int32) (z4 : Int32) (u : SX), (StX mdX5_total_2 u0 u) → (0 ≤ z1.toInt ∧ z1.toInt ≤ 6) → (0 ≤ z2.toInt ∧ z2.toInt ≤ 45) → (0 ≤ z3.toInt ∧ z3.toInt ≤ 47) → (0 ≤ z4.toInt ∧ z4.toInt ≤ 121) → (4 * (6 - z1.toInt) + 2 ≤ (dd : Int)) → (121 - z4.toInt < (n : Int)) → Tot (LX5_total_2_7 rc n z1 z2 z3 z4 u) (qX5_total_2 u0) := by
  intro n
  induction n with
  | zero =>
    intro z1 z2 z3 z4 u hs_u h0 h1 h2 h3 h4 hm
    exfalso
    omega
  | succ n ih =>
    intro z1 z2 z3 z4 u hs_u h0 h1 h2 h3 h4 hm
    rw [LX5_total_2_7]
    have : 0 ≤ (u.1 1).toInt ∧ (u.1 1).toInt ≤ 120 := hs_u.1.1 1
    refine Tot_ite (fun c146 => ?_) (fun c146 => ?_)
    · have : (u.1 1).toInt < z4.toInt := ltI c146
      refine Tot_gd (by decide) ?_
      exact Tot_some ⟨hs_u, (by show 0 ≤ (0 : Int) ∧ (0 : Int) ≤ 1; omega), trivial⟩
    · have : ¬ (u.1 1).toInt < z4.toInt := nltI c146
      refine Tot_bind (hrc.2.2.2 z1 u hs_u.1 ⟨by omega, by omega⟩ (by show 4 * (6 - z1.toInt) + 1 < (dd : Int); omega)) (fun q hq => ?_)
      obtain ⟨r2, u3⟩ := q
      have hc_u3 : StX mdX5_atom_2 u u3 := hq.1
      have hs_u3 : StX mdX5_total_2 u0 u3 := StX_tr hs_u hc_u3 (by decide)
      have : 0 ≤ r2.toInt ∧ r2.toInt ≤ 1 := hq.2.1
      refine Tot_ite (fun c147 => ?_) (fun c147 => ?_)
      · have : r2.toInt = (0 : Int) := eqI c147
        refine Tot_gd (by decide) ?_
        exact Tot_some ⟨hs_u3, (by show 0 ≤ (0 : Int) ∧ (0 : Int) ≤ 1; omega), trivial⟩
      · have : ¬ r2.toInt = (0 : Int) := neI c147
        refine Tot_bind (tfX5_emit_2 z3 0 u3 hs_u3.1 ⟨by omega, by omega⟩ (by show (z3.toInt = 121 → (0 ≤ (0 : Int) ∧ (0 : Int) ≤ 255)); omega)) (fun q hq => ?_)
        obtain ⟨r5, u6⟩ := q
        have hc_u6 : StX mdX5_emit_2 u3 u6 := hq.1
        have hs_u6 : StX mdX5_total_2 u0 u6 := StX_tr hs_u3 hc_u6 (by decide)
        have : 0 ≤ r5.toInt ∧ r5.toInt ≤ 0 := hq.2.1
        refine Tot_bind (tfX5_peek_2 u6 hs_u6.1) (fun q hq => ?_)
        obtain ⟨r8, u9⟩ := q
        have hc_u9 : StX mdX5_peek_2 u6 u9 := hq.1
        have hs_u9 : StX mdX5_total_2 u0 u9 := StX_tr hs_u6 hc_u9 (by decide)
        have : 0 ≤ r8.toInt ∧ r8.toInt ≤ 255 := hq.2.1
        have : 0 ≤ (u9.1 4).toInt ∧ (u9.1 4).toInt ≤ 120 := hs_u9.1.1 4
        have : (u9.1 1).toInt = (u6.1 1).toInt := congrArg Int32.toInt (hc_u9.2.1 1 (by decide))
        have : (u6.1 1).toInt = (u3.1 1).toInt := congrArg Int32.toInt (hc_u6.2.1 1 (by decide))
        have : (u3.1 1).toInt = (u.1 1).toInt := congrArg Int32.toInt (hc_u3.2.1 1 (by decide))
        have : r8.toInt ≠ 0 → ((u9.1 4).toInt < (u9.1 1).toInt) := hq.2.2
        refine Tot_ite (fun c148 => ?_) (fun c148 => ?_)
        · have : r8.toInt = (42 : Int) := eqI c148
          exact tGX5_total_2_55 hrc u0 (z4.toInt) (fun a149 a150 a151 a152 w153 hw153 p154 p155 p156 p157 p158 p159 => ih a149 a150 a151 a152 w153 hw153 p154 p155 p156 p157 p158 (by omega)) z1 z2 z4 r8 u9 hs_u9 ⟨by omega, by omega⟩ ⟨by omega, by omega⟩ ⟨by omega, by omega⟩ ⟨by omega, by omega⟩ (by omega) (by omega) (by omega)
        · have : ¬ r8.toInt = (42 : Int) := neI c148
          refine Tot_ite (fun c160 => ?_) (fun c160 => ?_)
          · have : r8.toInt = (47 : Int) := eqI c160
            exact tGX5_total_2_55 hrc u0 (z4.toInt) (fun a161 a162 a163 a164 w165 hw165 p166 p167 p168 p169 p170 p171 => ih a161 a162 a163 a164 w165 hw165 p166 p167 p168 p169 p170 (by omega)) z1 z2 z4 r8 u9 hs_u9 ⟨by omega, by omega⟩ ⟨by omega, by omega⟩ ⟨by omega, by omega⟩ ⟨by omega, by omega⟩ (by omega) (by omega) (by omega)
          · have : ¬ r8.toInt = (47 : Int) := neI c160
            exact tGX5_total_2_61 hrc u0 (z4.toInt) (fun a172 a173 a174 a175 w176 hw176 p177 p178 p179 p180 p181 p182 => ih a172 a173 a174 a175 w176 hw176 p177 p178 p179 p180 p181 (by omega)) z1 z2 z4 r8 0 u9 hs_u9 ⟨by omega, by omega⟩ ⟨by omega, by omega⟩ ⟨by omega, by omega⟩ ⟨by omega, by omega⟩ (by show 0 ≤ (0 : Int) ∧ (0 : Int) ≤ 47; omega) (by show (0 : Int) ≠ 0 → ((u9.1 4).toInt < (u9.1 1).toInt); omega) (by omega) (by omega) (by omega)
set_option maxHeartbeats 400000 in
set_option maxRecDepth 10000 in
theorem tfX5_total_2 {rc : Nat → Int32 → Int32 → SX → Option (Int32 × SX)} {dd : Nat} (hrc : RCrX5conditiong rc dd) (x1 : Int32) (u : SX) (hI : IX u) (h0 : 0 ≤ x1.toInt ∧ x1.toInt ≤ 6) (h1 : 4 * (6 - x1.toInt) + 2 ≤ (dd : Int)) : Tot (fX5_total_2 rc x1 u) (qX5_total_2 u) := by
  unfold fX5_total_2
  have hs_u : StX mdX5_total_2 u u := StX_rf hI
  exact tLX5_total_2_7 hrc u 5000 x1 0 0 0 u hs_u ⟨by omega, by omega⟩ (by show 0 ≤ (0 : Int) ∧ (0 : Int) ≤ 45; omega) (by show 0 ≤ (0 : Int) ∧ (0 : Int) ≤ 47; omega) (by show 0 ≤ (0 : Int) ∧ (0 : Int) ≤ 121; omega) (by omega) (by show 121 - (0 : Int) < ((5000 : Nat) : Int); omega)

set_option maxHeartbeats 400000 in
set_option maxRecDepth 10000 in
theorem tGX5_atom_2_104 {rc : Nat → Int32 → Int32 → SX → Option (Int32 × SX)} {dd : Nat} (hrc : RCrX5conditiong rc dd) (u0 : SX)    (y0 : Int32) (u : SX) (hs_u : StX mdX5_atom_2 u0 u) (h0 : (-1) ≤ y0.toInt ∧ y0.toInt ≤ 5) (h1 : y0.toInt ≠ (-1) → ((u.1 4).toInt < (u.1 1).toInt)) : Tot (GX5_atom_2_104 rc y0 u) (qX5_atom_2 u0) := by
  unfold GX5_atom_2_104
  have : 0 ≤ (u.1 4).toInt ∧ (u.1 4).toInt ≤ 120 := hs_u.1.1 4
  have : 0 ≤ (u.1 1).toInt ∧ (u.1 1).toInt ≤ 120 := hs_u.1.1 1
  refine Tot_ite (fun c183 => ?_) (fun c183 => ?_)
  · have : (0 : Int) ≤ y0.toInt := leI c183
    have : ((u.1 4) + 1).toInt = (u.1 4).toInt + (1 : Int) := addc_t (by decide) (by omega) (by omega)
    refine Tot_lt (fun u7 e_u7 => ?_)
    have hs_u7 : StX mdX5_atom_2 u0 u7 := by rw [e_u7]; exact StX_sI hs_u (by decide) (by show 0 ≤ ((u.1 4) + 1).toInt; omega) (by show ((u.1 4) + 1).toInt ≤ 120; omega)
    refine Tot_bind (tfX5_emit_2 121 y0 u7 hs_u7.1 (by show 0 ≤ (121 : Int) ∧ (121 : Int) ≤ 124; omega) (by show ((121 : Int) = 121 → (0 ≤ y0.toInt ∧ y0.toInt ≤ 255)); omega)) (fun q hq => ?_)
    obtain ⟨r9, u10⟩ := q
    have hc_u10 : StX mdX5_emit_2 u7 u10 := hq.1
    have hs_u10 : StX mdX5_atom_2 u0 u10 := StX_tr hs_u7 hc_u10 (by decide)
    have : 0 ≤ r9.toInt ∧ r9.toInt ≤ 0 := hq.2.1
    refine Tot_gd (by decide) ?_
    exact Tot_some ⟨hs_u10, (by show 0 ≤ (1 : Int) ∧ (1 : Int) ≤ 1; omega), trivial⟩
  · have : ¬ (0 : Int) ≤ y0.toInt := nleI c183
    refine Tot_gd (by decide) ?_
    exact Tot_some ⟨hs_u, (by show 0 ≤ (0 : Int) ∧ (0 : Int) ≤ 1; omega), trivial⟩
set_option maxHeartbeats 400000 in
set_option maxRecDepth 10000 in
theorem tGX5_atom_2_87 {rc : Nat → Int32 → Int32 → SX → Option (Int32 × SX)} {dd : Nat} (hrc : RCrX5conditiong rc dd) (u0 : SX)    (z2 : Int32) (u : SX) (hs_u : StX mdX5_atom_2 u0 u) (h0 : 0 ≤ z2.toInt ∧ z2.toInt ≤ 255) (h1 : z2.toInt ≠ 0 → ((u.1 4).toInt < (u.1 1).toInt)) : Tot (GX5_atom_2_87 rc z2 u) (qX5_atom_2 u0) := by
  unfold GX5_atom_2_87
  have : 0 ≤ (u.1 4).toInt ∧ (u.1 4).toInt ≤ 120 := hs_u.1.1 4
  have : 0 ≤ (u.1 1).toInt ∧ (u.1 1).toInt ≤ 120 := hs_u.1.1 1
  refine Tot_ite (fun c184 => ?_) (fun c184 => ?_)
  · have : z2.toInt = (0 : Int) := eqI c184
    exact tGX5_atom_2_104 hrc u0 (-1) u hs_u (by show (-1) ≤ (-1 : Int) ∧ (-1 : Int) ≤ 5; omega) (by show (-1 : Int) ≠ (-1) → ((u.1 4).toInt < (u.1 1).toInt); omega)
  · have : ¬ z2.toInt = (0 : Int) := neI c184
    have : 0 ≤ (u.1 3).toInt ∧ (u.1 3).toInt ≤ 3 := hs_u.1.1 3
    refine Tot_ite (fun c185 => ?_) (fun c185 => ?_)
    · have : (u.1 3).toInt = (0 : Int) := eqI c185
      have := c16_t z2
      refine Tot_bind (tfJ0_indexOf_0f7a4_s0 (((z2.toUInt32 % 65536)).toInt32) ⟨by omega, by omega⟩) (fun r4 hq => ?_)
      have : (-1) ≤ r4.toInt ∧ r4.toInt ≤ 5 := hq.1
      exact tGX5_atom_2_104 hrc u0 r4 u hs_u ⟨by omega, by omega⟩ (by omega)
    · have : ¬ (u.1 3).toInt = (0 : Int) := neI c185
      refine Tot_ite (fun c186 => ?_) (fun c186 => ?_)
      · have : (u.1 3).toInt = (1 : Int) := eqI c186
        have := c16_t z2
        refine Tot_bind (tfJ0_indexOf_0f7a4_s1 (((z2.toUInt32 % 65536)).toInt32) ⟨by omega, by omega⟩) (fun r14 hq => ?_)
        have : (-1) ≤ r14.toInt ∧ r14.toInt ≤ 1 := hq.1
        exact tGX5_atom_2_104 hrc u0 r14 u hs_u ⟨by omega, by omega⟩ (by omega)
      · have : ¬ (u.1 3).toInt = (1 : Int) := neI c186
        refine Tot_ite (fun c187 => ?_) (fun c187 => ?_)
        · have : (u.1 3).toInt = (2 : Int) := eqI c187
          have := c16_t z2
          refine Tot_bind (tfJ0_indexOf_0f7a4_s2 (((z2.toUInt32 % 65536)).toInt32) ⟨by omega, by omega⟩) (fun r17 hq => ?_)
          have : (-1) ≤ r17.toInt ∧ r17.toInt ≤ 4 := hq.1
          exact tGX5_atom_2_104 hrc u0 r17 u hs_u ⟨by omega, by omega⟩ (by omega)
        · have : ¬ (u.1 3).toInt = (2 : Int) := neI c187
          refine Tot_ite (fun c188 => ?_) (fun c188 => ?_)
          · have : (u.1 3).toInt = (3 : Int) := eqI c188
            have := c16_t z2
            refine Tot_bind (tfJ0_indexOf_0f7a4_s3 (((z2.toUInt32 % 65536)).toInt32) ⟨by omega, by omega⟩) (fun r20 hq => ?_)
            have : (-1) ≤ r20.toInt ∧ r20.toInt ≤ (-1) := hq.1
            exact tGX5_atom_2_104 hrc u0 r20 u hs_u ⟨by omega, by omega⟩ (by omega)
          · have : ¬ (u.1 3).toInt = (3 : Int) := neI c188
            exfalso
            omega
set_option maxHeartbeats 400000 in
set_option maxRecDepth 10000 in
theorem tGX5_atom_2_52 {rc : Nat → Int32 → Int32 → SX → Option (Int32 × SX)} {dd : Nat} (hrc : RCrX5conditiong rc dd) (u0 : SX)    (z2 : Int32) (u : SX) (hs_u : StX mdX5_atom_2 u0 u) (h0 : 0 ≤ z2.toInt ∧ z2.toInt ≤ 255) (h1 : z2.toInt ≠ 0 → ((u.1 4).toInt < (u.1 1).toInt)) : Tot (GX5_atom_2_52 rc z2 u) (qX5_atom_2 u0) := by
  unfold GX5_atom_2_52
  have : 0 ≤ (u.1 4).toInt ∧ (u.1 4).toInt ≤ 120 := hs_u.1.1 4
  have : 0 ≤ (u.1 1).toInt ∧ (u.1 1).toInt ≤ 120 := hs_u.1.1 1
  refine Tot_ite (fun c189 => ?_) (fun c189 => ?_)
  · have : z2.toInt < (48 : Int) := ltI c189
    exact tGX5_atom_2_87 hrc u0 z2 u hs_u ⟨by omega, by omega⟩ (by omega)
  · have : ¬ z2.toInt < (48 : Int) := nltI c189
    refine Tot_ite (fun c190 => ?_) (fun c190 => ?_)
    · have : (57 : Int) < z2.toInt := ltI c190
      exact tGX5_atom_2_87 hrc u0 z2 u hs_u ⟨by omega, by omega⟩ (by omega)
    · have : ¬ (57 : Int) < z2.toInt := nltI c190
      refine Tot_bind (tfX5_number_2 u hs_u.1) (fun q hq => ?_)
      obtain ⟨r23, u24⟩ := q
      have hc_u24 : StX mdX5_number_2 u u24 := hq.1
      have hs_u24 : StX mdX5_atom_2 u0 u24 := StX_tr hs_u hc_u24 (by decide)
      refine Tot_bind (tfX5_emit_2 48 r23 u24 hs_u24.1 (by show 0 ≤ (48 : Int) ∧ (48 : Int) ≤ 124; omega) (by show ((48 : Int) = 121 → (0 ≤ r23.toInt ∧ r23.toInt ≤ 255)); omega)) (fun q hq => ?_)
      obtain ⟨r26, u27⟩ := q
      have hc_u27 : StX mdX5_emit_2 u24 u27 := hq.1
      have hs_u27 : StX mdX5_atom_2 u0 u27 := StX_tr hs_u24 hc_u27 (by decide)
      have : 0 ≤ r26.toInt ∧ r26.toInt ≤ 0 := hq.2.1
      refine Tot_ite (fun c191 => ?_) (fun c191 => ?_)
      · have : r23.toInt = (-1 : Int) := eqI c191
        refine Tot_gd (by decide) ?_
        exact Tot_some ⟨hs_u27, (by show 0 ≤ (0 : Int) ∧ (0 : Int) ≤ 1; omega), trivial⟩
      · refine Tot_gd (by decide) ?_
        exact Tot_some ⟨hs_u27, (by show 0 ≤ (1 : Int) ∧ (1 : Int) ≤ 1; omega), trivial⟩
set_option maxHeartbeats 400000 in
set_option maxRecDepth 10000 in
theorem tfX5_atom_2 {rc : Nat → Int32 → Int32 → SX → Option (Int32 × SX)} {dd : Nat} (hrc : RCrX5conditiong rc dd) (x1 : Int32) (u : SX) (hI : IX u) (h0 : 0 ≤ x1.toInt ∧ x1.toInt ≤ 6) (h1 : 4 * (6 - x1.toInt) + 1 ≤ (dd : Int)) : Tot (fX5_atom_2 rc x1 u) (qX5_atom_2 u) := by
  unfold fX5_atom_2
  have hs_u : StX mdX5_atom_2 u u := StX_rf hI
  refine Tot_bind (tfX5_peek_2 u hs_u.1) (fun q hq => ?_)
  obtain ⟨r1, u2⟩ := q
  have hc_u2 : StX mdX5_peek_2 u u2 := hq.1
  have hs_u2 : StX mdX5_atom_2 u u2 := StX_tr hs_u hc_u2 (by decide)
  have : 0 ≤ r1.toInt ∧ r1.toInt ≤ 255 := hq.2.1
  have : 0 ≤ (u2.1 4).toInt ∧ (u2.1 4).toInt ≤ 120 := hs_u2.1.1 4
  have : (u2.1 1).toInt = (u.1 1).toInt := congrArg Int32.toInt (hc_u2.2.1 1 (by decide))
  have : 0 ≤ (u.1 1).toInt ∧ (u.1 1).toInt ≤ 120 := hs_u.1.1 1
  have : r1.toInt ≠ 0 → ((u2.1 4).toInt < (u2.1 1).toInt) := hq.2.2
  refine Tot_ite (fun c192 => ?_) (fun c192 => ?_)
  · have : r1.toInt = (91 : Int) := eqI c192
    refine Tot_ite (fun c193 => ?_) (fun c193 => ?_)
    · have : (6 : Int) ≤ x1.toInt := leI c193
      exact tGX5_atom_2_52 hrc u r1 u2 hs_u2 ⟨by omega, by omega⟩ (by omega)
    · have : ¬ (6 : Int) ≤ x1.toInt := nleI c193
      have : ((u2.1 4) + 1).toInt = (u2.1 4).toInt + (1 : Int) := addc_t (by decide) (by omega) (by omega)
      refine Tot_lt (fun u31 e_u31 => ?_)
      have hs_u31 : StX mdX5_atom_2 u u31 := by rw [e_u31]; exact StX_sI hs_u2 (by decide) (by show 0 ≤ ((u2.1 4) + 1).toInt; omega) (by show ((u2.1 4) + 1).toInt ≤ 120; omega)
      have : (x1 + 1).toInt = x1.toInt + (1 : Int) := addc_t (by decide) (by omega) (by omega)
      refine Tot_bind (hrc.2.2.1 (x1 + 1) u31 hs_u31.1 ⟨by omega, by omega⟩ (by show 4 * (6 - (x1 + 1).toInt) + 2 < (dd : Int); omega)) (fun q hq => ?_)
      obtain ⟨r33, u34⟩ := q
      have hc_u34 : StX mdX5_total_2 u31 u34 := hq.1
      have hs_u34 : StX mdX5_atom_2 u u34 := StX_tr hs_u31 hc_u34 (by decide)
      have : 0 ≤ r33.toInt ∧ r33.toInt ≤ 1 := hq.2.1
      refine Tot_ite (fun c194 => ?_) (fun c194 => ?_)
      · have : r33.toInt = (0 : Int) := eqI c194
        refine Tot_gd (by decide) ?_
        exact Tot_some ⟨hs_u34, (by show 0 ≤ (0 : Int) ∧ (0 : Int) ≤ 1; omega), trivial⟩
      · have : ¬ r33.toInt = (0 : Int) := neI c194
        refine Tot_bind (tfX5_takes_2 93 u34 hs_u34.1 (by show 41 ≤ (93 : Int) ∧ (93 : Int) ≤ 121; omega)) (fun q hq => ?_)
        obtain ⟨r37, u38⟩ := q
        have hc_u38 : StX mdX5_takes_2 u34 u38 := hq.1
        have hs_u38 : StX mdX5_atom_2 u u38 := StX_tr hs_u34 hc_u38 (by decide)
        have : 0 ≤ r37.toInt ∧ r37.toInt ≤ 1 := hq.2.1
        refine Tot_ite (fun c195 => ?_) (fun c195 => ?_)
        · have : r37.toInt = (0 : Int) := eqI c195
          refine Tot_gd (by decide) ?_
          exact Tot_some ⟨hs_u38, (by show 0 ≤ (0 : Int) ∧ (0 : Int) ≤ 1; omega), trivial⟩
        · have : ¬ r37.toInt = (0 : Int) := neI c195
          refine Tot_gd (by decide) ?_
          exact Tot_some ⟨hs_u38, (by show 0 ≤ (1 : Int) ∧ (1 : Int) ≤ 1; omega), trivial⟩
  · have : ¬ r1.toInt = (91 : Int) := neI c192
    exact tGX5_atom_2_52 hrc u r1 u2 hs_u2 ⟨by omega, by omega⟩ (by omega)

theorem RCrX5conditiong_all : ∀ d, RCrX5conditiong (rX5conditiong d) d := by
  intro d
  induction d with
  | zero =>
    refine ⟨?_, ?_, ?_, ?_⟩
    · intro x1 x2 u hI h0 h1 hn
      exfalso
      omega
    · intro x1 x2 u hI h0 h1 hn
      exfalso
      omega
    · intro x1 u hI h0 hn
      exfalso
      omega
    · intro x1 u hI h0 hn
      exfalso
      omega
  | succ d ih =>
    refine ⟨?_, ?_, ?_, ?_⟩
    · intro x1 x2 u hI h0 h1 hn
      rw [rX5conditiong]
      rw [if_pos rfl]
      exact tfX5_condition_2 ih x1 x2 u hI h0 h1 (by omega)
    · intro x1 x2 u hI h0 h1 hn
      rw [rX5conditiong]
      rw [if_neg (by decide)]; rw [if_pos rfl]
      exact tfX5_unit_2 ih x1 x2 u hI h0 h1 (by omega)
    · intro x1 u hI h0 hn
      rw [rX5conditiong]
      rw [if_neg (by decide)]; rw [if_neg (by decide)]; rw [if_pos rfl]
      exact tfX5_total_2 ih x1 u hI h0 (by omega)
    · intro x1 u hI h0 hn
      rw [rX5conditiong]
      rw [if_neg (by decide)]; rw [if_neg (by decide)]; rw [if_neg (by decide)]; rw [if_pos rfl]
      exact tfX5_atom_2 ih x1 u hI h0 (by omega)

def mdX5_clause_2 : MD := ([2, 4], [14], [], [])
abbrev qX5_clause_2 (u : SX) (q : Int32 × SX) : Prop := StX mdX5_clause_2 u q.2 ∧ (0 ≤ q.1.toInt ∧ q.1.toInt ≤ 1) ∧ (True)
set_option maxHeartbeats 400000 in
set_option maxRecDepth 10000 in
theorem tGX5_clause_2_76 (u0 : SX)    (z2 : Int32) (u : SX) (hs_u : StX mdX5_clause_2 u0 u) (h0 : 0 ≤ z2.toInt ∧ z2.toInt ≤ 1) : Tot (GX5_clause_2_76 z2 u) (qX5_clause_2 u0) := by
  unfold GX5_clause_2_76
  refine Tot_bind ((RCrX5conditiong_all 64).1 0 z2 u hs_u.1 (by show 0 ≤ (0 : Int) ∧ (0 : Int) ≤ 6; omega) ⟨by omega, by omega⟩ (by show 4 * (6 - (0 : Int)) + 4 < ((64 : Nat) : Int); omega)) (fun q hq => ?_)
  obtain ⟨r11, u12⟩ := q
  have hc_u12 : StX mdX5_condition_2 u u12 := hq.1
  have hs_u12 : StX mdX5_clause_2 u0 u12 := StX_tr hs_u hc_u12 (by decide)
  have : 0 ≤ r11.toInt ∧ r11.toInt ≤ 1 := hq.2.1
  refine Tot_ite (fun c196 => ?_) (fun c196 => ?_)
  · have : r11.toInt = (0 : Int) := eqI c196
    refine Tot_gd (by decide) ?_
    exact Tot_some ⟨hs_u12, (by show 0 ≤ (0 : Int) ∧ (0 : Int) ≤ 1; omega), trivial⟩
  · have : ¬ r11.toInt = (0 : Int) := neI c196
    refine Tot_bind (tfX5_takes_2 63 u12 hs_u12.1 (by show 41 ≤ (63 : Int) ∧ (63 : Int) ≤ 121; omega)) (fun q hq => ?_)
    obtain ⟨r15, u16⟩ := q
    have hc_u16 : StX mdX5_takes_2 u12 u16 := hq.1
    have hs_u16 : StX mdX5_clause_2 u0 u16 := StX_tr hs_u12 hc_u16 (by decide)
    have : 0 ≤ r15.toInt ∧ r15.toInt ≤ 1 := hq.2.1
    refine Tot_ite (fun c197 => ?_) (fun c197 => ?_)
    · have : r15.toInt = (0 : Int) := eqI c197
      refine Tot_gd (by decide) ?_
      exact Tot_some ⟨hs_u16, (by show 0 ≤ (0 : Int) ∧ (0 : Int) ≤ 1; omega), trivial⟩
    · have : ¬ r15.toInt = (0 : Int) := neI c197
      refine Tot_bind (tfX5_emit_2 63 0 u16 hs_u16.1 (by show 0 ≤ (63 : Int) ∧ (63 : Int) ≤ 124; omega) (by show ((63 : Int) = 121 → (0 ≤ (0 : Int) ∧ (0 : Int) ≤ 255)); omega)) (fun q hq => ?_)
      obtain ⟨r18, u19⟩ := q
      have hc_u19 : StX mdX5_emit_2 u16 u19 := hq.1
      have hs_u19 : StX mdX5_clause_2 u0 u19 := StX_tr hs_u16 hc_u19 (by decide)
      have : 0 ≤ r18.toInt ∧ r18.toInt ≤ 0 := hq.2.1
      refine Tot_bind ((RCrX5conditiong_all 64).2.2.1 0 u19 hs_u19.1 (by show 0 ≤ (0 : Int) ∧ (0 : Int) ≤ 6; omega) (by show 4 * (6 - (0 : Int)) + 2 < ((64 : Nat) : Int); omega)) (fun q hq => ?_)
      obtain ⟨r21, u22⟩ := q
      have hc_u22 : StX mdX5_total_2 u19 u22 := hq.1
      have hs_u22 : StX mdX5_clause_2 u0 u22 := StX_tr hs_u19 hc_u22 (by decide)
      have : 0 ≤ r21.toInt ∧ r21.toInt ≤ 1 := hq.2.1
      refine Tot_ite (fun c198 => ?_) (fun c198 => ?_)
      · have : r21.toInt = (0 : Int) := eqI c198
        refine Tot_gd (by decide) ?_
        exact Tot_some ⟨hs_u22, (by show 0 ≤ (0 : Int) ∧ (0 : Int) ≤ 1; omega), trivial⟩
      · have : ¬ r21.toInt = (0 : Int) := neI c198
        refine Tot_bind (tfX5_emit_2 59 0 u22 hs_u22.1 (by show 0 ≤ (59 : Int) ∧ (59 : Int) ≤ 124; omega) (by show ((59 : Int) = 121 → (0 ≤ (0 : Int) ∧ (0 : Int) ≤ 255)); omega)) (fun q hq => ?_)
        obtain ⟨r24, u25⟩ := q
        have hc_u25 : StX mdX5_emit_2 u22 u25 := hq.1
        have hs_u25 : StX mdX5_clause_2 u0 u25 := StX_tr hs_u22 hc_u25 (by decide)
        have : 0 ≤ r24.toInt ∧ r24.toInt ≤ 0 := hq.2.1
        refine Tot_gd (by decide) ?_
        exact Tot_some ⟨hs_u25, (by show 0 ≤ (1 : Int) ∧ (1 : Int) ≤ 1; omega), trivial⟩
set_option maxHeartbeats 400000 in
set_option maxRecDepth 10000 in
theorem tGX5_clause_2_42 (u0 : SX)    (y0 : Int32) (u : SX) (hs_u : StX mdX5_clause_2 u0 u) (h0 : 0 ≤ y0.toInt ∧ y0.toInt ≤ 1) : Tot (GX5_clause_2_42 y0 u) (qX5_clause_2 u0) := by
  unfold GX5_clause_2_42
  refine Tot_ite (fun c199 => ?_) (fun c199 => ?_)
  · have : y0.toInt = (0 : Int) := eqI c199
    exact tGX5_clause_2_76 u0 y0 u hs_u ⟨by omega, by omega⟩
  · have : ¬ y0.toInt = (0 : Int) := neI c199
    refine Tot_bind ((RCrX5conditiong_all 64).2.2.1 0 u hs_u.1 (by show 0 ≤ (0 : Int) ∧ (0 : Int) ≤ 6; omega) (by show 4 * (6 - (0 : Int)) + 2 < ((64 : Nat) : Int); omega)) (fun q hq => ?_)
    obtain ⟨r30, u31⟩ := q
    have hc_u31 : StX mdX5_total_2 u u31 := hq.1
    have hs_u31 : StX mdX5_clause_2 u0 u31 := StX_tr hs_u hc_u31 (by decide)
    have : 0 ≤ r30.toInt ∧ r30.toInt ≤ 1 := hq.2.1
    refine Tot_ite (fun c200 => ?_) (fun c200 => ?_)
    · have : r30.toInt = (0 : Int) := eqI c200
      refine Tot_gd (by decide) ?_
      exact Tot_some ⟨hs_u31, (by show 0 ≤ (0 : Int) ∧ (0 : Int) ≤ 1; omega), trivial⟩
    · have : ¬ r30.toInt = (0 : Int) := neI c200
      refine Tot_bind (tfX5_peek_2 u31 hs_u31.1) (fun q hq => ?_)
      obtain ⟨r33, u34⟩ := q
      have hc_u34 : StX mdX5_peek_2 u31 u34 := hq.1
      have hs_u34 : StX mdX5_clause_2 u0 u34 := StX_tr hs_u31 hc_u34 (by decide)
      have : 0 ≤ r33.toInt ∧ r33.toInt ≤ 255 := hq.2.1
      have : 0 ≤ (u34.1 4).toInt ∧ (u34.1 4).toInt ≤ 120 := hs_u34.1.1 4
      have : (u34.1 1).toInt = (u31.1 1).toInt := congrArg Int32.toInt (hc_u34.2.1 1 (by decide))
      have : (u31.1 1).toInt = (u.1 1).toInt := congrArg Int32.toInt (hc_u31.2.1 1 (by decide))
      have : 0 ≤ (u.1 1).toInt ∧ (u.1 1).toInt ≤ 120 := hs_u.1.1 1
      have : r33.toInt ≠ 0 → ((u34.1 4).toInt < (u34.1 1).toInt) := hq.2.2
      refine Tot_bind (tfX5_compares r33 ⟨by omega, by omega⟩) (fun r36 hq => ?_)
      have : 0 ≤ r36.toInt ∧ r36.toInt ≤ 1 := hq.1
      have : r36.toInt ≠ 0 → ((60 : Int) ≤ r33.toInt ∧ r33.toInt ≤ (62 : Int)) := hq.2
      refine Tot_ite (fun c201 => ?_) (fun c201 => ?_)
      · have : r36.toInt = (0 : Int) := eqI c201
        refine Tot_bind (tfX5_emit_2 59 0 u34 hs_u34.1 (by show 0 ≤ (59 : Int) ∧ (59 : Int) ≤ 124; omega) (by show ((59 : Int) = 121 → (0 ≤ (0 : Int) ∧ (0 : Int) ≤ 255)); omega)) (fun q hq => ?_)
        obtain ⟨r39, u40⟩ := q
        have hc_u40 : StX mdX5_emit_2 u34 u40 := hq.1
        have hs_u40 : StX mdX5_clause_2 u0 u40 := StX_tr hs_u34 hc_u40 (by decide)
        have : 0 ≤ r39.toInt ∧ r39.toInt ≤ 0 := hq.2.1
        refine Tot_gd (by decide) ?_
        exact Tot_some ⟨hs_u40, (by show 0 ≤ (1 : Int) ∧ (1 : Int) ≤ 1; omega), trivial⟩
      · have : ¬ r36.toInt = (0 : Int) := neI c201
        exact tGX5_clause_2_76 u0 y0 u34 hs_u34 ⟨by omega, by omega⟩
set_option maxHeartbeats 400000 in
set_option maxRecDepth 10000 in
theorem tGX5_clause_2_41 (u0 : SX)     (u : SX) (hs_u : StX mdX5_clause_2 u0 u)  : Tot (GX5_clause_2_41  u) (qX5_clause_2 u0) := by
  unfold GX5_clause_2_41
  exact tGX5_clause_2_42 u0 0 u hs_u (by show 0 ≤ (0 : Int) ∧ (0 : Int) ≤ 1; omega)
set_option maxHeartbeats 400000 in
set_option maxRecDepth 10000 in
theorem tfX5_clause_2  (u : SX) (hI : IX u)  : Tot (fX5_clause_2  u) (qX5_clause_2 u) := by
  unfold fX5_clause_2
  have hs_u : StX mdX5_clause_2 u u := StX_rf hI
  refine Tot_bind (tfX5_takes_2 121 u hs_u.1 (by show 41 ≤ (121 : Int) ∧ (121 : Int) ≤ 121; omega)) (fun q hq => ?_)
  obtain ⟨r1, u2⟩ := q
  have hc_u2 : StX mdX5_takes_2 u u2 := hq.1
  have hs_u2 : StX mdX5_clause_2 u u2 := StX_tr hs_u hc_u2 (by decide)
  have : 0 ≤ r1.toInt ∧ r1.toInt ≤ 1 := hq.2.1
  refine Tot_ite (fun c202 => ?_) (fun c202 => ?_)
  · have : r1.toInt = (0 : Int) := eqI c202
    refine Tot_gd (by decide) ?_
    exact Tot_some ⟨hs_u2, (by show 0 ≤ (0 : Int) ∧ (0 : Int) ≤ 1; omega), trivial⟩
  · have : ¬ r1.toInt = (0 : Int) := neI c202
    refine Tot_bind (tfX5_takes_2 58 u2 hs_u2.1 (by show 41 ≤ (58 : Int) ∧ (58 : Int) ≤ 121; omega)) (fun q hq => ?_)
    obtain ⟨r5, u6⟩ := q
    have hc_u6 : StX mdX5_takes_2 u2 u6 := hq.1
    have hs_u6 : StX mdX5_clause_2 u u6 := StX_tr hs_u2 hc_u6 (by decide)
    have : 0 ≤ r5.toInt ∧ r5.toInt ≤ 1 := hq.2.1
    refine Tot_ite (fun c203 => ?_) (fun c203 => ?_)
    · have : r5.toInt = (0 : Int) := eqI c203
      refine Tot_gd (by decide) ?_
      exact Tot_some ⟨hs_u6, (by show 0 ≤ (0 : Int) ∧ (0 : Int) ≤ 1; omega), trivial⟩
    · have : ¬ r5.toInt = (0 : Int) := neI c203
      refine Tot_bind (tfX5_peek_2 u6 hs_u6.1) (fun q hq => ?_)
      obtain ⟨r8, u9⟩ := q
      have hc_u9 : StX mdX5_peek_2 u6 u9 := hq.1
      have hs_u9 : StX mdX5_clause_2 u u9 := StX_tr hs_u6 hc_u9 (by decide)
      have : 0 ≤ r8.toInt ∧ r8.toInt ≤ 255 := hq.2.1
      have : 0 ≤ (u9.1 4).toInt ∧ (u9.1 4).toInt ≤ 120 := hs_u9.1.1 4
      have : (u9.1 1).toInt = (u6.1 1).toInt := congrArg Int32.toInt (hc_u9.2.1 1 (by decide))
      have : (u6.1 1).toInt = (u2.1 1).toInt := congrArg Int32.toInt (hc_u6.2.1 1 (by decide))
      have : (u2.1 1).toInt = (u.1 1).toInt := congrArg Int32.toInt (hc_u2.2.1 1 (by decide))
      have : 0 ≤ (u.1 1).toInt ∧ (u.1 1).toInt ≤ 120 := hs_u.1.1 1
      have : r8.toInt ≠ 0 → ((u9.1 4).toInt < (u9.1 1).toInt) := hq.2.2
      refine Tot_ite (fun c204 => ?_) (fun c204 => ?_)
      · have : r8.toInt = (33 : Int) := eqI c204
        exact tGX5_clause_2_41 u u9 hs_u9
      · have : ¬ r8.toInt = (33 : Int) := neI c204
        refine Tot_ite (fun c205 => ?_) (fun c205 => ?_)
        · have : r8.toInt = (40 : Int) := eqI c205
          exact tGX5_clause_2_41 u u9 hs_u9
        · have : ¬ r8.toInt = (40 : Int) := neI c205
          exact tGX5_clause_2_42 u 1 u9 hs_u9 (by show 0 ≤ (1 : Int) ∧ (1 : Int) ≤ 1; omega)
