def mdX11_read_0 : MD := ([13], [16, 36, 37, 40], [], [])
abbrev qX11_read_0 (u : SX) (q : Int32 × SX) : Prop := StX mdX11_read_0 u q.2 ∧ ((-1) ≤ q.1.toInt ∧ q.1.toInt ≤ 79) ∧ (True)
set_option maxHeartbeats 400000 in
set_option maxRecDepth 10000 in
theorem tfX11_read_0 (x1 : Int32) (x2 : Int32) (x3 : Int32) (x4 : Int32) (x5 : Int32) (x6 : Int32) (u : SX) (hI : IX u)  : Tot (fX11_read_0 x1 x2 x3 x4 x5 x6 u) (qX11_read_0 u) := by
  unfold fX11_read_0
  have hs_u : StX mdX11_read_0 u u := StX_rf hI
  refine Tot_bind (tfX11_isAim x1 x2 x3 x4 x5) (fun r1 hq => ?_)
  have : 0 ≤ r1.toInt ∧ r1.toInt ≤ 1 := hq.1
  have : r1.toInt ≠ 0 → ((0 : Int) ≤ x1.toInt ∧ x1.toInt ≤ (15 : Int) ∧ (0 : Int) ≤ x2.toInt ∧ x2.toInt ≤ (9 : Int) ∧ (0 : Int) ≤ x3.toInt ∧ x3.toInt ≤ (23 : Int) ∧ (0 : Int) ≤ x4.toInt ∧ x4.toInt ≤ (9 : Int) ∧ (1 : Int) ≤ x5.toInt ∧ x5.toInt ≤ (40 : Int)) := hq.2
  refine Tot_ite (fun c455 => ?_) (fun c455 => ?_)
  · have : r1.toInt = (0 : Int) := eqI c455
    exact Tot_some ⟨hs_u, (by show (-1) ≤ (-1 : Int) ∧ (-1 : Int) ≤ 79; omega), trivial⟩
  · have : ¬ r1.toInt = (0 : Int) := neI c455
    refine Tot_bind (tfX11_within x6 (-100000) 100000) (fun r4 hq => ?_)
    have : 0 ≤ r4.toInt ∧ r4.toInt ≤ 1 := hq.1
    have : r4.toInt ≠ 0 → ((-100000 : Int) ≤ x6.toInt ∧ x6.toInt ≤ (100000 : Int)) := hq.2
    refine Tot_ite (fun c456 => ?_) (fun c456 => ?_)
    · have : r4.toInt = (0 : Int) := eqI c456
      exact Tot_some ⟨hs_u, (by show (-1) ≤ (-1 : Int) ∧ (-1 : Int) ≤ 79; omega), trivial⟩
    · have : ¬ r4.toInt = (0 : Int) := neI c456
      have : 0 ≤ (u.1 13).toInt ∧ (u.1 13).toInt ≤ 80 := hs_u.1.1 13
      refine Tot_ite (fun c457 => ?_) (fun c457 => ?_)
      · have : (u.1 13).toInt < (80 : Int) := ltI c457
        have : 0 ≤ (u.1 0).toInt ∧ (u.1 0).toInt ≤ 120 := hs_u.1.1 0
        refine Tot_bind (tfX11_seasonOf (u.1 0) ⟨by omega, by omega⟩) (fun r7 hq => ?_)
        have : 0 ≤ r7.toInt ∧ r7.toInt ≤ 3 := hq.1
        refine Tot_bind (tfX8_setAim_3 x1 x2 x3 r7 x4 x5 u hs_u.1 ⟨by omega, by omega⟩ ⟨by omega, by omega⟩ ⟨by omega, by omega⟩ ⟨by omega, by omega⟩ ⟨by omega, by omega⟩ ⟨by omega, by omega⟩) (fun q hq => ?_)
        obtain ⟨r10, u11⟩ := q
        have hc_u11 : StX mdX8_setAim_3 u u11 := hq.1
        have hs_u11 : StX mdX11_read_0 u u11 := StX_tr hs_u hc_u11 (by decide)
        have : 0 ≤ r10.toInt ∧ r10.toInt ≤ 0 := hq.2.1
        have : (u11.1 0).toInt = (u.1 0).toInt := congrArg Int32.toInt (hc_u11.2.1 0 (by decide))
        refine Tot_bind (tfX7_add_7 x6 (u11.1 0) u11 hs_u11.1 ⟨by omega, by omega⟩ ⟨by omega, by omega⟩) (fun q hq => ?_)
        obtain ⟨r13, u14⟩ := q
        have hc_u14 : StX mdX7_add_7 u11 u14 := hq.1
        have hs_u14 : StX mdX11_read_0 u u14 := StX_tr hs_u11 hc_u14 (by decide)
        have : (-1) ≤ r13.toInt ∧ r13.toInt ≤ 79 := hq.2.1
        exact Tot_some ⟨hs_u14, (by show (-1) ≤ r13.toInt ∧ r13.toInt ≤ 79; omega), trivial⟩
      · have : ¬ (u.1 13).toInt < (80 : Int) := nltI c457
        exact Tot_some ⟨hs_u, (by show (-1) ≤ (-1 : Int) ∧ (-1 : Int) ≤ 79; omega), trivial⟩

def mdX7_has_7 : MD := ([], [], [], [])
abbrev qX7_has_7 (x1 : Int32) (u : SX) (q : Int32 × SX) : Prop := StX mdX7_has_7 u q.2 ∧ (0 ≤ q.1.toInt ∧ q.1.toInt ≤ 1) ∧ ((q.1.toInt ≠ 0 → ((0 : Int) ≤ x1.toInt ∧ x1.toInt < (u.1 13).toInt)))
set_option maxHeartbeats 400000 in
set_option maxRecDepth 10000 in
theorem tfX7_has_7 (x1 : Int32) (u : SX) (hI : IX u)  : Tot (fX7_has_7 x1 u) (qX7_has_7 x1 u) := by
  unfold fX7_has_7
  have hs_u : StX mdX7_has_7 u u := StX_rf hI
  refine Tot_ite (fun c458 => ?_) (fun c458 => ?_)
  · have : x1.toInt < (0 : Int) := ltI c458
    refine Tot_gd (by decide) ?_
    have : 0 ≤ (u.1 13).toInt ∧ (u.1 13).toInt ≤ 80 := hs_u.1.1 13
    exact Tot_some ⟨hs_u, (by show 0 ≤ (0 : Int) ∧ (0 : Int) ≤ 1; omega), (by show (0 : Int) ≠ 0 → ((0 : Int) ≤ x1.toInt ∧ x1.toInt < (u.1 13).toInt); omega)⟩
  · have : ¬ x1.toInt < (0 : Int) := nltI c458
    have : 0 ≤ (u.1 13).toInt ∧ (u.1 13).toInt ≤ 80 := hs_u.1.1 13
    refine Tot_ite (fun c459 => ?_) (fun c459 => ?_)
    · have : (u.1 13).toInt ≤ x1.toInt := leI c459
      refine Tot_gd (by decide) ?_
      exact Tot_some ⟨hs_u, (by show 0 ≤ (0 : Int) ∧ (0 : Int) ≤ 1; omega), (by show (0 : Int) ≠ 0 → ((0 : Int) ≤ x1.toInt ∧ x1.toInt < (u.1 13).toInt); omega)⟩
    · have : ¬ (u.1 13).toInt ≤ x1.toInt := nleI c459
      refine Tot_gd (by decide) ?_
      exact Tot_some ⟨hs_u, (by show 0 ≤ (1 : Int) ∧ (1 : Int) ≤ 1; omega), (by show (1 : Int) ≠ 0 → ((0 : Int) ≤ x1.toInt ∧ x1.toInt < (u.1 13).toInt); omega)⟩

def mdX11_rowsUpTo_a37 : MD := ([], [], [], [])
abbrev qX11_rowsUpTo_a37 (u : SX) (q : Int32 × SX) : Prop := StX mdX11_rowsUpTo_a37 u q.2 ∧ (0 ≤ q.1.toInt ∧ q.1.toInt ≤ 80) ∧ (True)
set_option maxHeartbeats 400000 in
set_option maxRecDepth 10000 in
theorem tLX11_rowsUpTo_a37_11 (u0 : SX)  {k31 : Int32 → Int32 → SX → Option (Int32 × SX)} (hk31 : ∀ (z0 : Int32) (z4 : Int32) (u : SX), (StX mdX11_rowsUpTo_a37 u0 u) → (0 ≤ z0.toInt ∧ z0.toInt ≤ 120) → (0 ≤ z4.toInt ∧ z4.toInt ≤ 80) → Tot (k31 z0 z4 u) (qX11_rowsUpTo_a37 u0)) : ∀ (n : Nat) (z0 : Int32) (z2 : Int32) (z4 : Int32) (u : SX), (StX mdX11_rowsUpTo_a37 u0 u) → (0 ≤ z0.toInt ∧ z0.toInt ≤ 120) → (0 ≤ z2.toInt ∧ z2.toInt ≤ 80) → (0 ≤ z4.toInt ∧ z4.toInt ≤ 80) → (80 - z4.toInt < (n : Int)) → Tot (LX11_rowsUpTo_a37_11 k31 n z0 z2 z4 u) (qX11_rowsUpTo_a37 u0) := by
  intro n
  induction n with
  | zero =>
    intro z0 z2 z4 u hs_u h0 h1 h2 hm
    exfalso
    omega
  | succ n ih =>
    intro z0 z2 z4 u hs_u h0 h1 h2 hm
    rw [LX11_rowsUpTo_a37_11]
    refine Tot_ite (fun c460 => ?_) (fun c460 => ?_)
    · have : z2.toInt ≤ z4.toInt := leI c460
      exact hk31 z0 z4 u hs_u ⟨by omega, by omega⟩ ⟨by omega, by omega⟩
    · have : ¬ z2.toInt ≤ z4.toInt := nleI c460
      refine Tot_gd (inb_t (by omega) (by omega)) ?_
      have : 0 ≤ (u.2.1 37 z4.toNatClampNeg).toInt ∧ (u.2.1 37 z4.toNatClampNeg).toInt ≤ 120 := hs_u.1.2.1 37 z4.toNatClampNeg
      refine Tot_ite (fun c461 => ?_) (fun c461 => ?_)
      · have : z0.toInt < (u.2.1 37 z4.toNatClampNeg).toInt := ltI c461
        exact hk31 z0 z4 u hs_u ⟨by omega, by omega⟩ ⟨by omega, by omega⟩
      · have : ¬ z0.toInt < (u.2.1 37 z4.toNatClampNeg).toInt := nltI c461
        have : (z4 + 1).toInt = z4.toInt + (1 : Int) := addc_t (by decide) (by omega) (by omega)
        exact ih z0 z2 (z4 + 1) u hs_u ⟨by omega, by omega⟩ ⟨by omega, by omega⟩ ⟨by omega, by omega⟩ (by omega)
set_option maxHeartbeats 400000 in
set_option maxRecDepth 10000 in
theorem tLX11_rowsUpTo_a37_31 (u0 : SX)    : ∀ (n : Nat) (z0 : Int32) (z4 : Int32) (u : SX), (StX mdX11_rowsUpTo_a37 u0 u) → (0 ≤ z0.toInt ∧ z0.toInt ≤ 120) → (0 ≤ z4.toInt ∧ z4.toInt ≤ 80) → (z4.toInt - 0 < (n : Int)) → Tot (LX11_rowsUpTo_a37_31 n z0 z4 u) (qX11_rowsUpTo_a37 u0) := by
  intro n
  induction n with
  | zero =>
    intro z0 z4 u hs_u h0 h1 hm
    exfalso
    omega
  | succ n ih =>
    intro z0 z4 u hs_u h0 h1 hm
    rw [LX11_rowsUpTo_a37_31]
    refine Tot_ite (fun c462 => ?_) (fun c462 => ?_)
    · have : z4.toInt ≤ (0 : Int) := leI c462
      exact Tot_some ⟨hs_u, (by show 0 ≤ z4.toInt ∧ z4.toInt ≤ 80; omega), trivial⟩
    · have : ¬ z4.toInt ≤ (0 : Int) := nleI c462
      have : (z4 - 1).toInt = z4.toInt - (1 : Int) := subc_t (by decide) (by omega) (by omega)
      refine Tot_gd (inb_t (by omega) (by omega)) ?_
      have : 0 ≤ (u.2.1 37 ((z4 - 1)).toNatClampNeg).toInt ∧ (u.2.1 37 ((z4 - 1)).toNatClampNeg).toInt ≤ 120 := hs_u.1.2.1 37 ((z4 - 1)).toNatClampNeg
      refine Tot_ite (fun c463 => ?_) (fun c463 => ?_)
      · have : (u.2.1 37 ((z4 - 1)).toNatClampNeg).toInt ≤ z0.toInt := leI c463
        exact Tot_some ⟨hs_u, (by show 0 ≤ z4.toInt ∧ z4.toInt ≤ 80; omega), trivial⟩
      · have : ¬ (u.2.1 37 ((z4 - 1)).toNatClampNeg).toInt ≤ z0.toInt := nleI c463
        have : (z4 + (-1)).toInt = z4.toInt + (-1 : Int) := addc_t (by decide) (by omega) (by omega)
        exact ih z0 (z4 + (-1)) u hs_u ⟨by omega, by omega⟩ ⟨by omega, by omega⟩ (by omega)
set_option maxHeartbeats 400000 in
set_option maxRecDepth 10000 in
theorem tfX11_rowsUpTo_a37 (x0 : Int32) (x2 : Int32) (x3 : Int32) (u : SX) (hI : IX u) (h0 : 0 ≤ x0.toInt ∧ x0.toInt ≤ 120) (h1 : 0 ≤ x2.toInt ∧ x2.toInt ≤ 80) (h2 : 0 ≤ x3.toInt ∧ x3.toInt ≤ 80) : Tot (fX11_rowsUpTo_a37 x0 x2 x3 u) (qX11_rowsUpTo_a37 u) := by
  unfold fX11_rowsUpTo_a37
  have hs_u : StX mdX11_rowsUpTo_a37 u u := StX_rf hI
  have : (x2.toInt < x3.toInt ∧ (if x2 < x3 then x2 else x3).toInt = x2.toInt) ∨ (¬ x2.toInt < x3.toInt ∧ (if x2 < x3 then x2 else x3).toInt = x3.toInt) := ite_lt_t (x := x2) (y := x3) (p := x2) (q := x3)
  have : ((0 : Int) < (if x2 < x3 then x2 else x3).toInt ∧ (if 0 < (if x2 < x3 then x2 else x3) then (if x2 < x3 then x2 else x3) else 0).toInt = (if x2 < x3 then x2 else x3).toInt) ∨ (¬ (0 : Int) < (if x2 < x3 then x2 else x3).toInt ∧ (if 0 < (if x2 < x3 then x2 else x3) then (if x2 < x3 then x2 else x3) else 0).toInt = (0 : Int)) := ite_lt_t (x := 0) (y := (if x2 < x3 then x2 else x3)) (p := (if x2 < x3 then x2 else x3)) (q := 0)
  refine Tot_lt (fun v1 e_v1 => ?_)
  have : v1.toInt = (if 0 < (if x2 < x3 then x2 else x3) then (if x2 < x3 then x2 else x3) else 0).toInt := congrArg Int32.toInt e_v1
  exact tLX11_rowsUpTo_a37_11 u (fun a464 a465 w466 hw466 p467 p468 => tLX11_rowsUpTo_a37_31 u 5000 a464 a465 w466 hw466 p467 p468 (by omega)) 5000 x0 x2 v1 u hs_u ⟨by omega, by omega⟩ ⟨by omega, by omega⟩ ⟨by omega, by omega⟩ (by show 80 - v1.toInt < ((5000 : Nat) : Int); omega)

def mdX7_leanOf_7 : MD := ([], [16, 17, 41], [], [])
abbrev qX7_leanOf_7 (u : SX) (q : Int32 × SX) : Prop := StX mdX7_leanOf_7 u q.2 ∧ (True) ∧ (True)
set_option maxHeartbeats 400000 in
set_option maxRecDepth 10000 in
theorem tfX7_leanOf_7 (x1 : Int32) (x2 : Int32) (u : SX) (hI : IX u) (h0 : 0 ≤ x1.toInt ∧ x1.toInt ≤ 79) (h1 : 0 ≤ x2.toInt ∧ x2.toInt ≤ 11) : Tot (fX7_leanOf_7 x1 x2 u) (qX7_leanOf_7 u) := by
  unfold fX7_leanOf_7
  have hs_u : StX mdX7_leanOf_7 u u := StX_rf hI
  refine Tot_gd (inb_t (by omega) (by omega)) ?_
  have : 0 ≤ (u.2.1 24 x2.toNatClampNeg).toInt ∧ (u.2.1 24 x2.toNatClampNeg).toInt ≤ 11 := hs_u.1.2.1 24 x2.toNatClampNeg
  refine Tot_lt (fun v2 e_v2 => ?_)
  have : v2.toInt = (u.2.1 24 x2.toNatClampNeg).toInt := congrArg Int32.toInt e_v2
  have : (x1 * 12).toInt = x1.toInt * 12 := mulc_t (by decide) (by omega) (by omega)
  have : ((x1 * 12) + v2).toInt = (x1 * 12).toInt + v2.toInt := add_t (by omega) (by omega)
  refine Tot_lt (fun v4 e_v4 => ?_)
  have : v4.toInt = ((x1 * 12) + v2).toInt := congrArg Int32.toInt e_v4
  refine Tot_gd (inb_t (by omega) (by omega)) ?_
  refine Tot_ite (fun c469 => ?_) (fun c469 => ?_)
  · have : (u.2.1 41 v4.toNatClampNeg).toInt = (-100000000 : Int) := eqI c469
    have : (x1 * 6).toInt = x1.toInt * 6 := mulc_t (by decide) (by omega) (by omega)
    refine Tot_gd (cpok_t (by show 0 ≤ (x1 * 6).toInt; omega) (by show 0 ≤ (0 : Int); omega) (by show 0 ≤ (6 : Int); omega) (by show (x1 * 6).toInt + (6 : Int) ≤ ((480 : Nat) : Int); omega) (by show (0 : Int) + (6 : Int) ≤ ((6 : Nat) : Int); omega)) ?_
    refine Tot_lt (fun u9 e_u9 => ?_)
    have hs_u9 : StX mdX7_leanOf_7 u u9 := by rw [e_u9]; exact StX_cpy hs_u (by decide) (by decide) (by decide) (by decide)
    refine Tot_bind (tfX8_ask_3 v2 u9 hs_u9.1 ⟨by omega, by omega⟩) (fun q hq => ?_)
    obtain ⟨r11, u12⟩ := q
    have hc_u12 : StX mdX8_ask_3 u9 u12 := hq.1
    have hs_u12 : StX mdX7_leanOf_7 u u12 := StX_tr hs_u9 hc_u12 (by decide)
    refine Tot_gd (inb_t (by omega) (by omega)) ?_
    refine Tot_lt (fun u15 e_u15 => ?_)
    have hs_u15 : StX mdX7_leanOf_7 u u15 := by rw [e_u15]; exact StX_sAf hs_u12 (by decide) rfl rfl (by decide)
    refine Tot_gd (inb_t (by omega) (by omega)) ?_
    exact Tot_some ⟨hs_u15, trivial, trivial⟩
  · refine Tot_gd (inb_t (by omega) (by omega)) ?_
    exact Tot_some ⟨hs_u, trivial, trivial⟩

def mdX7_leave_7 : MD := ([], [16, 17, 38, 39, 41], [], [])
abbrev qX7_leave_7 (u : SX) (q : Int32 × SX) : Prop := StX mdX7_leave_7 u q.2 ∧ (0 ≤ q.1.toInt ∧ q.1.toInt ≤ 0) ∧ (True)
set_option maxHeartbeats 400000 in
set_option maxRecDepth 10000 in
theorem tLX7_leave_7_7 (u0 : SX)  {k88 : Int32 → Int32 → Int32 → SX → Option (Int32 × SX)} (hk88 : ∀ (z1 : Int32) (z2 : Int32) (z3 : Int32) (u : SX), (StX mdX7_leave_7 u0 u) → (0 ≤ z1.toInt ∧ z1.toInt ≤ 79) → Tot (k88 z1 z2 z3 u) (qX7_leave_7 u0)) : ∀ (n : Nat) (z1 : Int32) (z2 : Int32) (z3 : Int32) (z4 : Int32) (u : SX), (StX mdX7_leave_7 u0 u) → (0 ≤ z1.toInt ∧ z1.toInt ≤ 79) → (0 ≤ z4.toInt ∧ z4.toInt ≤ 12) → (12 - z4.toInt < (n : Int)) → Tot (LX7_leave_7_7 k88 n z1 z2 z3 z4 u) (qX7_leave_7 u0) := by
  intro n
  induction n with
  | zero =>
    intro z1 z2 z3 z4 u hs_u h0 h1 hm
    exfalso
    omega
  | succ n ih =>
    intro z1 z2 z3 z4 u hs_u h0 h1 hm
    rw [LX7_leave_7_7]
    have : 0 ≤ (u.1 10).toInt ∧ (u.1 10).toInt ≤ 12 := hs_u.1.1 10
    refine Tot_ite (fun c470 => ?_) (fun c470 => ?_)
    · have : (u.1 10).toInt ≤ z4.toInt := leI c470
      exact hk88 z1 z2 z3 u hs_u ⟨by omega, by omega⟩
    · have : ¬ (u.1 10).toInt ≤ z4.toInt := nleI c470
      refine Tot_bind (tfX7_leanOf_7 z1 z4 u hs_u.1 ⟨by omega, by omega⟩ ⟨by omega, by omega⟩) (fun q hq => ?_)
      obtain ⟨r1, u2⟩ := q
      have hc_u2 : StX mdX7_leanOf_7 u u2 := hq.1
      have hs_u2 : StX mdX7_leave_7 u0 u2 := StX_tr hs_u hc_u2 (by decide)
      refine Tot_gd (inb_t (by omega) (by omega)) ?_
      have : 0 ≤ (u2.2.1 27 z4.toNatClampNeg).toInt ∧ (u2.2.1 27 z4.toNatClampNeg).toInt ≤ 400 := hs_u2.1.2.1 27 z4.toNatClampNeg
      refine Tot_bind (tfX11_shine (u2.2.1 27 z4.toNatClampNeg) r1 ⟨by omega, by omega⟩) (fun r5 hq => ?_)
      refine Tot_gd (inb_t (by omega) (by omega)) ?_
      have : 0 ≤ (u2.2.1 28 z4.toNatClampNeg).toInt ∧ (u2.2.1 28 z4.toNatClampNeg).toInt ≤ 400 := hs_u2.1.2.1 28 z4.toNatClampNeg
      refine Tot_bind (tfX11_shine (u2.2.1 28 z4.toNatClampNeg) r1 ⟨by omega, by omega⟩) (fun r9 hq => ?_)
      have : (r9.toInt < r5.toInt ∧ (if r9 < r5 then r9 else r5).toInt = r9.toInt) ∨ (¬ r9.toInt < r5.toInt ∧ (if r9 < r5 then r9 else r5).toInt = r5.toInt) := ite_lt_t (x := r9) (y := r5) (p := r9) (q := r5)
      refine Tot_lt (fun v12 e_v12 => ?_)
      have : (r5.toInt < r9.toInt ∧ (if r5 < r9 then r9 else r5).toInt = r9.toInt) ∨ (¬ r5.toInt < r9.toInt ∧ (if r5 < r9 then r9 else r5).toInt = r5.toInt) := ite_lt_t (x := r5) (y := r9) (p := r9) (q := r5)
      refine Tot_lt (fun v14 e_v14 => ?_)
      have : (z4 + 1).toInt = z4.toInt + (1 : Int) := addc_t (by decide) (by omega) (by omega)
      exact ih z1 v12 v14 (z4 + 1) u2 hs_u2 ⟨by omega, by omega⟩ ⟨by omega, by omega⟩ (by omega)
set_option maxHeartbeats 400000 in
set_option maxRecDepth 10000 in
theorem tGX7_leave_7_88 (u0 : SX)    (z1 : Int32) (z2 : Int32) (z3 : Int32) (u : SX) (hs_u : StX mdX7_leave_7 u0 u) (h0 : 0 ≤ z1.toInt ∧ z1.toInt ≤ 79) : Tot (GX7_leave_7_88 z1 z2 z3 u) (qX7_leave_7 u0) := by
  unfold GX7_leave_7_88
  refine Tot_gd (inb_t (by omega) (by omega)) ?_
  refine Tot_gd (inb_t (by omega) (by omega)) ?_
  refine Tot_lt (fun u18 e_u18 => ?_)
  have hs_u18 : StX mdX7_leave_7 u0 u18 := by rw [e_u18]; exact StX_sAf hs_u (by decide) rfl rfl (by decide)
  refine Tot_gd (inb_t (by omega) (by omega)) ?_
  refine Tot_gd (inb_t (by omega) (by omega)) ?_
  refine Tot_lt (fun u22 e_u22 => ?_)
  have hs_u22 : StX mdX7_leave_7 u0 u22 := by rw [e_u22]; exact StX_sAf hs_u18 (by decide) rfl rfl (by decide)
  exact Tot_some ⟨hs_u22, (by show 0 ≤ (0 : Int) ∧ (0 : Int) ≤ 0; omega), trivial⟩
set_option maxHeartbeats 400000 in
set_option maxRecDepth 10000 in
theorem tfX7_leave_7 (x1 : Int32) (u : SX) (hI : IX u) (h0 : 0 ≤ x1.toInt ∧ x1.toInt ≤ 79) : Tot (fX7_leave_7 x1 u) (qX7_leave_7 u) := by
  unfold fX7_leave_7
  have hs_u : StX mdX7_leave_7 u u := StX_rf hI
  exact tLX7_leave_7_7 u (tGX7_leave_7_88 u) 5000 x1 0 0 0 u hs_u ⟨by omega, by omega⟩ (by show 0 ≤ (0 : Int) ∧ (0 : Int) ≤ 12; omega) (by show 12 - (0 : Int) < ((5000 : Nat) : Int); omega)

def mdX7_recall_7 : MD := ([10, 11, 14, 15, 16], [16, 17, 27, 28, 38, 39, 41], [], [])
abbrev qX7_recall_7 (u : SX) (q : Int32 × SX) : Prop := StX mdX7_recall_7 u q.2 ∧ (0 ≤ q.1.toInt ∧ q.1.toInt ≤ 0) ∧ (True)
set_option maxHeartbeats 400000 in
set_option maxRecDepth 10000 in
theorem tLX7_recall_7_73 (u0 : SX)  {k91 : Int32 → SX → Option (Int32 × SX)} (hk91 : ∀ (z3 : Int32) (u : SX), (StX mdX7_recall_7 u0 u) → (0 ≤ z3.toInt ∧ z3.toInt ≤ 80) → Tot (k91 z3 u) (qX7_recall_7 u0)) : ∀ (n : Nat) (z3 : Int32) (z4 : Int32) (u : SX), (StX mdX7_recall_7 u0 u) → (0 ≤ z3.toInt ∧ z3.toInt ≤ 80) → (0 ≤ z4.toInt ∧ z4.toInt ≤ 80) → (80 - z4.toInt < (n : Int)) → Tot (LX7_recall_7_73 k91 n z3 z4 u) (qX7_recall_7 u0) := by
  intro n
  induction n with
  | zero =>
    intro z3 z4 u hs_u h0 h1 hm
    exfalso
    omega
  | succ n ih =>
    intro z3 z4 u hs_u h0 h1 hm
    rw [LX7_recall_7_73]
    refine Tot_ite (fun c471 => ?_) (fun c471 => ?_)
    · have : z3.toInt ≤ z4.toInt := leI c471
      exact hk91 z3 u hs_u ⟨by omega, by omega⟩
    · have : ¬ z3.toInt ≤ z4.toInt := nleI c471
      refine Tot_bind (tfX7_leave_7 z4 u hs_u.1 ⟨by omega, by omega⟩) (fun q hq => ?_)
      obtain ⟨r7, u8⟩ := q
      have hc_u8 : StX mdX7_leave_7 u u8 := hq.1
      have hs_u8 : StX mdX7_recall_7 u0 u8 := StX_tr hs_u hc_u8 (by decide)
      have : 0 ≤ r7.toInt ∧ r7.toInt ≤ 0 := hq.2.1
      have : (z4 + 1).toInt = z4.toInt + (1 : Int) := addc_t (by decide) (by omega) (by omega)
      exact ih z3 (z4 + 1) u8 hs_u8 ⟨by omega, by omega⟩ ⟨by omega, by omega⟩ (by omega)
set_option maxHeartbeats 400000 in
set_option maxRecDepth 10000 in
theorem tGX7_recall_7_91 (u0 : SX)    (z3 : Int32) (u : SX) (hs_u : StX mdX7_recall_7 u0 u) (h0 : 0 ≤ z3.toInt ∧ z3.toInt ≤ 80) : Tot (GX7_recall_7_91 z3 u) (qX7_recall_7 u0) := by
  unfold GX7_recall_7_91
  refine Tot_lt (fun u10 e_u10 => ?_)
  have hs_u10 : StX mdX7_recall_7 u0 u10 := by rw [e_u10]; exact StX_sI hs_u (by decide) (by show 0 ≤ z3.toInt; omega) (by show z3.toInt ≤ 80; omega)
  have : (u10.1 10).toInt = (u.1 10).toInt := by rw [e_u10]; rfl
  have : 0 ≤ (u.1 10).toInt ∧ (u.1 10).toInt ≤ 12 := hs_u.1.1 10
  refine Tot_lt (fun u12 e_u12 => ?_)
  have hs_u12 : StX mdX7_recall_7 u0 u12 := by rw [e_u12]; exact StX_sI hs_u10 (by decide) (by show 0 ≤ (u10.1 10).toInt; omega) (by show (u10.1 10).toInt ≤ 12; omega)
  have : (u12.1 11).toInt = (u10.1 11).toInt := by rw [e_u12]; rfl
  have : (u10.1 11).toInt = (u.1 11).toInt := by rw [e_u10]; rfl
  have : 0 ≤ (u.1 11).toInt ∧ (u.1 11).toInt ≤ 30 := hs_u.1.1 11
  refine Tot_lt (fun u14 e_u14 => ?_)
  have hs_u14 : StX mdX7_recall_7 u0 u14 := by rw [e_u14]; exact StX_sI hs_u12 (by decide) (by show 0 ≤ (u12.1 11).toInt; omega) (by show (u12.1 11).toInt ≤ 30; omega)
  exact Tot_some ⟨hs_u14, (by show 0 ≤ (0 : Int) ∧ (0 : Int) ≤ 0; omega), trivial⟩
set_option maxHeartbeats 400000 in
set_option maxRecDepth 10000 in
theorem tGX7_recall_7_71 (u0 : SX)    (z3 : Int32) (y0 : Int32) (u : SX) (hs_u : StX mdX7_recall_7 u0 u) (h0 : 0 ≤ z3.toInt ∧ z3.toInt ≤ 80) (h1 : 0 ≤ y0.toInt ∧ y0.toInt ≤ 80) : Tot (GX7_recall_7_71 z3 y0 u) (qX7_recall_7 u0) := by
  unfold GX7_recall_7_71
  exact tLX7_recall_7_73 u0 (tGX7_recall_7_91 u0) 5000 z3 y0 u hs_u ⟨by omega, by omega⟩ ⟨by omega, by omega⟩ (by show 80 - y0.toInt < ((5000 : Nat) : Int); omega)
set_option maxHeartbeats 400000 in
set_option maxRecDepth 10000 in
theorem tGX7_recall_7_41 (u0 : SX)    (z1 : Int32) (y0 : Int32) (u : SX) (hs_u : StX mdX7_recall_7 u0 u) (h0 : 0 ≤ z1.toInt ∧ z1.toInt ≤ 120) (h1 : 0 ≤ y0.toInt ∧ y0.toInt ≤ 1) : Tot (GX7_recall_7_41 z1 y0 u) (qX7_recall_7 u0) := by
  unfold GX7_recall_7_41
  have : 0 ≤ (u.1 13).toInt ∧ (u.1 13).toInt ≤ 80 := hs_u.1.1 13
  have : 0 ≤ (u.1 14).toInt ∧ (u.1 14).toInt ≤ 80 := hs_u.1.1 14
  refine Tot_bind (tfX11_rowsUpTo_a37 z1 (u.1 13) (u.1 14) u hs_u.1 ⟨by omega, by omega⟩ ⟨by omega, by omega⟩ ⟨by omega, by omega⟩) (fun q hq => ?_)
  obtain ⟨r4, u5⟩ := q
  have hc_u5 : StX mdX11_rowsUpTo_a37 u u5 := hq.1
  have hs_u5 : StX mdX7_recall_7 u0 u5 := StX_tr hs_u hc_u5 (by decide)
  have : 0 ≤ r4.toInt ∧ r4.toInt ≤ 80 := hq.2.1
  refine Tot_ite (fun c472 => ?_) (fun c472 => ?_)
  · have : y0.toInt = (0 : Int) := eqI c472
    exact tGX7_recall_7_71 u0 r4 0 u5 hs_u5 ⟨by omega, by omega⟩ (by show 0 ≤ (0 : Int) ∧ (0 : Int) ≤ 80; omega)
  · have : ¬ y0.toInt = (0 : Int) := neI c472
    have : (u5.1 14).toInt = (u.1 14).toInt := congrArg Int32.toInt (hc_u5.2.1 14 (by decide))
    exact tGX7_recall_7_71 u0 r4 (u5.1 14) u5 hs_u5 ⟨by omega, by omega⟩ ⟨by omega, by omega⟩
set_option maxHeartbeats 400000 in
set_option maxRecDepth 10000 in
theorem tGX7_recall_7_40 (u0 : SX)    (z1 : Int32) (u : SX) (hs_u : StX mdX7_recall_7 u0 u) (h0 : 0 ≤ z1.toInt ∧ z1.toInt ≤ 120) : Tot (GX7_recall_7_40 z1 u) (qX7_recall_7 u0) := by
  unfold GX7_recall_7_40
  exact tGX7_recall_7_41 u0 z1 0 u hs_u ⟨by omega, by omega⟩ (by show 0 ≤ (0 : Int) ∧ (0 : Int) ≤ 1; omega)
set_option maxHeartbeats 400000 in
set_option maxRecDepth 10000 in
theorem tfX7_recall_7 (x1 : Int32) (u : SX) (hI : IX u) (h0 : 0 ≤ x1.toInt ∧ x1.toInt ≤ 120) : Tot (fX7_recall_7 x1 u) (qX7_recall_7 u) := by
  unfold fX7_recall_7
  have hs_u : StX mdX7_recall_7 u u := StX_rf hI
  refine Tot_bind (tfX6_recall_6 x1 u hs_u.1 ⟨by omega, by omega⟩) (fun q hq => ?_)
  obtain ⟨r1, u2⟩ := q
  have hc_u2 : StX mdX6_recall_6 u u2 := hq.1
  have hs_u2 : StX mdX7_recall_7 u u2 := StX_tr hs_u hc_u2 (by decide)
  have : 0 ≤ r1.toInt ∧ r1.toInt ≤ 0 := hq.2.1
  have : (u2.1 15).toInt = (u.1 15).toInt := congrArg Int32.toInt (hc_u2.2.1 15 (by decide))
  have : 0 ≤ (u.1 15).toInt ∧ (u.1 15).toInt ≤ 12 := hs_u.1.1 15
  have : 0 ≤ (u2.1 10).toInt ∧ (u2.1 10).toInt ≤ 12 := hs_u2.1.1 10
  refine Tot_ite (fun c473 => ?_) (fun c473 => ?_)
  · have : (u2.1 15).toInt = (u2.1 10).toInt := eqI c473
    have : (u2.1 16).toInt = (u.1 16).toInt := congrArg Int32.toInt (hc_u2.2.1 16 (by decide))
    have : 0 ≤ (u.1 16).toInt ∧ (u.1 16).toInt ≤ 30 := hs_u.1.1 16
    have : 0 ≤ (u2.1 11).toInt ∧ (u2.1 11).toInt ≤ 30 := hs_u2.1.1 11
    refine Tot_ite (fun c474 => ?_) (fun c474 => ?_)
    · have : (u2.1 16).toInt = (u2.1 11).toInt := eqI c474
      exact tGX7_recall_7_41 u x1 1 u2 hs_u2 ⟨by omega, by omega⟩ (by show 0 ≤ (1 : Int) ∧ (1 : Int) ≤ 1; omega)
    · exact tGX7_recall_7_40 u x1 u2 hs_u2 ⟨by omega, by omega⟩
  · exact tGX7_recall_7_40 u x1 u2 hs_u2 ⟨by omega, by omega⟩

def mdX11_left_0 : MD := ([10, 11, 14, 15, 16], [16, 17, 27, 28, 38, 39, 41], [], [])
abbrev qX11_left_0 (u : SX) (q : Int32 × SX) : Prop := StX mdX11_left_0 u q.2 ∧ (True) ∧ (True)
set_option maxHeartbeats 400000 in
set_option maxRecDepth 10000 in
theorem tfX11_left_0 (x1 : Int32) (x2 : Int32) (x3 : Int32) (u : SX) (hI : IX u)  : Tot (fX11_left_0 x1 x2 x3 u) (qX11_left_0 u) := by
  unfold fX11_left_0
  have hs_u : StX mdX11_left_0 u u := StX_rf hI
  refine Tot_bind (tfX11_isDay_0 x2 u hs_u.1) (fun q hq => ?_)
  obtain ⟨r1, u2⟩ := q
  have hc_u2 : StX mdX11_isDay_0 u u2 := hq.1
  have hs_u2 : StX mdX11_left_0 u u2 := StX_tr hs_u hc_u2 (by decide)
  have : 0 ≤ r1.toInt ∧ r1.toInt ≤ 1 := hq.2.1
  have : 0 ≤ (u.1 0).toInt ∧ (u.1 0).toInt ≤ 120 := hs_u.1.1 0
  have : r1.toInt ≠ 0 → ((0 : Int) ≤ x2.toInt ∧ x2.toInt ≤ (u.1 0).toInt) := hq.2.2
  refine Tot_ite (fun c475 => ?_) (fun c475 => ?_)
  · have : r1.toInt = (0 : Int) := eqI c475
    exact Tot_some ⟨hs_u2, trivial, trivial⟩
  · have : ¬ r1.toInt = (0 : Int) := neI c475
    refine Tot_bind (tfX11_isEither x3) (fun r4 hq => ?_)
    have : 0 ≤ r4.toInt ∧ r4.toInt ≤ 1 := hq.1
    have : r4.toInt ≠ 0 → ((0 : Int) ≤ x3.toInt ∧ x3.toInt ≤ (1 : Int)) := hq.2
    refine Tot_ite (fun c476 => ?_) (fun c476 => ?_)
    · have : r4.toInt = (0 : Int) := eqI c476
      exact Tot_some ⟨hs_u2, trivial, trivial⟩
    · have : ¬ r4.toInt = (0 : Int) := neI c476
      refine Tot_bind (tfX7_has_7 x1 u2 hs_u2.1) (fun q hq => ?_)
      obtain ⟨r7, u8⟩ := q
      have hc_u8 : StX mdX7_has_7 u2 u8 := hq.1
      have hs_u8 : StX mdX11_left_0 u u8 := StX_tr hs_u2 hc_u8 (by decide)
      have : 0 ≤ r7.toInt ∧ r7.toInt ≤ 1 := hq.2.1
      have : (u2.1 13).toInt = (u.1 13).toInt := congrArg Int32.toInt (hc_u2.2.1 13 (by decide))
      have : 0 ≤ (u.1 13).toInt ∧ (u.1 13).toInt ≤ 80 := hs_u.1.1 13
      have : r7.toInt ≠ 0 → ((0 : Int) ≤ x1.toInt ∧ x1.toInt < (u2.1 13).toInt) := hq.2.2
      refine Tot_ite (fun c477 => ?_) (fun c477 => ?_)
      · have : r7.toInt = (0 : Int) := eqI c477
        exact Tot_some ⟨hs_u8, trivial, trivial⟩
      · have : ¬ r7.toInt = (0 : Int) := neI c477
        refine Tot_gd (inb_t (by omega) (by omega)) ?_
        have : 0 ≤ (u8.2.1 37 x1.toNatClampNeg).toInt ∧ (u8.2.1 37 x1.toNatClampNeg).toInt ≤ 120 := hs_u8.1.2.1 37 x1.toNatClampNeg
        refine Tot_ite (fun c478 => ?_) (fun c478 => ?_)
        · have : (u8.2.1 37 x1.toNatClampNeg).toInt ≤ x2.toInt := leI c478
          refine Tot_bind (tfX7_recall_7 x2 u8 hs_u8.1 ⟨by omega, by omega⟩) (fun q hq => ?_)
          obtain ⟨r11, u12⟩ := q
          have hc_u12 : StX mdX7_recall_7 u8 u12 := hq.1
          have hs_u12 : StX mdX11_left_0 u u12 := StX_tr hs_u8 hc_u12 (by decide)
          have : 0 ≤ r11.toInt ∧ r11.toInt ≤ 0 := hq.2.1
          refine Tot_ite (fun c479 => ?_) (fun c479 => ?_)
          · have : x3.toInt = (0 : Int) := eqI c479
            refine Tot_gd (inb_t (by omega) (by omega)) ?_
            exact Tot_some ⟨hs_u12, trivial, trivial⟩
          · have : ¬ x3.toInt = (0 : Int) := neI c479
            refine Tot_gd (inb_t (by omega) (by omega)) ?_
            exact Tot_some ⟨hs_u12, trivial, trivial⟩
        · have : ¬ (u8.2.1 37 x1.toNatClampNeg).toInt ≤ x2.toInt := nleI c478
          exact Tot_some ⟨hs_u8, trivial, trivial⟩

abbrev qX11_spread (q : Int32) : Prop := (True) ∧ (True)
set_option maxHeartbeats 400000 in
set_option maxRecDepth 10000 in
theorem tfX11_spread (x0 : Int32) (x1 : Int32) (x2 : Int32) (h0 : 0 ≤ x0.toInt ∧ x0.toInt ≤ 400) (h1 : 0 ≤ x1.toInt ∧ x1.toInt ≤ 400) : Tot (fX11_spread x0 x1 x2) (qX11_spread ) := by
  unfold fX11_spread
  refine Tot_bind (tfX11_shine x1 x2 ⟨by omega, by omega⟩) (fun r1 hq => ?_)
  refine Tot_bind (tfX11_shine x0 x2 ⟨by omega, by omega⟩) (fun r4 hq => ?_)
  have : ((0 : Int) ≤ (r1 - r4).toInt ∧ (if 0 ≤ (r1 - r4) then (r1 - r4) else (0 - (r1 - r4))).toInt = (r1 - r4).toInt) ∨ (¬ (0 : Int) ≤ (r1 - r4).toInt ∧ (if 0 ≤ (r1 - r4) then (r1 - r4) else (0 - (r1 - r4))).toInt = (0 - (r1 - r4)).toInt) := ite_le_t (x := 0) (y := (r1 - r4)) (p := (r1 - r4)) (q := (0 - (r1 - r4)))
  exact Tot_some ⟨trivial, trivial⟩

def mdX7_widestPart_7 : MD := ([], [16, 17, 41], [], [])
abbrev qX7_widestPart_7 (u : SX) (q : Int32 × SX) : Prop := StX mdX7_widestPart_7 u q.2 ∧ ((-1) ≤ q.1.toInt ∧ q.1.toInt ≤ 11) ∧ (True)
set_option maxHeartbeats 400000 in
set_option maxRecDepth 10000 in
theorem tGX7_widestPart_7_63 (u0 : SX) (g7 : Int) {k7 : Int32 → Int32 → Int32 → Int32 → SX → Option (Int32 × SX)} (hk7 : ∀ (z1 : Int32) (z2 : Int32) (z3 : Int32) (z4 : Int32) (u : SX), (StX mdX7_widestPart_7 u0 u) → (0 ≤ z1.toInt ∧ z1.toInt ≤ 79) → ((-1) ≤ z2.toInt ∧ z2.toInt ≤ 11) → ((-1) ≤ z3.toInt) → (0 ≤ z4.toInt ∧ z4.toInt ≤ 12) → (g7 < z4.toInt) → Tot (k7 z1 z2 z3 z4 u) (qX7_widestPart_7 u0)) (z1 : Int32) (z2 : Int32) (z3 : Int32) (z4 : Int32) (u : SX) (hs_u : StX mdX7_widestPart_7 u0 u) (h0 : 0 ≤ z1.toInt ∧ z1.toInt ≤ 79) (h1 : (-1) ≤ z2.toInt ∧ z2.toInt ≤ 11) (h2 : (-1) ≤ z3.toInt) (h3 : 0 ≤ z4.toInt ∧ z4.toInt ≤ 11) (h4 : g7 ≤ z4.toInt) : Tot (GX7_widestPart_7_63 k7 z1 z2 z3 z4 u) (qX7_widestPart_7 u0) := by
  unfold GX7_widestPart_7_63
  have : (z4 + 1).toInt = z4.toInt + (1 : Int) := addc_t (by decide) (by omega) (by omega)
  exact hk7 z1 z2 z3 (z4 + 1) u hs_u ⟨by omega, by omega⟩ ⟨by omega, by omega⟩ (by omega) ⟨by omega, by omega⟩ (by omega)
set_option maxHeartbeats 400000 in
set_option maxRecDepth 10000 in
theorem tLX7_widestPart_7_7 (u0 : SX)    : ∀ (n : Nat) (z1 : Int32) (z2 : Int32) (z3 : Int32) (z4 : Int32) (u : SX), (StX mdX7_widestPart_7 u0 u) → (0 ≤ z1.toInt ∧ z1.toInt ≤ 79) → ((-1) ≤ z2.toInt ∧ z2.toInt ≤ 11) → ((-1) ≤ z3.toInt) → (0 ≤ z4.toInt ∧ z4.toInt ≤ 12) → (12 - z4.toInt < (n : Int)) → Tot (LX7_widestPart_7_7 n z1 z2 z3 z4 u) (qX7_widestPart_7 u0) := by
  intro n
  induction n with
  | zero =>
    intro z1 z2 z3 z4 u hs_u h0 h1 h2 h3 hm
    exfalso
    omega
  | succ n ih =>
    intro z1 z2 z3 z4 u hs_u h0 h1 h2 h3 hm
    rw [LX7_widestPart_7_7]
    have : 0 ≤ (u.1 10).toInt ∧ (u.1 10).toInt ≤ 12 := hs_u.1.1 10
    refine Tot_ite (fun c480 => ?_) (fun c480 => ?_)
    · have : (u.1 10).toInt ≤ z4.toInt := leI c480
      exact Tot_some ⟨hs_u, (by show (-1) ≤ z2.toInt ∧ z2.toInt ≤ 11; omega), trivial⟩
    · have : ¬ (u.1 10).toInt ≤ z4.toInt := nleI c480
      refine Tot_gd (inb_t (by omega) (by omega)) ?_
      refine Tot_gd (inb_t (by omega) (by omega)) ?_
      refine Tot_bind (tfX7_leanOf_7 z1 z4 u hs_u.1 ⟨by omega, by omega⟩ ⟨by omega, by omega⟩) (fun q hq => ?_)
      obtain ⟨r3, u4⟩ := q
      have hc_u4 : StX mdX7_leanOf_7 u u4 := hq.1
      have hs_u4 : StX mdX7_widestPart_7 u0 u4 := StX_tr hs_u hc_u4 (by decide)
      have : 0 ≤ (u.2.1 27 z4.toNatClampNeg).toInt ∧ (u.2.1 27 z4.toNatClampNeg).toInt ≤ 400 := hs_u.1.2.1 27 z4.toNatClampNeg
      have : 0 ≤ (u.2.1 28 z4.toNatClampNeg).toInt ∧ (u.2.1 28 z4.toNatClampNeg).toInt ≤ 400 := hs_u.1.2.1 28 z4.toNatClampNeg
      refine Tot_bind (tfX11_spread (u.2.1 27 z4.toNatClampNeg) (u.2.1 28 z4.toNatClampNeg) r3 ⟨by omega, by omega⟩ ⟨by omega, by omega⟩) (fun r6 hq => ?_)
      refine Tot_ite (fun c481 => ?_) (fun c481 => ?_)
      · have : r6.toInt ≤ z3.toInt := leI c481
        exact tGX7_widestPart_7_63 u0 (z4.toInt) (fun a482 a483 a484 a485 w486 hw486 p487 p488 p489 p490 p491 => ih a482 a483 a484 a485 w486 hw486 p487 p488 p489 p490 (by omega)) z1 z2 z3 z4 u4 hs_u4 ⟨by omega, by omega⟩ ⟨by omega, by omega⟩ (by omega) ⟨by omega, by omega⟩ (by omega)
      · have : ¬ r6.toInt ≤ z3.toInt := nleI c481
        exact tGX7_widestPart_7_63 u0 (z4.toInt) (fun a492 a493 a494 a495 w496 hw496 p497 p498 p499 p500 p501 => ih a492 a493 a494 a495 w496 hw496 p497 p498 p499 p500 (by omega)) z1 z4 r6 z4 u4 hs_u4 ⟨by omega, by omega⟩ ⟨by omega, by omega⟩ (by omega) ⟨by omega, by omega⟩ (by omega)
set_option maxHeartbeats 400000 in
set_option maxRecDepth 10000 in
theorem tfX7_widestPart_7 (x1 : Int32) (u : SX) (hI : IX u) (h0 : 0 ≤ x1.toInt ∧ x1.toInt ≤ 79) : Tot (fX7_widestPart_7 x1 u) (qX7_widestPart_7 u) := by
  unfold fX7_widestPart_7
  have hs_u : StX mdX7_widestPart_7 u u := StX_rf hI
  exact tLX7_widestPart_7_7 u 5000 x1 (-1) (-1) 0 u hs_u ⟨by omega, by omega⟩ (by show (-1) ≤ (-1 : Int) ∧ (-1 : Int) ≤ 11; omega) (by show (-1) ≤ (-1 : Int); omega) (by show 0 ≤ (0 : Int) ∧ (0 : Int) ≤ 12; omega) (by show 12 - (0 : Int) < ((5000 : Nat) : Int); omega)

def mdX11_most_0 : MD := ([10, 11], [16, 17, 27, 28, 41], [], [])
abbrev qX11_most_0 (u : SX) (q : Int32 × SX) : Prop := StX mdX11_most_0 u q.2 ∧ ((-1) ≤ q.1.toInt ∧ q.1.toInt ≤ 11) ∧ (True)
set_option maxHeartbeats 400000 in
set_option maxRecDepth 10000 in
theorem tfX11_most_0 (x1 : Int32) (x2 : Int32) (u : SX) (hI : IX u)  : Tot (fX11_most_0 x1 x2 u) (qX11_most_0 u) := by
  unfold fX11_most_0
  have hs_u : StX mdX11_most_0 u u := StX_rf hI
  refine Tot_bind (tfX11_isDay_0 x2 u hs_u.1) (fun q hq => ?_)
  obtain ⟨r1, u2⟩ := q
  have hc_u2 : StX mdX11_isDay_0 u u2 := hq.1
  have hs_u2 : StX mdX11_most_0 u u2 := StX_tr hs_u hc_u2 (by decide)
  have : 0 ≤ r1.toInt ∧ r1.toInt ≤ 1 := hq.2.1
  have : 0 ≤ (u.1 0).toInt ∧ (u.1 0).toInt ≤ 120 := hs_u.1.1 0
  have : r1.toInt ≠ 0 → ((0 : Int) ≤ x2.toInt ∧ x2.toInt ≤ (u.1 0).toInt) := hq.2.2
  refine Tot_ite (fun c502 => ?_) (fun c502 => ?_)
  · have : r1.toInt = (0 : Int) := eqI c502
    exact Tot_some ⟨hs_u2, (by show (-1) ≤ (-1 : Int) ∧ (-1 : Int) ≤ 11; omega), trivial⟩
  · have : ¬ r1.toInt = (0 : Int) := neI c502
    refine Tot_bind (tfX7_has_7 x1 u2 hs_u2.1) (fun q hq => ?_)
    obtain ⟨r4, u5⟩ := q
    have hc_u5 : StX mdX7_has_7 u2 u5 := hq.1
    have hs_u5 : StX mdX11_most_0 u u5 := StX_tr hs_u2 hc_u5 (by decide)
    have : 0 ≤ r4.toInt ∧ r4.toInt ≤ 1 := hq.2.1
    have : (u2.1 13).toInt = (u.1 13).toInt := congrArg Int32.toInt (hc_u2.2.1 13 (by decide))
    have : 0 ≤ (u.1 13).toInt ∧ (u.1 13).toInt ≤ 80 := hs_u.1.1 13
    have : r4.toInt ≠ 0 → ((0 : Int) ≤ x1.toInt ∧ x1.toInt < (u2.1 13).toInt) := hq.2.2
    refine Tot_ite (fun c503 => ?_) (fun c503 => ?_)
    · have : r4.toInt = (0 : Int) := eqI c503
      exact Tot_some ⟨hs_u5, (by show (-1) ≤ (-1 : Int) ∧ (-1 : Int) ≤ 11; omega), trivial⟩
    · have : ¬ r4.toInt = (0 : Int) := neI c503
      refine Tot_bind (tfX6_recall_6 x2 u5 hs_u5.1 ⟨by omega, by omega⟩) (fun q hq => ?_)
      obtain ⟨r7, u8⟩ := q
      have hc_u8 : StX mdX6_recall_6 u5 u8 := hq.1
      have hs_u8 : StX mdX11_most_0 u u8 := StX_tr hs_u5 hc_u8 (by decide)
      have : 0 ≤ r7.toInt ∧ r7.toInt ≤ 0 := hq.2.1
      refine Tot_bind (tfX7_widestPart_7 x1 u8 hs_u8.1 ⟨by omega, by omega⟩) (fun q hq => ?_)
      obtain ⟨r10, u11⟩ := q
      have hc_u11 : StX mdX7_widestPart_7 u8 u11 := hq.1
      have hs_u11 : StX mdX11_most_0 u u11 := StX_tr hs_u8 hc_u11 (by decide)
      have : (-1) ≤ r10.toInt ∧ r10.toInt ≤ 11 := hq.2.1
      exact Tot_some ⟨hs_u11, (by show (-1) ≤ r10.toInt ∧ r10.toInt ≤ 11; omega), trivial⟩

def mdX1_compare_8 : MD := ([17, 18], [], [], [])
abbrev qX1_compare_8 (u : SX) (q : Int32 × SX) : Prop := StX mdX1_compare_8 u q.2 ∧ (0 ≤ q.1.toInt ∧ q.1.toInt ≤ 1) ∧ (True)
set_option maxHeartbeats 400000 in
set_option maxRecDepth 10000 in
theorem tLX1_compare_8_40 (u0 : SX)  {k97 : SX → Option (Int32 × SX)} (hk97 : ∀  (u : SX), (StX mdX1_compare_8 u0 u) → Tot (k97  u) (qX1_compare_8 u0)) : ∀ (n : Nat) (z1 : Int32) (u : SX), (StX mdX1_compare_8 u0 u) → (1 ≤ z1.toInt ∧ z1.toInt ≤ 80) → (80 - z1.toInt < (n : Int)) → Tot (LX1_compare_8_40 k97 n z1 u) (qX1_compare_8 u0) := by
  intro n
  induction n with
  | zero =>
    intro z1 u hs_u h0 hm
    exfalso
    omega
  | succ n ih =>
    intro z1 u hs_u h0 hm
    rw [LX1_compare_8_40]
    have : 0 ≤ (u.1 14).toInt ∧ (u.1 14).toInt ≤ 80 := hs_u.1.1 14
    refine Tot_ite (fun c504 => ?_) (fun c504 => ?_)
    · have : (u.1 14).toInt ≤ z1.toInt := leI c504
      exact hk97 u hs_u
    · have : ¬ (u.1 14).toInt ≤ z1.toInt := nleI c504
      refine Tot_gd (inb_t (by omega) (by omega)) ?_
      refine Tot_lt (fun u8 e_u8 => ?_)
      have hs_u8 : StX mdX1_compare_8 u0 u8 := by rw [e_u8]; exact StX_sIf hs_u (by decide) rfl rfl
      refine Tot_gd (inb_t (by omega) (by omega)) ?_
      refine Tot_lt (fun u11 e_u11 => ?_)
      have hs_u11 : StX mdX1_compare_8 u0 u11 := by rw [e_u11]; exact StX_sIf hs_u8 (by decide) rfl rfl
      have : (z1 + 1).toInt = z1.toInt + (1 : Int) := addc_t (by decide) (by omega) (by omega)
      exact ih (z1 + 1) u11 hs_u11 ⟨by omega, by omega⟩ (by omega)
set_option maxHeartbeats 400000 in
set_option maxRecDepth 10000 in
theorem tGX1_compare_8_97 (u0 : SX)     (u : SX) (hs_u : StX mdX1_compare_8 u0 u)  : Tot (GX1_compare_8_97  u) (qX1_compare_8 u0) := by
  unfold GX1_compare_8_97
  refine Tot_ite (fun c505 => ?_) (fun c505 => ?_)
  · refine Tot_gd (by decide) ?_
    exact Tot_some ⟨hs_u, (by show 0 ≤ (0 : Int) ∧ (0 : Int) ≤ 1; omega), trivial⟩
  · refine Tot_gd (by decide) ?_
    exact Tot_some ⟨hs_u, (by show 0 ≤ (1 : Int) ∧ (1 : Int) ≤ 1; omega), trivial⟩
set_option maxHeartbeats 400000 in
set_option maxRecDepth 10000 in
theorem tfX1_compare_8  (u : SX) (hI : IX u)  : Tot (fX1_compare_8  u) (qX1_compare_8 u) := by
  unfold fX1_compare_8
  have hs_u : StX mdX1_compare_8 u u := StX_rf hI
  have : 0 ≤ (u.1 14).toInt ∧ (u.1 14).toInt ≤ 80 := hs_u.1.1 14
  refine Tot_ite (fun c506 => ?_) (fun c506 => ?_)
  · have : (u.1 14).toInt = (0 : Int) := eqI c506
    refine Tot_gd (by decide) ?_
    exact Tot_some ⟨hs_u, (by show 0 ≤ (0 : Int) ∧ (0 : Int) ≤ 1; omega), trivial⟩
  · have : ¬ (u.1 14).toInt = (0 : Int) := neI c506
    refine Tot_gd (by decide) ?_
    refine Tot_lt (fun u2 e_u2 => ?_)
    have hs_u2 : StX mdX1_compare_8 u u2 := by rw [e_u2]; exact StX_sIf hs_u (by decide) rfl rfl
    refine Tot_gd (by decide) ?_
    refine Tot_lt (fun u5 e_u5 => ?_)
    have hs_u5 : StX mdX1_compare_8 u u5 := by rw [e_u5]; exact StX_sIf hs_u2 (by decide) rfl rfl
    exact tLX1_compare_8_40 u (tGX1_compare_8_97 u) 5000 1 u5 hs_u5 (by show 1 ≤ (1 : Int) ∧ (1 : Int) ≤ 80; omega) (by show 80 - (1 : Int) < ((5000 : Nat) : Int); omega)

def mdX11_alike_0 : MD := ([10, 11, 14, 15, 16, 17, 18], [16, 17, 27, 28, 38, 39, 41], [], [])
abbrev qX11_alike_0 (u : SX) (q : Int32 × SX) : Prop := StX mdX11_alike_0 u q.2 ∧ (True) ∧ (True)
set_option maxHeartbeats 400000 in
set_option maxRecDepth 10000 in
theorem tfX11_alike_0 (x1 : Int32) (x2 : Int32) (u : SX) (hI : IX u)  : Tot (fX11_alike_0 x1 x2 u) (qX11_alike_0 u) := by
  unfold fX11_alike_0
  have hs_u : StX mdX11_alike_0 u u := StX_rf hI
  refine Tot_bind (tfX11_isDay_0 x1 u hs_u.1) (fun q hq => ?_)
  obtain ⟨r1, u2⟩ := q
  have hc_u2 : StX mdX11_isDay_0 u u2 := hq.1
  have hs_u2 : StX mdX11_alike_0 u u2 := StX_tr hs_u hc_u2 (by decide)
  have : 0 ≤ r1.toInt ∧ r1.toInt ≤ 1 := hq.2.1
  have : 0 ≤ (u.1 0).toInt ∧ (u.1 0).toInt ≤ 120 := hs_u.1.1 0
  have : r1.toInt ≠ 0 → ((0 : Int) ≤ x1.toInt ∧ x1.toInt ≤ (u.1 0).toInt) := hq.2.2
  refine Tot_ite (fun c507 => ?_) (fun c507 => ?_)
  · have : r1.toInt = (0 : Int) := eqI c507
    exact Tot_some ⟨hs_u2, trivial, trivial⟩
  · have : ¬ r1.toInt = (0 : Int) := neI c507
    refine Tot_bind (tfX11_isEither x2) (fun r4 hq => ?_)
    have : 0 ≤ r4.toInt ∧ r4.toInt ≤ 1 := hq.1
    have : r4.toInt ≠ 0 → ((0 : Int) ≤ x2.toInt ∧ x2.toInt ≤ (1 : Int)) := hq.2
    refine Tot_ite (fun c508 => ?_) (fun c508 => ?_)
    · have : r4.toInt = (0 : Int) := eqI c508
      exact Tot_some ⟨hs_u2, trivial, trivial⟩
    · have : ¬ r4.toInt = (0 : Int) := neI c508
      refine Tot_bind (tfX7_recall_7 x1 u2 hs_u2.1 ⟨by omega, by omega⟩) (fun q hq => ?_)
      obtain ⟨r7, u8⟩ := q
      have hc_u8 : StX mdX7_recall_7 u2 u8 := hq.1
      have hs_u8 : StX mdX11_alike_0 u u8 := StX_tr hs_u2 hc_u8 (by decide)
      have : 0 ≤ r7.toInt ∧ r7.toInt ≤ 0 := hq.2.1
      refine Tot_bind (tfX1_compare_8 u8 hs_u8.1) (fun q hq => ?_)
      obtain ⟨r10, u11⟩ := q
      have hc_u11 : StX mdX1_compare_8 u8 u11 := hq.1
      have hs_u11 : StX mdX11_alike_0 u u11 := StX_tr hs_u8 hc_u11 (by decide)
      have : 0 ≤ r10.toInt ∧ r10.toInt ≤ 1 := hq.2.1
      refine Tot_ite (fun c509 => ?_) (fun c509 => ?_)
      · have : r10.toInt = (0 : Int) := eqI c509
        exact Tot_some ⟨hs_u11, trivial, trivial⟩
      · have : ¬ r10.toInt = (0 : Int) := neI c509
        refine Tot_ite (fun c510 => ?_) (fun c510 => ?_)
        · have : x2.toInt = (0 : Int) := eqI c510
          exact Tot_some ⟨hs_u11, trivial, trivial⟩
        · have : ¬ x2.toInt = (0 : Int) := neI c510
          exact Tot_some ⟨hs_u11, trivial, trivial⟩

def mdJ7_fill_d0a16_a42 : MD := ([], [], [], [42])
abbrev qJ7_fill_d0a16_a42 (u : SX) (q : Int32 × SX) : Prop := StX mdJ7_fill_d0a16_a42 u q.2 ∧ (0 ≤ q.1.toInt ∧ q.1.toInt ≤ 0) ∧ (True)
set_option maxHeartbeats 400000 in
set_option maxRecDepth 10000 in
theorem tLJ7_fill_d0a16_a42_6 (u0 : SX)    : ∀ (n : Nat) (z1 : Int64) (z3 : Int32) (z4 : Int32) (u : SX), (StX mdJ7_fill_d0a16_a42 u0 u) → (0 ≤ z3.toInt ∧ z3.toInt ≤ 41) → (41 ≤ z4.toInt ∧ z4.toInt ≤ 41) → (41 - z3.toInt < (n : Int)) → Tot (LJ7_fill_d0a16_a42_6 n z1 z3 z4 u) (qJ7_fill_d0a16_a42 u0) := by
  intro n
  induction n with
  | zero =>
    intro z1 z3 z4 u hs_u h0 h1 hm
    exfalso
    omega
  | succ n ih =>
    intro z1 z3 z4 u hs_u h0 h1 hm
    rw [LJ7_fill_d0a16_a42_6]
    refine Tot_ite (fun c511 => ?_) (fun c511 => ?_)
    · have : z4.toInt ≤ z3.toInt := leI c511
      exact Tot_some ⟨hs_u, (by show 0 ≤ (0 : Int) ∧ (0 : Int) ≤ 0; omega), trivial⟩
    · have : ¬ z4.toInt ≤ z3.toInt := nleI c511
      refine Tot_gd (inb_t (by omega) (by omega)) ?_
      refine Tot_lt (fun u2 e_u2 => ?_)
      have hs_u2 : StX mdJ7_fill_d0a16_a42 u0 u2 := by rw [e_u2]; exact StX_sB hs_u (by decide)
      have : (z3 + 1).toInt = z3.toInt + (1 : Int) := addc_t (by decide) (by omega) (by omega)
      exact ih z1 (z3 + 1) z4 u2 hs_u2 ⟨by omega, by omega⟩ ⟨by omega, by omega⟩ (by omega)
set_option maxHeartbeats 400000 in
set_option maxRecDepth 10000 in
theorem tfJ7_fill_d0a16_a42 (x1 : Int64) (u : SX) (hI : IX u)  : Tot (fJ7_fill_d0a16_a42 x1 u) (qJ7_fill_d0a16_a42 u) := by
  unfold fJ7_fill_d0a16_a42
  have hs_u : StX mdJ7_fill_d0a16_a42 u u := StX_rf hI
  exact tLJ7_fill_d0a16_a42_6 u 5000 x1 0 41 u hs_u (by show 0 ≤ (0 : Int) ∧ (0 : Int) ≤ 41; omega) (by show 41 ≤ (41 : Int) ∧ (41 : Int) ≤ 41; omega) (by show 41 - (0 : Int) < ((5000 : Nat) : Int); omega)

def mdJ7_fill_53178_a43 : MD := ([], [43], [], [])
abbrev qJ7_fill_53178_a43 (u : SX) (q : Int32 × SX) : Prop := StX mdJ7_fill_53178_a43 u q.2 ∧ (0 ≤ q.1.toInt ∧ q.1.toInt ≤ 0) ∧ (True)
set_option maxHeartbeats 400000 in
set_option maxRecDepth 10000 in
theorem tLJ7_fill_53178_a43_5 (u0 : SX)    : ∀ (n : Nat) (z1 : Int32) (z2 : Int32) (z3 : Int32) (u : SX), (StX mdJ7_fill_53178_a43 u0 u) → (0 ≤ z1.toInt ∧ z1.toInt ≤ 0) → (0 ≤ z2.toInt ∧ z2.toInt ≤ 41) → (41 ≤ z3.toInt ∧ z3.toInt ≤ 41) → (41 - z2.toInt < (n : Int)) → Tot (LJ7_fill_53178_a43_5 n z1 z2 z3 u) (qJ7_fill_53178_a43 u0) := by
  intro n
  induction n with
  | zero =>
    intro z1 z2 z3 u hs_u h0 h1 h2 hm
    exfalso
    omega
  | succ n ih =>
    intro z1 z2 z3 u hs_u h0 h1 h2 hm
    rw [LJ7_fill_53178_a43_5]
    refine Tot_ite (fun c512 => ?_) (fun c512 => ?_)
    · have : z3.toInt ≤ z2.toInt := leI c512
      exact Tot_some ⟨hs_u, (by show 0 ≤ (0 : Int) ∧ (0 : Int) ≤ 0; omega), trivial⟩
    · have : ¬ z3.toInt ≤ z2.toInt := nleI c512
      refine Tot_gd (inb_t (by omega) (by omega)) ?_
      refine Tot_lt (fun u2 e_u2 => ?_)
      have hs_u2 : StX mdJ7_fill_53178_a43 u0 u2 := by rw [e_u2]; exact StX_sAf hs_u (by decide) rfl rfl (by decide)
      have : (z2 + 1).toInt = z2.toInt + (1 : Int) := addc_t (by decide) (by omega) (by omega)
      exact ih z1 (z2 + 1) z3 u2 hs_u2 ⟨by omega, by omega⟩ ⟨by omega, by omega⟩ ⟨by omega, by omega⟩ (by omega)
set_option maxHeartbeats 400000 in
set_option maxRecDepth 10000 in
theorem tfJ7_fill_53178_a43 (x1 : Int32) (u : SX) (hI : IX u) (h0 : 0 ≤ x1.toInt ∧ x1.toInt ≤ 0) : Tot (fJ7_fill_53178_a43 x1 u) (qJ7_fill_53178_a43 u) := by
  unfold fJ7_fill_53178_a43
  have hs_u : StX mdJ7_fill_53178_a43 u u := StX_rf hI
  exact tLJ7_fill_53178_a43_5 u 5000 x1 0 41 u hs_u ⟨by omega, by omega⟩ (by show 0 ≤ (0 : Int) ∧ (0 : Int) ≤ 41; omega) (by show 41 ≤ (41 : Int) ∧ (41 : Int) ≤ 41; omega) (by show 41 - (0 : Int) < ((5000 : Nat) : Int); omega)

def mdX1_meansBy_8 : MD := ([], [43], [], [42])
abbrev qX1_meansBy_8 (u : SX) (q : Int32 × SX) : Prop := StX mdX1_meansBy_8 u q.2 ∧ (True) ∧ (True)
set_option maxHeartbeats 400000 in
set_option maxRecDepth 10000 in
theorem tGX1_meansBy_8_60 (u0 : SX) (g20 : Int) {k20 : Int32 → Int32 → Int32 → SX → Option (Int32 × SX)} (hk20 : ∀ (z1 : Int32) (z2 : Int32) (z3 : Int32) (u : SX), (StX mdX1_meansBy_8 u0 u) → (0 ≤ z1.toInt ∧ z1.toInt ≤ 5) → (0 ≤ z3.toInt ∧ z3.toInt ≤ 80) → (g20 < z3.toInt) → Tot (k20 z1 z2 z3 u) (qX1_meansBy_8 u0)) (z1 : Int32) (z2 : Int32) (z3 : Int32) (z4 : Int32) (u : SX) (hs_u : StX mdX1_meansBy_8 u0 u) (h0 : 0 ≤ z1.toInt ∧ z1.toInt ≤ 5) (h1 : 0 ≤ z3.toInt ∧ z3.toInt ≤ 79) (h2 : 0 ≤ z4.toInt ∧ z4.toInt ≤ 40) (h3 : g20 ≤ z3.toInt) : Tot (GX1_meansBy_8_60 k20 z1 z2 z3 z4 u) (qX1_meansBy_8 u0) := by
  unfold GX1_meansBy_8_60
  refine Tot_gd (inb_t (by omega) (by omega)) ?_
  refine Tot_gd (inb_t (by omega) (by omega)) ?_
  refine Tot_gd (inb_t (by omega) (by omega)) ?_
  refine Tot_gd (by decide) ?_
  refine Tot_gd (inb_t (by omega) (by omega)) ?_
  refine Tot_lt (fun u16 e_u16 => ?_)
  have hs_u16 : StX mdX1_meansBy_8 u0 u16 := by rw [e_u16]; exact StX_sB hs_u (by decide)
  refine Tot_gd (inb_t (by omega) (by omega)) ?_
  refine Tot_gd (inb_t (by omega) (by omega)) ?_
  refine Tot_lt (fun u20 e_u20 => ?_)
  have hs_u20 : StX mdX1_meansBy_8 u0 u20 := by rw [e_u20]; exact StX_sAf hs_u16 (by decide) rfl rfl (by decide)
  have : (z3 + 1).toInt = z3.toInt + (1 : Int) := addc_t (by decide) (by omega) (by omega)
  exact hk20 z1 z2 (z3 + 1) u20 hs_u20 ⟨by omega, by omega⟩ ⟨by omega, by omega⟩ (by omega)
set_option maxHeartbeats 400000 in
set_option maxRecDepth 10000 in
theorem tLX1_meansBy_8_20 (u0 : SX)    : ∀ (n : Nat) (z1 : Int32) (z2 : Int32) (z3 : Int32) (u : SX), (StX mdX1_meansBy_8 u0 u) → (0 ≤ z1.toInt ∧ z1.toInt ≤ 5) → (0 ≤ z3.toInt ∧ z3.toInt ≤ 80) → (80 - z3.toInt < (n : Int)) → Tot (LX1_meansBy_8_20 n z1 z2 z3 u) (qX1_meansBy_8 u0) := by
  intro n
  induction n with
  | zero =>
    intro z1 z2 z3 u hs_u h0 h1 hm
    exfalso
    omega
  | succ n ih =>
    intro z1 z2 z3 u hs_u h0 h1 hm
    rw [LX1_meansBy_8_20]
    have : 0 ≤ (u.1 14).toInt ∧ (u.1 14).toInt ≤ 80 := hs_u.1.1 14
    refine Tot_ite (fun c513 => ?_) (fun c513 => ?_)
    · have : (u.1 14).toInt ≤ z3.toInt := leI c513
      exact Tot_some ⟨hs_u, trivial, trivial⟩
    · have : ¬ (u.1 14).toInt ≤ z3.toInt := nleI c513
      have : (z3 * 6).toInt = z3.toInt * 6 := mulc_t (by decide) (by omega) (by omega)
      have : ((z3 * 6) + z1).toInt = (z3 * 6).toInt + z1.toInt := add_t (by omega) (by omega)
      refine Tot_gd (inb_t (by omega) (by omega)) ?_
      have : 0 ≤ (u.2.1 36 (((z3 * 6) + z1)).toNatClampNeg).toInt ∧ (u.2.1 36 (((z3 * 6) + z1)).toNatClampNeg).toInt ≤ 40 := hs_u.1.2.1 36 (((z3 * 6) + z1)).toNatClampNeg
      refine Tot_lt (fun v8 e_v8 => ?_)
      have : v8.toInt = (u.2.1 36 (((z3 * 6) + z1)).toNatClampNeg).toInt := congrArg Int32.toInt e_v8
      refine Tot_gd (inb_t (by omega) (by omega)) ?_
      refine Tot_ite (fun c514 => ?_) (fun c514 => ?_)
      · have : (u.2.1 43 v8.toNatClampNeg).toInt = (0 : Int) := eqI c514
        exact tGX1_meansBy_8_60 u0 (z3.toInt) (fun a515 a516 a517 w518 hw518 p519 p520 p521 => ih a515 a516 a517 w518 hw518 p519 p520 (by omega)) z1 (z2 + 1) z3 v8 u hs_u ⟨by omega, by omega⟩ ⟨by omega, by omega⟩ ⟨by omega, by omega⟩ (by omega)
      · exact tGX1_meansBy_8_60 u0 (z3.toInt) (fun a522 a523 a524 w525 hw525 p526 p527 p528 => ih a522 a523 a524 w525 hw525 p526 p527 (by omega)) z1 z2 z3 v8 u hs_u ⟨by omega, by omega⟩ ⟨by omega, by omega⟩ ⟨by omega, by omega⟩ (by omega)
set_option maxHeartbeats 400000 in
set_option maxRecDepth 10000 in
theorem tfX1_meansBy_8 (x1 : Int32) (u : SX) (hI : IX u) (h0 : 0 ≤ x1.toInt ∧ x1.toInt ≤ 5) : Tot (fX1_meansBy_8 x1 u) (qX1_meansBy_8 u) := by
  unfold fX1_meansBy_8
  have hs_u : StX mdX1_meansBy_8 u u := StX_rf hI
  refine Tot_bind (tfJ7_fill_d0a16_a42 0 u hs_u.1) (fun q hq => ?_)
  obtain ⟨r1, u2⟩ := q
  have hc_u2 : StX mdJ7_fill_d0a16_a42 u u2 := hq.1
  have hs_u2 : StX mdX1_meansBy_8 u u2 := StX_tr hs_u hc_u2 (by decide)
  have : 0 ≤ r1.toInt ∧ r1.toInt ≤ 0 := hq.2.1
  refine Tot_bind (tfJ7_fill_53178_a43 0 u2 hs_u2.1 (by show 0 ≤ (0 : Int) ∧ (0 : Int) ≤ 0; omega)) (fun q hq => ?_)
  obtain ⟨r4, u5⟩ := q
  have hc_u5 : StX mdJ7_fill_53178_a43 u2 u5 := hq.1
  have hs_u5 : StX mdX1_meansBy_8 u u5 := StX_tr hs_u2 hc_u5 (by decide)
  have : 0 ≤ r4.toInt ∧ r4.toInt ≤ 0 := hq.2.1
  exact tLX1_meansBy_8_20 u 5000 x1 0 0 u5 hs_u5 ⟨by omega, by omega⟩ (by show 0 ≤ (0 : Int) ∧ (0 : Int) ≤ 80; omega) (by show 80 - (0 : Int) < ((5000 : Nat) : Int); omega)

def mdX1_distance_8 : MD := ([], [], [], [])
abbrev qX1_distance_8 (u : SX) (q : Int32 × SX) : Prop := StX mdX1_distance_8 u q.2 ∧ (True) ∧ (True)
set_option maxHeartbeats 400000 in
set_option maxRecDepth 10000 in
theorem tGX1_distance_8_82 (u0 : SX) (g10 : Int) {k10 : Int64 → Int64 → Int32 → Int32 → SX → Option (Int32 × SX)} (hk10 : ∀ (z1 : Int64) (z3 : Int64) (z5 : Int32) (z6 : Int32) (u : SX), (StX mdX1_distance_8 u0 u) → (0 ≤ z5.toInt ∧ z5.toInt ≤ 1) → (0 ≤ z6.toInt ∧ z6.toInt ≤ 41) → (g10 < z6.toInt) → Tot (k10 z1 z3 z5 z6 u) (qX1_distance_8 u0)) (z1 : Int64) (z3 : Int64) (z5 : Int32) (z6 : Int32) (u : SX) (hs_u : StX mdX1_distance_8 u0 u) (h0 : 0 ≤ z5.toInt ∧ z5.toInt ≤ 1) (h1 : 0 ≤ z6.toInt ∧ z6.toInt ≤ 40) (h2 : g10 ≤ z6.toInt) : Tot (GX1_distance_8_82 k10 z1 z3 z5 z6 u) (qX1_distance_8 u0) := by
  unfold GX1_distance_8_82
  have : (z6 + 1).toInt = z6.toInt + (1 : Int) := addc_t (by decide) (by omega) (by omega)
  exact hk10 z1 z3 z5 (z6 + 1) u hs_u ⟨by omega, by omega⟩ ⟨by omega, by omega⟩ (by omega)
set_option maxHeartbeats 400000 in
set_option maxRecDepth 10000 in
theorem tGX1_distance_8_78 (u0 : SX) (g10 : Int) {k10 : Int64 → Int64 → Int32 → Int32 → SX → Option (Int32 × SX)} (hk10 : ∀ (z1 : Int64) (z3 : Int64) (z5 : Int32) (z6 : Int32) (u : SX), (StX mdX1_distance_8 u0 u) → (0 ≤ z5.toInt ∧ z5.toInt ≤ 1) → (0 ≤ z6.toInt ∧ z6.toInt ≤ 41) → (g10 < z6.toInt) → Tot (k10 z1 z3 z5 z6 u) (qX1_distance_8 u0)) (z1 : Int64) (z6 : Int32) (y0 : Int64) (u : SX) (hs_u : StX mdX1_distance_8 u0 u) (h0 : 0 ≤ z6.toInt ∧ z6.toInt ≤ 40) (h1 : g10 ≤ z6.toInt) : Tot (GX1_distance_8_78 k10 z1 z6 y0 u) (qX1_distance_8 u0) := by
  unfold GX1_distance_8_78
  exact tGX1_distance_8_82 u0 g10 hk10 z1 y0 1 z6 u hs_u (by show 0 ≤ (1 : Int) ∧ (1 : Int) ≤ 1; omega) ⟨by omega, by omega⟩ (by omega)
set_option maxHeartbeats 400000 in
set_option maxRecDepth 10000 in
theorem tGX1_distance_8_61 (u0 : SX) (g10 : Int) {k10 : Int64 → Int64 → Int32 → Int32 → SX → Option (Int32 × SX)} (hk10 : ∀ (z1 : Int64) (z3 : Int64) (z5 : Int32) (z6 : Int32) (u : SX), (StX mdX1_distance_8 u0 u) → (0 ≤ z5.toInt ∧ z5.toInt ≤ 1) → (0 ≤ z6.toInt ∧ z6.toInt ≤ 41) → (g10 < z6.toInt) → Tot (k10 z1 z3 z5 z6 u) (qX1_distance_8 u0)) (z3 : Int64) (z5 : Int32) (z6 : Int32) (z7 : Int64) (y0 : Int64) (u : SX) (hs_u : StX mdX1_distance_8 u0 u) (h0 : 0 ≤ z5.toInt ∧ z5.toInt ≤ 1) (h1 : 0 ≤ z6.toInt ∧ z6.toInt ≤ 40) (h2 : g10 ≤ z6.toInt) : Tot (GX1_distance_8_61 k10 z3 z5 z6 z7 y0 u) (qX1_distance_8 u0) := by
  unfold GX1_distance_8_61
  refine Tot_ite (fun c529 => ?_) (fun c529 => ?_)
  · have : z5.toInt = (0 : Int) := eqI c529
    exact tGX1_distance_8_78 u0 g10 hk10 y0 z6 z7 u hs_u ⟨by omega, by omega⟩ (by omega)
  · have : ¬ z5.toInt = (0 : Int) := neI c529
    exact tGX1_distance_8_78 u0 g10 hk10 y0 z6 (if z7 < z3 then z3 else z7) u hs_u ⟨by omega, by omega⟩ (by omega)
set_option maxHeartbeats 400000 in
set_option maxRecDepth 10000 in
theorem tLX1_distance_8_10 (u0 : SX)    : ∀ (n : Nat) (z1 : Int64) (z3 : Int64) (z5 : Int32) (z6 : Int32) (u : SX), (StX mdX1_distance_8 u0 u) → (0 ≤ z5.toInt ∧ z5.toInt ≤ 1) → (0 ≤ z6.toInt ∧ z6.toInt ≤ 41) → (41 - z6.toInt < (n : Int)) → Tot (LX1_distance_8_10 n z1 z3 z5 z6 u) (qX1_distance_8 u0) := by
  intro n
  induction n with
  | zero =>
    intro z1 z3 z5 z6 u hs_u h0 h1 hm
    exfalso
    omega
  | succ n ih =>
    intro z1 z3 z5 z6 u hs_u h0 h1 hm
    rw [LX1_distance_8_10]
    refine Tot_ite (fun c530 => ?_) (fun c530 => ?_)
    · have : (41 : Int) ≤ z6.toInt := leI c530
      exact Tot_some ⟨hs_u, trivial, trivial⟩
    · have : ¬ (41 : Int) ≤ z6.toInt := nleI c530
      refine Tot_gd (inb_t (by omega) (by omega)) ?_
      refine Tot_ite (fun c531 => ?_) (fun c531 => ?_)
      · have : (u.2.1 43 z6.toNatClampNeg).toInt ≤ (0 : Int) := leI c531
        exact tGX1_distance_8_82 u0 (z6.toInt) (fun a532 a533 a534 a535 w536 hw536 p537 p538 p539 => ih a532 a533 a534 a535 w536 hw536 p537 p538 (by omega)) z1 z3 z5 z6 u hs_u ⟨by omega, by omega⟩ ⟨by omega, by omega⟩ (by omega)
      · have : ¬ (u.2.1 43 z6.toNatClampNeg).toInt ≤ (0 : Int) := nleI c531
        refine Tot_gd (inb_t (by omega) (by omega)) ?_
        refine Tot_gd (inb_t (by omega) (by omega)) ?_
        refine Tot_gd (nzL_t (by omega)) ?_
        refine Tot_lt (fun v5 e_v5 => ?_)
        refine Tot_ite (fun c540 => ?_) (fun c540 => ?_)
        · have : z5.toInt = (0 : Int) := eqI c540
          exact tGX1_distance_8_61 u0 (z6.toInt) (fun a541 a542 a543 a544 w545 hw545 p546 p547 p548 => ih a541 a542 a543 a544 w545 hw545 p546 p547 (by omega)) z3 z5 z6 v5 v5 u hs_u ⟨by omega, by omega⟩ ⟨by omega, by omega⟩ (by omega)
        · have : ¬ z5.toInt = (0 : Int) := neI c540
          exact tGX1_distance_8_61 u0 (z6.toInt) (fun a549 a550 a551 a552 w553 hw553 p554 p555 p556 => ih a549 a550 a551 a552 w553 hw553 p554 p555 (by omega)) z3 z5 z6 v5 (if v5 < z1 then v5 else z1) u hs_u ⟨by omega, by omega⟩ ⟨by omega, by omega⟩ (by omega)
set_option maxHeartbeats 400000 in
set_option maxRecDepth 10000 in
theorem tfX1_distance_8  (u : SX) (hI : IX u)  : Tot (fX1_distance_8  u) (qX1_distance_8 u) := by
  unfold fX1_distance_8
  have hs_u : StX mdX1_distance_8 u u := StX_rf hI
  exact tLX1_distance_8_10 u 5000 0 0 0 0 u hs_u (by show 0 ≤ (0 : Int) ∧ (0 : Int) ≤ 1; omega) (by show 0 ≤ (0 : Int) ∧ (0 : Int) ≤ 41; omega) (by show 41 - (0 : Int) < ((5000 : Nat) : Int); omega)

def mdX11_goes_0 : MD := ([10, 11, 14, 15, 16], [16, 17, 27, 28, 38, 39, 41, 43], [], [42])
abbrev qX11_goes_0 (u : SX) (q : Int32 × SX) : Prop := StX mdX11_goes_0 u q.2 ∧ (True) ∧ (True)
set_option maxHeartbeats 400000 in
set_option maxRecDepth 10000 in
theorem tfX11_goes_0 (x1 : Int32) (x2 : Int32) (u : SX) (hI : IX u)  : Tot (fX11_goes_0 x1 x2 u) (qX11_goes_0 u) := by
  unfold fX11_goes_0
  have hs_u : StX mdX11_goes_0 u u := StX_rf hI
  refine Tot_bind (tfX11_isDay_0 x1 u hs_u.1) (fun q hq => ?_)
  obtain ⟨r1, u2⟩ := q
  have hc_u2 : StX mdX11_isDay_0 u u2 := hq.1
  have hs_u2 : StX mdX11_goes_0 u u2 := StX_tr hs_u hc_u2 (by decide)
  have : 0 ≤ r1.toInt ∧ r1.toInt ≤ 1 := hq.2.1
  have : 0 ≤ (u.1 0).toInt ∧ (u.1 0).toInt ≤ 120 := hs_u.1.1 0
  have : r1.toInt ≠ 0 → ((0 : Int) ≤ x1.toInt ∧ x1.toInt ≤ (u.1 0).toInt) := hq.2.2
  refine Tot_ite (fun c557 => ?_) (fun c557 => ?_)
  · have : r1.toInt = (0 : Int) := eqI c557
    exact Tot_some ⟨hs_u2, trivial, trivial⟩
  · have : ¬ r1.toInt = (0 : Int) := neI c557
    refine Tot_bind (tfX11_within x2 0 5) (fun r4 hq => ?_)
    have : 0 ≤ r4.toInt ∧ r4.toInt ≤ 1 := hq.1
    have : r4.toInt ≠ 0 → ((0 : Int) ≤ x2.toInt ∧ x2.toInt ≤ (5 : Int)) := hq.2
    refine Tot_ite (fun c558 => ?_) (fun c558 => ?_)
    · have : r4.toInt = (0 : Int) := eqI c558
      exact Tot_some ⟨hs_u2, trivial, trivial⟩
    · have : ¬ r4.toInt = (0 : Int) := neI c558
      refine Tot_bind (tfX7_recall_7 x1 u2 hs_u2.1 ⟨by omega, by omega⟩) (fun q hq => ?_)
      obtain ⟨r7, u8⟩ := q
      have hc_u8 : StX mdX7_recall_7 u2 u8 := hq.1
      have hs_u8 : StX mdX11_goes_0 u u8 := StX_tr hs_u2 hc_u8 (by decide)
      have : 0 ≤ r7.toInt ∧ r7.toInt ≤ 0 := hq.2.1
      refine Tot_bind (tfX1_meansBy_8 x2 u8 hs_u8.1 ⟨by omega, by omega⟩) (fun q hq => ?_)
      obtain ⟨r10, u11⟩ := q
      have hc_u11 : StX mdX1_meansBy_8 u8 u11 := hq.1
      have hs_u11 : StX mdX11_goes_0 u u11 := StX_tr hs_u8 hc_u11 (by decide)
      refine Tot_ite (fun c559 => ?_) (fun c559 => ?_)
      · have : r10.toInt = (0 : Int) := eqI c559
        exact Tot_some ⟨hs_u11, trivial, trivial⟩
      · refine Tot_bind (tfX1_distance_8 u11 hs_u11.1) (fun q hq => ?_)
        obtain ⟨r13, u14⟩ := q
        have hc_u14 : StX mdX1_distance_8 u11 u14 := hq.1
        have hs_u14 : StX mdX11_goes_0 u u14 := StX_tr hs_u11 hc_u14 (by decide)
        exact Tot_some ⟨hs_u14, trivial, trivial⟩

def mdX0_narrowDown_9 : MD := ([24, 25], [16, 17, 41], [], [])
abbrev qX0_narrowDown_9 (u : SX) (q : Int32 × SX) : Prop := StX mdX0_narrowDown_9 u q.2 ∧ (0 ≤ q.1.toInt ∧ q.1.toInt ≤ 1) ∧ (True)
set_option maxHeartbeats 400000 in
set_option maxRecDepth 10000 in
theorem tLX0_narrowDown_9_103 (u0 : SX) (g14 : Int) {k145 : Int32 → Int32 → Int32 → Int32 → Int32 → SX → Option (Int32 × SX)} (hk145 : ∀ (z1 : Int32) (z2 : Int32) (z3 : Int32) (z6 : Int32) (z7 : Int32) (u : SX), (StX mdX0_narrowDown_9 u0 u) → (0 ≤ z1.toInt ∧ z1.toInt ≤ 11) → (0 ≤ z2.toInt ∧ z2.toInt ≤ 79) → (g14 ≤ z2.toInt) → Tot (k145 z1 z2 z3 z6 z7 u) (qX0_narrowDown_9 u0)) : ∀ (n : Nat) (z1 : Int32) (z2 : Int32) (z3 : Int32) (z6 : Int32) (z7 : Int32) (u : SX), (StX mdX0_narrowDown_9 u0 u) → (0 ≤ z1.toInt ∧ z1.toInt ≤ 11) → (0 ≤ z2.toInt ∧ z2.toInt ≤ 79) → (g14 ≤ z2.toInt) → (401 - (u.1 24).toInt < (n : Int)) → Tot (LX0_narrowDown_9_103 k145 n z1 z2 z3 z6 z7 u) (qX0_narrowDown_9 u0) := by
  intro n
  induction n with
  | zero =>
    intro z1 z2 z3 z6 z7 u hs_u h0 h1 h2 hm
    have : 0 ≤ (u.1 24).toInt ∧ (u.1 24).toInt ≤ 401 := hs_u.1.1 24
    exfalso
    omega
  | succ n ih =>
    intro z1 z2 z3 z6 z7 u hs_u h0 h1 h2 hm
    rw [LX0_narrowDown_9_103]
    have : 0 ≤ (u.1 24).toInt ∧ (u.1 24).toInt ≤ 401 := hs_u.1.1 24
    have : (-1) ≤ (u.1 25).toInt ∧ (u.1 25).toInt ≤ 400 := hs_u.1.1 25
    refine Tot_ite (fun c560 => ?_) (fun c560 => ?_)
    · have : (u.1 25).toInt < (u.1 24).toInt := ltI c560
      exact hk145 z1 z2 z3 z6 z7 u hs_u ⟨by omega, by omega⟩ ⟨by omega, by omega⟩ (by omega)
    · have : ¬ (u.1 25).toInt < (u.1 24).toInt := nltI c560
      refine Tot_bind (tfX11_shine (u.1 24) z3 ⟨by omega, by omega⟩) (fun r22 hq => ?_)
      refine Tot_bind (tfX11_within r22 z6 z7) (fun r25 hq => ?_)
      have : 0 ≤ r25.toInt ∧ r25.toInt ≤ 1 := hq.1
      have : r25.toInt ≠ 0 → (z6.toInt ≤ r22.toInt ∧ r22.toInt ≤ z7.toInt) := hq.2
      refine Tot_ite (fun c561 => ?_) (fun c561 => ?_)
      · have : r25.toInt = (0 : Int) := eqI c561
        have : ((u.1 24) + 1).toInt = (u.1 24).toInt + (1 : Int) := addc_t (by decide) (by omega) (by omega)
        refine Tot_lt (fun u28 e_u28 => ?_)
        have hs_u28 : StX mdX0_narrowDown_9 u0 u28 := by rw [e_u28]; exact StX_sI hs_u (by decide) (by show 0 ≤ ((u.1 24) + 1).toInt; omega) (by show ((u.1 24) + 1).toInt ≤ 401; omega)
        have : (u28.1 24).toInt = ((u.1 24) + 1).toInt := by rw [e_u28]; rfl
        exact ih z1 z2 z3 z6 z7 u28 hs_u28 ⟨by omega, by omega⟩ ⟨by omega, by omega⟩ (by omega) (by omega)
      · have : ¬ r25.toInt = (0 : Int) := neI c561
        exact hk145 z1 z2 z3 z6 z7 u hs_u ⟨by omega, by omega⟩ ⟨by omega, by omega⟩ (by omega)
set_option maxHeartbeats 400000 in
set_option maxRecDepth 10000 in
theorem tLX0_narrowDown_9_145 (u0 : SX) (g14 : Int) {k187 : Int32 → Int32 → SX → Option (Int32 × SX)} (hk187 : ∀ (z1 : Int32) (z2 : Int32) (u : SX), (StX mdX0_narrowDown_9 u0 u) → (0 ≤ z1.toInt ∧ z1.toInt ≤ 11) → (0 ≤ z2.toInt ∧ z2.toInt ≤ 79) → (g14 ≤ z2.toInt) → Tot (k187 z1 z2 u) (qX0_narrowDown_9 u0)) : ∀ (n : Nat) (z1 : Int32) (z2 : Int32) (z3 : Int32) (z6 : Int32) (z7 : Int32) (u : SX), (StX mdX0_narrowDown_9 u0 u) → (0 ≤ z1.toInt ∧ z1.toInt ≤ 11) → (0 ≤ z2.toInt ∧ z2.toInt ≤ 79) → (g14 ≤ z2.toInt) → ((u.1 25).toInt - (-1) < (n : Int)) → Tot (LX0_narrowDown_9_145 k187 n z1 z2 z3 z6 z7 u) (qX0_narrowDown_9 u0) := by
  intro n
  induction n with
  | zero =>
    intro z1 z2 z3 z6 z7 u hs_u h0 h1 h2 hm
    have : (-1) ≤ (u.1 25).toInt ∧ (u.1 25).toInt ≤ 400 := hs_u.1.1 25
    exfalso
    omega
  | succ n ih =>
    intro z1 z2 z3 z6 z7 u hs_u h0 h1 h2 hm
    rw [LX0_narrowDown_9_145]
    have : (-1) ≤ (u.1 25).toInt ∧ (u.1 25).toInt ≤ 400 := hs_u.1.1 25
    have : 0 ≤ (u.1 24).toInt ∧ (u.1 24).toInt ≤ 401 := hs_u.1.1 24
    refine Tot_ite (fun c562 => ?_) (fun c562 => ?_)
    · have : (u.1 25).toInt < (u.1 24).toInt := ltI c562
      exact hk187 z1 z2 u hs_u ⟨by omega, by omega⟩ ⟨by omega, by omega⟩ (by omega)
    · have : ¬ (u.1 25).toInt < (u.1 24).toInt := nltI c562
      refine Tot_bind (tfX11_shine (u.1 25) z3 ⟨by omega, by omega⟩) (fun r30 hq => ?_)
      refine Tot_bind (tfX11_within r30 z6 z7) (fun r33 hq => ?_)
      have : 0 ≤ r33.toInt ∧ r33.toInt ≤ 1 := hq.1
      have : r33.toInt ≠ 0 → (z6.toInt ≤ r30.toInt ∧ r30.toInt ≤ z7.toInt) := hq.2
      refine Tot_ite (fun c563 => ?_) (fun c563 => ?_)
      · have : r33.toInt = (0 : Int) := eqI c563
        have : ((u.1 25) - 1).toInt = (u.1 25).toInt - (1 : Int) := subc_t (by decide) (by omega) (by omega)
        refine Tot_lt (fun u36 e_u36 => ?_)
        have hs_u36 : StX mdX0_narrowDown_9 u0 u36 := by rw [e_u36]; exact StX_sI hs_u (by decide) (by show (-1) ≤ ((u.1 25) - 1).toInt; omega) (by show ((u.1 25) - 1).toInt ≤ 400; omega)
        have : (u36.1 25).toInt = ((u.1 25) - 1).toInt := by rw [e_u36]; rfl
        exact ih z1 z2 z3 z6 z7 u36 hs_u36 ⟨by omega, by omega⟩ ⟨by omega, by omega⟩ (by omega) (by omega)
      · have : ¬ r33.toInt = (0 : Int) := neI c563
        exact hk187 z1 z2 u hs_u ⟨by omega, by omega⟩ ⟨by omega, by omega⟩ (by omega)
set_option maxHeartbeats 400000 in
set_option maxRecDepth 10000 in
theorem tGX0_narrowDown_9_187 (u0 : SX) (g14 : Int) {k14 : Int32 → Int32 → SX → Option (Int32 × SX)} (hk14 : ∀ (z1 : Int32) (z2 : Int32) (u : SX), (StX mdX0_narrowDown_9 u0 u) → (0 ≤ z1.toInt ∧ z1.toInt ≤ 11) → (0 ≤ z2.toInt ∧ z2.toInt ≤ 80) → (g14 < z2.toInt) → Tot (k14 z1 z2 u) (qX0_narrowDown_9 u0)) (z1 : Int32) (z2 : Int32) (u : SX) (hs_u : StX mdX0_narrowDown_9 u0 u) (h0 : 0 ≤ z1.toInt ∧ z1.toInt ≤ 11) (h1 : 0 ≤ z2.toInt ∧ z2.toInt ≤ 79) (h2 : g14 ≤ z2.toInt) : Tot (GX0_narrowDown_9_187 k14 z1 z2 u) (qX0_narrowDown_9 u0) := by
  unfold GX0_narrowDown_9_187
  have : (z2 + 1).toInt = z2.toInt + (1 : Int) := addc_t (by decide) (by omega) (by omega)
  exact hk14 z1 (z2 + 1) u hs_u ⟨by omega, by omega⟩ ⟨by omega, by omega⟩ (by omega)
set_option maxHeartbeats 400000 in
set_option maxRecDepth 10000 in
theorem tLX0_narrowDown_9_14 (u0 : SX)  {k193 : SX → Option (Int32 × SX)} (hk193 : ∀  (u : SX), (StX mdX0_narrowDown_9 u0 u) → Tot (k193  u) (qX0_narrowDown_9 u0)) : ∀ (n : Nat) (z1 : Int32) (z2 : Int32) (u : SX), (StX mdX0_narrowDown_9 u0 u) → (0 ≤ z1.toInt ∧ z1.toInt ≤ 11) → (0 ≤ z2.toInt ∧ z2.toInt ≤ 80) → (80 - z2.toInt < (n : Int)) → Tot (LX0_narrowDown_9_14 k193 n z1 z2 u) (qX0_narrowDown_9 u0) := by
  intro n
  induction n with
  | zero =>
    intro z1 z2 u hs_u h0 h1 hm
    exfalso
    omega
  | succ n ih =>
    intro z1 z2 u hs_u h0 h1 hm
    rw [LX0_narrowDown_9_14]
    have : 0 ≤ (u.1 14).toInt ∧ (u.1 14).toInt ≤ 80 := hs_u.1.1 14
    refine Tot_ite (fun c564 => ?_) (fun c564 => ?_)
    · have : (u.1 14).toInt ≤ z2.toInt := leI c564
      exact hk193 u hs_u
    · have : ¬ (u.1 14).toInt ≤ z2.toInt := nleI c564
      refine Tot_bind (tfX7_leanOf_7 z2 z1 u hs_u.1 ⟨by omega, by omega⟩ ⟨by omega, by omega⟩) (fun q hq => ?_)
      obtain ⟨r5, u6⟩ := q
      have hc_u6 : StX mdX7_leanOf_7 u u6 := hq.1
      have hs_u6 : StX mdX0_narrowDown_9 u0 u6 := StX_tr hs_u hc_u6 (by decide)
      refine Tot_gd (inb_t (by omega) (by omega)) ?_
      have : 0 ≤ (u6.2.1 27 z1.toNatClampNeg).toInt ∧ (u6.2.1 27 z1.toNatClampNeg).toInt ≤ 400 := hs_u6.1.2.1 27 z1.toNatClampNeg
      refine Tot_bind (tfX11_shine (u6.2.1 27 z1.toNatClampNeg) r5 ⟨by omega, by omega⟩) (fun r9 hq => ?_)
      refine Tot_gd (inb_t (by omega) (by omega)) ?_
      have : 0 ≤ (u6.2.1 28 z1.toNatClampNeg).toInt ∧ (u6.2.1 28 z1.toNatClampNeg).toInt ≤ 400 := hs_u6.1.2.1 28 z1.toNatClampNeg
      refine Tot_bind (tfX11_shine (u6.2.1 28 z1.toNatClampNeg) r5 ⟨by omega, by omega⟩) (fun r13 hq => ?_)
      refine Tot_gd (inb_t (by omega) (by omega)) ?_
      have : (r9.toInt < r13.toInt ∧ (if r9 < r13 then r13 else r9).toInt = r13.toInt) ∨ (¬ r9.toInt < r13.toInt ∧ (if r9 < r13 then r13 else r9).toInt = r9.toInt) := ite_lt_t (x := r9) (y := r13) (p := r13) (q := r9)
      refine Tot_lt (fun v17 e_v17 => ?_)
      refine Tot_gd (inb_t (by omega) (by omega)) ?_
      have : (r13.toInt < r9.toInt ∧ (if r13 < r9 then r13 else r9).toInt = r13.toInt) ∨ (¬ r13.toInt < r9.toInt ∧ (if r13 < r9 then r13 else r9).toInt = r9.toInt) := ite_lt_t (x := r13) (y := r9) (p := r13) (q := r9)
      refine Tot_lt (fun v20 e_v20 => ?_)
      have : (u6.1 24).toInt = (u.1 24).toInt := congrArg Int32.toInt (hc_u6.2.1 24 (by decide))
      have : 0 ≤ (u.1 24).toInt ∧ (u.1 24).toInt ≤ 401 := hs_u.1.1 24
      exact tLX0_narrowDown_9_103 u0 (z2.toInt) (fun a565 a566 a567 a568 a569 w570 hw570 p571 p572 p573 => tLX0_narrowDown_9_145 u0 (z2.toInt) (tGX0_narrowDown_9_187 u0 (z2.toInt) (fun a574 a575 w576 hw576 p577 p578 p579 => ih a574 a575 w576 hw576 p577 p578 (by omega))) 5000 a565 a566 a567 a568 a569 w570 hw570 p571 p572 p573 (by have : (-1) ≤ (w570.1 25).toInt ∧ (w570.1 25).toInt ≤ 400 := hw570.1.1 25; omega)) 5000 z1 z2 r5 v17 v20 u6 hs_u6 ⟨by omega, by omega⟩ ⟨by omega, by omega⟩ (by omega) (by show 401 - (u6.1 24).toInt < ((5000 : Nat) : Int); omega)
set_option maxHeartbeats 400000 in
set_option maxRecDepth 10000 in
theorem tGX0_narrowDown_9_193 (u0 : SX)     (u : SX) (hs_u : StX mdX0_narrowDown_9 u0 u)  : Tot (GX0_narrowDown_9_193  u) (qX0_narrowDown_9 u0) := by
  unfold GX0_narrowDown_9_193
  have : (-1) ≤ (u.1 25).toInt ∧ (u.1 25).toInt ≤ 400 := hs_u.1.1 25
  have : 0 ≤ (u.1 24).toInt ∧ (u.1 24).toInt ≤ 401 := hs_u.1.1 24
  refine Tot_ite (fun c580 => ?_) (fun c580 => ?_)
  · have : (u.1 25).toInt < (u.1 24).toInt := ltI c580
    refine Tot_gd (by decide) ?_
    exact Tot_some ⟨hs_u, (by show 0 ≤ (0 : Int) ∧ (0 : Int) ≤ 1; omega), trivial⟩
  · have : ¬ (u.1 25).toInt < (u.1 24).toInt := nltI c580
    refine Tot_gd (by decide) ?_
    exact Tot_some ⟨hs_u, (by show 0 ≤ (1 : Int) ∧ (1 : Int) ≤ 1; omega), trivial⟩
set_option maxHeartbeats 400000 in
set_option maxRecDepth 10000 in
theorem tfX0_narrowDown_9 (x1 : Int32) (u : SX) (hI : IX u) (h0 : 0 ≤ x1.toInt ∧ x1.toInt ≤ 11) : Tot (fX0_narrowDown_9 x1 u) (qX0_narrowDown_9 u) := by
  unfold fX0_narrowDown_9
  have hs_u : StX mdX0_narrowDown_9 u u := StX_rf hI
  refine Tot_lt (fun u1 e_u1 => ?_)
  have hs_u1 : StX mdX0_narrowDown_9 u u1 := by rw [e_u1]; exact StX_sI hs_u (by decide) (by show 0 ≤ (0 : Int); omega) (by show (0 : Int) ≤ 401; omega)
  refine Tot_lt (fun u3 e_u3 => ?_)
  have hs_u3 : StX mdX0_narrowDown_9 u u3 := by rw [e_u3]; exact StX_sI hs_u1 (by decide) (by show (-1) ≤ (400 : Int); omega) (by show (400 : Int) ≤ 400; omega)
  exact tLX0_narrowDown_9_14 u (tGX0_narrowDown_9_193 u) 5000 x1 0 u3 hs_u3 ⟨by omega, by omega⟩ (by show 0 ≤ (0 : Int) ∧ (0 : Int) ≤ 80; omega) (by show 80 - (0 : Int) < ((5000 : Nat) : Int); omega)

def mdX11_could_0 : MD := ([10, 11, 14, 15, 16, 24, 25], [16, 17, 27, 28, 38, 39, 41], [], [])
abbrev qX11_could_0 (u : SX) (q : Int32 × SX) : Prop := StX mdX11_could_0 u q.2 ∧ ((-1) ≤ q.1.toInt ∧ q.1.toInt ≤ 401) ∧ (True)
set_option maxHeartbeats 400000 in
set_option maxRecDepth 10000 in
theorem tfX11_could_0 (x1 : Int32) (x2 : Int32) (x3 : Int32) (u : SX) (hI : IX u)  : Tot (fX11_could_0 x1 x2 x3 u) (qX11_could_0 u) := by
  unfold fX11_could_0
  have hs_u : StX mdX11_could_0 u u := StX_rf hI
  refine Tot_bind (tfX11_isDay_0 x2 u hs_u.1) (fun q hq => ?_)
  obtain ⟨r1, u2⟩ := q
  have hc_u2 : StX mdX11_isDay_0 u u2 := hq.1
  have hs_u2 : StX mdX11_could_0 u u2 := StX_tr hs_u hc_u2 (by decide)
  have : 0 ≤ r1.toInt ∧ r1.toInt ≤ 1 := hq.2.1
  have : 0 ≤ (u.1 0).toInt ∧ (u.1 0).toInt ≤ 120 := hs_u.1.1 0
  have : r1.toInt ≠ 0 → ((0 : Int) ≤ x2.toInt ∧ x2.toInt ≤ (u.1 0).toInt) := hq.2.2
  refine Tot_ite (fun c581 => ?_) (fun c581 => ?_)
  · have : r1.toInt = (0 : Int) := eqI c581
    exact Tot_some ⟨hs_u2, (by show (-1) ≤ (-1 : Int) ∧ (-1 : Int) ≤ 401; omega), trivial⟩
  · have : ¬ r1.toInt = (0 : Int) := neI c581
    refine Tot_bind (tfX11_isEither x3) (fun r4 hq => ?_)
    have : 0 ≤ r4.toInt ∧ r4.toInt ≤ 1 := hq.1
    have : r4.toInt ≠ 0 → ((0 : Int) ≤ x3.toInt ∧ x3.toInt ≤ (1 : Int)) := hq.2
    refine Tot_ite (fun c582 => ?_) (fun c582 => ?_)
    · have : r4.toInt = (0 : Int) := eqI c582
      exact Tot_some ⟨hs_u2, (by show (-1) ≤ (-1 : Int) ∧ (-1 : Int) ≤ 401; omega), trivial⟩
    · have : ¬ r4.toInt = (0 : Int) := neI c582
      refine Tot_bind (tfX6_has_6 x1 u2 hs_u2.1) (fun q hq => ?_)
      obtain ⟨r7, u8⟩ := q
      have hc_u8 : StX mdX6_has_6 u2 u8 := hq.1
      have hs_u8 : StX mdX11_could_0 u u8 := StX_tr hs_u2 hc_u8 (by decide)
      have : 0 ≤ r7.toInt ∧ r7.toInt ≤ 1 := hq.2.1
      have : (u2.1 8).toInt = (u.1 8).toInt := congrArg Int32.toInt (hc_u2.2.1 8 (by decide))
      have : 0 ≤ (u.1 8).toInt ∧ (u.1 8).toInt ≤ 12 := hs_u.1.1 8
      have : r7.toInt ≠ 0 → ((0 : Int) ≤ x1.toInt ∧ x1.toInt < (u2.1 8).toInt) := hq.2.2
      refine Tot_ite (fun c583 => ?_) (fun c583 => ?_)
      · have : r7.toInt = (0 : Int) := eqI c583
        exact Tot_some ⟨hs_u8, (by show (-1) ≤ (-1 : Int) ∧ (-1 : Int) ≤ 401; omega), trivial⟩
      · have : ¬ r7.toInt = (0 : Int) := neI c583
        refine Tot_gd (inb_t (by omega) (by omega)) ?_
        have : 0 ≤ (u8.2.1 25 x1.toNatClampNeg).toInt ∧ (u8.2.1 25 x1.toNatClampNeg).toInt ≤ 120 := hs_u8.1.2.1 25 x1.toNatClampNeg
        refine Tot_ite (fun c584 => ?_) (fun c584 => ?_)
        · have : (u8.2.1 25 x1.toNatClampNeg).toInt ≤ x2.toInt := leI c584
          refine Tot_bind (tfX7_recall_7 x2 u8 hs_u8.1 ⟨by omega, by omega⟩) (fun q hq => ?_)
          obtain ⟨r11, u12⟩ := q
          have hc_u12 : StX mdX7_recall_7 u8 u12 := hq.1
          have hs_u12 : StX mdX11_could_0 u u12 := StX_tr hs_u8 hc_u12 (by decide)
          have : 0 ≤ r11.toInt ∧ r11.toInt ≤ 0 := hq.2.1
          refine Tot_bind (tfX0_narrowDown_9 x1 u12 hs_u12.1 ⟨by omega, by omega⟩) (fun q hq => ?_)
          obtain ⟨r14, u15⟩ := q
          have hc_u15 : StX mdX0_narrowDown_9 u12 u15 := hq.1
          have hs_u15 : StX mdX11_could_0 u u15 := StX_tr hs_u12 hc_u15 (by decide)
          have : 0 ≤ r14.toInt ∧ r14.toInt ≤ 1 := hq.2.1
          refine Tot_ite (fun c585 => ?_) (fun c585 => ?_)
          · have : r14.toInt = (0 : Int) := eqI c585
            exact Tot_some ⟨hs_u15, (by show (-1) ≤ (-1 : Int) ∧ (-1 : Int) ≤ 401; omega), trivial⟩
          · have : ¬ r14.toInt = (0 : Int) := neI c585
            refine Tot_ite (fun c586 => ?_) (fun c586 => ?_)
            · have : x3.toInt = (0 : Int) := eqI c586
              have : 0 ≤ (u15.1 24).toInt ∧ (u15.1 24).toInt ≤ 401 := hs_u15.1.1 24
              exact Tot_some ⟨hs_u15, (by show (-1) ≤ (u15.1 24).toInt ∧ (u15.1 24).toInt ≤ 401; omega), trivial⟩
            · have : ¬ x3.toInt = (0 : Int) := neI c586
              have : (-1) ≤ (u15.1 25).toInt ∧ (u15.1 25).toInt ≤ 400 := hs_u15.1.1 25
              exact Tot_some ⟨hs_u15, (by show (-1) ≤ (u15.1 25).toInt ∧ (u15.1 25).toInt ≤ 401; omega), trivial⟩
        · have : ¬ (u8.2.1 25 x1.toNatClampNeg).toInt ≤ x2.toInt := nleI c584
          exact Tot_some ⟨hs_u8, (by show (-1) ≤ (-1 : Int) ∧ (-1 : Int) ≤ 401; omega), trivial⟩

def mdX0_weigh_9 : MD := ([26], [16, 17, 41, 46, 47], [], [])
abbrev qX0_weigh_9 (u : SX) (q : Int32 × SX) : Prop := StX mdX0_weigh_9 u q.2 ∧ (0 ≤ q.1.toInt ∧ q.1.toInt ≤ 0) ∧ (((q.2.1 26).toInt = ((u.1 26).toInt + (1 : Int))))
set_option maxHeartbeats 400000 in
set_option maxRecDepth 10000 in
theorem tGX0_weigh_9_167 (u0 : SX) (g55 : Int) {k55 : Int32 → Int32 → Int32 → SX → Option (Int32 × SX)} (hk55 : ∀ (z1 : Int32) (z2 : Int32) (z3 : Int32) (u : SX), (StX mdX0_weigh_9 u0 u) → (0 ≤ z1.toInt ∧ z1.toInt ≤ 79) → (0 ≤ z2.toInt ∧ z2.toInt ≤ 1) → (0 ≤ z3.toInt ∧ z3.toInt ≤ 12) → ((u.1 26).toInt < (80 : Int)) → ((u.1 26).toInt = (u0.1 26).toInt) → (g55 < z3.toInt) → Tot (k55 z1 z2 z3 u) (qX0_weigh_9 u0)) (z1 : Int32) (z2 : Int32) (z3 : Int32) (y0 : Int32) (y1 : Int32) (u : SX) (hs_u : StX mdX0_weigh_9 u0 u) (h0 : 0 ≤ z1.toInt ∧ z1.toInt ≤ 79) (h1 : 0 ≤ z2.toInt ∧ z2.toInt ≤ 1) (h2 : 0 ≤ z3.toInt ∧ z3.toInt ≤ 11) (h3 : 0 ≤ y1.toInt ∧ y1.toInt ≤ 959) (h4 : (u.1 26).toInt < (80 : Int)) (h5 : (u.1 26).toInt = (u0.1 26).toInt) (h6 : g55 ≤ z3.toInt) : Tot (GX0_weigh_9_167 k55 z1 z2 z3 y0 y1 u) (qX0_weigh_9 u0) := by
  unfold GX0_weigh_9_167
  have : 0 ≤ (u.1 26).toInt ∧ (u.1 26).toInt ≤ 80 := hs_u.1.1 26
  refine Tot_gd (inb_t (by omega) (by omega)) ?_
  refine Tot_lt (fun u21 e_u21 => ?_)
  have hs_u21 : StX mdX0_weigh_9 u0 u21 := by rw [e_u21]; exact StX_sAf hs_u (by decide) rfl rfl (by decide)
  have : (z3 + 1).toInt = z3.toInt + (1 : Int) := addc_t (by decide) (by omega) (by omega)
  have : (u21.1 26).toInt = (u.1 26).toInt := by rw [e_u21]; rfl
  exact hk55 z1 z2 (z3 + 1) u21 hs_u21 ⟨by omega, by omega⟩ ⟨by omega, by omega⟩ ⟨by omega, by omega⟩ (by show (u21.1 26).toInt < (80 : Int); omega) (by omega) (by omega)
set_option maxHeartbeats 400000 in
set_option maxRecDepth 10000 in
theorem tLX0_weigh_9_55 (u0 : SX)  {k174 : SX → Option (Int32 × SX)} (hk174 : ∀  (u : SX), (StX mdX0_weigh_9 u0 u) → ((u.1 26).toInt < (80 : Int)) → ((u.1 26).toInt = (u0.1 26).toInt) → Tot (k174  u) (qX0_weigh_9 u0)) : ∀ (n : Nat) (z1 : Int32) (z2 : Int32) (z3 : Int32) (u : SX), (StX mdX0_weigh_9 u0 u) → (0 ≤ z1.toInt ∧ z1.toInt ≤ 79) → (0 ≤ z2.toInt ∧ z2.toInt ≤ 1) → (0 ≤ z3.toInt ∧ z3.toInt ≤ 12) → ((u.1 26).toInt < (80 : Int)) → ((u.1 26).toInt = (u0.1 26).toInt) → (12 - z3.toInt < (n : Int)) → Tot (LX0_weigh_9_55 k174 n z1 z2 z3 u) (qX0_weigh_9 u0) := by
  intro n
  induction n with
  | zero =>
    intro z1 z2 z3 u hs_u h0 h1 h2 h3 h4 hm
    exfalso
    omega
  | succ n ih =>
    intro z1 z2 z3 u hs_u h0 h1 h2 h3 h4 hm
    rw [LX0_weigh_9_55]
    have : 0 ≤ (u.1 26).toInt ∧ (u.1 26).toInt ≤ 80 := hs_u.1.1 26
    have : 0 ≤ (u.1 10).toInt ∧ (u.1 10).toInt ≤ 12 := hs_u.1.1 10
    refine Tot_ite (fun c587 => ?_) (fun c587 => ?_)
    · have : (u.1 10).toInt ≤ z3.toInt := leI c587
      exact hk174 u hs_u (by show (u.1 26).toInt < (80 : Int); omega) (by omega)
    · have : ¬ (u.1 10).toInt ≤ z3.toInt := nleI c587
      refine Tot_bind (tfX7_leanOf_7 z1 z3 u hs_u.1 ⟨by omega, by omega⟩ ⟨by omega, by omega⟩) (fun q hq => ?_)
      obtain ⟨r6, u7⟩ := q
      have hc_u7 : StX mdX7_leanOf_7 u u7 := hq.1
      have hs_u7 : StX mdX0_weigh_9 u0 u7 := StX_tr hs_u hc_u7 (by decide)
      refine Tot_gd (inb_t (by omega) (by omega)) ?_
      have : 0 ≤ (u7.2.1 27 z3.toNatClampNeg).toInt ∧ (u7.2.1 27 z3.toNatClampNeg).toInt ≤ 400 := hs_u7.1.2.1 27 z3.toNatClampNeg
      refine Tot_bind (tfX11_shine (u7.2.1 27 z3.toNatClampNeg) r6 ⟨by omega, by omega⟩) (fun r10 hq => ?_)
      refine Tot_gd (inb_t (by omega) (by omega)) ?_
      have : 0 ≤ (u7.2.1 28 z3.toNatClampNeg).toInt ∧ (u7.2.1 28 z3.toNatClampNeg).toInt ≤ 400 := hs_u7.1.2.1 28 z3.toNatClampNeg
      refine Tot_bind (tfX11_shine (u7.2.1 28 z3.toNatClampNeg) r6 ⟨by omega, by omega⟩) (fun r14 hq => ?_)
      refine Tot_bind (tfX11_shine 400 r6 (by show 0 ≤ (400 : Int) ∧ (400 : Int) ≤ 400; omega)) (fun r17 hq => ?_)
      refine Tot_ite (fun c588 => ?_) (fun c588 => ?_)
      · have : z2.toInt = (0 : Int) := eqI c588
        have : (r14.toInt < r10.toInt ∧ (if r14 < r10 then r14 else r10).toInt = r14.toInt) ∨ (¬ r14.toInt < r10.toInt ∧ (if r14 < r10 then r14 else r10).toInt = r10.toInt) := ite_lt_t (x := r14) (y := r10) (p := r14) (q := r10)
        have : (r17.toInt < (0 : Int) ∧ (if r17 < 0 then r17 else 0).toInt = r17.toInt) ∨ (¬ r17.toInt < (0 : Int) ∧ (if r17 < 0 then r17 else 0).toInt = (0 : Int)) := ite_lt_t (x := r17) (y := 0) (p := r17) (q := 0)
        have : (u7.1 26).toInt = (u.1 26).toInt := congrArg Int32.toInt (hc_u7.2.1 26 (by decide))
        have : ((u7.1 26) * 12).toInt = (u7.1 26).toInt * 12 := mulc_t (by decide) (by omega) (by omega)
        have : (((u7.1 26) * 12) + z3).toInt = ((u7.1 26) * 12).toInt + z3.toInt := add_t (by omega) (by omega)
        exact tGX0_weigh_9_167 u0 (z3.toInt) (fun a589 a590 a591 w592 hw592 p593 p594 p595 p596 p597 p598 => ih a589 a590 a591 w592 hw592 p593 p594 p595 p596 p597 (by omega)) z1 z2 z3 ((if r14 < r10 then r14 else r10) - (if r17 < 0 then r17 else 0)) (((u7.1 26) * 12) + z3) u7 hs_u7 ⟨by omega, by omega⟩ ⟨by omega, by omega⟩ ⟨by omega, by omega⟩ ⟨by omega, by omega⟩ (by show (u7.1 26).toInt < (80 : Int); omega) (by omega) (by omega)
      · have : ¬ z2.toInt = (0 : Int) := neI c588
        have : ((0 : Int) < r17.toInt ∧ (if 0 < r17 then r17 else 0).toInt = r17.toInt) ∨ (¬ (0 : Int) < r17.toInt ∧ (if 0 < r17 then r17 else 0).toInt = (0 : Int)) := ite_lt_t (x := 0) (y := r17) (p := r17) (q := 0)
        have : (r10.toInt < r14.toInt ∧ (if r10 < r14 then r14 else r10).toInt = r14.toInt) ∨ (¬ r10.toInt < r14.toInt ∧ (if r10 < r14 then r14 else r10).toInt = r10.toInt) := ite_lt_t (x := r10) (y := r14) (p := r14) (q := r10)
        have : (u7.1 26).toInt = (u.1 26).toInt := congrArg Int32.toInt (hc_u7.2.1 26 (by decide))
        have : ((u7.1 26) * 12).toInt = (u7.1 26).toInt * 12 := mulc_t (by decide) (by omega) (by omega)
        have : (((u7.1 26) * 12) + z3).toInt = ((u7.1 26) * 12).toInt + z3.toInt := add_t (by omega) (by omega)
        exact tGX0_weigh_9_167 u0 (z3.toInt) (fun a599 a600 a601 w602 hw602 p603 p604 p605 p606 p607 p608 => ih a599 a600 a601 w602 hw602 p603 p604 p605 p606 p607 (by omega)) z1 z2 z3 ((if 0 < r17 then r17 else 0) - (if r10 < r14 then r14 else r10)) (((u7.1 26) * 12) + z3) u7 hs_u7 ⟨by omega, by omega⟩ ⟨by omega, by omega⟩ ⟨by omega, by omega⟩ ⟨by omega, by omega⟩ (by show (u7.1 26).toInt < (80 : Int); omega) (by omega) (by omega)
set_option maxHeartbeats 400000 in
set_option maxRecDepth 10000 in
theorem tGX0_weigh_9_174 (u0 : SX)     (u : SX) (hs_u : StX mdX0_weigh_9 u0 u) (h0 : (u.1 26).toInt < (80 : Int)) (h1 : (u.1 26).toInt = (u0.1 26).toInt) : Tot (GX0_weigh_9_174  u) (qX0_weigh_9 u0) := by
  unfold GX0_weigh_9_174
  have : 0 ≤ (u.1 26).toInt ∧ (u.1 26).toInt ≤ 80 := hs_u.1.1 26
  have : ((u.1 26) + 1).toInt = (u.1 26).toInt + (1 : Int) := addc_t (by decide) (by omega) (by omega)
  refine Tot_lt (fun u23 e_u23 => ?_)
  have hs_u23 : StX mdX0_weigh_9 u0 u23 := by rw [e_u23]; exact StX_sI hs_u (by decide) (by show 0 ≤ ((u.1 26) + 1).toInt; omega) (by show ((u.1 26) + 1).toInt ≤ 80; omega)
  have : (u23.1 26).toInt = ((u.1 26) + 1).toInt := by rw [e_u23]; rfl
  exact Tot_some ⟨hs_u23, (by show 0 ≤ (0 : Int) ∧ (0 : Int) ≤ 0; omega), (by show (u23.1 26).toInt = ((u0.1 26).toInt + (1 : Int)); omega)⟩
set_option maxHeartbeats 400000 in
set_option maxRecDepth 10000 in
theorem tGX0_weigh_9_52 (u0 : SX)    (z1 : Int32) (z2 : Int32) (y0 : Int32) (y1 : Int32) (u : SX) (hs_u : StX mdX0_weigh_9 u0 u) (h0 : 0 ≤ z1.toInt ∧ z1.toInt ≤ 79) (h1 : 0 ≤ z2.toInt ∧ z2.toInt ≤ 1) (h2 : 0 ≤ y1.toInt ∧ y1.toInt ≤ 79) (h3 : (u.1 26).toInt < (80 : Int)) (h4 : (u.1 26).toInt = (u0.1 26).toInt) : Tot (GX0_weigh_9_52 z1 z2 y0 y1 u) (qX0_weigh_9 u0) := by
  unfold GX0_weigh_9_52
  have : 0 ≤ (u.1 26).toInt ∧ (u.1 26).toInt ≤ 80 := hs_u.1.1 26
  refine Tot_gd (inb_t (by omega) (by omega)) ?_
  refine Tot_lt (fun u4 e_u4 => ?_)
  have hs_u4 : StX mdX0_weigh_9 u0 u4 := by rw [e_u4]; exact StX_sAf hs_u (by decide) rfl rfl (by decide)
  have : (u4.1 26).toInt = (u.1 26).toInt := by rw [e_u4]; rfl
  exact tLX0_weigh_9_55 u0 (tGX0_weigh_9_174 u0) 5000 z1 z2 0 u4 hs_u4 ⟨by omega, by omega⟩ ⟨by omega, by omega⟩ (by show 0 ≤ (0 : Int) ∧ (0 : Int) ≤ 12; omega) (by show (u4.1 26).toInt < (80 : Int); omega) (by omega) (by show 12 - (0 : Int) < ((5000 : Nat) : Int); omega)
set_option maxHeartbeats 400000 in
set_option maxRecDepth 10000 in
theorem tGX0_weigh_9_17 (u0 : SX)    (z1 : Int32) (y0 : Int32) (u : SX) (hs_u : StX mdX0_weigh_9 u0 u) (h0 : 0 ≤ z1.toInt ∧ z1.toInt ≤ 79) (h1 : 0 ≤ y0.toInt ∧ y0.toInt ≤ 1) (h2 : (u.1 26).toInt < (80 : Int)) (h3 : (u.1 26).toInt = (u0.1 26).toInt) : Tot (GX0_weigh_9_17 z1 y0 u) (qX0_weigh_9 u0) := by
  unfold GX0_weigh_9_17
  have : 0 ≤ (u.1 26).toInt ∧ (u.1 26).toInt ≤ 80 := hs_u.1.1 26
  refine Tot_ite (fun c609 => ?_) (fun c609 => ?_)
  · have : y0.toInt = (0 : Int) := eqI c609
    refine Tot_gd (inb_t (by omega) (by omega)) ?_
    exact tGX0_weigh_9_52 u0 z1 y0 (-(u.2.1 39 z1.toNatClampNeg)) (u.1 26) u hs_u ⟨by omega, by omega⟩ ⟨by omega, by omega⟩ ⟨by omega, by omega⟩ (by show (u.1 26).toInt < (80 : Int); omega) (by omega)
  · have : ¬ y0.toInt = (0 : Int) := neI c609
    refine Tot_gd (inb_t (by omega) (by omega)) ?_
    exact tGX0_weigh_9_52 u0 z1 y0 (u.2.1 38 z1.toNatClampNeg) (u.1 26) u hs_u ⟨by omega, by omega⟩ ⟨by omega, by omega⟩ ⟨by omega, by omega⟩ (by show (u.1 26).toInt < (80 : Int); omega) (by omega)
set_option maxHeartbeats 400000 in
set_option maxRecDepth 10000 in
theorem tfX0_weigh_9 (x1 : Int32) (u : SX) (hI : IX u) (h0 : 0 ≤ x1.toInt ∧ x1.toInt ≤ 79) (h1 : (u.1 26).toInt < (80 : Int)) : Tot (fX0_weigh_9 x1 u) (qX0_weigh_9 u) := by
  unfold fX0_weigh_9
  have hs_u : StX mdX0_weigh_9 u u := StX_rf hI
  have : 0 ≤ (u.1 26).toInt ∧ (u.1 26).toInt ≤ 80 := hs_u.1.1 26
  refine Tot_gd (inb_t (by omega) (by omega)) ?_
  refine Tot_ite (fun c610 => ?_) (fun c610 => ?_)
  · have : (u.2.1 38 x1.toNatClampNeg).toInt ≤ (0 : Int) := leI c610
    exact tGX0_weigh_9_17 u x1 0 u hs_u ⟨by omega, by omega⟩ (by show 0 ≤ (0 : Int) ∧ (0 : Int) ≤ 1; omega) (by show (u.1 26).toInt < (80 : Int); omega) (by omega)
  · have : ¬ (u.2.1 38 x1.toNatClampNeg).toInt ≤ (0 : Int) := nleI c610
    exact tGX0_weigh_9_17 u x1 1 u hs_u ⟨by omega, by omega⟩ (by show 0 ≤ (1 : Int) ∧ (1 : Int) ≤ 1; omega) (by show (u.1 26).toInt < (80 : Int); omega) (by omega)

def mdX0_covers_9 : MD := ([27], [], [], [])
abbrev qX0_covers_9 (u : SX) (q : Int32 × SX) : Prop := StX mdX0_covers_9 u q.2 ∧ (0 ≤ q.1.toInt ∧ q.1.toInt ≤ 1) ∧ (True)
set_option maxHeartbeats 400000 in
set_option maxRecDepth 10000 in
theorem tGX0_covers_9_93 (u0 : SX) (g2 : Int) (g55 : Int) {k55 : Int32 → Int32 → Int32 → Int32 → Int32 → SX → Option (Int32 × SX)} (hk55 : ∀ (z1 : Int32) (z2 : Int32) (z3 : Int32) (z4 : Int32) (z5 : Int32) (u : SX), (StX mdX0_covers_9 u0 u) → (0 ≤ z2.toInt ∧ z2.toInt ≤ 79) → (0 ≤ z3.toInt ∧ z3.toInt ≤ 79) → (0 ≤ z5.toInt ∧ z5.toInt ≤ 12) → (g2 ≤ z2.toInt) → (g55 < z5.toInt) → Tot (k55 z1 z2 z3 z4 z5 u) (qX0_covers_9 u0)) (z1 : Int32) (z2 : Int32) (z3 : Int32) (z4 : Int32) (z5 : Int32) (u : SX) (hs_u : StX mdX0_covers_9 u0 u) (h0 : 0 ≤ z2.toInt ∧ z2.toInt ≤ 79) (h1 : 0 ≤ z3.toInt ∧ z3.toInt ≤ 79) (h2 : 0 ≤ z5.toInt ∧ z5.toInt ≤ 11) (h3 : g2 ≤ z2.toInt) (h4 : g55 ≤ z5.toInt) : Tot (GX0_covers_9_93 k55 z1 z2 z3 z4 z5 u) (qX0_covers_9 u0) := by
  unfold GX0_covers_9_93
  have : (z5 + 1).toInt = z5.toInt + (1 : Int) := addc_t (by decide) (by omega) (by omega)
  exact hk55 z1 z2 z3 z4 (z5 + 1) u hs_u ⟨by omega, by omega⟩ ⟨by omega, by omega⟩ ⟨by omega, by omega⟩ (by omega) (by omega)
set_option maxHeartbeats 400000 in
set_option maxRecDepth 10000 in
theorem tLX0_covers_9_55 (u0 : SX) (g2 : Int) {k99 : Int32 → Int32 → Int32 → Int32 → SX → Option (Int32 × SX)} (hk99 : ∀ (z1 : Int32) (z2 : Int32) (z3 : Int32) (z4 : Int32) (u : SX), (StX mdX0_covers_9 u0 u) → (0 ≤ z2.toInt ∧ z2.toInt ≤ 79) → (0 ≤ z3.toInt ∧ z3.toInt ≤ 79) → (g2 ≤ z2.toInt) → Tot (k99 z1 z2 z3 z4 u) (qX0_covers_9 u0)) : ∀ (n : Nat) (z1 : Int32) (z2 : Int32) (z3 : Int32) (z4 : Int32) (z5 : Int32) (u : SX), (StX mdX0_covers_9 u0 u) → (0 ≤ z2.toInt ∧ z2.toInt ≤ 79) → (0 ≤ z3.toInt ∧ z3.toInt ≤ 79) → (0 ≤ z5.toInt ∧ z5.toInt ≤ 12) → (g2 ≤ z2.toInt) → (12 - z5.toInt < (n : Int)) → Tot (LX0_covers_9_55 k99 n z1 z2 z3 z4 z5 u) (qX0_covers_9 u0) := by
  intro n
  induction n with
  | zero =>
    intro z1 z2 z3 z4 z5 u hs_u h0 h1 h2 h3 hm
    exfalso
    omega
  | succ n ih =>
    intro z1 z2 z3 z4 z5 u hs_u h0 h1 h2 h3 hm
    rw [LX0_covers_9_55]
    have : 0 ≤ (u.1 10).toInt ∧ (u.1 10).toInt ≤ 12 := hs_u.1.1 10
    refine Tot_ite (fun c611 => ?_) (fun c611 => ?_)
    · have : (u.1 10).toInt ≤ z5.toInt := leI c611
      exact hk99 z1 z2 z3 z4 u hs_u ⟨by omega, by omega⟩ ⟨by omega, by omega⟩ (by omega)
    · have : ¬ (u.1 10).toInt ≤ z5.toInt := nleI c611
      have := and1_t (z1 >>> (z5 &&& 31))
      refine Tot_ite (fun c612 => ?_) (fun c612 => ?_)
      · have : ((z1 >>> (z5 &&& 31)) &&& 1).toInt = (0 : Int) := eqI c612
        exact tGX0_covers_9_93 u0 g2 (z5.toInt) (fun a613 a614 a615 a616 a617 w618 hw618 p619 p620 p621 p622 p623 => ih a613 a614 a615 a616 a617 w618 hw618 p619 p620 p621 p622 (by omega)) z1 z2 z3 z4 z5 u hs_u ⟨by omega, by omega⟩ ⟨by omega, by omega⟩ ⟨by omega, by omega⟩ (by omega) (by omega)
      · have : ¬ ((z1 >>> (z5 &&& 31)) &&& 1).toInt = (0 : Int) := neI c612
        have : (z3 * 12).toInt = z3.toInt * 12 := mulc_t (by decide) (by omega) (by omega)
        have : ((z3 * 12) + z5).toInt = (z3 * 12).toInt + z5.toInt := add_t (by omega) (by omega)
        refine Tot_gd (inb_t (by omega) (by omega)) ?_
        refine Tot_lt (fun v6 e_v6 => ?_)
        exact tGX0_covers_9_93 u0 g2 (z5.toInt) (fun a624 a625 a626 a627 a628 w629 hw629 p630 p631 p632 p633 p634 => ih a624 a625 a626 a627 a628 w629 hw629 p630 p631 p632 p633 (by omega)) z1 z2 z3 v6 z5 u hs_u ⟨by omega, by omega⟩ ⟨by omega, by omega⟩ ⟨by omega, by omega⟩ (by omega) (by omega)
set_option maxHeartbeats 400000 in
set_option maxRecDepth 10000 in
theorem tGX0_covers_9_99 (u0 : SX) (g2 : Int) {k2 : Int32 → Int32 → SX → Option (Int32 × SX)} (hk2 : ∀ (z1 : Int32) (z2 : Int32) (u : SX), (StX mdX0_covers_9 u0 u) → (0 ≤ z2.toInt ∧ z2.toInt ≤ 80) → (g2 < z2.toInt) → Tot (k2 z1 z2 u) (qX0_covers_9 u0)) (z1 : Int32) (z2 : Int32) (z3 : Int32) (z4 : Int32) (u : SX) (hs_u : StX mdX0_covers_9 u0 u) (h0 : 0 ≤ z2.toInt ∧ z2.toInt ≤ 79) (h1 : 0 ≤ z3.toInt ∧ z3.toInt ≤ 79) (h2 : g2 ≤ z2.toInt) : Tot (GX0_covers_9_99 k2 z1 z2 z3 z4 u) (qX0_covers_9 u0) := by
  unfold GX0_covers_9_99
  refine Tot_ite (fun c635 => ?_) (fun c635 => ?_)
  · have : z4.toInt ≤ (0 : Int) := leI c635
    have : (z2 + 1).toInt = z2.toInt + (1 : Int) := addc_t (by decide) (by omega) (by omega)
    exact hk2 z1 (z2 + 1) u hs_u ⟨by omega, by omega⟩ (by omega)
  · have : ¬ z4.toInt ≤ (0 : Int) := nleI c635
    refine Tot_lt (fun u8 e_u8 => ?_)
    have hs_u8 : StX mdX0_covers_9 u0 u8 := by rw [e_u8]; exact StX_sI hs_u (by decide) (by show 0 ≤ z3.toInt; omega) (by show z3.toInt ≤ 79; omega)
    refine Tot_gd (by decide) ?_
    exact Tot_some ⟨hs_u8, (by show 0 ≤ (0 : Int) ∧ (0 : Int) ≤ 1; omega), trivial⟩
set_option maxHeartbeats 400000 in
set_option maxRecDepth 10000 in
theorem tGX0_covers_9_43 (u0 : SX) (g2 : Int) {k2 : Int32 → Int32 → SX → Option (Int32 × SX)} (hk2 : ∀ (z1 : Int32) (z2 : Int32) (u : SX), (StX mdX0_covers_9 u0 u) → (0 ≤ z2.toInt ∧ z2.toInt ≤ 80) → (g2 < z2.toInt) → Tot (k2 z1 z2 u) (qX0_covers_9 u0)) (z1 : Int32) (z2 : Int32) (y0 : Int32) (u : SX) (hs_u : StX mdX0_covers_9 u0 u) (h0 : 0 ≤ z2.toInt ∧ z2.toInt ≤ 79) (h1 : 0 ≤ y0.toInt ∧ y0.toInt ≤ 79) (h2 : g2 ≤ z2.toInt) : Tot (GX0_covers_9_43 k2 z1 z2 y0 u) (qX0_covers_9 u0) := by
  unfold GX0_covers_9_43
  refine Tot_gd (inb_t (by omega) (by omega)) ?_
  refine Tot_lt (fun v3 e_v3 => ?_)
  exact tLX0_covers_9_55 u0 g2 (tGX0_covers_9_99 u0 g2 hk2) 5000 z1 z2 y0 v3 0 u hs_u ⟨by omega, by omega⟩ ⟨by omega, by omega⟩ (by show 0 ≤ (0 : Int) ∧ (0 : Int) ≤ 12; omega) (by omega) (by show 12 - (0 : Int) < ((5000 : Nat) : Int); omega)
set_option maxHeartbeats 400000 in
set_option maxRecDepth 10000 in
theorem tLX0_covers_9_2 (u0 : SX)    : ∀ (n : Nat) (z1 : Int32) (z2 : Int32) (u : SX), (StX mdX0_covers_9 u0 u) → (0 ≤ z2.toInt ∧ z2.toInt ≤ 80) → (80 - z2.toInt < (n : Int)) → Tot (LX0_covers_9_2 n z1 z2 u) (qX0_covers_9 u0) := by
  intro n
  induction n with
  | zero =>
    intro z1 z2 u hs_u h0 hm
    exfalso
    omega
  | succ n ih =>
    intro z1 z2 u hs_u h0 hm
    rw [LX0_covers_9_2]
    have : 0 ≤ (u.1 26).toInt ∧ (u.1 26).toInt ≤ 80 := hs_u.1.1 26
    refine Tot_ite (fun c636 => ?_) (fun c636 => ?_)
    · have : (u.1 26).toInt ≤ z2.toInt := leI c636
      refine Tot_gd (by decide) ?_
      exact Tot_some ⟨hs_u, (by show 0 ≤ (1 : Int) ∧ (1 : Int) ≤ 1; omega), trivial⟩
    · have : ¬ (u.1 26).toInt ≤ z2.toInt := nleI c636
      have : 0 ≤ (u.1 27).toInt ∧ (u.1 27).toInt ≤ 79 := hs_u.1.1 27
      have : ((u.1 27) + z2).toInt = (u.1 27).toInt + z2.toInt := add_t (by omega) (by omega)
      refine Tot_ite (fun c637 => ?_) (fun c637 => ?_)
      · have : (u.1 26).toInt ≤ ((u.1 27) + z2).toInt := leI c637
        have : (((u.1 27) + z2) - (u.1 26)).toInt = ((u.1 27) + z2).toInt - (u.1 26).toInt := sub_t (by omega) (by omega)
        exact tGX0_covers_9_43 u0 (z2.toInt) (fun a638 a639 w640 hw640 p641 p642 => ih a638 a639 w640 hw640 p641 (by omega)) z1 z2 (((u.1 27) + z2) - (u.1 26)) u hs_u ⟨by omega, by omega⟩ ⟨by omega, by omega⟩ (by omega)
      · have : ¬ (u.1 26).toInt ≤ ((u.1 27) + z2).toInt := nleI c637
        exact tGX0_covers_9_43 u0 (z2.toInt) (fun a643 a644 w645 hw645 p646 p647 => ih a643 a644 w645 hw645 p646 (by omega)) z1 z2 ((u.1 27) + z2) u hs_u ⟨by omega, by omega⟩ ⟨by omega, by omega⟩ (by omega)
set_option maxHeartbeats 400000 in
set_option maxRecDepth 10000 in
theorem tfX0_covers_9 (x1 : Int32) (u : SX) (hI : IX u)  : Tot (fX0_covers_9 x1 u) (qX0_covers_9 u) := by
  unfold fX0_covers_9
  have hs_u : StX mdX0_covers_9 u u := StX_rf hI
  exact tLX0_covers_9_2 u 5000 x1 0 u hs_u (by show 0 ≤ (0 : Int) ∧ (0 : Int) ≤ 80; omega) (by show 80 - (0 : Int) < ((5000 : Nat) : Int); omega)

def mdX0_choose_9 : MD := ([27, 28], [], [], [])
abbrev qX0_choose_9 (u : SX) (q : Int32 × SX) : Prop := StX mdX0_choose_9 u q.2 ∧ (0 ≤ q.1.toInt ∧ q.1.toInt ≤ 1) ∧ (True)

def RCrX0chooseg (rc : Nat → Int32 → Int32 → Int32 → SX → Option (Int32 × SX)) (dd : Nat) : Prop := (∀ (x1 : Int32) (x2 : Int32) (x3 : Int32) (u : SX), IX u → (0 ≤ x1.toInt ∧ x1.toInt ≤ 12) → (0 ≤ x2.toInt ∧ x2.toInt ≤ 12) → (x2.toInt + 1 < (dd : Int)) → Tot (rc 0 x1 x2 x3 u) (qX0_choose_9 u))

set_option maxHeartbeats 400000 in
set_option maxRecDepth 10000 in
theorem tLX0_choose_9_18 {rc : Nat → Int32 → Int32 → Int32 → SX → Option (Int32 × SX)} {dd : Nat} (hrc : RCrX0chooseg rc dd) (u0 : SX)    : ∀ (n : Nat) (z2 : Int32) (z3 : Int32) (z4 : Int32) (u : SX), (StX mdX0_choose_9 u0 u) → (1 ≤ z2.toInt ∧ z2.toInt ≤ 12) → (0 ≤ z4.toInt ∧ z4.toInt ≤ 12) → (z2.toInt + 1 ≤ (dd : Int)) → (12 - z4.toInt < (n : Int)) → Tot (LX0_choose_9_18 rc n z2 z3 z4 u) (qX0_choose_9 u0) := by
  intro n
  induction n with
  | zero =>
    intro z2 z3 z4 u hs_u h0 h1 h2 hm
    exfalso
    omega
  | succ n ih =>
    intro z2 z3 z4 u hs_u h0 h1 h2 hm
    rw [LX0_choose_9_18]
    have : 0 ≤ (u.1 10).toInt ∧ (u.1 10).toInt ≤ 12 := hs_u.1.1 10
    have : (z4 + z2).toInt = z4.toInt + z2.toInt := add_t (by omega) (by omega)
    refine Tot_ite (fun c648 => ?_) (fun c648 => ?_)
    · have : (u.1 10).toInt < (z4 + z2).toInt := ltI c648
      refine Tot_gd (by decide) ?_
      exact Tot_some ⟨hs_u, (by show 0 ≤ (0 : Int) ∧ (0 : Int) ≤ 1; omega), trivial⟩
    · have : ¬ (u.1 10).toInt < (z4 + z2).toInt := nltI c648
      have : (z4 + 1).toInt = z4.toInt + (1 : Int) := addc_t (by decide) (by omega) (by omega)
      have : (z2 - 1).toInt = z2.toInt - (1 : Int) := subc_t (by decide) (by omega) (by omega)
      refine Tot_bind (hrc (z4 + 1) (z2 - 1) (z3 ||| (1 <<< (z4 &&& 31))) u hs_u.1 ⟨by omega, by omega⟩ ⟨by omega, by omega⟩ (by show (z2 - 1).toInt + 1 < (dd : Int); omega)) (fun q hq => ?_)
      obtain ⟨r2, u3⟩ := q
      have hc_u3 : StX mdX0_choose_9 u u3 := hq.1
      have hs_u3 : StX mdX0_choose_9 u0 u3 := StX_tr hs_u hc_u3 (by decide)
      have : 0 ≤ r2.toInt ∧ r2.toInt ≤ 1 := hq.2.1
      refine Tot_ite (fun c649 => ?_) (fun c649 => ?_)
      · have : r2.toInt = (0 : Int) := eqI c649
        exact ih z2 z3 (z4 + 1) u3 hs_u3 ⟨by omega, by omega⟩ ⟨by omega, by omega⟩ (by omega) (by omega)
      · have : ¬ r2.toInt = (0 : Int) := neI c649
        refine Tot_gd (by decide) ?_
        exact Tot_some ⟨hs_u3, (by show 0 ≤ (1 : Int) ∧ (1 : Int) ≤ 1; omega), trivial⟩
set_option maxHeartbeats 400000 in
set_option maxRecDepth 10000 in
theorem tfX0_choose_9 {rc : Nat → Int32 → Int32 → Int32 → SX → Option (Int32 × SX)} {dd : Nat} (hrc : RCrX0chooseg rc dd) (x1 : Int32) (x2 : Int32) (x3 : Int32) (u : SX) (hI : IX u) (h0 : 0 ≤ x1.toInt ∧ x1.toInt ≤ 12) (h1 : 0 ≤ x2.toInt ∧ x2.toInt ≤ 12) (h2 : x2.toInt + 1 ≤ (dd : Int)) : Tot (fX0_choose_9 rc x1 x2 x3 u) (qX0_choose_9 u) := by
  unfold fX0_choose_9
  have hs_u : StX mdX0_choose_9 u u := StX_rf hI
  refine Tot_ite (fun c650 => ?_) (fun c650 => ?_)
  · have : x2.toInt = (0 : Int) := eqI c650
    refine Tot_lt (fun u6 e_u6 => ?_)
    have hs_u6 : StX mdX0_choose_9 u u6 := by rw [e_u6]; exact StX_sIf hs_u (by decide) rfl rfl
    refine Tot_bind (tfX0_covers_9 x3 u6 hs_u6.1) (fun q hq => ?_)
    obtain ⟨r8, u9⟩ := q
    have hc_u9 : StX mdX0_covers_9 u6 u9 := hq.1
    have hs_u9 : StX mdX0_choose_9 u u9 := StX_tr hs_u6 hc_u9 (by decide)
    have : 0 ≤ r8.toInt ∧ r8.toInt ≤ 1 := hq.2.1
    refine Tot_gd (isB_t (by omega) (by omega)) ?_
    exact Tot_some ⟨hs_u9, (by show 0 ≤ r8.toInt ∧ r8.toInt ≤ 1; omega), trivial⟩
  · have : ¬ x2.toInt = (0 : Int) := neI c650
    exact tLX0_choose_9_18 hrc u 5000 x2 x3 x1 u hs_u ⟨by omega, by omega⟩ ⟨by omega, by omega⟩ (by omega) (by show 12 - x1.toInt < ((5000 : Nat) : Int); omega)

theorem RCrX0chooseg_all : ∀ d, RCrX0chooseg (rX0chooseg d) d := by
  intro d
  induction d with
  | zero =>
    skip
    · intro x1 x2 x3 u hI h0 h1 hn
      exfalso
      omega
  | succ d ih =>
    skip
    · intro x1 x2 x3 u hI h0 h1 hn
      rw [rX0chooseg]
      rw [if_pos rfl]
      exact tfX0_choose_9 ih x1 x2 x3 u hI h0 h1 (by omega)

def mdX0_fewest_9 : MD := ([26, 27, 28], [16, 17, 41, 46, 47], [], [])
abbrev qX0_fewest_9 (u : SX) (q : Int32 × SX) : Prop := StX mdX0_fewest_9 u q.2 ∧ (True) ∧ (True)
set_option maxHeartbeats 400000 in
set_option maxRecDepth 10000 in
theorem tGX0_fewest_9_52 (u0 : SX) (g12 : Int) {k12 : Int32 → SX → Option (Int32 × SX)} (hk12 : ∀ (z1 : Int32) (u : SX), (StX mdX0_fewest_9 u0 u) → (0 ≤ z1.toInt ∧ z1.toInt ≤ 80) → ((u.1 26).toInt ≤ z1.toInt) → (g12 < z1.toInt) → Tot (k12 z1 u) (qX0_fewest_9 u0)) (z1 : Int32) (u : SX) (hs_u : StX mdX0_fewest_9 u0 u) (h0 : 0 ≤ z1.toInt ∧ z1.toInt ≤ 79) (h1 : (u.1 26).toInt ≤ (z1.toInt + (1 : Int))) (h2 : g12 ≤ z1.toInt) : Tot (GX0_fewest_9_52 k12 z1 u) (qX0_fewest_9 u0) := by
  unfold GX0_fewest_9_52
  have : 0 ≤ (u.1 26).toInt ∧ (u.1 26).toInt ≤ 80 := hs_u.1.1 26
  have : (z1 + 1).toInt = z1.toInt + (1 : Int) := addc_t (by decide) (by omega) (by omega)
  exact hk12 (z1 + 1) u hs_u ⟨by omega, by omega⟩ (by omega) (by omega)
set_option maxHeartbeats 400000 in
set_option maxRecDepth 10000 in
theorem tGX0_fewest_9_47 (u0 : SX) (g12 : Int) {k12 : Int32 → SX → Option (Int32 × SX)} (hk12 : ∀ (z1 : Int32) (u : SX), (StX mdX0_fewest_9 u0 u) → (0 ≤ z1.toInt ∧ z1.toInt ≤ 80) → ((u.1 26).toInt ≤ z1.toInt) → (g12 < z1.toInt) → Tot (k12 z1 u) (qX0_fewest_9 u0)) (z1 : Int32) (u : SX) (hs_u : StX mdX0_fewest_9 u0 u) (h0 : 0 ≤ z1.toInt ∧ z1.toInt ≤ 79) (h1 : (u.1 26).toInt ≤ z1.toInt) (h2 : g12 ≤ z1.toInt) : Tot (GX0_fewest_9_47 k12 z1 u) (qX0_fewest_9 u0) := by
  unfold GX0_fewest_9_47
  have : 0 ≤ (u.1 26).toInt ∧ (u.1 26).toInt ≤ 80 := hs_u.1.1 26
  refine Tot_bind (tfX0_weigh_9 z1 u hs_u.1 ⟨by omega, by omega⟩ (by show (u.1 26).toInt < (80 : Int); omega)) (fun q hq => ?_)
  obtain ⟨r6, u7⟩ := q
  have hc_u7 : StX mdX0_weigh_9 u u7 := hq.1
  have hs_u7 : StX mdX0_fewest_9 u0 u7 := StX_tr hs_u hc_u7 (by decide)
  have : 0 ≤ r6.toInt ∧ r6.toInt ≤ 0 := hq.2.1
  have : 0 ≤ (u7.1 26).toInt ∧ (u7.1 26).toInt ≤ 80 := hs_u7.1.1 26
  have : (u7.1 26).toInt = ((u.1 26).toInt + (1 : Int)) := hq.2.2
  exact tGX0_fewest_9_52 u0 g12 hk12 z1 u7 hs_u7 ⟨by omega, by omega⟩ (by show (u7.1 26).toInt ≤ (z1.toInt + (1 : Int)); omega) (by omega)
set_option maxHeartbeats 400000 in
set_option maxRecDepth 10000 in
theorem tLX0_fewest_9_12 (u0 : SX)  {k58 : SX → Option (Int32 × SX)} (hk58 : ∀  (u : SX), (StX mdX0_fewest_9 u0 u) → Tot (k58  u) (qX0_fewest_9 u0)) : ∀ (n : Nat) (z1 : Int32) (u : SX), (StX mdX0_fewest_9 u0 u) → (0 ≤ z1.toInt ∧ z1.toInt ≤ 80) → ((u.1 26).toInt ≤ z1.toInt) → (80 - z1.toInt < (n : Int)) → Tot (LX0_fewest_9_12 k58 n z1 u) (qX0_fewest_9 u0) := by
  intro n
  induction n with
  | zero =>
    intro z1 u hs_u h0 h1 hm
    exfalso
    omega
  | succ n ih =>
    intro z1 u hs_u h0 h1 hm
    rw [LX0_fewest_9_12]
    have : 0 ≤ (u.1 26).toInt ∧ (u.1 26).toInt ≤ 80 := hs_u.1.1 26
    have : 0 ≤ (u.1 14).toInt ∧ (u.1 14).toInt ≤ 80 := hs_u.1.1 14
    refine Tot_ite (fun c651 => ?_) (fun c651 => ?_)
    · have : (u.1 14).toInt ≤ z1.toInt := leI c651
      exact hk58 u hs_u
    · have : ¬ (u.1 14).toInt ≤ z1.toInt := nleI c651
      refine Tot_gd (inb_t (by omega) (by omega)) ?_
      refine Tot_ite (fun c652 => ?_) (fun c652 => ?_)
      · have : (0 : Int) < (u.2.1 38 z1.toNatClampNeg).toInt := ltI c652
        exact tGX0_fewest_9_47 u0 (z1.toInt) (fun a653 w654 hw654 p655 p656 p657 => ih a653 w654 hw654 p655 p656 (by omega)) z1 u hs_u ⟨by omega, by omega⟩ (by omega) (by omega)
      · have : ¬ (0 : Int) < (u.2.1 38 z1.toNatClampNeg).toInt := nltI c652
        refine Tot_gd (inb_t (by omega) (by omega)) ?_
        refine Tot_ite (fun c658 => ?_) (fun c658 => ?_)
        · have : (0 : Int) ≤ (u.2.1 39 z1.toNatClampNeg).toInt := leI c658
          exact tGX0_fewest_9_52 u0 (z1.toInt) (fun a659 w660 hw660 p661 p662 p663 => ih a659 w660 hw660 p661 p662 (by omega)) z1 u hs_u ⟨by omega, by omega⟩ (by show (u.1 26).toInt ≤ (z1.toInt + (1 : Int)); omega) (by omega)
        · have : ¬ (0 : Int) ≤ (u.2.1 39 z1.toNatClampNeg).toInt := nleI c658
          exact tGX0_fewest_9_47 u0 (z1.toInt) (fun a664 w665 hw665 p666 p667 p668 => ih a664 w665 hw665 p666 p667 (by omega)) z1 u hs_u ⟨by omega, by omega⟩ (by omega) (by omega)
set_option maxHeartbeats 400000 in
set_option maxRecDepth 10000 in
theorem tLX0_fewest_9_80 (u0 : SX)    : ∀ (n : Nat) (z1 : Int32) (u : SX), (StX mdX0_fewest_9 u0 u) → (0 ≤ z1.toInt ∧ z1.toInt ≤ 13) → (13 - z1.toInt < (n : Int)) → Tot (LX0_fewest_9_80 n z1 u) (qX0_fewest_9 u0) := by
  intro n
  induction n with
  | zero =>
    intro z1 u hs_u h0 hm
    exfalso
    omega
  | succ n ih =>
    intro z1 u hs_u h0 hm
    rw [LX0_fewest_9_80]
    have : 0 ≤ (u.1 10).toInt ∧ (u.1 10).toInt ≤ 12 := hs_u.1.1 10
    refine Tot_ite (fun c669 => ?_) (fun c669 => ?_)
    · have : (u.1 10).toInt < z1.toInt := ltI c669
      exact Tot_some ⟨hs_u, trivial, trivial⟩
    · have : ¬ (u.1 10).toInt < z1.toInt := nltI c669
      refine Tot_bind ((RCrX0chooseg_all 16) 0 z1 0 u hs_u.1 (by show 0 ≤ (0 : Int) ∧ (0 : Int) ≤ 12; omega) ⟨by omega, by omega⟩ (by show z1.toInt + 1 < ((16 : Nat) : Int); omega)) (fun q hq => ?_)
      obtain ⟨r13, u14⟩ := q
      have hc_u14 : StX mdX0_choose_9 u u14 := hq.1
      have hs_u14 : StX mdX0_fewest_9 u0 u14 := StX_tr hs_u hc_u14 (by decide)
      have : 0 ≤ r13.toInt ∧ r13.toInt ≤ 1 := hq.2.1
      refine Tot_ite (fun c670 => ?_) (fun c670 => ?_)
      · have : r13.toInt = (0 : Int) := eqI c670
        have : (z1 + 1).toInt = z1.toInt + (1 : Int) := addc_t (by decide) (by omega) (by omega)
        exact ih (z1 + 1) u14 hs_u14 ⟨by omega, by omega⟩ (by omega)
      · have : ¬ r13.toInt = (0 : Int) := neI c670
        exact Tot_some ⟨hs_u14, trivial, trivial⟩
set_option maxHeartbeats 400000 in
set_option maxRecDepth 10000 in
theorem tGX0_fewest_9_58 (u0 : SX)     (u : SX) (hs_u : StX mdX0_fewest_9 u0 u)  : Tot (GX0_fewest_9_58  u) (qX0_fewest_9 u0) := by
  unfold GX0_fewest_9_58
  have : 0 ≤ (u.1 10).toInt ∧ (u.1 10).toInt ≤ 12 := hs_u.1.1 10
  have := shl1_t (p := (u.1 10)) (by omega) (by omega)
  have : ((1 <<< ((u.1 10) &&& 31)) - 1).toInt = (1 <<< ((u.1 10) &&& 31)).toInt - (1 : Int) := subc_t (by decide) (by omega) (by omega)
  refine Tot_bind (tfX0_covers_9 ((1 <<< ((u.1 10) &&& 31)) - 1) u hs_u.1) (fun q hq => ?_)
  obtain ⟨r10, u11⟩ := q
  have hc_u11 : StX mdX0_covers_9 u u11 := hq.1
  have hs_u11 : StX mdX0_fewest_9 u0 u11 := StX_tr hs_u hc_u11 (by decide)
  have : 0 ≤ r10.toInt ∧ r10.toInt ≤ 1 := hq.2.1
  refine Tot_ite (fun c671 => ?_) (fun c671 => ?_)
  · have : r10.toInt = (0 : Int) := eqI c671
    exact Tot_some ⟨hs_u11, trivial, trivial⟩
  · have : ¬ r10.toInt = (0 : Int) := neI c671
    exact tLX0_fewest_9_80 u0 5000 0 u11 hs_u11 (by show 0 ≤ (0 : Int) ∧ (0 : Int) ≤ 13; omega) (by show 13 - (0 : Int) < ((5000 : Nat) : Int); omega)
set_option maxHeartbeats 400000 in
set_option maxRecDepth 10000 in
theorem tfX0_fewest_9  (u : SX) (hI : IX u)  : Tot (fX0_fewest_9  u) (qX0_fewest_9 u) := by
  unfold fX0_fewest_9
  have hs_u : StX mdX0_fewest_9 u u := StX_rf hI
  refine Tot_lt (fun u1 e_u1 => ?_)
  have hs_u1 : StX mdX0_fewest_9 u u1 := by rw [e_u1]; exact StX_sI hs_u (by decide) (by show 0 ≤ (0 : Int); omega) (by show (0 : Int) ≤ 80; omega)
  refine Tot_lt (fun u3 e_u3 => ?_)
  have hs_u3 : StX mdX0_fewest_9 u u3 := by rw [e_u3]; exact StX_sI hs_u1 (by decide) (by show 0 ≤ (0 : Int); omega) (by show (0 : Int) ≤ 79; omega)
  have : (u3.1 26).toInt = (u1.1 26).toInt := by rw [e_u3]; rfl
  have : (u1.1 26).toInt = (0 : Int) := by rw [e_u1]; rfl
  exact tLX0_fewest_9_12 u (tGX0_fewest_9_58 u) 5000 0 u3 hs_u3 (by show 0 ≤ (0 : Int) ∧ (0 : Int) ≤ 80; omega) (by show (u3.1 26).toInt ≤ (0 : Int); omega) (by show 80 - (0 : Int) < ((5000 : Nat) : Int); omega)

def mdX11_sets_0 : MD := ([10, 11, 14, 15, 16, 26, 27, 28], [16, 17, 27, 28, 38, 39, 41, 46, 47], [], [])
abbrev qX11_sets_0 (u : SX) (q : Int32 × SX) : Prop := StX mdX11_sets_0 u q.2 ∧ (True) ∧ (True)
set_option maxHeartbeats 400000 in
set_option maxRecDepth 10000 in
theorem tfX11_sets_0 (x1 : Int32) (u : SX) (hI : IX u)  : Tot (fX11_sets_0 x1 u) (qX11_sets_0 u) := by
  unfold fX11_sets_0
  have hs_u : StX mdX11_sets_0 u u := StX_rf hI
  refine Tot_bind (tfX11_isDay_0 x1 u hs_u.1) (fun q hq => ?_)
  obtain ⟨r1, u2⟩ := q
  have hc_u2 : StX mdX11_isDay_0 u u2 := hq.1
  have hs_u2 : StX mdX11_sets_0 u u2 := StX_tr hs_u hc_u2 (by decide)
  have : 0 ≤ r1.toInt ∧ r1.toInt ≤ 1 := hq.2.1
  have : 0 ≤ (u.1 0).toInt ∧ (u.1 0).toInt ≤ 120 := hs_u.1.1 0
  have : r1.toInt ≠ 0 → ((0 : Int) ≤ x1.toInt ∧ x1.toInt ≤ (u.1 0).toInt) := hq.2.2
  refine Tot_ite (fun c672 => ?_) (fun c672 => ?_)
  · have : r1.toInt = (0 : Int) := eqI c672
    exact Tot_some ⟨hs_u2, trivial, trivial⟩
  · have : ¬ r1.toInt = (0 : Int) := neI c672
    refine Tot_bind (tfX7_recall_7 x1 u2 hs_u2.1 ⟨by omega, by omega⟩) (fun q hq => ?_)
    obtain ⟨r4, u5⟩ := q
    have hc_u5 : StX mdX7_recall_7 u2 u5 := hq.1
    have hs_u5 : StX mdX11_sets_0 u u5 := StX_tr hs_u2 hc_u5 (by decide)
    have : 0 ≤ r4.toInt ∧ r4.toInt ≤ 0 := hq.2.1
    refine Tot_bind (tfX0_fewest_9 u5 hs_u5.1) (fun q hq => ?_)
    obtain ⟨r7, u8⟩ := q
    have hc_u8 : StX mdX0_fewest_9 u5 u8 := hq.1
    have hs_u8 : StX mdX11_sets_0 u u8 := StX_tr hs_u5 hc_u8 (by decide)
    exact Tot_some ⟨hs_u8, trivial, trivial⟩

def mdX3_add_10 : MD := ([29], [48, 49, 50, 51, 52], [], [])
abbrev qX3_add_10 (u : SX) (q : Int32 × SX) : Prop := StX mdX3_add_10 u q.2 ∧ ((-1) ≤ q.1.toInt ∧ q.1.toInt ≤ 9) ∧ (True)
set_option maxHeartbeats 400000 in
set_option maxRecDepth 10000 in
theorem tfX3_add_10 (x1 : Int32) (x2 : Int32) (x3 : Int32) (x4 : Int32) (u : SX) (hI : IX u) (h0 : 0 ≤ x1.toInt ∧ x1.toInt ≤ 11) (h1 : 0 ≤ x2.toInt ∧ x2.toInt ≤ 400) (h2 : 0 ≤ x3.toInt ∧ x3.toInt ≤ 400) (h3 : 1 ≤ x4.toInt ∧ x4.toInt ≤ 50) : Tot (fX3_add_10 x1 x2 x3 x4 u) (qX3_add_10 u) := by
  unfold fX3_add_10
  have hs_u : StX mdX3_add_10 u u := StX_rf hI
  have : 0 ≤ (u.1 29).toInt ∧ (u.1 29).toInt ≤ 10 := hs_u.1.1 29
  refine Tot_ite (fun c673 => ?_) (fun c673 => ?_)
  · have : (u.1 29).toInt < (10 : Int) := ltI c673
    refine Tot_gd (inb_t (by omega) (by omega)) ?_
    refine Tot_lt (fun u2 e_u2 => ?_)
    have hs_u2 : StX mdX3_add_10 u u2 := by rw [e_u2]; exact StX_sA hs_u (by decide) (by show 0 ≤ x1.toInt; omega) (by show x1.toInt ≤ 11; omega) (by decide)
    have : (u2.1 29).toInt = (u.1 29).toInt := by rw [e_u2]; rfl
    refine Tot_gd (inb_t (by omega) (by omega)) ?_
    refine Tot_lt (fun u5 e_u5 => ?_)
    have hs_u5 : StX mdX3_add_10 u u5 := by rw [e_u5]; exact StX_sA hs_u2 (by decide) (by show 0 ≤ x2.toInt; omega) (by show x2.toInt ≤ 400; omega) (by decide)
    have : (u5.1 29).toInt = (u2.1 29).toInt := by rw [e_u5]; rfl
    refine Tot_gd (inb_t (by omega) (by omega)) ?_
    refine Tot_lt (fun u8 e_u8 => ?_)
    have hs_u8 : StX mdX3_add_10 u u8 := by rw [e_u8]; exact StX_sA hs_u5 (by decide) (by show 0 ≤ x3.toInt; omega) (by show x3.toInt ≤ 400; omega) (by decide)
    have : (u8.1 29).toInt = (u5.1 29).toInt := by rw [e_u8]; rfl
    refine Tot_gd (inb_t (by omega) (by omega)) ?_
    refine Tot_lt (fun u11 e_u11 => ?_)
    have hs_u11 : StX mdX3_add_10 u u11 := by rw [e_u11]; exact StX_sA hs_u8 (by decide) (by show 0 ≤ x4.toInt; omega) (by show x4.toInt ≤ 50; omega) (by decide)
    have : (u11.1 29).toInt = (u8.1 29).toInt := by rw [e_u11]; rfl
    refine Tot_gd (inb_t (by omega) (by omega)) ?_
    refine Tot_lt (fun u14 e_u14 => ?_)
    have hs_u14 : StX mdX3_add_10 u u14 := by rw [e_u14]; exact StX_sA hs_u11 (by decide) (by show (-1) ≤ (-1 : Int); omega) (by show (-1 : Int) ≤ 120; omega) (by decide)
    have : (u14.1 29).toInt = (u11.1 29).toInt := by rw [e_u14]; rfl
    have : ((u14.1 29) + 1).toInt = (u14.1 29).toInt + (1 : Int) := addc_t (by decide) (by omega) (by omega)
    refine Tot_lt (fun u16 e_u16 => ?_)
    have hs_u16 : StX mdX3_add_10 u u16 := by rw [e_u16]; exact StX_sI hs_u14 (by decide) (by show 0 ≤ ((u14.1 29) + 1).toInt; omega) (by show ((u14.1 29) + 1).toInt ≤ 10; omega)
    have : (u16.1 29).toInt = ((u14.1 29) + 1).toInt := by rw [e_u16]; rfl
    have : ((u16.1 29) - 1).toInt = (u16.1 29).toInt - (1 : Int) := subc_t (by decide) (by omega) (by omega)
    exact Tot_some ⟨hs_u16, (by show (-1) ≤ ((u16.1 29) - 1).toInt ∧ ((u16.1 29) - 1).toInt ≤ 9; omega), trivial⟩
  · have : ¬ (u.1 29).toInt < (10 : Int) := nltI c673
    exact Tot_some ⟨hs_u, (by show (-1) ≤ (-1 : Int) ∧ (-1 : Int) ≤ 9; omega), trivial⟩

def mdX11_look_0 : MD := ([29], [48, 49, 50, 51, 52], [], [])
abbrev qX11_look_0 (u : SX) (q : Int32 × SX) : Prop := StX mdX11_look_0 u q.2 ∧ ((-1) ≤ q.1.toInt ∧ q.1.toInt ≤ 9) ∧ (True)
set_option maxHeartbeats 400000 in
set_option maxRecDepth 10000 in
theorem tGX11_look_0_35 (u0 : SX)    (z1 : Int32) (z2 : Int32) (z3 : Int32) (z4 : Int32) (y0 : Int32) (u : SX) (hs_u : StX mdX11_look_0 u0 u) (h0 : 0 ≤ y0.toInt ∧ y0.toInt ≤ 1) (h1 : y0.toInt ≠ 0 → ((0 : Int) ≤ z1.toInt ∧ z1.toInt < (u.1 8).toInt ∧ (0 : Int) ≤ z2.toInt ∧ z3.toInt ≤ (400 : Int) ∧ z2.toInt ≤ z3.toInt ∧ (1 : Int) ≤ z4.toInt ∧ z4.toInt ≤ (50 : Int))) : Tot (GX11_look_0_35 z1 z2 z3 z4 y0 u) (qX11_look_0 u0) := by
  unfold GX11_look_0_35
  have : 0 ≤ (u.1 8).toInt ∧ (u.1 8).toInt ≤ 12 := hs_u.1.1 8
  refine Tot_ite (fun c674 => ?_) (fun c674 => ?_)
  · have : y0.toInt = (0 : Int) := eqI c674
    exact Tot_some ⟨hs_u, (by show (-1) ≤ (-1 : Int) ∧ (-1 : Int) ≤ 9; omega), trivial⟩
  · have : ¬ y0.toInt = (0 : Int) := neI c674
    have : 0 ≤ (u.1 29).toInt ∧ (u.1 29).toInt ≤ 10 := hs_u.1.1 29
    refine Tot_ite (fun c675 => ?_) (fun c675 => ?_)
    · have : (u.1 29).toInt < (10 : Int) := ltI c675
      refine Tot_bind (tfX3_add_10 z1 z2 z3 z4 u hs_u.1 ⟨by omega, by omega⟩ ⟨by omega, by omega⟩ ⟨by omega, by omega⟩ ⟨by omega, by omega⟩) (fun q hq => ?_)
      obtain ⟨r4, u5⟩ := q
      have hc_u5 : StX mdX3_add_10 u u5 := hq.1
      have hs_u5 : StX mdX11_look_0 u0 u5 := StX_tr hs_u hc_u5 (by decide)
      have : (-1) ≤ r4.toInt ∧ r4.toInt ≤ 9 := hq.2.1
      exact Tot_some ⟨hs_u5, (by show (-1) ≤ r4.toInt ∧ r4.toInt ≤ 9; omega), trivial⟩
    · have : ¬ (u.1 29).toInt < (10 : Int) := nltI c675
      exact Tot_some ⟨hs_u, (by show (-1) ≤ (-1 : Int) ∧ (-1 : Int) ≤ 9; omega), trivial⟩
set_option maxHeartbeats 400000 in
set_option maxRecDepth 10000 in
theorem tGX11_look_0_34 (u0 : SX)    (z1 : Int32) (z2 : Int32) (z3 : Int32) (z4 : Int32) (u : SX) (hs_u : StX mdX11_look_0 u0 u)  : Tot (GX11_look_0_34 z1 z2 z3 z4 u) (qX11_look_0 u0) := by
  unfold GX11_look_0_34
  have : 0 ≤ (u.1 8).toInt ∧ (u.1 8).toInt ≤ 12 := hs_u.1.1 8
  exact tGX11_look_0_35 u0 z1 z2 z3 z4 0 u hs_u (by show 0 ≤ (0 : Int) ∧ (0 : Int) ≤ 1; omega) (by show (0 : Int) ≠ 0 → ((0 : Int) ≤ z1.toInt ∧ z1.toInt < (u.1 8).toInt ∧ (0 : Int) ≤ z2.toInt ∧ z3.toInt ≤ (400 : Int) ∧ z2.toInt ≤ z3.toInt ∧ (1 : Int) ≤ z4.toInt ∧ z4.toInt ≤ (50 : Int)); omega)
set_option maxHeartbeats 400000 in
set_option maxRecDepth 10000 in
theorem tfX11_look_0 (x1 : Int32) (x2 : Int32) (x3 : Int32) (x4 : Int32) (u : SX) (hI : IX u)  : Tot (fX11_look_0 x1 x2 x3 x4 u) (qX11_look_0 u) := by
  unfold fX11_look_0
  have hs_u : StX mdX11_look_0 u u := StX_rf hI
  refine Tot_bind (tfX6_has_6 x1 u hs_u.1) (fun q hq => ?_)
  obtain ⟨r1, u2⟩ := q
  have hc_u2 : StX mdX6_has_6 u u2 := hq.1
  have hs_u2 : StX mdX11_look_0 u u2 := StX_tr hs_u hc_u2 (by decide)
  have : 0 ≤ r1.toInt ∧ r1.toInt ≤ 1 := hq.2.1
  have : 0 ≤ (u.1 8).toInt ∧ (u.1 8).toInt ≤ 12 := hs_u.1.1 8
  have : r1.toInt ≠ 0 → ((0 : Int) ≤ x1.toInt ∧ x1.toInt < (u.1 8).toInt) := hq.2.2
  refine Tot_ite (fun c676 => ?_) (fun c676 => ?_)
  · have : r1.toInt = (0 : Int) := eqI c676
    exact tGX11_look_0_34 u x1 x2 x3 x4 u2 hs_u2
  · have : ¬ r1.toInt = (0 : Int) := neI c676
    refine Tot_bind (tfX11_isLoudness x2 x3) (fun r7 hq => ?_)
    have : 0 ≤ r7.toInt ∧ r7.toInt ≤ 1 := hq.1
    have : r7.toInt ≠ 0 → ((0 : Int) ≤ x2.toInt ∧ x3.toInt ≤ (400 : Int) ∧ x2.toInt ≤ x3.toInt) := hq.2
    refine Tot_ite (fun c677 => ?_) (fun c677 => ?_)
    · have : r7.toInt = (0 : Int) := eqI c677
      exact tGX11_look_0_34 u x1 x2 x3 x4 u2 hs_u2
    · have : ¬ r7.toInt = (0 : Int) := neI c677
      refine Tot_bind (tfX11_within x4 1 50) (fun r10 hq => ?_)
      have : 0 ≤ r10.toInt ∧ r10.toInt ≤ 1 := hq.1
      have : r10.toInt ≠ 0 → ((1 : Int) ≤ x4.toInt ∧ x4.toInt ≤ (50 : Int)) := hq.2
      refine Tot_ite (fun c678 => ?_) (fun c678 => ?_)
      · have : r10.toInt = (0 : Int) := eqI c678
        exact tGX11_look_0_34 u x1 x2 x3 x4 u2 hs_u2
      · have : ¬ r10.toInt = (0 : Int) := neI c678
        have : (u2.1 8).toInt = (u.1 8).toInt := congrArg Int32.toInt (hc_u2.2.1 8 (by decide))
        exact tGX11_look_0_35 u x1 x2 x3 x4 1 u2 hs_u2 (by show 0 ≤ (1 : Int) ∧ (1 : Int) ≤ 1; omega) (by show (1 : Int) ≠ 0 → ((0 : Int) ≤ x1.toInt ∧ x1.toInt < (u2.1 8).toInt ∧ (0 : Int) ≤ x2.toInt ∧ x3.toInt ≤ (400 : Int) ∧ x2.toInt ≤ x3.toInt ∧ (1 : Int) ≤ x4.toInt ∧ x4.toInt ≤ (50 : Int)); omega)

def mdX3_has_10 : MD := ([], [], [], [])
abbrev qX3_has_10 (x1 : Int32) (u : SX) (q : Int32 × SX) : Prop := StX mdX3_has_10 u q.2 ∧ (0 ≤ q.1.toInt ∧ q.1.toInt ≤ 1) ∧ ((q.1.toInt ≠ 0 → ((0 : Int) ≤ x1.toInt ∧ x1.toInt < (u.1 29).toInt)))
set_option maxHeartbeats 400000 in
set_option maxRecDepth 10000 in
theorem tfX3_has_10 (x1 : Int32) (u : SX) (hI : IX u)  : Tot (fX3_has_10 x1 u) (qX3_has_10 x1 u) := by
  unfold fX3_has_10
  have hs_u : StX mdX3_has_10 u u := StX_rf hI
  refine Tot_ite (fun c679 => ?_) (fun c679 => ?_)
  · have : x1.toInt < (0 : Int) := ltI c679
    refine Tot_gd (by decide) ?_
    have : 0 ≤ (u.1 29).toInt ∧ (u.1 29).toInt ≤ 10 := hs_u.1.1 29
    exact Tot_some ⟨hs_u, (by show 0 ≤ (0 : Int) ∧ (0 : Int) ≤ 1; omega), (by show (0 : Int) ≠ 0 → ((0 : Int) ≤ x1.toInt ∧ x1.toInt < (u.1 29).toInt); omega)⟩
  · have : ¬ x1.toInt < (0 : Int) := nltI c679
    have : 0 ≤ (u.1 29).toInt ∧ (u.1 29).toInt ≤ 10 := hs_u.1.1 29
    refine Tot_ite (fun c680 => ?_) (fun c680 => ?_)
    · have : (u.1 29).toInt ≤ x1.toInt := leI c680
      refine Tot_gd (by decide) ?_
      exact Tot_some ⟨hs_u, (by show 0 ≤ (0 : Int) ∧ (0 : Int) ≤ 1; omega), (by show (0 : Int) ≠ 0 → ((0 : Int) ≤ x1.toInt ∧ x1.toInt < (u.1 29).toInt); omega)⟩
    · have : ¬ (u.1 29).toInt ≤ x1.toInt := nleI c680
      refine Tot_gd (by decide) ?_
      exact Tot_some ⟨hs_u, (by show 0 ≤ (1 : Int) ∧ (1 : Int) ≤ 1; omega), (by show (1 : Int) ≠ 0 → ((0 : Int) ≤ x1.toInt ∧ x1.toInt < (u.1 29).toInt); omega)⟩

def mdX3_isDone_10 : MD := ([], [], [], [])
abbrev qX3_isDone_10 (u : SX) (q : Int32 × SX) : Prop := StX mdX3_isDone_10 u q.2 ∧ (0 ≤ q.1.toInt ∧ q.1.toInt ≤ 1) ∧ (True)
set_option maxHeartbeats 400000 in
set_option maxRecDepth 10000 in
theorem tfX3_isDone_10 (x1 : Int32) (u : SX) (hI : IX u) (h0 : 0 ≤ x1.toInt ∧ x1.toInt ≤ 9) : Tot (fX3_isDone_10 x1 u) (qX3_isDone_10 u) := by
  unfold fX3_isDone_10
  have hs_u : StX mdX3_isDone_10 u u := StX_rf hI
  refine Tot_gd (inb_t (by omega) (by omega)) ?_
  have : (-1) ≤ (u.2.1 52 x1.toNatClampNeg).toInt ∧ (u.2.1 52 x1.toNatClampNeg).toInt ≤ 120 := hs_u.1.2.1 52 x1.toNatClampNeg
  refine Tot_ite (fun c681 => ?_) (fun c681 => ?_)
  · have : (u.2.1 52 x1.toNatClampNeg).toInt = (-1 : Int) := eqI c681
    refine Tot_gd (by decide) ?_
    exact Tot_some ⟨hs_u, (by show 0 ≤ (0 : Int) ∧ (0 : Int) ≤ 1; omega), trivial⟩
  · have : ¬ (u.2.1 52 x1.toNatClampNeg).toInt = (-1 : Int) := neI c681
    refine Tot_gd (by decide) ?_
    exact Tot_some ⟨hs_u, (by show 0 ≤ (1 : Int) ∧ (1 : Int) ≤ 1; omega), trivial⟩
