/-! What was last recalled stays right, in every method that recalls. -/
def IC (u : SX) : Prop := IX u ∧ CX u
def StC (md : MD) (u0 u : SX) : Prop := IC u ∧ FrM md u0 u
theorem StC_rf {md : MD} {u : SX} (h : IC u) : StC md u u := ⟨h, FrM_rf⟩
theorem StC_x {md : MD} {u0 u : SX} (h : StC md u0 u) : StX md u0 u := ⟨h.1.1, h.2⟩
theorem StC_tr {md mc : MD} {u0 u u1 : SX} (h1 : StC md u0 u) (h2 : StX mc u u1) (hs : mdS mc md = true) (c : tieCX mc = true) : StC md u0 u1 := ⟨⟨h2.1, CX_md h2.2 c h1.1.2⟩, FrM_tr h1.2 h2.2 hs⟩
theorem StC_tc {md mc : MD} {u0 u u1 : SX} (h1 : StC md u0 u) (h2 : StC mc u u1) (hs : mdS mc md = true) : StC md u0 u1 := ⟨h2.1, FrM_tr h1.2 h2.2 hs⟩
theorem StC_i {md : MD} {u0 u : SX} {k : Nat} {v : Int32} (h : StC md u0 u) (h2 : StX md u0 (sI u k v)) (c : Nat.beq 8 k = false ∧ Nat.beq 10 k = false ∧ Nat.beq 11 k = false ∧ Nat.beq 12 k = false) : StC md u0 (sI u k v) := by
  refine ⟨⟨h2.1, ?_⟩, h2.2⟩
  obtain ⟨c1, c2, c3, c4⟩ := c
  refine CX_fr (u := u) (u' := sI u k v) ?_ ?_ ?_ ?_ rfl rfl rfl rfl rfl rfl rfl rfl h.1.2
  · show (bif Nat.beq 8 k then v else u.1 8) = _
    rw [c1]
    rfl
  · show (bif Nat.beq 10 k then v else u.1 10) = _
    rw [c2]
    rfl
  · show (bif Nat.beq 11 k then v else u.1 11) = _
    rw [c3]
    rfl
  · show (bif Nat.beq 12 k then v else u.1 12) = _
    rw [c4]
    rfl
theorem StC_a {md : MD} {u0 u : SX} {k : Nat} {f : Nat → Int32} (h : StC md u0 u) (h2 : StX md u0 (sA u k f)) (c : Nat.beq 27 k = false ∧ Nat.beq 28 k = false ∧ Nat.beq 29 k = false ∧ Nat.beq 30 k = false ∧ Nat.beq 31 k = false ∧ Nat.beq 32 k = false ∧ Nat.beq 33 k = false ∧ Nat.beq 35 k = false) : StC md u0 (sA u k f) := by
  refine ⟨⟨h2.1, ?_⟩, h2.2⟩
  obtain ⟨c1, c2, c3, c4, c5, c6, c7, c8⟩ := c
  refine CX_fr (u := u) (u' := sA u k f) rfl rfl rfl rfl ?_ ?_ ?_ ?_ ?_ ?_ ?_ ?_ h.1.2
  · show (bif Nat.beq 27 k then f else u.2.1 27) = _
    rw [c1]
    rfl
  · show (bif Nat.beq 28 k then f else u.2.1 28) = _
    rw [c2]
    rfl
  · show (bif Nat.beq 29 k then f else u.2.1 29) = _
    rw [c3]
    rfl
  · show (bif Nat.beq 30 k then f else u.2.1 30) = _
    rw [c4]
    rfl
  · show (bif Nat.beq 31 k then f else u.2.1 31) = _
    rw [c5]
    rfl
  · show (bif Nat.beq 32 k then f else u.2.1 32) = _
    rw [c6]
    rfl
  · show (bif Nat.beq 33 k then f else u.2.1 33) = _
    rw [c7]
    rfl
  · show (bif Nat.beq 35 k then f else u.2.1 35) = _
    rw [c8]
    rfl
abbrev pX6_recall_6 (u : SX) (q : Int32 × SX) : Prop := StC mdX6_recall_6 u q.2 ∧ (0 ≤ q.1.toInt ∧ q.1.toInt ≤ 0) ∧ (True)
theorem cfX6_recall_6 (x1 : Int32) (u : SX) (hI : IC u) (h0 : 0 ≤ x1.toInt ∧ x1.toInt ≤ 120) : Tot (fX6_recall_6 x1 u) (pX6_recall_6 u) := by
  obtain ⟨a, e, q⟩ := tfX6_recall_6 x1 u hI.1 h0
  obtain ⟨r, u'⟩ := a
  exact ⟨(r, u'), e, ⟨⟨q.1.1, (recall_sp hI.1 hI.2 e).2.2.2.2⟩, q.1.2⟩, q.2⟩
abbrev pX7_recall_7 (u : SX) (q : Int32 × SX) : Prop := StC mdX7_recall_7 u q.2 ∧ (0 ≤ q.1.toInt ∧ q.1.toInt ≤ 0) ∧ (True)
set_option maxHeartbeats 400000 in
set_option maxRecDepth 10000 in
theorem cLX7_recall_7_73 (u0 : SX)  {k91 : Int32 → SX → Option (Int32 × SX)} (hk91 : ∀ (z3 : Int32) (u : SX), (StC mdX7_recall_7 u0 u) → (0 ≤ z3.toInt ∧ z3.toInt ≤ 80) → Tot (k91 z3 u) (pX7_recall_7 u0)) : ∀ (n : Nat) (z3 : Int32) (z4 : Int32) (u : SX), (StC mdX7_recall_7 u0 u) → (0 ≤ z3.toInt ∧ z3.toInt ≤ 80) → (0 ≤ z4.toInt ∧ z4.toInt ≤ 80) → (80 - z4.toInt < (n : Int)) → Tot (LX7_recall_7_73 k91 n z3 z4 u) (pX7_recall_7 u0) := by
  intro n
  induction n with
  | zero =>
    intro z3 z4 u hs_u h0 h1 hm
    exfalso
    omega
  | succ n ih =>
    intro z3 z4 u hs_u h0 h1 hm
    rw [LX7_recall_7_73]
    refine Tot_ite (fun c471 => ?_) (fun c471 => ?_)
    · have : z3.toInt ≤ z4.toInt := leI c471
      exact hk91 z3 u hs_u ⟨by omega, by omega⟩
    · have : ¬ z3.toInt ≤ z4.toInt := nleI c471
      refine Tot_bind (tfX7_leave_7 z4 u hs_u.1.1 ⟨by omega, by omega⟩) (fun q hq => ?_)
      obtain ⟨r7, u8⟩ := q
      have hc_u8 : StX mdX7_leave_7 u u8 := hq.1
      have hs_u8 : StC mdX7_recall_7 u0 u8 := StC_tr hs_u hc_u8 (by decide) (by decide)
      have : 0 ≤ r7.toInt ∧ r7.toInt ≤ 0 := hq.2.1
      have : (z4 + 1).toInt = z4.toInt + (1 : Int) := addc_t (by decide) (by omega) (by omega)
      exact ih z3 (z4 + 1) u8 hs_u8 ⟨by omega, by omega⟩ ⟨by omega, by omega⟩ (by omega)
set_option maxHeartbeats 400000 in
set_option maxRecDepth 10000 in
theorem cGX7_recall_7_91 (u0 : SX)    (z3 : Int32) (u : SX) (hs_u : StC mdX7_recall_7 u0 u) (h0 : 0 ≤ z3.toInt ∧ z3.toInt ≤ 80) : Tot (GX7_recall_7_91 z3 u) (pX7_recall_7 u0) := by
  unfold GX7_recall_7_91
  refine Tot_lt (fun u10 e_u10 => ?_)
  have hs_u10 : StC mdX7_recall_7 u0 u10 := by rw [e_u10]; exact StC_i hs_u (StX_sI (StC_x hs_u) (by decide) (by show 0 ≤ z3.toInt; omega) (by show z3.toInt ≤ 80; omega)) (by decide)
  have : (u10.1 10).toInt = (u.1 10).toInt := by rw [e_u10]; rfl
  have : 0 ≤ (u.1 10).toInt ∧ (u.1 10).toInt ≤ 12 := hs_u.1.1.1 10
  refine Tot_lt (fun u12 e_u12 => ?_)
  have hs_u12 : StC mdX7_recall_7 u0 u12 := by rw [e_u12]; exact StC_i hs_u10 (StX_sI (StC_x hs_u10) (by decide) (by show 0 ≤ (u10.1 10).toInt; omega) (by show (u10.1 10).toInt ≤ 12; omega)) (by decide)
  have : (u12.1 11).toInt = (u10.1 11).toInt := by rw [e_u12]; rfl
  have : (u10.1 11).toInt = (u.1 11).toInt := by rw [e_u10]; rfl
  have : 0 ≤ (u.1 11).toInt ∧ (u.1 11).toInt ≤ 30 := hs_u.1.1.1 11
  refine Tot_lt (fun u14 e_u14 => ?_)
  have hs_u14 : StC mdX7_recall_7 u0 u14 := by rw [e_u14]; exact StC_i hs_u12 (StX_sI (StC_x hs_u12) (by decide) (by show 0 ≤ (u12.1 11).toInt; omega) (by show (u12.1 11).toInt ≤ 30; omega)) (by decide)
  exact Tot_some ⟨hs_u14, (by show 0 ≤ (0 : Int) ∧ (0 : Int) ≤ 0; omega), trivial⟩
set_option maxHeartbeats 400000 in
set_option maxRecDepth 10000 in
theorem cGX7_recall_7_71 (u0 : SX)    (z3 : Int32) (y0 : Int32) (u : SX) (hs_u : StC mdX7_recall_7 u0 u) (h0 : 0 ≤ z3.toInt ∧ z3.toInt ≤ 80) (h1 : 0 ≤ y0.toInt ∧ y0.toInt ≤ 80) : Tot (GX7_recall_7_71 z3 y0 u) (pX7_recall_7 u0) := by
  unfold GX7_recall_7_71
  exact cLX7_recall_7_73 u0 (cGX7_recall_7_91 u0) 5000 z3 y0 u hs_u ⟨by omega, by omega⟩ ⟨by omega, by omega⟩ (by show 80 - y0.toInt < ((5000 : Nat) : Int); omega)
set_option maxHeartbeats 400000 in
set_option maxRecDepth 10000 in
theorem cGX7_recall_7_41 (u0 : SX)    (z1 : Int32) (y0 : Int32) (u : SX) (hs_u : StC mdX7_recall_7 u0 u) (h0 : 0 ≤ z1.toInt ∧ z1.toInt ≤ 120) (h1 : 0 ≤ y0.toInt ∧ y0.toInt ≤ 1) : Tot (GX7_recall_7_41 z1 y0 u) (pX7_recall_7 u0) := by
  unfold GX7_recall_7_41
  have : 0 ≤ (u.1 13).toInt ∧ (u.1 13).toInt ≤ 80 := hs_u.1.1.1 13
  have : 0 ≤ (u.1 14).toInt ∧ (u.1 14).toInt ≤ 80 := hs_u.1.1.1 14
  refine Tot_bind (tfX11_rowsUpTo_a37 z1 (u.1 13) (u.1 14) u hs_u.1.1 ⟨by omega, by omega⟩ ⟨by omega, by omega⟩ ⟨by omega, by omega⟩) (fun q hq => ?_)
  obtain ⟨r4, u5⟩ := q
  have hc_u5 : StX mdX11_rowsUpTo_a37 u u5 := hq.1
  have hs_u5 : StC mdX7_recall_7 u0 u5 := StC_tr hs_u hc_u5 (by decide) (by decide)
  have : 0 ≤ r4.toInt ∧ r4.toInt ≤ 80 := hq.2.1
  refine Tot_ite (fun c472 => ?_) (fun c472 => ?_)
  · have : y0.toInt = (0 : Int) := eqI c472
    exact cGX7_recall_7_71 u0 r4 0 u5 hs_u5 ⟨by omega, by omega⟩ (by show 0 ≤ (0 : Int) ∧ (0 : Int) ≤ 80; omega)
  · have : ¬ y0.toInt = (0 : Int) := neI c472
    have : (u5.1 14).toInt = (u.1 14).toInt := congrArg Int32.toInt (hc_u5.2.1 14 (by decide))
    exact cGX7_recall_7_71 u0 r4 (u5.1 14) u5 hs_u5 ⟨by omega, by omega⟩ ⟨by omega, by omega⟩
set_option maxHeartbeats 400000 in
set_option maxRecDepth 10000 in
theorem cGX7_recall_7_40 (u0 : SX)    (z1 : Int32) (u : SX) (hs_u : StC mdX7_recall_7 u0 u) (h0 : 0 ≤ z1.toInt ∧ z1.toInt ≤ 120) : Tot (GX7_recall_7_40 z1 u) (pX7_recall_7 u0) := by
  unfold GX7_recall_7_40
  exact cGX7_recall_7_41 u0 z1 0 u hs_u ⟨by omega, by omega⟩ (by show 0 ≤ (0 : Int) ∧ (0 : Int) ≤ 1; omega)
set_option maxHeartbeats 400000 in
set_option maxRecDepth 10000 in
theorem cfX7_recall_7 (x1 : Int32) (u : SX) (hI : IC u) (h0 : 0 ≤ x1.toInt ∧ x1.toInt ≤ 120) : Tot (fX7_recall_7 x1 u) (pX7_recall_7 u) := by
  unfold fX7_recall_7
  have hs_u : StC mdX7_recall_7 u u := StC_rf hI
  refine Tot_bind (cfX6_recall_6 x1 u hs_u.1 ⟨by omega, by omega⟩) (fun q hq => ?_)
  obtain ⟨r1, u2⟩ := q
  have hc_u2 : StC mdX6_recall_6 u u2 := hq.1
  have hs_u2 : StC mdX7_recall_7 u u2 := StC_tc hs_u hc_u2 (by decide)
  have : 0 ≤ r1.toInt ∧ r1.toInt ≤ 0 := hq.2.1
  have : (u2.1 15).toInt = (u.1 15).toInt := congrArg Int32.toInt (hc_u2.2.1 15 (by decide))
  have : 0 ≤ (u.1 15).toInt ∧ (u.1 15).toInt ≤ 12 := hs_u.1.1.1 15
  have : 0 ≤ (u2.1 10).toInt ∧ (u2.1 10).toInt ≤ 12 := hs_u2.1.1.1 10
  refine Tot_ite (fun c473 => ?_) (fun c473 => ?_)
  · have : (u2.1 15).toInt = (u2.1 10).toInt := eqI c473
    have : (u2.1 16).toInt = (u.1 16).toInt := congrArg Int32.toInt (hc_u2.2.1 16 (by decide))
    have : 0 ≤ (u.1 16).toInt ∧ (u.1 16).toInt ≤ 30 := hs_u.1.1.1 16
    have : 0 ≤ (u2.1 11).toInt ∧ (u2.1 11).toInt ≤ 30 := hs_u2.1.1.1 11
    refine Tot_ite (fun c474 => ?_) (fun c474 => ?_)
    · have : (u2.1 16).toInt = (u2.1 11).toInt := eqI c474
      exact cGX7_recall_7_41 u x1 1 u2 hs_u2 ⟨by omega, by omega⟩ (by show 0 ≤ (1 : Int) ∧ (1 : Int) ≤ 1; omega)
    · exact cGX7_recall_7_40 u x1 u2 hs_u2 ⟨by omega, by omega⟩
  · exact cGX7_recall_7_40 u x1 u2 hs_u2 ⟨by omega, by omega⟩

abbrev pX11_left_0 (u : SX) (q : Int32 × SX) : Prop := StC mdX11_left_0 u q.2 ∧ (True) ∧ (True)
set_option maxHeartbeats 400000 in
set_option maxRecDepth 10000 in
theorem cfX11_left_0 (x1 : Int32) (x2 : Int32) (x3 : Int32) (u : SX) (hI : IC u)  : Tot (fX11_left_0 x1 x2 x3 u) (pX11_left_0 u) := by
  unfold fX11_left_0
  have hs_u : StC mdX11_left_0 u u := StC_rf hI
  refine Tot_bind (tfX11_isDay_0 x2 u hs_u.1.1) (fun q hq => ?_)
  obtain ⟨r1, u2⟩ := q
  have hc_u2 : StX mdX11_isDay_0 u u2 := hq.1
  have hs_u2 : StC mdX11_left_0 u u2 := StC_tr hs_u hc_u2 (by decide) (by decide)
  have : 0 ≤ r1.toInt ∧ r1.toInt ≤ 1 := hq.2.1
  have : 0 ≤ (u.1 0).toInt ∧ (u.1 0).toInt ≤ 120 := hs_u.1.1.1 0
  have : r1.toInt ≠ 0 → ((0 : Int) ≤ x2.toInt ∧ x2.toInt ≤ (u.1 0).toInt) := hq.2.2
  refine Tot_ite (fun c475 => ?_) (fun c475 => ?_)
  · have : r1.toInt = (0 : Int) := eqI c475
    exact Tot_some ⟨hs_u2, trivial, trivial⟩
  · have : ¬ r1.toInt = (0 : Int) := neI c475
    refine Tot_bind (tfX11_isEither x3) (fun r4 hq => ?_)
    have : 0 ≤ r4.toInt ∧ r4.toInt ≤ 1 := hq.1
    have : r4.toInt ≠ 0 → ((0 : Int) ≤ x3.toInt ∧ x3.toInt ≤ (1 : Int)) := hq.2
    refine Tot_ite (fun c476 => ?_) (fun c476 => ?_)
    · have : r4.toInt = (0 : Int) := eqI c476
      exact Tot_some ⟨hs_u2, trivial, trivial⟩
    · have : ¬ r4.toInt = (0 : Int) := neI c476
      refine Tot_bind (tfX7_has_7 x1 u2 hs_u2.1.1) (fun q hq => ?_)
      obtain ⟨r7, u8⟩ := q
      have hc_u8 : StX mdX7_has_7 u2 u8 := hq.1
      have hs_u8 : StC mdX11_left_0 u u8 := StC_tr hs_u2 hc_u8 (by decide) (by decide)
      have : 0 ≤ r7.toInt ∧ r7.toInt ≤ 1 := hq.2.1
      have : (u2.1 13).toInt = (u.1 13).toInt := congrArg Int32.toInt (hc_u2.2.1 13 (by decide))
      have : 0 ≤ (u.1 13).toInt ∧ (u.1 13).toInt ≤ 80 := hs_u.1.1.1 13
      have : r7.toInt ≠ 0 → ((0 : Int) ≤ x1.toInt ∧ x1.toInt < (u2.1 13).toInt) := hq.2.2
      refine Tot_ite (fun c477 => ?_) (fun c477 => ?_)
      · have : r7.toInt = (0 : Int) := eqI c477
        exact Tot_some ⟨hs_u8, trivial, trivial⟩
      · have : ¬ r7.toInt = (0 : Int) := neI c477
        refine Tot_gd (inb_t (by omega) (by omega)) ?_
        have : 0 ≤ (u8.2.1 37 x1.toNatClampNeg).toInt ∧ (u8.2.1 37 x1.toNatClampNeg).toInt ≤ 120 := hs_u8.1.1.2.1 37 x1.toNatClampNeg
        refine Tot_ite (fun c478 => ?_) (fun c478 => ?_)
        · have : (u8.2.1 37 x1.toNatClampNeg).toInt ≤ x2.toInt := leI c478
          refine Tot_bind (cfX7_recall_7 x2 u8 hs_u8.1 ⟨by omega, by omega⟩) (fun q hq => ?_)
          obtain ⟨r11, u12⟩ := q
          have hc_u12 : StC mdX7_recall_7 u8 u12 := hq.1
          have hs_u12 : StC mdX11_left_0 u u12 := StC_tc hs_u8 hc_u12 (by decide)
          have : 0 ≤ r11.toInt ∧ r11.toInt ≤ 0 := hq.2.1
          refine Tot_ite (fun c479 => ?_) (fun c479 => ?_)
          · have : x3.toInt = (0 : Int) := eqI c479
            refine Tot_gd (inb_t (by omega) (by omega)) ?_
            exact Tot_some ⟨hs_u12, trivial, trivial⟩
          · have : ¬ x3.toInt = (0 : Int) := neI c479
            refine Tot_gd (inb_t (by omega) (by omega)) ?_
            exact Tot_some ⟨hs_u12, trivial, trivial⟩
        · have : ¬ (u8.2.1 37 x1.toNatClampNeg).toInt ≤ x2.toInt := nleI c478
          exact Tot_some ⟨hs_u8, trivial, trivial⟩

abbrev pX11_most_0 (u : SX) (q : Int32 × SX) : Prop := StC mdX11_most_0 u q.2 ∧ ((-1) ≤ q.1.toInt ∧ q.1.toInt ≤ 11) ∧ (True)
set_option maxHeartbeats 400000 in
set_option maxRecDepth 10000 in
theorem cfX11_most_0 (x1 : Int32) (x2 : Int32) (u : SX) (hI : IC u)  : Tot (fX11_most_0 x1 x2 u) (pX11_most_0 u) := by
  unfold fX11_most_0
  have hs_u : StC mdX11_most_0 u u := StC_rf hI
  refine Tot_bind (tfX11_isDay_0 x2 u hs_u.1.1) (fun q hq => ?_)
  obtain ⟨r1, u2⟩ := q
  have hc_u2 : StX mdX11_isDay_0 u u2 := hq.1
  have hs_u2 : StC mdX11_most_0 u u2 := StC_tr hs_u hc_u2 (by decide) (by decide)
  have : 0 ≤ r1.toInt ∧ r1.toInt ≤ 1 := hq.2.1
  have : 0 ≤ (u.1 0).toInt ∧ (u.1 0).toInt ≤ 120 := hs_u.1.1.1 0
  have : r1.toInt ≠ 0 → ((0 : Int) ≤ x2.toInt ∧ x2.toInt ≤ (u.1 0).toInt) := hq.2.2
  refine Tot_ite (fun c502 => ?_) (fun c502 => ?_)
  · have : r1.toInt = (0 : Int) := eqI c502
    exact Tot_some ⟨hs_u2, (by show (-1) ≤ (-1 : Int) ∧ (-1 : Int) ≤ 11; omega), trivial⟩
  · have : ¬ r1.toInt = (0 : Int) := neI c502
    refine Tot_bind (tfX7_has_7 x1 u2 hs_u2.1.1) (fun q hq => ?_)
    obtain ⟨r4, u5⟩ := q
    have hc_u5 : StX mdX7_has_7 u2 u5 := hq.1
    have hs_u5 : StC mdX11_most_0 u u5 := StC_tr hs_u2 hc_u5 (by decide) (by decide)
    have : 0 ≤ r4.toInt ∧ r4.toInt ≤ 1 := hq.2.1
    have : (u2.1 13).toInt = (u.1 13).toInt := congrArg Int32.toInt (hc_u2.2.1 13 (by decide))
    have : 0 ≤ (u.1 13).toInt ∧ (u.1 13).toInt ≤ 80 := hs_u.1.1.1 13
    have : r4.toInt ≠ 0 → ((0 : Int) ≤ x1.toInt ∧ x1.toInt < (u2.1 13).toInt) := hq.2.2
    refine Tot_ite (fun c503 => ?_) (fun c503 => ?_)
    · have : r4.toInt = (0 : Int) := eqI c503
      exact Tot_some ⟨hs_u5, (by show (-1) ≤ (-1 : Int) ∧ (-1 : Int) ≤ 11; omega), trivial⟩
    · have : ¬ r4.toInt = (0 : Int) := neI c503
      refine Tot_bind (cfX6_recall_6 x2 u5 hs_u5.1 ⟨by omega, by omega⟩) (fun q hq => ?_)
      obtain ⟨r7, u8⟩ := q
      have hc_u8 : StC mdX6_recall_6 u5 u8 := hq.1
      have hs_u8 : StC mdX11_most_0 u u8 := StC_tc hs_u5 hc_u8 (by decide)
      have : 0 ≤ r7.toInt ∧ r7.toInt ≤ 0 := hq.2.1
      refine Tot_bind (tfX7_widestPart_7 x1 u8 hs_u8.1.1 ⟨by omega, by omega⟩) (fun q hq => ?_)
      obtain ⟨r10, u11⟩ := q
      have hc_u11 : StX mdX7_widestPart_7 u8 u11 := hq.1
      have hs_u11 : StC mdX11_most_0 u u11 := StC_tr hs_u8 hc_u11 (by decide) (by decide)
      have : (-1) ≤ r10.toInt ∧ r10.toInt ≤ 11 := hq.2.1
      exact Tot_some ⟨hs_u11, (by show (-1) ≤ r10.toInt ∧ r10.toInt ≤ 11; omega), trivial⟩

abbrev pX11_alike_0 (u : SX) (q : Int32 × SX) : Prop := StC mdX11_alike_0 u q.2 ∧ (True) ∧ (True)
set_option maxHeartbeats 400000 in
set_option maxRecDepth 10000 in
theorem cfX11_alike_0 (x1 : Int32) (x2 : Int32) (u : SX) (hI : IC u)  : Tot (fX11_alike_0 x1 x2 u) (pX11_alike_0 u) := by
  unfold fX11_alike_0
  have hs_u : StC mdX11_alike_0 u u := StC_rf hI
  refine Tot_bind (tfX11_isDay_0 x1 u hs_u.1.1) (fun q hq => ?_)
  obtain ⟨r1, u2⟩ := q
  have hc_u2 : StX mdX11_isDay_0 u u2 := hq.1
  have hs_u2 : StC mdX11_alike_0 u u2 := StC_tr hs_u hc_u2 (by decide) (by decide)
  have : 0 ≤ r1.toInt ∧ r1.toInt ≤ 1 := hq.2.1
  have : 0 ≤ (u.1 0).toInt ∧ (u.1 0).toInt ≤ 120 := hs_u.1.1.1 0
  have : r1.toInt ≠ 0 → ((0 : Int) ≤ x1.toInt ∧ x1.toInt ≤ (u.1 0).toInt) := hq.2.2
  refine Tot_ite (fun c507 => ?_) (fun c507 => ?_)
  · have : r1.toInt = (0 : Int) := eqI c507
    exact Tot_some ⟨hs_u2, trivial, trivial⟩
  · have : ¬ r1.toInt = (0 : Int) := neI c507
    refine Tot_bind (tfX11_isEither x2) (fun r4 hq => ?_)
    have : 0 ≤ r4.toInt ∧ r4.toInt ≤ 1 := hq.1
    have : r4.toInt ≠ 0 → ((0 : Int) ≤ x2.toInt ∧ x2.toInt ≤ (1 : Int)) := hq.2
    refine Tot_ite (fun c508 => ?_) (fun c508 => ?_)
    · have : r4.toInt = (0 : Int) := eqI c508
      exact Tot_some ⟨hs_u2, trivial, trivial⟩
    · have : ¬ r4.toInt = (0 : Int) := neI c508
      refine Tot_bind (cfX7_recall_7 x1 u2 hs_u2.1 ⟨by omega, by omega⟩) (fun q hq => ?_)
      obtain ⟨r7, u8⟩ := q
      have hc_u8 : StC mdX7_recall_7 u2 u8 := hq.1
      have hs_u8 : StC mdX11_alike_0 u u8 := StC_tc hs_u2 hc_u8 (by decide)
      have : 0 ≤ r7.toInt ∧ r7.toInt ≤ 0 := hq.2.1
      refine Tot_bind (tfX1_compare_8 u8 hs_u8.1.1) (fun q hq => ?_)
      obtain ⟨r10, u11⟩ := q
      have hc_u11 : StX mdX1_compare_8 u8 u11 := hq.1
      have hs_u11 : StC mdX11_alike_0 u u11 := StC_tr hs_u8 hc_u11 (by decide) (by decide)
      have : 0 ≤ r10.toInt ∧ r10.toInt ≤ 1 := hq.2.1
      refine Tot_ite (fun c509 => ?_) (fun c509 => ?_)
      · have : r10.toInt = (0 : Int) := eqI c509
        exact Tot_some ⟨hs_u11, trivial, trivial⟩
      · have : ¬ r10.toInt = (0 : Int) := neI c509
        refine Tot_ite (fun c510 => ?_) (fun c510 => ?_)
        · have : x2.toInt = (0 : Int) := eqI c510
          exact Tot_some ⟨hs_u11, trivial, trivial⟩
        · have : ¬ x2.toInt = (0 : Int) := neI c510
          exact Tot_some ⟨hs_u11, trivial, trivial⟩

abbrev pX11_goes_0 (u : SX) (q : Int32 × SX) : Prop := StC mdX11_goes_0 u q.2 ∧ (True) ∧ (True)
set_option maxHeartbeats 400000 in
set_option maxRecDepth 10000 in
theorem cfX11_goes_0 (x1 : Int32) (x2 : Int32) (u : SX) (hI : IC u)  : Tot (fX11_goes_0 x1 x2 u) (pX11_goes_0 u) := by
  unfold fX11_goes_0
  have hs_u : StC mdX11_goes_0 u u := StC_rf hI
  refine Tot_bind (tfX11_isDay_0 x1 u hs_u.1.1) (fun q hq => ?_)
  obtain ⟨r1, u2⟩ := q
  have hc_u2 : StX mdX11_isDay_0 u u2 := hq.1
  have hs_u2 : StC mdX11_goes_0 u u2 := StC_tr hs_u hc_u2 (by decide) (by decide)
  have : 0 ≤ r1.toInt ∧ r1.toInt ≤ 1 := hq.2.1
  have : 0 ≤ (u.1 0).toInt ∧ (u.1 0).toInt ≤ 120 := hs_u.1.1.1 0
  have : r1.toInt ≠ 0 → ((0 : Int) ≤ x1.toInt ∧ x1.toInt ≤ (u.1 0).toInt) := hq.2.2
  refine Tot_ite (fun c557 => ?_) (fun c557 => ?_)
  · have : r1.toInt = (0 : Int) := eqI c557
    exact Tot_some ⟨hs_u2, trivial, trivial⟩
  · have : ¬ r1.toInt = (0 : Int) := neI c557
    refine Tot_bind (tfX11_within x2 0 5) (fun r4 hq => ?_)
    have : 0 ≤ r4.toInt ∧ r4.toInt ≤ 1 := hq.1
    have : r4.toInt ≠ 0 → ((0 : Int) ≤ x2.toInt ∧ x2.toInt ≤ (5 : Int)) := hq.2
    refine Tot_ite (fun c558 => ?_) (fun c558 => ?_)
    · have : r4.toInt = (0 : Int) := eqI c558
      exact Tot_some ⟨hs_u2, trivial, trivial⟩
    · have : ¬ r4.toInt = (0 : Int) := neI c558
      refine Tot_bind (cfX7_recall_7 x1 u2 hs_u2.1 ⟨by omega, by omega⟩) (fun q hq => ?_)
      obtain ⟨r7, u8⟩ := q
      have hc_u8 : StC mdX7_recall_7 u2 u8 := hq.1
      have hs_u8 : StC mdX11_goes_0 u u8 := StC_tc hs_u2 hc_u8 (by decide)
      have : 0 ≤ r7.toInt ∧ r7.toInt ≤ 0 := hq.2.1
      refine Tot_bind (tfX1_meansBy_8 x2 u8 hs_u8.1.1 ⟨by omega, by omega⟩) (fun q hq => ?_)
      obtain ⟨r10, u11⟩ := q
      have hc_u11 : StX mdX1_meansBy_8 u8 u11 := hq.1
      have hs_u11 : StC mdX11_goes_0 u u11 := StC_tr hs_u8 hc_u11 (by decide) (by decide)
      refine Tot_ite (fun c559 => ?_) (fun c559 => ?_)
      · have : r10.toInt = (0 : Int) := eqI c559
        exact Tot_some ⟨hs_u11, trivial, trivial⟩
      · refine Tot_bind (tfX1_distance_8 u11 hs_u11.1.1) (fun q hq => ?_)
        obtain ⟨r13, u14⟩ := q
        have hc_u14 : StX mdX1_distance_8 u11 u14 := hq.1
        have hs_u14 : StC mdX11_goes_0 u u14 := StC_tr hs_u11 hc_u14 (by decide) (by decide)
        exact Tot_some ⟨hs_u14, trivial, trivial⟩

abbrev pX11_could_0 (u : SX) (q : Int32 × SX) : Prop := StC mdX11_could_0 u q.2 ∧ ((-1) ≤ q.1.toInt ∧ q.1.toInt ≤ 401) ∧ (True)
set_option maxHeartbeats 400000 in
set_option maxRecDepth 10000 in
theorem cfX11_could_0 (x1 : Int32) (x2 : Int32) (x3 : Int32) (u : SX) (hI : IC u)  : Tot (fX11_could_0 x1 x2 x3 u) (pX11_could_0 u) := by
  unfold fX11_could_0
  have hs_u : StC mdX11_could_0 u u := StC_rf hI
  refine Tot_bind (tfX11_isDay_0 x2 u hs_u.1.1) (fun q hq => ?_)
  obtain ⟨r1, u2⟩ := q
  have hc_u2 : StX mdX11_isDay_0 u u2 := hq.1
  have hs_u2 : StC mdX11_could_0 u u2 := StC_tr hs_u hc_u2 (by decide) (by decide)
  have : 0 ≤ r1.toInt ∧ r1.toInt ≤ 1 := hq.2.1
  have : 0 ≤ (u.1 0).toInt ∧ (u.1 0).toInt ≤ 120 := hs_u.1.1.1 0
  have : r1.toInt ≠ 0 → ((0 : Int) ≤ x2.toInt ∧ x2.toInt ≤ (u.1 0).toInt) := hq.2.2
  refine Tot_ite (fun c581 => ?_) (fun c581 => ?_)
  · have : r1.toInt = (0 : Int) := eqI c581
    exact Tot_some ⟨hs_u2, (by show (-1) ≤ (-1 : Int) ∧ (-1 : Int) ≤ 401; omega), trivial⟩
  · have : ¬ r1.toInt = (0 : Int) := neI c581
    refine Tot_bind (tfX11_isEither x3) (fun r4 hq => ?_)
    have : 0 ≤ r4.toInt ∧ r4.toInt ≤ 1 := hq.1
    have : r4.toInt ≠ 0 → ((0 : Int) ≤ x3.toInt ∧ x3.toInt ≤ (1 : Int)) := hq.2
    refine Tot_ite (fun c582 => ?_) (fun c582 => ?_)
    · have : r4.toInt = (0 : Int) := eqI c582
      exact Tot_some ⟨hs_u2, (by show (-1) ≤ (-1 : Int) ∧ (-1 : Int) ≤ 401; omega), trivial⟩
    · have : ¬ r4.toInt = (0 : Int) := neI c582
      refine Tot_bind (tfX6_has_6 x1 u2 hs_u2.1.1) (fun q hq => ?_)
      obtain ⟨r7, u8⟩ := q
      have hc_u8 : StX mdX6_has_6 u2 u8 := hq.1
      have hs_u8 : StC mdX11_could_0 u u8 := StC_tr hs_u2 hc_u8 (by decide) (by decide)
      have : 0 ≤ r7.toInt ∧ r7.toInt ≤ 1 := hq.2.1
      have : (u2.1 8).toInt = (u.1 8).toInt := congrArg Int32.toInt (hc_u2.2.1 8 (by decide))
      have : 0 ≤ (u.1 8).toInt ∧ (u.1 8).toInt ≤ 12 := hs_u.1.1.1 8
      have : r7.toInt ≠ 0 → ((0 : Int) ≤ x1.toInt ∧ x1.toInt < (u2.1 8).toInt) := hq.2.2
      refine Tot_ite (fun c583 => ?_) (fun c583 => ?_)
      · have : r7.toInt = (0 : Int) := eqI c583
        exact Tot_some ⟨hs_u8, (by show (-1) ≤ (-1 : Int) ∧ (-1 : Int) ≤ 401; omega), trivial⟩
      · have : ¬ r7.toInt = (0 : Int) := neI c583
        refine Tot_gd (inb_t (by omega) (by omega)) ?_
        have : 0 ≤ (u8.2.1 25 x1.toNatClampNeg).toInt ∧ (u8.2.1 25 x1.toNatClampNeg).toInt ≤ 120 := hs_u8.1.1.2.1 25 x1.toNatClampNeg
        refine Tot_ite (fun c584 => ?_) (fun c584 => ?_)
        · have : (u8.2.1 25 x1.toNatClampNeg).toInt ≤ x2.toInt := leI c584
          refine Tot_bind (cfX7_recall_7 x2 u8 hs_u8.1 ⟨by omega, by omega⟩) (fun q hq => ?_)
          obtain ⟨r11, u12⟩ := q
          have hc_u12 : StC mdX7_recall_7 u8 u12 := hq.1
          have hs_u12 : StC mdX11_could_0 u u12 := StC_tc hs_u8 hc_u12 (by decide)
          have : 0 ≤ r11.toInt ∧ r11.toInt ≤ 0 := hq.2.1
          refine Tot_bind (tfX0_narrowDown_9 x1 u12 hs_u12.1.1 ⟨by omega, by omega⟩) (fun q hq => ?_)
          obtain ⟨r14, u15⟩ := q
          have hc_u15 : StX mdX0_narrowDown_9 u12 u15 := hq.1
          have hs_u15 : StC mdX11_could_0 u u15 := StC_tr hs_u12 hc_u15 (by decide) (by decide)
          have : 0 ≤ r14.toInt ∧ r14.toInt ≤ 1 := hq.2.1
          refine Tot_ite (fun c585 => ?_) (fun c585 => ?_)
          · have : r14.toInt = (0 : Int) := eqI c585
            exact Tot_some ⟨hs_u15, (by show (-1) ≤ (-1 : Int) ∧ (-1 : Int) ≤ 401; omega), trivial⟩
          · have : ¬ r14.toInt = (0 : Int) := neI c585
            refine Tot_ite (fun c586 => ?_) (fun c586 => ?_)
            · have : x3.toInt = (0 : Int) := eqI c586
              have : 0 ≤ (u15.1 24).toInt ∧ (u15.1 24).toInt ≤ 401 := hs_u15.1.1.1 24
              exact Tot_some ⟨hs_u15, (by show (-1) ≤ (u15.1 24).toInt ∧ (u15.1 24).toInt ≤ 401; omega), trivial⟩
            · have : ¬ x3.toInt = (0 : Int) := neI c586
              have : (-1) ≤ (u15.1 25).toInt ∧ (u15.1 25).toInt ≤ 400 := hs_u15.1.1.1 25
              exact Tot_some ⟨hs_u15, (by show (-1) ≤ (u15.1 25).toInt ∧ (u15.1 25).toInt ≤ 401; omega), trivial⟩
        · have : ¬ (u8.2.1 25 x1.toNatClampNeg).toInt ≤ x2.toInt := nleI c584
          exact Tot_some ⟨hs_u8, (by show (-1) ≤ (-1 : Int) ∧ (-1 : Int) ≤ 401; omega), trivial⟩

abbrev pX11_sets_0 (u : SX) (q : Int32 × SX) : Prop := StC mdX11_sets_0 u q.2 ∧ (True) ∧ (True)
set_option maxHeartbeats 400000 in
set_option maxRecDepth 10000 in
theorem cfX11_sets_0 (x1 : Int32) (u : SX) (hI : IC u)  : Tot (fX11_sets_0 x1 u) (pX11_sets_0 u) := by
  unfold fX11_sets_0
  have hs_u : StC mdX11_sets_0 u u := StC_rf hI
  refine Tot_bind (tfX11_isDay_0 x1 u hs_u.1.1) (fun q hq => ?_)
  obtain ⟨r1, u2⟩ := q
  have hc_u2 : StX mdX11_isDay_0 u u2 := hq.1
  have hs_u2 : StC mdX11_sets_0 u u2 := StC_tr hs_u hc_u2 (by decide) (by decide)
  have : 0 ≤ r1.toInt ∧ r1.toInt ≤ 1 := hq.2.1
  have : 0 ≤ (u.1 0).toInt ∧ (u.1 0).toInt ≤ 120 := hs_u.1.1.1 0
  have : r1.toInt ≠ 0 → ((0 : Int) ≤ x1.toInt ∧ x1.toInt ≤ (u.1 0).toInt) := hq.2.2
  refine Tot_ite (fun c672 => ?_) (fun c672 => ?_)
  · have : r1.toInt = (0 : Int) := eqI c672
    exact Tot_some ⟨hs_u2, trivial, trivial⟩
  · have : ¬ r1.toInt = (0 : Int) := neI c672
    refine Tot_bind (cfX7_recall_7 x1 u2 hs_u2.1 ⟨by omega, by omega⟩) (fun q hq => ?_)
    obtain ⟨r4, u5⟩ := q
    have hc_u5 : StC mdX7_recall_7 u2 u5 := hq.1
    have hs_u5 : StC mdX11_sets_0 u u5 := StC_tc hs_u2 hc_u5 (by decide)
    have : 0 ≤ r4.toInt ∧ r4.toInt ≤ 0 := hq.2.1
    refine Tot_bind (tfX0_fewest_9 u5 hs_u5.1.1) (fun q hq => ?_)
    obtain ⟨r7, u8⟩ := q
    have hc_u8 : StX mdX0_fewest_9 u5 u8 := hq.1
    have hs_u8 : StC mdX11_sets_0 u u8 := StC_tr hs_u5 hc_u8 (by decide) (by decide)
    exact Tot_some ⟨hs_u8, trivial, trivial⟩

abbrev pX3_startRow_10 (u : SX) (q : Int32 × SX) : Prop := StC mdX3_startRow_10 u q.2 ∧ (0 ≤ q.1.toInt ∧ q.1.toInt ≤ 0) ∧ (True)
set_option maxHeartbeats 400000 in
set_option maxRecDepth 10000 in
theorem cLX3_startRow_10_20 (u0 : SX)    : ∀ (n : Nat) (z3 : Int32) (u : SX), (StC mdX3_startRow_10 u0 u) → (0 ≤ z3.toInt ∧ z3.toInt ≤ 12) → (12 - z3.toInt < (n : Int)) → Tot (LX3_startRow_10_20 n z3 u) (pX3_startRow_10 u0) := by
  intro n
  induction n with
  | zero =>
    intro z3 u hs_u h0 hm
    exfalso
    omega
  | succ n ih =>
    intro z3 u hs_u h0 hm
    rw [LX3_startRow_10_20]
    have : 0 ≤ (u.1 10).toInt ∧ (u.1 10).toInt ≤ 12 := hs_u.1.1.1 10
    refine Tot_ite (fun c717 => ?_) (fun c717 => ?_)
    · have : (u.1 10).toInt ≤ z3.toInt := leI c717
      exact Tot_some ⟨hs_u, (by show 0 ≤ (0 : Int) ∧ (0 : Int) ≤ 0; omega), trivial⟩
    · have : ¬ (u.1 10).toInt ≤ z3.toInt := nleI c717
      refine Tot_gd (inb_t (by omega) (by omega)) ?_
      refine Tot_gd (inb_t (by omega) (by omega)) ?_
      have : 0 ≤ (u.2.1 27 z3.toNatClampNeg).toInt ∧ (u.2.1 27 z3.toNatClampNeg).toInt ≤ 400 := hs_u.1.1.2.1 27 z3.toNatClampNeg
      refine Tot_lt (fun u10 e_u10 => ?_)
      have hs_u10 : StC mdX3_startRow_10 u0 u10 := by rw [e_u10]; exact StC_a hs_u (StX_sA (StC_x hs_u) (by decide) (by show 0 ≤ (u.2.1 27 z3.toNatClampNeg).toInt; omega) (by show (u.2.1 27 z3.toNatClampNeg).toInt ≤ 400; omega) (by decide)) (by decide)
      refine Tot_gd (inb_t (by omega) (by omega)) ?_
      refine Tot_gd (inb_t (by omega) (by omega)) ?_
      have : 0 ≤ (u10.2.1 28 z3.toNatClampNeg).toInt ∧ (u10.2.1 28 z3.toNatClampNeg).toInt ≤ 400 := hs_u10.1.1.2.1 28 z3.toNatClampNeg
      refine Tot_lt (fun u14 e_u14 => ?_)
      have hs_u14 : StC mdX3_startRow_10 u0 u14 := by rw [e_u14]; exact StC_a hs_u10 (StX_sA (StC_x hs_u10) (by decide) (by show 0 ≤ (u10.2.1 28 z3.toNatClampNeg).toInt; omega) (by show (u10.2.1 28 z3.toNatClampNeg).toInt ≤ 400; omega) (by decide)) (by decide)
      refine Tot_bind (tfX3_rowSpread_10 z3 u14 hs_u14.1.1 ⟨by omega, by omega⟩) (fun q hq => ?_)
      obtain ⟨r16, u17⟩ := q
      have hc_u17 : StX mdX3_rowSpread_10 u14 u17 := hq.1
      have hs_u17 : StC mdX3_startRow_10 u0 u17 := StC_tr hs_u14 hc_u17 (by decide) (by decide)
      refine Tot_lt (fun u19 e_u19 => ?_)
      have hs_u19 : StC mdX3_startRow_10 u0 u19 := by rw [e_u19]; exact StC_i hs_u17 (StX_sIf (StC_x hs_u17) (by decide) rfl rfl) (by decide)
      have : (z3 + 1).toInt = z3.toInt + (1 : Int) := addc_t (by decide) (by omega) (by omega)
      exact ih (z3 + 1) u19 hs_u19 ⟨by omega, by omega⟩ (by omega)
set_option maxHeartbeats 400000 in
set_option maxRecDepth 10000 in
theorem cfX3_startRow_10 (x1 : Int32) (x2 : Int32) (u : SX) (hI : IC u) (h0 : 0 ≤ x1.toInt ∧ x1.toInt ≤ 79) (h1 : 0 ≤ x2.toInt ∧ x2.toInt ≤ 120) : Tot (fX3_startRow_10 x1 x2 u) (pX3_startRow_10 u) := by
  unfold fX3_startRow_10
  have hs_u : StC mdX3_startRow_10 u u := StC_rf hI
  refine Tot_bind (cfX6_recall_6 x2 u hs_u.1 ⟨by omega, by omega⟩) (fun q hq => ?_)
  obtain ⟨r1, u2⟩ := q
  have hc_u2 : StC mdX6_recall_6 u u2 := hq.1
  have hs_u2 : StC mdX3_startRow_10 u u2 := StC_tc hs_u hc_u2 (by decide)
  have : 0 ≤ r1.toInt ∧ r1.toInt ≤ 0 := hq.2.1
  refine Tot_lt (fun u4 e_u4 => ?_)
  have hs_u4 : StC mdX3_startRow_10 u u4 := by rw [e_u4]; exact StC_i hs_u2 (StX_sI (StC_x hs_u2) (by decide) (by show 0 ≤ x1.toInt; omega) (by show x1.toInt ≤ 79; omega)) (by decide)
  refine Tot_lt (fun u6 e_u6 => ?_)
  have hs_u6 : StC mdX3_startRow_10 u u6 := by rw [e_u6]; exact StC_i hs_u4 (StX_sIf (StC_x hs_u4) (by decide) rfl rfl) (by decide)
  exact cLX3_startRow_10_20 u 5000 0 u6 hs_u6 (by show 0 ≤ (0 : Int) ∧ (0 : Int) ≤ 12; omega) (by show 12 - (0 : Int) < ((5000 : Nat) : Int); omega)

abbrev pX11_plan_0 (u : SX) (q : Int32 × SX) : Prop := StC mdX11_plan_0 u q.2 ∧ (True) ∧ (True)
set_option maxHeartbeats 400000 in
set_option maxRecDepth 10000 in
theorem cfX11_plan_0 (x1 : Int32) (x2 : Int32) (x3 : Int32) (u : SX) (hI : IC u)  : Tot (fX11_plan_0 x1 x2 x3 u) (pX11_plan_0 u) := by
  unfold fX11_plan_0
  have hs_u : StC mdX11_plan_0 u u := StC_rf hI
  refine Tot_bind (tfX7_has_7 x1 u hs_u.1.1) (fun q hq => ?_)
  obtain ⟨r1, u2⟩ := q
  have hc_u2 : StX mdX7_has_7 u u2 := hq.1
  have hs_u2 : StC mdX11_plan_0 u u2 := StC_tr hs_u hc_u2 (by decide) (by decide)
  have : 0 ≤ r1.toInt ∧ r1.toInt ≤ 1 := hq.2.1
  have : 0 ≤ (u.1 13).toInt ∧ (u.1 13).toInt ≤ 80 := hs_u.1.1.1 13
  have : r1.toInt ≠ 0 → ((0 : Int) ≤ x1.toInt ∧ x1.toInt < (u.1 13).toInt) := hq.2.2
  refine Tot_ite (fun c726 => ?_) (fun c726 => ?_)
  · have : r1.toInt = (0 : Int) := eqI c726
    exact Tot_some ⟨hs_u2, trivial, trivial⟩
  · have : ¬ r1.toInt = (0 : Int) := neI c726
    refine Tot_bind (tfX11_within x2 0 500) (fun r4 hq => ?_)
    have : 0 ≤ r4.toInt ∧ r4.toInt ≤ 1 := hq.1
    have : r4.toInt ≠ 0 → ((0 : Int) ≤ x2.toInt ∧ x2.toInt ≤ (500 : Int)) := hq.2
    refine Tot_ite (fun c727 => ?_) (fun c727 => ?_)
    · have : r4.toInt = (0 : Int) := eqI c727
      exact Tot_some ⟨hs_u2, trivial, trivial⟩
    · have : ¬ r4.toInt = (0 : Int) := neI c727
      refine Tot_bind (tfX11_isEither x3) (fun r7 hq => ?_)
      have : 0 ≤ r7.toInt ∧ r7.toInt ≤ 1 := hq.1
      have : r7.toInt ≠ 0 → ((0 : Int) ≤ x3.toInt ∧ x3.toInt ≤ (1 : Int)) := hq.2
      refine Tot_ite (fun c728 => ?_) (fun c728 => ?_)
      · have : r7.toInt = (0 : Int) := eqI c728
        exact Tot_some ⟨hs_u2, trivial, trivial⟩
      · have : ¬ r7.toInt = (0 : Int) := neI c728
        have : (u2.1 0).toInt = (u.1 0).toInt := congrArg Int32.toInt (hc_u2.2.1 0 (by decide))
        have : 0 ≤ (u.1 0).toInt ∧ (u.1 0).toInt ≤ 120 := hs_u.1.1.1 0
        refine Tot_bind (cfX3_startRow_10 x1 (u2.1 0) u2 hs_u2.1 ⟨by omega, by omega⟩ ⟨by omega, by omega⟩) (fun q hq => ?_)
        obtain ⟨r10, u11⟩ := q
        have hc_u11 : StC mdX3_startRow_10 u2 u11 := hq.1
        have hs_u11 : StC mdX11_plan_0 u u11 := StC_tc hs_u2 hc_u11 (by decide)
        have : 0 ≤ r10.toInt ∧ r10.toInt ≤ 0 := hq.2.1
        refine Tot_bind (tfX3_search_10 x2 u11 hs_u11.1.1 ⟨by omega, by omega⟩) (fun q hq => ?_)
        obtain ⟨r13, u14⟩ := q
        have hc_u14 : StX mdX3_search_10 u11 u14 := hq.1
        have hs_u14 : StC mdX11_plan_0 u u14 := StC_tr hs_u11 hc_u14 (by decide) (by decide)
        have : 0 ≤ r13.toInt ∧ r13.toInt ≤ 0 := hq.2.1
        refine Tot_ite (fun c729 => ?_) (fun c729 => ?_)
        · have : x3.toInt = (0 : Int) := eqI c729
          exact Tot_some ⟨hs_u14, trivial, trivial⟩
        · have : ¬ x3.toInt = (0 : Int) := neI c729
          exact Tot_some ⟨hs_u14, trivial, trivial⟩

abbrev pX11_judge_0 (u : SX) (q : Int32 × SX) : Prop := StC mdX11_judge_0 u q.2 ∧ (True) ∧ (True)
set_option maxHeartbeats 400000 in
set_option maxRecDepth 10000 in
theorem cfX11_judge_0 (x1 : Int32) (x2 : Int32) (u : SX) (hI : IC u)  : Tot (fX11_judge_0 x1 x2 u) (pX11_judge_0 u) := by
  unfold fX11_judge_0
  have hs_u : StC mdX11_judge_0 u u := StC_rf hI
  refine Tot_bind (tfX7_has_7 x2 u hs_u.1.1) (fun q hq => ?_)
  obtain ⟨r1, u2⟩ := q
  have hc_u2 : StX mdX7_has_7 u u2 := hq.1
  have hs_u2 : StC mdX11_judge_0 u u2 := StC_tr hs_u hc_u2 (by decide) (by decide)
  have : 0 ≤ r1.toInt ∧ r1.toInt ≤ 1 := hq.2.1
  have : 0 ≤ (u.1 13).toInt ∧ (u.1 13).toInt ≤ 80 := hs_u.1.1.1 13
  have : r1.toInt ≠ 0 → ((0 : Int) ≤ x2.toInt ∧ x2.toInt < (u.1 13).toInt) := hq.2.2
  refine Tot_ite (fun c759 => ?_) (fun c759 => ?_)
  · have : r1.toInt = (0 : Int) := eqI c759
    exact Tot_some ⟨hs_u2, trivial, trivial⟩
  · have : ¬ r1.toInt = (0 : Int) := neI c759
    refine Tot_bind (tfX3_areOpen_10 x1 u2 hs_u2.1.1) (fun q hq => ?_)
    obtain ⟨r4, u5⟩ := q
    have hc_u5 : StX mdX3_areOpen_10 u2 u5 := hq.1
    have hs_u5 : StC mdX11_judge_0 u u5 := StC_tr hs_u2 hc_u5 (by decide) (by decide)
    have : 0 ≤ r4.toInt ∧ r4.toInt ≤ 1 := hq.2.1
    refine Tot_ite (fun c760 => ?_) (fun c760 => ?_)
    · have : r4.toInt = (0 : Int) := eqI c760
      exact Tot_some ⟨hs_u5, trivial, trivial⟩
    · have : ¬ r4.toInt = (0 : Int) := neI c760
      have : (u5.1 0).toInt = (u2.1 0).toInt := congrArg Int32.toInt (hc_u5.2.1 0 (by decide))
      have : (u2.1 0).toInt = (u.1 0).toInt := congrArg Int32.toInt (hc_u2.2.1 0 (by decide))
      have : 0 ≤ (u.1 0).toInt ∧ (u.1 0).toInt ≤ 120 := hs_u.1.1.1 0
      refine Tot_bind (cfX3_startRow_10 x2 (u5.1 0) u5 hs_u5.1 ⟨by omega, by omega⟩ ⟨by omega, by omega⟩) (fun q hq => ?_)
      obtain ⟨r7, u8⟩ := q
      have hc_u8 : StC mdX3_startRow_10 u5 u8 := hq.1
      have hs_u8 : StC mdX11_judge_0 u u8 := StC_tc hs_u5 hc_u8 (by decide)
      have : 0 ≤ r7.toInt ∧ r7.toInt ≤ 0 := hq.2.1
      refine Tot_bind (tfX3_widthBehind_10 x1 u8 hs_u8.1.1) (fun q hq => ?_)
      obtain ⟨r10, u11⟩ := q
      have hc_u11 : StX mdX3_widthBehind_10 u8 u11 := hq.1
      have hs_u11 : StC mdX11_judge_0 u u11 := StC_tr hs_u8 hc_u11 (by decide) (by decide)
      exact Tot_some ⟨hs_u11, trivial, trivial⟩

abbrev pX11_fits_0 (u : SX) (q : Int32 × SX) : Prop := StC mdX11_fits_0 u q.2 ∧ (True) ∧ (True)
set_option maxHeartbeats 400000 in
set_option maxRecDepth 10000 in
theorem cfX11_fits_0 (x1 : Int32) (x2 : Int32) (x3 : Int32) (u : SX) (hI : IC u)  : Tot (fX11_fits_0 x1 x2 x3 u) (pX11_fits_0 u) := by
  unfold fX11_fits_0
  have hs_u : StC mdX11_fits_0 u u := StC_rf hI
  refine Tot_bind (tfX11_isDay_0 x2 u hs_u.1.1) (fun q hq => ?_)
  obtain ⟨r1, u2⟩ := q
  have hc_u2 : StX mdX11_isDay_0 u u2 := hq.1
  have hs_u2 : StC mdX11_fits_0 u u2 := StC_tr hs_u hc_u2 (by decide) (by decide)
  have : 0 ≤ r1.toInt ∧ r1.toInt ≤ 1 := hq.2.1
  have : 0 ≤ (u.1 0).toInt ∧ (u.1 0).toInt ≤ 120 := hs_u.1.1.1 0
  have : r1.toInt ≠ 0 → ((0 : Int) ≤ x2.toInt ∧ x2.toInt ≤ (u.1 0).toInt) := hq.2.2
  refine Tot_ite (fun c926 => ?_) (fun c926 => ?_)
  · have : r1.toInt = (0 : Int) := eqI c926
    exact Tot_some ⟨hs_u2, trivial, trivial⟩
  · have : ¬ r1.toInt = (0 : Int) := neI c926
    refine Tot_bind (tfX8_has_4 x1 u2 hs_u2.1.1) (fun q hq => ?_)
    obtain ⟨r4, u5⟩ := q
    have hc_u5 : StX mdX8_has_4 u2 u5 := hq.1
    have hs_u5 : StC mdX11_fits_0 u u5 := StC_tr hs_u2 hc_u5 (by decide) (by decide)
    have : 0 ≤ r4.toInt ∧ r4.toInt ≤ 1 := hq.2.1
    have : (u2.1 6).toInt = (u.1 6).toInt := congrArg Int32.toInt (hc_u2.2.1 6 (by decide))
    have : 0 ≤ (u.1 6).toInt ∧ (u.1 6).toInt ≤ 6 := hs_u.1.1.1 6
    have : r4.toInt ≠ 0 → ((0 : Int) ≤ x1.toInt ∧ x1.toInt < (u2.1 6).toInt) := hq.2.2
    refine Tot_ite (fun c927 => ?_) (fun c927 => ?_)
    · have : r4.toInt = (0 : Int) := eqI c927
      exact Tot_some ⟨hs_u5, trivial, trivial⟩
    · have : ¬ r4.toInt = (0 : Int) := neI c927
      refine Tot_bind (tfX11_within x3 0 2) (fun r7 hq => ?_)
      have : 0 ≤ r7.toInt ∧ r7.toInt ≤ 1 := hq.1
      have : r7.toInt ≠ 0 → ((0 : Int) ≤ x3.toInt ∧ x3.toInt ≤ (2 : Int)) := hq.2
      refine Tot_ite (fun c928 => ?_) (fun c928 => ?_)
      · have : r7.toInt = (0 : Int) := eqI c928
        exact Tot_some ⟨hs_u5, trivial, trivial⟩
      · have : ¬ r7.toInt = (0 : Int) := neI c928
        refine Tot_bind (cfX7_recall_7 x2 u5 hs_u5.1 ⟨by omega, by omega⟩) (fun q hq => ?_)
        obtain ⟨r10, u11⟩ := q
        have hc_u11 : StC mdX7_recall_7 u5 u11 := hq.1
        have hs_u11 : StC mdX11_fits_0 u u11 := StC_tc hs_u5 hc_u11 (by decide)
        have : 0 ≤ r10.toInt ∧ r10.toInt ≤ 0 := hq.2.1
        refine Tot_bind (tfX1_fit_8 x1 u11 hs_u11.1.1 ⟨by omega, by omega⟩) (fun q hq => ?_)
        obtain ⟨r13, u14⟩ := q
        have hc_u14 : StX mdX1_fit_8 u11 u14 := hq.1
        have hs_u14 : StC mdX11_fits_0 u u14 := StC_tr hs_u11 hc_u14 (by decide) (by decide)
        have : 0 ≤ r13.toInt ∧ r13.toInt ≤ 0 := hq.2.1
        refine Tot_ite (fun c929 => ?_) (fun c929 => ?_)
        · have : x3.toInt = (2 : Int) := eqI c929
          exact Tot_some ⟨hs_u14, trivial, trivial⟩
        · have : ¬ x3.toInt = (2 : Int) := neI c929
          refine Tot_ite (fun c930 => ?_) (fun c930 => ?_)
          · have : x3.toInt = (0 : Int) := eqI c930
            have : (-1) ≤ (u14.1 19).toInt ∧ (u14.1 19).toInt ≤ 60 := hs_u14.1.1.1 19
            exact Tot_some ⟨hs_u14, trivial, trivial⟩
          · have : ¬ x3.toInt = (0 : Int) := neI c930
            have : (-1) ≤ (u14.1 20).toInt ∧ (u14.1 20).toInt ≤ 60 := hs_u14.1.1.1 20
            exact Tot_some ⟨hs_u14, trivial, trivial⟩

abbrev pX11_next_0 (u : SX) (q : Int32 × SX) : Prop := StC mdX11_next_0 u q.2 ∧ (True) ∧ (True)
set_option maxHeartbeats 400000 in
set_option maxRecDepth 10000 in
theorem cfX11_next_0 (x1 : Int32) (x2 : Int32) (x3 : Int32) (x4 : Int32) (u : SX) (hI : IC u)  : Tot (fX11_next_0 x1 x2 x3 x4 u) (pX11_next_0 u) := by
  unfold fX11_next_0
  have hs_u : StC mdX11_next_0 u u := StC_rf hI
  refine Tot_bind (tfX11_isDay_0 x3 u hs_u.1.1) (fun q hq => ?_)
  obtain ⟨r1, u2⟩ := q
  have hc_u2 : StX mdX11_isDay_0 u u2 := hq.1
  have hs_u2 : StC mdX11_next_0 u u2 := StC_tr hs_u hc_u2 (by decide) (by decide)
  have : 0 ≤ r1.toInt ∧ r1.toInt ≤ 1 := hq.2.1
  have : 0 ≤ (u.1 0).toInt ∧ (u.1 0).toInt ≤ 120 := hs_u.1.1.1 0
  have : r1.toInt ≠ 0 → ((0 : Int) ≤ x3.toInt ∧ x3.toInt ≤ (u.1 0).toInt) := hq.2.2
  refine Tot_ite (fun c957 => ?_) (fun c957 => ?_)
  · have : r1.toInt = (0 : Int) := eqI c957
    exact Tot_some ⟨hs_u2, trivial, trivial⟩
  · have : ¬ r1.toInt = (0 : Int) := neI c957
    refine Tot_bind (tfX8_has_4 x1 u2 hs_u2.1.1) (fun q hq => ?_)
    obtain ⟨r4, u5⟩ := q
    have hc_u5 : StX mdX8_has_4 u2 u5 := hq.1
    have hs_u5 : StC mdX11_next_0 u u5 := StC_tr hs_u2 hc_u5 (by decide) (by decide)
    have : 0 ≤ r4.toInt ∧ r4.toInt ≤ 1 := hq.2.1
    have : (u2.1 6).toInt = (u.1 6).toInt := congrArg Int32.toInt (hc_u2.2.1 6 (by decide))
    have : 0 ≤ (u.1 6).toInt ∧ (u.1 6).toInt ≤ 6 := hs_u.1.1.1 6
    have : r4.toInt ≠ 0 → ((0 : Int) ≤ x1.toInt ∧ x1.toInt < (u2.1 6).toInt) := hq.2.2
    refine Tot_ite (fun c958 => ?_) (fun c958 => ?_)
    · have : r4.toInt = (0 : Int) := eqI c958
      exact Tot_some ⟨hs_u5, trivial, trivial⟩
    · have : ¬ r4.toInt = (0 : Int) := neI c958
      refine Tot_bind (tfX8_has_4 x2 u5 hs_u5.1.1) (fun q hq => ?_)
      obtain ⟨r7, u8⟩ := q
      have hc_u8 : StX mdX8_has_4 u5 u8 := hq.1
      have hs_u8 : StC mdX11_next_0 u u8 := StC_tr hs_u5 hc_u8 (by decide) (by decide)
      have : 0 ≤ r7.toInt ∧ r7.toInt ≤ 1 := hq.2.1
      have : (u5.1 6).toInt = (u2.1 6).toInt := congrArg Int32.toInt (hc_u5.2.1 6 (by decide))
      have : r7.toInt ≠ 0 → ((0 : Int) ≤ x2.toInt ∧ x2.toInt < (u5.1 6).toInt) := hq.2.2
      refine Tot_ite (fun c959 => ?_) (fun c959 => ?_)
      · have : r7.toInt = (0 : Int) := eqI c959
        exact Tot_some ⟨hs_u8, trivial, trivial⟩
      · have : ¬ r7.toInt = (0 : Int) := neI c959
        refine Tot_bind (tfX11_isEither x4) (fun r10 hq => ?_)
        have : 0 ≤ r10.toInt ∧ r10.toInt ≤ 1 := hq.1
        have : r10.toInt ≠ 0 → ((0 : Int) ≤ x4.toInt ∧ x4.toInt ≤ (1 : Int)) := hq.2
        refine Tot_ite (fun c960 => ?_) (fun c960 => ?_)
        · have : r10.toInt = (0 : Int) := eqI c960
          exact Tot_some ⟨hs_u8, trivial, trivial⟩
        · have : ¬ r10.toInt = (0 : Int) := neI c960
          refine Tot_bind (cfX7_recall_7 x3 u8 hs_u8.1 ⟨by omega, by omega⟩) (fun q hq => ?_)
          obtain ⟨r13, u14⟩ := q
          have hc_u14 : StC mdX7_recall_7 u8 u14 := hq.1
          have hs_u14 : StC mdX11_next_0 u u14 := StC_tc hs_u8 hc_u14 (by decide)
          have : 0 ≤ r13.toInt ∧ r13.toInt ≤ 0 := hq.2.1
          refine Tot_bind (tfX1_fit_8 x1 u14 hs_u14.1.1 ⟨by omega, by omega⟩) (fun q hq => ?_)
          obtain ⟨r16, u17⟩ := q
          have hc_u17 : StX mdX1_fit_8 u14 u17 := hq.1
          have hs_u17 : StC mdX11_next_0 u u17 := StC_tr hs_u14 hc_u17 (by decide) (by decide)
          have : 0 ≤ r16.toInt ∧ r16.toInt ≤ 0 := hq.2.1
          have : (-1) ≤ (u17.1 19).toInt ∧ (u17.1 19).toInt ≤ 60 := hs_u17.1.1.1 19
          refine Tot_lt (fun v19 e_v19 => ?_)
          have : v19.toInt = (u17.1 19).toInt := congrArg Int32.toInt e_v19
          refine Tot_bind (tfX1_fit_8 x2 u17 hs_u17.1.1 ⟨by omega, by omega⟩) (fun q hq => ?_)
          obtain ⟨r21, u22⟩ := q
          have hc_u22 : StX mdX1_fit_8 u17 u22 := hq.1
          have hs_u22 : StC mdX11_next_0 u u22 := StC_tr hs_u17 hc_u22 (by decide) (by decide)
          have : 0 ≤ r21.toInt ∧ r21.toInt ≤ 0 := hq.2.1
          have : (-1) ≤ (u22.1 19).toInt ∧ (u22.1 19).toInt ≤ 60 := hs_u22.1.1.1 19
          refine Tot_lt (fun v24 e_v24 => ?_)
          have : v24.toInt = (u22.1 19).toInt := congrArg Int32.toInt e_v24
          refine Tot_ite (fun c961 => ?_) (fun c961 => ?_)
          · have : v19.toInt = (-1 : Int) := eqI c961
            exact Tot_some ⟨hs_u22, trivial, trivial⟩
          · have : ¬ v19.toInt = (-1 : Int) := neI c961
            refine Tot_ite (fun c962 => ?_) (fun c962 => ?_)
            · have : v24.toInt = (-1 : Int) := eqI c962
              exact Tot_some ⟨hs_u22, trivial, trivial⟩
            · have : ¬ v24.toInt = (-1 : Int) := neI c962
              refine Tot_bind (tfX1_tellApart_8 x1 v19 x2 v24 u22 hs_u22.1.1 ⟨by omega, by omega⟩ ⟨by omega, by omega⟩ ⟨by omega, by omega⟩ ⟨by omega, by omega⟩) (fun q hq => ?_)
              obtain ⟨r26, u27⟩ := q
              have hc_u27 : StX mdX1_tellApart_8 u22 u27 := hq.1
              have hs_u27 : StC mdX11_next_0 u u27 := StC_tr hs_u22 hc_u27 (by decide) (by decide)
              have : 0 ≤ r26.toInt ∧ r26.toInt ≤ 0 := hq.2.1
              refine Tot_ite (fun c963 => ?_) (fun c963 => ?_)
              · have : x4.toInt = (0 : Int) := eqI c963
                have : 0 ≤ (u27.1 22).toInt ∧ (u27.1 22).toInt ≤ 40 := hs_u27.1.1.1 22
                exact Tot_some ⟨hs_u27, trivial, trivial⟩
              · have : ¬ x4.toInt = (0 : Int) := neI c963
                exact Tot_some ⟨hs_u27, trivial, trivial⟩

abbrev pX11_even_0 (u : SX) (q : Int32 × SX) : Prop := StC mdX11_even_0 u q.2 ∧ (True) ∧ (True)
set_option maxHeartbeats 400000 in
set_option maxRecDepth 10000 in
theorem cfX11_even_0 (x1 : Int32) (x2 : Int32) (u : SX) (hI : IC u)  : Tot (fX11_even_0 x1 x2 u) (pX11_even_0 u) := by
  unfold fX11_even_0
  have hs_u : StC mdX11_even_0 u u := StC_rf hI
  refine Tot_bind (tfX11_isDay_0 x1 u hs_u.1.1) (fun q hq => ?_)
  obtain ⟨r1, u2⟩ := q
  have hc_u2 : StX mdX11_isDay_0 u u2 := hq.1
  have hs_u2 : StC mdX11_even_0 u u2 := StC_tr hs_u hc_u2 (by decide) (by decide)
  have : 0 ≤ r1.toInt ∧ r1.toInt ≤ 1 := hq.2.1
  have : 0 ≤ (u.1 0).toInt ∧ (u.1 0).toInt ≤ 120 := hs_u.1.1.1 0
  have : r1.toInt ≠ 0 → ((0 : Int) ≤ x1.toInt ∧ x1.toInt ≤ (u.1 0).toInt) := hq.2.2
  refine Tot_ite (fun c1215 => ?_) (fun c1215 => ?_)
  · have : r1.toInt = (0 : Int) := eqI c1215
    exact Tot_some ⟨hs_u2, trivial, trivial⟩
  · have : ¬ r1.toInt = (0 : Int) := neI c1215
    refine Tot_bind (tfX11_isEither x2) (fun r4 hq => ?_)
    have : 0 ≤ r4.toInt ∧ r4.toInt ≤ 1 := hq.1
    have : r4.toInt ≠ 0 → ((0 : Int) ≤ x2.toInt ∧ x2.toInt ≤ (1 : Int)) := hq.2
    refine Tot_ite (fun c1216 => ?_) (fun c1216 => ?_)
    · have : r4.toInt = (0 : Int) := eqI c1216
      exact Tot_some ⟨hs_u2, trivial, trivial⟩
    · have : ¬ r4.toInt = (0 : Int) := neI c1216
      refine Tot_bind (cfX7_recall_7 x1 u2 hs_u2.1 ⟨by omega, by omega⟩) (fun q hq => ?_)
      obtain ⟨r7, u8⟩ := q
      have hc_u8 : StC mdX7_recall_7 u2 u8 := hq.1
      have hs_u8 : StC mdX11_even_0 u u8 := StC_tc hs_u2 hc_u8 (by decide)
      have : 0 ≤ r7.toInt ∧ r7.toInt ≤ 0 := hq.2.1
      refine Tot_bind (tfX1_meansBy_8 0 u8 hs_u8.1.1 (by show 0 ≤ (0 : Int) ∧ (0 : Int) ≤ 5; omega)) (fun q hq => ?_)
      obtain ⟨r10, u11⟩ := q
      have hc_u11 : StX mdX1_meansBy_8 u8 u11 := hq.1
      have hs_u11 : StC mdX11_even_0 u u11 := StC_tr hs_u8 hc_u11 (by decide) (by decide)
      refine Tot_ite (fun c1217 => ?_) (fun c1217 => ?_)
      · have : x2.toInt = (1 : Int) := eqI c1217
        refine Tot_bind (tfX1_oneSide_8 u11 hs_u11.1.1) (fun q hq => ?_)
        obtain ⟨r16, u17⟩ := q
        have hc_u17 : StX mdX1_oneSide_8 u11 u17 := hq.1
        have hs_u17 : StC mdX11_even_0 u u17 := StC_tr hs_u11 hc_u17 (by decide) (by decide)
        exact Tot_some ⟨hs_u17, trivial, trivial⟩
      · have : ¬ x2.toInt = (1 : Int) := neI c1217
        refine Tot_ite (fun c1218 => ?_) (fun c1218 => ?_)
        · have : (2 : Int) ≤ r10.toInt := leI c1218
          refine Tot_bind (tfX1_distance_8 u11 hs_u11.1.1) (fun q hq => ?_)
          obtain ⟨r13, u14⟩ := q
          have hc_u14 : StX mdX1_distance_8 u11 u14 := hq.1
          have hs_u14 : StC mdX11_even_0 u u14 := StC_tr hs_u11 hc_u14 (by decide) (by decide)
          exact Tot_some ⟨hs_u14, trivial, trivial⟩
        · have : ¬ (2 : Int) ≤ r10.toInt := nleI c1218
          exact Tot_some ⟨hs_u11, trivial, trivial⟩

abbrev pX11_say_0 (u : SX) (q : Int32 × SX) : Prop := StC mdX11_say_0 u q.2 ∧ ((-1) ≤ q.1.toInt ∧ q.1.toInt ≤ 120) ∧ (True)
set_option maxHeartbeats 400000 in
set_option maxRecDepth 10000 in
theorem cGX11_say_0_105 (u0 : SX) (g15 : Int) {k15 : Int32 → Int32 → SX → Option (Int32 × SX)} (hk15 : ∀ (z1 : Int32) (z2 : Int32) (u : SX), (StC mdX11_say_0 u0 u) → (0 ≤ z1.toInt ∧ z1.toInt ≤ 5) → (0 ≤ z2.toInt ∧ z2.toInt ≤ 121) → (g15 < z2.toInt) → Tot (k15 z1 z2 u) (pX11_say_0 u0)) (z1 : Int32) (z2 : Int32) (y0 : Int32) (y1 : Int32) (u : SX) (hs_u : StC mdX11_say_0 u0 u) (h0 : 0 ≤ z1.toInt ∧ z1.toInt ≤ 5) (h1 : 0 ≤ z2.toInt ∧ z2.toInt ≤ 120) (h2 : 2 ≤ y1.toInt ∧ y1.toInt ≤ 2) (h3 : g15 ≤ z2.toInt) : Tot (GX11_say_0_105 k15 z1 z2 y0 y1 u) (pX11_say_0 u0) := by
  unfold GX11_say_0_105
  refine Tot_bind (tfX8_set_5 y1 y0 u hs_u.1.1 ⟨by omega, by omega⟩) (fun q hq => ?_)
  obtain ⟨r16, u17⟩ := q
  have hc_u17 : StX mdX8_set_5 u u17 := hq.1
  have hs_u17 : StC mdX11_say_0 u0 u17 := StC_tr hs_u hc_u17 (by decide) (by decide)
  have : 0 ≤ r16.toInt ∧ r16.toInt ≤ 0 := hq.2.1
  refine Tot_bind (tfX3_doneUpTo_10 z2 u17 hs_u17.1.1 ⟨by omega, by omega⟩) (fun q hq => ?_)
  obtain ⟨r19, u20⟩ := q
  have hc_u20 : StX mdX3_doneUpTo_10 u17 u20 := hq.1
  have hs_u20 : StC mdX11_say_0 u0 u20 := StC_tr hs_u17 hc_u20 (by decide) (by decide)
  refine Tot_bind (tfX8_set_5 3 r19 u20 hs_u20.1.1 (by show 0 ≤ (3 : Int) ∧ (3 : Int) ≤ 4; omega)) (fun q hq => ?_)
  obtain ⟨r22, u23⟩ := q
  have hc_u23 : StX mdX8_set_5 u20 u23 := hq.1
  have hs_u23 : StC mdX11_say_0 u0 u23 := StC_tr hs_u20 hc_u23 (by decide) (by decide)
  have : 0 ≤ r22.toInt ∧ r22.toInt ≤ 0 := hq.2.1
  refine Tot_bind (tfX8_set_5 4 z2 u23 hs_u23.1.1 (by show 0 ≤ (4 : Int) ∧ (4 : Int) ≤ 4; omega)) (fun q hq => ?_)
  obtain ⟨r25, u26⟩ := q
  have hc_u26 : StX mdX8_set_5 u23 u26 := hq.1
  have hs_u26 : StC mdX11_say_0 u0 u26 := StC_tr hs_u23 hc_u26 (by decide) (by decide)
  have : 0 ≤ r25.toInt ∧ r25.toInt ≤ 0 := hq.2.1
  refine Tot_bind (tfX8_ask_5 z1 u26 hs_u26.1.1 ⟨by omega, by omega⟩) (fun q hq => ?_)
  obtain ⟨r28, u29⟩ := q
  have hc_u29 : StX mdX8_ask_5 u26 u29 := hq.1
  have hs_u29 : StC mdX11_say_0 u0 u29 := StC_tr hs_u26 hc_u29 (by decide) (by decide)
  refine Tot_ite (fun c1353 => ?_) (fun c1353 => ?_)
  · have : r28.toInt = (0 : Int) := eqI c1353
    have : (z2 + 1).toInt = z2.toInt + (1 : Int) := addc_t (by decide) (by omega) (by omega)
    exact hk15 z1 (z2 + 1) u29 hs_u29 ⟨by omega, by omega⟩ ⟨by omega, by omega⟩ (by omega)
  · exact Tot_some ⟨hs_u29, (by show (-1) ≤ z2.toInt ∧ z2.toInt ≤ 120; omega), trivial⟩
set_option maxHeartbeats 400000 in
set_option maxRecDepth 10000 in
theorem cGX11_say_0_82 (u0 : SX) (g15 : Int) {k15 : Int32 → Int32 → SX → Option (Int32 × SX)} (hk15 : ∀ (z1 : Int32) (z2 : Int32) (u : SX), (StC mdX11_say_0 u0 u) → (0 ≤ z1.toInt ∧ z1.toInt ≤ 5) → (0 ≤ z2.toInt ∧ z2.toInt ≤ 121) → (g15 < z2.toInt) → Tot (k15 z1 z2 u) (pX11_say_0 u0)) (z1 : Int32) (z2 : Int32) (z3 : Int32) (y0 : Int32) (y1 : Int32) (u : SX) (hs_u : StC mdX11_say_0 u0 u) (h0 : 0 ≤ z1.toInt ∧ z1.toInt ≤ 5) (h1 : 0 ≤ z2.toInt ∧ z2.toInt ≤ 120) (h2 : 0 ≤ z3.toInt ∧ z3.toInt ≤ 1) (h3 : 1 ≤ y1.toInt ∧ y1.toInt ≤ 1) (h4 : g15 ≤ z2.toInt) : Tot (GX11_say_0_82 k15 z1 z2 z3 y0 y1 u) (pX11_say_0 u0) := by
  unfold GX11_say_0_82
  refine Tot_bind (tfX8_set_5 y1 y0 u hs_u.1.1 ⟨by omega, by omega⟩) (fun q hq => ?_)
  obtain ⟨r13, u14⟩ := q
  have hc_u14 : StX mdX8_set_5 u u14 := hq.1
  have hs_u14 : StC mdX11_say_0 u0 u14 := StC_tr hs_u hc_u14 (by decide) (by decide)
  have : 0 ≤ r13.toInt ∧ r13.toInt ≤ 0 := hq.2.1
  refine Tot_ite (fun c1354 => ?_) (fun c1354 => ?_)
  · have : z3.toInt = (0 : Int) := eqI c1354
    exact cGX11_say_0_105 u0 g15 hk15 z1 z2 0 2 u14 hs_u14 ⟨by omega, by omega⟩ ⟨by omega, by omega⟩ (by show 2 ≤ (2 : Int) ∧ (2 : Int) ≤ 2; omega) (by omega)
  · have : ¬ z3.toInt = (0 : Int) := neI c1354
    have : (u14.1 17).toInt = (u.1 17).toInt := congrArg Int32.toInt (hc_u14.2.1 17 (by decide))
    exact cGX11_say_0_105 u0 g15 hk15 z1 z2 (u14.1 17) 2 u14 hs_u14 ⟨by omega, by omega⟩ ⟨by omega, by omega⟩ (by show 2 ≤ (2 : Int) ∧ (2 : Int) ≤ 2; omega) (by omega)
set_option maxHeartbeats 400000 in
set_option maxRecDepth 10000 in
theorem cLX11_say_0_15 (u0 : SX)    : ∀ (n : Nat) (z1 : Int32) (z2 : Int32) (u : SX), (StC mdX11_say_0 u0 u) → (0 ≤ z1.toInt ∧ z1.toInt ≤ 5) → (0 ≤ z2.toInt ∧ z2.toInt ≤ 121) → (121 - z2.toInt < (n : Int)) → Tot (LX11_say_0_15 n z1 z2 u) (pX11_say_0 u0) := by
  intro n
  induction n with
  | zero =>
    intro z1 z2 u hs_u h0 h1 hm
    exfalso
    omega
  | succ n ih =>
    intro z1 z2 u hs_u h0 h1 hm
    rw [LX11_say_0_15]
    have : 0 ≤ (u.1 0).toInt ∧ (u.1 0).toInt ≤ 120 := hs_u.1.1.1 0
    refine Tot_ite (fun c1355 => ?_) (fun c1355 => ?_)
    · have : (u.1 0).toInt < z2.toInt := ltI c1355
      exact Tot_some ⟨hs_u, (by show (-1) ≤ (-1 : Int) ∧ (-1 : Int) ≤ 120; omega), trivial⟩
    · have : ¬ (u.1 0).toInt < z2.toInt := nltI c1355
      refine Tot_bind (cfX7_recall_7 z2 u hs_u.1 ⟨by omega, by omega⟩) (fun q hq => ?_)
      obtain ⟨r4, u5⟩ := q
      have hc_u5 : StC mdX7_recall_7 u u5 := hq.1
      have hs_u5 : StC mdX11_say_0 u0 u5 := StC_tc hs_u hc_u5 (by decide)
      have : 0 ≤ r4.toInt ∧ r4.toInt ≤ 0 := hq.2.1
      refine Tot_bind (tfX1_compare_8 u5 hs_u5.1.1) (fun q hq => ?_)
      obtain ⟨r7, u8⟩ := q
      have hc_u8 : StX mdX1_compare_8 u5 u8 := hq.1
      have hs_u8 : StC mdX11_say_0 u0 u8 := StC_tr hs_u5 hc_u8 (by decide) (by decide)
      have : 0 ≤ r7.toInt ∧ r7.toInt ≤ 1 := hq.2.1
      have : (u8.1 14).toInt = (u5.1 14).toInt := congrArg Int32.toInt (hc_u8.2.1 14 (by decide))
      have : 0 ≤ (u5.1 14).toInt ∧ (u5.1 14).toInt ≤ 80 := hs_u5.1.1.1 14
      refine Tot_bind (tfX8_set_5 0 (u8.1 14) u8 hs_u8.1.1 (by show 0 ≤ (0 : Int) ∧ (0 : Int) ≤ 4; omega)) (fun q hq => ?_)
      obtain ⟨r10, u11⟩ := q
      have hc_u11 : StX mdX8_set_5 u8 u11 := hq.1
      have hs_u11 : StC mdX11_say_0 u0 u11 := StC_tr hs_u8 hc_u11 (by decide) (by decide)
      have : 0 ≤ r10.toInt ∧ r10.toInt ≤ 0 := hq.2.1
      refine Tot_ite (fun c1356 => ?_) (fun c1356 => ?_)
      · have : r7.toInt = (0 : Int) := eqI c1356
        exact cGX11_say_0_82 u0 (z2.toInt) (fun a1357 a1358 w1359 hw1359 p1360 p1361 p1362 => ih a1357 a1358 w1359 hw1359 p1360 p1361 (by omega)) z1 z2 r7 0 1 u11 hs_u11 ⟨by omega, by omega⟩ ⟨by omega, by omega⟩ ⟨by omega, by omega⟩ (by show 1 ≤ (1 : Int) ∧ (1 : Int) ≤ 1; omega) (by omega)
      · have : ¬ r7.toInt = (0 : Int) := neI c1356
        have : (u11.1 18).toInt = (u8.1 18).toInt := congrArg Int32.toInt (hc_u11.2.1 18 (by decide))
        have : (u11.1 17).toInt = (u8.1 17).toInt := congrArg Int32.toInt (hc_u11.2.1 17 (by decide))
        exact cGX11_say_0_82 u0 (z2.toInt) (fun a1363 a1364 w1365 hw1365 p1366 p1367 p1368 => ih a1363 a1364 w1365 hw1365 p1366 p1367 (by omega)) z1 z2 r7 ((u11.1 18) - (u11.1 17)) 1 u11 hs_u11 ⟨by omega, by omega⟩ ⟨by omega, by omega⟩ ⟨by omega, by omega⟩ (by show 1 ≤ (1 : Int) ∧ (1 : Int) ≤ 1; omega) (by omega)
set_option maxHeartbeats 400000 in
set_option maxRecDepth 10000 in
theorem cfX11_say_0 (x1 : Int32) (u : SX) (hI : IC u)  : Tot (fX11_say_0 x1 u) (pX11_say_0 u) := by
  unfold fX11_say_0
  have hs_u : StC mdX11_say_0 u u := StC_rf hI
  refine Tot_bind (tfX8_has_5 x1 u hs_u.1.1) (fun q hq => ?_)
  obtain ⟨r1, u2⟩ := q
  have hc_u2 : StX mdX8_has_5 u u2 := hq.1
  have hs_u2 : StC mdX11_say_0 u u2 := StC_tr hs_u hc_u2 (by decide) (by decide)
  have : 0 ≤ r1.toInt ∧ r1.toInt ≤ 1 := hq.2.1
  have : 0 ≤ (u.1 7).toInt ∧ (u.1 7).toInt ≤ 6 := hs_u.1.1.1 7
  have : r1.toInt ≠ 0 → ((0 : Int) ≤ x1.toInt ∧ x1.toInt < (u.1 7).toInt) := hq.2.2
  refine Tot_ite (fun c1369 => ?_) (fun c1369 => ?_)
  · have : r1.toInt = (0 : Int) := eqI c1369
    exact Tot_some ⟨hs_u2, (by show (-1) ≤ (-1 : Int) ∧ (-1 : Int) ≤ 120; omega), trivial⟩
  · have : ¬ r1.toInt = (0 : Int) := neI c1369
    exact cLX11_say_0_15 u 5000 x1 0 u2 hs_u2 ⟨by omega, by omega⟩ (by show 0 ≤ (0 : Int) ∧ (0 : Int) ≤ 121; omega) (by show 121 - (0 : Int) < ((5000 : Nat) : Int); omega)

