def mdX6_change_6 : MD := ([12], [31, 32, 33, 34, 35], [], [])
abbrev qX6_change_6 (u : SX) (q : Int32 × SX) : Prop := StX mdX6_change_6 u q.2 ∧ (0 ≤ q.1.toInt ∧ q.1.toInt ≤ 0) ∧ (True)
set_option maxHeartbeats 400000 in
set_option maxRecDepth 10000 in
theorem tfX6_change_6 (x1 : Int32) (x2 : Int32) (x3 : Int32) (x4 : Int32) (x5 : Int32) (u : SX) (hI : IX u) (h0 : 0 ≤ x1.toInt ∧ x1.toInt ≤ 11) (h1 : 0 ≤ x2.toInt ∧ x2.toInt ≤ 400) (h2 : 0 ≤ x3.toInt ∧ x3.toInt ≤ 400) (h3 : 0 ≤ x4.toInt ∧ x4.toInt ≤ 120) (h4 : 0 ≤ x5.toInt ∧ x5.toInt ≤ 1) : Tot (fX6_change_6 x1 x2 x3 x4 x5 u) (qX6_change_6 u) := by
  unfold fX6_change_6
  have hs_u : StX mdX6_change_6 u u := StX_rf hI
  have : 0 ≤ (u.1 12).toInt ∧ (u.1 12).toInt ≤ 30 := hs_u.1.1 12
  refine Tot_ite (fun c682 => ?_) (fun c682 => ?_)
  · have : (u.1 12).toInt < (30 : Int) := ltI c682
    refine Tot_gd (inb_t (by omega) (by omega)) ?_
    refine Tot_lt (fun u2 e_u2 => ?_)
    have hs_u2 : StX mdX6_change_6 u u2 := by rw [e_u2]; exact StX_sA hs_u (by decide) (by show 0 ≤ x1.toInt; omega) (by show x1.toInt ≤ 11; omega) (by decide)
    have : (u2.1 12).toInt = (u.1 12).toInt := by rw [e_u2]; rfl
    refine Tot_gd (inb_t (by omega) (by omega)) ?_
    refine Tot_lt (fun u5 e_u5 => ?_)
    have hs_u5 : StX mdX6_change_6 u u5 := by rw [e_u5]; exact StX_sA hs_u2 (by decide) (by show 0 ≤ x2.toInt; omega) (by show x2.toInt ≤ 400; omega) (by decide)
    have : (u5.1 12).toInt = (u2.1 12).toInt := by rw [e_u5]; rfl
    refine Tot_gd (inb_t (by omega) (by omega)) ?_
    refine Tot_lt (fun u8 e_u8 => ?_)
    have hs_u8 : StX mdX6_change_6 u u8 := by rw [e_u8]; exact StX_sA hs_u5 (by decide) (by show 0 ≤ x3.toInt; omega) (by show x3.toInt ≤ 400; omega) (by decide)
    have : (u8.1 12).toInt = (u5.1 12).toInt := by rw [e_u8]; rfl
    refine Tot_gd (inb_t (by omega) (by omega)) ?_
    refine Tot_lt (fun u11 e_u11 => ?_)
    have hs_u11 : StX mdX6_change_6 u u11 := by rw [e_u11]; exact StX_sA hs_u8 (by decide) (by show 0 ≤ x4.toInt; omega) (by show x4.toInt ≤ 120; omega) (by decide)
    have : (u11.1 12).toInt = (u8.1 12).toInt := by rw [e_u11]; rfl
    refine Tot_gd (inb_t (by omega) (by omega)) ?_
    have := narz_t x5
    refine Tot_lt (fun u14 e_u14 => ?_)
    have hs_u14 : StX mdX6_change_6 u u14 := by rw [e_u14]; exact StX_sA hs_u11 (by decide) (by show 0 ≤ (vp_nar .boolean x5).toInt; omega) (by show (vp_nar .boolean x5).toInt ≤ 1; omega) (by decide)
    have : (u14.1 12).toInt = (u11.1 12).toInt := by rw [e_u14]; rfl
    have : ((u14.1 12) + 1).toInt = (u14.1 12).toInt + (1 : Int) := addc_t (by decide) (by omega) (by omega)
    refine Tot_lt (fun u16 e_u16 => ?_)
    have hs_u16 : StX mdX6_change_6 u u16 := by rw [e_u16]; exact StX_sI hs_u14 (by decide) (by show 0 ≤ ((u14.1 12) + 1).toInt; omega) (by show ((u14.1 12) + 1).toInt ≤ 30; omega)
    exact Tot_some ⟨hs_u16, (by show 0 ≤ (0 : Int) ∧ (0 : Int) ≤ 0; omega), trivial⟩
  · have : ¬ (u.1 12).toInt < (30 : Int) := nltI c682
    exact Tot_some ⟨hs_u, (by show 0 ≤ (0 : Int) ∧ (0 : Int) ≤ 0; omega), trivial⟩

def mdX3_carryOut_10 : MD := ([10, 11, 12], [27, 28, 31, 32, 33, 34, 35, 52, 53, 54, 55, 56], [], [])
abbrev qX3_carryOut_10 (u : SX) (q : Int32 × SX) : Prop := StX mdX3_carryOut_10 u q.2 ∧ (0 ≤ q.1.toInt ∧ q.1.toInt ≤ 0) ∧ (True)
set_option maxHeartbeats 400000 in
set_option maxRecDepth 10000 in
theorem tfX3_carryOut_10 (x1 : Int32) (x2 : Int32) (u : SX) (hI : IX u) (h0 : 0 ≤ x1.toInt ∧ x1.toInt ≤ 9) (h1 : 0 ≤ x2.toInt ∧ x2.toInt ≤ 120) : Tot (fX3_carryOut_10 x1 x2 u) (qX3_carryOut_10 u) := by
  unfold fX3_carryOut_10
  have hs_u : StX mdX3_carryOut_10 u u := StX_rf hI
  refine Tot_gd (inb_t (by omega) (by omega)) ?_
  have : 0 ≤ (u.2.1 48 x1.toNatClampNeg).toInt ∧ (u.2.1 48 x1.toNatClampNeg).toInt ≤ 11 := hs_u.1.2.1 48 x1.toNatClampNeg
  refine Tot_lt (fun v2 e_v2 => ?_)
  have : v2.toInt = (u.2.1 48 x1.toNatClampNeg).toInt := congrArg Int32.toInt e_v2
  refine Tot_bind (tfX6_recall_6 x2 u hs_u.1 ⟨by omega, by omega⟩) (fun q hq => ?_)
  obtain ⟨r4, u5⟩ := q
  have hc_u5 : StX mdX6_recall_6 u u5 := hq.1
  have hs_u5 : StX mdX3_carryOut_10 u u5 := StX_tr hs_u hc_u5 (by decide)
  have : 0 ≤ r4.toInt ∧ r4.toInt ≤ 0 := hq.2.1
  refine Tot_gd (inb_t (by omega) (by omega)) ?_
  refine Tot_gd (inb_t (by omega) (by omega)) ?_
  have : 0 ≤ (u5.2.1 27 v2.toNatClampNeg).toInt ∧ (u5.2.1 27 v2.toNatClampNeg).toInt ≤ 400 := hs_u5.1.2.1 27 v2.toNatClampNeg
  refine Tot_lt (fun u9 e_u9 => ?_)
  have hs_u9 : StX mdX3_carryOut_10 u u9 := by rw [e_u9]; exact StX_sA hs_u5 (by decide) (by show 0 ≤ (u5.2.1 27 v2.toNatClampNeg).toInt; omega) (by show (u5.2.1 27 v2.toNatClampNeg).toInt ≤ 400; omega) (by decide)
  refine Tot_gd (inb_t (by omega) (by omega)) ?_
  refine Tot_gd (inb_t (by omega) (by omega)) ?_
  have : 0 ≤ (u9.2.1 28 v2.toNatClampNeg).toInt ∧ (u9.2.1 28 v2.toNatClampNeg).toInt ≤ 400 := hs_u9.1.2.1 28 v2.toNatClampNeg
  refine Tot_lt (fun u13 e_u13 => ?_)
  have hs_u13 : StX mdX3_carryOut_10 u u13 := by rw [e_u13]; exact StX_sA hs_u9 (by decide) (by show 0 ≤ (u9.2.1 28 v2.toNatClampNeg).toInt; omega) (by show (u9.2.1 28 v2.toNatClampNeg).toInt ≤ 400; omega) (by decide)
  refine Tot_gd (inb_t (by omega) (by omega)) ?_
  refine Tot_gd (inb_t (by omega) (by omega)) ?_
  have : 0 ≤ (u13.2.1 49 x1.toNatClampNeg).toInt ∧ (u13.2.1 49 x1.toNatClampNeg).toInt ≤ 400 := hs_u13.1.2.1 49 x1.toNatClampNeg
  have : 0 ≤ (u13.2.1 50 x1.toNatClampNeg).toInt ∧ (u13.2.1 50 x1.toNatClampNeg).toInt ≤ 400 := hs_u13.1.2.1 50 x1.toNatClampNeg
  refine Tot_bind (tfX6_change_6 v2 (u13.2.1 49 x1.toNatClampNeg) (u13.2.1 50 x1.toNatClampNeg) x2 0 u13 hs_u13.1 ⟨by omega, by omega⟩ ⟨by omega, by omega⟩ ⟨by omega, by omega⟩ ⟨by omega, by omega⟩ (by show 0 ≤ (0 : Int) ∧ (0 : Int) ≤ 1; omega)) (fun q hq => ?_)
  obtain ⟨r17, u18⟩ := q
  have hc_u18 : StX mdX6_change_6 u13 u18 := hq.1
  have hs_u18 : StX mdX3_carryOut_10 u u18 := StX_tr hs_u13 hc_u18 (by decide)
  have : 0 ≤ r17.toInt ∧ r17.toInt ≤ 0 := hq.2.1
  refine Tot_bind (tfX6_recall_6 x2 u18 hs_u18.1 ⟨by omega, by omega⟩) (fun q hq => ?_)
  obtain ⟨r20, u21⟩ := q
  have hc_u21 : StX mdX6_recall_6 u18 u21 := hq.1
  have hs_u21 : StX mdX3_carryOut_10 u u21 := StX_tr hs_u18 hc_u21 (by decide)
  have : 0 ≤ r20.toInt ∧ r20.toInt ≤ 0 := hq.2.1
  refine Tot_gd (inb_t (by omega) (by omega)) ?_
  refine Tot_gd (inb_t (by omega) (by omega)) ?_
  have : 0 ≤ (u21.2.1 27 v2.toNatClampNeg).toInt ∧ (u21.2.1 27 v2.toNatClampNeg).toInt ≤ 400 := hs_u21.1.2.1 27 v2.toNatClampNeg
  refine Tot_lt (fun u25 e_u25 => ?_)
  have hs_u25 : StX mdX3_carryOut_10 u u25 := by rw [e_u25]; exact StX_sA hs_u21 (by decide) (by show 0 ≤ (u21.2.1 27 v2.toNatClampNeg).toInt; omega) (by show (u21.2.1 27 v2.toNatClampNeg).toInt ≤ 400; omega) (by decide)
  refine Tot_gd (inb_t (by omega) (by omega)) ?_
  refine Tot_gd (inb_t (by omega) (by omega)) ?_
  have : 0 ≤ (u25.2.1 28 v2.toNatClampNeg).toInt ∧ (u25.2.1 28 v2.toNatClampNeg).toInt ≤ 400 := hs_u25.1.2.1 28 v2.toNatClampNeg
  refine Tot_lt (fun u29 e_u29 => ?_)
  have hs_u29 : StX mdX3_carryOut_10 u u29 := by rw [e_u29]; exact StX_sA hs_u25 (by decide) (by show 0 ≤ (u25.2.1 28 v2.toNatClampNeg).toInt; omega) (by show (u25.2.1 28 v2.toNatClampNeg).toInt ≤ 400; omega) (by decide)
  refine Tot_gd (inb_t (by omega) (by omega)) ?_
  refine Tot_lt (fun u32 e_u32 => ?_)
  have hs_u32 : StX mdX3_carryOut_10 u u32 := by rw [e_u32]; exact StX_sA hs_u29 (by decide) (by show (-1) ≤ x2.toInt; omega) (by show x2.toInt ≤ 120; omega) (by decide)
  exact Tot_some ⟨hs_u32, (by show 0 ≤ (0 : Int) ∧ (0 : Int) ≤ 0; omega), trivial⟩

def mdX11_done_0 : MD := ([10, 11, 12], [27, 28, 31, 32, 33, 34, 35, 52, 53, 54, 55, 56], [], [])
abbrev qX11_done_0 (u : SX) (q : Int32 × SX) : Prop := StX mdX11_done_0 u q.2 ∧ (0 ≤ q.1.toInt ∧ q.1.toInt ≤ 1) ∧ (True)
set_option maxHeartbeats 400000 in
set_option maxRecDepth 10000 in
theorem tfX11_done_0 (x1 : Int32) (u : SX) (hI : IX u)  : Tot (fX11_done_0 x1 u) (qX11_done_0 u) := by
  unfold fX11_done_0
  have hs_u : StX mdX11_done_0 u u := StX_rf hI
  refine Tot_bind (tfX3_has_10 x1 u hs_u.1) (fun q hq => ?_)
  obtain ⟨r1, u2⟩ := q
  have hc_u2 : StX mdX3_has_10 u u2 := hq.1
  have hs_u2 : StX mdX11_done_0 u u2 := StX_tr hs_u hc_u2 (by decide)
  have : 0 ≤ r1.toInt ∧ r1.toInt ≤ 1 := hq.2.1
  have : 0 ≤ (u.1 29).toInt ∧ (u.1 29).toInt ≤ 10 := hs_u.1.1 29
  have : r1.toInt ≠ 0 → ((0 : Int) ≤ x1.toInt ∧ x1.toInt < (u.1 29).toInt) := hq.2.2
  refine Tot_ite (fun c683 => ?_) (fun c683 => ?_)
  · have : r1.toInt = (0 : Int) := eqI c683
    refine Tot_gd (by decide) ?_
    exact Tot_some ⟨hs_u2, (by show 0 ≤ (0 : Int) ∧ (0 : Int) ≤ 1; omega), trivial⟩
  · have : ¬ r1.toInt = (0 : Int) := neI c683
    refine Tot_bind (tfX3_isDone_10 x1 u2 hs_u2.1 ⟨by omega, by omega⟩) (fun q hq => ?_)
    obtain ⟨r5, u6⟩ := q
    have hc_u6 : StX mdX3_isDone_10 u2 u6 := hq.1
    have hs_u6 : StX mdX11_done_0 u u6 := StX_tr hs_u2 hc_u6 (by decide)
    have : 0 ≤ r5.toInt ∧ r5.toInt ≤ 1 := hq.2.1
    refine Tot_ite (fun c684 => ?_) (fun c684 => ?_)
    · have : r5.toInt = (0 : Int) := eqI c684
      have : (u6.1 0).toInt = (u2.1 0).toInt := congrArg Int32.toInt (hc_u6.2.1 0 (by decide))
      have : (u2.1 0).toInt = (u.1 0).toInt := congrArg Int32.toInt (hc_u2.2.1 0 (by decide))
      have : 0 ≤ (u.1 0).toInt ∧ (u.1 0).toInt ≤ 120 := hs_u.1.1 0
      refine Tot_bind (tfX3_carryOut_10 x1 (u6.1 0) u6 hs_u6.1 ⟨by omega, by omega⟩ ⟨by omega, by omega⟩) (fun q hq => ?_)
      obtain ⟨r8, u9⟩ := q
      have hc_u9 : StX mdX3_carryOut_10 u6 u9 := hq.1
      have hs_u9 : StX mdX11_done_0 u u9 := StX_tr hs_u6 hc_u9 (by decide)
      have : 0 ≤ r8.toInt ∧ r8.toInt ≤ 0 := hq.2.1
      refine Tot_gd (by decide) ?_
      exact Tot_some ⟨hs_u9, (by show 0 ≤ (1 : Int) ∧ (1 : Int) ≤ 1; omega), trivial⟩
    · have : ¬ r5.toInt = (0 : Int) := neI c684
      refine Tot_gd (by decide) ?_
      exact Tot_some ⟨hs_u6, (by show 0 ≤ (0 : Int) ∧ (0 : Int) ≤ 1; omega), trivial⟩

def mdX11_clean_0 : MD := ([9, 12], [26, 31, 32, 33, 34, 35], [], [])
abbrev qX11_clean_0 (u : SX) (q : Int32 × SX) : Prop := StX mdX11_clean_0 u q.2 ∧ (0 ≤ q.1.toInt ∧ q.1.toInt ≤ 1) ∧ (True)
set_option maxHeartbeats 400000 in
set_option maxRecDepth 10000 in
theorem tGX11_clean_0_36 (u0 : SX)    (z1 : Int32) (z2 : Int32) (z3 : Int32) (z4 : Int32) (y0 : Int32) (u : SX) (hs_u : StX mdX11_clean_0 u0 u) (h0 : 0 ≤ y0.toInt ∧ y0.toInt ≤ 1) (h1 : y0.toInt ≠ 0 → ((0 : Int) ≤ z1.toInt ∧ z1.toInt < (u.1 8).toInt ∧ (0 : Int) ≤ z2.toInt ∧ z3.toInt ≤ (400 : Int) ∧ z2.toInt ≤ z3.toInt ∧ (0 : Int) ≤ z4.toInt ∧ z4.toInt ≤ (400 : Int))) : Tot (GX11_clean_0_36 z1 z2 z3 z4 y0 u) (qX11_clean_0 u0) := by
  unfold GX11_clean_0_36
  have : 0 ≤ (u.1 8).toInt ∧ (u.1 8).toInt ≤ 12 := hs_u.1.1 8
  refine Tot_ite (fun c685 => ?_) (fun c685 => ?_)
  · have : y0.toInt = (0 : Int) := eqI c685
    refine Tot_gd (by decide) ?_
    exact Tot_some ⟨hs_u, (by show 0 ≤ (0 : Int) ∧ (0 : Int) ≤ 1; omega), trivial⟩
  · have : ¬ y0.toInt = (0 : Int) := neI c685
    have : 0 ≤ (u.1 9).toInt ∧ (u.1 9).toInt ≤ 20 := hs_u.1.1 9
    refine Tot_ite (fun c686 => ?_) (fun c686 => ?_)
    · have : (u.1 9).toInt < (20 : Int) := ltI c686
      have : ((u.1 9) + 1).toInt = (u.1 9).toInt + (1 : Int) := addc_t (by decide) (by omega) (by omega)
      refine Tot_lt (fun u5 e_u5 => ?_)
      have hs_u5 : StX mdX11_clean_0 u0 u5 := by rw [e_u5]; exact StX_sI hs_u (by decide) (by show 0 ≤ ((u.1 9) + 1).toInt; omega) (by show ((u.1 9) + 1).toInt ≤ 20; omega)
      refine Tot_gd (inb_t (by omega) (by omega)) ?_
      refine Tot_lt (fun u8 e_u8 => ?_)
      have hs_u8 : StX mdX11_clean_0 u0 u8 := by rw [e_u8]; exact StX_sA hs_u5 (by decide) (by show 0 ≤ z4.toInt; omega) (by show z4.toInt ≤ 400; omega) (by decide)
      have : (u8.1 0).toInt = (u5.1 0).toInt := by rw [e_u8]; rfl
      have : (u5.1 0).toInt = (u.1 0).toInt := by rw [e_u5]; rfl
      have : 0 ≤ (u.1 0).toInt ∧ (u.1 0).toInt ≤ 120 := hs_u.1.1 0
      refine Tot_bind (tfX6_change_6 z1 z2 z3 (u8.1 0) 1 u8 hs_u8.1 ⟨by omega, by omega⟩ ⟨by omega, by omega⟩ ⟨by omega, by omega⟩ ⟨by omega, by omega⟩ (by show 0 ≤ (1 : Int) ∧ (1 : Int) ≤ 1; omega)) (fun q hq => ?_)
      obtain ⟨r10, u11⟩ := q
      have hc_u11 : StX mdX6_change_6 u8 u11 := hq.1
      have hs_u11 : StX mdX11_clean_0 u0 u11 := StX_tr hs_u8 hc_u11 (by decide)
      have : 0 ≤ r10.toInt ∧ r10.toInt ≤ 0 := hq.2.1
      refine Tot_gd (by decide) ?_
      exact Tot_some ⟨hs_u11, (by show 0 ≤ (1 : Int) ∧ (1 : Int) ≤ 1; omega), trivial⟩
    · have : ¬ (u.1 9).toInt < (20 : Int) := nltI c686
      refine Tot_gd (by decide) ?_
      exact Tot_some ⟨hs_u, (by show 0 ≤ (0 : Int) ∧ (0 : Int) ≤ 1; omega), trivial⟩
set_option maxHeartbeats 400000 in
set_option maxRecDepth 10000 in
theorem tGX11_clean_0_35 (u0 : SX)    (z1 : Int32) (z2 : Int32) (z3 : Int32) (z4 : Int32) (u : SX) (hs_u : StX mdX11_clean_0 u0 u)  : Tot (GX11_clean_0_35 z1 z2 z3 z4 u) (qX11_clean_0 u0) := by
  unfold GX11_clean_0_35
  have : 0 ≤ (u.1 8).toInt ∧ (u.1 8).toInt ≤ 12 := hs_u.1.1 8
  exact tGX11_clean_0_36 u0 z1 z2 z3 z4 0 u hs_u (by show 0 ≤ (0 : Int) ∧ (0 : Int) ≤ 1; omega) (by show (0 : Int) ≠ 0 → ((0 : Int) ≤ z1.toInt ∧ z1.toInt < (u.1 8).toInt ∧ (0 : Int) ≤ z2.toInt ∧ z3.toInt ≤ (400 : Int) ∧ z2.toInt ≤ z3.toInt ∧ (0 : Int) ≤ z4.toInt ∧ z4.toInt ≤ (400 : Int)); omega)
set_option maxHeartbeats 400000 in
set_option maxRecDepth 10000 in
theorem tfX11_clean_0 (x1 : Int32) (x2 : Int32) (x3 : Int32) (x4 : Int32) (u : SX) (hI : IX u)  : Tot (fX11_clean_0 x1 x2 x3 x4 u) (qX11_clean_0 u) := by
  unfold fX11_clean_0
  have hs_u : StX mdX11_clean_0 u u := StX_rf hI
  refine Tot_bind (tfX6_has_6 x1 u hs_u.1) (fun q hq => ?_)
  obtain ⟨r1, u2⟩ := q
  have hc_u2 : StX mdX6_has_6 u u2 := hq.1
  have hs_u2 : StX mdX11_clean_0 u u2 := StX_tr hs_u hc_u2 (by decide)
  have : 0 ≤ r1.toInt ∧ r1.toInt ≤ 1 := hq.2.1
  have : 0 ≤ (u.1 8).toInt ∧ (u.1 8).toInt ≤ 12 := hs_u.1.1 8
  have : r1.toInt ≠ 0 → ((0 : Int) ≤ x1.toInt ∧ x1.toInt < (u.1 8).toInt) := hq.2.2
  refine Tot_ite (fun c687 => ?_) (fun c687 => ?_)
  · have : r1.toInt = (0 : Int) := eqI c687
    exact tGX11_clean_0_35 u x1 x2 x3 x4 u2 hs_u2
  · have : ¬ r1.toInt = (0 : Int) := neI c687
    refine Tot_bind (tfX11_isLoudness x2 x3) (fun r15 hq => ?_)
    have : 0 ≤ r15.toInt ∧ r15.toInt ≤ 1 := hq.1
    have : r15.toInt ≠ 0 → ((0 : Int) ≤ x2.toInt ∧ x3.toInt ≤ (400 : Int) ∧ x2.toInt ≤ x3.toInt) := hq.2
    refine Tot_ite (fun c688 => ?_) (fun c688 => ?_)
    · have : r15.toInt = (0 : Int) := eqI c688
      exact tGX11_clean_0_35 u x1 x2 x3 x4 u2 hs_u2
    · have : ¬ r15.toInt = (0 : Int) := neI c688
      refine Tot_bind (tfX11_within x4 0 400) (fun r18 hq => ?_)
      have : 0 ≤ r18.toInt ∧ r18.toInt ≤ 1 := hq.1
      have : r18.toInt ≠ 0 → ((0 : Int) ≤ x4.toInt ∧ x4.toInt ≤ (400 : Int)) := hq.2
      refine Tot_ite (fun c689 => ?_) (fun c689 => ?_)
      · have : r18.toInt = (0 : Int) := eqI c689
        exact tGX11_clean_0_35 u x1 x2 x3 x4 u2 hs_u2
      · have : ¬ r18.toInt = (0 : Int) := neI c689
        have : (u2.1 8).toInt = (u.1 8).toInt := congrArg Int32.toInt (hc_u2.2.1 8 (by decide))
        exact tGX11_clean_0_36 u x1 x2 x3 x4 1 u2 hs_u2 (by show 0 ≤ (1 : Int) ∧ (1 : Int) ≤ 1; omega) (by show (1 : Int) ≠ 0 → ((0 : Int) ≤ x1.toInt ∧ x1.toInt < (u2.1 8).toInt ∧ (0 : Int) ≤ x2.toInt ∧ x3.toInt ≤ (400 : Int) ∧ x2.toInt ≤ x3.toInt ∧ (0 : Int) ≤ x4.toInt ∧ x4.toInt ≤ (400 : Int)); omega)

def mdX3_gain_10 : MD := ([], [16, 17, 41], [], [])
abbrev qX3_gain_10 (u : SX) (q : Int32 × SX) : Prop := StX mdX3_gain_10 u q.2 ∧ (True) ∧ (True)
set_option maxHeartbeats 400000 in
set_option maxRecDepth 10000 in
theorem tfX3_gain_10 (x1 : Int32) (x2 : Int32) (u : SX) (hI : IX u) (h0 : 0 ≤ x1.toInt ∧ x1.toInt ≤ 9) (h1 : 0 ≤ x2.toInt ∧ x2.toInt ≤ 79) : Tot (fX3_gain_10 x1 x2 u) (qX3_gain_10 u) := by
  unfold fX3_gain_10
  have hs_u : StX mdX3_gain_10 u u := StX_rf hI
  refine Tot_gd (inb_t (by omega) (by omega)) ?_
  have : 0 ≤ (u.2.1 48 x1.toNatClampNeg).toInt ∧ (u.2.1 48 x1.toNatClampNeg).toInt ≤ 11 := hs_u.1.2.1 48 x1.toNatClampNeg
  refine Tot_bind (tfX7_leanOf_7 x2 (u.2.1 48 x1.toNatClampNeg) u hs_u.1 ⟨by omega, by omega⟩ ⟨by omega, by omega⟩) (fun q hq => ?_)
  obtain ⟨r2, u3⟩ := q
  have hc_u3 : StX mdX7_leanOf_7 u u3 := hq.1
  have hs_u3 : StX mdX3_gain_10 u u3 := StX_tr hs_u hc_u3 (by decide)
  refine Tot_gd (inb_t (by omega) (by omega)) ?_
  refine Tot_gd (inb_t (by omega) (by omega)) ?_
  have : 0 ≤ (u3.2.1 53 x1.toNatClampNeg).toInt ∧ (u3.2.1 53 x1.toNatClampNeg).toInt ≤ 400 := hs_u3.1.2.1 53 x1.toNatClampNeg
  have : 0 ≤ (u3.2.1 54 x1.toNatClampNeg).toInt ∧ (u3.2.1 54 x1.toNatClampNeg).toInt ≤ 400 := hs_u3.1.2.1 54 x1.toNatClampNeg
  refine Tot_bind (tfX11_spread (u3.2.1 53 x1.toNatClampNeg) (u3.2.1 54 x1.toNatClampNeg) r2 ⟨by omega, by omega⟩ ⟨by omega, by omega⟩) (fun r7 hq => ?_)
  refine Tot_gd (inb_t (by omega) (by omega)) ?_
  refine Tot_gd (inb_t (by omega) (by omega)) ?_
  have : 0 ≤ (u3.2.1 55 x1.toNatClampNeg).toInt ∧ (u3.2.1 55 x1.toNatClampNeg).toInt ≤ 400 := hs_u3.1.2.1 55 x1.toNatClampNeg
  have : 0 ≤ (u3.2.1 56 x1.toNatClampNeg).toInt ∧ (u3.2.1 56 x1.toNatClampNeg).toInt ≤ 400 := hs_u3.1.2.1 56 x1.toNatClampNeg
  refine Tot_bind (tfX11_spread (u3.2.1 55 x1.toNatClampNeg) (u3.2.1 56 x1.toNatClampNeg) r2 ⟨by omega, by omega⟩ ⟨by omega, by omega⟩) (fun r12 hq => ?_)
  exact Tot_some ⟨hs_u3, trivial, trivial⟩

def mdX11_narrows_0 : MD := ([], [16, 17, 41], [], [])
abbrev qX11_narrows_0 (u : SX) (q : Int32 × SX) : Prop := StX mdX11_narrows_0 u q.2 ∧ (True) ∧ (True)
set_option maxHeartbeats 400000 in
set_option maxRecDepth 10000 in
theorem tfX11_narrows_0 (x1 : Int32) (x2 : Int32) (u : SX) (hI : IX u)  : Tot (fX11_narrows_0 x1 x2 u) (qX11_narrows_0 u) := by
  unfold fX11_narrows_0
  have hs_u : StX mdX11_narrows_0 u u := StX_rf hI
  refine Tot_bind (tfX3_has_10 x1 u hs_u.1) (fun q hq => ?_)
  obtain ⟨r1, u2⟩ := q
  have hc_u2 : StX mdX3_has_10 u u2 := hq.1
  have hs_u2 : StX mdX11_narrows_0 u u2 := StX_tr hs_u hc_u2 (by decide)
  have : 0 ≤ r1.toInt ∧ r1.toInt ≤ 1 := hq.2.1
  have : 0 ≤ (u.1 29).toInt ∧ (u.1 29).toInt ≤ 10 := hs_u.1.1 29
  have : r1.toInt ≠ 0 → ((0 : Int) ≤ x1.toInt ∧ x1.toInt < (u.1 29).toInt) := hq.2.2
  refine Tot_ite (fun c690 => ?_) (fun c690 => ?_)
  · have : r1.toInt = (0 : Int) := eqI c690
    exact Tot_some ⟨hs_u2, trivial, trivial⟩
  · have : ¬ r1.toInt = (0 : Int) := neI c690
    refine Tot_bind (tfX3_isDone_10 x1 u2 hs_u2.1 ⟨by omega, by omega⟩) (fun q hq => ?_)
    obtain ⟨r4, u5⟩ := q
    have hc_u5 : StX mdX3_isDone_10 u2 u5 := hq.1
    have hs_u5 : StX mdX11_narrows_0 u u5 := StX_tr hs_u2 hc_u5 (by decide)
    have : 0 ≤ r4.toInt ∧ r4.toInt ≤ 1 := hq.2.1
    refine Tot_ite (fun c691 => ?_) (fun c691 => ?_)
    · have : r4.toInt = (0 : Int) := eqI c691
      exact Tot_some ⟨hs_u5, trivial, trivial⟩
    · have : ¬ r4.toInt = (0 : Int) := neI c691
      refine Tot_bind (tfX7_has_7 x2 u5 hs_u5.1) (fun q hq => ?_)
      obtain ⟨r7, u8⟩ := q
      have hc_u8 : StX mdX7_has_7 u5 u8 := hq.1
      have hs_u8 : StX mdX11_narrows_0 u u8 := StX_tr hs_u5 hc_u8 (by decide)
      have : 0 ≤ r7.toInt ∧ r7.toInt ≤ 1 := hq.2.1
      have : (u5.1 13).toInt = (u2.1 13).toInt := congrArg Int32.toInt (hc_u5.2.1 13 (by decide))
      have : (u2.1 13).toInt = (u.1 13).toInt := congrArg Int32.toInt (hc_u2.2.1 13 (by decide))
      have : 0 ≤ (u.1 13).toInt ∧ (u.1 13).toInt ≤ 80 := hs_u.1.1 13
      have : r7.toInt ≠ 0 → ((0 : Int) ≤ x2.toInt ∧ x2.toInt < (u5.1 13).toInt) := hq.2.2
      refine Tot_ite (fun c692 => ?_) (fun c692 => ?_)
      · have : r7.toInt = (0 : Int) := eqI c692
        exact Tot_some ⟨hs_u8, trivial, trivial⟩
      · have : ¬ r7.toInt = (0 : Int) := neI c692
        refine Tot_bind (tfX3_gain_10 x1 x2 u8 hs_u8.1 ⟨by omega, by omega⟩ ⟨by omega, by omega⟩) (fun q hq => ?_)
        obtain ⟨r10, u11⟩ := q
        have hc_u11 : StX mdX3_gain_10 u8 u11 := hq.1
        have hs_u11 : StX mdX11_narrows_0 u u11 := StX_tr hs_u8 hc_u11 (by decide)
        exact Tot_some ⟨hs_u11, trivial, trivial⟩

def mdX3_idle_10 : MD := ([], [], [], [])
abbrev qX3_idle_10 (u : SX) (q : Int32 × SX) : Prop := StX mdX3_idle_10 u q.2 ∧ (True) ∧ (True)
set_option maxHeartbeats 400000 in
set_option maxRecDepth 10000 in
theorem tGX3_idle_10_56 (u0 : SX) (g4 : Int) {k4 : Int32 → Int32 → SX → Option (Int32 × SX)} (hk4 : ∀ (z1 : Int32) (z2 : Int32) (u : SX), (StX mdX3_idle_10 u0 u) → (0 ≤ z2.toInt ∧ z2.toInt ≤ 10) → (g4 < z2.toInt) → Tot (k4 z1 z2 u) (qX3_idle_10 u0)) (z1 : Int32) (z2 : Int32) (u : SX) (hs_u : StX mdX3_idle_10 u0 u) (h0 : 0 ≤ z2.toInt ∧ z2.toInt ≤ 9) (h1 : g4 ≤ z2.toInt) : Tot (GX3_idle_10_56 k4 z1 z2 u) (qX3_idle_10 u0) := by
  unfold GX3_idle_10_56
  have : (z2 + 1).toInt = z2.toInt + (1 : Int) := addc_t (by decide) (by omega) (by omega)
  exact hk4 z1 (z2 + 1) u hs_u ⟨by omega, by omega⟩ (by omega)
set_option maxHeartbeats 400000 in
set_option maxRecDepth 10000 in
theorem tLX3_idle_10_4 (u0 : SX)    : ∀ (n : Nat) (z1 : Int32) (z2 : Int32) (u : SX), (StX mdX3_idle_10 u0 u) → (0 ≤ z2.toInt ∧ z2.toInt ≤ 10) → (10 - z2.toInt < (n : Int)) → Tot (LX3_idle_10_4 n z1 z2 u) (qX3_idle_10 u0) := by
  intro n
  induction n with
  | zero =>
    intro z1 z2 u hs_u h0 hm
    exfalso
    omega
  | succ n ih =>
    intro z1 z2 u hs_u h0 hm
    rw [LX3_idle_10_4]
    have : 0 ≤ (u.1 29).toInt ∧ (u.1 29).toInt ≤ 10 := hs_u.1.1 29
    refine Tot_ite (fun c693 => ?_) (fun c693 => ?_)
    · have : (u.1 29).toInt ≤ z2.toInt := leI c693
      exact Tot_some ⟨hs_u, trivial, trivial⟩
    · have : ¬ (u.1 29).toInt ≤ z2.toInt := nleI c693
      refine Tot_bind (tfX3_isDone_10 z2 u hs_u.1 ⟨by omega, by omega⟩) (fun q hq => ?_)
      obtain ⟨r1, u2⟩ := q
      have hc_u2 : StX mdX3_isDone_10 u u2 := hq.1
      have hs_u2 : StX mdX3_idle_10 u0 u2 := StX_tr hs_u hc_u2 (by decide)
      have : 0 ≤ r1.toInt ∧ r1.toInt ≤ 1 := hq.2.1
      refine Tot_ite (fun c694 => ?_) (fun c694 => ?_)
      · have : r1.toInt = (0 : Int) := eqI c694
        exact tGX3_idle_10_56 u0 (z2.toInt) (fun a695 a696 w697 hw697 p698 p699 => ih a695 a696 w697 hw697 p698 (by omega)) z1 z2 u2 hs_u2 ⟨by omega, by omega⟩ (by omega)
      · have : ¬ r1.toInt = (0 : Int) := neI c694
        refine Tot_gd (inb_t (by omega) (by omega)) ?_
        refine Tot_gd (inb_t (by omega) (by omega)) ?_
        have : 0 ≤ (u2.2.1 53 z2.toNatClampNeg).toInt ∧ (u2.2.1 53 z2.toNatClampNeg).toInt ≤ 400 := hs_u2.1.2.1 53 z2.toNatClampNeg
        have : 0 ≤ (u2.2.1 55 z2.toNatClampNeg).toInt ∧ (u2.2.1 55 z2.toNatClampNeg).toInt ≤ 400 := hs_u2.1.2.1 55 z2.toNatClampNeg
        refine Tot_ite (fun c700 => ?_) (fun c700 => ?_)
        · have : (u2.2.1 53 z2.toNatClampNeg).toInt = (u2.2.1 55 z2.toNatClampNeg).toInt := eqI c700
          refine Tot_gd (inb_t (by omega) (by omega)) ?_
          refine Tot_gd (inb_t (by omega) (by omega)) ?_
          have : 0 ≤ (u2.2.1 54 z2.toNatClampNeg).toInt ∧ (u2.2.1 54 z2.toNatClampNeg).toInt ≤ 400 := hs_u2.1.2.1 54 z2.toNatClampNeg
          have : 0 ≤ (u2.2.1 56 z2.toNatClampNeg).toInt ∧ (u2.2.1 56 z2.toNatClampNeg).toInt ≤ 400 := hs_u2.1.2.1 56 z2.toNatClampNeg
          refine Tot_ite (fun c701 => ?_) (fun c701 => ?_)
          · have : (u2.2.1 54 z2.toNatClampNeg).toInt = (u2.2.1 56 z2.toNatClampNeg).toInt := eqI c701
            refine Tot_lt (fun v8 e_v8 => ?_)
            exact tGX3_idle_10_56 u0 (z2.toInt) (fun a702 a703 w704 hw704 p705 p706 => ih a702 a703 w704 hw704 p705 (by omega)) v8 z2 u2 hs_u2 ⟨by omega, by omega⟩ (by omega)
          · exact tGX3_idle_10_56 u0 (z2.toInt) (fun a707 a708 w709 hw709 p710 p711 => ih a707 a708 w709 hw709 p710 (by omega)) z1 z2 u2 hs_u2 ⟨by omega, by omega⟩ (by omega)
        · exact tGX3_idle_10_56 u0 (z2.toInt) (fun a712 a713 w714 hw714 p715 p716 => ih a712 a713 w714 hw714 p715 (by omega)) z1 z2 u2 hs_u2 ⟨by omega, by omega⟩ (by omega)
set_option maxHeartbeats 400000 in
set_option maxRecDepth 10000 in
theorem tfX3_idle_10  (u : SX) (hI : IX u)  : Tot (fX3_idle_10  u) (qX3_idle_10 u) := by
  unfold fX3_idle_10
  have hs_u : StX mdX3_idle_10 u u := StX_rf hI
  exact tLX3_idle_10_4 u 5000 0 0 u hs_u (by show 0 ≤ (0 : Int) ∧ (0 : Int) ≤ 10; omega) (by show 10 - (0 : Int) < ((5000 : Nat) : Int); omega)

def mdX11_nothing_0 : MD := ([], [], [], [])
abbrev qX11_nothing_0 (u : SX) (q : Int32 × SX) : Prop := StX mdX11_nothing_0 u q.2 ∧ (True) ∧ (True)
set_option maxHeartbeats 400000 in
set_option maxRecDepth 10000 in
theorem tfX11_nothing_0  (u : SX) (hI : IX u)  : Tot (fX11_nothing_0  u) (qX11_nothing_0 u) := by
  unfold fX11_nothing_0
  have hs_u : StX mdX11_nothing_0 u u := StX_rf hI
  refine Tot_bind (tfX3_idle_10 u hs_u.1) (fun q hq => ?_)
  obtain ⟨r1, u2⟩ := q
  have hc_u2 : StX mdX3_idle_10 u u2 := hq.1
  have hs_u2 : StX mdX11_nothing_0 u u2 := StX_tr hs_u hc_u2 (by decide)
  exact Tot_some ⟨hs_u2, trivial, trivial⟩

def mdX3_rowSpread_10 : MD := ([], [16, 17, 41], [], [])
abbrev qX3_rowSpread_10 (u : SX) (q : Int32 × SX) : Prop := StX mdX3_rowSpread_10 u q.2 ∧ (True) ∧ (True)
set_option maxHeartbeats 400000 in
set_option maxRecDepth 10000 in
theorem tfX3_rowSpread_10 (x1 : Int32) (u : SX) (hI : IX u) (h0 : 0 ≤ x1.toInt ∧ x1.toInt ≤ 11) : Tot (fX3_rowSpread_10 x1 u) (qX3_rowSpread_10 u) := by
  unfold fX3_rowSpread_10
  have hs_u : StX mdX3_rowSpread_10 u u := StX_rf hI
  refine Tot_gd (inb_t (by omega) (by omega)) ?_
  refine Tot_gd (inb_t (by omega) (by omega)) ?_
  have : 0 ≤ (u.1 32).toInt ∧ (u.1 32).toInt ≤ 79 := hs_u.1.1 32
  refine Tot_bind (tfX7_leanOf_7 (u.1 32) x1 u hs_u.1 ⟨by omega, by omega⟩ ⟨by omega, by omega⟩) (fun q hq => ?_)
  obtain ⟨r3, u4⟩ := q
  have hc_u4 : StX mdX7_leanOf_7 u u4 := hq.1
  have hs_u4 : StX mdX3_rowSpread_10 u u4 := StX_tr hs_u hc_u4 (by decide)
  have : 0 ≤ (u.2.1 57 x1.toNatClampNeg).toInt ∧ (u.2.1 57 x1.toNatClampNeg).toInt ≤ 400 := hs_u.1.2.1 57 x1.toNatClampNeg
  have : 0 ≤ (u.2.1 58 x1.toNatClampNeg).toInt ∧ (u.2.1 58 x1.toNatClampNeg).toInt ≤ 400 := hs_u.1.2.1 58 x1.toNatClampNeg
  refine Tot_bind (tfX11_spread (u.2.1 57 x1.toNatClampNeg) (u.2.1 58 x1.toNatClampNeg) r3 ⟨by omega, by omega⟩ ⟨by omega, by omega⟩) (fun r6 hq => ?_)
  exact Tot_some ⟨hs_u4, trivial, trivial⟩

def mdX3_startRow_10 : MD := ([10, 11, 32, 33], [16, 17, 27, 28, 41, 57, 58], [], [])
abbrev qX3_startRow_10 (u : SX) (q : Int32 × SX) : Prop := StX mdX3_startRow_10 u q.2 ∧ (0 ≤ q.1.toInt ∧ q.1.toInt ≤ 0) ∧ (True)
set_option maxHeartbeats 400000 in
set_option maxRecDepth 10000 in
theorem tLX3_startRow_10_20 (u0 : SX)    : ∀ (n : Nat) (z3 : Int32) (u : SX), (StX mdX3_startRow_10 u0 u) → (0 ≤ z3.toInt ∧ z3.toInt ≤ 12) → (12 - z3.toInt < (n : Int)) → Tot (LX3_startRow_10_20 n z3 u) (qX3_startRow_10 u0) := by
  intro n
  induction n with
  | zero =>
    intro z3 u hs_u h0 hm
    exfalso
    omega
  | succ n ih =>
    intro z3 u hs_u h0 hm
    rw [LX3_startRow_10_20]
    have : 0 ≤ (u.1 10).toInt ∧ (u.1 10).toInt ≤ 12 := hs_u.1.1 10
    refine Tot_ite (fun c717 => ?_) (fun c717 => ?_)
    · have : (u.1 10).toInt ≤ z3.toInt := leI c717
      exact Tot_some ⟨hs_u, (by show 0 ≤ (0 : Int) ∧ (0 : Int) ≤ 0; omega), trivial⟩
    · have : ¬ (u.1 10).toInt ≤ z3.toInt := nleI c717
      refine Tot_gd (inb_t (by omega) (by omega)) ?_
      refine Tot_gd (inb_t (by omega) (by omega)) ?_
      have : 0 ≤ (u.2.1 27 z3.toNatClampNeg).toInt ∧ (u.2.1 27 z3.toNatClampNeg).toInt ≤ 400 := hs_u.1.2.1 27 z3.toNatClampNeg
      refine Tot_lt (fun u10 e_u10 => ?_)
      have hs_u10 : StX mdX3_startRow_10 u0 u10 := by rw [e_u10]; exact StX_sA hs_u (by decide) (by show 0 ≤ (u.2.1 27 z3.toNatClampNeg).toInt; omega) (by show (u.2.1 27 z3.toNatClampNeg).toInt ≤ 400; omega) (by decide)
      refine Tot_gd (inb_t (by omega) (by omega)) ?_
      refine Tot_gd (inb_t (by omega) (by omega)) ?_
      have : 0 ≤ (u10.2.1 28 z3.toNatClampNeg).toInt ∧ (u10.2.1 28 z3.toNatClampNeg).toInt ≤ 400 := hs_u10.1.2.1 28 z3.toNatClampNeg
      refine Tot_lt (fun u14 e_u14 => ?_)
      have hs_u14 : StX mdX3_startRow_10 u0 u14 := by rw [e_u14]; exact StX_sA hs_u10 (by decide) (by show 0 ≤ (u10.2.1 28 z3.toNatClampNeg).toInt; omega) (by show (u10.2.1 28 z3.toNatClampNeg).toInt ≤ 400; omega) (by decide)
      refine Tot_bind (tfX3_rowSpread_10 z3 u14 hs_u14.1 ⟨by omega, by omega⟩) (fun q hq => ?_)
      obtain ⟨r16, u17⟩ := q
      have hc_u17 : StX mdX3_rowSpread_10 u14 u17 := hq.1
      have hs_u17 : StX mdX3_startRow_10 u0 u17 := StX_tr hs_u14 hc_u17 (by decide)
      refine Tot_lt (fun u19 e_u19 => ?_)
      have hs_u19 : StX mdX3_startRow_10 u0 u19 := by rw [e_u19]; exact StX_sIf hs_u17 (by decide) rfl rfl
      have : (z3 + 1).toInt = z3.toInt + (1 : Int) := addc_t (by decide) (by omega) (by omega)
      exact ih (z3 + 1) u19 hs_u19 ⟨by omega, by omega⟩ (by omega)
set_option maxHeartbeats 400000 in
set_option maxRecDepth 10000 in
theorem tfX3_startRow_10 (x1 : Int32) (x2 : Int32) (u : SX) (hI : IX u) (h0 : 0 ≤ x1.toInt ∧ x1.toInt ≤ 79) (h1 : 0 ≤ x2.toInt ∧ x2.toInt ≤ 120) : Tot (fX3_startRow_10 x1 x2 u) (qX3_startRow_10 u) := by
  unfold fX3_startRow_10
  have hs_u : StX mdX3_startRow_10 u u := StX_rf hI
  refine Tot_bind (tfX6_recall_6 x2 u hs_u.1 ⟨by omega, by omega⟩) (fun q hq => ?_)
  obtain ⟨r1, u2⟩ := q
  have hc_u2 : StX mdX6_recall_6 u u2 := hq.1
  have hs_u2 : StX mdX3_startRow_10 u u2 := StX_tr hs_u hc_u2 (by decide)
  have : 0 ≤ r1.toInt ∧ r1.toInt ≤ 0 := hq.2.1
  refine Tot_lt (fun u4 e_u4 => ?_)
  have hs_u4 : StX mdX3_startRow_10 u u4 := by rw [e_u4]; exact StX_sI hs_u2 (by decide) (by show 0 ≤ x1.toInt; omega) (by show x1.toInt ≤ 79; omega)
  refine Tot_lt (fun u6 e_u6 => ?_)
  have hs_u6 : StX mdX3_startRow_10 u u6 := by rw [e_u6]; exact StX_sIf hs_u4 (by decide) rfl rfl
  exact tLX3_startRow_10_20 u 5000 0 u6 hs_u6 (by show 0 ≤ (0 : Int) ∧ (0 : Int) ≤ 12; omega) (by show 12 - (0 : Int) < ((5000 : Nat) : Int); omega)

def mdX3_cut_10 : MD := ([], [57, 58], [], [])
abbrev qX3_cut_10 (u : SX) (q : Int32 × SX) : Prop := StX mdX3_cut_10 u q.2 ∧ (0 ≤ q.1.toInt ∧ q.1.toInt ≤ 0) ∧ (True)
set_option maxHeartbeats 400000 in
set_option maxRecDepth 10000 in
theorem tGX3_cut_10_68 (u0 : SX)    (z1 : Int32) (z2 : Int32) (z3 : Int32) (y0 : Int32) (y1 : Int32) (u : SX) (hs_u : StX mdX3_cut_10 u0 u) (h0 : 0 ≤ z1.toInt ∧ z1.toInt ≤ 9) (h1 : 0 ≤ z2.toInt ∧ z2.toInt ≤ 11) (h2 : 0 ≤ z3.toInt ∧ z3.toInt ≤ 1) (h3 : 0 ≤ y0.toInt ∧ y0.toInt ≤ 400) (h4 : 0 ≤ y1.toInt ∧ y1.toInt ≤ 11) : Tot (GX3_cut_10_68 z1 z2 z3 y0 y1 u) (qX3_cut_10 u0) := by
  unfold GX3_cut_10_68
  refine Tot_gd (inb_t (by omega) (by omega)) ?_
  refine Tot_lt (fun u14 e_u14 => ?_)
  have hs_u14 : StX mdX3_cut_10 u0 u14 := by rw [e_u14]; exact StX_sA hs_u (by decide) (by show 0 ≤ y0.toInt; omega) (by show y0.toInt ≤ 400; omega) (by decide)
  refine Tot_ite (fun c718 => ?_) (fun c718 => ?_)
  · have : z3.toInt = (0 : Int) := eqI c718
    refine Tot_gd (inb_t (by omega) (by omega)) ?_
    refine Tot_gd (inb_t (by omega) (by omega)) ?_
    refine Tot_gd (inb_t (by omega) (by omega)) ?_
    have : 0 ≤ (u14.2.1 50 z1.toNatClampNeg).toInt ∧ (u14.2.1 50 z1.toNatClampNeg).toInt ≤ 400 := hs_u14.1.2.1 50 z1.toNatClampNeg
    have : 0 ≤ (u14.2.1 58 z2.toNatClampNeg).toInt ∧ (u14.2.1 58 z2.toNatClampNeg).toInt ≤ 400 := hs_u14.1.2.1 58 z2.toNatClampNeg
    have : ((u14.2.1 50 z1.toNatClampNeg).toInt < (u14.2.1 58 z2.toNatClampNeg).toInt ∧ (if (u14.2.1 50 z1.toNatClampNeg) < (u14.2.1 58 z2.toNatClampNeg) then (u14.2.1 50 z1.toNatClampNeg) else (u14.2.1 58 z2.toNatClampNeg)).toInt = (u14.2.1 50 z1.toNatClampNeg).toInt) ∨ (¬ (u14.2.1 50 z1.toNatClampNeg).toInt < (u14.2.1 58 z2.toNatClampNeg).toInt ∧ (if (u14.2.1 50 z1.toNatClampNeg) < (u14.2.1 58 z2.toNatClampNeg) then (u14.2.1 50 z1.toNatClampNeg) else (u14.2.1 58 z2.toNatClampNeg)).toInt = (u14.2.1 58 z2.toNatClampNeg).toInt) := ite_lt_t (x := (u14.2.1 50 z1.toNatClampNeg)) (y := (u14.2.1 58 z2.toNatClampNeg)) (p := (u14.2.1 50 z1.toNatClampNeg)) (q := (u14.2.1 58 z2.toNatClampNeg))
    refine Tot_lt (fun u19 e_u19 => ?_)
    have hs_u19 : StX mdX3_cut_10 u0 u19 := by rw [e_u19]; exact StX_sA hs_u14 (by decide) (by show 0 ≤ (if (u14.2.1 50 z1.toNatClampNeg) < (u14.2.1 58 z2.toNatClampNeg) then (u14.2.1 50 z1.toNatClampNeg) else (u14.2.1 58 z2.toNatClampNeg)).toInt; omega) (by show (if (u14.2.1 50 z1.toNatClampNeg) < (u14.2.1 58 z2.toNatClampNeg) then (u14.2.1 50 z1.toNatClampNeg) else (u14.2.1 58 z2.toNatClampNeg)).toInt ≤ 400; omega) (by decide)
    exact Tot_some ⟨hs_u19, (by show 0 ≤ (0 : Int) ∧ (0 : Int) ≤ 0; omega), trivial⟩
  · have : ¬ z3.toInt = (0 : Int) := neI c718
    refine Tot_gd (inb_t (by omega) (by omega)) ?_
    refine Tot_gd (inb_t (by omega) (by omega)) ?_
    have : 0 ≤ (u14.2.1 50 z1.toNatClampNeg).toInt ∧ (u14.2.1 50 z1.toNatClampNeg).toInt ≤ 400 := hs_u14.1.2.1 50 z1.toNatClampNeg
    refine Tot_lt (fun u23 e_u23 => ?_)
    have hs_u23 : StX mdX3_cut_10 u0 u23 := by rw [e_u23]; exact StX_sA hs_u14 (by decide) (by show 0 ≤ (u14.2.1 50 z1.toNatClampNeg).toInt; omega) (by show (u14.2.1 50 z1.toNatClampNeg).toInt ≤ 400; omega) (by decide)
    exact Tot_some ⟨hs_u23, (by show 0 ≤ (0 : Int) ∧ (0 : Int) ≤ 0; omega), trivial⟩
set_option maxHeartbeats 400000 in
set_option maxRecDepth 10000 in
theorem tfX3_cut_10 (x1 : Int32) (u : SX) (hI : IX u) (h0 : 0 ≤ x1.toInt ∧ x1.toInt ≤ 9) : Tot (fX3_cut_10 x1 u) (qX3_cut_10 u) := by
  unfold fX3_cut_10
  have hs_u : StX mdX3_cut_10 u u := StX_rf hI
  refine Tot_gd (inb_t (by omega) (by omega)) ?_
  have : 0 ≤ (u.2.1 48 x1.toNatClampNeg).toInt ∧ (u.2.1 48 x1.toNatClampNeg).toInt ≤ 11 := hs_u.1.2.1 48 x1.toNatClampNeg
  refine Tot_lt (fun v2 e_v2 => ?_)
  have : v2.toInt = (u.2.1 48 x1.toNatClampNeg).toInt := congrArg Int32.toInt e_v2
  refine Tot_gd (inb_t (by omega) (by omega)) ?_
  refine Tot_gd (inb_t (by omega) (by omega)) ?_
  refine Tot_gd (inb_t (by omega) (by omega)) ?_
  refine Tot_gd (inb_t (by omega) (by omega)) ?_
  have : 0 ≤ (u.2.1 57 v2.toNatClampNeg).toInt ∧ (u.2.1 57 v2.toNatClampNeg).toInt ≤ 400 := hs_u.1.2.1 57 v2.toNatClampNeg
  have : 0 ≤ (u.2.1 58 v2.toNatClampNeg).toInt ∧ (u.2.1 58 v2.toNatClampNeg).toInt ≤ 400 := hs_u.1.2.1 58 v2.toNatClampNeg
  have : 0 ≤ (u.2.1 49 x1.toNatClampNeg).toInt ∧ (u.2.1 49 x1.toNatClampNeg).toInt ≤ 400 := hs_u.1.2.1 49 x1.toNatClampNeg
  have : 0 ≤ (u.2.1 50 x1.toNatClampNeg).toInt ∧ (u.2.1 50 x1.toNatClampNeg).toInt ≤ 400 := hs_u.1.2.1 50 x1.toNatClampNeg
  refine Tot_bind (tfX6_apart (u.2.1 57 v2.toNatClampNeg) (u.2.1 58 v2.toNatClampNeg) (u.2.1 49 x1.toNatClampNeg) (u.2.1 50 x1.toNatClampNeg) ⟨by omega, by omega⟩ ⟨by omega, by omega⟩ ⟨by omega, by omega⟩ ⟨by omega, by omega⟩) (fun r8 hq => ?_)
  have : 0 ≤ r8.toInt ∧ r8.toInt ≤ 1 := hq.1
  refine Tot_ite (fun c719 => ?_) (fun c719 => ?_)
  · have : r8.toInt = (0 : Int) := eqI c719
    refine Tot_gd (inb_t (by omega) (by omega)) ?_
    refine Tot_gd (inb_t (by omega) (by omega)) ?_
    have : ((u.2.1 57 v2.toNatClampNeg).toInt < (u.2.1 49 x1.toNatClampNeg).toInt ∧ (if (u.2.1 57 v2.toNatClampNeg) < (u.2.1 49 x1.toNatClampNeg) then (u.2.1 49 x1.toNatClampNeg) else (u.2.1 57 v2.toNatClampNeg)).toInt = (u.2.1 49 x1.toNatClampNeg).toInt) ∨ (¬ (u.2.1 57 v2.toNatClampNeg).toInt < (u.2.1 49 x1.toNatClampNeg).toInt ∧ (if (u.2.1 57 v2.toNatClampNeg) < (u.2.1 49 x1.toNatClampNeg) then (u.2.1 49 x1.toNatClampNeg) else (u.2.1 57 v2.toNatClampNeg)).toInt = (u.2.1 57 v2.toNatClampNeg).toInt) := ite_lt_t (x := (u.2.1 57 v2.toNatClampNeg)) (y := (u.2.1 49 x1.toNatClampNeg)) (p := (u.2.1 49 x1.toNatClampNeg)) (q := (u.2.1 57 v2.toNatClampNeg))
    exact tGX3_cut_10_68 u x1 v2 r8 (if (u.2.1 57 v2.toNatClampNeg) < (u.2.1 49 x1.toNatClampNeg) then (u.2.1 49 x1.toNatClampNeg) else (u.2.1 57 v2.toNatClampNeg)) v2 u hs_u ⟨by omega, by omega⟩ ⟨by omega, by omega⟩ ⟨by omega, by omega⟩ ⟨by omega, by omega⟩ ⟨by omega, by omega⟩
  · have : ¬ r8.toInt = (0 : Int) := neI c719
    refine Tot_gd (inb_t (by omega) (by omega)) ?_
    exact tGX3_cut_10_68 u x1 v2 r8 (u.2.1 49 x1.toNatClampNeg) v2 u hs_u ⟨by omega, by omega⟩ ⟨by omega, by omega⟩ ⟨by omega, by omega⟩ ⟨by omega, by omega⟩ ⟨by omega, by omega⟩

def mdX3_choose_10 : MD := ([30, 31, 34], [16, 17, 41, 57, 58], [], [])
abbrev qX3_choose_10 (u : SX) (q : Int32 × SX) : Prop := StX mdX3_choose_10 u q.2 ∧ (0 ≤ q.1.toInt ∧ q.1.toInt ≤ 0) ∧ (True)

def RCrX3chooseg (rc : Nat → Int32 → Int32 → Int32 → Int32 → SX → Option (Int32 × SX)) (dd : Nat) : Prop := (∀ (x1 : Int32) (x2 : Int32) (x3 : Int32) (x4 : Int32) (u : SX), IX u → (0 ≤ x1.toInt ∧ x1.toInt ≤ 10) → ((-50) ≤ x2.toInt ∧ x2.toInt ≤ 500) → (11 - x1.toInt < (dd : Int)) → Tot (rc 0 x1 x2 x3 x4 u) (qX3_choose_10 u))

set_option maxHeartbeats 400000 in
set_option maxRecDepth 10000 in
theorem tGX3_choose_10_156 {rc : Nat → Int32 → Int32 → Int32 → Int32 → SX → Option (Int32 × SX)} {dd : Nat} (hrc : RCrX3chooseg rc dd) (u0 : SX)    (z1 : Int32) (z2 : Int32) (z3 : Int32) (z4 : Int32) (u : SX) (hs_u : StX mdX3_choose_10 u0 u) (h0 : 0 ≤ z1.toInt ∧ z1.toInt ≤ 9) (h1 : (-50) ≤ z2.toInt ∧ z2.toInt ≤ 500) (h2 : 11 - z1.toInt ≤ (dd : Int)) : Tot (GX3_choose_10_156 rc z1 z2 z3 z4 u) (qX3_choose_10 u0) := by
  unfold GX3_choose_10_156
  have : (z1 + 1).toInt = z1.toInt + (1 : Int) := addc_t (by decide) (by omega) (by omega)
  refine Tot_bind (hrc (z1 + 1) z2 z3 z4 u hs_u.1 ⟨by omega, by omega⟩ ⟨by omega, by omega⟩ (by show 11 - (z1 + 1).toInt < (dd : Int); omega)) (fun q hq => ?_)
  obtain ⟨r4, u5⟩ := q
  have hc_u5 : StX mdX3_choose_10 u u5 := hq.1
  have hs_u5 : StX mdX3_choose_10 u0 u5 := StX_tr hs_u hc_u5 (by decide)
  have : 0 ≤ r4.toInt ∧ r4.toInt ≤ 0 := hq.2.1
  exact Tot_some ⟨hs_u5, (by show 0 ≤ (0 : Int) ∧ (0 : Int) ≤ 0; omega), trivial⟩
set_option maxHeartbeats 400000 in
set_option maxRecDepth 10000 in
theorem tGX3_choose_10_32 {rc : Nat → Int32 → Int32 → Int32 → Int32 → SX → Option (Int32 × SX)} {dd : Nat} (hrc : RCrX3chooseg rc dd) (u0 : SX)    (z2 : Int32) (z3 : Int32) (z4 : Int32) (u : SX) (hs_u : StX mdX3_choose_10 u0 u) (h0 : (-50) ≤ z2.toInt ∧ z2.toInt ≤ 500) : Tot (GX3_choose_10_32 rc z2 z3 z4 u) (qX3_choose_10 u0) := by
  unfold GX3_choose_10_32
  refine Tot_lt (fun u36 e_u36 => ?_)
  have hs_u36 : StX mdX3_choose_10 u0 u36 := by rw [e_u36]; exact StX_sIf hs_u (by decide) rfl rfl
  refine Tot_lt (fun u38 e_u38 => ?_)
  have hs_u38 : StX mdX3_choose_10 u0 u38 := by rw [e_u38]; exact StX_sI hs_u36 (by decide) (by show (-50) ≤ z2.toInt; omega) (by show z2.toInt ≤ 500; omega)
  refine Tot_lt (fun u40 e_u40 => ?_)
  have hs_u40 : StX mdX3_choose_10 u0 u40 := by rw [e_u40]; exact StX_sIf hs_u38 (by decide) rfl rfl
  exact Tot_some ⟨hs_u40, (by show 0 ≤ (0 : Int) ∧ (0 : Int) ≤ 0; omega), trivial⟩
set_option maxHeartbeats 400000 in
set_option maxRecDepth 10000 in
theorem tfX3_choose_10 {rc : Nat → Int32 → Int32 → Int32 → Int32 → SX → Option (Int32 × SX)} {dd : Nat} (hrc : RCrX3chooseg rc dd) (x1 : Int32) (x2 : Int32) (x3 : Int32) (x4 : Int32) (u : SX) (hI : IX u) (h0 : 0 ≤ x1.toInt ∧ x1.toInt ≤ 10) (h1 : (-50) ≤ x2.toInt ∧ x2.toInt ≤ 500) (h2 : 11 - x1.toInt ≤ (dd : Int)) : Tot (fX3_choose_10 rc x1 x2 x3 x4 u) (qX3_choose_10 u) := by
  unfold fX3_choose_10
  have hs_u : StX mdX3_choose_10 u u := StX_rf hI
  have : 0 ≤ (u.1 29).toInt ∧ (u.1 29).toInt ≤ 10 := hs_u.1.1 29
  refine Tot_ite (fun c720 => ?_) (fun c720 => ?_)
  · have : x1.toInt < (u.1 29).toInt := ltI c720
    refine Tot_bind (tfX3_isDone_10 x1 u hs_u.1 ⟨by omega, by omega⟩) (fun q hq => ?_)
    obtain ⟨r1, u2⟩ := q
    have hc_u2 : StX mdX3_isDone_10 u u2 := hq.1
    have hs_u2 : StX mdX3_choose_10 u u2 := StX_tr hs_u hc_u2 (by decide)
    have : 0 ≤ r1.toInt ∧ r1.toInt ≤ 1 := hq.2.1
    refine Tot_ite (fun c721 => ?_) (fun c721 => ?_)
    · have : r1.toInt = (0 : Int) := eqI c721
      refine Tot_gd (inb_t (by omega) (by omega)) ?_
      have : 0 ≤ (u2.2.1 51 x1.toNatClampNeg).toInt ∧ (u2.2.1 51 x1.toNatClampNeg).toInt ≤ 50 := hs_u2.1.2.1 51 x1.toNatClampNeg
      refine Tot_ite (fun c722 => ?_) (fun c722 => ?_)
      · have : x2.toInt < (u2.2.1 51 x1.toNatClampNeg).toInt := ltI c722
        exact tGX3_choose_10_156 hrc u x1 x2 x3 x4 u2 hs_u2 ⟨by omega, by omega⟩ ⟨by omega, by omega⟩ (by omega)
      · have : ¬ x2.toInt < (u2.2.1 51 x1.toNatClampNeg).toInt := nltI c722
        refine Tot_gd (inb_t (by omega) (by omega)) ?_
        have : 0 ≤ (u2.2.1 48 x1.toNatClampNeg).toInt ∧ (u2.2.1 48 x1.toNatClampNeg).toInt ≤ 11 := hs_u2.1.2.1 48 x1.toNatClampNeg
        refine Tot_lt (fun v9 e_v9 => ?_)
        have : v9.toInt = (u2.2.1 48 x1.toNatClampNeg).toInt := congrArg Int32.toInt e_v9
        refine Tot_gd (inb_t (by omega) (by omega)) ?_
        have : 0 ≤ (u2.2.1 57 v9.toNatClampNeg).toInt ∧ (u2.2.1 57 v9.toNatClampNeg).toInt ≤ 400 := hs_u2.1.2.1 57 v9.toNatClampNeg
        refine Tot_lt (fun v12 e_v12 => ?_)
        have : v12.toInt = (u2.2.1 57 v9.toNatClampNeg).toInt := congrArg Int32.toInt e_v12
        refine Tot_gd (inb_t (by omega) (by omega)) ?_
        have : 0 ≤ (u2.2.1 58 v9.toNatClampNeg).toInt ∧ (u2.2.1 58 v9.toNatClampNeg).toInt ≤ 400 := hs_u2.1.2.1 58 v9.toNatClampNeg
        refine Tot_lt (fun v15 e_v15 => ?_)
        have : v15.toInt = (u2.2.1 58 v9.toNatClampNeg).toInt := congrArg Int32.toInt e_v15
        refine Tot_bind (tfX3_rowSpread_10 v9 u2 hs_u2.1 ⟨by omega, by omega⟩) (fun q hq => ?_)
        obtain ⟨r17, u18⟩ := q
        have hc_u18 : StX mdX3_rowSpread_10 u2 u18 := hq.1
        have hs_u18 : StX mdX3_choose_10 u u18 := StX_tr hs_u2 hc_u18 (by decide)
        refine Tot_bind (tfX3_cut_10 x1 u18 hs_u18.1 ⟨by omega, by omega⟩) (fun q hq => ?_)
        obtain ⟨r20, u21⟩ := q
        have hc_u21 : StX mdX3_cut_10 u18 u21 := hq.1
        have hs_u21 : StX mdX3_choose_10 u u21 := StX_tr hs_u18 hc_u21 (by decide)
        have : 0 ≤ r20.toInt ∧ r20.toInt ≤ 0 := hq.2.1
        refine Tot_gd (inb_t (by omega) (by omega)) ?_
        refine Tot_bind (tfX3_rowSpread_10 v9 u21 hs_u21.1 ⟨by omega, by omega⟩) (fun q hq => ?_)
        obtain ⟨r24, u25⟩ := q
        have hc_u25 : StX mdX3_rowSpread_10 u21 u25 := hq.1
        have hs_u25 : StX mdX3_choose_10 u u25 := StX_tr hs_u21 hc_u25 (by decide)
        have : (x1 + 1).toInt = x1.toInt + (1 : Int) := addc_t (by decide) (by omega) (by omega)
        have : 0 ≤ (u21.2.1 51 x1.toNatClampNeg).toInt ∧ (u21.2.1 51 x1.toNatClampNeg).toInt ≤ 50 := hs_u21.1.2.1 51 x1.toNatClampNeg
        have : (x2 - (u21.2.1 51 x1.toNatClampNeg)).toInt = x2.toInt - (u21.2.1 51 x1.toNatClampNeg).toInt := sub_t (by omega) (by omega)
        refine Tot_bind (hrc (x1 + 1) (x2 - (u21.2.1 51 x1.toNatClampNeg)) ((x3 + r24) - r17) (x4 ||| (1 <<< (x1 &&& 31))) u25 hs_u25.1 ⟨by omega, by omega⟩ ⟨by omega, by omega⟩ (by show 11 - (x1 + 1).toInt < (dd : Int); omega)) (fun q hq => ?_)
        obtain ⟨r27, u28⟩ := q
        have hc_u28 : StX mdX3_choose_10 u25 u28 := hq.1
        have hs_u28 : StX mdX3_choose_10 u u28 := StX_tr hs_u25 hc_u28 (by decide)
        have : 0 ≤ r27.toInt ∧ r27.toInt ≤ 0 := hq.2.1
        refine Tot_gd (inb_t (by omega) (by omega)) ?_
        refine Tot_lt (fun u31 e_u31 => ?_)
        have hs_u31 : StX mdX3_choose_10 u u31 := by rw [e_u31]; exact StX_sA hs_u28 (by decide) (by show 0 ≤ v12.toInt; omega) (by show v12.toInt ≤ 400; omega) (by decide)
        refine Tot_gd (inb_t (by omega) (by omega)) ?_
        refine Tot_lt (fun u34 e_u34 => ?_)
        have hs_u34 : StX mdX3_choose_10 u u34 := by rw [e_u34]; exact StX_sA hs_u31 (by decide) (by show 0 ≤ v15.toInt; omega) (by show v15.toInt ≤ 400; omega) (by decide)
        exact tGX3_choose_10_156 hrc u x1 x2 x3 x4 u34 hs_u34 ⟨by omega, by omega⟩ ⟨by omega, by omega⟩ (by omega)
    · have : ¬ r1.toInt = (0 : Int) := neI c721
      exact tGX3_choose_10_156 hrc u x1 x2 x3 x4 u2 hs_u2 ⟨by omega, by omega⟩ ⟨by omega, by omega⟩ (by omega)
  · have : ¬ x1.toInt < (u.1 29).toInt := nltI c720
    refine Tot_ite (fun c723 => ?_) (fun c723 => ?_)
    · exact tGX3_choose_10_32 hrc u x2 x3 x4 u hs_u ⟨by omega, by omega⟩
    · refine Tot_ite (fun c724 => ?_) (fun c724 => ?_)
      · have : (-50) ≤ (u.1 34).toInt ∧ (u.1 34).toInt ≤ 500 := hs_u.1.1 34
        refine Tot_ite (fun c725 => ?_) (fun c725 => ?_)
        · have : x2.toInt ≤ (u.1 34).toInt := leI c725
          exact Tot_some ⟨hs_u, (by show 0 ≤ (0 : Int) ∧ (0 : Int) ≤ 0; omega), trivial⟩
        · have : ¬ x2.toInt ≤ (u.1 34).toInt := nleI c725
          exact tGX3_choose_10_32 hrc u x2 x3 x4 u hs_u ⟨by omega, by omega⟩
      · exact Tot_some ⟨hs_u, (by show 0 ≤ (0 : Int) ∧ (0 : Int) ≤ 0; omega), trivial⟩

theorem RCrX3chooseg_all : ∀ d, RCrX3chooseg (rX3chooseg d) d := by
  intro d
  induction d with
  | zero =>
    skip
    · intro x1 x2 x3 x4 u hI h0 h1 hn
      exfalso
      omega
  | succ d ih =>
    skip
    · intro x1 x2 x3 x4 u hI h0 h1 hn
      rw [rX3chooseg]
      rw [if_pos rfl]
      exact tfX3_choose_10 ih x1 x2 x3 x4 u hI h0 h1 (by omega)

def mdX3_search_10 : MD := ([30, 31, 34], [16, 17, 41, 57, 58], [], [])
abbrev qX3_search_10 (u : SX) (q : Int32 × SX) : Prop := StX mdX3_search_10 u q.2 ∧ (0 ≤ q.1.toInt ∧ q.1.toInt ≤ 0) ∧ (True)
set_option maxHeartbeats 400000 in
set_option maxRecDepth 10000 in
theorem tfX3_search_10 (x1 : Int32) (u : SX) (hI : IX u) (h0 : 0 ≤ x1.toInt ∧ x1.toInt ≤ 500) : Tot (fX3_search_10 x1 u) (qX3_search_10 u) := by
  unfold fX3_search_10
  have hs_u : StX mdX3_search_10 u u := StX_rf hI
  refine Tot_lt (fun u1 e_u1 => ?_)
  have hs_u1 : StX mdX3_search_10 u u1 := by rw [e_u1]; exact StX_sIf hs_u (by decide) rfl rfl
  refine Tot_lt (fun u3 e_u3 => ?_)
  have hs_u3 : StX mdX3_search_10 u u3 := by rw [e_u3]; exact StX_sI hs_u1 (by decide) (by show (-50) ≤ (-1 : Int); omega) (by show (-1 : Int) ≤ 500; omega)
  refine Tot_lt (fun u5 e_u5 => ?_)
  have hs_u5 : StX mdX3_search_10 u u5 := by rw [e_u5]; exact StX_sIf hs_u3 (by decide) rfl rfl
  have : (u5.1 33).toInt = (u3.1 33).toInt := by rw [e_u5]; rfl
  have : (u3.1 33).toInt = (u1.1 33).toInt := by rw [e_u3]; rfl
  have : (u1.1 33).toInt = (u.1 33).toInt := by rw [e_u1]; rfl
  refine Tot_bind ((RCrX3chooseg_all 16) 0 x1 (u5.1 33) 0 u5 hs_u5.1 (by show 0 ≤ (0 : Int) ∧ (0 : Int) ≤ 10; omega) ⟨by omega, by omega⟩ (by show 11 - (0 : Int) < ((16 : Nat) : Int); omega)) (fun q hq => ?_)
  obtain ⟨r7, u8⟩ := q
  have hc_u8 : StX mdX3_choose_10 u5 u8 := hq.1
  have hs_u8 : StX mdX3_search_10 u u8 := StX_tr hs_u5 hc_u8 (by decide)
  have : 0 ≤ r7.toInt ∧ r7.toInt ≤ 0 := hq.2.1
  exact Tot_some ⟨hs_u8, (by show 0 ≤ (0 : Int) ∧ (0 : Int) ≤ 0; omega), trivial⟩

def mdX11_plan_0 : MD := ([10, 11, 30, 31, 32, 33, 34], [16, 17, 27, 28, 41, 57, 58], [], [])
abbrev qX11_plan_0 (u : SX) (q : Int32 × SX) : Prop := StX mdX11_plan_0 u q.2 ∧ (True) ∧ (True)
set_option maxHeartbeats 400000 in
set_option maxRecDepth 10000 in
theorem tfX11_plan_0 (x1 : Int32) (x2 : Int32) (x3 : Int32) (u : SX) (hI : IX u)  : Tot (fX11_plan_0 x1 x2 x3 u) (qX11_plan_0 u) := by
  unfold fX11_plan_0
  have hs_u : StX mdX11_plan_0 u u := StX_rf hI
  refine Tot_bind (tfX7_has_7 x1 u hs_u.1) (fun q hq => ?_)
  obtain ⟨r1, u2⟩ := q
  have hc_u2 : StX mdX7_has_7 u u2 := hq.1
  have hs_u2 : StX mdX11_plan_0 u u2 := StX_tr hs_u hc_u2 (by decide)
  have : 0 ≤ r1.toInt ∧ r1.toInt ≤ 1 := hq.2.1
  have : 0 ≤ (u.1 13).toInt ∧ (u.1 13).toInt ≤ 80 := hs_u.1.1 13
  have : r1.toInt ≠ 0 → ((0 : Int) ≤ x1.toInt ∧ x1.toInt < (u.1 13).toInt) := hq.2.2
  refine Tot_ite (fun c726 => ?_) (fun c726 => ?_)
  · have : r1.toInt = (0 : Int) := eqI c726
    exact Tot_some ⟨hs_u2, trivial, trivial⟩
  · have : ¬ r1.toInt = (0 : Int) := neI c726
    refine Tot_bind (tfX11_within x2 0 500) (fun r4 hq => ?_)
    have : 0 ≤ r4.toInt ∧ r4.toInt ≤ 1 := hq.1
    have : r4.toInt ≠ 0 → ((0 : Int) ≤ x2.toInt ∧ x2.toInt ≤ (500 : Int)) := hq.2
    refine Tot_ite (fun c727 => ?_) (fun c727 => ?_)
    · have : r4.toInt = (0 : Int) := eqI c727
      exact Tot_some ⟨hs_u2, trivial, trivial⟩
    · have : ¬ r4.toInt = (0 : Int) := neI c727
      refine Tot_bind (tfX11_isEither x3) (fun r7 hq => ?_)
      have : 0 ≤ r7.toInt ∧ r7.toInt ≤ 1 := hq.1
      have : r7.toInt ≠ 0 → ((0 : Int) ≤ x3.toInt ∧ x3.toInt ≤ (1 : Int)) := hq.2
      refine Tot_ite (fun c728 => ?_) (fun c728 => ?_)
      · have : r7.toInt = (0 : Int) := eqI c728
        exact Tot_some ⟨hs_u2, trivial, trivial⟩
      · have : ¬ r7.toInt = (0 : Int) := neI c728
        have : (u2.1 0).toInt = (u.1 0).toInt := congrArg Int32.toInt (hc_u2.2.1 0 (by decide))
        have : 0 ≤ (u.1 0).toInt ∧ (u.1 0).toInt ≤ 120 := hs_u.1.1 0
        refine Tot_bind (tfX3_startRow_10 x1 (u2.1 0) u2 hs_u2.1 ⟨by omega, by omega⟩ ⟨by omega, by omega⟩) (fun q hq => ?_)
        obtain ⟨r10, u11⟩ := q
        have hc_u11 : StX mdX3_startRow_10 u2 u11 := hq.1
        have hs_u11 : StX mdX11_plan_0 u u11 := StX_tr hs_u2 hc_u11 (by decide)
        have : 0 ≤ r10.toInt ∧ r10.toInt ≤ 0 := hq.2.1
        refine Tot_bind (tfX3_search_10 x2 u11 hs_u11.1 ⟨by omega, by omega⟩) (fun q hq => ?_)
        obtain ⟨r13, u14⟩ := q
        have hc_u14 : StX mdX3_search_10 u11 u14 := hq.1
        have hs_u14 : StX mdX11_plan_0 u u14 := StX_tr hs_u11 hc_u14 (by decide)
        have : 0 ≤ r13.toInt ∧ r13.toInt ≤ 0 := hq.2.1
        refine Tot_ite (fun c729 => ?_) (fun c729 => ?_)
        · have : x3.toInt = (0 : Int) := eqI c729
          exact Tot_some ⟨hs_u14, trivial, trivial⟩
        · have : ¬ x3.toInt = (0 : Int) := neI c729
          exact Tot_some ⟨hs_u14, trivial, trivial⟩

def mdX3_areOpen_10 : MD := ([], [], [], [])
abbrev qX3_areOpen_10 (u : SX) (q : Int32 × SX) : Prop := StX mdX3_areOpen_10 u q.2 ∧ (0 ≤ q.1.toInt ∧ q.1.toInt ≤ 1) ∧ (True)
set_option maxHeartbeats 400000 in
set_option maxRecDepth 10000 in
theorem tGX3_areOpen_10_43 (u0 : SX) (g17 : Int) {k17 : Int32 → Int32 → SX → Option (Int32 × SX)} (hk17 : ∀ (z1 : Int32) (z2 : Int32) (u : SX), (StX mdX3_areOpen_10 u0 u) → (0 ≤ z1.toInt) → (0 ≤ z2.toInt ∧ z2.toInt ≤ 10) → (g17 < z2.toInt) → Tot (k17 z1 z2 u) (qX3_areOpen_10 u0)) (z1 : Int32) (z2 : Int32) (u : SX) (hs_u : StX mdX3_areOpen_10 u0 u) (h0 : 0 ≤ z1.toInt) (h1 : 0 ≤ z2.toInt ∧ z2.toInt ≤ 9) (h2 : g17 ≤ z2.toInt) : Tot (GX3_areOpen_10_43 k17 z1 z2 u) (qX3_areOpen_10 u0) := by
  unfold GX3_areOpen_10_43
  have : (z2 + 1).toInt = z2.toInt + (1 : Int) := addc_t (by decide) (by omega) (by omega)
  exact hk17 z1 (z2 + 1) u hs_u (by omega) ⟨by omega, by omega⟩ (by omega)
set_option maxHeartbeats 400000 in
set_option maxRecDepth 10000 in
theorem tLX3_areOpen_10_17 (u0 : SX)    : ∀ (n : Nat) (z1 : Int32) (z2 : Int32) (u : SX), (StX mdX3_areOpen_10 u0 u) → (0 ≤ z1.toInt) → (0 ≤ z2.toInt ∧ z2.toInt ≤ 10) → (10 - z2.toInt < (n : Int)) → Tot (LX3_areOpen_10_17 n z1 z2 u) (qX3_areOpen_10 u0) := by
  intro n
  induction n with
  | zero =>
    intro z1 z2 u hs_u h0 h1 hm
    exfalso
    omega
  | succ n ih =>
    intro z1 z2 u hs_u h0 h1 hm
    rw [LX3_areOpen_10_17]
    have : 0 ≤ (u.1 29).toInt ∧ (u.1 29).toInt ≤ 10 := hs_u.1.1 29
    refine Tot_ite (fun c730 => ?_) (fun c730 => ?_)
    · have : (u.1 29).toInt ≤ z2.toInt := leI c730
      refine Tot_gd (by decide) ?_
      exact Tot_some ⟨hs_u, (by show 0 ≤ (1 : Int) ∧ (1 : Int) ≤ 1; omega), trivial⟩
    · have : ¬ (u.1 29).toInt ≤ z2.toInt := nleI c730
      have := and1_t (z1 >>> (z2 &&& 31))
      refine Tot_ite (fun c731 => ?_) (fun c731 => ?_)
      · have : ((z1 >>> (z2 &&& 31)) &&& 1).toInt = (0 : Int) := eqI c731
        exact tGX3_areOpen_10_43 u0 (z2.toInt) (fun a732 a733 w734 hw734 p735 p736 p737 => ih a732 a733 w734 hw734 p735 p736 (by omega)) z1 z2 u hs_u (by omega) ⟨by omega, by omega⟩ (by omega)
      · have : ¬ ((z1 >>> (z2 &&& 31)) &&& 1).toInt = (0 : Int) := neI c731
        refine Tot_bind (tfX3_isDone_10 z2 u hs_u.1 ⟨by omega, by omega⟩) (fun q hq => ?_)
        obtain ⟨r3, u4⟩ := q
        have hc_u4 : StX mdX3_isDone_10 u u4 := hq.1
        have hs_u4 : StX mdX3_areOpen_10 u0 u4 := StX_tr hs_u hc_u4 (by decide)
        have : 0 ≤ r3.toInt ∧ r3.toInt ≤ 1 := hq.2.1
        refine Tot_ite (fun c738 => ?_) (fun c738 => ?_)
        · have : r3.toInt = (0 : Int) := eqI c738
          exact tGX3_areOpen_10_43 u0 (z2.toInt) (fun a739 a740 w741 hw741 p742 p743 p744 => ih a739 a740 w741 hw741 p742 p743 (by omega)) z1 z2 u4 hs_u4 (by omega) ⟨by omega, by omega⟩ (by omega)
        · have : ¬ r3.toInt = (0 : Int) := neI c738
          refine Tot_gd (by decide) ?_
          exact Tot_some ⟨hs_u4, (by show 0 ≤ (0 : Int) ∧ (0 : Int) ≤ 1; omega), trivial⟩
set_option maxHeartbeats 400000 in
set_option maxRecDepth 10000 in
theorem tfX3_areOpen_10 (x1 : Int32) (u : SX) (hI : IX u)  : Tot (fX3_areOpen_10 x1 u) (qX3_areOpen_10 u) := by
  unfold fX3_areOpen_10
  have hs_u : StX mdX3_areOpen_10 u u := StX_rf hI
  refine Tot_ite (fun c745 => ?_) (fun c745 => ?_)
  · have : x1.toInt < (0 : Int) := ltI c745
    refine Tot_gd (by decide) ?_
    exact Tot_some ⟨hs_u, (by show 0 ≤ (0 : Int) ∧ (0 : Int) ≤ 1; omega), trivial⟩
  · have : ¬ x1.toInt < (0 : Int) := nltI c745
    refine Tot_ite (fun c746 => ?_) (fun c746 => ?_)
    · have : (x1 >>> ((u.1 29) &&& 31)).toInt = (0 : Int) := eqI c746
      exact tLX3_areOpen_10_17 u 5000 x1 0 u hs_u (by omega) (by show 0 ≤ (0 : Int) ∧ (0 : Int) ≤ 10; omega) (by show 10 - (0 : Int) < ((5000 : Nat) : Int); omega)
    · refine Tot_gd (by decide) ?_
      exact Tot_some ⟨hs_u, (by show 0 ≤ (0 : Int) ∧ (0 : Int) ≤ 1; omega), trivial⟩

def mdX3_widthBehind_10 : MD := ([33], [16, 17, 41, 57, 58], [], [])
abbrev qX3_widthBehind_10 (u : SX) (q : Int32 × SX) : Prop := StX mdX3_widthBehind_10 u q.2 ∧ (True) ∧ (True)
set_option maxHeartbeats 400000 in
set_option maxRecDepth 10000 in
theorem tGX3_widthBehind_10_55 (u0 : SX) (g2 : Int) {k2 : Int32 → Int32 → SX → Option (Int32 × SX)} (hk2 : ∀ (z1 : Int32) (z2 : Int32) (u : SX), (StX mdX3_widthBehind_10 u0 u) → (0 ≤ z2.toInt ∧ z2.toInt ≤ 10) → (g2 < z2.toInt) → Tot (k2 z1 z2 u) (qX3_widthBehind_10 u0)) (z1 : Int32) (z2 : Int32) (u : SX) (hs_u : StX mdX3_widthBehind_10 u0 u) (h0 : 0 ≤ z2.toInt ∧ z2.toInt ≤ 9) (h1 : g2 ≤ z2.toInt) : Tot (GX3_widthBehind_10_55 k2 z1 z2 u) (qX3_widthBehind_10 u0) := by
  unfold GX3_widthBehind_10_55
  have : (z2 + 1).toInt = z2.toInt + (1 : Int) := addc_t (by decide) (by omega) (by omega)
  exact hk2 z1 (z2 + 1) u hs_u ⟨by omega, by omega⟩ (by omega)
set_option maxHeartbeats 400000 in
set_option maxRecDepth 10000 in
theorem tLX3_widthBehind_10_2 (u0 : SX)    : ∀ (n : Nat) (z1 : Int32) (z2 : Int32) (u : SX), (StX mdX3_widthBehind_10 u0 u) → (0 ≤ z2.toInt ∧ z2.toInt ≤ 10) → (10 - z2.toInt < (n : Int)) → Tot (LX3_widthBehind_10_2 n z1 z2 u) (qX3_widthBehind_10 u0) := by
  intro n
  induction n with
  | zero =>
    intro z1 z2 u hs_u h0 hm
    exfalso
    omega
  | succ n ih =>
    intro z1 z2 u hs_u h0 hm
    rw [LX3_widthBehind_10_2]
    have : 0 ≤ (u.1 29).toInt ∧ (u.1 29).toInt ≤ 10 := hs_u.1.1 29
    refine Tot_ite (fun c747 => ?_) (fun c747 => ?_)
    · have : (u.1 29).toInt ≤ z2.toInt := leI c747
      exact Tot_some ⟨hs_u, trivial, trivial⟩
    · have : ¬ (u.1 29).toInt ≤ z2.toInt := nleI c747
      have := and1_t (z1 >>> (z2 &&& 31))
      refine Tot_ite (fun c748 => ?_) (fun c748 => ?_)
      · have : ((z1 >>> (z2 &&& 31)) &&& 1).toInt = (0 : Int) := eqI c748
        exact tGX3_widthBehind_10_55 u0 (z2.toInt) (fun a749 a750 w751 hw751 p752 p753 => ih a749 a750 w751 hw751 p752 (by omega)) z1 z2 u hs_u ⟨by omega, by omega⟩ (by omega)
      · have : ¬ ((z1 >>> (z2 &&& 31)) &&& 1).toInt = (0 : Int) := neI c748
        refine Tot_gd (inb_t (by omega) (by omega)) ?_
        have : 0 ≤ (u.2.1 48 z2.toNatClampNeg).toInt ∧ (u.2.1 48 z2.toNatClampNeg).toInt ≤ 11 := hs_u.1.2.1 48 z2.toNatClampNeg
        refine Tot_bind (tfX3_rowSpread_10 (u.2.1 48 z2.toNatClampNeg) u hs_u.1 ⟨by omega, by omega⟩) (fun q hq => ?_)
        obtain ⟨r2, u3⟩ := q
        have hc_u3 : StX mdX3_rowSpread_10 u u3 := hq.1
        have hs_u3 : StX mdX3_widthBehind_10 u0 u3 := StX_tr hs_u hc_u3 (by decide)
        refine Tot_bind (tfX3_cut_10 z2 u3 hs_u3.1 ⟨by omega, by omega⟩) (fun q hq => ?_)
        obtain ⟨r5, u6⟩ := q
        have hc_u6 : StX mdX3_cut_10 u3 u6 := hq.1
        have hs_u6 : StX mdX3_widthBehind_10 u0 u6 := StX_tr hs_u3 hc_u6 (by decide)
        have : 0 ≤ r5.toInt ∧ r5.toInt ≤ 0 := hq.2.1
        refine Tot_gd (inb_t (by omega) (by omega)) ?_
        have : 0 ≤ (u6.2.1 48 z2.toNatClampNeg).toInt ∧ (u6.2.1 48 z2.toNatClampNeg).toInt ≤ 11 := hs_u6.1.2.1 48 z2.toNatClampNeg
        refine Tot_bind (tfX3_rowSpread_10 (u6.2.1 48 z2.toNatClampNeg) u6 hs_u6.1 ⟨by omega, by omega⟩) (fun q hq => ?_)
        obtain ⟨r9, u10⟩ := q
        have hc_u10 : StX mdX3_rowSpread_10 u6 u10 := hq.1
        have hs_u10 : StX mdX3_widthBehind_10 u0 u10 := StX_tr hs_u6 hc_u10 (by decide)
        refine Tot_lt (fun u12 e_u12 => ?_)
        have hs_u12 : StX mdX3_widthBehind_10 u0 u12 := by rw [e_u12]; exact StX_sIf hs_u10 (by decide) rfl rfl
        exact tGX3_widthBehind_10_55 u0 (z2.toInt) (fun a754 a755 w756 hw756 p757 p758 => ih a754 a755 w756 hw756 p757 (by omega)) z1 z2 u12 hs_u12 ⟨by omega, by omega⟩ (by omega)
set_option maxHeartbeats 400000 in
set_option maxRecDepth 10000 in
theorem tfX3_widthBehind_10 (x1 : Int32) (u : SX) (hI : IX u)  : Tot (fX3_widthBehind_10 x1 u) (qX3_widthBehind_10 u) := by
  unfold fX3_widthBehind_10
  have hs_u : StX mdX3_widthBehind_10 u u := StX_rf hI
  exact tLX3_widthBehind_10_2 u 5000 x1 0 u hs_u (by show 0 ≤ (0 : Int) ∧ (0 : Int) ≤ 10; omega) (by show 10 - (0 : Int) < ((5000 : Nat) : Int); omega)

def mdX11_judge_0 : MD := ([10, 11, 32, 33], [16, 17, 27, 28, 41, 57, 58], [], [])
abbrev qX11_judge_0 (u : SX) (q : Int32 × SX) : Prop := StX mdX11_judge_0 u q.2 ∧ (True) ∧ (True)
set_option maxHeartbeats 400000 in
set_option maxRecDepth 10000 in
theorem tfX11_judge_0 (x1 : Int32) (x2 : Int32) (u : SX) (hI : IX u)  : Tot (fX11_judge_0 x1 x2 u) (qX11_judge_0 u) := by
  unfold fX11_judge_0
  have hs_u : StX mdX11_judge_0 u u := StX_rf hI
  refine Tot_bind (tfX7_has_7 x2 u hs_u.1) (fun q hq => ?_)
  obtain ⟨r1, u2⟩ := q
  have hc_u2 : StX mdX7_has_7 u u2 := hq.1
  have hs_u2 : StX mdX11_judge_0 u u2 := StX_tr hs_u hc_u2 (by decide)
  have : 0 ≤ r1.toInt ∧ r1.toInt ≤ 1 := hq.2.1
  have : 0 ≤ (u.1 13).toInt ∧ (u.1 13).toInt ≤ 80 := hs_u.1.1 13
  have : r1.toInt ≠ 0 → ((0 : Int) ≤ x2.toInt ∧ x2.toInt < (u.1 13).toInt) := hq.2.2
  refine Tot_ite (fun c759 => ?_) (fun c759 => ?_)
  · have : r1.toInt = (0 : Int) := eqI c759
    exact Tot_some ⟨hs_u2, trivial, trivial⟩
  · have : ¬ r1.toInt = (0 : Int) := neI c759
    refine Tot_bind (tfX3_areOpen_10 x1 u2 hs_u2.1) (fun q hq => ?_)
    obtain ⟨r4, u5⟩ := q
    have hc_u5 : StX mdX3_areOpen_10 u2 u5 := hq.1
    have hs_u5 : StX mdX11_judge_0 u u5 := StX_tr hs_u2 hc_u5 (by decide)
    have : 0 ≤ r4.toInt ∧ r4.toInt ≤ 1 := hq.2.1
    refine Tot_ite (fun c760 => ?_) (fun c760 => ?_)
    · have : r4.toInt = (0 : Int) := eqI c760
      exact Tot_some ⟨hs_u5, trivial, trivial⟩
    · have : ¬ r4.toInt = (0 : Int) := neI c760
      have : (u5.1 0).toInt = (u2.1 0).toInt := congrArg Int32.toInt (hc_u5.2.1 0 (by decide))
      have : (u2.1 0).toInt = (u.1 0).toInt := congrArg Int32.toInt (hc_u2.2.1 0 (by decide))
      have : 0 ≤ (u.1 0).toInt ∧ (u.1 0).toInt ≤ 120 := hs_u.1.1 0
      refine Tot_bind (tfX3_startRow_10 x2 (u5.1 0) u5 hs_u5.1 ⟨by omega, by omega⟩ ⟨by omega, by omega⟩) (fun q hq => ?_)
      obtain ⟨r7, u8⟩ := q
      have hc_u8 : StX mdX3_startRow_10 u5 u8 := hq.1
      have hs_u8 : StX mdX11_judge_0 u u8 := StX_tr hs_u5 hc_u8 (by decide)
      have : 0 ≤ r7.toInt ∧ r7.toInt ≤ 0 := hq.2.1
      refine Tot_bind (tfX3_widthBehind_10 x1 u8 hs_u8.1) (fun q hq => ?_)
      obtain ⟨r10, u11⟩ := q
      have hc_u11 : StX mdX3_widthBehind_10 u8 u11 := hq.1
      have hs_u11 : StX mdX11_judge_0 u u11 := StX_tr hs_u8 hc_u11 (by decide)
      exact Tot_some ⟨hs_u11, trivial, trivial⟩

def mdX11_leans_0 : MD := ([], [16, 17, 41], [], [])
abbrev qX11_leans_0 (u : SX) (q : Int32 × SX) : Prop := StX mdX11_leans_0 u q.2 ∧ (True) ∧ (True)
set_option maxHeartbeats 400000 in
set_option maxRecDepth 10000 in
theorem tfX11_leans_0 (x1 : Int32) (x2 : Int32) (u : SX) (hI : IX u)  : Tot (fX11_leans_0 x1 x2 u) (qX11_leans_0 u) := by
  unfold fX11_leans_0
  have hs_u : StX mdX11_leans_0 u u := StX_rf hI
  refine Tot_bind (tfX7_has_7 x1 u hs_u.1) (fun q hq => ?_)
  obtain ⟨r1, u2⟩ := q
  have hc_u2 : StX mdX7_has_7 u u2 := hq.1
  have hs_u2 : StX mdX11_leans_0 u u2 := StX_tr hs_u hc_u2 (by decide)
  have : 0 ≤ r1.toInt ∧ r1.toInt ≤ 1 := hq.2.1
  have : 0 ≤ (u.1 13).toInt ∧ (u.1 13).toInt ≤ 80 := hs_u.1.1 13
  have : r1.toInt ≠ 0 → ((0 : Int) ≤ x1.toInt ∧ x1.toInt < (u.1 13).toInt) := hq.2.2
  refine Tot_ite (fun c761 => ?_) (fun c761 => ?_)
  · have : r1.toInt = (0 : Int) := eqI c761
    exact Tot_some ⟨hs_u2, trivial, trivial⟩
  · have : ¬ r1.toInt = (0 : Int) := neI c761
    refine Tot_bind (tfX6_has_6 x2 u2 hs_u2.1) (fun q hq => ?_)
    obtain ⟨r4, u5⟩ := q
    have hc_u5 : StX mdX6_has_6 u2 u5 := hq.1
    have hs_u5 : StX mdX11_leans_0 u u5 := StX_tr hs_u2 hc_u5 (by decide)
    have : 0 ≤ r4.toInt ∧ r4.toInt ≤ 1 := hq.2.1
    have : (u2.1 8).toInt = (u.1 8).toInt := congrArg Int32.toInt (hc_u2.2.1 8 (by decide))
    have : 0 ≤ (u.1 8).toInt ∧ (u.1 8).toInt ≤ 12 := hs_u.1.1 8
    have : r4.toInt ≠ 0 → ((0 : Int) ≤ x2.toInt ∧ x2.toInt < (u2.1 8).toInt) := hq.2.2
    refine Tot_ite (fun c762 => ?_) (fun c762 => ?_)
    · have : r4.toInt = (0 : Int) := eqI c762
      exact Tot_some ⟨hs_u5, trivial, trivial⟩
    · have : ¬ r4.toInt = (0 : Int) := neI c762
      refine Tot_bind (tfX7_leanOf_7 x1 x2 u5 hs_u5.1 ⟨by omega, by omega⟩ ⟨by omega, by omega⟩) (fun q hq => ?_)
      obtain ⟨r7, u8⟩ := q
      have hc_u8 : StX mdX7_leanOf_7 u5 u8 := hq.1
      have hs_u8 : StX mdX11_leans_0 u u8 := StX_tr hs_u5 hc_u8 (by decide)
      exact Tot_some ⟨hs_u8, trivial, trivial⟩

def mdX8_has_4 : MD := ([], [], [], [])
abbrev qX8_has_4 (x1 : Int32) (u : SX) (q : Int32 × SX) : Prop := StX mdX8_has_4 u q.2 ∧ (0 ≤ q.1.toInt ∧ q.1.toInt ≤ 1) ∧ ((q.1.toInt ≠ 0 → ((0 : Int) ≤ x1.toInt ∧ x1.toInt < (u.1 6).toInt)))
set_option maxHeartbeats 400000 in
set_option maxRecDepth 10000 in
theorem tfX8_has_4 (x1 : Int32) (u : SX) (hI : IX u)  : Tot (fX8_has_4 x1 u) (qX8_has_4 x1 u) := by
  unfold fX8_has_4
  have hs_u : StX mdX8_has_4 u u := StX_rf hI
  refine Tot_ite (fun c763 => ?_) (fun c763 => ?_)
  · have : x1.toInt < (0 : Int) := ltI c763
    refine Tot_gd (by decide) ?_
    have : 0 ≤ (u.1 6).toInt ∧ (u.1 6).toInt ≤ 6 := hs_u.1.1 6
    exact Tot_some ⟨hs_u, (by show 0 ≤ (0 : Int) ∧ (0 : Int) ≤ 1; omega), (by show (0 : Int) ≠ 0 → ((0 : Int) ≤ x1.toInt ∧ x1.toInt < (u.1 6).toInt); omega)⟩
  · have : ¬ x1.toInt < (0 : Int) := nltI c763
    have : 0 ≤ (u.1 6).toInt ∧ (u.1 6).toInt ≤ 6 := hs_u.1.1 6
    refine Tot_ite (fun c764 => ?_) (fun c764 => ?_)
    · have : (u.1 6).toInt ≤ x1.toInt := leI c764
      refine Tot_gd (by decide) ?_
      exact Tot_some ⟨hs_u, (by show 0 ≤ (0 : Int) ∧ (0 : Int) ≤ 1; omega), (by show (0 : Int) ≠ 0 → ((0 : Int) ≤ x1.toInt ∧ x1.toInt < (u.1 6).toInt); omega)⟩
    · have : ¬ (u.1 6).toInt ≤ x1.toInt := nleI c764
      refine Tot_gd (by decide) ?_
      exact Tot_some ⟨hs_u, (by show 0 ≤ (1 : Int) ∧ (1 : Int) ≤ 1; omega), (by show (1 : Int) ≠ 0 → ((0 : Int) ≤ x1.toInt ∧ x1.toInt < (u.1 6).toInt); omega)⟩

def mdX1_boundWaves_8 : MD := ([], [43, 44, 45], [], [])
abbrev qX1_boundWaves_8 (u : SX) (q : Int32 × SX) : Prop := StX mdX1_boundWaves_8 u q.2 ∧ (0 ≤ q.1.toInt ∧ q.1.toInt ≤ 0) ∧ (True)
set_option maxHeartbeats 400000 in
set_option maxRecDepth 10000 in
theorem tGX1_boundWaves_8_133 (u0 : SX) (g10 : Int) {k10 : Int32 → SX → Option (Int32 × SX)} (hk10 : ∀ (z1 : Int32) (u : SX), (StX mdX1_boundWaves_8 u0 u) → (0 ≤ z1.toInt ∧ z1.toInt ≤ 80) → (g10 < z1.toInt) → Tot (k10 z1 u) (qX1_boundWaves_8 u0)) (z1 : Int32) (z2 : Int32) (y0 : Int32) (y1 : Int32) (u : SX) (hs_u : StX mdX1_boundWaves_8 u0 u) (h0 : 0 ≤ z1.toInt ∧ z1.toInt ≤ 79) (h1 : 0 ≤ z2.toInt ∧ z2.toInt ≤ 40) (h2 : 0 ≤ y1.toInt ∧ y1.toInt ≤ 40) (h3 : g10 ≤ z1.toInt) : Tot (GX1_boundWaves_8_133 k10 z1 z2 y0 y1 u) (qX1_boundWaves_8 u0) := by
  unfold GX1_boundWaves_8_133
  refine Tot_gd (inb_t (by omega) (by omega)) ?_
  refine Tot_lt (fun u16 e_u16 => ?_)
  have hs_u16 : StX mdX1_boundWaves_8 u0 u16 := by rw [e_u16]; exact StX_sAf hs_u (by decide) rfl rfl (by decide)
  refine Tot_gd (inb_t (by omega) (by omega)) ?_
  refine Tot_gd (inb_t (by omega) (by omega)) ?_
  refine Tot_lt (fun u20 e_u20 => ?_)
  have hs_u20 : StX mdX1_boundWaves_8 u0 u20 := by rw [e_u20]; exact StX_sAf hs_u16 (by decide) rfl rfl (by decide)
  have : (z1 + 1).toInt = z1.toInt + (1 : Int) := addc_t (by decide) (by omega) (by omega)
  exact hk10 (z1 + 1) u20 hs_u20 ⟨by omega, by omega⟩ (by omega)
set_option maxHeartbeats 400000 in
set_option maxRecDepth 10000 in
theorem tGX1_boundWaves_8_93 (u0 : SX) (g10 : Int) {k10 : Int32 → SX → Option (Int32 × SX)} (hk10 : ∀ (z1 : Int32) (u : SX), (StX mdX1_boundWaves_8 u0 u) → (0 ≤ z1.toInt ∧ z1.toInt ≤ 80) → (g10 < z1.toInt) → Tot (k10 z1 u) (qX1_boundWaves_8 u0)) (z1 : Int32) (z2 : Int32) (z3 : Int32) (y0 : Int32) (y1 : Int32) (u : SX) (hs_u : StX mdX1_boundWaves_8 u0 u) (h0 : 0 ≤ z1.toInt ∧ z1.toInt ≤ 79) (h1 : 0 ≤ z2.toInt ∧ z2.toInt ≤ 40) (h2 : 0 ≤ z3.toInt ∧ z3.toInt ≤ 1) (h3 : 0 ≤ y1.toInt ∧ y1.toInt ≤ 40) (h4 : g10 ≤ z1.toInt) : Tot (GX1_boundWaves_8_93 k10 z1 z2 z3 y0 y1 u) (qX1_boundWaves_8 u0) := by
  unfold GX1_boundWaves_8_93
  refine Tot_gd (inb_t (by omega) (by omega)) ?_
  refine Tot_lt (fun u11 e_u11 => ?_)
  have hs_u11 : StX mdX1_boundWaves_8 u0 u11 := by rw [e_u11]; exact StX_sAf hs_u (by decide) rfl rfl (by decide)
  refine Tot_ite (fun c765 => ?_) (fun c765 => ?_)
  · have : z3.toInt = (0 : Int) := eqI c765
    refine Tot_gd (inb_t (by omega) (by omega)) ?_
    refine Tot_gd (inb_t (by omega) (by omega)) ?_
    have : ((u11.2.1 39 z1.toNatClampNeg).toInt < (u11.2.1 45 z2.toNatClampNeg).toInt ∧ (if (u11.2.1 39 z1.toNatClampNeg) < (u11.2.1 45 z2.toNatClampNeg) then (u11.2.1 39 z1.toNatClampNeg) else (u11.2.1 45 z2.toNatClampNeg)).toInt = (u11.2.1 39 z1.toNatClampNeg).toInt) ∨ (¬ (u11.2.1 39 z1.toNatClampNeg).toInt < (u11.2.1 45 z2.toNatClampNeg).toInt ∧ (if (u11.2.1 39 z1.toNatClampNeg) < (u11.2.1 45 z2.toNatClampNeg) then (u11.2.1 39 z1.toNatClampNeg) else (u11.2.1 45 z2.toNatClampNeg)).toInt = (u11.2.1 45 z2.toNatClampNeg).toInt) := ite_lt_t (x := (u11.2.1 39 z1.toNatClampNeg)) (y := (u11.2.1 45 z2.toNatClampNeg)) (p := (u11.2.1 39 z1.toNatClampNeg)) (q := (u11.2.1 45 z2.toNatClampNeg))
    exact tGX1_boundWaves_8_133 u0 g10 hk10 z1 z2 (if (u11.2.1 39 z1.toNatClampNeg) < (u11.2.1 45 z2.toNatClampNeg) then (u11.2.1 39 z1.toNatClampNeg) else (u11.2.1 45 z2.toNatClampNeg)) z2 u11 hs_u11 ⟨by omega, by omega⟩ ⟨by omega, by omega⟩ ⟨by omega, by omega⟩ (by omega)
  · have : ¬ z3.toInt = (0 : Int) := neI c765
    refine Tot_gd (inb_t (by omega) (by omega)) ?_
    exact tGX1_boundWaves_8_133 u0 g10 hk10 z1 z2 (u11.2.1 39 z1.toNatClampNeg) z2 u11 hs_u11 ⟨by omega, by omega⟩ ⟨by omega, by omega⟩ ⟨by omega, by omega⟩ (by omega)
set_option maxHeartbeats 400000 in
set_option maxRecDepth 10000 in
theorem tGX1_boundWaves_8_53 (u0 : SX) (g10 : Int) {k10 : Int32 → SX → Option (Int32 × SX)} (hk10 : ∀ (z1 : Int32) (u : SX), (StX mdX1_boundWaves_8 u0 u) → (0 ≤ z1.toInt ∧ z1.toInt ≤ 80) → (g10 < z1.toInt) → Tot (k10 z1 u) (qX1_boundWaves_8 u0)) (z1 : Int32) (z2 : Int32) (y0 : Int32) (u : SX) (hs_u : StX mdX1_boundWaves_8 u0 u) (h0 : 0 ≤ z1.toInt ∧ z1.toInt ≤ 79) (h1 : 0 ≤ z2.toInt ∧ z2.toInt ≤ 40) (h2 : 0 ≤ y0.toInt ∧ y0.toInt ≤ 1) (h3 : g10 ≤ z1.toInt) : Tot (GX1_boundWaves_8_53 k10 z1 z2 y0 u) (qX1_boundWaves_8 u0) := by
  unfold GX1_boundWaves_8_53
  refine Tot_ite (fun c766 => ?_) (fun c766 => ?_)
  · have : y0.toInt = (0 : Int) := eqI c766
    refine Tot_gd (inb_t (by omega) (by omega)) ?_
    refine Tot_gd (inb_t (by omega) (by omega)) ?_
    have : ((u.2.1 44 z2.toNatClampNeg).toInt < (u.2.1 38 z1.toNatClampNeg).toInt ∧ (if (u.2.1 44 z2.toNatClampNeg) < (u.2.1 38 z1.toNatClampNeg) then (u.2.1 38 z1.toNatClampNeg) else (u.2.1 44 z2.toNatClampNeg)).toInt = (u.2.1 38 z1.toNatClampNeg).toInt) ∨ (¬ (u.2.1 44 z2.toNatClampNeg).toInt < (u.2.1 38 z1.toNatClampNeg).toInt ∧ (if (u.2.1 44 z2.toNatClampNeg) < (u.2.1 38 z1.toNatClampNeg) then (u.2.1 38 z1.toNatClampNeg) else (u.2.1 44 z2.toNatClampNeg)).toInt = (u.2.1 44 z2.toNatClampNeg).toInt) := ite_lt_t (x := (u.2.1 44 z2.toNatClampNeg)) (y := (u.2.1 38 z1.toNatClampNeg)) (p := (u.2.1 38 z1.toNatClampNeg)) (q := (u.2.1 44 z2.toNatClampNeg))
    exact tGX1_boundWaves_8_93 u0 g10 hk10 z1 z2 y0 (if (u.2.1 44 z2.toNatClampNeg) < (u.2.1 38 z1.toNatClampNeg) then (u.2.1 38 z1.toNatClampNeg) else (u.2.1 44 z2.toNatClampNeg)) z2 u hs_u ⟨by omega, by omega⟩ ⟨by omega, by omega⟩ ⟨by omega, by omega⟩ ⟨by omega, by omega⟩ (by omega)
  · have : ¬ y0.toInt = (0 : Int) := neI c766
    refine Tot_gd (inb_t (by omega) (by omega)) ?_
    exact tGX1_boundWaves_8_93 u0 g10 hk10 z1 z2 y0 (u.2.1 38 z1.toNatClampNeg) z2 u hs_u ⟨by omega, by omega⟩ ⟨by omega, by omega⟩ ⟨by omega, by omega⟩ ⟨by omega, by omega⟩ (by omega)
set_option maxHeartbeats 400000 in
set_option maxRecDepth 10000 in
theorem tLX1_boundWaves_8_10 (u0 : SX)    : ∀ (n : Nat) (z1 : Int32) (u : SX), (StX mdX1_boundWaves_8 u0 u) → (0 ≤ z1.toInt ∧ z1.toInt ≤ 80) → (80 - z1.toInt < (n : Int)) → Tot (LX1_boundWaves_8_10 n z1 u) (qX1_boundWaves_8 u0) := by
  intro n
  induction n with
  | zero =>
    intro z1 u hs_u h0 hm
    exfalso
    omega
  | succ n ih =>
    intro z1 u hs_u h0 hm
    rw [LX1_boundWaves_8_10]
    have : 0 ≤ (u.1 14).toInt ∧ (u.1 14).toInt ≤ 80 := hs_u.1.1 14
    refine Tot_ite (fun c767 => ?_) (fun c767 => ?_)
    · have : (u.1 14).toInt ≤ z1.toInt := leI c767
      exact Tot_some ⟨hs_u, (by show 0 ≤ (0 : Int) ∧ (0 : Int) ≤ 0; omega), trivial⟩
    · have : ¬ (u.1 14).toInt ≤ z1.toInt := nleI c767
      have : (z1 * 6).toInt = z1.toInt * 6 := mulc_t (by decide) (by omega) (by omega)
      have : ((z1 * 6) + 6).toInt = (z1 * 6).toInt + (6 : Int) := addc_t (by decide) (by omega) (by omega)
      have : (((z1 * 6) + 6) - 1).toInt = ((z1 * 6) + 6).toInt - (1 : Int) := subc_t (by decide) (by omega) (by omega)
      refine Tot_gd (inb_t (by omega) (by omega)) ?_
      have : 0 ≤ (u.2.1 36 ((((z1 * 6) + 6) - 1)).toNatClampNeg).toInt ∧ (u.2.1 36 ((((z1 * 6) + 6) - 1)).toNatClampNeg).toInt ≤ 40 := hs_u.1.2.1 36 ((((z1 * 6) + 6) - 1)).toNatClampNeg
      refine Tot_lt (fun v5 e_v5 => ?_)
      have : v5.toInt = (u.2.1 36 ((((z1 * 6) + 6) - 1)).toNatClampNeg).toInt := congrArg Int32.toInt e_v5
      refine Tot_gd (inb_t (by omega) (by omega)) ?_
      refine Tot_ite (fun c768 => ?_) (fun c768 => ?_)
      · have : (u.2.1 43 v5.toNatClampNeg).toInt = (0 : Int) := eqI c768
        exact tGX1_boundWaves_8_53 u0 (z1.toInt) (fun a769 w770 hw770 p771 p772 => ih a769 w770 hw770 p771 (by omega)) z1 v5 1 u hs_u ⟨by omega, by omega⟩ ⟨by omega, by omega⟩ (by show 0 ≤ (1 : Int) ∧ (1 : Int) ≤ 1; omega) (by omega)
      · exact tGX1_boundWaves_8_53 u0 (z1.toInt) (fun a773 w774 hw774 p775 p776 => ih a773 w774 hw774 p775 (by omega)) z1 v5 0 u hs_u ⟨by omega, by omega⟩ ⟨by omega, by omega⟩ (by show 0 ≤ (0 : Int) ∧ (0 : Int) ≤ 1; omega) (by omega)
set_option maxHeartbeats 400000 in
set_option maxRecDepth 10000 in
theorem tfX1_boundWaves_8  (u : SX) (hI : IX u)  : Tot (fX1_boundWaves_8  u) (qX1_boundWaves_8 u) := by
  unfold fX1_boundWaves_8
  have hs_u : StX mdX1_boundWaves_8 u u := StX_rf hI
  refine Tot_bind (tfJ7_fill_53178_a43 0 u hs_u.1 (by show 0 ≤ (0 : Int) ∧ (0 : Int) ≤ 0; omega)) (fun q hq => ?_)
  obtain ⟨r1, u2⟩ := q
  have hc_u2 : StX mdJ7_fill_53178_a43 u u2 := hq.1
  have hs_u2 : StX mdX1_boundWaves_8 u u2 := StX_tr hs_u hc_u2 (by decide)
  have : 0 ≤ r1.toInt ∧ r1.toInt ≤ 0 := hq.2.1
  exact tLX1_boundWaves_8_10 u 5000 0 u2 hs_u2 (by show 0 ≤ (0 : Int) ∧ (0 : Int) ≤ 80; omega) (by show 80 - (0 : Int) < ((5000 : Nat) : Int); omega)

def mdX8_set_4 : MD := ([], [19], [], [])
abbrev qX8_set_4 (u : SX) (q : Int32 × SX) : Prop := StX mdX8_set_4 u q.2 ∧ (0 ≤ q.1.toInt ∧ q.1.toInt ≤ 0) ∧ (True)
set_option maxHeartbeats 400000 in
set_option maxRecDepth 10000 in
theorem tfX8_set_4 (x1 : Int32) (x2 : Int32) (u : SX) (hI : IX u) (h0 : 0 ≤ x1.toInt ∧ x1.toInt ≤ 1) (h1 : 0 ≤ x2.toInt ∧ x2.toInt ≤ 60) : Tot (fX8_set_4 x1 x2 u) (qX8_set_4 u) := by
  unfold fX8_set_4
  have hs_u : StX mdX8_set_4 u u := StX_rf hI
  refine Tot_ite (fun c777 => ?_) (fun c777 => ?_)
  · have : x1.toInt < (0 : Int) := ltI c777
    exfalso
    omega
  · have : ¬ x1.toInt < (0 : Int) := nltI c777
    refine Tot_ite (fun c778 => ?_) (fun c778 => ?_)
    · have : (2 : Int) ≤ x1.toInt := leI c778
      exfalso
      omega
    · have : ¬ (2 : Int) ≤ x1.toInt := nleI c778
      refine Tot_gd (inb_t (by omega) (by omega)) ?_
      refine Tot_lt (fun u2 e_u2 => ?_)
      have hs_u2 : StX mdX8_set_4 u u2 := by rw [e_u2]; exact StX_sA hs_u (by decide) (by show 0 ≤ x2.toInt; omega) (by show x2.toInt ≤ 60; omega) (by decide)
      exact Tot_some ⟨hs_u2, (by show 0 ≤ (0 : Int) ∧ (0 : Int) ≤ 0; omega), trivial⟩

def mdX10_worthBy_T_a19_a20 : MD := ([], [20], [], [])
abbrev qX10_worthBy_T_a19_a20 (u : SX) (q : Int32 × SX) : Prop := StX mdX10_worthBy_T_a19_a20 u q.2 ∧ (True) ∧ (True)
set_option maxHeartbeats 400000 in
set_option maxRecDepth 10000 in
theorem tGX10_worthBy_T_a19_a20_227 (u0 : SX) (g8 : Int) {k8 : Nat → Int32 → Int32 → Int32 → SX → Option (Int32 × SX)} (hk8 : ∀ (z0 : Nat) (z3 : Int32) (z4 : Int32) (z5 : Int32) (u : SX), (StX mdX10_worthBy_T_a19_a20 u0 u) → (0 ≤ z3.toInt ∧ z3.toInt ≤ 120) → (0 ≤ z4.toInt ∧ z4.toInt ≤ 1) → (0 ≤ z5.toInt ∧ z5.toInt ≤ 121) → (z0 < tN u0) → (g8 < z5.toInt) → Tot (k8 z0 z3 z4 z5 u) (qX10_worthBy_T_a19_a20 u0)) (z0 : Nat) (z3 : Int32) (z4 : Int32) (z5 : Int32) (u : SX) (hs_u : StX mdX10_worthBy_T_a19_a20 u0 u) (h0 : 0 ≤ z3.toInt ∧ z3.toInt ≤ 120) (h1 : 0 ≤ z4.toInt ∧ z4.toInt ≤ 1) (h2 : 0 ≤ z5.toInt ∧ z5.toInt ≤ 120) (h3 : z0 < tN u0) (h4 : g8 ≤ z5.toInt) : Tot (GX10_worthBy_T_a19_a20_227 k8 z0 z3 z4 z5 u) (qX10_worthBy_T_a19_a20 u0) := by
  unfold GX10_worthBy_T_a19_a20_227
  have : (z5 + 1).toInt = z5.toInt + (1 : Int) := addc_t (by decide) (by omega) (by omega)
  exact hk8 z0 z3 z4 (z5 + 1) u hs_u ⟨by omega, by omega⟩ ⟨by omega, by omega⟩ ⟨by omega, by omega⟩ (by assumption) (by omega)
set_option maxHeartbeats 400000 in
set_option maxRecDepth 10000 in
theorem tGX10_worthBy_T_a19_a20_119 (u0 : SX) (g8 : Int) {k8 : Nat → Int32 → Int32 → Int32 → SX → Option (Int32 × SX)} (hk8 : ∀ (z0 : Nat) (z3 : Int32) (z4 : Int32) (z5 : Int32) (u : SX), (StX mdX10_worthBy_T_a19_a20 u0 u) → (0 ≤ z3.toInt ∧ z3.toInt ≤ 120) → (0 ≤ z4.toInt ∧ z4.toInt ≤ 1) → (0 ≤ z5.toInt ∧ z5.toInt ≤ 121) → (z0 < tN u0) → (g8 < z5.toInt) → Tot (k8 z0 z3 z4 z5 u) (qX10_worthBy_T_a19_a20 u0)) (z0 : Nat) (z3 : Int32) (z4 : Int32) (z5 : Int32) (y0 : Int32) (y1 : Int32) (u : SX) (hs_u : StX mdX10_worthBy_T_a19_a20 u0 u) (h0 : 0 ≤ z3.toInt ∧ z3.toInt ≤ 119) (h1 : 0 ≤ z4.toInt ∧ z4.toInt ≤ 0) (h2 : 0 ≤ z5.toInt ∧ z5.toInt ≤ 120) (h3 : 0 ≤ y1.toInt ∧ y1.toInt ≤ 119) (h4 : z0 < tN u0) (h5 : g8 ≤ z5.toInt) : Tot (GX10_worthBy_T_a19_a20_119 k8 z0 z3 z4 z5 y0 y1 u) (qX10_worthBy_T_a19_a20 u0) := by
  unfold GX10_worthBy_T_a19_a20_119
  refine Tot_gd (inb_t (by omega) (by omega)) ?_
  refine Tot_lt (fun u15 e_u15 => ?_)
  have hs_u15 : StX mdX10_worthBy_T_a19_a20 u0 u15 := by rw [e_u15]; exact StX_sAf hs_u (by decide) rfl rfl (by decide)
  have : (z3 + 1).toInt = z3.toInt + (1 : Int) := addc_t (by decide) (by omega) (by omega)
  exact tGX10_worthBy_T_a19_a20_227 u0 g8 hk8 z0 (z3 + 1) z4 z5 u15 hs_u15 ⟨by omega, by omega⟩ ⟨by omega, by omega⟩ ⟨by omega, by omega⟩ (by assumption) (by omega)
set_option maxHeartbeats 400000 in
set_option maxRecDepth 10000 in
theorem tGX10_worthBy_T_a19_a20_101 (u0 : SX) (g8 : Int) {k8 : Nat → Int32 → Int32 → Int32 → SX → Option (Int32 × SX)} (hk8 : ∀ (z0 : Nat) (z3 : Int32) (z4 : Int32) (z5 : Int32) (u : SX), (StX mdX10_worthBy_T_a19_a20 u0 u) → (0 ≤ z3.toInt ∧ z3.toInt ≤ 120) → (0 ≤ z4.toInt ∧ z4.toInt ≤ 1) → (0 ≤ z5.toInt ∧ z5.toInt ≤ 121) → (z0 < tN u0) → (g8 < z5.toInt) → Tot (k8 z0 z3 z4 z5 u) (qX10_worthBy_T_a19_a20 u0)) (z0 : Nat) (z3 : Int32) (z4 : Int32) (z5 : Int32) (z6 : Int32) (z7 : Int32) (u : SX) (hs_u : StX mdX10_worthBy_T_a19_a20 u0 u) (h0 : 0 ≤ z3.toInt ∧ z3.toInt ≤ 119) (h1 : 0 ≤ z4.toInt ∧ z4.toInt ≤ 0) (h2 : 0 ≤ z5.toInt ∧ z5.toInt ≤ 120) (h3 : 48 ≤ z6.toInt ∧ z6.toInt ≤ 121) (h4 : z0 < tN u0) (h5 : (z6.toInt = 48 ∨ (z6.toInt = 121 ∧ 0 ≤ z7.toInt ∧ z7.toInt < 2))) (h6 : g8 ≤ z5.toInt) : Tot (GX10_worthBy_T_a19_a20_101 k8 z0 z3 z4 z5 z6 z7 u) (qX10_worthBy_T_a19_a20 u0) := by
  unfold GX10_worthBy_T_a19_a20_101
  refine Tot_ite (fun c779 => ?_) (fun c779 => ?_)
  · have : z6.toInt = (48 : Int) := eqI c779
    exact tGX10_worthBy_T_a19_a20_119 u0 g8 hk8 z0 z3 z4 z5 z7 z3 u hs_u ⟨by omega, by omega⟩ ⟨by omega, by omega⟩ ⟨by omega, by omega⟩ ⟨by omega, by omega⟩ (by assumption) (by omega)
  · have : ¬ z6.toInt = (48 : Int) := neI c779
    refine Tot_gd (inb_t (by omega) (by omega)) ?_
    have : 0 ≤ (u.2.1 19 z7.toNatClampNeg).toInt ∧ (u.2.1 19 z7.toNatClampNeg).toInt ≤ 60 := hs_u.1.2.1 19 z7.toNatClampNeg
    exact tGX10_worthBy_T_a19_a20_119 u0 g8 hk8 z0 z3 z4 z5 (u.2.1 19 z7.toNatClampNeg) z3 u hs_u ⟨by omega, by omega⟩ ⟨by omega, by omega⟩ ⟨by omega, by omega⟩ ⟨by omega, by omega⟩ (by assumption) (by omega)
set_option maxHeartbeats 400000 in
set_option maxRecDepth 10000 in
theorem tGX10_worthBy_T_a19_a20_79 (u0 : SX) (g8 : Int) {k8 : Nat → Int32 → Int32 → Int32 → SX → Option (Int32 × SX)} (hk8 : ∀ (z0 : Nat) (z3 : Int32) (z4 : Int32) (z5 : Int32) (u : SX), (StX mdX10_worthBy_T_a19_a20 u0 u) → (0 ≤ z3.toInt ∧ z3.toInt ≤ 120) → (0 ≤ z4.toInt ∧ z4.toInt ≤ 1) → (0 ≤ z5.toInt ∧ z5.toInt ≤ 121) → (z0 < tN u0) → (g8 < z5.toInt) → Tot (k8 z0 z3 z4 z5 u) (qX10_worthBy_T_a19_a20 u0)) (z0 : Nat) (z3 : Int32) (z4 : Int32) (z5 : Int32) (z6 : Int32) (z7 : Int32) (u : SX) (hs_u : StX mdX10_worthBy_T_a19_a20 u0 u) (h0 : 0 ≤ z3.toInt ∧ z3.toInt ≤ 120) (h1 : 0 ≤ z4.toInt ∧ z4.toInt ≤ 0) (h2 : 0 ≤ z5.toInt ∧ z5.toInt ≤ 120) (h3 : 48 ≤ z6.toInt ∧ z6.toInt ≤ 121) (h4 : z0 < tN u0) (h5 : (z6.toInt = 48 ∨ (z6.toInt = 121 ∧ 0 ≤ z7.toInt))) (h6 : g8 ≤ z5.toInt) : Tot (GX10_worthBy_T_a19_a20_79 k8 z0 z3 z4 z5 z6 z7 u) (qX10_worthBy_T_a19_a20 u0) := by
  unfold GX10_worthBy_T_a19_a20_79
  refine Tot_ite (fun c780 => ?_) (fun c780 => ?_)
  · have : (120 : Int) ≤ z3.toInt := leI c780
    exact Tot_some ⟨hs_u, trivial, trivial⟩
  · have : ¬ (120 : Int) ≤ z3.toInt := nleI c780
    refine Tot_ite (fun c781 => ?_) (fun c781 => ?_)
    · have : z6.toInt = (121 : Int) := eqI c781
      refine Tot_ite (fun c782 => ?_) (fun c782 => ?_)
      · have : z7.toInt < (2 : Int) := ltI c782
        exact tGX10_worthBy_T_a19_a20_101 u0 g8 hk8 z0 z3 z4 z5 z6 z7 u hs_u ⟨by omega, by omega⟩ ⟨by omega, by omega⟩ ⟨by omega, by omega⟩ ⟨by omega, by omega⟩ (by assumption) (by omega) (by omega)
      · have : ¬ z7.toInt < (2 : Int) := nltI c782
        exact Tot_some ⟨hs_u, trivial, trivial⟩
    · have : ¬ z6.toInt = (121 : Int) := neI c781
      exact tGX10_worthBy_T_a19_a20_101 u0 g8 hk8 z0 z3 z4 z5 z6 z7 u hs_u ⟨by omega, by omega⟩ ⟨by omega, by omega⟩ ⟨by omega, by omega⟩ ⟨by omega, by omega⟩ (by assumption) (by omega) (by omega)
set_option maxHeartbeats 400000 in
set_option maxRecDepth 10000 in
theorem tGX10_worthBy_T_a19_a20_167 (u0 : SX) (g8 : Int) {k8 : Nat → Int32 → Int32 → Int32 → SX → Option (Int32 × SX)} (hk8 : ∀ (z0 : Nat) (z3 : Int32) (z4 : Int32) (z5 : Int32) (u : SX), (StX mdX10_worthBy_T_a19_a20 u0 u) → (0 ≤ z3.toInt ∧ z3.toInt ≤ 120) → (0 ≤ z4.toInt ∧ z4.toInt ≤ 1) → (0 ≤ z5.toInt ∧ z5.toInt ≤ 121) → (z0 < tN u0) → (g8 < z5.toInt) → Tot (k8 z0 z3 z4 z5 u) (qX10_worthBy_T_a19_a20 u0)) (z0 : Nat) (z3 : Int32) (z5 : Int32) (y0 : Int32) (u : SX) (hs_u : StX mdX10_worthBy_T_a19_a20 u0 u) (h0 : 0 ≤ z3.toInt ∧ z3.toInt ≤ 119) (h1 : 0 ≤ z5.toInt ∧ z5.toInt ≤ 120) (h2 : 0 ≤ y0.toInt ∧ y0.toInt ≤ 1) (h3 : z0 < tN u0) (h4 : g8 ≤ z5.toInt) : Tot (GX10_worthBy_T_a19_a20_167 k8 z0 z3 z5 y0 u) (qX10_worthBy_T_a19_a20 u0) := by
  unfold GX10_worthBy_T_a19_a20_167
  exact tGX10_worthBy_T_a19_a20_227 u0 g8 hk8 z0 z3 y0 z5 u hs_u ⟨by omega, by omega⟩ ⟨by omega, by omega⟩ ⟨by omega, by omega⟩ (by assumption) (by omega)
set_option maxHeartbeats 400000 in
set_option maxRecDepth 10000 in
theorem tGX10_worthBy_T_a19_a20_60 (u0 : SX) (g8 : Int) {k8 : Nat → Int32 → Int32 → Int32 → SX → Option (Int32 × SX)} (hk8 : ∀ (z0 : Nat) (z3 : Int32) (z4 : Int32) (z5 : Int32) (u : SX), (StX mdX10_worthBy_T_a19_a20 u0 u) → (0 ≤ z3.toInt ∧ z3.toInt ≤ 120) → (0 ≤ z4.toInt ∧ z4.toInt ≤ 1) → (0 ≤ z5.toInt ∧ z5.toInt ≤ 121) → (z0 < tN u0) → (g8 < z5.toInt) → Tot (k8 z0 z3 z4 z5 u) (qX10_worthBy_T_a19_a20 u0)) (z0 : Nat) (z3 : Int32) (z5 : Int32) (y0 : Int32) (u : SX) (hs_u : StX mdX10_worthBy_T_a19_a20 u0 u) (h0 : 0 ≤ z3.toInt ∧ z3.toInt ≤ 120) (h1 : 0 ≤ z5.toInt ∧ z5.toInt ≤ 120) (h2 : 0 ≤ y0.toInt ∧ y0.toInt ≤ 1) (h3 : z0 < tN u0) (h4 : g8 ≤ z5.toInt) : Tot (GX10_worthBy_T_a19_a20_60 k8 z0 z3 z5 y0 u) (qX10_worthBy_T_a19_a20 u0) := by
  unfold GX10_worthBy_T_a19_a20_60
  exact tGX10_worthBy_T_a19_a20_227 u0 g8 hk8 z0 z3 y0 z5 u hs_u ⟨by omega, by omega⟩ ⟨by omega, by omega⟩ ⟨by omega, by omega⟩ (by assumption) (by omega)
set_option maxHeartbeats 400000 in
set_option maxRecDepth 10000 in
theorem tLX10_worthBy_T_a19_a20_8 (u0 : SX)    : ∀ (n : Nat) (z0 : Nat) (z3 : Int32) (z4 : Int32) (z5 : Int32) (u : SX), (StX mdX10_worthBy_T_a19_a20 u0 u) → (0 ≤ z3.toInt ∧ z3.toInt ≤ 120) → (0 ≤ z4.toInt ∧ z4.toInt ≤ 1) → (0 ≤ z5.toInt ∧ z5.toInt ≤ 121) → (z0 < tN u0) → (121 - z5.toInt < (n : Int)) → Tot (LX10_worthBy_T_a19_a20_8 n z0 z3 z4 z5 u) (qX10_worthBy_T_a19_a20 u0) := by
  intro n
  induction n with
  | zero =>
    intro z0 z3 z4 z5 u hs_u h0 h1 h2 h3 hm
    exfalso
    omega
  | succ n ih =>
    intro z0 z3 z4 z5 u hs_u h0 h1 h2 h3 hm
    rw [LX10_worthBy_T_a19_a20_8]
    refine Tot_gd (decide_eq_true (by have e : tN u = tN u0 := congrArg (fun t : TX => t.1) hs_u.2.2.2.2.2; rw [e]; assumption)) ?_
    refine Tot_gd (decide_eq_true (by have e : tN u = tN u0 := congrArg (fun t : TX => t.1) hs_u.2.2.2.2.2; rw [e]; assumption)) ?_
    refine Tot_ite (fun c783 => ?_) (fun c783 => ?_)
    · exact Tot_some ⟨hs_u, trivial, trivial⟩
    · have : tL u z0 ≤ 121 := hs_u.1.2.2.2.2.1 z0
      have : z5.toInt < ((tL u z0 : Nat) : Int) := by have a := nleI c783; have b : (Int32.ofNat (tL u z0)).toInt = ((tL u z0 : Nat) : Int) := Int32.toInt_ofNat_of_lt (by omega); omega
      refine Tot_gd (decide_eq_true (by have e : tN u = tN u0 := congrArg (fun t : TX => t.1) hs_u.2.2.2.2.2; rw [e]; assumption)) ?_
      refine Tot_gd (decide_eq_true (by have e : tN u = tN u0 := congrArg (fun t : TX => t.1) hs_u.2.2.2.2.2; rw [e]; assumption)) ?_
      refine Tot_gd (inb_t (by omega) (by omega)) ?_
      have := and255_t (tC u z0 z5.toNatClampNeg)
      refine Tot_lt (fun v6 e_v6 => ?_)
      have : v6.toInt = ((tC u z0 z5.toNatClampNeg) &&& 255).toInt := congrArg Int32.toInt e_v6
      refine Tot_gd (decide_eq_true (by have e : tN u = tN u0 := congrArg (fun t : TX => t.1) hs_u.2.2.2.2.2; rw [e]; assumption)) ?_
      refine Tot_gd (decide_eq_true (by have e : tN u = tN u0 := congrArg (fun t : TX => t.1) hs_u.2.2.2.2.2; rw [e]; assumption)) ?_
      refine Tot_gd (inb_t (by omega) (by omega)) ?_
      refine Tot_lt (fun v11 e_v11 => ?_)
      have : v6.toInt = 121 → 0 ≤ v11.toInt := by rw [e_v6, e_v11]; exact hs_u.1.2.2.2.2.2 z0 _
      refine Tot_ite (fun c784 => ?_) (fun c784 => ?_)
      · have : z4.toInt = (0 : Int) := eqI c784
        refine Tot_ite (fun c785 => ?_) (fun c785 => ?_)
        · have : v6.toInt = (48 : Int) := eqI c785
          exact tGX10_worthBy_T_a19_a20_79 u0 (z5.toInt) (fun a786 a787 a788 a789 w790 hw790 p791 p792 p793 p794 p795 => ih a786 a787 a788 a789 w790 hw790 p791 p792 p793 p794 (by omega)) z0 z3 z4 z5 v6 v11 u hs_u ⟨by omega, by omega⟩ ⟨by omega, by omega⟩ ⟨by omega, by omega⟩ ⟨by omega, by omega⟩ (by assumption) (by omega) (by omega)
        · refine Tot_ite (fun c796 => ?_) (fun c796 => ?_)
          · have : v6.toInt = (121 : Int) := eqI c796
            exact tGX10_worthBy_T_a19_a20_79 u0 (z5.toInt) (fun a797 a798 a799 a800 w801 hw801 p802 p803 p804 p805 p806 => ih a797 a798 a799 a800 w801 hw801 p802 p803 p804 p805 (by omega)) z0 z3 z4 z5 v6 v11 u hs_u ⟨by omega, by omega⟩ ⟨by omega, by omega⟩ ⟨by omega, by omega⟩ ⟨by omega, by omega⟩ (by assumption) (by omega) (by omega)
          · refine Tot_ite (fun c807 => ?_) (fun c807 => ?_)
            · have : (1 : Int) ≤ z3.toInt := leI c807
              refine Tot_ite (fun c808 => ?_) (fun c808 => ?_)
              · have : v6.toInt = (59 : Int) := eqI c808
                have s810 : (z3 - 1).toInt = z3.toInt - (1 : Int) := subc_t (by decide) (by omega) (by omega)
                generalize (z3 - 1) = w809 at s810 ⊢
                refine Tot_gd (inb_t (by omega) (by omega)) ?_
                exact Tot_some ⟨hs_u, trivial, trivial⟩
              · refine Tot_ite (fun c811 => ?_) (fun c811 => ?_)
                · have : v6.toInt = (63 : Int) := eqI c811
                  have s813 : (z3 + (-1)).toInt = z3.toInt + (-1 : Int) := addc_t (by decide) (by omega) (by omega)
                  generalize (z3 + (-1)) = w812 at s813 ⊢
                  refine Tot_gd (inb_t (by omega) (by omega)) ?_
                  refine Tot_ite (fun c814 => ?_) (fun c814 => ?_)
                  · have : (u.2.1 20 w812.toNatClampNeg).toInt = (0 : Int) := eqI c814
                    exact tGX10_worthBy_T_a19_a20_167 u0 (z5.toInt) (fun a815 a816 a817 a818 w819 hw819 p820 p821 p822 p823 p824 => ih a815 a816 a817 a818 w819 hw819 p820 p821 p822 p823 (by omega)) z0 w812 z5 1 u hs_u ⟨by omega, by omega⟩ ⟨by omega, by omega⟩ (by show 0 ≤ (1 : Int) ∧ (1 : Int) ≤ 1; omega) (by assumption) (by omega)
                  · exact tGX10_worthBy_T_a19_a20_167 u0 (z5.toInt) (fun a825 a826 a827 a828 w829 hw829 p830 p831 p832 p833 p834 => ih a825 a826 a827 a828 w829 hw829 p830 p831 p832 p833 (by omega)) z0 w812 z5 0 u hs_u ⟨by omega, by omega⟩ ⟨by omega, by omega⟩ (by show 0 ≤ (0 : Int) ∧ (0 : Int) ≤ 1; omega) (by assumption) (by omega)
                · refine Tot_ite (fun c835 => ?_) (fun c835 => ?_)
                  · have : v6.toInt = (33 : Int) := eqI c835
                    have s837 : (z3 - 1).toInt = z3.toInt - (1 : Int) := subc_t (by decide) (by omega) (by omega)
                    generalize (z3 - 1) = w836 at s837 ⊢
                    refine Tot_gd (inb_t (by omega) (by omega)) ?_
                    refine Tot_gd (inb_t (by omega) (by omega)) ?_
                    refine Tot_lt (fun u30 e_u30 => ?_)
                    have hs_u30 : StX mdX10_worthBy_T_a19_a20 u0 u30 := by rw [e_u30]; exact StX_sAf hs_u (by decide) rfl rfl (by decide)
                    exact tGX10_worthBy_T_a19_a20_227 u0 (z5.toInt) (fun a838 a839 a840 a841 w842 hw842 p843 p844 p845 p846 p847 => ih a838 a839 a840 a841 w842 hw842 p843 p844 p845 p846 (by omega)) z0 z3 z4 z5 u30 hs_u30 ⟨by omega, by omega⟩ ⟨by omega, by omega⟩ ⟨by omega, by omega⟩ (by assumption) (by omega)
                  · refine Tot_ite (fun c848 => ?_) (fun c848 => ?_)
                    · have : (2 : Int) ≤ z3.toInt := leI c848
                      have s850 : (z3 + (-1)).toInt = z3.toInt + (-1 : Int) := addc_t (by decide) (by omega) (by omega)
                      generalize (z3 + (-1)) = w849 at s850 ⊢
                      have s852 : (w849 - 1).toInt = w849.toInt - (1 : Int) := subc_t (by decide) (by omega) (by omega)
                      generalize (w849 - 1) = w851 at s852 ⊢
                      refine Tot_gd (inb_t (by omega) (by omega)) ?_
                      refine Tot_gd (inb_t (by omega) (by omega)) ?_
                      refine Tot_bind (tfX10_join v6 (((u.2.1 20 w851.toNatClampNeg)).toInt64) (((u.2.1 20 w849.toNatClampNeg)).toInt64) ⟨by omega, by omega⟩) (fun r19 hq => ?_)
                      refine Tot_bind (tfX10_bounded r19) (fun r22 hq => ?_)
                      refine Tot_gd (inb_t (by omega) (by omega)) ?_
                      refine Tot_lt (fun u26 e_u26 => ?_)
                      have hs_u26 : StX mdX10_worthBy_T_a19_a20 u0 u26 := by rw [e_u26]; exact StX_sAf hs_u (by decide) rfl rfl (by decide)
                      exact tGX10_worthBy_T_a19_a20_227 u0 (z5.toInt) (fun a853 a854 a855 a856 w857 hw857 p858 p859 p860 p861 p862 => ih a853 a854 a855 a856 w857 hw857 p858 p859 p860 p861 (by omega)) z0 w849 z4 z5 u26 hs_u26 ⟨by omega, by omega⟩ ⟨by omega, by omega⟩ ⟨by omega, by omega⟩ (by assumption) (by omega)
                    · have : ¬ (2 : Int) ≤ z3.toInt := nleI c848
                      exact Tot_some ⟨hs_u, trivial, trivial⟩
            · have : ¬ (1 : Int) ≤ z3.toInt := nleI c807
              exact Tot_some ⟨hs_u, trivial, trivial⟩
      · have : ¬ z4.toInt = (0 : Int) := neI c784
        refine Tot_ite (fun c863 => ?_) (fun c863 => ?_)
        · have : v6.toInt = (59 : Int) := eqI c863
          exact tGX10_worthBy_T_a19_a20_60 u0 (z5.toInt) (fun a864 a865 a866 a867 w868 hw868 p869 p870 p871 p872 p873 => ih a864 a865 a866 a867 w868 hw868 p869 p870 p871 p872 (by omega)) z0 z3 z5 0 u hs_u ⟨by omega, by omega⟩ ⟨by omega, by omega⟩ (by show 0 ≤ (0 : Int) ∧ (0 : Int) ≤ 1; omega) (by assumption) (by omega)
        · exact tGX10_worthBy_T_a19_a20_60 u0 (z5.toInt) (fun a874 a875 a876 a877 w878 hw878 p879 p880 p881 p882 p883 => ih a874 a875 a876 a877 w878 hw878 p879 p880 p881 p882 (by omega)) z0 z3 z5 1 u hs_u ⟨by omega, by omega⟩ ⟨by omega, by omega⟩ (by show 0 ≤ (1 : Int) ∧ (1 : Int) ≤ 1; omega) (by assumption) (by omega)
set_option maxHeartbeats 400000 in
set_option maxRecDepth 10000 in
theorem tfX10_worthBy_T_a19_a20 (x0 : Nat) (u : SX) (hI : IX u) (h0 : x0 < tN u) : Tot (fX10_worthBy_T_a19_a20 x0 u) (qX10_worthBy_T_a19_a20 u) := by
  unfold fX10_worthBy_T_a19_a20
  have hs_u : StX mdX10_worthBy_T_a19_a20 u u := StX_rf hI
  exact tLX10_worthBy_T_a19_a20_8 u 5000 x0 0 0 0 u hs_u (by show 0 ≤ (0 : Int) ∧ (0 : Int) ≤ 120; omega) (by show 0 ≤ (0 : Int) ∧ (0 : Int) ≤ 1; omega) (by show 0 ≤ (0 : Int) ∧ (0 : Int) ≤ 121; omega) (by assumption) (by show 121 - (0 : Int) < ((5000 : Nat) : Int); omega)

def mdX8_ask_4 : MD := ([], [20], [], [])
abbrev qX8_ask_4 (u : SX) (q : Int32 × SX) : Prop := StX mdX8_ask_4 u q.2 ∧ (True) ∧ (True)
set_option maxHeartbeats 400000 in
set_option maxRecDepth 10000 in
theorem tGX8_ask_4_18 (u0 : SX)     (u : SX) (hs_u : StX mdX8_ask_4 u0 u)  : Tot (GX8_ask_4_18  u) (qX8_ask_4 u0) := by
  unfold GX8_ask_4_18
  exact Tot_some ⟨hs_u, trivial, trivial⟩
set_option maxHeartbeats 400000 in
set_option maxRecDepth 10000 in
theorem tGX8_ask_4_18a (u0 : SX)    (y0 : Nat) (u : SX) (hs_u : StX mdX8_ask_4 u0 u) (h0 : y0 < tN u) : Tot (GX8_ask_4_18a y0 u) (qX8_ask_4 u0) := by
  unfold GX8_ask_4_18a
  refine Tot_gd (decide_eq_true (by assumption)) ?_
  refine Tot_bind (tfX10_worthBy_T_a19_a20 y0 u hs_u.1 (by assumption)) (fun q hq => ?_)
  obtain ⟨r7, u8⟩ := q
  have hc_u8 : StX mdX10_worthBy_T_a19_a20 u u8 := hq.1
  have hs_u8 : StX mdX8_ask_4 u0 u8 := StX_tr hs_u hc_u8 (by decide)
  exact Tot_some ⟨hs_u8, trivial, trivial⟩
set_option maxHeartbeats 400000 in
set_option maxRecDepth 10000 in
theorem tfX8_ask_4 (x1 : Int32) (u : SX) (hI : IX u) (h0 : 0 ≤ x1.toInt ∧ x1.toInt ≤ 5) : Tot (fX8_ask_4 x1 u) (qX8_ask_4 u) := by
  unfold fX8_ask_4
  have hs_u : StX mdX8_ask_4 u u := StX_rf hI
  refine Tot_bind (tfX8_has_4 x1 u hs_u.1) (fun q hq => ?_)
  obtain ⟨r1, u2⟩ := q
  have hc_u2 : StX mdX8_has_4 u u2 := hq.1
  have hs_u2 : StX mdX8_ask_4 u u2 := StX_tr hs_u hc_u2 (by decide)
  have : 0 ≤ r1.toInt ∧ r1.toInt ≤ 1 := hq.2.1
  have : 0 ≤ (u.1 6).toInt ∧ (u.1 6).toInt ≤ 6 := hs_u.1.1 6
  have : r1.toInt ≠ 0 → ((0 : Int) ≤ x1.toInt ∧ x1.toInt < (u.1 6).toInt) := hq.2.2
  refine Tot_ite (fun c884 => ?_) (fun c884 => ?_)
  · have : r1.toInt = (0 : Int) := eqI c884
    exact tGX8_ask_4_18 u u2 hs_u2
  · have : ¬ r1.toInt = (0 : Int) := neI c884
    refine Tot_gd (inb_t (by omega) (by omega)) ?_
    refine Tot_tcs (fun ht => ?_) (fun k5 ht => ⟨hs_u2.1.2.2.2.1 _ _ _ ht, ?_⟩)
    · exact tGX8_ask_4_18 u u2 hs_u2
    · have hT_k5 := hs_u2.1.2.2.2.1 _ _ _ ht
      exact tGX8_ask_4_18a u k5 u2 hs_u2 (by assumption)

def mdX1_guessed_8 : MD := ([], [19, 20], [], [])
abbrev qX1_guessed_8 (u : SX) (q : Int32 × SX) : Prop := StX mdX1_guessed_8 u q.2 ∧ (True) ∧ (True)
set_option maxHeartbeats 400000 in
set_option maxRecDepth 10000 in
theorem tfX1_guessed_8 (x1 : Int32) (x2 : Int32) (x3 : Int32) (u : SX) (hI : IX u) (h0 : 0 ≤ x1.toInt ∧ x1.toInt ≤ 5) (h1 : 1 ≤ x2.toInt ∧ x2.toInt ≤ 40) (h2 : 0 ≤ x3.toInt ∧ x3.toInt ≤ 60) : Tot (fX1_guessed_8 x1 x2 x3 u) (qX1_guessed_8 u) := by
  unfold fX1_guessed_8
  have hs_u : StX mdX1_guessed_8 u u := StX_rf hI
  refine Tot_bind (tfX8_set_4 0 x2 u hs_u.1 (by show 0 ≤ (0 : Int) ∧ (0 : Int) ≤ 1; omega) ⟨by omega, by omega⟩) (fun q hq => ?_)
  obtain ⟨r1, u2⟩ := q
  have hc_u2 : StX mdX8_set_4 u u2 := hq.1
  have hs_u2 : StX mdX1_guessed_8 u u2 := StX_tr hs_u hc_u2 (by decide)
  have : 0 ≤ r1.toInt ∧ r1.toInt ≤ 0 := hq.2.1
  refine Tot_bind (tfX8_set_4 1 x3 u2 hs_u2.1 (by show 0 ≤ (1 : Int) ∧ (1 : Int) ≤ 1; omega) ⟨by omega, by omega⟩) (fun q hq => ?_)
  obtain ⟨r4, u5⟩ := q
  have hc_u5 : StX mdX8_set_4 u2 u5 := hq.1
  have hs_u5 : StX mdX1_guessed_8 u u5 := StX_tr hs_u2 hc_u5 (by decide)
  have : 0 ≤ r4.toInt ∧ r4.toInt ≤ 0 := hq.2.1
  refine Tot_bind (tfX8_ask_4 x1 u5 hs_u5.1 ⟨by omega, by omega⟩) (fun q hq => ?_)
  obtain ⟨r7, u8⟩ := q
  have hc_u8 : StX mdX8_ask_4 u5 u8 := hq.1
  have hs_u8 : StX mdX1_guessed_8 u u8 := StX_tr hs_u5 hc_u8 (by decide)
  exact Tot_some ⟨hs_u8, trivial, trivial⟩

def mdX1_suits_8 : MD := ([], [19, 20], [], [])
abbrev qX1_suits_8 (u : SX) (q : Int32 × SX) : Prop := StX mdX1_suits_8 u q.2 ∧ (0 ≤ q.1.toInt ∧ q.1.toInt ≤ 1) ∧ (True)
set_option maxHeartbeats 400000 in
set_option maxRecDepth 10000 in
theorem tGX1_suits_8_50 (u0 : SX) (g2 : Int) {k2 : Int32 → Int32 → Int32 → SX → Option (Int32 × SX)} (hk2 : ∀ (z1 : Int32) (z2 : Int32) (z3 : Int32) (u : SX), (StX mdX1_suits_8 u0 u) → (0 ≤ z1.toInt ∧ z1.toInt ≤ 5) → (0 ≤ z2.toInt ∧ z2.toInt ≤ 60) → (1 ≤ z3.toInt ∧ z3.toInt ≤ 41) → (g2 < z3.toInt) → Tot (k2 z1 z2 z3 u) (qX1_suits_8 u0)) (z1 : Int32) (z2 : Int32) (z3 : Int32) (u : SX) (hs_u : StX mdX1_suits_8 u0 u) (h0 : 0 ≤ z1.toInt ∧ z1.toInt ≤ 5) (h1 : 0 ≤ z2.toInt ∧ z2.toInt ≤ 60) (h2 : 1 ≤ z3.toInt ∧ z3.toInt ≤ 40) (h3 : g2 ≤ z3.toInt) : Tot (GX1_suits_8_50 k2 z1 z2 z3 u) (qX1_suits_8 u0) := by
  unfold GX1_suits_8_50
  have : (z3 + 1).toInt = z3.toInt + (1 : Int) := addc_t (by decide) (by omega) (by omega)
  exact hk2 z1 z2 (z3 + 1) u hs_u ⟨by omega, by omega⟩ ⟨by omega, by omega⟩ ⟨by omega, by omega⟩ (by omega)
set_option maxHeartbeats 400000 in
set_option maxRecDepth 10000 in
theorem tLX1_suits_8_2 (u0 : SX)    : ∀ (n : Nat) (z1 : Int32) (z2 : Int32) (z3 : Int32) (u : SX), (StX mdX1_suits_8 u0 u) → (0 ≤ z1.toInt ∧ z1.toInt ≤ 5) → (0 ≤ z2.toInt ∧ z2.toInt ≤ 60) → (1 ≤ z3.toInt ∧ z3.toInt ≤ 41) → (41 - z3.toInt < (n : Int)) → Tot (LX1_suits_8_2 n z1 z2 z3 u) (qX1_suits_8 u0) := by
  intro n
  induction n with
  | zero =>
    intro z1 z2 z3 u hs_u h0 h1 h2 hm
    exfalso
    omega
  | succ n ih =>
    intro z1 z2 z3 u hs_u h0 h1 h2 hm
    rw [LX1_suits_8_2]
    refine Tot_ite (fun c885 => ?_) (fun c885 => ?_)
    · have : (40 : Int) < z3.toInt := ltI c885
      refine Tot_gd (by decide) ?_
      exact Tot_some ⟨hs_u, (by show 0 ≤ (1 : Int) ∧ (1 : Int) ≤ 1; omega), trivial⟩
    · have : ¬ (40 : Int) < z3.toInt := nltI c885
      refine Tot_gd (inb_t (by omega) (by omega)) ?_
      refine Tot_ite (fun c886 => ?_) (fun c886 => ?_)
      · have : (u.2.1 43 z3.toNatClampNeg).toInt ≤ (0 : Int) := leI c886
        exact tGX1_suits_8_50 u0 (z3.toInt) (fun a887 a888 a889 w890 hw890 p891 p892 p893 p894 => ih a887 a888 a889 w890 hw890 p891 p892 p893 (by omega)) z1 z2 z3 u hs_u ⟨by omega, by omega⟩ ⟨by omega, by omega⟩ ⟨by omega, by omega⟩ (by omega)
      · have : ¬ (u.2.1 43 z3.toNatClampNeg).toInt ≤ (0 : Int) := nleI c886
        refine Tot_bind (tfX1_guessed_8 z1 z3 z2 u hs_u.1 ⟨by omega, by omega⟩ ⟨by omega, by omega⟩ ⟨by omega, by omega⟩) (fun q hq => ?_)
        obtain ⟨r3, u4⟩ := q
        have hc_u4 : StX mdX1_guessed_8 u u4 := hq.1
        have hs_u4 : StX mdX1_suits_8 u0 u4 := StX_tr hs_u hc_u4 (by decide)
        refine Tot_gd (inb_t (by omega) (by omega)) ?_
        refine Tot_ite (fun c895 => ?_) (fun c895 => ?_)
        · refine Tot_gd (by decide) ?_
          exact Tot_some ⟨hs_u4, (by show 0 ≤ (0 : Int) ∧ (0 : Int) ≤ 1; omega), trivial⟩
        · refine Tot_gd (inb_t (by omega) (by omega)) ?_
          refine Tot_ite (fun c896 => ?_) (fun c896 => ?_)
          · exact tGX1_suits_8_50 u0 (z3.toInt) (fun a897 a898 a899 w900 hw900 p901 p902 p903 p904 => ih a897 a898 a899 w900 hw900 p901 p902 p903 (by omega)) z1 z2 z3 u4 hs_u4 ⟨by omega, by omega⟩ ⟨by omega, by omega⟩ ⟨by omega, by omega⟩ (by omega)
          · refine Tot_gd (by decide) ?_
            exact Tot_some ⟨hs_u4, (by show 0 ≤ (0 : Int) ∧ (0 : Int) ≤ 1; omega), trivial⟩
set_option maxHeartbeats 400000 in
set_option maxRecDepth 10000 in
theorem tfX1_suits_8 (x1 : Int32) (x2 : Int32) (u : SX) (hI : IX u) (h0 : 0 ≤ x1.toInt ∧ x1.toInt ≤ 5) (h1 : 0 ≤ x2.toInt ∧ x2.toInt ≤ 60) : Tot (fX1_suits_8 x1 x2 u) (qX1_suits_8 u) := by
  unfold fX1_suits_8
  have hs_u : StX mdX1_suits_8 u u := StX_rf hI
  exact tLX1_suits_8_2 u 5000 x1 x2 1 u hs_u ⟨by omega, by omega⟩ ⟨by omega, by omega⟩ (by show 1 ≤ (1 : Int) ∧ (1 : Int) ≤ 41; omega) (by show 41 - (1 : Int) < ((5000 : Nat) : Int); omega)

def mdX1_fit_8 : MD := ([19, 20, 21], [19, 20, 43, 44, 45], [], [])
abbrev qX1_fit_8 (u : SX) (q : Int32 × SX) : Prop := StX mdX1_fit_8 u q.2 ∧ (0 ≤ q.1.toInt ∧ q.1.toInt ≤ 0) ∧ (True)
set_option maxHeartbeats 400000 in
set_option maxRecDepth 10000 in
theorem tGX1_fit_8_71 (u0 : SX) (g21 : Int) {k21 : Int32 → Int32 → SX → Option (Int32 × SX)} (hk21 : ∀ (z1 : Int32) (z2 : Int32) (u : SX), (StX mdX1_fit_8 u0 u) → (0 ≤ z1.toInt ∧ z1.toInt ≤ 5) → (0 ≤ z2.toInt ∧ z2.toInt ≤ 61) → (g21 < z2.toInt) → Tot (k21 z1 z2 u) (qX1_fit_8 u0)) (z1 : Int32) (z2 : Int32) (u : SX) (hs_u : StX mdX1_fit_8 u0 u) (h0 : 0 ≤ z1.toInt ∧ z1.toInt ≤ 5) (h1 : 0 ≤ z2.toInt ∧ z2.toInt ≤ 60) (h2 : g21 ≤ z2.toInt) : Tot (GX1_fit_8_71 k21 z1 z2 u) (qX1_fit_8 u0) := by
  unfold GX1_fit_8_71
  have : (z2 + 1).toInt = z2.toInt + (1 : Int) := addc_t (by decide) (by omega) (by omega)
  exact hk21 z1 (z2 + 1) u hs_u ⟨by omega, by omega⟩ ⟨by omega, by omega⟩ (by omega)
set_option maxHeartbeats 400000 in
set_option maxRecDepth 10000 in
theorem tGX1_fit_8_53 (u0 : SX) (g21 : Int) {k21 : Int32 → Int32 → SX → Option (Int32 × SX)} (hk21 : ∀ (z1 : Int32) (z2 : Int32) (u : SX), (StX mdX1_fit_8 u0 u) → (0 ≤ z1.toInt ∧ z1.toInt ≤ 5) → (0 ≤ z2.toInt ∧ z2.toInt ≤ 61) → (g21 < z2.toInt) → Tot (k21 z1 z2 u) (qX1_fit_8 u0)) (z1 : Int32) (z2 : Int32) (y0 : Int32) (u : SX) (hs_u : StX mdX1_fit_8 u0 u) (h0 : 0 ≤ z1.toInt ∧ z1.toInt ≤ 5) (h1 : 0 ≤ z2.toInt ∧ z2.toInt ≤ 60) (h2 : 0 ≤ y0.toInt ∧ y0.toInt ≤ 60) (h3 : g21 ≤ z2.toInt) : Tot (GX1_fit_8_53 k21 z1 z2 y0 u) (qX1_fit_8 u0) := by
  unfold GX1_fit_8_53
  refine Tot_lt (fun u13 e_u13 => ?_)
  have hs_u13 : StX mdX1_fit_8 u0 u13 := by rw [e_u13]; exact StX_sI hs_u (by decide) (by show (-1) ≤ y0.toInt; omega) (by show y0.toInt ≤ 60; omega)
  refine Tot_lt (fun u15 e_u15 => ?_)
  have hs_u15 : StX mdX1_fit_8 u0 u15 := by rw [e_u15]; exact StX_sI hs_u13 (by decide) (by show (-1) ≤ z2.toInt; omega) (by show z2.toInt ≤ 60; omega)
  refine Tot_lt (fun u17 e_u17 => ?_)
  have hs_u17 : StX mdX1_fit_8 u0 u17 := by rw [e_u17]; exact StX_sIf hs_u15 (by decide) rfl rfl
  exact tGX1_fit_8_71 u0 g21 hk21 z1 z2 u17 hs_u17 ⟨by omega, by omega⟩ ⟨by omega, by omega⟩ (by omega)
set_option maxHeartbeats 400000 in
set_option maxRecDepth 10000 in
theorem tLX1_fit_8_21 (u0 : SX)    : ∀ (n : Nat) (z1 : Int32) (z2 : Int32) (u : SX), (StX mdX1_fit_8 u0 u) → (0 ≤ z1.toInt ∧ z1.toInt ≤ 5) → (0 ≤ z2.toInt ∧ z2.toInt ≤ 61) → (61 - z2.toInt < (n : Int)) → Tot (LX1_fit_8_21 n z1 z2 u) (qX1_fit_8 u0) := by
  intro n
  induction n with
  | zero =>
    intro z1 z2 u hs_u h0 h1 hm
    exfalso
    omega
  | succ n ih =>
    intro z1 z2 u hs_u h0 h1 hm
    rw [LX1_fit_8_21]
    refine Tot_ite (fun c905 => ?_) (fun c905 => ?_)
    · have : (60 : Int) < z2.toInt := ltI c905
      exact Tot_some ⟨hs_u, (by show 0 ≤ (0 : Int) ∧ (0 : Int) ≤ 0; omega), trivial⟩
    · have : ¬ (60 : Int) < z2.toInt := nltI c905
      refine Tot_bind (tfX1_suits_8 z1 z2 u hs_u.1 ⟨by omega, by omega⟩ ⟨by omega, by omega⟩) (fun q hq => ?_)
      obtain ⟨r10, u11⟩ := q
      have hc_u11 : StX mdX1_suits_8 u u11 := hq.1
      have hs_u11 : StX mdX1_fit_8 u0 u11 := StX_tr hs_u hc_u11 (by decide)
      have : 0 ≤ r10.toInt ∧ r10.toInt ≤ 1 := hq.2.1
      refine Tot_ite (fun c906 => ?_) (fun c906 => ?_)
      · have : r10.toInt = (0 : Int) := eqI c906
        exact tGX1_fit_8_71 u0 (z2.toInt) (fun a907 a908 w909 hw909 p910 p911 p912 => ih a907 a908 w909 hw909 p910 p911 (by omega)) z1 z2 u11 hs_u11 ⟨by omega, by omega⟩ ⟨by omega, by omega⟩ (by omega)
      · have : ¬ r10.toInt = (0 : Int) := neI c906
        have : (u11.1 19).toInt = (u.1 19).toInt := congrArg Int32.toInt (hc_u11.2.1 19 (by decide))
        have : (-1) ≤ (u.1 19).toInt ∧ (u.1 19).toInt ≤ 60 := hs_u.1.1 19
        refine Tot_ite (fun c913 => ?_) (fun c913 => ?_)
        · have : (u11.1 19).toInt = (-1 : Int) := eqI c913
          exact tGX1_fit_8_53 u0 (z2.toInt) (fun a914 a915 w916 hw916 p917 p918 p919 => ih a914 a915 w916 hw916 p917 p918 (by omega)) z1 z2 z2 u11 hs_u11 ⟨by omega, by omega⟩ ⟨by omega, by omega⟩ ⟨by omega, by omega⟩ (by omega)
        · have : ¬ (u11.1 19).toInt = (-1 : Int) := neI c913
          exact tGX1_fit_8_53 u0 (z2.toInt) (fun a920 a921 w922 hw922 p923 p924 p925 => ih a920 a921 w922 hw922 p923 p924 (by omega)) z1 z2 (u11.1 19) u11 hs_u11 ⟨by omega, by omega⟩ ⟨by omega, by omega⟩ ⟨by omega, by omega⟩ (by omega)
set_option maxHeartbeats 400000 in
set_option maxRecDepth 10000 in
theorem tfX1_fit_8 (x1 : Int32) (u : SX) (hI : IX u) (h0 : 0 ≤ x1.toInt ∧ x1.toInt ≤ 5) : Tot (fX1_fit_8 x1 u) (qX1_fit_8 u) := by
  unfold fX1_fit_8
  have hs_u : StX mdX1_fit_8 u u := StX_rf hI
  refine Tot_lt (fun u1 e_u1 => ?_)
  have hs_u1 : StX mdX1_fit_8 u u1 := by rw [e_u1]; exact StX_sI hs_u (by decide) (by show (-1) ≤ (-1 : Int); omega) (by show (-1 : Int) ≤ 60; omega)
  refine Tot_lt (fun u3 e_u3 => ?_)
  have hs_u3 : StX mdX1_fit_8 u u3 := by rw [e_u3]; exact StX_sI hs_u1 (by decide) (by show (-1) ≤ (-1 : Int); omega) (by show (-1 : Int) ≤ 60; omega)
  refine Tot_lt (fun u5 e_u5 => ?_)
  have hs_u5 : StX mdX1_fit_8 u u5 := by rw [e_u5]; exact StX_sIf hs_u3 (by decide) rfl rfl
  refine Tot_bind (tfX1_boundWaves_8 u5 hs_u5.1) (fun q hq => ?_)
  obtain ⟨r7, u8⟩ := q
  have hc_u8 : StX mdX1_boundWaves_8 u5 u8 := hq.1
  have hs_u8 : StX mdX1_fit_8 u u8 := StX_tr hs_u5 hc_u8 (by decide)
  have : 0 ≤ r7.toInt ∧ r7.toInt ≤ 0 := hq.2.1
  exact tLX1_fit_8_21 u 5000 x1 0 u8 hs_u8 ⟨by omega, by omega⟩ (by show 0 ≤ (0 : Int) ∧ (0 : Int) ≤ 61; omega) (by show 61 - (0 : Int) < ((5000 : Nat) : Int); omega)

def mdX11_fits_0 : MD := ([10, 11, 14, 15, 16, 19, 20, 21], [16, 17, 19, 20, 27, 28, 38, 39, 41, 43, 44, 45], [], [])
abbrev qX11_fits_0 (u : SX) (q : Int32 × SX) : Prop := StX mdX11_fits_0 u q.2 ∧ (True) ∧ (True)
set_option maxHeartbeats 400000 in
set_option maxRecDepth 10000 in
theorem tfX11_fits_0 (x1 : Int32) (x2 : Int32) (x3 : Int32) (u : SX) (hI : IX u)  : Tot (fX11_fits_0 x1 x2 x3 u) (qX11_fits_0 u) := by
  unfold fX11_fits_0
  have hs_u : StX mdX11_fits_0 u u := StX_rf hI
  refine Tot_bind (tfX11_isDay_0 x2 u hs_u.1) (fun q hq => ?_)
  obtain ⟨r1, u2⟩ := q
  have hc_u2 : StX mdX11_isDay_0 u u2 := hq.1
  have hs_u2 : StX mdX11_fits_0 u u2 := StX_tr hs_u hc_u2 (by decide)
  have : 0 ≤ r1.toInt ∧ r1.toInt ≤ 1 := hq.2.1
  have : 0 ≤ (u.1 0).toInt ∧ (u.1 0).toInt ≤ 120 := hs_u.1.1 0
  have : r1.toInt ≠ 0 → ((0 : Int) ≤ x2.toInt ∧ x2.toInt ≤ (u.1 0).toInt) := hq.2.2
  refine Tot_ite (fun c926 => ?_) (fun c926 => ?_)
  · have : r1.toInt = (0 : Int) := eqI c926
    exact Tot_some ⟨hs_u2, trivial, trivial⟩
  · have : ¬ r1.toInt = (0 : Int) := neI c926
    refine Tot_bind (tfX8_has_4 x1 u2 hs_u2.1) (fun q hq => ?_)
    obtain ⟨r4, u5⟩ := q
    have hc_u5 : StX mdX8_has_4 u2 u5 := hq.1
    have hs_u5 : StX mdX11_fits_0 u u5 := StX_tr hs_u2 hc_u5 (by decide)
    have : 0 ≤ r4.toInt ∧ r4.toInt ≤ 1 := hq.2.1
    have : (u2.1 6).toInt = (u.1 6).toInt := congrArg Int32.toInt (hc_u2.2.1 6 (by decide))
    have : 0 ≤ (u.1 6).toInt ∧ (u.1 6).toInt ≤ 6 := hs_u.1.1 6
    have : r4.toInt ≠ 0 → ((0 : Int) ≤ x1.toInt ∧ x1.toInt < (u2.1 6).toInt) := hq.2.2
    refine Tot_ite (fun c927 => ?_) (fun c927 => ?_)
    · have : r4.toInt = (0 : Int) := eqI c927
      exact Tot_some ⟨hs_u5, trivial, trivial⟩
    · have : ¬ r4.toInt = (0 : Int) := neI c927
      refine Tot_bind (tfX11_within x3 0 2) (fun r7 hq => ?_)
      have : 0 ≤ r7.toInt ∧ r7.toInt ≤ 1 := hq.1
      have : r7.toInt ≠ 0 → ((0 : Int) ≤ x3.toInt ∧ x3.toInt ≤ (2 : Int)) := hq.2
      refine Tot_ite (fun c928 => ?_) (fun c928 => ?_)
      · have : r7.toInt = (0 : Int) := eqI c928
        exact Tot_some ⟨hs_u5, trivial, trivial⟩
      · have : ¬ r7.toInt = (0 : Int) := neI c928
        refine Tot_bind (tfX7_recall_7 x2 u5 hs_u5.1 ⟨by omega, by omega⟩) (fun q hq => ?_)
        obtain ⟨r10, u11⟩ := q
        have hc_u11 : StX mdX7_recall_7 u5 u11 := hq.1
        have hs_u11 : StX mdX11_fits_0 u u11 := StX_tr hs_u5 hc_u11 (by decide)
        have : 0 ≤ r10.toInt ∧ r10.toInt ≤ 0 := hq.2.1
        refine Tot_bind (tfX1_fit_8 x1 u11 hs_u11.1 ⟨by omega, by omega⟩) (fun q hq => ?_)
        obtain ⟨r13, u14⟩ := q
        have hc_u14 : StX mdX1_fit_8 u11 u14 := hq.1
        have hs_u14 : StX mdX11_fits_0 u u14 := StX_tr hs_u11 hc_u14 (by decide)
        have : 0 ≤ r13.toInt ∧ r13.toInt ≤ 0 := hq.2.1
        refine Tot_ite (fun c929 => ?_) (fun c929 => ?_)
        · have : x3.toInt = (2 : Int) := eqI c929
          exact Tot_some ⟨hs_u14, trivial, trivial⟩
        · have : ¬ x3.toInt = (2 : Int) := neI c929
          refine Tot_ite (fun c930 => ?_) (fun c930 => ?_)
          · have : x3.toInt = (0 : Int) := eqI c930
            have : (-1) ≤ (u14.1 19).toInt ∧ (u14.1 19).toInt ≤ 60 := hs_u14.1.1 19
            exact Tot_some ⟨hs_u14, trivial, trivial⟩
          · have : ¬ x3.toInt = (0 : Int) := neI c930
            have : (-1) ≤ (u14.1 20).toInt ∧ (u14.1 20).toInt ≤ 60 := hs_u14.1.1 20
            exact Tot_some ⟨hs_u14, trivial, trivial⟩

def mdX1_tellApart_8 : MD := ([22, 23], [19, 20], [], [])
abbrev qX1_tellApart_8 (u : SX) (q : Int32 × SX) : Prop := StX mdX1_tellApart_8 u q.2 ∧ (0 ≤ q.1.toInt ∧ q.1.toInt ≤ 0) ∧ (True)
set_option maxHeartbeats 400000 in
set_option maxRecDepth 10000 in
theorem tGX1_tellApart_8_59 (u0 : SX) (g8 : Int) {k8 : Int32 → Int32 → Int32 → Int32 → Int32 → SX → Option (Int32 × SX)} (hk8 : ∀ (z1 : Int32) (z2 : Int32) (z3 : Int32) (z4 : Int32) (z5 : Int32) (u : SX), (StX mdX1_tellApart_8 u0 u) → (0 ≤ z1.toInt ∧ z1.toInt ≤ 5) → (0 ≤ z2.toInt ∧ z2.toInt ≤ 60) → (0 ≤ z3.toInt ∧ z3.toInt ≤ 5) → (0 ≤ z4.toInt ∧ z4.toInt ≤ 60) → (1 ≤ z5.toInt ∧ z5.toInt ≤ 41) → (g8 < z5.toInt) → Tot (k8 z1 z2 z3 z4 z5 u) (qX1_tellApart_8 u0)) (z1 : Int32) (z2 : Int32) (z3 : Int32) (z4 : Int32) (z5 : Int32) (u : SX) (hs_u : StX mdX1_tellApart_8 u0 u) (h0 : 0 ≤ z1.toInt ∧ z1.toInt ≤ 5) (h1 : 0 ≤ z2.toInt ∧ z2.toInt ≤ 60) (h2 : 0 ≤ z3.toInt ∧ z3.toInt ≤ 5) (h3 : 0 ≤ z4.toInt ∧ z4.toInt ≤ 60) (h4 : 1 ≤ z5.toInt ∧ z5.toInt ≤ 40) (h5 : g8 ≤ z5.toInt) : Tot (GX1_tellApart_8_59 k8 z1 z2 z3 z4 z5 u) (qX1_tellApart_8 u0) := by
  unfold GX1_tellApart_8_59
  have : (z5 + 1).toInt = z5.toInt + (1 : Int) := addc_t (by decide) (by omega) (by omega)
  exact hk8 z1 z2 z3 z4 (z5 + 1) u hs_u ⟨by omega, by omega⟩ ⟨by omega, by omega⟩ ⟨by omega, by omega⟩ ⟨by omega, by omega⟩ ⟨by omega, by omega⟩ (by omega)
set_option maxHeartbeats 400000 in
set_option maxRecDepth 10000 in
theorem tLX1_tellApart_8_8 (u0 : SX)    : ∀ (n : Nat) (z1 : Int32) (z2 : Int32) (z3 : Int32) (z4 : Int32) (z5 : Int32) (u : SX), (StX mdX1_tellApart_8 u0 u) → (0 ≤ z1.toInt ∧ z1.toInt ≤ 5) → (0 ≤ z2.toInt ∧ z2.toInt ≤ 60) → (0 ≤ z3.toInt ∧ z3.toInt ≤ 5) → (0 ≤ z4.toInt ∧ z4.toInt ≤ 60) → (1 ≤ z5.toInt ∧ z5.toInt ≤ 41) → (41 - z5.toInt < (n : Int)) → Tot (LX1_tellApart_8_8 n z1 z2 z3 z4 z5 u) (qX1_tellApart_8 u0) := by
  intro n
  induction n with
  | zero =>
    intro z1 z2 z3 z4 z5 u hs_u h0 h1 h2 h3 h4 hm
    exfalso
    omega
  | succ n ih =>
    intro z1 z2 z3 z4 z5 u hs_u h0 h1 h2 h3 h4 hm
    rw [LX1_tellApart_8_8]
    refine Tot_ite (fun c931 => ?_) (fun c931 => ?_)
    · have : (40 : Int) < z5.toInt := ltI c931
      exact Tot_some ⟨hs_u, (by show 0 ≤ (0 : Int) ∧ (0 : Int) ≤ 0; omega), trivial⟩
    · have : ¬ (40 : Int) < z5.toInt := nltI c931
      refine Tot_bind (tfX1_guessed_8 z1 z5 z2 u hs_u.1 ⟨by omega, by omega⟩ ⟨by omega, by omega⟩ ⟨by omega, by omega⟩) (fun q hq => ?_)
      obtain ⟨r3, u4⟩ := q
      have hc_u4 : StX mdX1_guessed_8 u u4 := hq.1
      have hs_u4 : StX mdX1_tellApart_8 u0 u4 := StX_tr hs_u hc_u4 (by decide)
      refine Tot_bind (tfX1_guessed_8 z3 z5 z4 u4 hs_u4.1 ⟨by omega, by omega⟩ ⟨by omega, by omega⟩ ⟨by omega, by omega⟩) (fun q hq => ?_)
      obtain ⟨r6, u7⟩ := q
      have hc_u7 : StX mdX1_guessed_8 u4 u7 := hq.1
      have hs_u7 : StX mdX1_tellApart_8 u0 u7 := StX_tr hs_u4 hc_u7 (by decide)
      have : ((0 : Int) ≤ (r3 - r6).toInt ∧ (if 0 ≤ (r3 - r6) then (r3 - r6) else (0 - (r3 - r6))).toInt = (r3 - r6).toInt) ∨ (¬ (0 : Int) ≤ (r3 - r6).toInt ∧ (if 0 ≤ (r3 - r6) then (r3 - r6) else (0 - (r3 - r6))).toInt = (0 - (r3 - r6)).toInt) := ite_le_t (x := 0) (y := (r3 - r6)) (p := (r3 - r6)) (q := (0 - (r3 - r6)))
      refine Tot_lt (fun v9 e_v9 => ?_)
      refine Tot_ite (fun c932 => ?_) (fun c932 => ?_)
      · exact tGX1_tellApart_8_59 u0 (z5.toInt) (fun a933 a934 a935 a936 a937 w938 hw938 p939 p940 p941 p942 p943 p944 => ih a933 a934 a935 a936 a937 w938 hw938 p939 p940 p941 p942 p943 (by omega)) z1 z2 z3 z4 z5 u7 hs_u7 ⟨by omega, by omega⟩ ⟨by omega, by omega⟩ ⟨by omega, by omega⟩ ⟨by omega, by omega⟩ ⟨by omega, by omega⟩ (by omega)
      · refine Tot_lt (fun u11 e_u11 => ?_)
        have hs_u11 : StX mdX1_tellApart_8 u0 u11 := by rw [e_u11]; exact StX_sIf hs_u7 (by decide) rfl rfl
        refine Tot_lt (fun u13 e_u13 => ?_)
        have hs_u13 : StX mdX1_tellApart_8 u0 u13 := by rw [e_u13]; exact StX_sI hs_u11 (by decide) (by show 0 ≤ z5.toInt; omega) (by show z5.toInt ≤ 40; omega)
        exact tGX1_tellApart_8_59 u0 (z5.toInt) (fun a945 a946 a947 a948 a949 w950 hw950 p951 p952 p953 p954 p955 p956 => ih a945 a946 a947 a948 a949 w950 hw950 p951 p952 p953 p954 p955 (by omega)) z1 z2 z3 z4 z5 u13 hs_u13 ⟨by omega, by omega⟩ ⟨by omega, by omega⟩ ⟨by omega, by omega⟩ ⟨by omega, by omega⟩ ⟨by omega, by omega⟩ (by omega)
set_option maxHeartbeats 400000 in
set_option maxRecDepth 10000 in
theorem tfX1_tellApart_8 (x1 : Int32) (x2 : Int32) (x3 : Int32) (x4 : Int32) (u : SX) (hI : IX u) (h0 : 0 ≤ x1.toInt ∧ x1.toInt ≤ 5) (h1 : 0 ≤ x2.toInt ∧ x2.toInt ≤ 60) (h2 : 0 ≤ x3.toInt ∧ x3.toInt ≤ 5) (h3 : 0 ≤ x4.toInt ∧ x4.toInt ≤ 60) : Tot (fX1_tellApart_8 x1 x2 x3 x4 u) (qX1_tellApart_8 u) := by
  unfold fX1_tellApart_8
  have hs_u : StX mdX1_tellApart_8 u u := StX_rf hI
  refine Tot_lt (fun u1 e_u1 => ?_)
  have hs_u1 : StX mdX1_tellApart_8 u u1 := by rw [e_u1]; exact StX_sIf hs_u (by decide) rfl rfl
  exact tLX1_tellApart_8_8 u 5000 x1 x2 x3 x4 1 u1 hs_u1 ⟨by omega, by omega⟩ ⟨by omega, by omega⟩ ⟨by omega, by omega⟩ ⟨by omega, by omega⟩ (by show 1 ≤ (1 : Int) ∧ (1 : Int) ≤ 41; omega) (by show 41 - (1 : Int) < ((5000 : Nat) : Int); omega)

def mdX11_next_0 : MD := ([10, 11, 14, 15, 16, 19, 20, 21, 22, 23], [16, 17, 19, 20, 27, 28, 38, 39, 41, 43, 44, 45], [], [])
abbrev qX11_next_0 (u : SX) (q : Int32 × SX) : Prop := StX mdX11_next_0 u q.2 ∧ (True) ∧ (True)
set_option maxHeartbeats 400000 in
set_option maxRecDepth 10000 in
theorem tfX11_next_0 (x1 : Int32) (x2 : Int32) (x3 : Int32) (x4 : Int32) (u : SX) (hI : IX u)  : Tot (fX11_next_0 x1 x2 x3 x4 u) (qX11_next_0 u) := by
  unfold fX11_next_0
  have hs_u : StX mdX11_next_0 u u := StX_rf hI
  refine Tot_bind (tfX11_isDay_0 x3 u hs_u.1) (fun q hq => ?_)
  obtain ⟨r1, u2⟩ := q
  have hc_u2 : StX mdX11_isDay_0 u u2 := hq.1
  have hs_u2 : StX mdX11_next_0 u u2 := StX_tr hs_u hc_u2 (by decide)
  have : 0 ≤ r1.toInt ∧ r1.toInt ≤ 1 := hq.2.1
  have : 0 ≤ (u.1 0).toInt ∧ (u.1 0).toInt ≤ 120 := hs_u.1.1 0
  have : r1.toInt ≠ 0 → ((0 : Int) ≤ x3.toInt ∧ x3.toInt ≤ (u.1 0).toInt) := hq.2.2
  refine Tot_ite (fun c957 => ?_) (fun c957 => ?_)
  · have : r1.toInt = (0 : Int) := eqI c957
    exact Tot_some ⟨hs_u2, trivial, trivial⟩
  · have : ¬ r1.toInt = (0 : Int) := neI c957
    refine Tot_bind (tfX8_has_4 x1 u2 hs_u2.1) (fun q hq => ?_)
    obtain ⟨r4, u5⟩ := q
    have hc_u5 : StX mdX8_has_4 u2 u5 := hq.1
    have hs_u5 : StX mdX11_next_0 u u5 := StX_tr hs_u2 hc_u5 (by decide)
    have : 0 ≤ r4.toInt ∧ r4.toInt ≤ 1 := hq.2.1
    have : (u2.1 6).toInt = (u.1 6).toInt := congrArg Int32.toInt (hc_u2.2.1 6 (by decide))
    have : 0 ≤ (u.1 6).toInt ∧ (u.1 6).toInt ≤ 6 := hs_u.1.1 6
    have : r4.toInt ≠ 0 → ((0 : Int) ≤ x1.toInt ∧ x1.toInt < (u2.1 6).toInt) := hq.2.2
    refine Tot_ite (fun c958 => ?_) (fun c958 => ?_)
    · have : r4.toInt = (0 : Int) := eqI c958
      exact Tot_some ⟨hs_u5, trivial, trivial⟩
    · have : ¬ r4.toInt = (0 : Int) := neI c958
      refine Tot_bind (tfX8_has_4 x2 u5 hs_u5.1) (fun q hq => ?_)
      obtain ⟨r7, u8⟩ := q
      have hc_u8 : StX mdX8_has_4 u5 u8 := hq.1
      have hs_u8 : StX mdX11_next_0 u u8 := StX_tr hs_u5 hc_u8 (by decide)
      have : 0 ≤ r7.toInt ∧ r7.toInt ≤ 1 := hq.2.1
      have : (u5.1 6).toInt = (u2.1 6).toInt := congrArg Int32.toInt (hc_u5.2.1 6 (by decide))
      have : r7.toInt ≠ 0 → ((0 : Int) ≤ x2.toInt ∧ x2.toInt < (u5.1 6).toInt) := hq.2.2
      refine Tot_ite (fun c959 => ?_) (fun c959 => ?_)
      · have : r7.toInt = (0 : Int) := eqI c959
        exact Tot_some ⟨hs_u8, trivial, trivial⟩
      · have : ¬ r7.toInt = (0 : Int) := neI c959
        refine Tot_bind (tfX11_isEither x4) (fun r10 hq => ?_)
        have : 0 ≤ r10.toInt ∧ r10.toInt ≤ 1 := hq.1
        have : r10.toInt ≠ 0 → ((0 : Int) ≤ x4.toInt ∧ x4.toInt ≤ (1 : Int)) := hq.2
        refine Tot_ite (fun c960 => ?_) (fun c960 => ?_)
        · have : r10.toInt = (0 : Int) := eqI c960
          exact Tot_some ⟨hs_u8, trivial, trivial⟩
        · have : ¬ r10.toInt = (0 : Int) := neI c960
          refine Tot_bind (tfX7_recall_7 x3 u8 hs_u8.1 ⟨by omega, by omega⟩) (fun q hq => ?_)
          obtain ⟨r13, u14⟩ := q
          have hc_u14 : StX mdX7_recall_7 u8 u14 := hq.1
          have hs_u14 : StX mdX11_next_0 u u14 := StX_tr hs_u8 hc_u14 (by decide)
          have : 0 ≤ r13.toInt ∧ r13.toInt ≤ 0 := hq.2.1
          refine Tot_bind (tfX1_fit_8 x1 u14 hs_u14.1 ⟨by omega, by omega⟩) (fun q hq => ?_)
          obtain ⟨r16, u17⟩ := q
          have hc_u17 : StX mdX1_fit_8 u14 u17 := hq.1
          have hs_u17 : StX mdX11_next_0 u u17 := StX_tr hs_u14 hc_u17 (by decide)
          have : 0 ≤ r16.toInt ∧ r16.toInt ≤ 0 := hq.2.1
          have : (-1) ≤ (u17.1 19).toInt ∧ (u17.1 19).toInt ≤ 60 := hs_u17.1.1 19
          refine Tot_lt (fun v19 e_v19 => ?_)
          have : v19.toInt = (u17.1 19).toInt := congrArg Int32.toInt e_v19
          refine Tot_bind (tfX1_fit_8 x2 u17 hs_u17.1 ⟨by omega, by omega⟩) (fun q hq => ?_)
          obtain ⟨r21, u22⟩ := q
          have hc_u22 : StX mdX1_fit_8 u17 u22 := hq.1
          have hs_u22 : StX mdX11_next_0 u u22 := StX_tr hs_u17 hc_u22 (by decide)
          have : 0 ≤ r21.toInt ∧ r21.toInt ≤ 0 := hq.2.1
          have : (-1) ≤ (u22.1 19).toInt ∧ (u22.1 19).toInt ≤ 60 := hs_u22.1.1 19
          refine Tot_lt (fun v24 e_v24 => ?_)
          have : v24.toInt = (u22.1 19).toInt := congrArg Int32.toInt e_v24
          refine Tot_ite (fun c961 => ?_) (fun c961 => ?_)
          · have : v19.toInt = (-1 : Int) := eqI c961
            exact Tot_some ⟨hs_u22, trivial, trivial⟩
          · have : ¬ v19.toInt = (-1 : Int) := neI c961
            refine Tot_ite (fun c962 => ?_) (fun c962 => ?_)
            · have : v24.toInt = (-1 : Int) := eqI c962
              exact Tot_some ⟨hs_u22, trivial, trivial⟩
            · have : ¬ v24.toInt = (-1 : Int) := neI c962
              refine Tot_bind (tfX1_tellApart_8 x1 v19 x2 v24 u22 hs_u22.1 ⟨by omega, by omega⟩ ⟨by omega, by omega⟩ ⟨by omega, by omega⟩ ⟨by omega, by omega⟩) (fun q hq => ?_)
              obtain ⟨r26, u27⟩ := q
              have hc_u27 : StX mdX1_tellApart_8 u22 u27 := hq.1
              have hs_u27 : StX mdX11_next_0 u u27 := StX_tr hs_u22 hc_u27 (by decide)
              have : 0 ≤ r26.toInt ∧ r26.toInt ≤ 0 := hq.2.1
              refine Tot_ite (fun c963 => ?_) (fun c963 => ?_)
              · have : x4.toInt = (0 : Int) := eqI c963
                have : 0 ≤ (u27.1 22).toInt ∧ (u27.1 22).toInt ≤ 40 := hs_u27.1.1 22
                exact Tot_some ⟨hs_u27, trivial, trivial⟩
              · have : ¬ x4.toInt = (0 : Int) := neI c963
                exact Tot_some ⟨hs_u27, trivial, trivial⟩

def mdX11_house_0 : MD := ([35], [], [], [])
abbrev qX11_house_0 (u : SX) (q : Int32 × SX) : Prop := StX mdX11_house_0 u q.2 ∧ ((-1) ≤ q.1.toInt ∧ q.1.toInt ≤ 7) ∧ (True)
set_option maxHeartbeats 400000 in
set_option maxRecDepth 10000 in
theorem tfX11_house_0  (u : SX) (hI : IX u)  : Tot (fX11_house_0  u) (qX11_house_0 u) := by
  unfold fX11_house_0
  have hs_u : StX mdX11_house_0 u u := StX_rf hI
  have : 0 ≤ (u.1 35).toInt ∧ (u.1 35).toInt ≤ 8 := hs_u.1.1 35
  refine Tot_ite (fun c964 => ?_) (fun c964 => ?_)
  · have : (u.1 35).toInt < (8 : Int) := ltI c964
    have : ((u.1 35) + 1).toInt = (u.1 35).toInt + (1 : Int) := addc_t (by decide) (by omega) (by omega)
    refine Tot_lt (fun u1 e_u1 => ?_)
    have hs_u1 : StX mdX11_house_0 u u1 := by rw [e_u1]; exact StX_sI hs_u (by decide) (by show 0 ≤ ((u.1 35) + 1).toInt; omega) (by show ((u.1 35) + 1).toInt ≤ 8; omega)
    have : (u1.1 35).toInt = ((u.1 35) + 1).toInt := by rw [e_u1]; rfl
    have : ((u1.1 35) - 1).toInt = (u1.1 35).toInt - (1 : Int) := subc_t (by decide) (by omega) (by omega)
    exact Tot_some ⟨hs_u1, (by show (-1) ≤ ((u1.1 35) - 1).toInt ∧ ((u1.1 35) - 1).toInt ≤ 7; omega), trivial⟩
  · have : ¬ (u.1 35).toInt < (8 : Int) := nltI c964
    exact Tot_some ⟨hs_u, (by show (-1) ≤ (-1 : Int) ∧ (-1 : Int) ≤ 7; omega), trivial⟩
