abbrev qX12_isSpan (x0 : Int32) (x1 : Int32) (q : Int32) : Prop := (0 ≤ q.toInt ∧ q.toInt ≤ 1) ∧ ((q.toInt ≠ 0 → ((0 : Int) ≤ x0.toInt ∧ x0.toInt ≤ x1.toInt ∧ x1.toInt ≤ (400 : Int))))
set_option maxHeartbeats 400000 in
set_option maxRecDepth 10000 in
theorem tfX12_isSpan (x0 : Int32) (x1 : Int32)  : Tot (fX12_isSpan x0 x1) (qX12_isSpan x0 x1 ) := by
  unfold fX12_isSpan
  refine Tot_bind (tfX12_isIn x0 0 400 (by show (-100000) ≤ (0 : Int) ∧ (0 : Int) ≤ 400; omega) (by show (-1) ≤ (400 : Int) ∧ (400 : Int) ≤ 100000; omega)) (fun r1 hq => ?_)
  have : 0 ≤ r1.toInt ∧ r1.toInt ≤ 1 := hq.1
  have : r1.toInt ≠ 0 → ((0 : Int) ≤ x0.toInt ∧ x0.toInt ≤ (400 : Int)) := hq.2
  clear hq
  refine Tot_ite (fun c210 => ?_) (fun c210 => ?_)
  · have : r1.toInt = (0 : Int) := eqI c210
    refine Tot_gd (by decide) ?_
    exact Tot_some ⟨(by show 0 ≤ (0 : Int) ∧ (0 : Int) ≤ 1; omega), (by show (0 : Int) ≠ 0 → ((0 : Int) ≤ x0.toInt ∧ x0.toInt ≤ x1.toInt ∧ x1.toInt ≤ (400 : Int)); omega)⟩
  · have : ¬ r1.toInt = (0 : Int) := neI c210
    refine Tot_bind (tfX12_isIn x1 x0 400 ⟨by omega, by omega⟩ (by show (-1) ≤ (400 : Int) ∧ (400 : Int) ≤ 100000; omega)) (fun r5 hq => ?_)
    have : 0 ≤ r5.toInt ∧ r5.toInt ≤ 1 := hq.1
    have : r5.toInt ≠ 0 → (x0.toInt ≤ x1.toInt ∧ x1.toInt ≤ (400 : Int)) := hq.2
    clear hq
    refine Tot_ite (fun c211 => ?_) (fun c211 => ?_)
    · have : r5.toInt = (0 : Int) := eqI c211
      refine Tot_gd (by decide) ?_
      exact Tot_some ⟨(by show 0 ≤ (0 : Int) ∧ (0 : Int) ≤ 1; omega), (by show (0 : Int) ≠ 0 → ((0 : Int) ≤ x0.toInt ∧ x0.toInt ≤ x1.toInt ∧ x1.toInt ≤ (400 : Int)); omega)⟩
    · have : ¬ r5.toInt = (0 : Int) := neI c211
      refine Tot_gd (by decide) ?_
      exact Tot_some ⟨(by show 0 ≤ (1 : Int) ∧ (1 : Int) ≤ 1; omega), (by show (1 : Int) ≠ 0 → ((0 : Int) ≤ x0.toInt ∧ x0.toInt ≤ x1.toInt ∧ x1.toInt ≤ (400 : Int)); omega)⟩

def mdX12_part__0 : MD := ([0, 12], [6, 7, 8, 9, 10], [], [])
abbrev qX12_part__0 (u : SX) (q : Int32 × SX) : Prop := StM mdX12_part__0 u q.2 ∧ ((-1) ≤ q.1.toInt ∧ q.1.toInt ≤ 11) ∧ (True)
set_option maxHeartbeats 400000 in
set_option maxRecDepth 10000 in
theorem tfX12_part__0 (x1 : Int32) (x2 : Int32) (x3 : Int32) (x4 : Int32) (u : SX) (hI : IM u)  : Tot (fX12_part__0 x1 x2 x3 x4 u) (qX12_part__0 u) := by
  unfold fX12_part__0
  have hs_u : StM mdX12_part__0 u u := StM_rf hI
  refine Tot_lt (fun u1 e_u1 => ?_)
  have hs_u1 : StM mdX12_part__0 u u1 := by rw [e_u1]; exact StM_sI hs_u (by decide) (by show 0 ≤ (0 : Int); omega) (by show (0 : Int) ≤ 1; omega)
  have : (u1.1 12).toInt = (u.1 12).toInt := by rw [e_u1]; rfl
  have : 0 ≤ (u.1 12).toInt ∧ (u.1 12).toInt ≤ 12 := hs_u.1.1 12
  refine Tot_ite (fun c212 => ?_) (fun c212 => ?_)
  · have : (u1.1 12).toInt = (12 : Int) := eqI c212
    exact Tot_some ⟨hs_u1, (by show (-1) ≤ (-1 : Int) ∧ (-1 : Int) ≤ 11; omega), trivial⟩
  · have : ¬ (u1.1 12).toInt = (12 : Int) := neI c212
    refine Tot_gd (by decide) ?_
    have : (u1.2.1 4 ((0 : Int32)).toNatClampNeg).toInt = (u.2.1 4 ((0 : Int32)).toNatClampNeg).toInt := by rw [e_u1]; rfl
    have : 0 ≤ (u1.2.1 4 ((0 : Int32)).toNatClampNeg).toInt ∧ (u1.2.1 4 ((0 : Int32)).toNatClampNeg).toInt ≤ 12 := hs_u1.1.2.1 4 ((0 : Int32)).toNatClampNeg
    have : ((u1.2.1 4 ((0 : Int32)).toNatClampNeg) - 1).toInt = (u1.2.1 4 ((0 : Int32)).toNatClampNeg).toInt - (1 : Int) := subc_t (by decide) (by omega) (by omega)
    refine Tot_bind (tfX12_isIn x1 0 ((u1.2.1 4 ((0 : Int32)).toNatClampNeg) - 1) (by show (-100000) ≤ (0 : Int) ∧ (0 : Int) ≤ 400; omega) ⟨by omega, by omega⟩) (fun r4 hq => ?_)
    have : 0 ≤ r4.toInt ∧ r4.toInt ≤ 1 := hq.1
    have : r4.toInt ≠ 0 → ((0 : Int) ≤ x1.toInt ∧ x1.toInt ≤ ((u1.2.1 4 ((0 : Int32)).toNatClampNeg) - 1).toInt) := hq.2
    clear hq
    refine Tot_ite (fun c213 => ?_) (fun c213 => ?_)
    · have : r4.toInt = (0 : Int) := eqI c213
      exact Tot_some ⟨hs_u1, (by show (-1) ≤ (-1 : Int) ∧ (-1 : Int) ≤ 11; omega), trivial⟩
    · have : ¬ r4.toInt = (0 : Int) := neI c213
      refine Tot_bind (tfX12_isSpan x2 x3) (fun r7 hq => ?_)
      have : 0 ≤ r7.toInt ∧ r7.toInt ≤ 1 := hq.1
      have : r7.toInt ≠ 0 → ((0 : Int) ≤ x2.toInt ∧ x2.toInt ≤ x3.toInt ∧ x3.toInt ≤ (400 : Int)) := hq.2
      clear hq
      refine Tot_ite (fun c214 => ?_) (fun c214 => ?_)
      · have : r7.toInt = (0 : Int) := eqI c214
        exact Tot_some ⟨hs_u1, (by show (-1) ≤ (-1 : Int) ∧ (-1 : Int) ≤ 11; omega), trivial⟩
      · have : ¬ r7.toInt = (0 : Int) := neI c214
        refine Tot_bind (tfX12_isIn x4 0 400 (by show (-100000) ≤ (0 : Int) ∧ (0 : Int) ≤ 400; omega) (by show (-1) ≤ (400 : Int) ∧ (400 : Int) ≤ 100000; omega)) (fun r10 hq => ?_)
        have : 0 ≤ r10.toInt ∧ r10.toInt ≤ 1 := hq.1
        have : r10.toInt ≠ 0 → ((0 : Int) ≤ x4.toInt ∧ x4.toInt ≤ (400 : Int)) := hq.2
        clear hq
        refine Tot_ite (fun c215 => ?_) (fun c215 => ?_)
        · have : r10.toInt = (0 : Int) := eqI c215
          exact Tot_some ⟨hs_u1, (by show (-1) ≤ (-1 : Int) ∧ (-1 : Int) ≤ 11; omega), trivial⟩
        · have : ¬ r10.toInt = (0 : Int) := neI c215
          refine Tot_gd (inb_t (by omega) (by omega)) ?_
          refine Tot_lt (fun u14 e_u14 => ?_)
          have hs_u14 : StM mdX12_part__0 u u14 := by rw [e_u14]; exact StM_sA hs_u1 (by decide) (by show 0 ≤ x1.toInt; omega) (by show x1.toInt ≤ 11; omega) (by decide)
          have : (u14.1 12).toInt = (u1.1 12).toInt := by rw [e_u14]; rfl
          refine Tot_gd (inb_t (by omega) (by omega)) ?_
          refine Tot_lt (fun u17 e_u17 => ?_)
          have hs_u17 : StM mdX12_part__0 u u17 := by rw [e_u17]; exact StM_sAf hs_u14 (by decide) rfl rfl (by decide)
          have : (u17.1 12).toInt = (u14.1 12).toInt := by rw [e_u17]; rfl
          refine Tot_gd (inb_t (by omega) (by omega)) ?_
          refine Tot_lt (fun u20 e_u20 => ?_)
          have hs_u20 : StM mdX12_part__0 u u20 := by rw [e_u20]; exact StM_sA hs_u17 (by decide) (by show 0 ≤ x3.toInt; omega) (by show x3.toInt ≤ 400; omega) (by decide)
          have : (u20.1 12).toInt = (u17.1 12).toInt := by rw [e_u20]; rfl
          refine Tot_gd (inb_t (by omega) (by omega)) ?_
          refine Tot_lt (fun u23 e_u23 => ?_)
          have hs_u23 : StM mdX12_part__0 u u23 := by rw [e_u23]; exact StM_sA hs_u20 (by decide) (by show 0 ≤ x4.toInt; omega) (by show x4.toInt ≤ 400; omega) (by decide)
          have : (u23.1 12).toInt = (u20.1 12).toInt := by rw [e_u23]; rfl
          refine Tot_gd (inb_t (by omega) (by omega)) ?_
          have : (u23.1 1).toInt = (u20.1 1).toInt := by rw [e_u23]; rfl
          have : (u20.1 1).toInt = (u17.1 1).toInt := by rw [e_u20]; rfl
          have : (u17.1 1).toInt = (u14.1 1).toInt := by rw [e_u17]; rfl
          have : (u14.1 1).toInt = (u1.1 1).toInt := by rw [e_u14]; rfl
          have : (u1.1 1).toInt = (u.1 1).toInt := by rw [e_u1]; rfl
          have : 0 ≤ (u.1 1).toInt ∧ (u.1 1).toInt ≤ 120 := hs_u.1.1 1
          refine Tot_lt (fun u26 e_u26 => ?_)
          have hs_u26 : StM mdX12_part__0 u u26 := by rw [e_u26]; exact StM_sA hs_u23 (by decide) (by show 0 ≤ (u23.1 1).toInt; omega) (by show (u23.1 1).toInt ≤ 120; omega) (by decide)
          have : (u26.1 12).toInt = (u23.1 12).toInt := by rw [e_u26]; rfl
          have : ((u26.1 12) + 1).toInt = (u26.1 12).toInt + (1 : Int) := addc_t (by decide) (by omega) (by omega)
          refine Tot_lt (fun u28 e_u28 => ?_)
          have hs_u28 : StM mdX12_part__0 u u28 := by rw [e_u28]; exact StM_sI hs_u26 (by decide) (by show 0 ≤ ((u26.1 12) + 1).toInt; omega) (by show ((u26.1 12) + 1).toInt ≤ 12; omega)
          have : (u28.1 12).toInt = ((u26.1 12) + 1).toInt := by rw [e_u28]; rfl
          have : ((u28.1 12) - 1).toInt = (u28.1 12).toInt - (1 : Int) := subc_t (by decide) (by omega) (by omega)
          exact Tot_some ⟨hs_u28, (by show (-1) ≤ ((u28.1 12) - 1).toInt ∧ ((u28.1 12) - 1).toInt ≤ 11; omega), trivial⟩

def mdX12_cutDown_0 : MD := ([], [16, 17], [], [])
abbrev qX12_cutDown_0 (u : SX) (q : Int32 × SX) : Prop := StM mdX12_cutDown_0 u q.2 ∧ (0 ≤ q.1.toInt ∧ q.1.toInt ≤ 0) ∧ (True)
set_option maxHeartbeats 400000 in
set_option maxRecDepth 10000 in
theorem tGX12_cutDown_0_54 (u0 : SX)    (z1 : Int32) (z3 : Int32) (z4 : Int32) (y0 : Int32) (y1 : Int32) (u : SX) (hs_u : StM mdX12_cutDown_0 u0 u) (h0 : 0 ≤ z1.toInt ∧ z1.toInt ≤ 11) (h1 : 0 ≤ z3.toInt ∧ z3.toInt ≤ 400) (h2 : 0 ≤ z4.toInt ∧ z4.toInt ≤ 1) (h3 : 0 ≤ y1.toInt ∧ y1.toInt ≤ 11) : Tot (GX12_cutDown_0_54 z1 z3 z4 y0 y1 u) (qX12_cutDown_0 u0) := by
  unfold GX12_cutDown_0_54
  refine Tot_gd (inb_t (by omega) (by omega)) ?_
  refine Tot_lt (fun u4 e_u4 => ?_)
  have hs_u4 : StM mdX12_cutDown_0 u0 u4 := by rw [e_u4]; exact StM_sAf hs_u (by decide) rfl rfl (by decide)
  refine Tot_ite (fun c216 => ?_) (fun c216 => ?_)
  · have : z4.toInt = (0 : Int) := eqI c216
    refine Tot_gd (inb_t (by omega) (by omega)) ?_
    refine Tot_lt (fun u7 e_u7 => ?_)
    have hs_u7 : StM mdX12_cutDown_0 u0 u7 := by rw [e_u7]; exact StM_sA hs_u4 (by decide) (by show 0 ≤ z3.toInt; omega) (by show z3.toInt ≤ 400; omega) (by decide)
    exact Tot_some ⟨hs_u7, (by show 0 ≤ (0 : Int) ∧ (0 : Int) ≤ 0; omega), trivial⟩
  · have : ¬ z4.toInt = (0 : Int) := neI c216
    refine Tot_gd (inb_t (by omega) (by omega)) ?_
    refine Tot_gd (inb_t (by omega) (by omega)) ?_
    have : 0 ≤ (u4.2.1 17 z1.toNatClampNeg).toInt ∧ (u4.2.1 17 z1.toNatClampNeg).toInt ≤ 400 := hs_u4.1.2.1 17 z1.toNatClampNeg
    have : (z3.toInt < (u4.2.1 17 z1.toNatClampNeg).toInt ∧ (if z3 < (u4.2.1 17 z1.toNatClampNeg) then z3 else (u4.2.1 17 z1.toNatClampNeg)).toInt = z3.toInt) ∨ (¬ z3.toInt < (u4.2.1 17 z1.toNatClampNeg).toInt ∧ (if z3 < (u4.2.1 17 z1.toNatClampNeg) then z3 else (u4.2.1 17 z1.toNatClampNeg)).toInt = (u4.2.1 17 z1.toNatClampNeg).toInt) := ite_lt_t (x := z3) (y := (u4.2.1 17 z1.toNatClampNeg)) (p := z3) (q := (u4.2.1 17 z1.toNatClampNeg))
    refine Tot_lt (fun u11 e_u11 => ?_)
    have hs_u11 : StM mdX12_cutDown_0 u0 u11 := by rw [e_u11]; exact StM_sA hs_u4 (by decide) (by show 0 ≤ (if z3 < (u4.2.1 17 z1.toNatClampNeg) then z3 else (u4.2.1 17 z1.toNatClampNeg)).toInt; omega) (by show (if z3 < (u4.2.1 17 z1.toNatClampNeg) then z3 else (u4.2.1 17 z1.toNatClampNeg)).toInt ≤ 400; omega) (by decide)
    exact Tot_some ⟨hs_u11, (by show 0 ≤ (0 : Int) ∧ (0 : Int) ≤ 0; omega), trivial⟩
set_option maxHeartbeats 400000 in
set_option maxRecDepth 10000 in
theorem tGX12_cutDown_0_28 (u0 : SX)    (z1 : Int32) (z2 : Int32) (z3 : Int32) (y0 : Int32) (u : SX) (hs_u : StM mdX12_cutDown_0 u0 u) (h0 : 0 ≤ z1.toInt ∧ z1.toInt ≤ 11) (h1 : 0 ≤ z3.toInt ∧ z3.toInt ≤ 400) (h2 : 0 ≤ y0.toInt ∧ y0.toInt ≤ 1) : Tot (GX12_cutDown_0_28 z1 z2 z3 y0 u) (qX12_cutDown_0 u0) := by
  unfold GX12_cutDown_0_28
  refine Tot_ite (fun c217 => ?_) (fun c217 => ?_)
  · have : y0.toInt = (0 : Int) := eqI c217
    exact tGX12_cutDown_0_54 u0 z1 z3 y0 z2 z1 u hs_u ⟨by omega, by omega⟩ ⟨by omega, by omega⟩ ⟨by omega, by omega⟩ ⟨by omega, by omega⟩
  · have : ¬ y0.toInt = (0 : Int) := neI c217
    refine Tot_gd (inb_t (by omega) (by omega)) ?_
    have : ((u.2.1 16 z1.toNatClampNeg).toInt < z2.toInt ∧ (if (u.2.1 16 z1.toNatClampNeg) < z2 then z2 else (u.2.1 16 z1.toNatClampNeg)).toInt = z2.toInt) ∨ (¬ (u.2.1 16 z1.toNatClampNeg).toInt < z2.toInt ∧ (if (u.2.1 16 z1.toNatClampNeg) < z2 then z2 else (u.2.1 16 z1.toNatClampNeg)).toInt = (u.2.1 16 z1.toNatClampNeg).toInt) := ite_lt_t (x := (u.2.1 16 z1.toNatClampNeg)) (y := z2) (p := z2) (q := (u.2.1 16 z1.toNatClampNeg))
    exact tGX12_cutDown_0_54 u0 z1 z3 y0 (if (u.2.1 16 z1.toNatClampNeg) < z2 then z2 else (u.2.1 16 z1.toNatClampNeg)) z1 u hs_u ⟨by omega, by omega⟩ ⟨by omega, by omega⟩ ⟨by omega, by omega⟩ ⟨by omega, by omega⟩
set_option maxHeartbeats 400000 in
set_option maxRecDepth 10000 in
theorem tfX12_cutDown_0 (x1 : Int32) (x2 : Int32) (x3 : Int32) (u : SX) (hI : IM u) (h0 : 0 ≤ x1.toInt ∧ x1.toInt ≤ 11) (h1 : 0 ≤ x3.toInt ∧ x3.toInt ≤ 400) : Tot (fX12_cutDown_0 x1 x2 x3 u) (qX12_cutDown_0 u) := by
  unfold fX12_cutDown_0
  have hs_u : StM mdX12_cutDown_0 u u := StM_rf hI
  refine Tot_gd (inb_t (by omega) (by omega)) ?_
  refine Tot_gd (inb_t (by omega) (by omega)) ?_
  have : 0 ≤ (u.2.1 17 x1.toNatClampNeg).toInt ∧ (u.2.1 17 x1.toNatClampNeg).toInt ≤ 400 := hs_u.1.2.1 17 x1.toNatClampNeg
  have : (x3.toInt < (u.2.1 17 x1.toNatClampNeg).toInt ∧ (if x3 < (u.2.1 17 x1.toNatClampNeg) then x3 else (u.2.1 17 x1.toNatClampNeg)).toInt = x3.toInt) ∨ (¬ x3.toInt < (u.2.1 17 x1.toNatClampNeg).toInt ∧ (if x3 < (u.2.1 17 x1.toNatClampNeg) then x3 else (u.2.1 17 x1.toNatClampNeg)).toInt = (u.2.1 17 x1.toNatClampNeg).toInt) := ite_lt_t (x := x3) (y := (u.2.1 17 x1.toNatClampNeg)) (p := x3) (q := (u.2.1 17 x1.toNatClampNeg))
  have : ((u.2.1 16 x1.toNatClampNeg).toInt < x2.toInt ∧ (if (u.2.1 16 x1.toNatClampNeg) < x2 then x2 else (u.2.1 16 x1.toNatClampNeg)).toInt = x2.toInt) ∨ (¬ (u.2.1 16 x1.toNatClampNeg).toInt < x2.toInt ∧ (if (u.2.1 16 x1.toNatClampNeg) < x2 then x2 else (u.2.1 16 x1.toNatClampNeg)).toInt = (u.2.1 16 x1.toNatClampNeg).toInt) := ite_lt_t (x := (u.2.1 16 x1.toNatClampNeg)) (y := x2) (p := x2) (q := (u.2.1 16 x1.toNatClampNeg))
  refine Tot_ite (fun c218 => ?_) (fun c218 => ?_)
  · have : (if x3 < (u.2.1 17 x1.toNatClampNeg) then x3 else (u.2.1 17 x1.toNatClampNeg)).toInt < (if (u.2.1 16 x1.toNatClampNeg) < x2 then x2 else (u.2.1 16 x1.toNatClampNeg)).toInt := ltI c218
    exact tGX12_cutDown_0_28 u x1 x2 x3 0 u hs_u ⟨by omega, by omega⟩ ⟨by omega, by omega⟩ (by show 0 ≤ (0 : Int) ∧ (0 : Int) ≤ 1; omega)
  · have : ¬ (if x3 < (u.2.1 17 x1.toNatClampNeg) then x3 else (u.2.1 17 x1.toNatClampNeg)).toInt < (if (u.2.1 16 x1.toNatClampNeg) < x2 then x2 else (u.2.1 16 x1.toNatClampNeg)).toInt := nltI c218
    exact tGX12_cutDown_0_28 u x1 x2 x3 1 u hs_u ⟨by omega, by omega⟩ ⟨by omega, by omega⟩ (by show 0 ≤ (1 : Int) ∧ (1 : Int) ≤ 1; omega)

def mdX12_laySpans_0 : MD := ([], [16, 17], [], [])
abbrev qX12_laySpans_0 (u : SX) (q : Int32 × SX) : Prop := StM mdX12_laySpans_0 u q.2 ∧ (0 ≤ q.1.toInt ∧ q.1.toInt ≤ 0) ∧ (True)
set_option maxHeartbeats 400000 in
set_option maxRecDepth 10000 in
theorem tLX12_laySpans_0_2 (u0 : SX)  {k40 : Int32 → SX → Option (Int32 × SX)} (hk40 : ∀ (z1 : Int32) (u : SX), (StM mdX12_laySpans_0 u0 u) → (0 ≤ z1.toInt ∧ z1.toInt ≤ 30) → Tot (k40 z1 u) (qX12_laySpans_0 u0)) : ∀ (n : Nat) (z1 : Int32) (z2 : Int32) (u : SX), (StM mdX12_laySpans_0 u0 u) → (0 ≤ z1.toInt ∧ z1.toInt ≤ 30) → (0 ≤ z2.toInt ∧ z2.toInt ≤ 12) → (12 - z2.toInt < (n : Int)) → Tot (LX12_laySpans_0_2 k40 n z1 z2 u) (qX12_laySpans_0 u0) := by
  intro n
  induction n with
  | zero =>
    intro z1 z2 u hs_u h0 h1 hm
    exfalso
    omega
  | succ n ih =>
    intro z1 z2 u hs_u h0 h1 hm
    rw [LX12_laySpans_0_2]
    have : 0 ≤ (u.1 12).toInt ∧ (u.1 12).toInt ≤ 12 := hs_u.1.1 12
    refine Tot_ite (fun c219 => ?_) (fun c219 => ?_)
    · have : (u.1 12).toInt ≤ z2.toInt := leI c219
      exact hk40 z1 u hs_u ⟨by omega, by omega⟩
    · have : ¬ (u.1 12).toInt ≤ z2.toInt := nleI c219
      refine Tot_gd (inb_t (by omega) (by omega)) ?_
      refine Tot_gd (inb_t (by omega) (by omega)) ?_
      refine Tot_lt (fun u3 e_u3 => ?_)
      have hs_u3 : StM mdX12_laySpans_0 u0 u3 := by rw [e_u3]; exact StM_sAf hs_u (by decide) rfl rfl (by decide)
      refine Tot_gd (inb_t (by omega) (by omega)) ?_
      refine Tot_gd (inb_t (by omega) (by omega)) ?_
      have : 0 ≤ (u3.2.1 8 z2.toNatClampNeg).toInt ∧ (u3.2.1 8 z2.toNatClampNeg).toInt ≤ 400 := hs_u3.1.2.1 8 z2.toNatClampNeg
      refine Tot_lt (fun u7 e_u7 => ?_)
      have hs_u7 : StM mdX12_laySpans_0 u0 u7 := by rw [e_u7]; exact StM_sA hs_u3 (by decide) (by show 0 ≤ (u3.2.1 8 z2.toNatClampNeg).toInt; omega) (by show (u3.2.1 8 z2.toNatClampNeg).toInt ≤ 400; omega) (by decide)
      have : (z2 + 1).toInt = z2.toInt + (1 : Int) := addc_t (by decide) (by omega) (by omega)
      exact ih z1 (z2 + 1) u7 hs_u7 ⟨by omega, by omega⟩ ⟨by omega, by omega⟩ (by omega)
set_option maxHeartbeats 400000 in
set_option maxRecDepth 10000 in
theorem tGX12_laySpans_0_108 (u0 : SX) (g42 : Int) {k42 : Int32 → Int32 → SX → Option (Int32 × SX)} (hk42 : ∀ (z1 : Int32) (z2 : Int32) (u : SX), (StM mdX12_laySpans_0 u0 u) → (0 ≤ z1.toInt ∧ z1.toInt ≤ 30) → (0 ≤ z2.toInt ∧ z2.toInt ≤ 30) → (g42 < z2.toInt) → Tot (k42 z1 z2 u) (qX12_laySpans_0 u0)) (z1 : Int32) (z2 : Int32) (u : SX) (hs_u : StM mdX12_laySpans_0 u0 u) (h0 : 1 ≤ z1.toInt ∧ z1.toInt ≤ 30) (h1 : 0 ≤ z2.toInt ∧ z2.toInt ≤ 29) (h2 : g42 ≤ z2.toInt) : Tot (GX12_laySpans_0_108 k42 z1 z2 u) (qX12_laySpans_0 u0) := by
  unfold GX12_laySpans_0_108
  have : (z2 + 1).toInt = z2.toInt + (1 : Int) := addc_t (by decide) (by omega) (by omega)
  exact hk42 z1 (z2 + 1) u hs_u ⟨by omega, by omega⟩ ⟨by omega, by omega⟩ (by omega)
set_option maxHeartbeats 400000 in
set_option maxRecDepth 10000 in
theorem tLX12_laySpans_0_42 (u0 : SX)    : ∀ (n : Nat) (z1 : Int32) (z2 : Int32) (u : SX), (StM mdX12_laySpans_0 u0 u) → (0 ≤ z1.toInt ∧ z1.toInt ≤ 30) → (0 ≤ z2.toInt ∧ z2.toInt ≤ 30) → (30 - z2.toInt < (n : Int)) → Tot (LX12_laySpans_0_42 n z1 z2 u) (qX12_laySpans_0 u0) := by
  intro n
  induction n with
  | zero =>
    intro z1 z2 u hs_u h0 h1 hm
    exfalso
    omega
  | succ n ih =>
    intro z1 z2 u hs_u h0 h1 hm
    rw [LX12_laySpans_0_42]
    refine Tot_ite (fun c220 => ?_) (fun c220 => ?_)
    · have : z1.toInt ≤ z2.toInt := leI c220
      exact Tot_some ⟨hs_u, (by show 0 ≤ (0 : Int) ∧ (0 : Int) ≤ 0; omega), trivial⟩
    · have : ¬ z1.toInt ≤ z2.toInt := nleI c220
      refine Tot_gd (inb_t (by omega) (by omega)) ?_
      have : 0 ≤ (u.2.1 12 z2.toNatClampNeg).toInt ∧ (u.2.1 12 z2.toNatClampNeg).toInt ≤ 11 := hs_u.1.2.1 12 z2.toNatClampNeg
      refine Tot_lt (fun v10 e_v10 => ?_)
      have : v10.toInt = (u.2.1 12 z2.toNatClampNeg).toInt := congrArg Int32.toInt e_v10
      refine Tot_gd (inb_t (by omega) (by omega)) ?_
      have : (-1) ≤ (u.2.1 11 z2.toNatClampNeg).toInt ∧ (u.2.1 11 z2.toNatClampNeg).toInt ≤ 9 := hs_u.1.2.1 11 z2.toNatClampNeg
      refine Tot_ite (fun c221 => ?_) (fun c221 => ?_)
      · have : (u.2.1 11 z2.toNatClampNeg).toInt = (-1 : Int) := eqI c221
        refine Tot_gd (inb_t (by omega) (by omega)) ?_
        refine Tot_gd (inb_t (by omega) (by omega)) ?_
        refine Tot_lt (fun u20 e_u20 => ?_)
        have hs_u20 : StM mdX12_laySpans_0 u0 u20 := by rw [e_u20]; exact StM_sAf hs_u (by decide) rfl rfl (by decide)
        refine Tot_gd (inb_t (by omega) (by omega)) ?_
        refine Tot_gd (inb_t (by omega) (by omega)) ?_
        have : 0 ≤ (u20.2.1 14 z2.toNatClampNeg).toInt ∧ (u20.2.1 14 z2.toNatClampNeg).toInt ≤ 400 := hs_u20.1.2.1 14 z2.toNatClampNeg
        refine Tot_lt (fun u24 e_u24 => ?_)
        have hs_u24 : StM mdX12_laySpans_0 u0 u24 := by rw [e_u24]; exact StM_sA hs_u20 (by decide) (by show 0 ≤ (u20.2.1 14 z2.toNatClampNeg).toInt; omega) (by show (u20.2.1 14 z2.toNatClampNeg).toInt ≤ 400; omega) (by decide)
        exact tGX12_laySpans_0_108 u0 (z2.toInt) (fun a222 a223 w224 hw224 p225 p226 p227 => ih a222 a223 w224 hw224 p225 p226 (by omega)) z1 z2 u24 hs_u24 ⟨by omega, by omega⟩ ⟨by omega, by omega⟩ (by omega)
      · have : ¬ (u.2.1 11 z2.toNatClampNeg).toInt = (-1 : Int) := neI c221
        refine Tot_gd (inb_t (by omega) (by omega)) ?_
        refine Tot_gd (inb_t (by omega) (by omega)) ?_
        have : 0 ≤ (u.2.1 14 z2.toNatClampNeg).toInt ∧ (u.2.1 14 z2.toNatClampNeg).toInt ≤ 400 := hs_u.1.2.1 14 z2.toNatClampNeg
        refine Tot_bind (tfX12_cutDown_0 v10 (u.2.1 13 z2.toNatClampNeg) (u.2.1 14 z2.toNatClampNeg) u hs_u.1 ⟨by omega, by omega⟩ ⟨by omega, by omega⟩) (fun q hq => ?_)
        obtain ⟨r15, u16⟩ := q
        have hc_u16 : StM mdX12_cutDown_0 u u16 := hq.1
        have hs_u16 : StM mdX12_laySpans_0 u0 u16 := StM_tr hs_u hc_u16 (by decide)
        have : 0 ≤ r15.toInt ∧ r15.toInt ≤ 0 := hq.2.1
        clear hq
        exact tGX12_laySpans_0_108 u0 (z2.toInt) (fun a228 a229 w230 hw230 p231 p232 p233 => ih a228 a229 w230 hw230 p231 p232 (by omega)) z1 z2 u16 hs_u16 ⟨by omega, by omega⟩ ⟨by omega, by omega⟩ (by omega)
set_option maxHeartbeats 400000 in
set_option maxRecDepth 10000 in
theorem tGX12_laySpans_0_40 (u0 : SX)    (z1 : Int32) (u : SX) (hs_u : StM mdX12_laySpans_0 u0 u) (h0 : 0 ≤ z1.toInt ∧ z1.toInt ≤ 30) : Tot (GX12_laySpans_0_40 z1 u) (qX12_laySpans_0 u0) := by
  unfold GX12_laySpans_0_40
  exact tLX12_laySpans_0_42 u0 5000 z1 0 u hs_u ⟨by omega, by omega⟩ (by show 0 ≤ (0 : Int) ∧ (0 : Int) ≤ 30; omega) (by show 30 - (0 : Int) < ((5000 : Nat) : Int); omega)
set_option maxHeartbeats 400000 in
set_option maxRecDepth 10000 in
theorem tfX12_laySpans_0 (x1 : Int32) (u : SX) (hI : IM u) (h0 : 0 ≤ x1.toInt ∧ x1.toInt ≤ 30) : Tot (fX12_laySpans_0 x1 u) (qX12_laySpans_0 u) := by
  unfold fX12_laySpans_0
  have hs_u : StM mdX12_laySpans_0 u u := StM_rf hI
  exact tLX12_laySpans_0_2 u (tGX12_laySpans_0_40 u) 5000 x1 0 u hs_u ⟨by omega, by omega⟩ (by show 0 ≤ (0 : Int) ∧ (0 : Int) ≤ 12; omega) (by show 12 - (0 : Int) < ((5000 : Nat) : Int); omega)

def mdX12_laySpansOf_0 : MD := ([], [16, 17], [], [])
abbrev qX12_laySpansOf_0 (u : SX) (q : Int32 × SX) : Prop := StM mdX12_laySpansOf_0 u q.2 ∧ (0 ≤ q.1.toInt ∧ q.1.toInt ≤ 0) ∧ (True)
set_option maxHeartbeats 400000 in
set_option maxRecDepth 10000 in
theorem tLX12_laySpansOf_0_2 (u0 : SX)  {k26 : Int32 → SX → Option (Int32 × SX)} (hk26 : ∀ (z2 : Int32) (u : SX), (StM mdX12_laySpansOf_0 u0 u) → (0 ≤ z2.toInt ∧ z2.toInt ≤ 30) → Tot (k26 z2 u) (qX12_laySpansOf_0 u0)) : ∀ (n : Nat) (z1 : Int32) (z2 : Int32) (u : SX), (StM mdX12_laySpansOf_0 u0 u) → (0 ≤ z1.toInt ∧ z1.toInt ≤ 120) → (0 ≤ z2.toInt ∧ z2.toInt ≤ 30) → (30 - z2.toInt < (n : Int)) → Tot (LX12_laySpansOf_0_2 k26 n z1 z2 u) (qX12_laySpansOf_0 u0) := by
  intro n
  induction n with
  | zero =>
    intro z1 z2 u hs_u h0 h1 hm
    exfalso
    omega
  | succ n ih =>
    intro z1 z2 u hs_u h0 h1 hm
    rw [LX12_laySpansOf_0_2]
    have : 0 ≤ (u.1 13).toInt ∧ (u.1 13).toInt ≤ 30 := hs_u.1.1 13
    refine Tot_ite (fun c234 => ?_) (fun c234 => ?_)
    · have : (u.1 13).toInt ≤ z2.toInt := leI c234
      exact hk26 z2 u hs_u ⟨by omega, by omega⟩
    · have : ¬ (u.1 13).toInt ≤ z2.toInt := nleI c234
      refine Tot_gd (inb_t (by omega) (by omega)) ?_
      have : 0 ≤ (u.2.1 15 z2.toNatClampNeg).toInt ∧ (u.2.1 15 z2.toNatClampNeg).toInt ≤ 120 := hs_u.1.2.1 15 z2.toNatClampNeg
      refine Tot_ite (fun c235 => ?_) (fun c235 => ?_)
      · have : z1.toInt < (u.2.1 15 z2.toNatClampNeg).toInt := ltI c235
        exact hk26 z2 u hs_u ⟨by omega, by omega⟩
      · have : ¬ z1.toInt < (u.2.1 15 z2.toNatClampNeg).toInt := nltI c235
        have : (z2 + 1).toInt = z2.toInt + (1 : Int) := addc_t (by decide) (by omega) (by omega)
        exact ih z1 (z2 + 1) u hs_u ⟨by omega, by omega⟩ ⟨by omega, by omega⟩ (by omega)
set_option maxHeartbeats 400000 in
set_option maxRecDepth 10000 in
theorem tGX12_laySpansOf_0_26 (u0 : SX)    (z2 : Int32) (u : SX) (hs_u : StM mdX12_laySpansOf_0 u0 u) (h0 : 0 ≤ z2.toInt ∧ z2.toInt ≤ 30) : Tot (GX12_laySpansOf_0_26 z2 u) (qX12_laySpansOf_0 u0) := by
  unfold GX12_laySpansOf_0_26
  refine Tot_bind (tfX12_laySpans_0 z2 u hs_u.1 ⟨by omega, by omega⟩) (fun q hq => ?_)
  obtain ⟨r2, u3⟩ := q
  have hc_u3 : StM mdX12_laySpans_0 u u3 := hq.1
  have hs_u3 : StM mdX12_laySpansOf_0 u0 u3 := StM_tr hs_u hc_u3 (by decide)
  have : 0 ≤ r2.toInt ∧ r2.toInt ≤ 0 := hq.2.1
  clear hq
  exact Tot_some ⟨hs_u3, (by show 0 ≤ (0 : Int) ∧ (0 : Int) ≤ 0; omega), trivial⟩
set_option maxHeartbeats 400000 in
set_option maxRecDepth 10000 in
theorem tfX12_laySpansOf_0 (x1 : Int32) (u : SX) (hI : IM u) (h0 : 0 ≤ x1.toInt ∧ x1.toInt ≤ 120) : Tot (fX12_laySpansOf_0 x1 u) (qX12_laySpansOf_0 u) := by
  unfold fX12_laySpansOf_0
  have hs_u : StM mdX12_laySpansOf_0 u u := StM_rf hI
  exact tLX12_laySpansOf_0_2 u (tGX12_laySpansOf_0_26 u) 5000 x1 0 u hs_u ⟨by omega, by omega⟩ (by show 0 ≤ (0 : Int) ∧ (0 : Int) ≤ 30; omega) (by show 30 - (0 : Int) < ((5000 : Nat) : Int); omega)

def mdX12_isKnown_0 : MD := ([], [], [], [])
abbrev qX12_isKnown_0 (x1 : Int32) (x2 : Int32) (u : SX) (q : Int32 × SX) : Prop := StM mdX12_isKnown_0 u q.2 ∧ (0 ≤ q.1.toInt ∧ q.1.toInt ≤ 1) ∧ ((q.1.toInt ≠ 0 → ((0 : Int) ≤ x2.toInt ∧ x2.toInt ≤ (u.1 1).toInt ∧ x1.toInt ≤ x2.toInt)))
set_option maxHeartbeats 400000 in
set_option maxRecDepth 10000 in
theorem tfX12_isKnown_0 (x1 : Int32) (x2 : Int32) (u : SX) (hI : IM u) (h0 : 0 ≤ x1.toInt ∧ x1.toInt ≤ 120) : Tot (fX12_isKnown_0 x1 x2 u) (qX12_isKnown_0 x1 x2 u) := by
  unfold fX12_isKnown_0
  have hs_u : StM mdX12_isKnown_0 u u := StM_rf hI
  have : 0 ≤ (u.1 1).toInt ∧ (u.1 1).toInt ≤ 120 := hs_u.1.1 1
  refine Tot_bind (tfX12_isIn x2 0 (u.1 1) (by show (-100000) ≤ (0 : Int) ∧ (0 : Int) ≤ 400; omega) ⟨by omega, by omega⟩) (fun r1 hq => ?_)
  have : 0 ≤ r1.toInt ∧ r1.toInt ≤ 1 := hq.1
  have : r1.toInt ≠ 0 → ((0 : Int) ≤ x2.toInt ∧ x2.toInt ≤ (u.1 1).toInt) := hq.2
  clear hq
  refine Tot_ite (fun c236 => ?_) (fun c236 => ?_)
  · have : r1.toInt = (0 : Int) := eqI c236
    refine Tot_gd (by decide) ?_
    exact Tot_some ⟨hs_u, (by show 0 ≤ (0 : Int) ∧ (0 : Int) ≤ 1; omega), (by show (0 : Int) ≠ 0 → ((0 : Int) ≤ x2.toInt ∧ x2.toInt ≤ (u.1 1).toInt ∧ x1.toInt ≤ x2.toInt); omega)⟩
  · have : ¬ r1.toInt = (0 : Int) := neI c236
    refine Tot_ite (fun c237 => ?_) (fun c237 => ?_)
    · have : x2.toInt < x1.toInt := ltI c237
      refine Tot_gd (by decide) ?_
      exact Tot_some ⟨hs_u, (by show 0 ≤ (0 : Int) ∧ (0 : Int) ≤ 1; omega), (by show (0 : Int) ≠ 0 → ((0 : Int) ≤ x2.toInt ∧ x2.toInt ≤ (u.1 1).toInt ∧ x1.toInt ≤ x2.toInt); omega)⟩
    · have : ¬ x2.toInt < x1.toInt := nltI c237
      refine Tot_gd (by decide) ?_
      exact Tot_some ⟨hs_u, (by show 0 ≤ (1 : Int) ∧ (1 : Int) ≤ 1; omega), (by show (1 : Int) ≠ 0 → ((0 : Int) ≤ x2.toInt ∧ x2.toInt ≤ (u.1 1).toInt ∧ x1.toInt ≤ x2.toInt); omega)⟩

def mdX12_span_0 : MD := ([0], [16, 17], [], [])
abbrev qX12_span_0 (u : SX) (q : Int32 × SX) : Prop := StM mdX12_span_0 u q.2 ∧ (True) ∧ (True)
set_option maxHeartbeats 400000 in
set_option maxRecDepth 10000 in
theorem tfX12_span_0 (x1 : Int32) (x2 : Int32) (x3 : Int32) (u : SX) (hI : IM u)  : Tot (fX12_span_0 x1 x2 x3 u) (qX12_span_0 u) := by
  unfold fX12_span_0
  have hs_u : StM mdX12_span_0 u u := StM_rf hI
  refine Tot_lt (fun u1 e_u1 => ?_)
  have hs_u1 : StM mdX12_span_0 u u1 := by rw [e_u1]; exact StM_sI hs_u (by decide) (by show 0 ≤ (0 : Int); omega) (by show (0 : Int) ≤ 1; omega)
  refine Tot_bind (tfX12_isPart_0 x1 u1 hs_u1.1) (fun q hq => ?_)
  obtain ⟨r3, u4⟩ := q
  have hc_u4 : StM mdX12_isPart_0 u1 u4 := hq.1
  have hs_u4 : StM mdX12_span_0 u u4 := StM_tr hs_u1 hc_u4 (by decide)
  have : 0 ≤ r3.toInt ∧ r3.toInt ≤ 1 := hq.2.1
  have : (u1.1 12).toInt = (u.1 12).toInt := by rw [e_u1]; rfl
  have : 0 ≤ (u.1 12).toInt ∧ (u.1 12).toInt ≤ 12 := hs_u.1.1 12
  have : r3.toInt ≠ 0 → ((0 : Int) ≤ x1.toInt ∧ x1.toInt < (u1.1 12).toInt) := hq.2.2
  clear hq
  refine Tot_ite (fun c238 => ?_) (fun c238 => ?_)
  · have : r3.toInt = (0 : Int) := eqI c238
    exact Tot_some ⟨hs_u4, trivial, trivial⟩
  · have : ¬ r3.toInt = (0 : Int) := neI c238
    refine Tot_gd (inb_t (by omega) (by omega)) ?_
    have : 0 ≤ (u4.2.1 10 x1.toNatClampNeg).toInt ∧ (u4.2.1 10 x1.toNatClampNeg).toInt ≤ 120 := hs_u4.1.2.1 10 x1.toNatClampNeg
    refine Tot_bind (tfX12_isKnown_0 (u4.2.1 10 x1.toNatClampNeg) x2 u4 hs_u4.1 ⟨by omega, by omega⟩) (fun q hq => ?_)
    obtain ⟨r7, u8⟩ := q
    have hc_u8 : StM mdX12_isKnown_0 u4 u8 := hq.1
    have hs_u8 : StM mdX12_span_0 u u8 := StM_tr hs_u4 hc_u8 (by decide)
    have : 0 ≤ r7.toInt ∧ r7.toInt ≤ 1 := hq.2.1
    have : (u4.1 1).toInt = (u1.1 1).toInt := congrArg Int32.toInt (hc_u4.2.1 1 (by decide))
    have : (u1.1 1).toInt = (u.1 1).toInt := by rw [e_u1]; rfl
    have : 0 ≤ (u.1 1).toInt ∧ (u.1 1).toInt ≤ 120 := hs_u.1.1 1
    have : r7.toInt ≠ 0 → ((0 : Int) ≤ x2.toInt ∧ x2.toInt ≤ (u4.1 1).toInt ∧ (u4.2.1 10 x1.toNatClampNeg).toInt ≤ x2.toInt) := hq.2.2
    clear hq
    refine Tot_ite (fun c239 => ?_) (fun c239 => ?_)
    · have : r7.toInt = (0 : Int) := eqI c239
      exact Tot_some ⟨hs_u8, trivial, trivial⟩
    · have : ¬ r7.toInt = (0 : Int) := neI c239
      refine Tot_bind (tfX12_isIn x3 0 1 (by show (-100000) ≤ (0 : Int) ∧ (0 : Int) ≤ 400; omega) (by show (-1) ≤ (1 : Int) ∧ (1 : Int) ≤ 100000; omega)) (fun r10 hq => ?_)
      have : 0 ≤ r10.toInt ∧ r10.toInt ≤ 1 := hq.1
      have : r10.toInt ≠ 0 → ((0 : Int) ≤ x3.toInt ∧ x3.toInt ≤ (1 : Int)) := hq.2
      clear hq
      refine Tot_ite (fun c240 => ?_) (fun c240 => ?_)
      · have : r10.toInt = (0 : Int) := eqI c240
        exact Tot_some ⟨hs_u8, trivial, trivial⟩
      · have : ¬ r10.toInt = (0 : Int) := neI c240
        refine Tot_bind (tfX12_laySpansOf_0 x2 u8 hs_u8.1 ⟨by omega, by omega⟩) (fun q hq => ?_)
        obtain ⟨r13, u14⟩ := q
        have hc_u14 : StM mdX12_laySpansOf_0 u8 u14 := hq.1
        have hs_u14 : StM mdX12_span_0 u u14 := StM_tr hs_u8 hc_u14 (by decide)
        have : 0 ≤ r13.toInt ∧ r13.toInt ≤ 0 := hq.2.1
        clear hq
        refine Tot_ite (fun c241 => ?_) (fun c241 => ?_)
        · have : x3.toInt = (0 : Int) := eqI c241
          refine Tot_gd (inb_t (by omega) (by omega)) ?_
          exact Tot_some ⟨hs_u14, trivial, trivial⟩
        · have : ¬ x3.toInt = (0 : Int) := neI c241
          refine Tot_gd (inb_t (by omega) (by omega)) ?_
          have : 0 ≤ (u14.2.1 17 x1.toNatClampNeg).toInt ∧ (u14.2.1 17 x1.toNatClampNeg).toInt ≤ 400 := hs_u14.1.2.1 17 x1.toNatClampNeg
          exact Tot_some ⟨hs_u14, trivial, trivial⟩

def mdX12_layWorths_0 : MD := ([2, 4, 5, 6, 7, 8, 9, 10, 11], [5, 18], [], [])
abbrev qX12_layWorths_0 (u : SX) (q : Int32 × SX) : Prop := StM mdX12_layWorths_0 u q.2 ∧ (0 ≤ q.1.toInt ∧ q.1.toInt ≤ 0) ∧ (True)
set_option maxHeartbeats 400000 in
set_option maxRecDepth 10000 in
theorem tLX12_layWorths_0_3 (u0 : SX)    : ∀ (n : Nat) (z1 : Int32) (z2 : Int32) (z3 : Int32) (z4 : Int32) (z5 : Int32) (z6 : Int32) (z7 : Int32) (u : SX), (StM mdX12_layWorths_0 u0 u) → (0 ≤ z1.toInt ∧ z1.toInt ≤ 40) → (0 ≤ z2.toInt ∧ z2.toInt ≤ 40) → (0 ≤ z3.toInt ∧ z3.toInt ≤ 40) → (0 ≤ z4.toInt ∧ z4.toInt ≤ 40) → (0 ≤ z5.toInt ∧ z5.toInt ≤ 40) → (0 ≤ z6.toInt ∧ z6.toInt ≤ 40) → (0 ≤ z7.toInt ∧ z7.toInt ≤ 12) → (12 - z7.toInt < (n : Int)) → Tot (LX12_layWorths_0_3 n z1 z2 z3 z4 z5 z6 z7 u) (qX12_layWorths_0 u0) := by
  intro n
  induction n with
  | zero =>
    intro z1 z2 z3 z4 z5 z6 z7 u hs_u h0 h1 h2 h3 h4 h5 h6 hm
    exfalso
    omega
  | succ n ih =>
    intro z1 z2 z3 z4 z5 z6 z7 u hs_u h0 h1 h2 h3 h4 h5 h6 hm
    rw [LX12_layWorths_0_3]
    have : 0 ≤ (u.1 12).toInt ∧ (u.1 12).toInt ≤ 12 := hs_u.1.1 12
    refine Tot_ite (fun c242 => ?_) (fun c242 => ?_)
    · have : (u.1 12).toInt ≤ z7.toInt := leI c242
      exact Tot_some ⟨hs_u, (by show 0 ≤ (0 : Int) ∧ (0 : Int) ≤ 0; omega), trivial⟩
    · have : ¬ (u.1 12).toInt ≤ z7.toInt := nleI c242
      refine Tot_gd (inb_t (by omega) (by omega)) ?_
      have : 0 ≤ (u.2.1 6 z7.toNatClampNeg).toInt ∧ (u.2.1 6 z7.toNatClampNeg).toInt ≤ 11 := hs_u.1.2.1 6 z7.toNatClampNeg
      refine Tot_bind (tfX12_lawWorth_0 (u.2.1 6 z7.toNatClampNeg) z1 z2 z3 z4 z5 z6 u hs_u.1 ⟨by omega, by omega⟩ ⟨by omega, by omega⟩ ⟨by omega, by omega⟩ ⟨by omega, by omega⟩ ⟨by omega, by omega⟩ ⟨by omega, by omega⟩ ⟨by omega, by omega⟩) (fun q hq => ?_)
      obtain ⟨r2, u3⟩ := q
      have hc_u3 : StM mdX12_lawWorth_0 u u3 := hq.1
      have hs_u3 : StM mdX12_layWorths_0 u0 u3 := StM_tr hs_u hc_u3 (by decide)
      clear hq
      refine Tot_gd (inb_t (by omega) (by omega)) ?_
      refine Tot_lt (fun u6 e_u6 => ?_)
      have hs_u6 : StM mdX12_layWorths_0 u0 u6 := by rw [e_u6]; exact StM_sAf hs_u3 (by decide) rfl rfl (by decide)
      have : (z7 + 1).toInt = z7.toInt + (1 : Int) := addc_t (by decide) (by omega) (by omega)
      exact ih z1 z2 z3 z4 z5 z6 (z7 + 1) u6 hs_u6 ⟨by omega, by omega⟩ ⟨by omega, by omega⟩ ⟨by omega, by omega⟩ ⟨by omega, by omega⟩ ⟨by omega, by omega⟩ ⟨by omega, by omega⟩ ⟨by omega, by omega⟩ (by omega)
set_option maxHeartbeats 400000 in
set_option maxRecDepth 10000 in
theorem tfX12_layWorths_0 (x1 : Int32) (x2 : Int32) (x3 : Int32) (x4 : Int32) (x5 : Int32) (x6 : Int32) (u : SX) (hI : IM u) (h0 : 0 ≤ x1.toInt ∧ x1.toInt ≤ 40) (h1 : 0 ≤ x2.toInt ∧ x2.toInt ≤ 40) (h2 : 0 ≤ x3.toInt ∧ x3.toInt ≤ 40) (h3 : 0 ≤ x4.toInt ∧ x4.toInt ≤ 40) (h4 : 0 ≤ x5.toInt ∧ x5.toInt ≤ 40) (h5 : 0 ≤ x6.toInt ∧ x6.toInt ≤ 40) : Tot (fX12_layWorths_0 x1 x2 x3 x4 x5 x6 u) (qX12_layWorths_0 u) := by
  unfold fX12_layWorths_0
  have hs_u : StM mdX12_layWorths_0 u u := StM_rf hI
  exact tLX12_layWorths_0_3 u 5000 x1 x2 x3 x4 x5 x6 0 u hs_u ⟨by omega, by omega⟩ ⟨by omega, by omega⟩ ⟨by omega, by omega⟩ ⟨by omega, by omega⟩ ⟨by omega, by omega⟩ ⟨by omega, by omega⟩ (by show 0 ≤ (0 : Int) ∧ (0 : Int) ≤ 12; omega) (by show 12 - (0 : Int) < ((5000 : Nat) : Int); omega)

abbrev qX12_shines (q : Int32) : Prop := (True) ∧ (True)
set_option maxHeartbeats 400000 in
set_option maxRecDepth 10000 in
theorem tfX12_shines (x0 : Int32) (x1 : Int32)  : Tot (fX12_shines x0 x1) (qX12_shines ) := by
  unfold fX12_shines
  refine Tot_gd (by decide) ?_
  exact Tot_some ⟨trivial, trivial⟩

def mdX12_trueSum_0 : MD := ([2, 4, 5, 6, 7, 8, 9, 10, 11], [5, 18], [], [])
abbrev qX12_trueSum_0 (u : SX) (q : Int32 × SX) : Prop := StM mdX12_trueSum_0 u q.2 ∧ (True) ∧ (True)
set_option maxHeartbeats 400000 in
set_option maxRecDepth 10000 in
theorem tLX12_trueSum_0_22 (u0 : SX)    : ∀ (n : Nat) (z7 : Int32) (z8 : Int32) (u : SX), (StM mdX12_trueSum_0 u0 u) → (0 ≤ z8.toInt ∧ z8.toInt ≤ 12) → (12 - z8.toInt < (n : Int)) → Tot (LX12_trueSum_0_22 n z7 z8 u) (qX12_trueSum_0 u0) := by
  intro n
  induction n with
  | zero =>
    intro z7 z8 u hs_u h0 hm
    exfalso
    omega
  | succ n ih =>
    intro z7 z8 u hs_u h0 hm
    rw [LX12_trueSum_0_22]
    have : 0 ≤ (u.1 12).toInt ∧ (u.1 12).toInt ≤ 12 := hs_u.1.1 12
    refine Tot_ite (fun c243 => ?_) (fun c243 => ?_)
    · have : (u.1 12).toInt ≤ z8.toInt := leI c243
      exact Tot_some ⟨hs_u, trivial, trivial⟩
    · have : ¬ (u.1 12).toInt ≤ z8.toInt := nleI c243
      refine Tot_gd (inb_t (by omega) (by omega)) ?_
      refine Tot_gd (inb_t (by omega) (by omega)) ?_
      have : 0 ≤ (u.2.1 9 z8.toNatClampNeg).toInt ∧ (u.2.1 9 z8.toNatClampNeg).toInt ≤ 400 := hs_u.1.2.1 9 z8.toNatClampNeg
      refine Tot_bind (tfX12_shines (u.2.1 9 z8.toNatClampNeg) (u.2.1 18 z8.toNatClampNeg)) (fun r9 hq => ?_)
      clear hq
      refine Tot_lt (fun v12 e_v12 => ?_)
      have : (z8 + 1).toInt = z8.toInt + (1 : Int) := addc_t (by decide) (by omega) (by omega)
      exact ih v12 (z8 + 1) u hs_u ⟨by omega, by omega⟩ (by omega)
set_option maxHeartbeats 400000 in
set_option maxRecDepth 10000 in
theorem tfX12_trueSum_0 (x1 : Int32) (x2 : Int32) (x3 : Int32) (x4 : Int32) (x5 : Int32) (x6 : Int32) (u : SX) (hI : IM u) (h0 : 0 ≤ x1.toInt ∧ x1.toInt ≤ 120) (h1 : 0 ≤ x2.toInt ∧ x2.toInt ≤ 15) (h2 : 0 ≤ x3.toInt ∧ x3.toInt ≤ 9) (h3 : 0 ≤ x4.toInt ∧ x4.toInt ≤ 23) (h4 : 0 ≤ x5.toInt ∧ x5.toInt ≤ 9) (h5 : 1 ≤ x6.toInt ∧ x6.toInt ≤ 40) : Tot (fX12_trueSum_0 x1 x2 x3 x4 x5 x6 u) (qX12_trueSum_0 u) := by
  unfold fX12_trueSum_0
  have hs_u : StM mdX12_trueSum_0 u u := StM_rf hI
  refine Tot_bind (tfX12_season x1 ⟨by omega, by omega⟩) (fun r1 hq => ?_)
  have : 0 ≤ r1.toInt ∧ r1.toInt ≤ 3 := hq.1
  clear hq
  refine Tot_bind (tfX12_layWorths_0 x2 x3 x4 r1 x5 x6 u hs_u.1 ⟨by omega, by omega⟩ ⟨by omega, by omega⟩ ⟨by omega, by omega⟩ ⟨by omega, by omega⟩ ⟨by omega, by omega⟩ ⟨by omega, by omega⟩) (fun q hq => ?_)
  obtain ⟨r4, u5⟩ := q
  have hc_u5 : StM mdX12_layWorths_0 u u5 := hq.1
  have hs_u5 : StM mdX12_trueSum_0 u u5 := StM_tr hs_u hc_u5 (by decide)
  have : 0 ≤ r4.toInt ∧ r4.toInt ≤ 0 := hq.2.1
  clear hq
  exact tLX12_trueSum_0_22 u 5000 0 0 u5 hs_u5 (by show 0 ≤ (0 : Int) ∧ (0 : Int) ≤ 12; omega) (by show 12 - (0 : Int) < ((5000 : Nat) : Int); omega)

def mdX12_sum__0 : MD := ([0, 2, 4, 5, 6, 7, 8, 9, 10, 11], [5, 18], [], [])
abbrev qX12_sum__0 (u : SX) (q : Int32 × SX) : Prop := StM mdX12_sum__0 u q.2 ∧ (True) ∧ (True)
set_option maxHeartbeats 400000 in
set_option maxRecDepth 10000 in
theorem tfX12_sum__0 (x1 : Int32) (x2 : Int32) (x3 : Int32) (x4 : Int32) (x5 : Int32) (x6 : Int32) (u : SX) (hI : IM u)  : Tot (fX12_sum__0 x1 x2 x3 x4 x5 x6 u) (qX12_sum__0 u) := by
  unfold fX12_sum__0
  have hs_u : StM mdX12_sum__0 u u := StM_rf hI
  refine Tot_lt (fun u1 e_u1 => ?_)
  have hs_u1 : StM mdX12_sum__0 u u1 := by rw [e_u1]; exact StM_sI hs_u (by decide) (by show 0 ≤ (0 : Int); omega) (by show (0 : Int) ≤ 1; omega)
  refine Tot_bind (tfX12_isIn x1 0 120 (by show (-100000) ≤ (0 : Int) ∧ (0 : Int) ≤ 400; omega) (by show (-1) ≤ (120 : Int) ∧ (120 : Int) ≤ 100000; omega)) (fun r3 hq => ?_)
  have : 0 ≤ r3.toInt ∧ r3.toInt ≤ 1 := hq.1
  have : r3.toInt ≠ 0 → ((0 : Int) ≤ x1.toInt ∧ x1.toInt ≤ (120 : Int)) := hq.2
  clear hq
  refine Tot_ite (fun c244 => ?_) (fun c244 => ?_)
  · have : r3.toInt = (0 : Int) := eqI c244
    exact Tot_some ⟨hs_u1, trivial, trivial⟩
  · have : ¬ r3.toInt = (0 : Int) := neI c244
    refine Tot_bind (tfX12_isAim x2 x3 x4 x5 x6) (fun r6 hq => ?_)
    have : 0 ≤ r6.toInt ∧ r6.toInt ≤ 1 := hq.1
    have : r6.toInt ≠ 0 → ((0 : Int) ≤ x2.toInt ∧ x2.toInt ≤ (15 : Int) ∧ (0 : Int) ≤ x3.toInt ∧ x3.toInt ≤ (9 : Int) ∧ (0 : Int) ≤ x4.toInt ∧ x4.toInt ≤ (23 : Int) ∧ (0 : Int) ≤ x5.toInt ∧ x5.toInt ≤ (9 : Int) ∧ (1 : Int) ≤ x6.toInt ∧ x6.toInt ≤ (40 : Int)) := hq.2
    clear hq
    refine Tot_ite (fun c245 => ?_) (fun c245 => ?_)
    · have : r6.toInt = (0 : Int) := eqI c245
      exact Tot_some ⟨hs_u1, trivial, trivial⟩
    · have : ¬ r6.toInt = (0 : Int) := neI c245
      refine Tot_bind (tfX12_trueSum_0 x1 x2 x3 x4 x5 x6 u1 hs_u1.1 ⟨by omega, by omega⟩ ⟨by omega, by omega⟩ ⟨by omega, by omega⟩ ⟨by omega, by omega⟩ ⟨by omega, by omega⟩ ⟨by omega, by omega⟩) (fun q hq => ?_)
      obtain ⟨r9, u10⟩ := q
      have hc_u10 : StM mdX12_trueSum_0 u1 u10 := hq.1
      have hs_u10 : StM mdX12_sum__0 u u10 := StM_tr hs_u1 hc_u10 (by decide)
      clear hq
      exact Tot_some ⟨hs_u10, trivial, trivial⟩

def mdX12_heard_0 : MD := ([0, 2, 4, 5, 6, 7, 8, 9, 10, 11], [5, 18], [], [])
abbrev qX12_heard_0 (u : SX) (q : Int32 × SX) : Prop := StM mdX12_heard_0 u q.2 ∧ (True) ∧ (True)
set_option maxHeartbeats 400000 in
set_option maxRecDepth 10000 in
theorem tfX12_heard_0 (x1 : Int32) (x2 : Int32) (x3 : Int32) (x4 : Int32) (x5 : Int32) (x6 : Int32) (x7 : Int64) (u : SX) (hI : IM u)  : Tot (fX12_heard_0 x1 x2 x3 x4 x5 x6 x7 u) (qX12_heard_0 u) := by
  unfold fX12_heard_0
  have hs_u : StM mdX12_heard_0 u u := StM_rf hI
  refine Tot_lt (fun u1 e_u1 => ?_)
  have hs_u1 : StM mdX12_heard_0 u u1 := by rw [e_u1]; exact StM_sI hs_u (by decide) (by show 0 ≤ (0 : Int); omega) (by show (0 : Int) ≤ 1; omega)
  refine Tot_bind (tfX12_isAim x1 x2 x3 x4 x5) (fun r3 hq => ?_)
  have : 0 ≤ r3.toInt ∧ r3.toInt ≤ 1 := hq.1
  have : r3.toInt ≠ 0 → ((0 : Int) ≤ x1.toInt ∧ x1.toInt ≤ (15 : Int) ∧ (0 : Int) ≤ x2.toInt ∧ x2.toInt ≤ (9 : Int) ∧ (0 : Int) ≤ x3.toInt ∧ x3.toInt ≤ (23 : Int) ∧ (0 : Int) ≤ x4.toInt ∧ x4.toInt ≤ (9 : Int) ∧ (1 : Int) ≤ x5.toInt ∧ x5.toInt ≤ (40 : Int)) := hq.2
  clear hq
  refine Tot_ite (fun c246 => ?_) (fun c246 => ?_)
  · have : r3.toInt = (0 : Int) := eqI c246
    exact Tot_some ⟨hs_u1, trivial, trivial⟩
  · have : ¬ r3.toInt = (0 : Int) := neI c246
    refine Tot_bind (tfX12_isIn x6 0 50 (by show (-100000) ≤ (0 : Int) ∧ (0 : Int) ≤ 400; omega) (by show (-1) ≤ (50 : Int) ∧ (50 : Int) ≤ 100000; omega)) (fun r6 hq => ?_)
    have : 0 ≤ r6.toInt ∧ r6.toInt ≤ 1 := hq.1
    have : r6.toInt ≠ 0 → ((0 : Int) ≤ x6.toInt ∧ x6.toInt ≤ (50 : Int)) := hq.2
    clear hq
    refine Tot_ite (fun c247 => ?_) (fun c247 => ?_)
    · have : r6.toInt = (0 : Int) := eqI c247
      exact Tot_some ⟨hs_u1, trivial, trivial⟩
    · have : ¬ r6.toInt = (0 : Int) := neI c247
      refine Tot_lt (fun v9 e_v9 => ?_)
      have : (u1.1 1).toInt = (u.1 1).toInt := by rw [e_u1]; rfl
      have : 0 ≤ (u.1 1).toInt ∧ (u.1 1).toInt ≤ 120 := hs_u.1.1 1
      refine Tot_bind (tfX12_trueSum_0 (u1.1 1) x1 x2 x3 x4 x5 u1 hs_u1.1 ⟨by omega, by omega⟩ ⟨by omega, by omega⟩ ⟨by omega, by omega⟩ ⟨by omega, by omega⟩ ⟨by omega, by omega⟩ ⟨by omega, by omega⟩) (fun q hq => ?_)
      obtain ⟨r11, u12⟩ := q
      have hc_u12 : StM mdX12_trueSum_0 u1 u12 := hq.1
      have hs_u12 : StM mdX12_heard_0 u u12 := StM_tr hs_u1 hc_u12 (by decide)
      clear hq
      have : (2 * x6).toInt = 2 * x6.toInt := cmul_t (by decide) (by omega) (by omega)
      have : ((2 * x6) + 1).toInt = (2 * x6).toInt + (1 : Int) := addc_t (by decide) (by omega) (by omega)
      refine Tot_gd (nzL_t (by omega)) ?_
      exact Tot_some ⟨hs_u12, trivial, trivial⟩

def mdX12_isReading_0 : MD := ([], [], [], [])
abbrev qX12_isReading_0 (x1 : Int32) (u : SX) (q : Int32 × SX) : Prop := StM mdX12_isReading_0 u q.2 ∧ (0 ≤ q.1.toInt ∧ q.1.toInt ≤ 1) ∧ ((q.1.toInt ≠ 0 → ((0 : Int) ≤ x1.toInt ∧ x1.toInt < (u.1 15).toInt)))
set_option maxHeartbeats 400000 in
set_option maxRecDepth 10000 in
theorem tfX12_isReading_0 (x1 : Int32) (u : SX) (hI : IM u)  : Tot (fX12_isReading_0 x1 u) (qX12_isReading_0 x1 u) := by
  unfold fX12_isReading_0
  have hs_u : StM mdX12_isReading_0 u u := StM_rf hI
  refine Tot_ite (fun c248 => ?_) (fun c248 => ?_)
  · have : x1.toInt < (0 : Int) := ltI c248
    refine Tot_gd (by decide) ?_
    have : 0 ≤ (u.1 15).toInt ∧ (u.1 15).toInt ≤ 80 := hs_u.1.1 15
    exact Tot_some ⟨hs_u, (by show 0 ≤ (0 : Int) ∧ (0 : Int) ≤ 1; omega), (by show (0 : Int) ≠ 0 → ((0 : Int) ≤ x1.toInt ∧ x1.toInt < (u.1 15).toInt); omega)⟩
  · have : ¬ x1.toInt < (0 : Int) := nltI c248
    have : 0 ≤ (u.1 15).toInt ∧ (u.1 15).toInt ≤ 80 := hs_u.1.1 15
    refine Tot_ite (fun c249 => ?_) (fun c249 => ?_)
    · have : (u.1 15).toInt ≤ x1.toInt := leI c249
      refine Tot_gd (by decide) ?_
      exact Tot_some ⟨hs_u, (by show 0 ≤ (0 : Int) ∧ (0 : Int) ≤ 1; omega), (by show (0 : Int) ≠ 0 → ((0 : Int) ≤ x1.toInt ∧ x1.toInt < (u.1 15).toInt); omega)⟩
    · have : ¬ (u.1 15).toInt ≤ x1.toInt := nleI c249
      refine Tot_gd (by decide) ?_
      exact Tot_some ⟨hs_u, (by show 0 ≤ (1 : Int) ∧ (1 : Int) ≤ 1; omega), (by show (1 : Int) ≠ 0 → ((0 : Int) ≤ x1.toInt ∧ x1.toInt < (u.1 15).toInt); omega)⟩

def mdX12_read_0 : MD := ([0, 15], [19, 20, 21], [], [])
abbrev qX12_read_0 (u : SX) (q : Int32 × SX) : Prop := StM mdX12_read_0 u q.2 ∧ ((-1) ≤ q.1.toInt ∧ q.1.toInt ≤ 79) ∧ (True)
set_option maxHeartbeats 400000 in
set_option maxRecDepth 10000 in
theorem tfX12_read_0 (x1 : Int32) (x2 : Int32) (x3 : Int32) (x4 : Int32) (x5 : Int32) (x6 : Int32) (u : SX) (hI : IM u)  : Tot (fX12_read_0 x1 x2 x3 x4 x5 x6 u) (qX12_read_0 u) := by
  unfold fX12_read_0
  have hs_u : StM mdX12_read_0 u u := StM_rf hI
  refine Tot_lt (fun u1 e_u1 => ?_)
  have hs_u1 : StM mdX12_read_0 u u1 := by rw [e_u1]; exact StM_sI hs_u (by decide) (by show 0 ≤ (0 : Int); omega) (by show (0 : Int) ≤ 1; omega)
  have : (u1.1 15).toInt = (u.1 15).toInt := by rw [e_u1]; rfl
  have : 0 ≤ (u.1 15).toInt ∧ (u.1 15).toInt ≤ 80 := hs_u.1.1 15
  refine Tot_ite (fun c250 => ?_) (fun c250 => ?_)
  · have : (u1.1 15).toInt = (80 : Int) := eqI c250
    exact Tot_some ⟨hs_u1, (by show (-1) ≤ (-1 : Int) ∧ (-1 : Int) ≤ 79; omega), trivial⟩
  · have : ¬ (u1.1 15).toInt = (80 : Int) := neI c250
    refine Tot_bind (tfX12_isAim x1 x2 x3 x4 x5) (fun r3 hq => ?_)
    have : 0 ≤ r3.toInt ∧ r3.toInt ≤ 1 := hq.1
    have : r3.toInt ≠ 0 → ((0 : Int) ≤ x1.toInt ∧ x1.toInt ≤ (15 : Int) ∧ (0 : Int) ≤ x2.toInt ∧ x2.toInt ≤ (9 : Int) ∧ (0 : Int) ≤ x3.toInt ∧ x3.toInt ≤ (23 : Int) ∧ (0 : Int) ≤ x4.toInt ∧ x4.toInt ≤ (9 : Int) ∧ (1 : Int) ≤ x5.toInt ∧ x5.toInt ≤ (40 : Int)) := hq.2
    clear hq
    refine Tot_ite (fun c251 => ?_) (fun c251 => ?_)
    · have : r3.toInt = (0 : Int) := eqI c251
      exact Tot_some ⟨hs_u1, (by show (-1) ≤ (-1 : Int) ∧ (-1 : Int) ≤ 79; omega), trivial⟩
    · have : ¬ r3.toInt = (0 : Int) := neI c251
      refine Tot_bind (tfX12_isIn x6 (-100000) 100000 (by show (-100000) ≤ (-100000 : Int) ∧ (-100000 : Int) ≤ 400; omega) (by show (-1) ≤ (100000 : Int) ∧ (100000 : Int) ≤ 100000; omega)) (fun r6 hq => ?_)
      have : 0 ≤ r6.toInt ∧ r6.toInt ≤ 1 := hq.1
      have : r6.toInt ≠ 0 → ((-100000 : Int) ≤ x6.toInt ∧ x6.toInt ≤ (100000 : Int)) := hq.2
      clear hq
      refine Tot_ite (fun c252 => ?_) (fun c252 => ?_)
      · have : r6.toInt = (0 : Int) := eqI c252
        exact Tot_some ⟨hs_u1, (by show (-1) ≤ (-1 : Int) ∧ (-1 : Int) ≤ 79; omega), trivial⟩
      · have : ¬ r6.toInt = (0 : Int) := neI c252
        have : (5 * (u1.1 15)).toInt = 5 * (u1.1 15).toInt := cmul_t (by decide) (by omega) (by omega)
        refine Tot_gd (inb_t (by omega) (by omega)) ?_
        refine Tot_lt (fun u10 e_u10 => ?_)
        have hs_u10 : StM mdX12_read_0 u u10 := by rw [e_u10]; exact StM_sA hs_u1 (by decide) (by show 0 ≤ x1.toInt; omega) (by show x1.toInt ≤ 40; omega) (by decide)
        have : (u10.1 15).toInt = (u1.1 15).toInt := by rw [e_u10]; rfl
        have : (5 * (u10.1 15)).toInt = 5 * (u10.1 15).toInt := cmul_t (by decide) (by omega) (by omega)
        have : ((5 * (u10.1 15)) + 1).toInt = (5 * (u10.1 15)).toInt + (1 : Int) := addc_t (by decide) (by omega) (by omega)
        refine Tot_gd (inb_t (by omega) (by omega)) ?_
        refine Tot_lt (fun u13 e_u13 => ?_)
        have hs_u13 : StM mdX12_read_0 u u13 := by rw [e_u13]; exact StM_sA hs_u10 (by decide) (by show 0 ≤ x2.toInt; omega) (by show x2.toInt ≤ 40; omega) (by decide)
        have : (u13.1 15).toInt = (u10.1 15).toInt := by rw [e_u13]; rfl
        have : (5 * (u13.1 15)).toInt = 5 * (u13.1 15).toInt := cmul_t (by decide) (by omega) (by omega)
        have : ((5 * (u13.1 15)) + 2).toInt = (5 * (u13.1 15)).toInt + (2 : Int) := addc_t (by decide) (by omega) (by omega)
        refine Tot_gd (inb_t (by omega) (by omega)) ?_
        refine Tot_lt (fun u16 e_u16 => ?_)
        have hs_u16 : StM mdX12_read_0 u u16 := by rw [e_u16]; exact StM_sA hs_u13 (by decide) (by show 0 ≤ x3.toInt; omega) (by show x3.toInt ≤ 40; omega) (by decide)
        have : (u16.1 15).toInt = (u13.1 15).toInt := by rw [e_u16]; rfl
        have : (5 * (u16.1 15)).toInt = 5 * (u16.1 15).toInt := cmul_t (by decide) (by omega) (by omega)
        have : ((5 * (u16.1 15)) + 3).toInt = (5 * (u16.1 15)).toInt + (3 : Int) := addc_t (by decide) (by omega) (by omega)
        refine Tot_gd (inb_t (by omega) (by omega)) ?_
        refine Tot_lt (fun u19 e_u19 => ?_)
        have hs_u19 : StM mdX12_read_0 u u19 := by rw [e_u19]; exact StM_sA hs_u16 (by decide) (by show 0 ≤ x4.toInt; omega) (by show x4.toInt ≤ 40; omega) (by decide)
        have : (u19.1 15).toInt = (u16.1 15).toInt := by rw [e_u19]; rfl
        have : (5 * (u19.1 15)).toInt = 5 * (u19.1 15).toInt := cmul_t (by decide) (by omega) (by omega)
        have : ((5 * (u19.1 15)) + 4).toInt = (5 * (u19.1 15)).toInt + (4 : Int) := addc_t (by decide) (by omega) (by omega)
        refine Tot_gd (inb_t (by omega) (by omega)) ?_
        refine Tot_lt (fun u22 e_u22 => ?_)
        have hs_u22 : StM mdX12_read_0 u u22 := by rw [e_u22]; exact StM_sA hs_u19 (by decide) (by show 0 ≤ x5.toInt; omega) (by show x5.toInt ≤ 40; omega) (by decide)
        have : (u22.1 15).toInt = (u19.1 15).toInt := by rw [e_u22]; rfl
        refine Tot_gd (inb_t (by omega) (by omega)) ?_
        refine Tot_lt (fun u25 e_u25 => ?_)
        have hs_u25 : StM mdX12_read_0 u u25 := by rw [e_u25]; exact StM_sA hs_u22 (by decide) (by show (-100000) ≤ x6.toInt; omega) (by show x6.toInt ≤ 100000; omega) (by decide)
        have : (u25.1 15).toInt = (u22.1 15).toInt := by rw [e_u25]; rfl
        refine Tot_gd (inb_t (by omega) (by omega)) ?_
        have : (u25.1 1).toInt = (u22.1 1).toInt := by rw [e_u25]; rfl
        have : (u22.1 1).toInt = (u19.1 1).toInt := by rw [e_u22]; rfl
        have : (u19.1 1).toInt = (u16.1 1).toInt := by rw [e_u19]; rfl
        have : (u16.1 1).toInt = (u13.1 1).toInt := by rw [e_u16]; rfl
        have : (u13.1 1).toInt = (u10.1 1).toInt := by rw [e_u13]; rfl
        have : (u10.1 1).toInt = (u1.1 1).toInt := by rw [e_u10]; rfl
        have : (u1.1 1).toInt = (u.1 1).toInt := by rw [e_u1]; rfl
        have : 0 ≤ (u.1 1).toInt ∧ (u.1 1).toInt ≤ 120 := hs_u.1.1 1
        refine Tot_lt (fun u28 e_u28 => ?_)
        have hs_u28 : StM mdX12_read_0 u u28 := by rw [e_u28]; exact StM_sA hs_u25 (by decide) (by show 0 ≤ (u25.1 1).toInt; omega) (by show (u25.1 1).toInt ≤ 120; omega) (by decide)
        have : (u28.1 15).toInt = (u25.1 15).toInt := by rw [e_u28]; rfl
        have : ((u28.1 15) + 1).toInt = (u28.1 15).toInt + (1 : Int) := addc_t (by decide) (by omega) (by omega)
        refine Tot_lt (fun u30 e_u30 => ?_)
        have hs_u30 : StM mdX12_read_0 u u30 := by rw [e_u30]; exact StM_sI hs_u28 (by decide) (by show 0 ≤ ((u28.1 15) + 1).toInt; omega) (by show ((u28.1 15) + 1).toInt ≤ 80; omega)
        have : (u30.1 15).toInt = ((u28.1 15) + 1).toInt := by rw [e_u30]; rfl
        have : ((u30.1 15) - 1).toInt = (u30.1 15).toInt - (1 : Int) := subc_t (by decide) (by omega) (by omega)
        exact Tot_some ⟨hs_u30, (by show (-1) ≤ ((u30.1 15) - 1).toInt ∧ ((u30.1 15) - 1).toInt ≤ 79; omega), trivial⟩

def mdX12_aimOf_0 : MD := ([], [], [], [])
abbrev qX12_aimOf_0 (u : SX) (q : Int32 × SX) : Prop := StM mdX12_aimOf_0 u q.2 ∧ (0 ≤ q.1.toInt ∧ q.1.toInt ≤ 40) ∧ (True)
set_option maxHeartbeats 400000 in
set_option maxRecDepth 10000 in
theorem tfX12_aimOf_0 (x1 : Int32) (x2 : Int32) (u : SX) (hI : IM u) (h0 : 0 ≤ x1.toInt ∧ x1.toInt ≤ 79) (h1 : 0 ≤ x2.toInt ∧ x2.toInt ≤ 5) : Tot (fX12_aimOf_0 x1 x2 u) (qX12_aimOf_0 u) := by
  unfold fX12_aimOf_0
  have hs_u : StM mdX12_aimOf_0 u u := StM_rf hI
  refine Tot_ite (fun c253 => ?_) (fun c253 => ?_)
  · have : x2.toInt = (3 : Int) := eqI c253
    refine Tot_gd (inb_t (by omega) (by omega)) ?_
    have : 0 ≤ (u.2.1 21 x1.toNatClampNeg).toInt ∧ (u.2.1 21 x1.toNatClampNeg).toInt ≤ 120 := hs_u.1.2.1 21 x1.toNatClampNeg
    refine Tot_bind (tfX12_season (u.2.1 21 x1.toNatClampNeg) ⟨by omega, by omega⟩) (fun r4 hq => ?_)
    have : 0 ≤ r4.toInt ∧ r4.toInt ≤ 3 := hq.1
    clear hq
    exact Tot_some ⟨hs_u, (by show 0 ≤ r4.toInt ∧ r4.toInt ≤ 40; omega), trivial⟩
  · refine Tot_ite (fun c254 => ?_) (fun c254 => ?_)
    · have : (3 : Int) ≤ x2.toInt := leI c254
      have : (5 * x1).toInt = 5 * x1.toInt := cmul_t (by decide) (by omega) (by omega)
      have : (x2 - 1).toInt = x2.toInt - (1 : Int) := subc_t (by decide) (by omega) (by omega)
      have : ((5 * x1) + (x2 - 1)).toInt = (5 * x1).toInt + (x2 - 1).toInt := add_t (by omega) (by omega)
      refine Tot_gd (inb_t (by omega) (by omega)) ?_
      have : 0 ≤ (u.2.1 19 (((5 * x1) + (x2 - 1))).toNatClampNeg).toInt ∧ (u.2.1 19 (((5 * x1) + (x2 - 1))).toNatClampNeg).toInt ≤ 40 := hs_u.1.2.1 19 (((5 * x1) + (x2 - 1))).toNatClampNeg
      exact Tot_some ⟨hs_u, (by show 0 ≤ (u.2.1 19 (((5 * x1) + (x2 - 1))).toNatClampNeg).toInt ∧ (u.2.1 19 (((5 * x1) + (x2 - 1))).toNatClampNeg).toInt ≤ 40; omega), trivial⟩
    · have : ¬ (3 : Int) ≤ x2.toInt := nleI c254
      have : (5 * x1).toInt = 5 * x1.toInt := cmul_t (by decide) (by omega) (by omega)
      have : ((5 * x1) + x2).toInt = (5 * x1).toInt + x2.toInt := add_t (by omega) (by omega)
      refine Tot_gd (inb_t (by omega) (by omega)) ?_
      have : 0 ≤ (u.2.1 19 (((5 * x1) + x2)).toNatClampNeg).toInt ∧ (u.2.1 19 (((5 * x1) + x2)).toNatClampNeg).toInt ≤ 40 := hs_u.1.2.1 19 (((5 * x1) + x2)).toNatClampNeg
      exact Tot_some ⟨hs_u, (by show 0 ≤ (u.2.1 19 (((5 * x1) + x2)).toNatClampNeg).toInt ∧ (u.2.1 19 (((5 * x1) + x2)).toNatClampNeg).toInt ≤ 40; omega), trivial⟩

def mdX12_layWorthsOf_0 : MD := ([2, 4, 5, 6, 7, 8, 9, 10, 11], [5, 18], [], [])
abbrev qX12_layWorthsOf_0 (u : SX) (q : Int32 × SX) : Prop := StM mdX12_layWorthsOf_0 u q.2 ∧ (0 ≤ q.1.toInt ∧ q.1.toInt ≤ 0) ∧ (True)
set_option maxHeartbeats 400000 in
set_option maxRecDepth 10000 in
theorem tfX12_layWorthsOf_0 (x1 : Int32) (u : SX) (hI : IM u) (h0 : 0 ≤ x1.toInt ∧ x1.toInt ≤ 79) : Tot (fX12_layWorthsOf_0 x1 u) (qX12_layWorthsOf_0 u) := by
  unfold fX12_layWorthsOf_0
  have hs_u : StM mdX12_layWorthsOf_0 u u := StM_rf hI
  refine Tot_bind (tfX12_aimOf_0 x1 0 u hs_u.1 ⟨by omega, by omega⟩ (by show 0 ≤ (0 : Int) ∧ (0 : Int) ≤ 5; omega)) (fun q hq => ?_)
  obtain ⟨r1, u2⟩ := q
  have hc_u2 : StM mdX12_aimOf_0 u u2 := hq.1
  have hs_u2 : StM mdX12_layWorthsOf_0 u u2 := StM_tr hs_u hc_u2 (by decide)
  have : 0 ≤ r1.toInt ∧ r1.toInt ≤ 40 := hq.2.1
  clear hq
  refine Tot_bind (tfX12_aimOf_0 x1 1 u2 hs_u2.1 ⟨by omega, by omega⟩ (by show 0 ≤ (1 : Int) ∧ (1 : Int) ≤ 5; omega)) (fun q hq => ?_)
  obtain ⟨r4, u5⟩ := q
  have hc_u5 : StM mdX12_aimOf_0 u2 u5 := hq.1
  have hs_u5 : StM mdX12_layWorthsOf_0 u u5 := StM_tr hs_u2 hc_u5 (by decide)
  have : 0 ≤ r4.toInt ∧ r4.toInt ≤ 40 := hq.2.1
  clear hq
  refine Tot_bind (tfX12_aimOf_0 x1 2 u5 hs_u5.1 ⟨by omega, by omega⟩ (by show 0 ≤ (2 : Int) ∧ (2 : Int) ≤ 5; omega)) (fun q hq => ?_)
  obtain ⟨r7, u8⟩ := q
  have hc_u8 : StM mdX12_aimOf_0 u5 u8 := hq.1
  have hs_u8 : StM mdX12_layWorthsOf_0 u u8 := StM_tr hs_u5 hc_u8 (by decide)
  have : 0 ≤ r7.toInt ∧ r7.toInt ≤ 40 := hq.2.1
  clear hq
  refine Tot_bind (tfX12_aimOf_0 x1 3 u8 hs_u8.1 ⟨by omega, by omega⟩ (by show 0 ≤ (3 : Int) ∧ (3 : Int) ≤ 5; omega)) (fun q hq => ?_)
  obtain ⟨r10, u11⟩ := q
  have hc_u11 : StM mdX12_aimOf_0 u8 u11 := hq.1
  have hs_u11 : StM mdX12_layWorthsOf_0 u u11 := StM_tr hs_u8 hc_u11 (by decide)
  have : 0 ≤ r10.toInt ∧ r10.toInt ≤ 40 := hq.2.1
  clear hq
  refine Tot_bind (tfX12_aimOf_0 x1 4 u11 hs_u11.1 ⟨by omega, by omega⟩ (by show 0 ≤ (4 : Int) ∧ (4 : Int) ≤ 5; omega)) (fun q hq => ?_)
  obtain ⟨r13, u14⟩ := q
  have hc_u14 : StM mdX12_aimOf_0 u11 u14 := hq.1
  have hs_u14 : StM mdX12_layWorthsOf_0 u u14 := StM_tr hs_u11 hc_u14 (by decide)
  have : 0 ≤ r13.toInt ∧ r13.toInt ≤ 40 := hq.2.1
  clear hq
  refine Tot_bind (tfX12_aimOf_0 x1 5 u14 hs_u14.1 ⟨by omega, by omega⟩ (by show 0 ≤ (5 : Int) ∧ (5 : Int) ≤ 5; omega)) (fun q hq => ?_)
  obtain ⟨r16, u17⟩ := q
  have hc_u17 : StM mdX12_aimOf_0 u14 u17 := hq.1
  have hs_u17 : StM mdX12_layWorthsOf_0 u u17 := StM_tr hs_u14 hc_u17 (by decide)
  have : 0 ≤ r16.toInt ∧ r16.toInt ≤ 40 := hq.2.1
  clear hq
  refine Tot_bind (tfX12_layWorths_0 r1 r4 r7 r10 r13 r16 u17 hs_u17.1 ⟨by omega, by omega⟩ ⟨by omega, by omega⟩ ⟨by omega, by omega⟩ ⟨by omega, by omega⟩ ⟨by omega, by omega⟩ ⟨by omega, by omega⟩) (fun q hq => ?_)
  obtain ⟨r19, u20⟩ := q
  have hc_u20 : StM mdX12_layWorths_0 u17 u20 := hq.1
  have hs_u20 : StM mdX12_layWorthsOf_0 u u20 := StM_tr hs_u17 hc_u20 (by decide)
  have : 0 ≤ r19.toInt ∧ r19.toInt ≤ 0 := hq.2.1
  clear hq
  exact Tot_some ⟨hs_u20, (by show 0 ≤ (0 : Int) ∧ (0 : Int) ≤ 0; omega), trivial⟩

def mdX12_most_0 : MD := ([], [], [], [])
abbrev qX12_most_0 (u : SX) (q : Int32 × SX) : Prop := StM mdX12_most_0 u q.2 ∧ (True) ∧ (True)
set_option maxHeartbeats 400000 in
set_option maxRecDepth 10000 in
theorem tfX12_most_0 (x1 : Int32) (u : SX) (hI : IM u) (h0 : 0 ≤ x1.toInt ∧ x1.toInt ≤ 11) : Tot (fX12_most_0 x1 u) (qX12_most_0 u) := by
  unfold fX12_most_0
  have hs_u : StM mdX12_most_0 u u := StM_rf hI
  refine Tot_gd (inb_t (by omega) (by omega)) ?_
  refine Tot_gd (inb_t (by omega) (by omega)) ?_
  refine Tot_bind (tfX12_shines (u.2.1 16 x1.toNatClampNeg) (u.2.1 18 x1.toNatClampNeg)) (fun r3 hq => ?_)
  clear hq
  refine Tot_gd (inb_t (by omega) (by omega)) ?_
  refine Tot_gd (inb_t (by omega) (by omega)) ?_
  have : 0 ≤ (u.2.1 17 x1.toNatClampNeg).toInt ∧ (u.2.1 17 x1.toNatClampNeg).toInt ≤ 400 := hs_u.1.2.1 17 x1.toNatClampNeg
  refine Tot_bind (tfX12_shines (u.2.1 17 x1.toNatClampNeg) (u.2.1 18 x1.toNatClampNeg)) (fun r8 hq => ?_)
  clear hq
  have : (r3.toInt < r8.toInt ∧ (if r3 < r8 then r8 else r3).toInt = r8.toInt) ∨ (¬ r3.toInt < r8.toInt ∧ (if r3 < r8 then r8 else r3).toInt = r3.toInt) := ite_lt_t (x := r3) (y := r8) (p := r8) (q := r3)
  exact Tot_some ⟨hs_u, trivial, trivial⟩

def mdX12_least_0 : MD := ([], [], [], [])
abbrev qX12_least_0 (u : SX) (q : Int32 × SX) : Prop := StM mdX12_least_0 u q.2 ∧ (True) ∧ (True)
set_option maxHeartbeats 400000 in
set_option maxRecDepth 10000 in
theorem tfX12_least_0 (x1 : Int32) (u : SX) (hI : IM u) (h0 : 0 ≤ x1.toInt ∧ x1.toInt ≤ 11) : Tot (fX12_least_0 x1 u) (qX12_least_0 u) := by
  unfold fX12_least_0
  have hs_u : StM mdX12_least_0 u u := StM_rf hI
  refine Tot_gd (inb_t (by omega) (by omega)) ?_
  refine Tot_gd (inb_t (by omega) (by omega)) ?_
  refine Tot_bind (tfX12_shines (u.2.1 16 x1.toNatClampNeg) (u.2.1 18 x1.toNatClampNeg)) (fun r3 hq => ?_)
  clear hq
  refine Tot_gd (inb_t (by omega) (by omega)) ?_
  refine Tot_gd (inb_t (by omega) (by omega)) ?_
  have : 0 ≤ (u.2.1 17 x1.toNatClampNeg).toInt ∧ (u.2.1 17 x1.toNatClampNeg).toInt ≤ 400 := hs_u.1.2.1 17 x1.toNatClampNeg
  refine Tot_bind (tfX12_shines (u.2.1 17 x1.toNatClampNeg) (u.2.1 18 x1.toNatClampNeg)) (fun r8 hq => ?_)
  clear hq
  have : (r8.toInt < r3.toInt ∧ (if r8 < r3 then r8 else r3).toInt = r8.toInt) ∨ (¬ r8.toInt < r3.toInt ∧ (if r8 < r3 then r8 else r3).toInt = r3.toInt) := ite_lt_t (x := r8) (y := r3) (p := r8) (q := r3)
  exact Tot_some ⟨hs_u, trivial, trivial⟩

def mdX12_layLeft_0 : MD := ([2, 4, 5, 6, 7, 8, 9, 10, 11, 16, 17], [5, 18], [], [])
abbrev qX12_layLeft_0 (u : SX) (q : Int32 × SX) : Prop := StM mdX12_layLeft_0 u q.2 ∧ (0 ≤ q.1.toInt ∧ q.1.toInt ≤ 0) ∧ (True)
set_option maxHeartbeats 400000 in
set_option maxRecDepth 10000 in
theorem tGX12_layLeft_0_76 (u0 : SX) (g27 : Int) {k27 : Int32 → Int32 → SX → Option (Int32 × SX)} (hk27 : ∀ (z2 : Int32) (z3 : Int32) (u : SX), (StM mdX12_layLeft_0 u0 u) → (0 ≤ z2.toInt ∧ z2.toInt ≤ 120) → (0 ≤ z3.toInt ∧ z3.toInt ≤ 12) → (g27 < z3.toInt) → Tot (k27 z2 z3 u) (qX12_layLeft_0 u0)) (z2 : Int32) (z3 : Int32) (u : SX) (hs_u : StM mdX12_layLeft_0 u0 u) (h0 : 0 ≤ z2.toInt ∧ z2.toInt ≤ 120) (h1 : 0 ≤ z3.toInt ∧ z3.toInt ≤ 11) (h2 : g27 ≤ z3.toInt) : Tot (GX12_layLeft_0_76 k27 z2 z3 u) (qX12_layLeft_0 u0) := by
  unfold GX12_layLeft_0_76
  have : (z3 + 1).toInt = z3.toInt + (1 : Int) := addc_t (by decide) (by omega) (by omega)
  exact hk27 z2 (z3 + 1) u hs_u ⟨by omega, by omega⟩ ⟨by omega, by omega⟩ (by omega)
set_option maxHeartbeats 400000 in
set_option maxRecDepth 10000 in
theorem tLX12_layLeft_0_27 (u0 : SX)    : ∀ (n : Nat) (z2 : Int32) (z3 : Int32) (u : SX), (StM mdX12_layLeft_0 u0 u) → (0 ≤ z2.toInt ∧ z2.toInt ≤ 120) → (0 ≤ z3.toInt ∧ z3.toInt ≤ 12) → (12 - z3.toInt < (n : Int)) → Tot (LX12_layLeft_0_27 n z2 z3 u) (qX12_layLeft_0 u0) := by
  intro n
  induction n with
  | zero =>
    intro z2 z3 u hs_u h0 h1 hm
    exfalso
    omega
  | succ n ih =>
    intro z2 z3 u hs_u h0 h1 hm
    rw [LX12_layLeft_0_27]
    have : 0 ≤ (u.1 12).toInt ∧ (u.1 12).toInt ≤ 12 := hs_u.1.1 12
    refine Tot_ite (fun c255 => ?_) (fun c255 => ?_)
    · have : (u.1 12).toInt ≤ z3.toInt := leI c255
      exact Tot_some ⟨hs_u, (by show 0 ≤ (0 : Int) ∧ (0 : Int) ≤ 0; omega), trivial⟩
    · have : ¬ (u.1 12).toInt ≤ z3.toInt := nleI c255
      refine Tot_gd (inb_t (by omega) (by omega)) ?_
      have : 0 ≤ (u.2.1 10 z3.toNatClampNeg).toInt ∧ (u.2.1 10 z3.toNatClampNeg).toInt ≤ 120 := hs_u.1.2.1 10 z3.toNatClampNeg
      refine Tot_ite (fun c256 => ?_) (fun c256 => ?_)
      · have : (u.2.1 10 z3.toNatClampNeg).toInt ≤ z2.toInt := leI c256
        refine Tot_bind (tfX12_most_0 z3 u hs_u.1 ⟨by omega, by omega⟩) (fun q hq => ?_)
        obtain ⟨r11, u12⟩ := q
        have hc_u12 : StM mdX12_most_0 u u12 := hq.1
        have hs_u12 : StM mdX12_layLeft_0 u0 u12 := StM_tr hs_u hc_u12 (by decide)
        clear hq
        refine Tot_lt (fun u14 e_u14 => ?_)
        have hs_u14 : StM mdX12_layLeft_0 u0 u14 := by rw [e_u14]; exact StM_sIf hs_u12 (by decide) rfl rfl
        refine Tot_bind (tfX12_least_0 z3 u14 hs_u14.1 ⟨by omega, by omega⟩) (fun q hq => ?_)
        obtain ⟨r16, u17⟩ := q
        have hc_u17 : StM mdX12_least_0 u14 u17 := hq.1
        have hs_u17 : StM mdX12_layLeft_0 u0 u17 := StM_tr hs_u14 hc_u17 (by decide)
        clear hq
        refine Tot_lt (fun u19 e_u19 => ?_)
        have hs_u19 : StM mdX12_layLeft_0 u0 u19 := by rw [e_u19]; exact StM_sIf hs_u17 (by decide) rfl rfl
        exact tGX12_layLeft_0_76 u0 (z3.toInt) (fun a257 a258 w259 hw259 p260 p261 p262 => ih a257 a258 w259 hw259 p260 p261 (by omega)) z2 z3 u19 hs_u19 ⟨by omega, by omega⟩ ⟨by omega, by omega⟩ (by omega)
      · have : ¬ (u.2.1 10 z3.toNatClampNeg).toInt ≤ z2.toInt := nleI c256
        exact tGX12_layLeft_0_76 u0 (z3.toInt) (fun a263 a264 w265 hw265 p266 p267 p268 => ih a263 a264 w265 hw265 p266 p267 (by omega)) z2 z3 u hs_u ⟨by omega, by omega⟩ ⟨by omega, by omega⟩ (by omega)
set_option maxHeartbeats 400000 in
set_option maxRecDepth 10000 in
theorem tfX12_layLeft_0 (x1 : Int32) (x2 : Int32) (u : SX) (hI : IM u) (h0 : 0 ≤ x1.toInt ∧ x1.toInt ≤ 79) (h1 : 0 ≤ x2.toInt ∧ x2.toInt ≤ 120) : Tot (fX12_layLeft_0 x1 x2 u) (qX12_layLeft_0 u) := by
  unfold fX12_layLeft_0
  have hs_u : StM mdX12_layLeft_0 u u := StM_rf hI
  refine Tot_bind (tfX12_layWorthsOf_0 x1 u hs_u.1 ⟨by omega, by omega⟩) (fun q hq => ?_)
  obtain ⟨r1, u2⟩ := q
  have hc_u2 : StM mdX12_layWorthsOf_0 u u2 := hq.1
  have hs_u2 : StM mdX12_layLeft_0 u u2 := StM_tr hs_u hc_u2 (by decide)
  have : 0 ≤ r1.toInt ∧ r1.toInt ≤ 0 := hq.2.1
  clear hq
  refine Tot_gd (inb_t (by omega) (by omega)) ?_
  refine Tot_lt (fun u5 e_u5 => ?_)
  have hs_u5 : StM mdX12_layLeft_0 u u5 := by rw [e_u5]; exact StM_sIf hs_u2 (by decide) rfl rfl
  refine Tot_gd (inb_t (by omega) (by omega)) ?_
  refine Tot_lt (fun u8 e_u8 => ?_)
  have hs_u8 : StM mdX12_layLeft_0 u u8 := by rw [e_u8]; exact StM_sIf hs_u5 (by decide) rfl rfl
  exact tLX12_layLeft_0_27 u 5000 x2 0 u8 hs_u8 ⟨by omega, by omega⟩ (by show 0 ≤ (0 : Int) ∧ (0 : Int) ≤ 12; omega) (by show 12 - (0 : Int) < ((5000 : Nat) : Int); omega)

def mdX12_left_0 : MD := ([0, 2, 4, 5, 6, 7, 8, 9, 10, 11, 16, 17], [5, 16, 17, 18], [], [])
abbrev qX12_left_0 (u : SX) (q : Int32 × SX) : Prop := StM mdX12_left_0 u q.2 ∧ (True) ∧ (True)
set_option maxHeartbeats 400000 in
set_option maxRecDepth 10000 in
theorem tfX12_left_0 (x1 : Int32) (x2 : Int32) (x3 : Int32) (u : SX) (hI : IM u)  : Tot (fX12_left_0 x1 x2 x3 u) (qX12_left_0 u) := by
  unfold fX12_left_0
  have hs_u : StM mdX12_left_0 u u := StM_rf hI
  refine Tot_lt (fun u1 e_u1 => ?_)
  have hs_u1 : StM mdX12_left_0 u u1 := by rw [e_u1]; exact StM_sI hs_u (by decide) (by show 0 ≤ (0 : Int); omega) (by show (0 : Int) ≤ 1; omega)
  refine Tot_bind (tfX12_isReading_0 x1 u1 hs_u1.1) (fun q hq => ?_)
  obtain ⟨r3, u4⟩ := q
  have hc_u4 : StM mdX12_isReading_0 u1 u4 := hq.1
  have hs_u4 : StM mdX12_left_0 u u4 := StM_tr hs_u1 hc_u4 (by decide)
  have : 0 ≤ r3.toInt ∧ r3.toInt ≤ 1 := hq.2.1
  have : (u1.1 15).toInt = (u.1 15).toInt := by rw [e_u1]; rfl
  have : 0 ≤ (u.1 15).toInt ∧ (u.1 15).toInt ≤ 80 := hs_u.1.1 15
  have : r3.toInt ≠ 0 → ((0 : Int) ≤ x1.toInt ∧ x1.toInt < (u1.1 15).toInt) := hq.2.2
  clear hq
  refine Tot_ite (fun c269 => ?_) (fun c269 => ?_)
  · have : r3.toInt = (0 : Int) := eqI c269
    exact Tot_some ⟨hs_u4, trivial, trivial⟩
  · have : ¬ r3.toInt = (0 : Int) := neI c269
    refine Tot_gd (inb_t (by omega) (by omega)) ?_
    have : 0 ≤ (u4.2.1 21 x1.toNatClampNeg).toInt ∧ (u4.2.1 21 x1.toNatClampNeg).toInt ≤ 120 := hs_u4.1.2.1 21 x1.toNatClampNeg
    refine Tot_bind (tfX12_isKnown_0 (u4.2.1 21 x1.toNatClampNeg) x2 u4 hs_u4.1 ⟨by omega, by omega⟩) (fun q hq => ?_)
    obtain ⟨r7, u8⟩ := q
    have hc_u8 : StM mdX12_isKnown_0 u4 u8 := hq.1
    have hs_u8 : StM mdX12_left_0 u u8 := StM_tr hs_u4 hc_u8 (by decide)
    have : 0 ≤ r7.toInt ∧ r7.toInt ≤ 1 := hq.2.1
    have : (u4.1 1).toInt = (u1.1 1).toInt := congrArg Int32.toInt (hc_u4.2.1 1 (by decide))
    have : (u1.1 1).toInt = (u.1 1).toInt := by rw [e_u1]; rfl
    have : 0 ≤ (u.1 1).toInt ∧ (u.1 1).toInt ≤ 120 := hs_u.1.1 1
    have : r7.toInt ≠ 0 → ((0 : Int) ≤ x2.toInt ∧ x2.toInt ≤ (u4.1 1).toInt ∧ (u4.2.1 21 x1.toNatClampNeg).toInt ≤ x2.toInt) := hq.2.2
    clear hq
    refine Tot_ite (fun c270 => ?_) (fun c270 => ?_)
    · have : r7.toInt = (0 : Int) := eqI c270
      exact Tot_some ⟨hs_u8, trivial, trivial⟩
    · have : ¬ r7.toInt = (0 : Int) := neI c270
      refine Tot_bind (tfX12_isIn x3 0 1 (by show (-100000) ≤ (0 : Int) ∧ (0 : Int) ≤ 400; omega) (by show (-1) ≤ (1 : Int) ∧ (1 : Int) ≤ 100000; omega)) (fun r10 hq => ?_)
      have : 0 ≤ r10.toInt ∧ r10.toInt ≤ 1 := hq.1
      have : r10.toInt ≠ 0 → ((0 : Int) ≤ x3.toInt ∧ x3.toInt ≤ (1 : Int)) := hq.2
      clear hq
      refine Tot_ite (fun c271 => ?_) (fun c271 => ?_)
      · have : r10.toInt = (0 : Int) := eqI c271
        exact Tot_some ⟨hs_u8, trivial, trivial⟩
      · have : ¬ r10.toInt = (0 : Int) := neI c271
        refine Tot_bind (tfX12_laySpansOf_0 x2 u8 hs_u8.1 ⟨by omega, by omega⟩) (fun q hq => ?_)
        obtain ⟨r13, u14⟩ := q
        have hc_u14 : StM mdX12_laySpansOf_0 u8 u14 := hq.1
        have hs_u14 : StM mdX12_left_0 u u14 := StM_tr hs_u8 hc_u14 (by decide)
        have : 0 ≤ r13.toInt ∧ r13.toInt ≤ 0 := hq.2.1
        clear hq
        refine Tot_bind (tfX12_layLeft_0 x1 x2 u14 hs_u14.1 ⟨by omega, by omega⟩ ⟨by omega, by omega⟩) (fun q hq => ?_)
        obtain ⟨r16, u17⟩ := q
        have hc_u17 : StM mdX12_layLeft_0 u14 u17 := hq.1
        have hs_u17 : StM mdX12_left_0 u u17 := StM_tr hs_u14 hc_u17 (by decide)
        have : 0 ≤ r16.toInt ∧ r16.toInt ≤ 0 := hq.2.1
        clear hq
        refine Tot_ite (fun c272 => ?_) (fun c272 => ?_)
        · have : x3.toInt = (0 : Int) := eqI c272
          exact Tot_some ⟨hs_u17, trivial, trivial⟩
        · have : ¬ x3.toInt = (0 : Int) := neI c272
          exact Tot_some ⟨hs_u17, trivial, trivial⟩

def mdX12_most__0 : MD := ([0, 2, 4, 5, 6, 7, 8, 9, 10, 11], [5, 16, 17, 18], [], [])
abbrev qX12_most__0 (u : SX) (q : Int32 × SX) : Prop := StM mdX12_most__0 u q.2 ∧ ((-1) ≤ q.1.toInt ∧ q.1.toInt ≤ 11) ∧ (True)
set_option maxHeartbeats 400000 in
set_option maxRecDepth 10000 in
theorem tGX12_most__0_106 (u0 : SX) (g47 : Int) {k47 : Int32 → Int32 → Int32 → Int32 → SX → Option (Int32 × SX)} (hk47 : ∀ (z2 : Int32) (z3 : Int32) (z4 : Int32) (z5 : Int32) (u : SX), (StM mdX12_most__0 u0 u) → (0 ≤ z2.toInt ∧ z2.toInt ≤ 120) → ((-1) ≤ z3.toInt ∧ z3.toInt ≤ 11) → (0 ≤ z5.toInt ∧ z5.toInt ≤ 12) → (g47 < z5.toInt) → Tot (k47 z2 z3 z4 z5 u) (qX12_most__0 u0)) (z2 : Int32) (z3 : Int32) (z4 : Int32) (z5 : Int32) (u : SX) (hs_u : StM mdX12_most__0 u0 u) (h0 : 0 ≤ z2.toInt ∧ z2.toInt ≤ 120) (h1 : (-1) ≤ z3.toInt ∧ z3.toInt ≤ 11) (h2 : 0 ≤ z5.toInt ∧ z5.toInt ≤ 11) (h3 : g47 ≤ z5.toInt) : Tot (GX12_most__0_106 k47 z2 z3 z4 z5 u) (qX12_most__0 u0) := by
  unfold GX12_most__0_106
  have : (z5 + 1).toInt = z5.toInt + (1 : Int) := addc_t (by decide) (by omega) (by omega)
  exact hk47 z2 z3 z4 (z5 + 1) u hs_u ⟨by omega, by omega⟩ ⟨by omega, by omega⟩ ⟨by omega, by omega⟩ (by omega)
set_option maxHeartbeats 400000 in
set_option maxRecDepth 10000 in
theorem tLX12_most__0_47 (u0 : SX)    : ∀ (n : Nat) (z2 : Int32) (z3 : Int32) (z4 : Int32) (z5 : Int32) (u : SX), (StM mdX12_most__0 u0 u) → (0 ≤ z2.toInt ∧ z2.toInt ≤ 120) → ((-1) ≤ z3.toInt ∧ z3.toInt ≤ 11) → (0 ≤ z5.toInt ∧ z5.toInt ≤ 12) → (12 - z5.toInt < (n : Int)) → Tot (LX12_most__0_47 n z2 z3 z4 z5 u) (qX12_most__0 u0) := by
  intro n
  induction n with
  | zero =>
    intro z2 z3 z4 z5 u hs_u h0 h1 h2 hm
    exfalso
    omega
  | succ n ih =>
    intro z2 z3 z4 z5 u hs_u h0 h1 h2 hm
    rw [LX12_most__0_47]
    have : 0 ≤ (u.1 12).toInt ∧ (u.1 12).toInt ≤ 12 := hs_u.1.1 12
    refine Tot_ite (fun c273 => ?_) (fun c273 => ?_)
    · have : (u.1 12).toInt ≤ z5.toInt := leI c273
      exact Tot_some ⟨hs_u, (by show (-1) ≤ z3.toInt ∧ z3.toInt ≤ 11; omega), trivial⟩
    · have : ¬ (u.1 12).toInt ≤ z5.toInt := nleI c273
      refine Tot_gd (inb_t (by omega) (by omega)) ?_
      have : 0 ≤ (u.2.1 10 z5.toNatClampNeg).toInt ∧ (u.2.1 10 z5.toNatClampNeg).toInt ≤ 120 := hs_u.1.2.1 10 z5.toNatClampNeg
      refine Tot_ite (fun c274 => ?_) (fun c274 => ?_)
      · have : z2.toInt < (u.2.1 10 z5.toNatClampNeg).toInt := ltI c274
        exact tGX12_most__0_106 u0 (z5.toInt) (fun a275 a276 a277 a278 w279 hw279 p280 p281 p282 p283 => ih a275 a276 a277 a278 w279 hw279 p280 p281 p282 (by omega)) z2 z3 z4 z5 u hs_u ⟨by omega, by omega⟩ ⟨by omega, by omega⟩ ⟨by omega, by omega⟩ (by omega)
      · have : ¬ z2.toInt < (u.2.1 10 z5.toNatClampNeg).toInt := nltI c274
        refine Tot_bind (tfX12_most_0 z5 u hs_u.1 ⟨by omega, by omega⟩) (fun q hq => ?_)
        obtain ⟨r17, u18⟩ := q
        have hc_u18 : StM mdX12_most_0 u u18 := hq.1
        have hs_u18 : StM mdX12_most__0 u0 u18 := StM_tr hs_u hc_u18 (by decide)
        clear hq
        refine Tot_bind (tfX12_least_0 z5 u18 hs_u18.1 ⟨by omega, by omega⟩) (fun q hq => ?_)
        obtain ⟨r20, u21⟩ := q
        have hc_u21 : StM mdX12_least_0 u18 u21 := hq.1
        have hs_u21 : StM mdX12_most__0 u0 u21 := StM_tr hs_u18 hc_u21 (by decide)
        clear hq
        refine Tot_ite (fun c284 => ?_) (fun c284 => ?_)
        · refine Tot_bind (tfX12_most_0 z5 u21 hs_u21.1 ⟨by omega, by omega⟩) (fun q hq => ?_)
          obtain ⟨r23, u24⟩ := q
          have hc_u24 : StM mdX12_most_0 u21 u24 := hq.1
          have hs_u24 : StM mdX12_most__0 u0 u24 := StM_tr hs_u21 hc_u24 (by decide)
          clear hq
          refine Tot_bind (tfX12_least_0 z5 u24 hs_u24.1 ⟨by omega, by omega⟩) (fun q hq => ?_)
          obtain ⟨r26, u27⟩ := q
          have hc_u27 : StM mdX12_least_0 u24 u27 := hq.1
          have hs_u27 : StM mdX12_most__0 u0 u27 := StM_tr hs_u24 hc_u27 (by decide)
          clear hq
          refine Tot_lt (fun v29 e_v29 => ?_)
          exact tGX12_most__0_106 u0 (z5.toInt) (fun a285 a286 a287 a288 w289 hw289 p290 p291 p292 p293 => ih a285 a286 a287 a288 w289 hw289 p290 p291 p292 (by omega)) z2 z5 v29 z5 u27 hs_u27 ⟨by omega, by omega⟩ ⟨by omega, by omega⟩ ⟨by omega, by omega⟩ (by omega)
        · exact tGX12_most__0_106 u0 (z5.toInt) (fun a294 a295 a296 a297 w298 hw298 p299 p300 p301 p302 => ih a294 a295 a296 a297 w298 hw298 p299 p300 p301 (by omega)) z2 z3 z4 z5 u21 hs_u21 ⟨by omega, by omega⟩ ⟨by omega, by omega⟩ ⟨by omega, by omega⟩ (by omega)
set_option maxHeartbeats 400000 in
set_option maxRecDepth 10000 in
theorem tfX12_most__0 (x1 : Int32) (x2 : Int32) (u : SX) (hI : IM u)  : Tot (fX12_most__0 x1 x2 u) (qX12_most__0 u) := by
  unfold fX12_most__0
  have hs_u : StM mdX12_most__0 u u := StM_rf hI
  refine Tot_lt (fun u1 e_u1 => ?_)
  have hs_u1 : StM mdX12_most__0 u u1 := by rw [e_u1]; exact StM_sI hs_u (by decide) (by show 0 ≤ (0 : Int); omega) (by show (0 : Int) ≤ 1; omega)
  refine Tot_bind (tfX12_isReading_0 x1 u1 hs_u1.1) (fun q hq => ?_)
  obtain ⟨r3, u4⟩ := q
  have hc_u4 : StM mdX12_isReading_0 u1 u4 := hq.1
  have hs_u4 : StM mdX12_most__0 u u4 := StM_tr hs_u1 hc_u4 (by decide)
  have : 0 ≤ r3.toInt ∧ r3.toInt ≤ 1 := hq.2.1
  have : (u1.1 15).toInt = (u.1 15).toInt := by rw [e_u1]; rfl
  have : 0 ≤ (u.1 15).toInt ∧ (u.1 15).toInt ≤ 80 := hs_u.1.1 15
  have : r3.toInt ≠ 0 → ((0 : Int) ≤ x1.toInt ∧ x1.toInt < (u1.1 15).toInt) := hq.2.2
  clear hq
  refine Tot_ite (fun c303 => ?_) (fun c303 => ?_)
  · have : r3.toInt = (0 : Int) := eqI c303
    exact Tot_some ⟨hs_u4, (by show (-1) ≤ (-1 : Int) ∧ (-1 : Int) ≤ 11; omega), trivial⟩
  · have : ¬ r3.toInt = (0 : Int) := neI c303
    refine Tot_gd (inb_t (by omega) (by omega)) ?_
    have : 0 ≤ (u4.2.1 21 x1.toNatClampNeg).toInt ∧ (u4.2.1 21 x1.toNatClampNeg).toInt ≤ 120 := hs_u4.1.2.1 21 x1.toNatClampNeg
    refine Tot_bind (tfX12_isKnown_0 (u4.2.1 21 x1.toNatClampNeg) x2 u4 hs_u4.1 ⟨by omega, by omega⟩) (fun q hq => ?_)
    obtain ⟨r7, u8⟩ := q
    have hc_u8 : StM mdX12_isKnown_0 u4 u8 := hq.1
    have hs_u8 : StM mdX12_most__0 u u8 := StM_tr hs_u4 hc_u8 (by decide)
    have : 0 ≤ r7.toInt ∧ r7.toInt ≤ 1 := hq.2.1
    have : (u4.1 1).toInt = (u1.1 1).toInt := congrArg Int32.toInt (hc_u4.2.1 1 (by decide))
    have : (u1.1 1).toInt = (u.1 1).toInt := by rw [e_u1]; rfl
    have : 0 ≤ (u.1 1).toInt ∧ (u.1 1).toInt ≤ 120 := hs_u.1.1 1
    have : r7.toInt ≠ 0 → ((0 : Int) ≤ x2.toInt ∧ x2.toInt ≤ (u4.1 1).toInt ∧ (u4.2.1 21 x1.toNatClampNeg).toInt ≤ x2.toInt) := hq.2.2
    clear hq
    refine Tot_ite (fun c304 => ?_) (fun c304 => ?_)
    · have : r7.toInt = (0 : Int) := eqI c304
      exact Tot_some ⟨hs_u8, (by show (-1) ≤ (-1 : Int) ∧ (-1 : Int) ≤ 11; omega), trivial⟩
    · have : ¬ r7.toInt = (0 : Int) := neI c304
      refine Tot_bind (tfX12_laySpansOf_0 x2 u8 hs_u8.1 ⟨by omega, by omega⟩) (fun q hq => ?_)
      obtain ⟨r10, u11⟩ := q
      have hc_u11 : StM mdX12_laySpansOf_0 u8 u11 := hq.1
      have hs_u11 : StM mdX12_most__0 u u11 := StM_tr hs_u8 hc_u11 (by decide)
      have : 0 ≤ r10.toInt ∧ r10.toInt ≤ 0 := hq.2.1
      clear hq
      refine Tot_bind (tfX12_layWorthsOf_0 x1 u11 hs_u11.1 ⟨by omega, by omega⟩) (fun q hq => ?_)
      obtain ⟨r13, u14⟩ := q
      have hc_u14 : StM mdX12_layWorthsOf_0 u11 u14 := hq.1
      have hs_u14 : StM mdX12_most__0 u u14 := StM_tr hs_u11 hc_u14 (by decide)
      have : 0 ≤ r13.toInt ∧ r13.toInt ≤ 0 := hq.2.1
      clear hq
      exact tLX12_most__0_47 u 5000 x2 (-1) (-1) 0 u14 hs_u14 ⟨by omega, by omega⟩ (by show (-1) ≤ (-1 : Int) ∧ (-1 : Int) ≤ 11; omega) (by show 0 ≤ (0 : Int) ∧ (0 : Int) ≤ 12; omega) (by show 12 - (0 : Int) < ((5000 : Nat) : Int); omega)

def mdX12_layAlike_0 : MD := ([2, 4, 5, 6, 7, 8, 9, 10, 11, 16, 17, 18, 19, 20], [5, 16, 17, 18], [], [])
abbrev qX12_layAlike_0 (u : SX) (q : Int32 × SX) : Prop := StM mdX12_layAlike_0 u q.2 ∧ (0 ≤ q.1.toInt ∧ q.1.toInt ≤ 0) ∧ (True)
set_option maxHeartbeats 400000 in
set_option maxRecDepth 10000 in
theorem tGX12_layAlike_0_107 (u0 : SX) (g12 : Int) {k12 : Int32 → Int32 → SX → Option (Int32 × SX)} (hk12 : ∀ (z1 : Int32) (z2 : Int32) (u : SX), (StM mdX12_layAlike_0 u0 u) → (0 ≤ z1.toInt ∧ z1.toInt ≤ 120) → (0 ≤ z2.toInt ∧ z2.toInt ≤ 80) → (g12 < z2.toInt) → Tot (k12 z1 z2 u) (qX12_layAlike_0 u0)) (z1 : Int32) (z2 : Int32) (u : SX) (hs_u : StM mdX12_layAlike_0 u0 u) (h0 : 0 ≤ z1.toInt ∧ z1.toInt ≤ 120) (h1 : 0 ≤ z2.toInt ∧ z2.toInt ≤ 79) (h2 : g12 ≤ z2.toInt) : Tot (GX12_layAlike_0_107 k12 z1 z2 u) (qX12_layAlike_0 u0) := by
  unfold GX12_layAlike_0_107
  have : (z2 + 1).toInt = z2.toInt + (1 : Int) := addc_t (by decide) (by omega) (by omega)
  exact hk12 z1 (z2 + 1) u hs_u ⟨by omega, by omega⟩ ⟨by omega, by omega⟩ (by omega)
set_option maxHeartbeats 400000 in
set_option maxRecDepth 10000 in
theorem tGX12_layAlike_0_94 (u0 : SX) (g12 : Int) {k12 : Int32 → Int32 → SX → Option (Int32 × SX)} (hk12 : ∀ (z1 : Int32) (z2 : Int32) (u : SX), (StM mdX12_layAlike_0 u0 u) → (0 ≤ z1.toInt ∧ z1.toInt ≤ 120) → (0 ≤ z2.toInt ∧ z2.toInt ≤ 80) → (g12 < z2.toInt) → Tot (k12 z1 z2 u) (qX12_layAlike_0 u0)) (z1 : Int32) (z2 : Int32) (y0 : Int32) (u : SX) (hs_u : StM mdX12_layAlike_0 u0 u) (h0 : 0 ≤ z1.toInt ∧ z1.toInt ≤ 120) (h1 : 0 ≤ z2.toInt ∧ z2.toInt ≤ 79) (h2 : g12 ≤ z2.toInt) : Tot (GX12_layAlike_0_94 k12 z1 z2 y0 u) (qX12_layAlike_0 u0) := by
  unfold GX12_layAlike_0_94
  refine Tot_lt (fun u12 e_u12 => ?_)
  have hs_u12 : StM mdX12_layAlike_0 u0 u12 := by rw [e_u12]; exact StM_sIf hs_u (by decide) rfl rfl
  refine Tot_lt (fun u14 e_u14 => ?_)
  have hs_u14 : StM mdX12_layAlike_0 u0 u14 := by rw [e_u14]; exact StM_sIf hs_u12 (by decide) rfl rfl
  exact tGX12_layAlike_0_107 u0 g12 hk12 z1 z2 u14 hs_u14 ⟨by omega, by omega⟩ ⟨by omega, by omega⟩ (by omega)
set_option maxHeartbeats 400000 in
set_option maxRecDepth 10000 in
theorem tGX12_layAlike_0_65 (u0 : SX) (g12 : Int) {k12 : Int32 → Int32 → SX → Option (Int32 × SX)} (hk12 : ∀ (z1 : Int32) (z2 : Int32) (u : SX), (StM mdX12_layAlike_0 u0 u) → (0 ≤ z1.toInt ∧ z1.toInt ≤ 120) → (0 ≤ z2.toInt ∧ z2.toInt ≤ 80) → (g12 < z2.toInt) → Tot (k12 z1 z2 u) (qX12_layAlike_0 u0)) (z1 : Int32) (z2 : Int32) (y0 : Int32) (u : SX) (hs_u : StM mdX12_layAlike_0 u0 u) (h0 : 0 ≤ z1.toInt ∧ z1.toInt ≤ 120) (h1 : 0 ≤ z2.toInt ∧ z2.toInt ≤ 79) (h2 : g12 ≤ z2.toInt) : Tot (GX12_layAlike_0_65 k12 z1 z2 y0 u) (qX12_layAlike_0 u0) := by
  unfold GX12_layAlike_0_65
  refine Tot_lt (fun u10 e_u10 => ?_)
  have hs_u10 : StM mdX12_layAlike_0 u0 u10 := by rw [e_u10]; exact StM_sIf hs_u (by decide) rfl rfl
  have : (u10.1 18).toInt = (u.1 18).toInt := by rw [e_u10]; rfl
  refine Tot_ite (fun c305 => ?_) (fun c305 => ?_)
  · have : (u10.1 18).toInt = (0 : Int) := eqI c305
    have : (u10.1 17).toInt = (u.1 17).toInt := by rw [e_u10]; rfl
    exact tGX12_layAlike_0_94 u0 g12 hk12 z1 z2 (u10.1 17) u10 hs_u10 ⟨by omega, by omega⟩ ⟨by omega, by omega⟩ (by omega)
  · have : (u10.1 17).toInt = (u.1 17).toInt := by rw [e_u10]; rfl
    have : (u10.1 20).toInt = (u.1 20).toInt := by rw [e_u10]; rfl
    have : ((u10.1 17).toInt < (u10.1 20).toInt ∧ (if (u10.1 17) < (u10.1 20) then (u10.1 17) else (u10.1 20)).toInt = (u10.1 17).toInt) ∨ (¬ (u10.1 17).toInt < (u10.1 20).toInt ∧ (if (u10.1 17) < (u10.1 20) then (u10.1 17) else (u10.1 20)).toInt = (u10.1 20).toInt) := ite_lt_t (x := (u10.1 17)) (y := (u10.1 20)) (p := (u10.1 17)) (q := (u10.1 20))
    exact tGX12_layAlike_0_94 u0 g12 hk12 z1 z2 (if (u10.1 17) < (u10.1 20) then (u10.1 17) else (u10.1 20)) u10 hs_u10 ⟨by omega, by omega⟩ ⟨by omega, by omega⟩ (by omega)
set_option maxHeartbeats 400000 in
set_option maxRecDepth 10000 in
theorem tLX12_layAlike_0_12 (u0 : SX)    : ∀ (n : Nat) (z1 : Int32) (z2 : Int32) (u : SX), (StM mdX12_layAlike_0 u0 u) → (0 ≤ z1.toInt ∧ z1.toInt ≤ 120) → (0 ≤ z2.toInt ∧ z2.toInt ≤ 80) → (80 - z2.toInt < (n : Int)) → Tot (LX12_layAlike_0_12 n z1 z2 u) (qX12_layAlike_0 u0) := by
  intro n
  induction n with
  | zero =>
    intro z1 z2 u hs_u h0 h1 hm
    exfalso
    omega
  | succ n ih =>
    intro z1 z2 u hs_u h0 h1 hm
    rw [LX12_layAlike_0_12]
    have : 0 ≤ (u.1 15).toInt ∧ (u.1 15).toInt ≤ 80 := hs_u.1.1 15
    refine Tot_ite (fun c306 => ?_) (fun c306 => ?_)
    · have : (u.1 15).toInt ≤ z2.toInt := leI c306
      exact Tot_some ⟨hs_u, (by show 0 ≤ (0 : Int) ∧ (0 : Int) ≤ 0; omega), trivial⟩
    · have : ¬ (u.1 15).toInt ≤ z2.toInt := nleI c306
      refine Tot_gd (inb_t (by omega) (by omega)) ?_
      have : 0 ≤ (u.2.1 21 z2.toNatClampNeg).toInt ∧ (u.2.1 21 z2.toNatClampNeg).toInt ≤ 120 := hs_u.1.2.1 21 z2.toNatClampNeg
      refine Tot_ite (fun c307 => ?_) (fun c307 => ?_)
      · have : (u.2.1 21 z2.toNatClampNeg).toInt ≤ z1.toInt := leI c307
        refine Tot_bind (tfX12_layLeft_0 z2 z1 u hs_u.1 ⟨by omega, by omega⟩ ⟨by omega, by omega⟩) (fun q hq => ?_)
        obtain ⟨r7, u8⟩ := q
        have hc_u8 : StM mdX12_layLeft_0 u u8 := hq.1
        have hs_u8 : StM mdX12_layAlike_0 u0 u8 := StM_tr hs_u hc_u8 (by decide)
        have : 0 ≤ r7.toInt ∧ r7.toInt ≤ 0 := hq.2.1
        clear hq
        have : (u8.1 18).toInt = (u.1 18).toInt := congrArg Int32.toInt (hc_u8.2.1 18 (by decide))
        refine Tot_ite (fun c308 => ?_) (fun c308 => ?_)
        · have : (u8.1 18).toInt = (0 : Int) := eqI c308
          exact tGX12_layAlike_0_65 u0 (z2.toInt) (fun a309 a310 w311 hw311 p312 p313 p314 => ih a309 a310 w311 hw311 p312 p313 (by omega)) z1 z2 (u8.1 16) u8 hs_u8 ⟨by omega, by omega⟩ ⟨by omega, by omega⟩ (by omega)
        · have : (u8.1 19).toInt = (u.1 19).toInt := congrArg Int32.toInt (hc_u8.2.1 19 (by decide))
          have : ((u8.1 19).toInt < (u8.1 16).toInt ∧ (if (u8.1 19) < (u8.1 16) then (u8.1 16) else (u8.1 19)).toInt = (u8.1 16).toInt) ∨ (¬ (u8.1 19).toInt < (u8.1 16).toInt ∧ (if (u8.1 19) < (u8.1 16) then (u8.1 16) else (u8.1 19)).toInt = (u8.1 19).toInt) := ite_lt_t (x := (u8.1 19)) (y := (u8.1 16)) (p := (u8.1 16)) (q := (u8.1 19))
          exact tGX12_layAlike_0_65 u0 (z2.toInt) (fun a315 a316 w317 hw317 p318 p319 p320 => ih a315 a316 w317 hw317 p318 p319 (by omega)) z1 z2 (if (u8.1 19) < (u8.1 16) then (u8.1 16) else (u8.1 19)) u8 hs_u8 ⟨by omega, by omega⟩ ⟨by omega, by omega⟩ (by omega)
      · have : ¬ (u.2.1 21 z2.toNatClampNeg).toInt ≤ z1.toInt := nleI c307
        exact tGX12_layAlike_0_107 u0 (z2.toInt) (fun a321 a322 w323 hw323 p324 p325 p326 => ih a321 a322 w323 hw323 p324 p325 (by omega)) z1 z2 u hs_u ⟨by omega, by omega⟩ ⟨by omega, by omega⟩ (by omega)
set_option maxHeartbeats 400000 in
set_option maxRecDepth 10000 in
theorem tfX12_layAlike_0 (x1 : Int32) (u : SX) (hI : IM u) (h0 : 0 ≤ x1.toInt ∧ x1.toInt ≤ 120) : Tot (fX12_layAlike_0 x1 u) (qX12_layAlike_0 u) := by
  unfold fX12_layAlike_0
  have hs_u : StM mdX12_layAlike_0 u u := StM_rf hI
  refine Tot_bind (tfX12_laySpansOf_0 x1 u hs_u.1 ⟨by omega, by omega⟩) (fun q hq => ?_)
  obtain ⟨r1, u2⟩ := q
  have hc_u2 : StM mdX12_laySpansOf_0 u u2 := hq.1
  have hs_u2 : StM mdX12_layAlike_0 u u2 := StM_tr hs_u hc_u2 (by decide)
  have : 0 ≤ r1.toInt ∧ r1.toInt ≤ 0 := hq.2.1
  clear hq
  refine Tot_lt (fun u4 e_u4 => ?_)
  have hs_u4 : StM mdX12_layAlike_0 u u4 := by rw [e_u4]; exact StM_sIf hs_u2 (by decide) rfl rfl
  exact tLX12_layAlike_0_12 u 5000 x1 0 u4 hs_u4 ⟨by omega, by omega⟩ (by show 0 ≤ (0 : Int) ∧ (0 : Int) ≤ 80; omega) (by show 80 - (0 : Int) < ((5000 : Nat) : Int); omega)

def mdX12_alike_0 : MD := ([0, 2, 4, 5, 6, 7, 8, 9, 10, 11, 16, 17, 18, 19, 20], [5, 16, 17, 18], [], [])
abbrev qX12_alike_0 (u : SX) (q : Int32 × SX) : Prop := StM mdX12_alike_0 u q.2 ∧ (True) ∧ (True)
set_option maxHeartbeats 400000 in
set_option maxRecDepth 10000 in
theorem tfX12_alike_0 (x1 : Int32) (x2 : Int32) (u : SX) (hI : IM u)  : Tot (fX12_alike_0 x1 x2 u) (qX12_alike_0 u) := by
  unfold fX12_alike_0
  have hs_u : StM mdX12_alike_0 u u := StM_rf hI
  refine Tot_lt (fun u1 e_u1 => ?_)
  have hs_u1 : StM mdX12_alike_0 u u1 := by rw [e_u1]; exact StM_sI hs_u (by decide) (by show 0 ≤ (0 : Int); omega) (by show (0 : Int) ≤ 1; omega)
  have : (u1.1 1).toInt = (u.1 1).toInt := by rw [e_u1]; rfl
  have : 0 ≤ (u.1 1).toInt ∧ (u.1 1).toInt ≤ 120 := hs_u.1.1 1
  refine Tot_bind (tfX12_isIn x1 0 (u1.1 1) (by show (-100000) ≤ (0 : Int) ∧ (0 : Int) ≤ 400; omega) ⟨by omega, by omega⟩) (fun r3 hq => ?_)
  have : 0 ≤ r3.toInt ∧ r3.toInt ≤ 1 := hq.1
  have : r3.toInt ≠ 0 → ((0 : Int) ≤ x1.toInt ∧ x1.toInt ≤ (u1.1 1).toInt) := hq.2
  clear hq
  refine Tot_ite (fun c327 => ?_) (fun c327 => ?_)
  · have : r3.toInt = (0 : Int) := eqI c327
    exact Tot_some ⟨hs_u1, trivial, trivial⟩
  · have : ¬ r3.toInt = (0 : Int) := neI c327
    refine Tot_bind (tfX12_isIn x2 0 1 (by show (-100000) ≤ (0 : Int) ∧ (0 : Int) ≤ 400; omega) (by show (-1) ≤ (1 : Int) ∧ (1 : Int) ≤ 100000; omega)) (fun r6 hq => ?_)
    have : 0 ≤ r6.toInt ∧ r6.toInt ≤ 1 := hq.1
    have : r6.toInt ≠ 0 → ((0 : Int) ≤ x2.toInt ∧ x2.toInt ≤ (1 : Int)) := hq.2
    clear hq
    refine Tot_ite (fun c328 => ?_) (fun c328 => ?_)
    · have : r6.toInt = (0 : Int) := eqI c328
      exact Tot_some ⟨hs_u1, trivial, trivial⟩
    · have : ¬ r6.toInt = (0 : Int) := neI c328
      refine Tot_bind (tfX12_layAlike_0 x1 u1 hs_u1.1 ⟨by omega, by omega⟩) (fun q hq => ?_)
      obtain ⟨r9, u10⟩ := q
      have hc_u10 : StM mdX12_layAlike_0 u1 u10 := hq.1
      have hs_u10 : StM mdX12_alike_0 u u10 := StM_tr hs_u1 hc_u10 (by decide)
      have : 0 ≤ r9.toInt ∧ r9.toInt ≤ 0 := hq.2.1
      clear hq
      refine Tot_ite (fun c329 => ?_) (fun c329 => ?_)
      · have : (u10.1 18).toInt = (0 : Int) := eqI c329
        exact Tot_some ⟨hs_u10, trivial, trivial⟩
      · refine Tot_ite (fun c330 => ?_) (fun c330 => ?_)
        · refine Tot_ite (fun c331 => ?_) (fun c331 => ?_)
          · have : x2.toInt = (0 : Int) := eqI c331
            exact Tot_some ⟨hs_u10, trivial, trivial⟩
          · have : ¬ x2.toInt = (0 : Int) := neI c331
            exact Tot_some ⟨hs_u10, trivial, trivial⟩
        · exact Tot_some ⟨hs_u10, trivial, trivial⟩

def mdX12_layMeans_0 : MD := ([2, 4, 5, 6, 7, 8, 9, 10, 11, 16, 17], [5, 16, 17, 18, 23], [], [22])
abbrev qX12_layMeans_0 (u : SX) (q : Int32 × SX) : Prop := StM mdX12_layMeans_0 u q.2 ∧ (0 ≤ q.1.toInt ∧ q.1.toInt ≤ 0) ∧ (True)
set_option maxHeartbeats 400000 in
set_option maxRecDepth 10000 in
theorem tLX12_layMeans_0_2 (u0 : SX)  {k28 : Int32 → Int32 → SX → Option (Int32 × SX)} (hk28 : ∀ (z1 : Int32) (z2 : Int32) (u : SX), (StM mdX12_layMeans_0 u0 u) → (0 ≤ z1.toInt ∧ z1.toInt ≤ 120) → (0 ≤ z2.toInt ∧ z2.toInt ≤ 5) → Tot (k28 z1 z2 u) (qX12_layMeans_0 u0)) : ∀ (n : Nat) (z1 : Int32) (z2 : Int32) (z3 : Int32) (u : SX), (StM mdX12_layMeans_0 u0 u) → (0 ≤ z1.toInt ∧ z1.toInt ≤ 120) → (0 ≤ z2.toInt ∧ z2.toInt ≤ 5) → (0 ≤ z3.toInt ∧ z3.toInt ≤ 41) → (41 - z3.toInt < (n : Int)) → Tot (LX12_layMeans_0_2 k28 n z1 z2 z3 u) (qX12_layMeans_0 u0) := by
  intro n
  induction n with
  | zero =>
    intro z1 z2 z3 u hs_u h0 h1 h2 hm
    exfalso
    omega
  | succ n ih =>
    intro z1 z2 z3 u hs_u h0 h1 h2 hm
    rw [LX12_layMeans_0_2]
    refine Tot_ite (fun c332 => ?_) (fun c332 => ?_)
    · have : (41 : Int) ≤ z3.toInt := leI c332
      exact hk28 z1 z2 u hs_u ⟨by omega, by omega⟩ ⟨by omega, by omega⟩
    · have : ¬ (41 : Int) ≤ z3.toInt := nleI c332
      refine Tot_gd (inb_t (by omega) (by omega)) ?_
      refine Tot_lt (fun u2 e_u2 => ?_)
      have hs_u2 : StM mdX12_layMeans_0 u0 u2 := by rw [e_u2]; exact StM_sB hs_u (by decide)
      refine Tot_gd (inb_t (by omega) (by omega)) ?_
      refine Tot_lt (fun u5 e_u5 => ?_)
      have hs_u5 : StM mdX12_layMeans_0 u0 u5 := by rw [e_u5]; exact StM_sAf hs_u2 (by decide) rfl rfl (by decide)
      have : (z3 + 1).toInt = z3.toInt + (1 : Int) := addc_t (by decide) (by omega) (by omega)
      exact ih z1 z2 (z3 + 1) u5 hs_u5 ⟨by omega, by omega⟩ ⟨by omega, by omega⟩ ⟨by omega, by omega⟩ (by omega)
set_option maxHeartbeats 400000 in
set_option maxRecDepth 10000 in
theorem tGX12_layMeans_0_103 (u0 : SX) (g35 : Int) {k35 : Int32 → Int32 → Int32 → SX → Option (Int32 × SX)} (hk35 : ∀ (z1 : Int32) (z2 : Int32) (z3 : Int32) (u : SX), (StM mdX12_layMeans_0 u0 u) → (0 ≤ z1.toInt ∧ z1.toInt ≤ 120) → (0 ≤ z2.toInt ∧ z2.toInt ≤ 5) → (0 ≤ z3.toInt ∧ z3.toInt ≤ 80) → (g35 < z3.toInt) → Tot (k35 z1 z2 z3 u) (qX12_layMeans_0 u0)) (z1 : Int32) (z2 : Int32) (z3 : Int32) (u : SX) (hs_u : StM mdX12_layMeans_0 u0 u) (h0 : 0 ≤ z1.toInt ∧ z1.toInt ≤ 120) (h1 : 0 ≤ z2.toInt ∧ z2.toInt ≤ 5) (h2 : 0 ≤ z3.toInt ∧ z3.toInt ≤ 79) (h3 : g35 ≤ z3.toInt) : Tot (GX12_layMeans_0_103 k35 z1 z2 z3 u) (qX12_layMeans_0 u0) := by
  unfold GX12_layMeans_0_103
  have : (z3 + 1).toInt = z3.toInt + (1 : Int) := addc_t (by decide) (by omega) (by omega)
  exact hk35 z1 z2 (z3 + 1) u hs_u ⟨by omega, by omega⟩ ⟨by omega, by omega⟩ ⟨by omega, by omega⟩ (by omega)
set_option maxHeartbeats 400000 in
set_option maxRecDepth 10000 in
theorem tLX12_layMeans_0_35 (u0 : SX)    : ∀ (n : Nat) (z1 : Int32) (z2 : Int32) (z3 : Int32) (u : SX), (StM mdX12_layMeans_0 u0 u) → (0 ≤ z1.toInt ∧ z1.toInt ≤ 120) → (0 ≤ z2.toInt ∧ z2.toInt ≤ 5) → (0 ≤ z3.toInt ∧ z3.toInt ≤ 80) → (80 - z3.toInt < (n : Int)) → Tot (LX12_layMeans_0_35 n z1 z2 z3 u) (qX12_layMeans_0 u0) := by
  intro n
  induction n with
  | zero =>
    intro z1 z2 z3 u hs_u h0 h1 h2 hm
    exfalso
    omega
  | succ n ih =>
    intro z1 z2 z3 u hs_u h0 h1 h2 hm
    rw [LX12_layMeans_0_35]
    have : 0 ≤ (u.1 15).toInt ∧ (u.1 15).toInt ≤ 80 := hs_u.1.1 15
    refine Tot_ite (fun c333 => ?_) (fun c333 => ?_)
    · have : (u.1 15).toInt ≤ z3.toInt := leI c333
      exact Tot_some ⟨hs_u, (by show 0 ≤ (0 : Int) ∧ (0 : Int) ≤ 0; omega), trivial⟩
    · have : ¬ (u.1 15).toInt ≤ z3.toInt := nleI c333
      refine Tot_gd (inb_t (by omega) (by omega)) ?_
      have : 0 ≤ (u.2.1 21 z3.toNatClampNeg).toInt ∧ (u.2.1 21 z3.toNatClampNeg).toInt ≤ 120 := hs_u.1.2.1 21 z3.toNatClampNeg
      refine Tot_ite (fun c334 => ?_) (fun c334 => ?_)
      · have : (u.2.1 21 z3.toNatClampNeg).toInt ≤ z1.toInt := leI c334
        refine Tot_bind (tfX12_layLeft_0 z3 z1 u hs_u.1 ⟨by omega, by omega⟩ ⟨by omega, by omega⟩) (fun q hq => ?_)
        obtain ⟨r11, u12⟩ := q
        have hc_u12 : StM mdX12_layLeft_0 u u12 := hq.1
        have hs_u12 : StM mdX12_layMeans_0 u0 u12 := StM_tr hs_u hc_u12 (by decide)
        have : 0 ≤ r11.toInt ∧ r11.toInt ≤ 0 := hq.2.1
        clear hq
        refine Tot_bind (tfX12_aimOf_0 z3 z2 u12 hs_u12.1 ⟨by omega, by omega⟩ ⟨by omega, by omega⟩) (fun q hq => ?_)
        obtain ⟨r14, u15⟩ := q
        have hc_u15 : StM mdX12_aimOf_0 u12 u15 := hq.1
        have hs_u15 : StM mdX12_layMeans_0 u0 u15 := StM_tr hs_u12 hc_u15 (by decide)
        have : 0 ≤ r14.toInt ∧ r14.toInt ≤ 40 := hq.2.1
        clear hq
        refine Tot_gd (inb_t (by omega) (by omega)) ?_
        refine Tot_gd (by decide) ?_
        refine Tot_gd (inb_t (by omega) (by omega)) ?_
        refine Tot_lt (fun u20 e_u20 => ?_)
        have hs_u20 : StM mdX12_layMeans_0 u0 u20 := by rw [e_u20]; exact StM_sB hs_u15 (by decide)
        refine Tot_gd (inb_t (by omega) (by omega)) ?_
        refine Tot_gd (inb_t (by omega) (by omega)) ?_
        refine Tot_lt (fun u24 e_u24 => ?_)
        have hs_u24 : StM mdX12_layMeans_0 u0 u24 := by rw [e_u24]; exact StM_sAf hs_u20 (by decide) rfl rfl (by decide)
        exact tGX12_layMeans_0_103 u0 (z3.toInt) (fun a335 a336 a337 w338 hw338 p339 p340 p341 p342 => ih a335 a336 a337 w338 hw338 p339 p340 p341 (by omega)) z1 z2 z3 u24 hs_u24 ⟨by omega, by omega⟩ ⟨by omega, by omega⟩ ⟨by omega, by omega⟩ (by omega)
      · have : ¬ (u.2.1 21 z3.toNatClampNeg).toInt ≤ z1.toInt := nleI c334
        exact tGX12_layMeans_0_103 u0 (z3.toInt) (fun a343 a344 a345 w346 hw346 p347 p348 p349 p350 => ih a343 a344 a345 w346 hw346 p347 p348 p349 (by omega)) z1 z2 z3 u hs_u ⟨by omega, by omega⟩ ⟨by omega, by omega⟩ ⟨by omega, by omega⟩ (by omega)
set_option maxHeartbeats 400000 in
set_option maxRecDepth 10000 in
theorem tGX12_layMeans_0_28 (u0 : SX)    (z1 : Int32) (z2 : Int32) (u : SX) (hs_u : StM mdX12_layMeans_0 u0 u) (h0 : 0 ≤ z1.toInt ∧ z1.toInt ≤ 120) (h1 : 0 ≤ z2.toInt ∧ z2.toInt ≤ 5) : Tot (GX12_layMeans_0_28 z1 z2 u) (qX12_layMeans_0 u0) := by
  unfold GX12_layMeans_0_28
  refine Tot_bind (tfX12_laySpansOf_0 z1 u hs_u.1 ⟨by omega, by omega⟩) (fun q hq => ?_)
  obtain ⟨r7, u8⟩ := q
  have hc_u8 : StM mdX12_laySpansOf_0 u u8 := hq.1
  have hs_u8 : StM mdX12_layMeans_0 u0 u8 := StM_tr hs_u hc_u8 (by decide)
  have : 0 ≤ r7.toInt ∧ r7.toInt ≤ 0 := hq.2.1
  clear hq
  exact tLX12_layMeans_0_35 u0 5000 z1 z2 0 u8 hs_u8 ⟨by omega, by omega⟩ ⟨by omega, by omega⟩ (by show 0 ≤ (0 : Int) ∧ (0 : Int) ≤ 80; omega) (by show 80 - (0 : Int) < ((5000 : Nat) : Int); omega)
set_option maxHeartbeats 400000 in
set_option maxRecDepth 10000 in
theorem tfX12_layMeans_0 (x1 : Int32) (x2 : Int32) (u : SX) (hI : IM u) (h0 : 0 ≤ x1.toInt ∧ x1.toInt ≤ 120) (h1 : 0 ≤ x2.toInt ∧ x2.toInt ≤ 5) : Tot (fX12_layMeans_0 x1 x2 u) (qX12_layMeans_0 u) := by
  unfold fX12_layMeans_0
  have hs_u : StM mdX12_layMeans_0 u u := StM_rf hI
  exact tLX12_layMeans_0_2 u (tGX12_layMeans_0_28 u) 5000 x1 x2 0 u hs_u ⟨by omega, by omega⟩ ⟨by omega, by omega⟩ (by show 0 ≤ (0 : Int) ∧ (0 : Int) ≤ 41; omega) (by show 41 - (0 : Int) < ((5000 : Nat) : Int); omega)

def mdX12_mean_0 : MD := ([], [], [], [])
abbrev qX12_mean_0 (u : SX) (q : Int32 × SX) : Prop := StM mdX12_mean_0 u q.2 ∧ (True) ∧ (True)
set_option maxHeartbeats 400000 in
set_option maxRecDepth 10000 in
theorem tfX12_mean_0 (x1 : Int32) (u : SX) (hI : IM u) (h0 : 0 ≤ x1.toInt ∧ x1.toInt ≤ 40) (h1 : (u.2.1 23 x1.toNatClampNeg).toInt ≠ 0) : Tot (fX12_mean_0 x1 u) (qX12_mean_0 u) := by
  unfold fX12_mean_0
  have hs_u : StM mdX12_mean_0 u u := StM_rf hI
  refine Tot_gd (inb_t (by omega) (by omega)) ?_
  refine Tot_gd (inb_t (by omega) (by omega)) ?_
  refine Tot_gd (nzL_t (by omega)) ?_
  exact Tot_some ⟨hs_u, trivial, trivial⟩

def mdX12_apart_0 : MD := ([], [], [], [])
abbrev qX12_apart_0 (u : SX) (q : Int32 × SX) : Prop := StM mdX12_apart_0 u q.2 ∧ (True) ∧ (True)
set_option maxHeartbeats 400000 in
set_option maxRecDepth 10000 in
theorem tGX12_apart_0_48 (u0 : SX) (g10 : Int) {k10 : Int32 → Int32 → Int32 → SX → Option (Int32 × SX)} (hk10 : ∀ (z1 : Int32) (z2 : Int32) (z3 : Int32) (u : SX), (StM mdX12_apart_0 u0 u) → ((-100000000) ≤ z1.toInt) → (z2.toInt ≤ 100000000) → (0 ≤ z3.toInt ∧ z3.toInt ≤ 41) → (g10 < z3.toInt) → Tot (k10 z1 z2 z3 u) (qX12_apart_0 u0)) (z1 : Int32) (z2 : Int32) (z3 : Int32) (u : SX) (hs_u : StM mdX12_apart_0 u0 u) (h0 : (-100000000) ≤ z1.toInt) (h1 : z2.toInt ≤ 100000000) (h2 : 0 ≤ z3.toInt ∧ z3.toInt ≤ 40) (h3 : g10 ≤ z3.toInt) : Tot (GX12_apart_0_48 k10 z1 z2 z3 u) (qX12_apart_0 u0) := by
  unfold GX12_apart_0_48
  have : (z3 + 1).toInt = z3.toInt + (1 : Int) := addc_t (by decide) (by omega) (by omega)
  exact hk10 z1 z2 (z3 + 1) u hs_u (by omega) (by omega) ⟨by omega, by omega⟩ (by omega)
set_option maxHeartbeats 400000 in
set_option maxRecDepth 10000 in
theorem tLX12_apart_0_10 (u0 : SX)    : ∀ (n : Nat) (z1 : Int32) (z2 : Int32) (z3 : Int32) (u : SX), (StM mdX12_apart_0 u0 u) → ((-100000000) ≤ z1.toInt) → (z2.toInt ≤ 100000000) → (0 ≤ z3.toInt ∧ z3.toInt ≤ 41) → (41 - z3.toInt < (n : Int)) → Tot (LX12_apart_0_10 n z1 z2 z3 u) (qX12_apart_0 u0) := by
  intro n
  induction n with
  | zero =>
    intro z1 z2 z3 u hs_u h0 h1 h2 hm
    exfalso
    omega
  | succ n ih =>
    intro z1 z2 z3 u hs_u h0 h1 h2 hm
    rw [LX12_apart_0_10]
    refine Tot_ite (fun c351 => ?_) (fun c351 => ?_)
    · have : (41 : Int) ≤ z3.toInt := leI c351
      exact Tot_some ⟨hs_u, trivial, trivial⟩
    · have : ¬ (41 : Int) ≤ z3.toInt := nleI c351
      refine Tot_gd (inb_t (by omega) (by omega)) ?_
      refine Tot_ite (fun c352 => ?_) (fun c352 => ?_)
      · have : (u.2.1 23 z3.toNatClampNeg).toInt = (0 : Int) := eqI c352
        exact tGX12_apart_0_48 u0 (z3.toInt) (fun a353 a354 a355 w356 hw356 p357 p358 p359 p360 => ih a353 a354 a355 w356 hw356 p357 p358 p359 (by omega)) z1 z2 z3 u hs_u (by omega) (by omega) ⟨by omega, by omega⟩ (by omega)
      · have : ¬ (u.2.1 23 z3.toNatClampNeg).toInt = (0 : Int) := neI c352
        refine Tot_bind (tfX12_mean_0 z3 u hs_u.1 ⟨by omega, by omega⟩ (by omega)) (fun q hq => ?_)
        obtain ⟨r2, u3⟩ := q
        have hc_u3 : StM mdX12_mean_0 u u3 := hq.1
        have hs_u3 : StM mdX12_apart_0 u0 u3 := StM_tr hs_u hc_u3 (by decide)
        clear hq
        have : (z1.toInt < r2.toInt ∧ (if z1 < r2 then r2 else z1).toInt = r2.toInt) ∨ (¬ z1.toInt < r2.toInt ∧ (if z1 < r2 then r2 else z1).toInt = z1.toInt) := ite_lt_t (x := z1) (y := r2) (p := r2) (q := z1)
        refine Tot_lt (fun v5 e_v5 => ?_)
        have : v5.toInt = (if z1 < r2 then r2 else z1).toInt := congrArg Int32.toInt e_v5
        have : (u3.2.1 23 z3.toNatClampNeg).toInt = (u.2.1 23 z3.toNatClampNeg).toInt := congrArg (fun f : Nat → Int32 => (f z3.toNatClampNeg).toInt) (hc_u3.2.2.1 23 (by decide))
        refine Tot_bind (tfX12_mean_0 z3 u3 hs_u3.1 ⟨by omega, by omega⟩ (by omega)) (fun q hq => ?_)
        obtain ⟨r7, u8⟩ := q
        have hc_u8 : StM mdX12_mean_0 u3 u8 := hq.1
        have hs_u8 : StM mdX12_apart_0 u0 u8 := StM_tr hs_u3 hc_u8 (by decide)
        clear hq
        have : (r7.toInt < z2.toInt ∧ (if r7 < z2 then r7 else z2).toInt = r7.toInt) ∨ (¬ r7.toInt < z2.toInt ∧ (if r7 < z2 then r7 else z2).toInt = z2.toInt) := ite_lt_t (x := r7) (y := z2) (p := r7) (q := z2)
        refine Tot_lt (fun v10 e_v10 => ?_)
        have : v10.toInt = (if r7 < z2 then r7 else z2).toInt := congrArg Int32.toInt e_v10
        exact tGX12_apart_0_48 u0 (z3.toInt) (fun a361 a362 a363 w364 hw364 p365 p366 p367 p368 => ih a361 a362 a363 w364 hw364 p365 p366 p367 (by omega)) v5 v10 z3 u8 hs_u8 (by omega) (by omega) ⟨by omega, by omega⟩ (by omega)
set_option maxHeartbeats 400000 in
set_option maxRecDepth 10000 in
theorem tfX12_apart_0  (u : SX) (hI : IM u)  : Tot (fX12_apart_0  u) (qX12_apart_0 u) := by
  unfold fX12_apart_0
  have hs_u : StM mdX12_apart_0 u u := StM_rf hI
  exact tLX12_apart_0_10 u 5000 (-100000000) 100000000 0 u hs_u (by show (-100000000) ≤ (-100000000 : Int); omega) (by show (100000000 : Int) ≤ 100000000; omega) (by show 0 ≤ (0 : Int) ∧ (0 : Int) ≤ 41; omega) (by show 41 - (0 : Int) < ((5000 : Nat) : Int); omega)

def mdX12_goes_0 : MD := ([0, 2, 4, 5, 6, 7, 8, 9, 10, 11, 16, 17, 18, 19, 20], [5, 16, 17, 18, 23], [], [22])
abbrev qX12_goes_0 (u : SX) (q : Int32 × SX) : Prop := StM mdX12_goes_0 u q.2 ∧ (True) ∧ (True)
set_option maxHeartbeats 400000 in
set_option maxRecDepth 10000 in
theorem tfX12_goes_0 (x1 : Int32) (x2 : Int32) (u : SX) (hI : IM u)  : Tot (fX12_goes_0 x1 x2 u) (qX12_goes_0 u) := by
  unfold fX12_goes_0
  have hs_u : StM mdX12_goes_0 u u := StM_rf hI
  refine Tot_lt (fun u1 e_u1 => ?_)
  have hs_u1 : StM mdX12_goes_0 u u1 := by rw [e_u1]; exact StM_sI hs_u (by decide) (by show 0 ≤ (0 : Int); omega) (by show (0 : Int) ≤ 1; omega)
  have : (u1.1 1).toInt = (u.1 1).toInt := by rw [e_u1]; rfl
  have : 0 ≤ (u.1 1).toInt ∧ (u.1 1).toInt ≤ 120 := hs_u.1.1 1
  refine Tot_bind (tfX12_isIn x1 0 (u1.1 1) (by show (-100000) ≤ (0 : Int) ∧ (0 : Int) ≤ 400; omega) ⟨by omega, by omega⟩) (fun r3 hq => ?_)
  have : 0 ≤ r3.toInt ∧ r3.toInt ≤ 1 := hq.1
  have : r3.toInt ≠ 0 → ((0 : Int) ≤ x1.toInt ∧ x1.toInt ≤ (u1.1 1).toInt) := hq.2
  clear hq
  refine Tot_ite (fun c369 => ?_) (fun c369 => ?_)
  · have : r3.toInt = (0 : Int) := eqI c369
    exact Tot_some ⟨hs_u1, trivial, trivial⟩
  · have : ¬ r3.toInt = (0 : Int) := neI c369
    refine Tot_bind (tfX12_isIn x2 0 5 (by show (-100000) ≤ (0 : Int) ∧ (0 : Int) ≤ 400; omega) (by show (-1) ≤ (5 : Int) ∧ (5 : Int) ≤ 100000; omega)) (fun r6 hq => ?_)
    have : 0 ≤ r6.toInt ∧ r6.toInt ≤ 1 := hq.1
    have : r6.toInt ≠ 0 → ((0 : Int) ≤ x2.toInt ∧ x2.toInt ≤ (5 : Int)) := hq.2
    clear hq
    refine Tot_ite (fun c370 => ?_) (fun c370 => ?_)
    · have : r6.toInt = (0 : Int) := eqI c370
      exact Tot_some ⟨hs_u1, trivial, trivial⟩
    · have : ¬ r6.toInt = (0 : Int) := neI c370
      refine Tot_bind (tfX12_layAlike_0 x1 u1 hs_u1.1 ⟨by omega, by omega⟩) (fun q hq => ?_)
      obtain ⟨r9, u10⟩ := q
      have hc_u10 : StM mdX12_layAlike_0 u1 u10 := hq.1
      have hs_u10 : StM mdX12_goes_0 u u10 := StM_tr hs_u1 hc_u10 (by decide)
      have : 0 ≤ r9.toInt ∧ r9.toInt ≤ 0 := hq.2.1
      clear hq
      refine Tot_ite (fun c371 => ?_) (fun c371 => ?_)
      · have : (u10.1 18).toInt = (0 : Int) := eqI c371
        exact Tot_some ⟨hs_u10, trivial, trivial⟩
      · refine Tot_bind (tfX12_layMeans_0 x1 x2 u10 hs_u10.1 ⟨by omega, by omega⟩ ⟨by omega, by omega⟩) (fun q hq => ?_)
        obtain ⟨r12, u13⟩ := q
        have hc_u13 : StM mdX12_layMeans_0 u10 u13 := hq.1
        have hs_u13 : StM mdX12_goes_0 u u13 := StM_tr hs_u10 hc_u13 (by decide)
        have : 0 ≤ r12.toInt ∧ r12.toInt ≤ 0 := hq.2.1
        clear hq
        refine Tot_bind (tfX12_apart_0 u13 hs_u13.1) (fun q hq => ?_)
        obtain ⟨r15, u16⟩ := q
        have hc_u16 : StM mdX12_apart_0 u13 u16 := hq.1
        have hs_u16 : StM mdX12_goes_0 u u16 := StM_tr hs_u13 hc_u16 (by decide)
        clear hq
        exact Tot_some ⟨hs_u16, trivial, trivial⟩

def mdX12_even_0 : MD := ([0, 2, 4, 5, 6, 7, 8, 9, 10, 11, 16, 17], [5, 16, 17, 18, 23], [], [22])
abbrev qX12_even_0 (u : SX) (q : Int32 × SX) : Prop := StM mdX12_even_0 u q.2 ∧ (True) ∧ (True)
set_option maxHeartbeats 400000 in
set_option maxRecDepth 10000 in
theorem tGX12_even_0_153 (u0 : SX) (g99 : Int) {k99 : Int32 → Int32 → SX → Option (Int32 × SX)} (hk99 : ∀ (z3 : Int32) (z4 : Int32) (u : SX), (StM mdX12_even_0 u0 u) → (0 ≤ z4.toInt ∧ z4.toInt ≤ 8) → (g99 < z4.toInt) → Tot (k99 z3 z4 u) (qX12_even_0 u0)) (z3 : Int32) (z4 : Int32) (u : SX) (hs_u : StM mdX12_even_0 u0 u) (h0 : 0 ≤ z4.toInt ∧ z4.toInt ≤ 7) (h1 : g99 ≤ z4.toInt) : Tot (GX12_even_0_153 k99 z3 z4 u) (qX12_even_0 u0) := by
  unfold GX12_even_0_153
  have : (z4 + 1).toInt = z4.toInt + (1 : Int) := addc_t (by decide) (by omega) (by omega)
  exact hk99 z3 (z4 + 1) u hs_u ⟨by omega, by omega⟩ (by omega)
set_option maxHeartbeats 400000 in
set_option maxRecDepth 10000 in
theorem tLX12_even_0_99 (u0 : SX)    : ∀ (n : Nat) (z3 : Int32) (z4 : Int32) (u : SX), (StM mdX12_even_0 u0 u) → (0 ≤ z4.toInt ∧ z4.toInt ≤ 8) → (8 - z4.toInt < (n : Int)) → Tot (LX12_even_0_99 n z3 z4 u) (qX12_even_0 u0) := by
  intro n
  induction n with
  | zero =>
    intro z3 z4 u hs_u h0 hm
    exfalso
    omega
  | succ n ih =>
    intro z3 z4 u hs_u h0 hm
    rw [LX12_even_0_99]
    refine Tot_ite (fun c372 => ?_) (fun c372 => ?_)
    · have : (8 : Int) ≤ z4.toInt := leI c372
      exact Tot_some ⟨hs_u, trivial, trivial⟩
    · have : ¬ (8 : Int) ≤ z4.toInt := nleI c372
      refine Tot_gd (inb_t (by omega) (by omega)) ?_
      refine Tot_ite (fun c373 => ?_) (fun c373 => ?_)
      · have : (u.2.1 23 z4.toNatClampNeg).toInt ≤ (0 : Int) := leI c373
        exact tGX12_even_0_153 u0 (z4.toInt) (fun a374 a375 w376 hw376 p377 p378 => ih a374 a375 w376 hw376 p377 (by omega)) z3 z4 u hs_u ⟨by omega, by omega⟩ (by omega)
      · have : ¬ (u.2.1 23 z4.toNatClampNeg).toInt ≤ (0 : Int) := nleI c373
        have : (z4 + 8).toInt = z4.toInt + (8 : Int) := addc_t (by decide) (by omega) (by omega)
        refine Tot_gd (inb_t (by omega) (by omega)) ?_
        refine Tot_ite (fun c379 => ?_) (fun c379 => ?_)
        · have : (u.2.1 23 ((z4 + 8)).toNatClampNeg).toInt ≤ (0 : Int) := leI c379
          exact tGX12_even_0_153 u0 (z4.toInt) (fun a380 a381 w382 hw382 p383 p384 => ih a380 a381 w382 hw382 p383 (by omega)) z3 z4 u hs_u ⟨by omega, by omega⟩ (by omega)
        · have : ¬ (u.2.1 23 ((z4 + 8)).toNatClampNeg).toInt ≤ (0 : Int) := nleI c379
          refine Tot_bind (tfX12_mean_0 z4 u hs_u.1 ⟨by omega, by omega⟩ (by omega)) (fun q hq => ?_)
          obtain ⟨r14, u15⟩ := q
          have hc_u15 : StM mdX12_mean_0 u u15 := hq.1
          have hs_u15 : StM mdX12_even_0 u0 u15 := StM_tr hs_u hc_u15 (by decide)
          clear hq
          have : (u15.2.1 23 (z4 + 8).toNatClampNeg).toInt = (u.2.1 23 (z4 + 8).toNatClampNeg).toInt := congrArg (fun f : Nat → Int32 => (f (z4 + 8).toNatClampNeg).toInt) (hc_u15.2.2.1 23 (by decide))
          refine Tot_bind (tfX12_mean_0 (z4 + 8) u15 hs_u15.1 ⟨by omega, by omega⟩ (by omega)) (fun q hq => ?_)
          obtain ⟨r17, u18⟩ := q
          have hc_u18 : StM mdX12_mean_0 u15 u18 := hq.1
          have hs_u18 : StM mdX12_even_0 u0 u18 := StM_tr hs_u15 hc_u18 (by decide)
          clear hq
          have : ((0 : Int) ≤ (r14 - r17).toInt ∧ (if 0 ≤ (r14 - r17) then (r14 - r17) else (0 - (r14 - r17))).toInt = (r14 - r17).toInt) ∨ (¬ (0 : Int) ≤ (r14 - r17).toInt ∧ (if 0 ≤ (r14 - r17) then (r14 - r17) else (0 - (r14 - r17))).toInt = (0 - (r14 - r17)).toInt) := ite_le_t (x := 0) (y := (r14 - r17)) (p := (r14 - r17)) (q := (0 - (r14 - r17)))
          have : (z3.toInt < (if 0 ≤ (r14 - r17) then (r14 - r17) else (0 - (r14 - r17))).toInt ∧ (if z3 < (if 0 ≤ (r14 - r17) then (r14 - r17) else (0 - (r14 - r17))) then (if 0 ≤ (r14 - r17) then (r14 - r17) else (0 - (r14 - r17))) else z3).toInt = (if 0 ≤ (r14 - r17) then (r14 - r17) else (0 - (r14 - r17))).toInt) ∨ (¬ z3.toInt < (if 0 ≤ (r14 - r17) then (r14 - r17) else (0 - (r14 - r17))).toInt ∧ (if z3 < (if 0 ≤ (r14 - r17) then (r14 - r17) else (0 - (r14 - r17))) then (if 0 ≤ (r14 - r17) then (r14 - r17) else (0 - (r14 - r17))) else z3).toInt = z3.toInt) := ite_lt_t (x := z3) (y := (if 0 ≤ (r14 - r17) then (r14 - r17) else (0 - (r14 - r17)))) (p := (if 0 ≤ (r14 - r17) then (r14 - r17) else (0 - (r14 - r17)))) (q := z3)
          refine Tot_lt (fun v20 e_v20 => ?_)
          exact tGX12_even_0_153 u0 (z4.toInt) (fun a385 a386 w387 hw387 p388 p389 => ih a385 a386 w387 hw387 p388 (by omega)) v20 z4 u18 hs_u18 ⟨by omega, by omega⟩ (by omega)
set_option maxHeartbeats 400000 in
set_option maxRecDepth 10000 in
theorem tGX12_even_0_68 (u0 : SX) (g45 : Int) {k45 : Int32 → Int32 → SX → Option (Int32 × SX)} (hk45 : ∀ (z3 : Int32) (z4 : Int32) (u : SX), (StM mdX12_even_0 u0 u) → (0 ≤ z4.toInt ∧ z4.toInt ≤ 16) → (g45 < z4.toInt) → Tot (k45 z3 z4 u) (qX12_even_0 u0)) (z4 : Int32) (y0 : Int32) (y1 : Int32) (u : SX) (hs_u : StM mdX12_even_0 u0 u) (h0 : 0 ≤ z4.toInt ∧ z4.toInt ≤ 15) (h1 : 0 ≤ y0.toInt ∧ y0.toInt ≤ 1) (h2 : g45 ≤ z4.toInt) : Tot (GX12_even_0_68 k45 z4 y0 y1 u) (qX12_even_0 u0) := by
  unfold GX12_even_0_68
  refine Tot_lt (fun v23 e_v23 => ?_)
  have : (z4 + 1).toInt = z4.toInt + (1 : Int) := addc_t (by decide) (by omega) (by omega)
  exact hk45 v23 (z4 + 1) u hs_u ⟨by omega, by omega⟩ (by omega)
set_option maxHeartbeats 400000 in
set_option maxRecDepth 10000 in
theorem tLX12_even_0_45 (u0 : SX)  {k76 : Int32 → SX → Option (Int32 × SX)} (hk76 : ∀ (z3 : Int32) (u : SX), (StM mdX12_even_0 u0 u) → Tot (k76 z3 u) (qX12_even_0 u0)) : ∀ (n : Nat) (z3 : Int32) (z4 : Int32) (u : SX), (StM mdX12_even_0 u0 u) → (0 ≤ z4.toInt ∧ z4.toInt ≤ 16) → (16 - z4.toInt < (n : Int)) → Tot (LX12_even_0_45 k76 n z3 z4 u) (qX12_even_0 u0) := by
  intro n
  induction n with
  | zero =>
    intro z3 z4 u hs_u h0 hm
    exfalso
    omega
  | succ n ih =>
    intro z3 z4 u hs_u h0 hm
    rw [LX12_even_0_45]
    refine Tot_ite (fun c390 => ?_) (fun c390 => ?_)
    · have : (16 : Int) ≤ z4.toInt := leI c390
      exact hk76 z3 u hs_u
    · have : ¬ (16 : Int) ≤ z4.toInt := nleI c390
      refine Tot_gd (inb_t (by omega) (by omega)) ?_
      refine Tot_ite (fun c391 => ?_) (fun c391 => ?_)
      · have : (u.2.1 23 z4.toNatClampNeg).toInt ≤ (0 : Int) := leI c391
        exact tGX12_even_0_68 u0 (z4.toInt) (fun a392 a393 w394 hw394 p395 p396 => ih a392 a393 w394 hw394 p395 (by omega)) z4 0 z3 u hs_u ⟨by omega, by omega⟩ (by show 0 ≤ (0 : Int) ∧ (0 : Int) ≤ 1; omega) (by omega)
      · have : ¬ (u.2.1 23 z4.toNatClampNeg).toInt ≤ (0 : Int) := nleI c391
        exact tGX12_even_0_68 u0 (z4.toInt) (fun a397 a398 w399 hw399 p400 p401 => ih a397 a398 w399 hw399 p400 (by omega)) z4 1 z3 u hs_u ⟨by omega, by omega⟩ (by show 0 ≤ (1 : Int) ∧ (1 : Int) ≤ 1; omega) (by omega)
set_option maxHeartbeats 400000 in
set_option maxRecDepth 10000 in
theorem tGX12_even_0_76 (u0 : SX)    (z3 : Int32) (u : SX) (hs_u : StM mdX12_even_0 u0 u)  : Tot (GX12_even_0_76 z3 u) (qX12_even_0 u0) := by
  unfold GX12_even_0_76
  refine Tot_ite (fun c402 => ?_) (fun c402 => ?_)
  · have : (2 : Int) ≤ z3.toInt := leI c402
    refine Tot_bind (tfX12_apart_0 u hs_u.1) (fun q hq => ?_)
    obtain ⟨r25, u26⟩ := q
    have hc_u26 : StM mdX12_apart_0 u u26 := hq.1
    have hs_u26 : StM mdX12_even_0 u0 u26 := StM_tr hs_u hc_u26 (by decide)
    clear hq
    exact Tot_some ⟨hs_u26, trivial, trivial⟩
  · have : ¬ (2 : Int) ≤ z3.toInt := nleI c402
    exact Tot_some ⟨hs_u, trivial, trivial⟩
set_option maxHeartbeats 400000 in
set_option maxRecDepth 10000 in
theorem tfX12_even_0 (x1 : Int32) (x2 : Int32) (u : SX) (hI : IM u)  : Tot (fX12_even_0 x1 x2 u) (qX12_even_0 u) := by
  unfold fX12_even_0
  have hs_u : StM mdX12_even_0 u u := StM_rf hI
  refine Tot_lt (fun u1 e_u1 => ?_)
  have hs_u1 : StM mdX12_even_0 u u1 := by rw [e_u1]; exact StM_sI hs_u (by decide) (by show 0 ≤ (0 : Int); omega) (by show (0 : Int) ≤ 1; omega)
  have : (u1.1 1).toInt = (u.1 1).toInt := by rw [e_u1]; rfl
  have : 0 ≤ (u.1 1).toInt ∧ (u.1 1).toInt ≤ 120 := hs_u.1.1 1
  refine Tot_bind (tfX12_isIn x1 0 (u1.1 1) (by show (-100000) ≤ (0 : Int) ∧ (0 : Int) ≤ 400; omega) ⟨by omega, by omega⟩) (fun r3 hq => ?_)
  have : 0 ≤ r3.toInt ∧ r3.toInt ≤ 1 := hq.1
  have : r3.toInt ≠ 0 → ((0 : Int) ≤ x1.toInt ∧ x1.toInt ≤ (u1.1 1).toInt) := hq.2
  clear hq
  refine Tot_ite (fun c403 => ?_) (fun c403 => ?_)
  · have : r3.toInt = (0 : Int) := eqI c403
    exact Tot_some ⟨hs_u1, trivial, trivial⟩
  · have : ¬ r3.toInt = (0 : Int) := neI c403
    refine Tot_bind (tfX12_isIn x2 0 1 (by show (-100000) ≤ (0 : Int) ∧ (0 : Int) ≤ 400; omega) (by show (-1) ≤ (1 : Int) ∧ (1 : Int) ≤ 100000; omega)) (fun r6 hq => ?_)
    have : 0 ≤ r6.toInt ∧ r6.toInt ≤ 1 := hq.1
    have : r6.toInt ≠ 0 → ((0 : Int) ≤ x2.toInt ∧ x2.toInt ≤ (1 : Int)) := hq.2
    clear hq
    refine Tot_ite (fun c404 => ?_) (fun c404 => ?_)
    · have : r6.toInt = (0 : Int) := eqI c404
      exact Tot_some ⟨hs_u1, trivial, trivial⟩
    · have : ¬ r6.toInt = (0 : Int) := neI c404
      refine Tot_bind (tfX12_layMeans_0 x1 0 u1 hs_u1.1 ⟨by omega, by omega⟩ (by show 0 ≤ (0 : Int) ∧ (0 : Int) ≤ 5; omega)) (fun q hq => ?_)
      obtain ⟨r9, u10⟩ := q
      have hc_u10 : StM mdX12_layMeans_0 u1 u10 := hq.1
      have hs_u10 : StM mdX12_even_0 u u10 := StM_tr hs_u1 hc_u10 (by decide)
      have : 0 ≤ r9.toInt ∧ r9.toInt ≤ 0 := hq.2.1
      clear hq
      refine Tot_ite (fun c405 => ?_) (fun c405 => ?_)
      · have : x2.toInt = (0 : Int) := eqI c405
        exact tLX12_even_0_45 u (tGX12_even_0_76 u) 5000 0 0 u10 hs_u10 (by show 0 ≤ (0 : Int) ∧ (0 : Int) ≤ 16; omega) (by show 16 - (0 : Int) < ((5000 : Nat) : Int); omega)
      · have : ¬ x2.toInt = (0 : Int) := neI c405
        exact tLX12_even_0_99 u 5000 (-100000000) 0 u10 hs_u10 (by show 0 ≤ (0 : Int) ∧ (0 : Int) ≤ 8; omega) (by show 8 - (0 : Int) < ((5000 : Nat) : Int); omega)
