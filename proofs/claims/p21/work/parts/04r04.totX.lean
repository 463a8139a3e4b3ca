def mdX2_has_11 : MD := ([], [], [], [])
abbrev qX2_has_11 (x1 : Int32) (u : SX) (q : Int32 × SX) : Prop := StX mdX2_has_11 u q.2 ∧ (0 ≤ q.1.toInt ∧ q.1.toInt ≤ 1) ∧ ((q.1.toInt ≠ 0 → ((0 : Int) ≤ x1.toInt ∧ x1.toInt < (u.1 35).toInt)))
set_option maxHeartbeats 400000 in
set_option maxRecDepth 10000 in
theorem tfX2_has_11 (x1 : Int32) (u : SX) (hI : IX u)  : Tot (fX2_has_11 x1 u) (qX2_has_11 x1 u) := by
  unfold fX2_has_11
  have hs_u : StX mdX2_has_11 u u := StX_rf hI
  refine Tot_ite (fun c965 => ?_) (fun c965 => ?_)
  · have : x1.toInt < (0 : Int) := ltI c965
    refine Tot_gd (by decide) ?_
    have : 0 ≤ (u.1 35).toInt ∧ (u.1 35).toInt ≤ 8 := hs_u.1.1 35
    exact Tot_some ⟨hs_u, (by show 0 ≤ (0 : Int) ∧ (0 : Int) ≤ 1; omega), (by show (0 : Int) ≠ 0 → ((0 : Int) ≤ x1.toInt ∧ x1.toInt < (u.1 35).toInt); omega)⟩
  · have : ¬ x1.toInt < (0 : Int) := nltI c965
    have : 0 ≤ (u.1 35).toInt ∧ (u.1 35).toInt ≤ 8 := hs_u.1.1 35
    refine Tot_ite (fun c966 => ?_) (fun c966 => ?_)
    · have : (u.1 35).toInt ≤ x1.toInt := leI c966
      refine Tot_gd (by decide) ?_
      exact Tot_some ⟨hs_u, (by show 0 ≤ (0 : Int) ∧ (0 : Int) ≤ 1; omega), (by show (0 : Int) ≠ 0 → ((0 : Int) ≤ x1.toInt ∧ x1.toInt < (u.1 35).toInt); omega)⟩
    · have : ¬ (u.1 35).toInt ≤ x1.toInt := nleI c966
      refine Tot_gd (by decide) ?_
      exact Tot_some ⟨hs_u, (by show 0 ≤ (1 : Int) ∧ (1 : Int) ≤ 1; omega), (by show (1 : Int) ≠ 0 → ((0 : Int) ≤ x1.toInt ∧ x1.toInt < (u.1 35).toInt); omega)⟩

abbrev qX2_paperBit (q : Int64) : Prop := (True) ∧ (True)
set_option maxHeartbeats 400000 in
set_option maxRecDepth 10000 in
theorem tfX2_paperBit (x0 : Int32) (h0 : 0 ≤ x0.toInt ∧ x0.toInt ≤ 39) : Tot (fX2_paperBit x0) (qX2_paperBit ) := by
  unfold fX2_paperBit
  exact Tot_some ⟨trivial, trivial⟩

abbrev qX2_printBit (q : Int64) : Prop := (True) ∧ (True)
set_option maxHeartbeats 400000 in
set_option maxRecDepth 10000 in
theorem tfX2_printBit (x0 : Int32) (h0 : 0 ≤ x0.toInt ∧ x0.toInt ≤ 39) : Tot (fX2_printBit x0) (qX2_printBit ) := by
  unfold fX2_printBit
  exact Tot_some ⟨trivial, trivial⟩

def mdX2_compare_11 : MD := ([], [], [0], [68])
abbrev qX2_compare_11 (u : SX) (q : Int32 × SX) : Prop := StX mdX2_compare_11 u q.2 ∧ (0 ≤ q.1.toInt ∧ q.1.toInt ≤ 0) ∧ (True)
set_option maxHeartbeats 400000 in
set_option maxRecDepth 10000 in
theorem tGX2_compare_11_35 (u0 : SX)    (z1 : Int32) (z2 : Int32) (y0 : Int32) (u : SX) (hs_u : StX mdX2_compare_11 u0 u) (h0 : 0 ≤ z1.toInt ∧ z1.toInt ≤ 39) (h1 : 0 ≤ z2.toInt ∧ z2.toInt ≤ 19) (h2 : 0 ≤ y0.toInt ∧ y0.toInt ≤ 1) : Tot (GX2_compare_11_35 z1 z2 y0 u) (qX2_compare_11 u0) := by
  unfold GX2_compare_11_35
  refine Tot_gd (inb_t (by omega) (by omega)) ?_
  have : (-400) ≤ (u.2.1 63 z1.toNatClampNeg).toInt ∧ (u.2.1 63 z1.toNatClampNeg).toInt ≤ 400 := hs_u.1.2.1 63 z1.toNatClampNeg
  refine Tot_ite (fun c967 => ?_) (fun c967 => ?_)
  · have : (u.2.1 63 z1.toNatClampNeg).toInt ≤ (0 : Int) := leI c967
    exact Tot_some ⟨hs_u, (by show 0 ≤ (0 : Int) ∧ (0 : Int) ≤ 0; omega), trivial⟩
  · have : ¬ (u.2.1 63 z1.toNatClampNeg).toInt ≤ (0 : Int) := nleI c967
    refine Tot_ite (fun c968 => ?_) (fun c968 => ?_)
    · have : y0.toInt = (0 : Int) := eqI c968
      exact Tot_some ⟨hs_u, (by show 0 ≤ (0 : Int) ∧ (0 : Int) ≤ 0; omega), trivial⟩
    · have : ¬ y0.toInt = (0 : Int) := neI c968
      refine Tot_gd (inb_t (by omega) (by omega)) ?_
      refine Tot_bind (tfX2_paperBit z2 ⟨by omega, by omega⟩) (fun r5 hq => ?_)
      refine Tot_gd (inb_t (by omega) (by omega)) ?_
      refine Tot_lt (fun u9 e_u9 => ?_)
      have hs_u9 : StX mdX2_compare_11 u0 u9 := by rw [e_u9]; exact StX_sB hs_u (by decide)
      refine Tot_bind (tfX2_printBit z1 ⟨by omega, by omega⟩) (fun r11 hq => ?_)
      refine Tot_bind (tfX2_paperBit z2 ⟨by omega, by omega⟩) (fun r14 hq => ?_)
      refine Tot_lt (fun u17 e_u17 => ?_)
      have hs_u17 : StX mdX2_compare_11 u0 u17 := by rw [e_u17]; exact StX_sJ hs_u9 (by decide)
      exact Tot_some ⟨hs_u17, (by show 0 ≤ (0 : Int) ∧ (0 : Int) ≤ 0; omega), trivial⟩
set_option maxHeartbeats 400000 in
set_option maxRecDepth 10000 in
theorem tGX2_compare_11_34 (u0 : SX)    (z1 : Int32) (z2 : Int32) (u : SX) (hs_u : StX mdX2_compare_11 u0 u) (h0 : 0 ≤ z1.toInt ∧ z1.toInt ≤ 39) (h1 : 0 ≤ z2.toInt ∧ z2.toInt ≤ 19) : Tot (GX2_compare_11_34 z1 z2 u) (qX2_compare_11 u0) := by
  unfold GX2_compare_11_34
  exact tGX2_compare_11_35 u0 z1 z2 0 u hs_u ⟨by omega, by omega⟩ ⟨by omega, by omega⟩ (by show 0 ≤ (0 : Int) ∧ (0 : Int) ≤ 1; omega)
set_option maxHeartbeats 400000 in
set_option maxRecDepth 10000 in
theorem tfX2_compare_11 (x1 : Int32) (x2 : Int32) (u : SX) (hI : IX u) (h0 : 0 ≤ x1.toInt ∧ x1.toInt ≤ 39) (h1 : 0 ≤ x2.toInt ∧ x2.toInt ≤ 19) : Tot (fX2_compare_11 x1 x2 u) (qX2_compare_11 u) := by
  unfold fX2_compare_11
  have hs_u : StX mdX2_compare_11 u u := StX_rf hI
  refine Tot_gd (inb_t (by omega) (by omega)) ?_
  refine Tot_gd (inb_t (by omega) (by omega)) ?_
  have : (-400) ≤ (u.2.1 67 x2.toNatClampNeg).toInt ∧ (u.2.1 67 x2.toNatClampNeg).toInt ≤ 400 := hs_u.1.2.1 67 x2.toNatClampNeg
  have : (-400) ≤ (u.2.1 63 x1.toNatClampNeg).toInt ∧ (u.2.1 63 x1.toNatClampNeg).toInt ≤ 400 := hs_u.1.2.1 63 x1.toNatClampNeg
  refine Tot_ite (fun c969 => ?_) (fun c969 => ?_)
  · have : (u.2.1 67 x2.toNatClampNeg).toInt < (u.2.1 63 x1.toNatClampNeg).toInt := ltI c969
    exact tGX2_compare_11_34 u x1 x2 u hs_u ⟨by omega, by omega⟩ ⟨by omega, by omega⟩
  · have : ¬ (u.2.1 67 x2.toNatClampNeg).toInt < (u.2.1 63 x1.toNatClampNeg).toInt := nltI c969
    refine Tot_gd (inb_t (by omega) (by omega)) ?_
    refine Tot_gd (inb_t (by omega) (by omega)) ?_
    have : (-400) ≤ (u.2.1 64 x1.toNatClampNeg).toInt ∧ (u.2.1 64 x1.toNatClampNeg).toInt ≤ 400 := hs_u.1.2.1 64 x1.toNatClampNeg
    have : (-400) ≤ (u.2.1 66 x2.toNatClampNeg).toInt ∧ (u.2.1 66 x2.toNatClampNeg).toInt ≤ 400 := hs_u.1.2.1 66 x2.toNatClampNeg
    refine Tot_ite (fun c970 => ?_) (fun c970 => ?_)
    · have : (u.2.1 64 x1.toNatClampNeg).toInt < (u.2.1 66 x2.toNatClampNeg).toInt := ltI c970
      exact tGX2_compare_11_34 u x1 x2 u hs_u ⟨by omega, by omega⟩ ⟨by omega, by omega⟩
    · have : ¬ (u.2.1 64 x1.toNatClampNeg).toInt < (u.2.1 66 x2.toNatClampNeg).toInt := nltI c970
      exact tGX2_compare_11_35 u x1 x2 1 u hs_u ⟨by omega, by omega⟩ ⟨by omega, by omega⟩ (by show 0 ≤ (1 : Int) ∧ (1 : Int) ≤ 1; omega)

def mdX2_tell_11 : MD := ([39], [59], [], [69])
abbrev qX2_tell_11 (u : SX) (q : Int32 × SX) : Prop := StX mdX2_tell_11 u q.2 ∧ (0 ≤ q.1.toInt ∧ q.1.toInt ≤ 0) ∧ (True)
set_option maxHeartbeats 400000 in
set_option maxRecDepth 10000 in
theorem tfX2_tell_11 (x1 : Int32) (x2 : Int64) (x4 : Int32) (u : SX) (hI : IX u) (h0 : 0 ≤ x1.toInt ∧ x1.toInt ≤ 7) (h1 : 0 ≤ x4.toInt ∧ x4.toInt ≤ 120) : Tot (fX2_tell_11 x1 x2 x4 u) (qX2_tell_11 u) := by
  unfold fX2_tell_11
  have hs_u : StX mdX2_tell_11 u u := StX_rf hI
  have : (x4 * 8).toInt = x4.toInt * 8 := mulc_t (by decide) (by omega) (by omega)
  have : ((x4 * 8) + x1).toInt = (x4 * 8).toInt + x1.toInt := add_t (by omega) (by omega)
  refine Tot_gd (inb_t (by omega) (by omega)) ?_
  refine Tot_gd (inb_t (by omega) (by omega)) ?_
  refine Tot_lt (fun u3 e_u3 => ?_)
  have hs_u3 : StX mdX2_tell_11 u u3 := by rw [e_u3]; exact StX_sB hs_u (by decide)
  refine Tot_gd (inb_t (by omega) (by omega)) ?_
  have := narz_t 1
  refine Tot_lt (fun u6 e_u6 => ?_)
  have hs_u6 : StX mdX2_tell_11 u u6 := by rw [e_u6]; exact StX_sA hs_u3 (by decide) (by show 0 ≤ (vp_nar .boolean 1).toInt; omega) (by show (vp_nar .boolean 1).toInt ≤ 1; omega) (by decide)
  have : (u6.1 39).toInt = (u3.1 39).toInt := by rw [e_u6]; rfl
  have : (u3.1 39).toInt = (u.1 39).toInt := by rw [e_u3]; rfl
  have : 0 ≤ (u.1 39).toInt ∧ (u.1 39).toInt ≤ 121 := hs_u.1.1 39
  have : (x4.toInt < (u6.1 39).toInt ∧ (if x4 < (u6.1 39) then x4 else (u6.1 39)).toInt = x4.toInt) ∨ (¬ x4.toInt < (u6.1 39).toInt ∧ (if x4 < (u6.1 39) then x4 else (u6.1 39)).toInt = (u6.1 39).toInt) := ite_lt_t (x := x4) (y := (u6.1 39)) (p := x4) (q := (u6.1 39))
  refine Tot_lt (fun u8 e_u8 => ?_)
  have hs_u8 : StX mdX2_tell_11 u u8 := by rw [e_u8]; exact StX_sI hs_u6 (by decide) (by show 0 ≤ (if x4 < (u6.1 39) then x4 else (u6.1 39)).toInt; omega) (by show (if x4 < (u6.1 39) then x4 else (u6.1 39)).toInt ≤ 121; omega)
  exact Tot_some ⟨hs_u8, (by show 0 ≤ (0 : Int) ∧ (0 : Int) ≤ 0; omega), trivial⟩

def mdX2_addPrint_11 : MD := ([36, 39], [59, 63, 64, 65], [0], [68, 69])
abbrev qX2_addPrint_11 (u : SX) (q : Int32 × SX) : Prop := StX mdX2_addPrint_11 u q.2 ∧ ((-1) ≤ q.1.toInt ∧ q.1.toInt ≤ 39) ∧ (True)
set_option maxHeartbeats 400000 in
set_option maxRecDepth 10000 in
theorem tLX2_addPrint_11_45 (u0 : SX)  {k70 : Int32 → Int32 → SX → Option (Int32 × SX)} (hk70 : ∀ (z1 : Int32) (z4 : Int32) (u : SX), (StX mdX2_addPrint_11 u0 u) → (0 ≤ z1.toInt ∧ z1.toInt ≤ 7) → (0 ≤ z4.toInt ∧ z4.toInt ≤ 120) → ((u.1 36).toInt < (40 : Int)) → Tot (k70 z1 z4 u) (qX2_addPrint_11 u0)) : ∀ (n : Nat) (z1 : Int32) (z4 : Int32) (z5 : Int32) (u : SX), (StX mdX2_addPrint_11 u0 u) → (0 ≤ z1.toInt ∧ z1.toInt ≤ 7) → (0 ≤ z4.toInt ∧ z4.toInt ≤ 120) → (0 ≤ z5.toInt ∧ z5.toInt ≤ 20) → ((u.1 36).toInt < (40 : Int)) → (20 - z5.toInt < (n : Int)) → Tot (LX2_addPrint_11_45 k70 n z1 z4 z5 u) (qX2_addPrint_11 u0) := by
  intro n
  induction n with
  | zero =>
    intro z1 z4 z5 u hs_u h0 h1 h2 h3 hm
    exfalso
    omega
  | succ n ih =>
    intro z1 z4 z5 u hs_u h0 h1 h2 h3 hm
    rw [LX2_addPrint_11_45]
    have : 0 ≤ (u.1 36).toInt ∧ (u.1 36).toInt ≤ 40 := hs_u.1.1 36
    have : 0 ≤ (u.1 37).toInt ∧ (u.1 37).toInt ≤ 20 := hs_u.1.1 37
    refine Tot_ite (fun c971 => ?_) (fun c971 => ?_)
    · have : (u.1 37).toInt ≤ z5.toInt := leI c971
      exact hk70 z1 z4 u hs_u ⟨by omega, by omega⟩ ⟨by omega, by omega⟩ (by show (u.1 36).toInt < (40 : Int); omega)
    · have : ¬ (u.1 37).toInt ≤ z5.toInt := nleI c971
      refine Tot_bind (tfX2_compare_11 (u.1 36) z5 u hs_u.1 ⟨by omega, by omega⟩ ⟨by omega, by omega⟩) (fun q hq => ?_)
      obtain ⟨r10, u11⟩ := q
      have hc_u11 : StX mdX2_compare_11 u u11 := hq.1
      have hs_u11 : StX mdX2_addPrint_11 u0 u11 := StX_tr hs_u hc_u11 (by decide)
      have : 0 ≤ r10.toInt ∧ r10.toInt ≤ 0 := hq.2.1
      have : (z5 + 1).toInt = z5.toInt + (1 : Int) := addc_t (by decide) (by omega) (by omega)
      have : (u11.1 36).toInt = (u.1 36).toInt := congrArg Int32.toInt (hc_u11.2.1 36 (by decide))
      exact ih z1 z4 (z5 + 1) u11 hs_u11 ⟨by omega, by omega⟩ ⟨by omega, by omega⟩ ⟨by omega, by omega⟩ (by show (u11.1 36).toInt < (40 : Int); omega) (by omega)
set_option maxHeartbeats 400000 in
set_option maxRecDepth 10000 in
theorem tGX2_addPrint_11_70 (u0 : SX)    (z1 : Int32) (z4 : Int32) (u : SX) (hs_u : StX mdX2_addPrint_11 u0 u) (h0 : 0 ≤ z1.toInt ∧ z1.toInt ≤ 7) (h1 : 0 ≤ z4.toInt ∧ z4.toInt ≤ 120) (h2 : (u.1 36).toInt < (40 : Int)) : Tot (GX2_addPrint_11_70 z1 z4 u) (qX2_addPrint_11 u0) := by
  unfold GX2_addPrint_11_70
  have : 0 ≤ (u.1 36).toInt ∧ (u.1 36).toInt ≤ 40 := hs_u.1.1 36
  refine Tot_bind (tfX2_printBit (u.1 36) ⟨by omega, by omega⟩) (fun r13 hq => ?_)
  refine Tot_bind (tfX2_tell_11 z1 r13 z4 u hs_u.1 ⟨by omega, by omega⟩ ⟨by omega, by omega⟩) (fun q hq => ?_)
  obtain ⟨r16, u17⟩ := q
  have hc_u17 : StX mdX2_tell_11 u u17 := hq.1
  have hs_u17 : StX mdX2_addPrint_11 u0 u17 := StX_tr hs_u hc_u17 (by decide)
  have : 0 ≤ r16.toInt ∧ r16.toInt ≤ 0 := hq.2.1
  have : (u17.1 36).toInt = (u.1 36).toInt := congrArg Int32.toInt (hc_u17.2.1 36 (by decide))
  have : ((u17.1 36) + 1).toInt = (u17.1 36).toInt + (1 : Int) := addc_t (by decide) (by omega) (by omega)
  refine Tot_lt (fun u19 e_u19 => ?_)
  have hs_u19 : StX mdX2_addPrint_11 u0 u19 := by rw [e_u19]; exact StX_sI hs_u17 (by decide) (by show 0 ≤ ((u17.1 36) + 1).toInt; omega) (by show ((u17.1 36) + 1).toInt ≤ 40; omega)
  have : (u19.1 36).toInt = ((u17.1 36) + 1).toInt := by rw [e_u19]; rfl
  have : ((u19.1 36) - 1).toInt = (u19.1 36).toInt - (1 : Int) := subc_t (by decide) (by omega) (by omega)
  exact Tot_some ⟨hs_u19, (by show (-1) ≤ ((u19.1 36) - 1).toInt ∧ ((u19.1 36) - 1).toInt ≤ 39; omega), trivial⟩
set_option maxHeartbeats 400000 in
set_option maxRecDepth 10000 in
theorem tfX2_addPrint_11 (x1 : Int32) (x2 : Int32) (x3 : Int32) (x4 : Int32) (u : SX) (hI : IX u) (h0 : 0 ≤ x1.toInt ∧ x1.toInt ≤ 7) (h1 : (-400) ≤ x2.toInt ∧ x2.toInt ≤ 400) (h2 : (-400) ≤ x3.toInt ∧ x3.toInt ≤ 400) (h3 : 0 ≤ x4.toInt ∧ x4.toInt ≤ 120) : Tot (fX2_addPrint_11 x1 x2 x3 x4 u) (qX2_addPrint_11 u) := by
  unfold fX2_addPrint_11
  have hs_u : StX mdX2_addPrint_11 u u := StX_rf hI
  have : 0 ≤ (u.1 36).toInt ∧ (u.1 36).toInt ≤ 40 := hs_u.1.1 36
  refine Tot_ite (fun c972 => ?_) (fun c972 => ?_)
  · have : (u.1 36).toInt < (40 : Int) := ltI c972
    refine Tot_gd (inb_t (by omega) (by omega)) ?_
    refine Tot_lt (fun u2 e_u2 => ?_)
    have hs_u2 : StX mdX2_addPrint_11 u u2 := by rw [e_u2]; exact StX_sA hs_u (by decide) (by show (-400) ≤ x2.toInt; omega) (by show x2.toInt ≤ 400; omega) (by decide)
    have : (u2.1 36).toInt = (u.1 36).toInt := by rw [e_u2]; rfl
    refine Tot_gd (inb_t (by omega) (by omega)) ?_
    refine Tot_lt (fun u5 e_u5 => ?_)
    have hs_u5 : StX mdX2_addPrint_11 u u5 := by rw [e_u5]; exact StX_sA hs_u2 (by decide) (by show (-400) ≤ x3.toInt; omega) (by show x3.toInt ≤ 400; omega) (by decide)
    have : (u5.1 36).toInt = (u2.1 36).toInt := by rw [e_u5]; rfl
    refine Tot_gd (inb_t (by omega) (by omega)) ?_
    refine Tot_lt (fun u8 e_u8 => ?_)
    have hs_u8 : StX mdX2_addPrint_11 u u8 := by rw [e_u8]; exact StX_sA hs_u5 (by decide) (by show 0 ≤ x4.toInt; omega) (by show x4.toInt ≤ 120; omega) (by decide)
    have : (u8.1 36).toInt = (u5.1 36).toInt := by rw [e_u8]; rfl
    exact tLX2_addPrint_11_45 u (tGX2_addPrint_11_70 u) 5000 x1 x4 0 u8 hs_u8 ⟨by omega, by omega⟩ ⟨by omega, by omega⟩ (by show 0 ≤ (0 : Int) ∧ (0 : Int) ≤ 20; omega) (by show (u8.1 36).toInt < (40 : Int); omega) (by show 20 - (0 : Int) < ((5000 : Nat) : Int); omega)
  · have : ¬ (u.1 36).toInt < (40 : Int) := nltI c972
    exact Tot_some ⟨hs_u, (by show (-1) ≤ (-1 : Int) ∧ (-1 : Int) ≤ 39; omega), trivial⟩

def mdX2_addPaper_11 : MD := ([37, 39], [59, 66, 67], [0], [68, 69])
abbrev qX2_addPaper_11 (u : SX) (q : Int32 × SX) : Prop := StX mdX2_addPaper_11 u q.2 ∧ ((-1) ≤ q.1.toInt ∧ q.1.toInt ≤ 19) ∧ (True)
set_option maxHeartbeats 400000 in
set_option maxRecDepth 10000 in
theorem tLX2_addPaper_11_34 (u0 : SX)  {k59 : Int32 → Int32 → SX → Option (Int32 × SX)} (hk59 : ∀ (z1 : Int32) (z4 : Int32) (u : SX), (StX mdX2_addPaper_11 u0 u) → (0 ≤ z1.toInt ∧ z1.toInt ≤ 7) → (0 ≤ z4.toInt ∧ z4.toInt ≤ 120) → ((u.1 37).toInt < (20 : Int)) → Tot (k59 z1 z4 u) (qX2_addPaper_11 u0)) : ∀ (n : Nat) (z1 : Int32) (z4 : Int32) (z5 : Int32) (u : SX), (StX mdX2_addPaper_11 u0 u) → (0 ≤ z1.toInt ∧ z1.toInt ≤ 7) → (0 ≤ z4.toInt ∧ z4.toInt ≤ 120) → (0 ≤ z5.toInt ∧ z5.toInt ≤ 40) → ((u.1 37).toInt < (20 : Int)) → (40 - z5.toInt < (n : Int)) → Tot (LX2_addPaper_11_34 k59 n z1 z4 z5 u) (qX2_addPaper_11 u0) := by
  intro n
  induction n with
  | zero =>
    intro z1 z4 z5 u hs_u h0 h1 h2 h3 hm
    exfalso
    omega
  | succ n ih =>
    intro z1 z4 z5 u hs_u h0 h1 h2 h3 hm
    rw [LX2_addPaper_11_34]
    have : 0 ≤ (u.1 37).toInt ∧ (u.1 37).toInt ≤ 20 := hs_u.1.1 37
    have : 0 ≤ (u.1 36).toInt ∧ (u.1 36).toInt ≤ 40 := hs_u.1.1 36
    refine Tot_ite (fun c973 => ?_) (fun c973 => ?_)
    · have : (u.1 36).toInt ≤ z5.toInt := leI c973
      exact hk59 z1 z4 u hs_u ⟨by omega, by omega⟩ ⟨by omega, by omega⟩ (by show (u.1 37).toInt < (20 : Int); omega)
    · have : ¬ (u.1 36).toInt ≤ z5.toInt := nleI c973
      refine Tot_bind (tfX2_compare_11 z5 (u.1 37) u hs_u.1 ⟨by omega, by omega⟩ ⟨by omega, by omega⟩) (fun q hq => ?_)
      obtain ⟨r7, u8⟩ := q
      have hc_u8 : StX mdX2_compare_11 u u8 := hq.1
      have hs_u8 : StX mdX2_addPaper_11 u0 u8 := StX_tr hs_u hc_u8 (by decide)
      have : 0 ≤ r7.toInt ∧ r7.toInt ≤ 0 := hq.2.1
      have : (z5 + 1).toInt = z5.toInt + (1 : Int) := addc_t (by decide) (by omega) (by omega)
      have : (u8.1 37).toInt = (u.1 37).toInt := congrArg Int32.toInt (hc_u8.2.1 37 (by decide))
      exact ih z1 z4 (z5 + 1) u8 hs_u8 ⟨by omega, by omega⟩ ⟨by omega, by omega⟩ ⟨by omega, by omega⟩ (by show (u8.1 37).toInt < (20 : Int); omega) (by omega)
set_option maxHeartbeats 400000 in
set_option maxRecDepth 10000 in
theorem tGX2_addPaper_11_59 (u0 : SX)    (z1 : Int32) (z4 : Int32) (u : SX) (hs_u : StX mdX2_addPaper_11 u0 u) (h0 : 0 ≤ z1.toInt ∧ z1.toInt ≤ 7) (h1 : 0 ≤ z4.toInt ∧ z4.toInt ≤ 120) (h2 : (u.1 37).toInt < (20 : Int)) : Tot (GX2_addPaper_11_59 z1 z4 u) (qX2_addPaper_11 u0) := by
  unfold GX2_addPaper_11_59
  have : 0 ≤ (u.1 37).toInt ∧ (u.1 37).toInt ≤ 20 := hs_u.1.1 37
  refine Tot_bind (tfX2_paperBit (u.1 37) ⟨by omega, by omega⟩) (fun r10 hq => ?_)
  refine Tot_bind (tfX2_tell_11 z1 r10 z4 u hs_u.1 ⟨by omega, by omega⟩ ⟨by omega, by omega⟩) (fun q hq => ?_)
  obtain ⟨r13, u14⟩ := q
  have hc_u14 : StX mdX2_tell_11 u u14 := hq.1
  have hs_u14 : StX mdX2_addPaper_11 u0 u14 := StX_tr hs_u hc_u14 (by decide)
  have : 0 ≤ r13.toInt ∧ r13.toInt ≤ 0 := hq.2.1
  have : (u14.1 37).toInt = (u.1 37).toInt := congrArg Int32.toInt (hc_u14.2.1 37 (by decide))
  have : ((u14.1 37) + 1).toInt = (u14.1 37).toInt + (1 : Int) := addc_t (by decide) (by omega) (by omega)
  refine Tot_lt (fun u16 e_u16 => ?_)
  have hs_u16 : StX mdX2_addPaper_11 u0 u16 := by rw [e_u16]; exact StX_sI hs_u14 (by decide) (by show 0 ≤ ((u14.1 37) + 1).toInt; omega) (by show ((u14.1 37) + 1).toInt ≤ 20; omega)
  have : (u16.1 37).toInt = ((u14.1 37) + 1).toInt := by rw [e_u16]; rfl
  have : ((u16.1 37) - 1).toInt = (u16.1 37).toInt - (1 : Int) := subc_t (by decide) (by omega) (by omega)
  exact Tot_some ⟨hs_u16, (by show (-1) ≤ ((u16.1 37) - 1).toInt ∧ ((u16.1 37) - 1).toInt ≤ 19; omega), trivial⟩
set_option maxHeartbeats 400000 in
set_option maxRecDepth 10000 in
theorem tfX2_addPaper_11 (x1 : Int32) (x2 : Int32) (x3 : Int32) (x4 : Int32) (u : SX) (hI : IX u) (h0 : 0 ≤ x1.toInt ∧ x1.toInt ≤ 7) (h1 : (-400) ≤ x2.toInt ∧ x2.toInt ≤ 400) (h2 : (-400) ≤ x3.toInt ∧ x3.toInt ≤ 400) (h3 : 0 ≤ x4.toInt ∧ x4.toInt ≤ 120) : Tot (fX2_addPaper_11 x1 x2 x3 x4 u) (qX2_addPaper_11 u) := by
  unfold fX2_addPaper_11
  have hs_u : StX mdX2_addPaper_11 u u := StX_rf hI
  have : 0 ≤ (u.1 37).toInt ∧ (u.1 37).toInt ≤ 20 := hs_u.1.1 37
  refine Tot_ite (fun c974 => ?_) (fun c974 => ?_)
  · have : (u.1 37).toInt < (20 : Int) := ltI c974
    refine Tot_gd (inb_t (by omega) (by omega)) ?_
    refine Tot_lt (fun u2 e_u2 => ?_)
    have hs_u2 : StX mdX2_addPaper_11 u u2 := by rw [e_u2]; exact StX_sA hs_u (by decide) (by show (-400) ≤ x2.toInt; omega) (by show x2.toInt ≤ 400; omega) (by decide)
    have : (u2.1 37).toInt = (u.1 37).toInt := by rw [e_u2]; rfl
    refine Tot_gd (inb_t (by omega) (by omega)) ?_
    refine Tot_lt (fun u5 e_u5 => ?_)
    have hs_u5 : StX mdX2_addPaper_11 u u5 := by rw [e_u5]; exact StX_sA hs_u2 (by decide) (by show (-400) ≤ x3.toInt; omega) (by show x3.toInt ≤ 400; omega) (by decide)
    have : (u5.1 37).toInt = (u2.1 37).toInt := by rw [e_u5]; rfl
    exact tLX2_addPaper_11_34 u (tGX2_addPaper_11_59 u) 5000 x1 x4 0 u5 hs_u5 ⟨by omega, by omega⟩ ⟨by omega, by omega⟩ (by show 0 ≤ (0 : Int) ∧ (0 : Int) ≤ 40; omega) (by show (u5.1 37).toInt < (20 : Int); omega) (by show 40 - (0 : Int) < ((5000 : Nat) : Int); omega)
  · have : ¬ (u.1 37).toInt < (20 : Int) := nltI c974
    exact Tot_some ⟨hs_u, (by show (-1) ≤ (-1 : Int) ∧ (-1 : Int) ≤ 19; omega), trivial⟩

def mdX11_print_0 : MD := ([36, 37, 39], [59, 63, 64, 65, 66, 67], [0], [68, 69])
abbrev qX11_print_0 (u : SX) (q : Int32 × SX) : Prop := StX mdX11_print_0 u q.2 ∧ ((-1) ≤ q.1.toInt ∧ q.1.toInt ≤ 39) ∧ (True)
set_option maxHeartbeats 400000 in
set_option maxRecDepth 10000 in
theorem tfX11_print_0 (x1 : Int32) (x2 : Int32) (x3 : Int32) (x4 : Int32) (u : SX) (hI : IX u) (h0 : 0 ≤ x2.toInt ∧ x2.toInt ≤ 1) : Tot (fX11_print_0 x1 x2 x3 x4 u) (qX11_print_0 u) := by
  unfold fX11_print_0
  have hs_u : StX mdX11_print_0 u u := StX_rf hI
  refine Tot_bind (tfX2_has_11 x1 u hs_u.1) (fun q hq => ?_)
  obtain ⟨r1, u2⟩ := q
  have hc_u2 : StX mdX2_has_11 u u2 := hq.1
  have hs_u2 : StX mdX11_print_0 u u2 := StX_tr hs_u hc_u2 (by decide)
  have : 0 ≤ r1.toInt ∧ r1.toInt ≤ 1 := hq.2.1
  have : 0 ≤ (u.1 35).toInt ∧ (u.1 35).toInt ≤ 8 := hs_u.1.1 35
  have : r1.toInt ≠ 0 → ((0 : Int) ≤ x1.toInt ∧ x1.toInt < (u.1 35).toInt) := hq.2.2
  refine Tot_ite (fun c975 => ?_) (fun c975 => ?_)
  · have : r1.toInt = (0 : Int) := eqI c975
    exact Tot_some ⟨hs_u2, (by show (-1) ≤ (-1 : Int) ∧ (-1 : Int) ≤ 39; omega), trivial⟩
  · have : ¬ r1.toInt = (0 : Int) := neI c975
    refine Tot_ite (fun c976 => ?_) (fun c976 => ?_)
    · have : x3.toInt < (-400 : Int) := ltI c976
      exact Tot_some ⟨hs_u2, (by show (-1) ≤ (-1 : Int) ∧ (-1 : Int) ≤ 39; omega), trivial⟩
    · have : ¬ x3.toInt < (-400 : Int) := nltI c976
      refine Tot_ite (fun c977 => ?_) (fun c977 => ?_)
      · have : (400 : Int) < x4.toInt := ltI c977
        exact Tot_some ⟨hs_u2, (by show (-1) ≤ (-1 : Int) ∧ (-1 : Int) ≤ 39; omega), trivial⟩
      · have : ¬ (400 : Int) < x4.toInt := nltI c977
        refine Tot_ite (fun c978 => ?_) (fun c978 => ?_)
        · have : x3.toInt ≤ x4.toInt := leI c978
          refine Tot_ite (fun c979 => ?_) (fun c979 => ?_)
          · have : x2.toInt = (0 : Int) := eqI c979
            have : (u2.1 36).toInt = (u.1 36).toInt := congrArg Int32.toInt (hc_u2.2.1 36 (by decide))
            have : 0 ≤ (u.1 36).toInt ∧ (u.1 36).toInt ≤ 40 := hs_u.1.1 36
            refine Tot_ite (fun c980 => ?_) (fun c980 => ?_)
            · have : (u2.1 36).toInt < (40 : Int) := ltI c980
              have : (u2.1 0).toInt = (u.1 0).toInt := congrArg Int32.toInt (hc_u2.2.1 0 (by decide))
              have : 0 ≤ (u.1 0).toInt ∧ (u.1 0).toInt ≤ 120 := hs_u.1.1 0
              refine Tot_bind (tfX2_addPrint_11 x1 x3 x4 (u2.1 0) u2 hs_u2.1 ⟨by omega, by omega⟩ ⟨by omega, by omega⟩ ⟨by omega, by omega⟩ ⟨by omega, by omega⟩) (fun q hq => ?_)
              obtain ⟨r4, u5⟩ := q
              have hc_u5 : StX mdX2_addPrint_11 u2 u5 := hq.1
              have hs_u5 : StX mdX11_print_0 u u5 := StX_tr hs_u2 hc_u5 (by decide)
              have : (-1) ≤ r4.toInt ∧ r4.toInt ≤ 39 := hq.2.1
              exact Tot_some ⟨hs_u5, (by show (-1) ≤ r4.toInt ∧ r4.toInt ≤ 39; omega), trivial⟩
            · have : ¬ (u2.1 36).toInt < (40 : Int) := nltI c980
              exact Tot_some ⟨hs_u2, (by show (-1) ≤ (-1 : Int) ∧ (-1 : Int) ≤ 39; omega), trivial⟩
          · have : ¬ x2.toInt = (0 : Int) := neI c979
            have : (u2.1 37).toInt = (u.1 37).toInt := congrArg Int32.toInt (hc_u2.2.1 37 (by decide))
            have : 0 ≤ (u.1 37).toInt ∧ (u.1 37).toInt ≤ 20 := hs_u.1.1 37
            refine Tot_ite (fun c981 => ?_) (fun c981 => ?_)
            · have : (u2.1 37).toInt < (20 : Int) := ltI c981
              have : (u2.1 0).toInt = (u.1 0).toInt := congrArg Int32.toInt (hc_u2.2.1 0 (by decide))
              have : 0 ≤ (u.1 0).toInt ∧ (u.1 0).toInt ≤ 120 := hs_u.1.1 0
              refine Tot_bind (tfX2_addPaper_11 x1 x3 x4 (u2.1 0) u2 hs_u2.1 ⟨by omega, by omega⟩ ⟨by omega, by omega⟩ ⟨by omega, by omega⟩ ⟨by omega, by omega⟩) (fun q hq => ?_)
              obtain ⟨r7, u8⟩ := q
              have hc_u8 : StX mdX2_addPaper_11 u2 u8 := hq.1
              have hs_u8 : StX mdX11_print_0 u u8 := StX_tr hs_u2 hc_u8 (by decide)
              have : (-1) ≤ r7.toInt ∧ r7.toInt ≤ 19 := hq.2.1
              exact Tot_some ⟨hs_u8, (by show (-1) ≤ r7.toInt ∧ r7.toInt ≤ 39; omega), trivial⟩
            · have : ¬ (u2.1 37).toInt < (20 : Int) := nltI c981
              exact Tot_some ⟨hs_u2, (by show (-1) ≤ (-1 : Int) ∧ (-1 : Int) ≤ 39; omega), trivial⟩
        · have : ¬ x3.toInt ≤ x4.toInt := nleI c978
          exact Tot_some ⟨hs_u2, (by show (-1) ≤ (-1 : Int) ∧ (-1 : Int) ≤ 39; omega), trivial⟩

def mdX2_having_11 : MD := ([], [], [], [])
abbrev qX2_having_11 (u : SX) (q : Int32 × SX) : Prop := StX mdX2_having_11 u q.2 ∧ (True) ∧ (True)
set_option maxHeartbeats 400000 in
set_option maxRecDepth 10000 in
theorem tGX2_having_11_61 (u0 : SX) (g5 : Int) {k5 : Int32 → Int32 → Int32 → Int32 → SX → Option (Int32 × SX)} (hk5 : ∀ (z1 : Int32) (z2 : Int32) (z3 : Int32) (z4 : Int32) (u : SX), (StX mdX2_having_11 u0 u) → (0 ≤ z1.toInt ∧ z1.toInt ≤ 120) → (0 ≤ z2.toInt ∧ z2.toInt ≤ 1) → (0 ≤ z4.toInt ∧ z4.toInt ≤ 40) → (g5 < z4.toInt) → Tot (k5 z1 z2 z3 z4 u) (qX2_having_11 u0)) (z1 : Int32) (z2 : Int32) (z3 : Int32) (z4 : Int32) (u : SX) (hs_u : StX mdX2_having_11 u0 u) (h0 : 0 ≤ z1.toInt ∧ z1.toInt ≤ 120) (h1 : 0 ≤ z2.toInt ∧ z2.toInt ≤ 1) (h2 : 0 ≤ z4.toInt ∧ z4.toInt ≤ 39) (h3 : g5 ≤ z4.toInt) : Tot (GX2_having_11_61 k5 z1 z2 z3 z4 u) (qX2_having_11 u0) := by
  unfold GX2_having_11_61
  have : (z4 + 1).toInt = z4.toInt + (1 : Int) := addc_t (by decide) (by omega) (by omega)
  exact hk5 z1 z2 z3 (z4 + 1) u hs_u ⟨by omega, by omega⟩ ⟨by omega, by omega⟩ ⟨by omega, by omega⟩ (by omega)
set_option maxHeartbeats 400000 in
set_option maxRecDepth 10000 in
theorem tGX2_having_11_29 (u0 : SX) (g5 : Int) {k5 : Int32 → Int32 → Int32 → Int32 → SX → Option (Int32 × SX)} (hk5 : ∀ (z1 : Int32) (z2 : Int32) (z3 : Int32) (z4 : Int32) (u : SX), (StX mdX2_having_11 u0 u) → (0 ≤ z1.toInt ∧ z1.toInt ≤ 120) → (0 ≤ z2.toInt ∧ z2.toInt ≤ 1) → (0 ≤ z4.toInt ∧ z4.toInt ≤ 40) → (g5 < z4.toInt) → Tot (k5 z1 z2 z3 z4 u) (qX2_having_11 u0)) (z1 : Int32) (z2 : Int32) (z3 : Int32) (z4 : Int32) (y0 : Int32) (u : SX) (hs_u : StX mdX2_having_11 u0 u) (h0 : 0 ≤ z1.toInt ∧ z1.toInt ≤ 120) (h1 : 0 ≤ z2.toInt ∧ z2.toInt ≤ 1) (h2 : 0 ≤ z4.toInt ∧ z4.toInt ≤ 39) (h3 : 0 ≤ y0.toInt ∧ y0.toInt ≤ 1) (h4 : g5 ≤ z4.toInt) : Tot (GX2_having_11_29 k5 z1 z2 z3 z4 y0 u) (qX2_having_11 u0) := by
  unfold GX2_having_11_29
  refine Tot_gd (inb_t (by omega) (by omega)) ?_
  have : 0 ≤ (u.2.1 65 z4.toNatClampNeg).toInt ∧ (u.2.1 65 z4.toNatClampNeg).toInt ≤ 120 := hs_u.1.2.1 65 z4.toNatClampNeg
  refine Tot_ite (fun c982 => ?_) (fun c982 => ?_)
  · have : z1.toInt < (u.2.1 65 z4.toNatClampNeg).toInt := ltI c982
    exact tGX2_having_11_61 u0 g5 hk5 z1 z2 z3 z4 u hs_u ⟨by omega, by omega⟩ ⟨by omega, by omega⟩ ⟨by omega, by omega⟩ (by omega)
  · have : ¬ z1.toInt < (u.2.1 65 z4.toNatClampNeg).toInt := nltI c982
    refine Tot_gd (inb_t (by omega) (by omega)) ?_
    have : (-400) ≤ (u.2.1 64 z4.toNatClampNeg).toInt ∧ (u.2.1 64 z4.toNatClampNeg).toInt ≤ 400 := hs_u.1.2.1 64 z4.toNatClampNeg
    refine Tot_ite (fun c983 => ?_) (fun c983 => ?_)
    · have : (u.2.1 64 z4.toNatClampNeg).toInt ≤ (0 : Int) := leI c983
      exact tGX2_having_11_61 u0 g5 hk5 z1 z2 z3 z4 u hs_u ⟨by omega, by omega⟩ ⟨by omega, by omega⟩ ⟨by omega, by omega⟩ (by omega)
    · have : ¬ (u.2.1 64 z4.toNatClampNeg).toInt ≤ (0 : Int) := nleI c983
      refine Tot_ite (fun c984 => ?_) (fun c984 => ?_)
      · have : y0.toInt = z2.toInt := eqI c984
        exact tGX2_having_11_61 u0 g5 hk5 z1 z2 (z3 + 1) z4 u hs_u ⟨by omega, by omega⟩ ⟨by omega, by omega⟩ ⟨by omega, by omega⟩ (by omega)
      · exact tGX2_having_11_61 u0 g5 hk5 z1 z2 z3 z4 u hs_u ⟨by omega, by omega⟩ ⟨by omega, by omega⟩ ⟨by omega, by omega⟩ (by omega)
set_option maxHeartbeats 400000 in
set_option maxRecDepth 10000 in
theorem tLX2_having_11_5 (u0 : SX)    : ∀ (n : Nat) (z1 : Int32) (z2 : Int32) (z3 : Int32) (z4 : Int32) (u : SX), (StX mdX2_having_11 u0 u) → (0 ≤ z1.toInt ∧ z1.toInt ≤ 120) → (0 ≤ z2.toInt ∧ z2.toInt ≤ 1) → (0 ≤ z4.toInt ∧ z4.toInt ≤ 40) → (40 - z4.toInt < (n : Int)) → Tot (LX2_having_11_5 n z1 z2 z3 z4 u) (qX2_having_11 u0) := by
  intro n
  induction n with
  | zero =>
    intro z1 z2 z3 z4 u hs_u h0 h1 h2 hm
    exfalso
    omega
  | succ n ih =>
    intro z1 z2 z3 z4 u hs_u h0 h1 h2 hm
    rw [LX2_having_11_5]
    have : 0 ≤ (u.1 36).toInt ∧ (u.1 36).toInt ≤ 40 := hs_u.1.1 36
    refine Tot_ite (fun c985 => ?_) (fun c985 => ?_)
    · have : (u.1 36).toInt ≤ z4.toInt := leI c985
      exact Tot_some ⟨hs_u, trivial, trivial⟩
    · have : ¬ (u.1 36).toInt ≤ z4.toInt := nleI c985
      refine Tot_gd (inb_t (by omega) (by omega)) ?_
      have : (-400) ≤ (u.2.1 63 z4.toNatClampNeg).toInt ∧ (u.2.1 63 z4.toNatClampNeg).toInt ≤ 400 := hs_u.1.2.1 63 z4.toNatClampNeg
      refine Tot_ite (fun c986 => ?_) (fun c986 => ?_)
      · have : (u.2.1 63 z4.toNatClampNeg).toInt ≤ (0 : Int) := leI c986
        exact tGX2_having_11_29 u0 (z4.toInt) (fun a987 a988 a989 a990 w991 hw991 p992 p993 p994 p995 => ih a987 a988 a989 a990 w991 hw991 p992 p993 p994 (by omega)) z1 z2 z3 z4 0 u hs_u ⟨by omega, by omega⟩ ⟨by omega, by omega⟩ ⟨by omega, by omega⟩ (by show 0 ≤ (0 : Int) ∧ (0 : Int) ≤ 1; omega) (by omega)
      · have : ¬ (u.2.1 63 z4.toNatClampNeg).toInt ≤ (0 : Int) := nleI c986
        exact tGX2_having_11_29 u0 (z4.toInt) (fun a996 a997 a998 a999 w1000 hw1000 p1001 p1002 p1003 p1004 => ih a996 a997 a998 a999 w1000 hw1000 p1001 p1002 p1003 (by omega)) z1 z2 z3 z4 1 u hs_u ⟨by omega, by omega⟩ ⟨by omega, by omega⟩ ⟨by omega, by omega⟩ (by show 0 ≤ (1 : Int) ∧ (1 : Int) ≤ 1; omega) (by omega)
set_option maxHeartbeats 400000 in
set_option maxRecDepth 10000 in
theorem tfX2_having_11 (x1 : Int32) (x2 : Int32) (u : SX) (hI : IX u) (h0 : 0 ≤ x1.toInt ∧ x1.toInt ≤ 120) (h1 : 0 ≤ x2.toInt ∧ x2.toInt ≤ 1) : Tot (fX2_having_11 x1 x2 u) (qX2_having_11 u) := by
  unfold fX2_having_11
  have hs_u : StX mdX2_having_11 u u := StX_rf hI
  exact tLX2_having_11_5 u 5000 x1 x2 0 0 u hs_u ⟨by omega, by omega⟩ ⟨by omega, by omega⟩ (by show 0 ≤ (0 : Int) ∧ (0 : Int) ≤ 40; omega) (by show 40 - (0 : Int) < ((5000 : Nat) : Int); omega)

def mdX11_had_0 : MD := ([], [], [], [])
abbrev qX11_had_0 (u : SX) (q : Int32 × SX) : Prop := StX mdX11_had_0 u q.2 ∧ (True) ∧ (True)
set_option maxHeartbeats 400000 in
set_option maxRecDepth 10000 in
theorem tGX11_had_0_29 (u0 : SX)    (y0 : Int32) (y1 : Int32) (u : SX) (hs_u : StX mdX11_had_0 u0 u) (h0 : 0 ≤ y0.toInt ∧ y0.toInt ≤ 1) (h1 : 0 ≤ y1.toInt ∧ y1.toInt ≤ 120) : Tot (GX11_had_0_29 y0 y1 u) (qX11_had_0 u0) := by
  unfold GX11_had_0_29
  refine Tot_bind (tfX2_having_11 y1 y0 u hs_u.1 ⟨by omega, by omega⟩ ⟨by omega, by omega⟩) (fun q hq => ?_)
  obtain ⟨r7, u8⟩ := q
  have hc_u8 : StX mdX2_having_11 u u8 := hq.1
  have hs_u8 : StX mdX11_had_0 u0 u8 := StX_tr hs_u hc_u8 (by decide)
  exact Tot_some ⟨hs_u8, trivial, trivial⟩
set_option maxHeartbeats 400000 in
set_option maxRecDepth 10000 in
theorem tfX11_had_0 (x1 : Int32) (x2 : Int32) (u : SX) (hI : IX u)  : Tot (fX11_had_0 x1 x2 u) (qX11_had_0 u) := by
  unfold fX11_had_0
  have hs_u : StX mdX11_had_0 u u := StX_rf hI
  refine Tot_bind (tfX11_isDay_0 x1 u hs_u.1) (fun q hq => ?_)
  obtain ⟨r1, u2⟩ := q
  have hc_u2 : StX mdX11_isDay_0 u u2 := hq.1
  have hs_u2 : StX mdX11_had_0 u u2 := StX_tr hs_u hc_u2 (by decide)
  have : 0 ≤ r1.toInt ∧ r1.toInt ≤ 1 := hq.2.1
  have : 0 ≤ (u.1 0).toInt ∧ (u.1 0).toInt ≤ 120 := hs_u.1.1 0
  have : r1.toInt ≠ 0 → ((0 : Int) ≤ x1.toInt ∧ x1.toInt ≤ (u.1 0).toInt) := hq.2.2
  refine Tot_ite (fun c1005 => ?_) (fun c1005 => ?_)
  · have : r1.toInt = (0 : Int) := eqI c1005
    exact Tot_some ⟨hs_u2, trivial, trivial⟩
  · have : ¬ r1.toInt = (0 : Int) := neI c1005
    refine Tot_bind (tfX11_isEither x2) (fun r4 hq => ?_)
    have : 0 ≤ r4.toInt ∧ r4.toInt ≤ 1 := hq.1
    have : r4.toInt ≠ 0 → ((0 : Int) ≤ x2.toInt ∧ x2.toInt ≤ (1 : Int)) := hq.2
    refine Tot_ite (fun c1006 => ?_) (fun c1006 => ?_)
    · have : r4.toInt = (0 : Int) := eqI c1006
      exact Tot_some ⟨hs_u2, trivial, trivial⟩
    · have : ¬ r4.toInt = (0 : Int) := neI c1006
      refine Tot_ite (fun c1007 => ?_) (fun c1007 => ?_)
      · have : x2.toInt = (0 : Int) := eqI c1007
        exact tGX11_had_0_29 u 1 x1 u2 hs_u2 (by show 0 ≤ (1 : Int) ∧ (1 : Int) ≤ 1; omega) ⟨by omega, by omega⟩
      · have : ¬ x2.toInt = (0 : Int) := neI c1007
        exact tGX11_had_0_29 u 0 x1 u2 hs_u2 (by show 0 ≤ (0 : Int) ∧ (0 : Int) ≤ 1; omega) ⟨by omega, by omega⟩

def mdX2_send_11 : MD := ([38, 39], [59, 60, 61, 62], [], [])
abbrev qX2_send_11 (u : SX) (q : Int32 × SX) : Prop := StX mdX2_send_11 u q.2 ∧ (0 ≤ q.1.toInt ∧ q.1.toInt ≤ 0) ∧ (True)
set_option maxHeartbeats 400000 in
set_option maxRecDepth 10000 in
theorem tfX2_send_11 (x1 : Int32) (x2 : Int32) (x3 : Int32) (u : SX) (hI : IX u) (h0 : 0 ≤ x1.toInt ∧ x1.toInt ≤ 7) (h1 : 0 ≤ x2.toInt ∧ x2.toInt ≤ 7) (h2 : 0 ≤ x3.toInt ∧ x3.toInt ≤ 120) : Tot (fX2_send_11 x1 x2 x3 u) (qX2_send_11 u) := by
  unfold fX2_send_11
  have hs_u : StX mdX2_send_11 u u := StX_rf hI
  have : 0 ≤ (u.1 38).toInt ∧ (u.1 38).toInt ≤ 60 := hs_u.1.1 38
  refine Tot_ite (fun c1008 => ?_) (fun c1008 => ?_)
  · have : (u.1 38).toInt < (60 : Int) := ltI c1008
    refine Tot_gd (inb_t (by omega) (by omega)) ?_
    refine Tot_lt (fun u2 e_u2 => ?_)
    have hs_u2 : StX mdX2_send_11 u u2 := by rw [e_u2]; exact StX_sA hs_u (by decide) (by show 0 ≤ x1.toInt; omega) (by show x1.toInt ≤ 7; omega) (by decide)
    have : (u2.1 38).toInt = (u.1 38).toInt := by rw [e_u2]; rfl
    refine Tot_gd (inb_t (by omega) (by omega)) ?_
    refine Tot_lt (fun u5 e_u5 => ?_)
    have hs_u5 : StX mdX2_send_11 u u5 := by rw [e_u5]; exact StX_sA hs_u2 (by decide) (by show 0 ≤ x2.toInt; omega) (by show x2.toInt ≤ 7; omega) (by decide)
    have : (u5.1 38).toInt = (u2.1 38).toInt := by rw [e_u5]; rfl
    refine Tot_gd (inb_t (by omega) (by omega)) ?_
    refine Tot_lt (fun u8 e_u8 => ?_)
    have hs_u8 : StX mdX2_send_11 u u8 := by rw [e_u8]; exact StX_sA hs_u5 (by decide) (by show 0 ≤ x3.toInt; omega) (by show x3.toInt ≤ 120; omega) (by decide)
    have : (u8.1 38).toInt = (u5.1 38).toInt := by rw [e_u8]; rfl
    have : ((u8.1 38) + 1).toInt = (u8.1 38).toInt + (1 : Int) := addc_t (by decide) (by omega) (by omega)
    refine Tot_lt (fun u10 e_u10 => ?_)
    have hs_u10 : StX mdX2_send_11 u u10 := by rw [e_u10]; exact StX_sI hs_u8 (by decide) (by show 0 ≤ ((u8.1 38) + 1).toInt; omega) (by show ((u8.1 38) + 1).toInt ≤ 60; omega)
    refine Tot_gd (inb_t (by omega) (by omega)) ?_
    have := narz_t 1
    refine Tot_lt (fun u13 e_u13 => ?_)
    have hs_u13 : StX mdX2_send_11 u u13 := by rw [e_u13]; exact StX_sA hs_u10 (by decide) (by show 0 ≤ (vp_nar .boolean 1).toInt; omega) (by show (vp_nar .boolean 1).toInt ≤ 1; omega) (by decide)
    have : (u13.1 39).toInt = (u10.1 39).toInt := by rw [e_u13]; rfl
    have : (u10.1 39).toInt = (u8.1 39).toInt := by rw [e_u10]; rfl
    have : (u8.1 39).toInt = (u5.1 39).toInt := by rw [e_u8]; rfl
    have : (u5.1 39).toInt = (u2.1 39).toInt := by rw [e_u5]; rfl
    have : (u2.1 39).toInt = (u.1 39).toInt := by rw [e_u2]; rfl
    have : 0 ≤ (u.1 39).toInt ∧ (u.1 39).toInt ≤ 121 := hs_u.1.1 39
    have : (x3.toInt < (u13.1 39).toInt ∧ (if x3 < (u13.1 39) then x3 else (u13.1 39)).toInt = x3.toInt) ∨ (¬ x3.toInt < (u13.1 39).toInt ∧ (if x3 < (u13.1 39) then x3 else (u13.1 39)).toInt = (u13.1 39).toInt) := ite_lt_t (x := x3) (y := (u13.1 39)) (p := x3) (q := (u13.1 39))
    refine Tot_lt (fun u15 e_u15 => ?_)
    have hs_u15 : StX mdX2_send_11 u u15 := by rw [e_u15]; exact StX_sI hs_u13 (by decide) (by show 0 ≤ (if x3 < (u13.1 39) then x3 else (u13.1 39)).toInt; omega) (by show (if x3 < (u13.1 39) then x3 else (u13.1 39)).toInt ≤ 121; omega)
    exact Tot_some ⟨hs_u15, (by show 0 ≤ (0 : Int) ∧ (0 : Int) ≤ 0; omega), trivial⟩
  · have : ¬ (u.1 38).toInt < (60 : Int) := nltI c1008
    exact Tot_some ⟨hs_u, (by show 0 ≤ (0 : Int) ∧ (0 : Int) ≤ 0; omega), trivial⟩

def mdX11_letter_0 : MD := ([38, 39], [59, 60, 61, 62], [], [])
abbrev qX11_letter_0 (u : SX) (q : Int32 × SX) : Prop := StX mdX11_letter_0 u q.2 ∧ (0 ≤ q.1.toInt ∧ q.1.toInt ≤ 1) ∧ (True)
set_option maxHeartbeats 400000 in
set_option maxRecDepth 10000 in
theorem tfX11_letter_0 (x1 : Int32) (x2 : Int32) (u : SX) (hI : IX u)  : Tot (fX11_letter_0 x1 x2 u) (qX11_letter_0 u) := by
  unfold fX11_letter_0
  have hs_u : StX mdX11_letter_0 u u := StX_rf hI
  refine Tot_bind (tfX2_has_11 x1 u hs_u.1) (fun q hq => ?_)
  obtain ⟨r1, u2⟩ := q
  have hc_u2 : StX mdX2_has_11 u u2 := hq.1
  have hs_u2 : StX mdX11_letter_0 u u2 := StX_tr hs_u hc_u2 (by decide)
  have : 0 ≤ r1.toInt ∧ r1.toInt ≤ 1 := hq.2.1
  have : 0 ≤ (u.1 35).toInt ∧ (u.1 35).toInt ≤ 8 := hs_u.1.1 35
  have : r1.toInt ≠ 0 → ((0 : Int) ≤ x1.toInt ∧ x1.toInt < (u.1 35).toInt) := hq.2.2
  refine Tot_ite (fun c1009 => ?_) (fun c1009 => ?_)
  · have : r1.toInt = (0 : Int) := eqI c1009
    refine Tot_gd (by decide) ?_
    exact Tot_some ⟨hs_u2, (by show 0 ≤ (0 : Int) ∧ (0 : Int) ≤ 1; omega), trivial⟩
  · have : ¬ r1.toInt = (0 : Int) := neI c1009
    refine Tot_bind (tfX2_has_11 x2 u2 hs_u2.1) (fun q hq => ?_)
    obtain ⟨r5, u6⟩ := q
    have hc_u6 : StX mdX2_has_11 u2 u6 := hq.1
    have hs_u6 : StX mdX11_letter_0 u u6 := StX_tr hs_u2 hc_u6 (by decide)
    have : 0 ≤ r5.toInt ∧ r5.toInt ≤ 1 := hq.2.1
    have : (u2.1 35).toInt = (u.1 35).toInt := congrArg Int32.toInt (hc_u2.2.1 35 (by decide))
    have : r5.toInt ≠ 0 → ((0 : Int) ≤ x2.toInt ∧ x2.toInt < (u2.1 35).toInt) := hq.2.2
    refine Tot_ite (fun c1010 => ?_) (fun c1010 => ?_)
    · have : r5.toInt = (0 : Int) := eqI c1010
      refine Tot_gd (by decide) ?_
      exact Tot_some ⟨hs_u6, (by show 0 ≤ (0 : Int) ∧ (0 : Int) ≤ 1; omega), trivial⟩
    · have : ¬ r5.toInt = (0 : Int) := neI c1010
      refine Tot_ite (fun c1011 => ?_) (fun c1011 => ?_)
      · have : x1.toInt = x2.toInt := eqI c1011
        refine Tot_gd (by decide) ?_
        exact Tot_some ⟨hs_u6, (by show 0 ≤ (0 : Int) ∧ (0 : Int) ≤ 1; omega), trivial⟩
      · have : (u6.1 38).toInt = (u2.1 38).toInt := congrArg Int32.toInt (hc_u6.2.1 38 (by decide))
        have : (u2.1 38).toInt = (u.1 38).toInt := congrArg Int32.toInt (hc_u2.2.1 38 (by decide))
        have : 0 ≤ (u.1 38).toInt ∧ (u.1 38).toInt ≤ 60 := hs_u.1.1 38
        refine Tot_ite (fun c1012 => ?_) (fun c1012 => ?_)
        · have : (u6.1 38).toInt < (60 : Int) := ltI c1012
          have : (u6.1 0).toInt = (u2.1 0).toInt := congrArg Int32.toInt (hc_u6.2.1 0 (by decide))
          have : (u2.1 0).toInt = (u.1 0).toInt := congrArg Int32.toInt (hc_u2.2.1 0 (by decide))
          have : 0 ≤ (u.1 0).toInt ∧ (u.1 0).toInt ≤ 120 := hs_u.1.1 0
          refine Tot_bind (tfX2_send_11 x1 x2 (u6.1 0) u6 hs_u6.1 ⟨by omega, by omega⟩ ⟨by omega, by omega⟩ ⟨by omega, by omega⟩) (fun q hq => ?_)
          obtain ⟨r10, u11⟩ := q
          have hc_u11 : StX mdX2_send_11 u6 u11 := hq.1
          have hs_u11 : StX mdX11_letter_0 u u11 := StX_tr hs_u6 hc_u11 (by decide)
          have : 0 ≤ r10.toInt ∧ r10.toInt ≤ 0 := hq.2.1
          refine Tot_gd (by decide) ?_
          exact Tot_some ⟨hs_u11, (by show 0 ≤ (1 : Int) ∧ (1 : Int) ≤ 1; omega), trivial⟩
        · have : ¬ (u6.1 38).toInt < (60 : Int) := nltI c1012
          refine Tot_gd (by decide) ?_
          exact Tot_some ⟨hs_u6, (by show 0 ≤ (0 : Int) ∧ (0 : Int) ≤ 1; omega), trivial⟩

def mdX2_knownBy_11 : MD := ([], [], [], [])
abbrev qX2_knownBy_11 (u : SX) (q : Int64 × SX) : Prop := StX mdX2_knownBy_11 u q.2 ∧ (True) ∧ (True)
set_option maxHeartbeats 400000 in
set_option maxRecDepth 10000 in
theorem tfX2_knownBy_11 (x1 : Int32) (x2 : Int32) (u : SX) (hI : IX u) (h0 : 0 ≤ x1.toInt ∧ x1.toInt ≤ 7) (h1 : (-1) ≤ x2.toInt ∧ x2.toInt ≤ 120) : Tot (fX2_knownBy_11 x1 x2 u) (qX2_knownBy_11 u) := by
  unfold fX2_knownBy_11
  have hs_u : StX mdX2_knownBy_11 u u := StX_rf hI
  refine Tot_ite (fun c1013 => ?_) (fun c1013 => ?_)
  · have : (0 : Int) ≤ x2.toInt := leI c1013
    have : (x2 * 8).toInt = x2.toInt * 8 := mulc_t (by decide) (by omega) (by omega)
    have : ((x2 * 8) + x1).toInt = (x2 * 8).toInt + x1.toInt := add_t (by omega) (by omega)
    refine Tot_gd (inb_t (by omega) (by omega)) ?_
    exact Tot_some ⟨hs_u, trivial, trivial⟩
  · have : ¬ (0 : Int) ≤ x2.toInt := nleI c1013
    exact Tot_some ⟨hs_u, trivial, trivial⟩

def mdX2_toldBy_11 : MD := ([], [], [], [])
abbrev qX2_toldBy_11 (u : SX) (q : Int64 × SX) : Prop := StX mdX2_toldBy_11 u q.2 ∧ (True) ∧ (True)
set_option maxHeartbeats 400000 in
set_option maxRecDepth 10000 in
theorem tfX2_toldBy_11 (x1 : Int32) (x2 : Int32) (u : SX) (hI : IX u) (h0 : 0 ≤ x1.toInt ∧ x1.toInt ≤ 7) (h1 : 0 ≤ x2.toInt ∧ x2.toInt ≤ 120) : Tot (fX2_toldBy_11 x1 x2 u) (qX2_toldBy_11 u) := by
  unfold fX2_toldBy_11
  have hs_u : StX mdX2_toldBy_11 u u := StX_rf hI
  have : (x2 * 8).toInt = x2.toInt * 8 := mulc_t (by decide) (by omega) (by omega)
  have : ((x2 * 8) + x1).toInt = (x2 * 8).toInt + x1.toInt := add_t (by omega) (by omega)
  refine Tot_gd (inb_t (by omega) (by omega)) ?_
  exact Tot_some ⟨hs_u, trivial, trivial⟩

def mdX2_deliver_11 : MD := ([], [], [], [70])
abbrev qX2_deliver_11 (u : SX) (q : Int32 × SX) : Prop := StX mdX2_deliver_11 u q.2 ∧ (0 ≤ q.1.toInt ∧ q.1.toInt ≤ 0) ∧ (True)
set_option maxHeartbeats 400000 in
set_option maxRecDepth 10000 in
theorem tGX2_deliver_11_52 (u0 : SX) (g2 : Int) {k2 : Int32 → Int32 → SX → Option (Int32 × SX)} (hk2 : ∀ (z1 : Int32) (z2 : Int32) (u : SX), (StX mdX2_deliver_11 u0 u) → (0 ≤ z1.toInt ∧ z1.toInt ≤ 120) → (0 ≤ z2.toInt ∧ z2.toInt ≤ 60) → (g2 < z2.toInt) → Tot (k2 z1 z2 u) (qX2_deliver_11 u0)) (z1 : Int32) (z2 : Int32) (u : SX) (hs_u : StX mdX2_deliver_11 u0 u) (h0 : 0 ≤ z1.toInt ∧ z1.toInt ≤ 120) (h1 : 0 ≤ z2.toInt ∧ z2.toInt ≤ 59) (h2 : g2 ≤ z2.toInt) : Tot (GX2_deliver_11_52 k2 z1 z2 u) (qX2_deliver_11 u0) := by
  unfold GX2_deliver_11_52
  have : (z2 + 1).toInt = z2.toInt + (1 : Int) := addc_t (by decide) (by omega) (by omega)
  exact hk2 z1 (z2 + 1) u hs_u ⟨by omega, by omega⟩ ⟨by omega, by omega⟩ (by omega)
set_option maxHeartbeats 400000 in
set_option maxRecDepth 10000 in
theorem tLX2_deliver_11_2 (u0 : SX)    : ∀ (n : Nat) (z1 : Int32) (z2 : Int32) (u : SX), (StX mdX2_deliver_11 u0 u) → (0 ≤ z1.toInt ∧ z1.toInt ≤ 120) → (0 ≤ z2.toInt ∧ z2.toInt ≤ 60) → (60 - z2.toInt < (n : Int)) → Tot (LX2_deliver_11_2 n z1 z2 u) (qX2_deliver_11 u0) := by
  intro n
  induction n with
  | zero =>
    intro z1 z2 u hs_u h0 h1 hm
    exfalso
    omega
  | succ n ih =>
    intro z1 z2 u hs_u h0 h1 hm
    rw [LX2_deliver_11_2]
    have : 0 ≤ (u.1 38).toInt ∧ (u.1 38).toInt ≤ 60 := hs_u.1.1 38
    refine Tot_ite (fun c1014 => ?_) (fun c1014 => ?_)
    · have : (u.1 38).toInt ≤ z2.toInt := leI c1014
      exact Tot_some ⟨hs_u, (by show 0 ≤ (0 : Int) ∧ (0 : Int) ≤ 0; omega), trivial⟩
    · have : ¬ (u.1 38).toInt ≤ z2.toInt := nleI c1014
      refine Tot_gd (inb_t (by omega) (by omega)) ?_
      have : 0 ≤ (u.2.1 62 z2.toNatClampNeg).toInt ∧ (u.2.1 62 z2.toNatClampNeg).toInt ≤ 120 := hs_u.1.2.1 62 z2.toNatClampNeg
      refine Tot_ite (fun c1015 => ?_) (fun c1015 => ?_)
      · have : (u.2.1 62 z2.toNatClampNeg).toInt = z1.toInt := eqI c1015
        refine Tot_gd (inb_t (by omega) (by omega)) ?_
        have : (z1 * 8).toInt = z1.toInt * 8 := mulc_t (by decide) (by omega) (by omega)
        have : 0 ≤ (u.2.1 61 z2.toNatClampNeg).toInt ∧ (u.2.1 61 z2.toNatClampNeg).toInt ≤ 7 := hs_u.1.2.1 61 z2.toNatClampNeg
        have : ((z1 * 8) + (u.2.1 61 z2.toNatClampNeg)).toInt = (z1 * 8).toInt + (u.2.1 61 z2.toNatClampNeg).toInt := add_t (by omega) (by omega)
        refine Tot_gd (inb_t (by omega) (by omega)) ?_
        refine Tot_gd (inb_t (by omega) (by omega)) ?_
        have : 0 ≤ (u.2.1 60 z2.toNatClampNeg).toInt ∧ (u.2.1 60 z2.toNatClampNeg).toInt ≤ 7 := hs_u.1.2.1 60 z2.toNatClampNeg
        have : (z1 - 1).toInt = z1.toInt - (1 : Int) := subc_t (by decide) (by omega) (by omega)
        refine Tot_bind (tfX2_knownBy_11 (u.2.1 60 z2.toNatClampNeg) (z1 - 1) u hs_u.1 ⟨by omega, by omega⟩ ⟨by omega, by omega⟩) (fun q hq => ?_)
        obtain ⟨r5, u6⟩ := q
        have hc_u6 : StX mdX2_knownBy_11 u u6 := hq.1
        have hs_u6 : StX mdX2_deliver_11 u0 u6 := StX_tr hs_u hc_u6 (by decide)
        refine Tot_gd (inb_t (by omega) (by omega)) ?_
        refine Tot_lt (fun u9 e_u9 => ?_)
        have hs_u9 : StX mdX2_deliver_11 u0 u9 := by rw [e_u9]; exact StX_sB hs_u6 (by decide)
        exact tGX2_deliver_11_52 u0 (z2.toInt) (fun a1016 a1017 w1018 hw1018 p1019 p1020 p1021 => ih a1016 a1017 w1018 hw1018 p1019 p1020 (by omega)) z1 z2 u9 hs_u9 ⟨by omega, by omega⟩ ⟨by omega, by omega⟩ (by omega)
      · exact tGX2_deliver_11_52 u0 (z2.toInt) (fun a1022 a1023 w1024 hw1024 p1025 p1026 p1027 => ih a1022 a1023 w1024 hw1024 p1025 p1026 (by omega)) z1 z2 u hs_u ⟨by omega, by omega⟩ ⟨by omega, by omega⟩ (by omega)
set_option maxHeartbeats 400000 in
set_option maxRecDepth 10000 in
theorem tfX2_deliver_11 (x1 : Int32) (u : SX) (hI : IX u) (h0 : 0 ≤ x1.toInt ∧ x1.toInt ≤ 120) : Tot (fX2_deliver_11 x1 u) (qX2_deliver_11 u) := by
  unfold fX2_deliver_11
  have hs_u : StX mdX2_deliver_11 u u := StX_rf hI
  exact tLX2_deliver_11_2 u 5000 x1 0 u hs_u ⟨by omega, by omega⟩ (by show 0 ≤ (0 : Int) ∧ (0 : Int) ≤ 60; omega) (by show 60 - (0 : Int) < ((5000 : Nat) : Int); omega)

def mdX2_settle_11 : MD := ([39], [], [], [70])
abbrev qX2_settle_11 (u : SX) (q : Int32 × SX) : Prop := StX mdX2_settle_11 u q.2 ∧ (0 ≤ q.1.toInt ∧ q.1.toInt ≤ 0) ∧ (True)
set_option maxHeartbeats 400000 in
set_option maxRecDepth 10000 in
theorem tLX2_settle_11_12 (u0 : SX) (g5 : Int) {k50 : Int32 → Int32 → SX → Option (Int32 × SX)} (hk50 : ∀ (z1 : Int32) (z2 : Int32) (u : SX), (StX mdX2_settle_11 u0 u) → (0 ≤ z1.toInt ∧ z1.toInt ≤ 120) → (0 ≤ z2.toInt ∧ z2.toInt ≤ 120) → (g5 ≤ z2.toInt) → Tot (k50 z1 z2 u) (qX2_settle_11 u0)) : ∀ (n : Nat) (z1 : Int32) (z2 : Int32) (z3 : Int32) (u : SX), (StX mdX2_settle_11 u0 u) → (0 ≤ z1.toInt ∧ z1.toInt ≤ 120) → (0 ≤ z2.toInt ∧ z2.toInt ≤ 120) → (0 ≤ z3.toInt ∧ z3.toInt ≤ 8) → (g5 ≤ z2.toInt) → (8 - z3.toInt < (n : Int)) → Tot (LX2_settle_11_12 k50 n z1 z2 z3 u) (qX2_settle_11 u0) := by
  intro n
  induction n with
  | zero =>
    intro z1 z2 z3 u hs_u h0 h1 h2 h3 hm
    exfalso
    omega
  | succ n ih =>
    intro z1 z2 z3 u hs_u h0 h1 h2 h3 hm
    rw [LX2_settle_11_12]
    refine Tot_ite (fun c1028 => ?_) (fun c1028 => ?_)
    · have : (8 : Int) ≤ z3.toInt := leI c1028
      exact hk50 z1 z2 u hs_u ⟨by omega, by omega⟩ ⟨by omega, by omega⟩ (by omega)
    · have : ¬ (8 : Int) ≤ z3.toInt := nleI c1028
      have : (z2 - 1).toInt = z2.toInt - (1 : Int) := subc_t (by decide) (by omega) (by omega)
      refine Tot_bind (tfX2_knownBy_11 z3 (z2 - 1) u hs_u.1 ⟨by omega, by omega⟩ ⟨by omega, by omega⟩) (fun q hq => ?_)
      obtain ⟨r3, u4⟩ := q
      have hc_u4 : StX mdX2_knownBy_11 u u4 := hq.1
      have hs_u4 : StX mdX2_settle_11 u0 u4 := StX_tr hs_u hc_u4 (by decide)
      refine Tot_bind (tfX2_toldBy_11 z3 z2 u4 hs_u4.1 ⟨by omega, by omega⟩ ⟨by omega, by omega⟩) (fun q hq => ?_)
      obtain ⟨r6, u7⟩ := q
      have hc_u7 : StX mdX2_toldBy_11 u4 u7 := hq.1
      have hs_u7 : StX mdX2_settle_11 u0 u7 := StX_tr hs_u4 hc_u7 (by decide)
      have : (z2 * 8).toInt = z2.toInt * 8 := mulc_t (by decide) (by omega) (by omega)
      have : ((z2 * 8) + z3).toInt = (z2 * 8).toInt + z3.toInt := add_t (by omega) (by omega)
      refine Tot_gd (inb_t (by omega) (by omega)) ?_
      refine Tot_lt (fun u10 e_u10 => ?_)
      have hs_u10 : StX mdX2_settle_11 u0 u10 := by rw [e_u10]; exact StX_sB hs_u7 (by decide)
      have : (z3 + 1).toInt = z3.toInt + (1 : Int) := addc_t (by decide) (by omega) (by omega)
      exact ih z1 z2 (z3 + 1) u10 hs_u10 ⟨by omega, by omega⟩ ⟨by omega, by omega⟩ ⟨by omega, by omega⟩ (by omega) (by omega)
set_option maxHeartbeats 400000 in
set_option maxRecDepth 10000 in
theorem tGX2_settle_11_64 (u0 : SX) (g5 : Int) {k5 : Int32 → Int32 → SX → Option (Int32 × SX)} (hk5 : ∀ (z1 : Int32) (z2 : Int32) (u : SX), (StX mdX2_settle_11 u0 u) → (0 ≤ z1.toInt ∧ z1.toInt ≤ 120) → (0 ≤ z2.toInt ∧ z2.toInt ≤ 121) → (g5 < z2.toInt) → Tot (k5 z1 z2 u) (qX2_settle_11 u0)) (z1 : Int32) (z2 : Int32) (u : SX) (hs_u : StX mdX2_settle_11 u0 u) (h0 : 0 ≤ z1.toInt ∧ z1.toInt ≤ 120) (h1 : 0 ≤ z2.toInt ∧ z2.toInt ≤ 120) (h2 : g5 ≤ z2.toInt) : Tot (GX2_settle_11_64 k5 z1 z2 u) (qX2_settle_11 u0) := by
  unfold GX2_settle_11_64
  have : (z2 + 1).toInt = z2.toInt + (1 : Int) := addc_t (by decide) (by omega) (by omega)
  exact hk5 z1 (z2 + 1) u hs_u ⟨by omega, by omega⟩ ⟨by omega, by omega⟩ (by omega)
set_option maxHeartbeats 400000 in
set_option maxRecDepth 10000 in
theorem tGX2_settle_11_50 (u0 : SX) (g5 : Int) {k5 : Int32 → Int32 → SX → Option (Int32 × SX)} (hk5 : ∀ (z1 : Int32) (z2 : Int32) (u : SX), (StX mdX2_settle_11 u0 u) → (0 ≤ z1.toInt ∧ z1.toInt ≤ 120) → (0 ≤ z2.toInt ∧ z2.toInt ≤ 121) → (g5 < z2.toInt) → Tot (k5 z1 z2 u) (qX2_settle_11 u0)) (z1 : Int32) (z2 : Int32) (u : SX) (hs_u : StX mdX2_settle_11 u0 u) (h0 : 0 ≤ z1.toInt ∧ z1.toInt ≤ 120) (h1 : 0 ≤ z2.toInt ∧ z2.toInt ≤ 120) (h2 : g5 ≤ z2.toInt) : Tot (GX2_settle_11_50 k5 z1 z2 u) (qX2_settle_11 u0) := by
  unfold GX2_settle_11_50
  refine Tot_gd (inb_t (by omega) (by omega)) ?_
  have : 0 ≤ (u.2.1 59 z2.toNatClampNeg).toInt ∧ (u.2.1 59 z2.toNatClampNeg).toInt ≤ 1 := hs_u.1.2.1 59 z2.toNatClampNeg
  refine Tot_ite (fun c1029 => ?_) (fun c1029 => ?_)
  · have : (u.2.1 59 z2.toNatClampNeg).toInt = (0 : Int) := eqI c1029
    exact tGX2_settle_11_64 u0 g5 hk5 z1 z2 u hs_u ⟨by omega, by omega⟩ ⟨by omega, by omega⟩ (by omega)
  · have : ¬ (u.2.1 59 z2.toNatClampNeg).toInt = (0 : Int) := neI c1029
    refine Tot_bind (tfX2_deliver_11 z2 u hs_u.1 ⟨by omega, by omega⟩) (fun q hq => ?_)
    obtain ⟨r13, u14⟩ := q
    have hc_u14 : StX mdX2_deliver_11 u u14 := hq.1
    have hs_u14 : StX mdX2_settle_11 u0 u14 := StX_tr hs_u hc_u14 (by decide)
    have : 0 ≤ r13.toInt ∧ r13.toInt ≤ 0 := hq.2.1
    exact tGX2_settle_11_64 u0 g5 hk5 z1 z2 u14 hs_u14 ⟨by omega, by omega⟩ ⟨by omega, by omega⟩ (by omega)
set_option maxHeartbeats 400000 in
set_option maxRecDepth 10000 in
theorem tLX2_settle_11_5 (u0 : SX)  {k70 : Int32 → SX → Option (Int32 × SX)} (hk70 : ∀ (z1 : Int32) (u : SX), (StX mdX2_settle_11 u0 u) → (0 ≤ z1.toInt ∧ z1.toInt ≤ 120) → Tot (k70 z1 u) (qX2_settle_11 u0)) : ∀ (n : Nat) (z1 : Int32) (z2 : Int32) (u : SX), (StX mdX2_settle_11 u0 u) → (0 ≤ z1.toInt ∧ z1.toInt ≤ 120) → (0 ≤ z2.toInt ∧ z2.toInt ≤ 121) → (121 - z2.toInt < (n : Int)) → Tot (LX2_settle_11_5 k70 n z1 z2 u) (qX2_settle_11 u0) := by
  intro n
  induction n with
  | zero =>
    intro z1 z2 u hs_u h0 h1 hm
    exfalso
    omega
  | succ n ih =>
    intro z1 z2 u hs_u h0 h1 hm
    rw [LX2_settle_11_5]
    refine Tot_ite (fun c1030 => ?_) (fun c1030 => ?_)
    · have : z1.toInt < z2.toInt := ltI c1030
      exact hk70 z1 u hs_u ⟨by omega, by omega⟩
    · have : ¬ z1.toInt < z2.toInt := nltI c1030
      exact tLX2_settle_11_12 u0 (z2.toInt) (tGX2_settle_11_50 u0 (z2.toInt) (fun a1031 a1032 w1033 hw1033 p1034 p1035 p1036 => ih a1031 a1032 w1033 hw1033 p1034 p1035 (by omega))) 5000 z1 z2 0 u hs_u ⟨by omega, by omega⟩ ⟨by omega, by omega⟩ (by show 0 ≤ (0 : Int) ∧ (0 : Int) ≤ 8; omega) (by omega) (by show 8 - (0 : Int) < ((5000 : Nat) : Int); omega)
set_option maxHeartbeats 400000 in
set_option maxRecDepth 10000 in
theorem tGX2_settle_11_70 (u0 : SX)    (z1 : Int32) (u : SX) (hs_u : StX mdX2_settle_11 u0 u) (h0 : 0 ≤ z1.toInt ∧ z1.toInt ≤ 120) : Tot (GX2_settle_11_70 z1 u) (qX2_settle_11 u0) := by
  unfold GX2_settle_11_70
  have : 0 ≤ (u.1 39).toInt ∧ (u.1 39).toInt ≤ 121 := hs_u.1.1 39
  have : (z1 + 1).toInt = z1.toInt + (1 : Int) := addc_t (by decide) (by omega) (by omega)
  have : ((u.1 39).toInt < (z1 + 1).toInt ∧ (if (u.1 39) < (z1 + 1) then (z1 + 1) else (u.1 39)).toInt = (z1 + 1).toInt) ∨ (¬ (u.1 39).toInt < (z1 + 1).toInt ∧ (if (u.1 39) < (z1 + 1) then (z1 + 1) else (u.1 39)).toInt = (u.1 39).toInt) := ite_lt_t (x := (u.1 39)) (y := (z1 + 1)) (p := (z1 + 1)) (q := (u.1 39))
  refine Tot_lt (fun u16 e_u16 => ?_)
  have hs_u16 : StX mdX2_settle_11 u0 u16 := by rw [e_u16]; exact StX_sI hs_u (by decide) (by show 0 ≤ (if (u.1 39) < (z1 + 1) then (z1 + 1) else (u.1 39)).toInt; omega) (by show (if (u.1 39) < (z1 + 1) then (z1 + 1) else (u.1 39)).toInt ≤ 121; omega)
  exact Tot_some ⟨hs_u16, (by show 0 ≤ (0 : Int) ∧ (0 : Int) ≤ 0; omega), trivial⟩
set_option maxHeartbeats 400000 in
set_option maxRecDepth 10000 in
theorem tfX2_settle_11 (x1 : Int32) (u : SX) (hI : IX u) (h0 : 0 ≤ x1.toInt ∧ x1.toInt ≤ 120) : Tot (fX2_settle_11 x1 u) (qX2_settle_11 u) := by
  unfold fX2_settle_11
  have hs_u : StX mdX2_settle_11 u u := StX_rf hI
  have : 0 ≤ (u.1 39).toInt ∧ (u.1 39).toInt ≤ 121 := hs_u.1.1 39
  refine Tot_lt (fun v1 e_v1 => ?_)
  have : v1.toInt = (u.1 39).toInt := congrArg Int32.toInt e_v1
  exact tLX2_settle_11_5 u (tGX2_settle_11_70 u) 5000 x1 v1 u hs_u ⟨by omega, by omega⟩ ⟨by omega, by omega⟩ (by show 121 - v1.toInt < ((5000 : Nat) : Int); omega)

def mdX11_knows_0 : MD := ([39], [], [], [70])
abbrev qX11_knows_0 (u : SX) (q : Int32 × SX) : Prop := StX mdX11_knows_0 u q.2 ∧ ((-1) ≤ q.1.toInt ∧ q.1.toInt ≤ 1) ∧ (True)
set_option maxHeartbeats 400000 in
set_option maxRecDepth 10000 in
theorem tGX11_knows_0_81 (u0 : SX)    (z1 : Int32) (z4 : Int32) (y0 : Int64) (u : SX) (hs_u : StX mdX11_knows_0 u0 u) (h0 : 0 ≤ z1.toInt ∧ z1.toInt ≤ 7) (h1 : 0 ≤ z4.toInt ∧ z4.toInt ≤ 120) : Tot (GX11_knows_0_81 z1 z4 y0 u) (qX11_knows_0 u0) := by
  unfold GX11_knows_0_81
  refine Tot_bind (tfX2_knownBy_11 z1 z4 u hs_u.1 ⟨by omega, by omega⟩ ⟨by omega, by omega⟩) (fun q hq => ?_)
  obtain ⟨r16, u17⟩ := q
  have hc_u17 : StX mdX2_knownBy_11 u u17 := hq.1
  have hs_u17 : StX mdX11_knows_0 u0 u17 := StX_tr hs_u hc_u17 (by decide)
  refine Tot_ite (fun c1037 => ?_) (fun c1037 => ?_)
  · exact Tot_some ⟨hs_u17, (by show (-1) ≤ (0 : Int) ∧ (0 : Int) ≤ 1; omega), trivial⟩
  · exact Tot_some ⟨hs_u17, (by show (-1) ≤ (1 : Int) ∧ (1 : Int) ≤ 1; omega), trivial⟩
set_option maxHeartbeats 400000 in
set_option maxRecDepth 10000 in
theorem tGX11_knows_0_21 (u0 : SX)    (z1 : Int32) (z2 : Int32) (z3 : Int32) (z4 : Int32) (y0 : Int32) (u : SX) (hs_u : StX mdX11_knows_0 u0 u) (h0 : 0 ≤ z2.toInt ∧ z2.toInt ≤ 1) (h1 : 0 ≤ y0.toInt ∧ y0.toInt ≤ 40) : Tot (GX11_knows_0_21 z1 z2 z3 z4 y0 u) (qX11_knows_0 u0) := by
  unfold GX11_knows_0_21
  refine Tot_bind (tfX2_has_11 z1 u hs_u.1) (fun q hq => ?_)
  obtain ⟨r1, u2⟩ := q
  have hc_u2 : StX mdX2_has_11 u u2 := hq.1
  have hs_u2 : StX mdX11_knows_0 u0 u2 := StX_tr hs_u hc_u2 (by decide)
  have : 0 ≤ r1.toInt ∧ r1.toInt ≤ 1 := hq.2.1
  have : 0 ≤ (u.1 35).toInt ∧ (u.1 35).toInt ≤ 8 := hs_u.1.1 35
  have : r1.toInt ≠ 0 → ((0 : Int) ≤ z1.toInt ∧ z1.toInt < (u.1 35).toInt) := hq.2.2
  refine Tot_ite (fun c1038 => ?_) (fun c1038 => ?_)
  · have : r1.toInt = (0 : Int) := eqI c1038
    exact Tot_some ⟨hs_u2, (by show (-1) ≤ (-1 : Int) ∧ (-1 : Int) ≤ 1; omega), trivial⟩
  · have : ¬ r1.toInt = (0 : Int) := neI c1038
    have : (y0 - 1).toInt = y0.toInt - (1 : Int) := subc_t (by decide) (by omega) (by omega)
    refine Tot_bind (tfX11_within z3 0 (y0 - 1)) (fun r4 hq => ?_)
    have : 0 ≤ r4.toInt ∧ r4.toInt ≤ 1 := hq.1
    have : r4.toInt ≠ 0 → ((0 : Int) ≤ z3.toInt ∧ z3.toInt ≤ (y0 - 1).toInt) := hq.2
    refine Tot_ite (fun c1039 => ?_) (fun c1039 => ?_)
    · have : r4.toInt = (0 : Int) := eqI c1039
      exact Tot_some ⟨hs_u2, (by show (-1) ≤ (-1 : Int) ∧ (-1 : Int) ≤ 1; omega), trivial⟩
    · have : ¬ r4.toInt = (0 : Int) := neI c1039
      refine Tot_bind (tfX11_isDay_0 z4 u2 hs_u2.1) (fun q hq => ?_)
      obtain ⟨r7, u8⟩ := q
      have hc_u8 : StX mdX11_isDay_0 u2 u8 := hq.1
      have hs_u8 : StX mdX11_knows_0 u0 u8 := StX_tr hs_u2 hc_u8 (by decide)
      have : 0 ≤ r7.toInt ∧ r7.toInt ≤ 1 := hq.2.1
      have : (u2.1 0).toInt = (u.1 0).toInt := congrArg Int32.toInt (hc_u2.2.1 0 (by decide))
      have : 0 ≤ (u.1 0).toInt ∧ (u.1 0).toInt ≤ 120 := hs_u.1.1 0
      have : r7.toInt ≠ 0 → ((0 : Int) ≤ z4.toInt ∧ z4.toInt ≤ (u2.1 0).toInt) := hq.2.2
      refine Tot_ite (fun c1040 => ?_) (fun c1040 => ?_)
      · have : r7.toInt = (0 : Int) := eqI c1040
        exact Tot_some ⟨hs_u8, (by show (-1) ≤ (-1 : Int) ∧ (-1 : Int) ≤ 1; omega), trivial⟩
      · have : ¬ r7.toInt = (0 : Int) := neI c1040
        refine Tot_bind (tfX2_settle_11 z4 u8 hs_u8.1 ⟨by omega, by omega⟩) (fun q hq => ?_)
        obtain ⟨r10, u11⟩ := q
        have hc_u11 : StX mdX2_settle_11 u8 u11 := hq.1
        have hs_u11 : StX mdX11_knows_0 u0 u11 := StX_tr hs_u8 hc_u11 (by decide)
        have : 0 ≤ r10.toInt ∧ r10.toInt ≤ 0 := hq.2.1
        refine Tot_ite (fun c1041 => ?_) (fun c1041 => ?_)
        · have : z2.toInt = (0 : Int) := eqI c1041
          refine Tot_bind (tfX2_printBit z3 ⟨by omega, by omega⟩) (fun r13 hq => ?_)
          exact tGX11_knows_0_81 u0 z1 z4 r13 u11 hs_u11 ⟨by omega, by omega⟩ ⟨by omega, by omega⟩
        · have : ¬ z2.toInt = (0 : Int) := neI c1041
          refine Tot_bind (tfX2_paperBit z3 ⟨by omega, by omega⟩) (fun r19 hq => ?_)
          exact tGX11_knows_0_81 u0 z1 z4 r19 u11 hs_u11 ⟨by omega, by omega⟩ ⟨by omega, by omega⟩
set_option maxHeartbeats 400000 in
set_option maxRecDepth 10000 in
theorem tfX11_knows_0 (x1 : Int32) (x2 : Int32) (x3 : Int32) (x4 : Int32) (u : SX) (hI : IX u) (h0 : 0 ≤ x2.toInt ∧ x2.toInt ≤ 1) : Tot (fX11_knows_0 x1 x2 x3 x4 u) (qX11_knows_0 u) := by
  unfold fX11_knows_0
  have hs_u : StX mdX11_knows_0 u u := StX_rf hI
  refine Tot_ite (fun c1042 => ?_) (fun c1042 => ?_)
  · have : x2.toInt = (0 : Int) := eqI c1042
    have : 0 ≤ (u.1 36).toInt ∧ (u.1 36).toInt ≤ 40 := hs_u.1.1 36
    exact tGX11_knows_0_21 u x1 x2 x3 x4 (u.1 36) u hs_u ⟨by omega, by omega⟩ ⟨by omega, by omega⟩
  · have : ¬ x2.toInt = (0 : Int) := neI c1042
    have : 0 ≤ (u.1 37).toInt ∧ (u.1 37).toInt ≤ 20 := hs_u.1.1 37
    exact tGX11_knows_0_21 u x1 x2 x3 x4 (u.1 37) u hs_u ⟨by omega, by omega⟩ ⟨by omega, by omega⟩

def mdX2_areMet_11 : MD := ([], [], [], [])
abbrev qX2_areMet_11 (u : SX) (q : Int32 × SX) : Prop := StX mdX2_areMet_11 u q.2 ∧ (0 ≤ q.1.toInt ∧ q.1.toInt ≤ 1) ∧ (True)
set_option maxHeartbeats 400000 in
set_option maxRecDepth 10000 in
theorem tGX2_areMet_11_52 (u0 : SX) (g18 : Int) {k18 : Int64 → Int32 → SX → Option (Int32 × SX)} (hk18 : ∀ (z1 : Int64) (z3 : Int32) (u : SX), (StX mdX2_areMet_11 u0 u) → (0 ≤ z3.toInt ∧ z3.toInt ≤ 40) → (g18 < z3.toInt) → Tot (k18 z1 z3 u) (qX2_areMet_11 u0)) (z1 : Int64) (z3 : Int32) (u : SX) (hs_u : StX mdX2_areMet_11 u0 u) (h0 : 0 ≤ z3.toInt ∧ z3.toInt ≤ 39) (h1 : g18 ≤ z3.toInt) : Tot (GX2_areMet_11_52 k18 z1 z3 u) (qX2_areMet_11 u0) := by
  unfold GX2_areMet_11_52
  have : (z3 + 1).toInt = z3.toInt + (1 : Int) := addc_t (by decide) (by omega) (by omega)
  exact hk18 z1 (z3 + 1) u hs_u ⟨by omega, by omega⟩ (by omega)
set_option maxHeartbeats 400000 in
set_option maxRecDepth 10000 in
theorem tLX2_areMet_11_18 (u0 : SX)    : ∀ (n : Nat) (z1 : Int64) (z3 : Int32) (u : SX), (StX mdX2_areMet_11 u0 u) → (0 ≤ z3.toInt ∧ z3.toInt ≤ 40) → (40 - z3.toInt < (n : Int)) → Tot (LX2_areMet_11_18 n z1 z3 u) (qX2_areMet_11 u0) := by
  intro n
  induction n with
  | zero =>
    intro z1 z3 u hs_u h0 hm
    exfalso
    omega
  | succ n ih =>
    intro z1 z3 u hs_u h0 hm
    rw [LX2_areMet_11_18]
    have : 0 ≤ (u.1 36).toInt ∧ (u.1 36).toInt ≤ 40 := hs_u.1.1 36
    refine Tot_ite (fun c1043 => ?_) (fun c1043 => ?_)
    · have : (u.1 36).toInt ≤ z3.toInt := leI c1043
      refine Tot_gd (by decide) ?_
      exact Tot_some ⟨hs_u, (by show 0 ≤ (0 : Int) ∧ (0 : Int) ≤ 1; omega), trivial⟩
    · have : ¬ (u.1 36).toInt ≤ z3.toInt := nleI c1043
      refine Tot_bind (tfX2_printBit z3 ⟨by omega, by omega⟩) (fun r2 hq => ?_)
      refine Tot_ite (fun c1044 => ?_) (fun c1044 => ?_)
      · exact tGX2_areMet_11_52 u0 (z3.toInt) (fun a1045 a1046 w1047 hw1047 p1048 p1049 => ih a1045 a1046 w1047 hw1047 p1048 (by omega)) z1 z3 u hs_u ⟨by omega, by omega⟩ (by omega)
      · refine Tot_gd (inb_t (by omega) (by omega)) ?_
        refine Tot_ite (fun c1050 => ?_) (fun c1050 => ?_)
        · exact tGX2_areMet_11_52 u0 (z3.toInt) (fun a1051 a1052 w1053 hw1053 p1054 p1055 => ih a1051 a1052 w1053 hw1053 p1054 (by omega)) z1 z3 u hs_u ⟨by omega, by omega⟩ (by omega)
        · refine Tot_gd (by decide) ?_
          exact Tot_some ⟨hs_u, (by show 0 ≤ (1 : Int) ∧ (1 : Int) ≤ 1; omega), trivial⟩
set_option maxHeartbeats 400000 in
set_option maxRecDepth 10000 in
theorem tfX2_areMet_11 (x1 : Int64) (u : SX) (hI : IX u)  : Tot (fX2_areMet_11 x1 u) (qX2_areMet_11 u) := by
  unfold fX2_areMet_11
  have hs_u : StX mdX2_areMet_11 u u := StX_rf hI
  refine Tot_ite (fun c1056 => ?_) (fun c1056 => ?_)
  · refine Tot_gd (by decide) ?_
    exact Tot_some ⟨hs_u, (by show 0 ≤ (0 : Int) ∧ (0 : Int) ≤ 1; omega), trivial⟩
  · exact tLX2_areMet_11_18 u 5000 x1 0 u hs_u (by show 0 ≤ (0 : Int) ∧ (0 : Int) ≤ 40; omega) (by show 40 - (0 : Int) < ((5000 : Nat) : Int); omega)

def mdX4_firstDay_12 : MD := ([], [], [], [])
abbrev qX4_firstDay_12 (u : SX) (q : Int32 × SX) : Prop := StX mdX4_firstDay_12 u q.2 ∧ ((-1) ≤ q.1.toInt ∧ q.1.toInt ≤ 120) ∧ (True)
set_option maxHeartbeats 400000 in
set_option maxRecDepth 10000 in
theorem tLX4_firstDay_12_9 (u0 : SX) (g2 : Int) {k59 : Int32 → Int32 → SX → Option (Int32 × SX)} (hk59 : ∀ (z1 : Int32) (z2 : Int32) (u : SX), (StX mdX4_firstDay_12 u0 u) → (0 ≤ z1.toInt ∧ z1.toInt ≤ 120) → (0 ≤ z2.toInt ∧ z2.toInt ≤ 120) → (g2 ≤ z2.toInt) → Tot (k59 z1 z2 u) (qX4_firstDay_12 u0)) : ∀ (n : Nat) (z1 : Int32) (z2 : Int32) (z3 : Int32) (u : SX), (StX mdX4_firstDay_12 u0 u) → (0 ≤ z1.toInt ∧ z1.toInt ≤ 120) → (0 ≤ z2.toInt ∧ z2.toInt ≤ 120) → (0 ≤ z3.toInt ∧ z3.toInt ≤ 8) → (g2 ≤ z2.toInt) → (8 - z3.toInt < (n : Int)) → Tot (LX4_firstDay_12_9 k59 n z1 z2 z3 u) (qX4_firstDay_12 u0) := by
  intro n
  induction n with
  | zero =>
    intro z1 z2 z3 u hs_u h0 h1 h2 h3 hm
    exfalso
    omega
  | succ n ih =>
    intro z1 z2 z3 u hs_u h0 h1 h2 h3 hm
    rw [LX4_firstDay_12_9]
    refine Tot_gd (inb_t (by omega) (by omega)) ?_
    have : 0 ≤ (u.2.1 59 z2.toNatClampNeg).toInt ∧ (u.2.1 59 z2.toNatClampNeg).toInt ≤ 1 := hs_u.1.2.1 59 z2.toNatClampNeg
    refine Tot_ite (fun c1057 => ?_) (fun c1057 => ?_)
    · have : (u.2.1 59 z2.toNatClampNeg).toInt = (0 : Int) := eqI c1057
      exact hk59 z1 z2 u hs_u ⟨by omega, by omega⟩ ⟨by omega, by omega⟩ (by omega)
    · have : ¬ (u.2.1 59 z2.toNatClampNeg).toInt = (0 : Int) := neI c1057
      have : 0 ≤ (u.1 35).toInt ∧ (u.1 35).toInt ≤ 8 := hs_u.1.1 35
      refine Tot_ite (fun c1058 => ?_) (fun c1058 => ?_)
      · have : (u.1 35).toInt ≤ z3.toInt := leI c1058
        exact hk59 z1 z2 u hs_u ⟨by omega, by omega⟩ ⟨by omega, by omega⟩ (by omega)
      · have : ¬ (u.1 35).toInt ≤ z3.toInt := nleI c1058
        refine Tot_bind (tfX2_knownBy_11 z3 z2 u hs_u.1 ⟨by omega, by omega⟩ ⟨by omega, by omega⟩) (fun q hq => ?_)
        obtain ⟨r2, u3⟩ := q
        have hc_u3 : StX mdX2_knownBy_11 u u3 := hq.1
        have hs_u3 : StX mdX4_firstDay_12 u0 u3 := StX_tr hs_u hc_u3 (by decide)
        refine Tot_bind (tfX2_areMet_11 r2 u3 hs_u3.1) (fun q hq => ?_)
        obtain ⟨r5, u6⟩ := q
        have hc_u6 : StX mdX2_areMet_11 u3 u6 := hq.1
        have hs_u6 : StX mdX4_firstDay_12 u0 u6 := StX_tr hs_u3 hc_u6 (by decide)
        have : 0 ≤ r5.toInt ∧ r5.toInt ≤ 1 := hq.2.1
        refine Tot_ite (fun c1059 => ?_) (fun c1059 => ?_)
        · have : r5.toInt = (0 : Int) := eqI c1059
          have : (z3 + 1).toInt = z3.toInt + (1 : Int) := addc_t (by decide) (by omega) (by omega)
          exact ih z1 z2 (z3 + 1) u6 hs_u6 ⟨by omega, by omega⟩ ⟨by omega, by omega⟩ ⟨by omega, by omega⟩ (by omega) (by omega)
        · have : ¬ r5.toInt = (0 : Int) := neI c1059
          exact Tot_some ⟨hs_u6, (by show (-1) ≤ z2.toInt ∧ z2.toInt ≤ 120; omega), trivial⟩
set_option maxHeartbeats 400000 in
set_option maxRecDepth 10000 in
theorem tGX4_firstDay_12_59 (u0 : SX) (g2 : Int) {k2 : Int32 → Int32 → SX → Option (Int32 × SX)} (hk2 : ∀ (z1 : Int32) (z2 : Int32) (u : SX), (StX mdX4_firstDay_12 u0 u) → (0 ≤ z1.toInt ∧ z1.toInt ≤ 120) → (0 ≤ z2.toInt ∧ z2.toInt ≤ 121) → (g2 < z2.toInt) → Tot (k2 z1 z2 u) (qX4_firstDay_12 u0)) (z1 : Int32) (z2 : Int32) (u : SX) (hs_u : StX mdX4_firstDay_12 u0 u) (h0 : 0 ≤ z1.toInt ∧ z1.toInt ≤ 120) (h1 : 0 ≤ z2.toInt ∧ z2.toInt ≤ 120) (h2 : g2 ≤ z2.toInt) : Tot (GX4_firstDay_12_59 k2 z1 z2 u) (qX4_firstDay_12 u0) := by
  unfold GX4_firstDay_12_59
  have : (z2 + 1).toInt = z2.toInt + (1 : Int) := addc_t (by decide) (by omega) (by omega)
  exact hk2 z1 (z2 + 1) u hs_u ⟨by omega, by omega⟩ ⟨by omega, by omega⟩ (by omega)
set_option maxHeartbeats 400000 in
set_option maxRecDepth 10000 in
theorem tLX4_firstDay_12_2 (u0 : SX)    : ∀ (n : Nat) (z1 : Int32) (z2 : Int32) (u : SX), (StX mdX4_firstDay_12 u0 u) → (0 ≤ z1.toInt ∧ z1.toInt ≤ 120) → (0 ≤ z2.toInt ∧ z2.toInt ≤ 121) → (121 - z2.toInt < (n : Int)) → Tot (LX4_firstDay_12_2 n z1 z2 u) (qX4_firstDay_12 u0) := by
  intro n
  induction n with
  | zero =>
    intro z1 z2 u hs_u h0 h1 hm
    exfalso
    omega
  | succ n ih =>
    intro z1 z2 u hs_u h0 h1 hm
    rw [LX4_firstDay_12_2]
    refine Tot_ite (fun c1060 => ?_) (fun c1060 => ?_)
    · have : z1.toInt < z2.toInt := ltI c1060
      exact Tot_some ⟨hs_u, (by show (-1) ≤ (-1 : Int) ∧ (-1 : Int) ≤ 120; omega), trivial⟩
    · have : ¬ z1.toInt < z2.toInt := nltI c1060
      exact tLX4_firstDay_12_9 u0 (z2.toInt) (tGX4_firstDay_12_59 u0 (z2.toInt) (fun a1061 a1062 w1063 hw1063 p1064 p1065 p1066 => ih a1061 a1062 w1063 hw1063 p1064 p1065 (by omega))) 5000 z1 z2 0 u hs_u ⟨by omega, by omega⟩ ⟨by omega, by omega⟩ (by show 0 ≤ (0 : Int) ∧ (0 : Int) ≤ 8; omega) (by omega) (by show 8 - (0 : Int) < ((5000 : Nat) : Int); omega)
set_option maxHeartbeats 400000 in
set_option maxRecDepth 10000 in
theorem tfX4_firstDay_12 (x1 : Int32) (u : SX) (hI : IX u) (h0 : 0 ≤ x1.toInt ∧ x1.toInt ≤ 120) : Tot (fX4_firstDay_12 x1 u) (qX4_firstDay_12 u) := by
  unfold fX4_firstDay_12
  have hs_u : StX mdX4_firstDay_12 u u := StX_rf hI
  exact tLX4_firstDay_12_2 u 5000 x1 0 u hs_u ⟨by omega, by omega⟩ (by show 0 ≤ (0 : Int) ∧ (0 : Int) ≤ 121; omega) (by show 121 - (0 : Int) < ((5000 : Nat) : Int); omega)

def mdX11_met_0 : MD := ([39], [], [], [70])
abbrev qX11_met_0 (u : SX) (q : Int32 × SX) : Prop := StX mdX11_met_0 u q.2 ∧ ((-1) ≤ q.1.toInt ∧ q.1.toInt ≤ 120) ∧ (True)
set_option maxHeartbeats 400000 in
set_option maxRecDepth 10000 in
theorem tfX11_met_0  (u : SX) (hI : IX u)  : Tot (fX11_met_0  u) (qX11_met_0 u) := by
  unfold fX11_met_0
  have hs_u : StX mdX11_met_0 u u := StX_rf hI
  have : 0 ≤ (u.1 0).toInt ∧ (u.1 0).toInt ≤ 120 := hs_u.1.1 0
  refine Tot_bind (tfX2_settle_11 (u.1 0) u hs_u.1 ⟨by omega, by omega⟩) (fun q hq => ?_)
  obtain ⟨r1, u2⟩ := q
  have hc_u2 : StX mdX2_settle_11 u u2 := hq.1
  have hs_u2 : StX mdX11_met_0 u u2 := StX_tr hs_u hc_u2 (by decide)
  have : 0 ≤ r1.toInt ∧ r1.toInt ≤ 0 := hq.2.1
  have : (u2.1 0).toInt = (u.1 0).toInt := congrArg Int32.toInt (hc_u2.2.1 0 (by decide))
  refine Tot_bind (tfX4_firstDay_12 (u2.1 0) u2 hs_u2.1 ⟨by omega, by omega⟩) (fun q hq => ?_)
  obtain ⟨r4, u5⟩ := q
  have hc_u5 : StX mdX4_firstDay_12 u2 u5 := hq.1
  have hs_u5 : StX mdX11_met_0 u u5 := StX_tr hs_u2 hc_u5 (by decide)
  have : (-1) ≤ r4.toInt ∧ r4.toInt ≤ 120 := hq.2.1
  exact Tot_some ⟨hs_u5, (by show (-1) ≤ r4.toInt ∧ r4.toInt ≤ 120; omega), trivial⟩

def mdX11_rowsUpTo_a62 : MD := ([], [], [], [])
abbrev qX11_rowsUpTo_a62 (u : SX) (q : Int32 × SX) : Prop := StX mdX11_rowsUpTo_a62 u q.2 ∧ (0 ≤ q.1.toInt ∧ q.1.toInt ≤ 60) ∧ (True)
set_option maxHeartbeats 400000 in
set_option maxRecDepth 10000 in
theorem tLX11_rowsUpTo_a62_11 (u0 : SX)  {k31 : Int32 → Int32 → SX → Option (Int32 × SX)} (hk31 : ∀ (z0 : Int32) (z4 : Int32) (u : SX), (StX mdX11_rowsUpTo_a62 u0 u) → (1 ≤ z0.toInt ∧ z0.toInt ≤ 120) → (0 ≤ z4.toInt ∧ z4.toInt ≤ 60) → Tot (k31 z0 z4 u) (qX11_rowsUpTo_a62 u0)) : ∀ (n : Nat) (z0 : Int32) (z2 : Int32) (z4 : Int32) (u : SX), (StX mdX11_rowsUpTo_a62 u0 u) → (1 ≤ z0.toInt ∧ z0.toInt ≤ 120) → (0 ≤ z2.toInt ∧ z2.toInt ≤ 60) → (0 ≤ z4.toInt ∧ z4.toInt ≤ 60) → (60 - z4.toInt < (n : Int)) → Tot (LX11_rowsUpTo_a62_11 k31 n z0 z2 z4 u) (qX11_rowsUpTo_a62 u0) := by
  intro n
  induction n with
  | zero =>
    intro z0 z2 z4 u hs_u h0 h1 h2 hm
    exfalso
    omega
  | succ n ih =>
    intro z0 z2 z4 u hs_u h0 h1 h2 hm
    rw [LX11_rowsUpTo_a62_11]
    refine Tot_ite (fun c1067 => ?_) (fun c1067 => ?_)
    · have : z2.toInt ≤ z4.toInt := leI c1067
      exact hk31 z0 z4 u hs_u ⟨by omega, by omega⟩ ⟨by omega, by omega⟩
    · have : ¬ z2.toInt ≤ z4.toInt := nleI c1067
      refine Tot_gd (inb_t (by omega) (by omega)) ?_
      have : 0 ≤ (u.2.1 62 z4.toNatClampNeg).toInt ∧ (u.2.1 62 z4.toNatClampNeg).toInt ≤ 120 := hs_u.1.2.1 62 z4.toNatClampNeg
      refine Tot_ite (fun c1068 => ?_) (fun c1068 => ?_)
      · have : z0.toInt < (u.2.1 62 z4.toNatClampNeg).toInt := ltI c1068
        exact hk31 z0 z4 u hs_u ⟨by omega, by omega⟩ ⟨by omega, by omega⟩
      · have : ¬ z0.toInt < (u.2.1 62 z4.toNatClampNeg).toInt := nltI c1068
        have : (z4 + 1).toInt = z4.toInt + (1 : Int) := addc_t (by decide) (by omega) (by omega)
        exact ih z0 z2 (z4 + 1) u hs_u ⟨by omega, by omega⟩ ⟨by omega, by omega⟩ ⟨by omega, by omega⟩ (by omega)
set_option maxHeartbeats 400000 in
set_option maxRecDepth 10000 in
theorem tLX11_rowsUpTo_a62_31 (u0 : SX)    : ∀ (n : Nat) (z0 : Int32) (z4 : Int32) (u : SX), (StX mdX11_rowsUpTo_a62 u0 u) → (1 ≤ z0.toInt ∧ z0.toInt ≤ 120) → (0 ≤ z4.toInt ∧ z4.toInt ≤ 60) → (z4.toInt - 0 < (n : Int)) → Tot (LX11_rowsUpTo_a62_31 n z0 z4 u) (qX11_rowsUpTo_a62 u0) := by
  intro n
  induction n with
  | zero =>
    intro z0 z4 u hs_u h0 h1 hm
    exfalso
    omega
  | succ n ih =>
    intro z0 z4 u hs_u h0 h1 hm
    rw [LX11_rowsUpTo_a62_31]
    refine Tot_ite (fun c1069 => ?_) (fun c1069 => ?_)
    · have : z4.toInt ≤ (0 : Int) := leI c1069
      exact Tot_some ⟨hs_u, (by show 0 ≤ z4.toInt ∧ z4.toInt ≤ 60; omega), trivial⟩
    · have : ¬ z4.toInt ≤ (0 : Int) := nleI c1069
      have : (z4 - 1).toInt = z4.toInt - (1 : Int) := subc_t (by decide) (by omega) (by omega)
      refine Tot_gd (inb_t (by omega) (by omega)) ?_
      have : 0 ≤ (u.2.1 62 ((z4 - 1)).toNatClampNeg).toInt ∧ (u.2.1 62 ((z4 - 1)).toNatClampNeg).toInt ≤ 120 := hs_u.1.2.1 62 ((z4 - 1)).toNatClampNeg
      refine Tot_ite (fun c1070 => ?_) (fun c1070 => ?_)
      · have : (u.2.1 62 ((z4 - 1)).toNatClampNeg).toInt ≤ z0.toInt := leI c1070
        exact Tot_some ⟨hs_u, (by show 0 ≤ z4.toInt ∧ z4.toInt ≤ 60; omega), trivial⟩
      · have : ¬ (u.2.1 62 ((z4 - 1)).toNatClampNeg).toInt ≤ z0.toInt := nleI c1070
        have : (z4 + (-1)).toInt = z4.toInt + (-1 : Int) := addc_t (by decide) (by omega) (by omega)
        exact ih z0 (z4 + (-1)) u hs_u ⟨by omega, by omega⟩ ⟨by omega, by omega⟩ (by omega)
set_option maxHeartbeats 400000 in
set_option maxRecDepth 10000 in
theorem tfX11_rowsUpTo_a62 (x0 : Int32) (x2 : Int32) (x3 : Int32) (u : SX) (hI : IX u) (h0 : 1 ≤ x0.toInt ∧ x0.toInt ≤ 120) (h1 : 0 ≤ x2.toInt ∧ x2.toInt ≤ 60) (h2 : 0 ≤ x3.toInt ∧ x3.toInt ≤ 0) : Tot (fX11_rowsUpTo_a62 x0 x2 x3 u) (qX11_rowsUpTo_a62 u) := by
  unfold fX11_rowsUpTo_a62
  have hs_u : StX mdX11_rowsUpTo_a62 u u := StX_rf hI
  have : (x2.toInt < x3.toInt ∧ (if x2 < x3 then x2 else x3).toInt = x2.toInt) ∨ (¬ x2.toInt < x3.toInt ∧ (if x2 < x3 then x2 else x3).toInt = x3.toInt) := ite_lt_t (x := x2) (y := x3) (p := x2) (q := x3)
  have : ((0 : Int) < (if x2 < x3 then x2 else x3).toInt ∧ (if 0 < (if x2 < x3 then x2 else x3) then (if x2 < x3 then x2 else x3) else 0).toInt = (if x2 < x3 then x2 else x3).toInt) ∨ (¬ (0 : Int) < (if x2 < x3 then x2 else x3).toInt ∧ (if 0 < (if x2 < x3 then x2 else x3) then (if x2 < x3 then x2 else x3) else 0).toInt = (0 : Int)) := ite_lt_t (x := 0) (y := (if x2 < x3 then x2 else x3)) (p := (if x2 < x3 then x2 else x3)) (q := 0)
  refine Tot_lt (fun v1 e_v1 => ?_)
  have : v1.toInt = (if 0 < (if x2 < x3 then x2 else x3) then (if x2 < x3 then x2 else x3) else 0).toInt := congrArg Int32.toInt e_v1
  exact tLX11_rowsUpTo_a62_11 u (fun a1071 a1072 w1073 hw1073 p1074 p1075 => tLX11_rowsUpTo_a62_31 u 5000 a1071 a1072 w1073 hw1073 p1074 p1075 (by omega)) 5000 x0 x2 v1 u hs_u ⟨by omega, by omega⟩ ⟨by omega, by omega⟩ ⟨by omega, by omega⟩ (by show 60 - v1.toInt < ((5000 : Nat) : Int); omega)

def mdX4_passDay_12 : MD := ([], [], [], [71, 72])
abbrev qX4_passDay_12 (u : SX) (q : Int32 × SX) : Prop := StX mdX4_passDay_12 u q.2 ∧ (0 ≤ q.1.toInt ∧ q.1.toInt ≤ 60) ∧ (True)
set_option maxHeartbeats 400000 in
set_option maxRecDepth 10000 in
theorem tLX4_passDay_12_2 (u0 : SX)  {k44 : Int32 → Int32 → SX → Option (Int32 × SX)} (hk44 : ∀ (z1 : Int32) (z2 : Int32) (u : SX), (StX mdX4_passDay_12 u0 u) → (2 ≤ z1.toInt ∧ z1.toInt ≤ 120) → (0 ≤ z2.toInt ∧ z2.toInt ≤ 60) → Tot (k44 z1 z2 u) (qX4_passDay_12 u0)) : ∀ (n : Nat) (z1 : Int32) (z2 : Int32) (z3 : Int32) (u : SX), (StX mdX4_passDay_12 u0 u) → (2 ≤ z1.toInt ∧ z1.toInt ≤ 120) → (0 ≤ z2.toInt ∧ z2.toInt ≤ 60) → (0 ≤ z3.toInt ∧ z3.toInt ≤ 8) → (8 - z3.toInt < (n : Int)) → Tot (LX4_passDay_12_2 k44 n z1 z2 z3 u) (qX4_passDay_12 u0) := by
  intro n
  induction n with
  | zero =>
    intro z1 z2 z3 u hs_u h0 h1 h2 hm
    exfalso
    omega
  | succ n ih =>
    intro z1 z2 z3 u hs_u h0 h1 h2 hm
    rw [LX4_passDay_12_2]
    refine Tot_ite (fun c1076 => ?_) (fun c1076 => ?_)
    · have : (8 : Int) ≤ z3.toInt := leI c1076
      exact hk44 z1 z2 u hs_u ⟨by omega, by omega⟩ ⟨by omega, by omega⟩
    · have : ¬ (8 : Int) ≤ z3.toInt := nleI c1076
      refine Tot_gd (inb_t (by omega) (by omega)) ?_
      refine Tot_gd (inb_t (by omega) (by omega)) ?_
      refine Tot_lt (fun u3 e_u3 => ?_)
      have hs_u3 : StX mdX4_passDay_12 u0 u3 := by rw [e_u3]; exact StX_sB hs_u (by decide)
      refine Tot_gd (inb_t (by omega) (by omega)) ?_
      refine Tot_bind (tfX2_toldBy_11 z3 z1 u3 hs_u3.1 ⟨by omega, by omega⟩ ⟨by omega, by omega⟩) (fun q hq => ?_)
      obtain ⟨r6, u7⟩ := q
      have hc_u7 : StX mdX2_toldBy_11 u3 u7 := hq.1
      have hs_u7 : StX mdX4_passDay_12 u0 u7 := StX_tr hs_u3 hc_u7 (by decide)
      refine Tot_gd (inb_t (by omega) (by omega)) ?_
      refine Tot_lt (fun u10 e_u10 => ?_)
      have hs_u10 : StX mdX4_passDay_12 u0 u10 := by rw [e_u10]; exact StX_sB hs_u7 (by decide)
      have : (z3 + 1).toInt = z3.toInt + (1 : Int) := addc_t (by decide) (by omega) (by omega)
      exact ih z1 z2 (z3 + 1) u10 hs_u10 ⟨by omega, by omega⟩ ⟨by omega, by omega⟩ ⟨by omega, by omega⟩ (by omega)
set_option maxHeartbeats 400000 in
set_option maxRecDepth 10000 in
theorem tLX4_passDay_12_46 (u0 : SX)    : ∀ (n : Nat) (z1 : Int32) (z3 : Int32) (u : SX), (StX mdX4_passDay_12 u0 u) → (2 ≤ z1.toInt ∧ z1.toInt ≤ 120) → (0 ≤ z3.toInt ∧ z3.toInt ≤ 60) → (60 - z3.toInt < (n : Int)) → Tot (LX4_passDay_12_46 n z1 z3 u) (qX4_passDay_12 u0) := by
  intro n
  induction n with
  | zero =>
    intro z1 z3 u hs_u h0 h1 hm
    exfalso
    omega
  | succ n ih =>
    intro z1 z3 u hs_u h0 h1 hm
    rw [LX4_passDay_12_46]
    have : 0 ≤ (u.1 38).toInt ∧ (u.1 38).toInt ≤ 60 := hs_u.1.1 38
    refine Tot_ite (fun c1077 => ?_) (fun c1077 => ?_)
    · have : (u.1 38).toInt ≤ z3.toInt := leI c1077
      exact Tot_some ⟨hs_u, (by show 0 ≤ z3.toInt ∧ z3.toInt ≤ 60; omega), trivial⟩
    · have : ¬ (u.1 38).toInt ≤ z3.toInt := nleI c1077
      refine Tot_gd (inb_t (by omega) (by omega)) ?_
      have : 0 ≤ (u.2.1 62 z3.toNatClampNeg).toInt ∧ (u.2.1 62 z3.toNatClampNeg).toInt ≤ 120 := hs_u.1.2.1 62 z3.toNatClampNeg
      refine Tot_ite (fun c1078 => ?_) (fun c1078 => ?_)
      · have : (u.2.1 62 z3.toNatClampNeg).toInt = z1.toInt := eqI c1078
        refine Tot_gd (inb_t (by omega) (by omega)) ?_
        have : 0 ≤ (u.2.1 61 z3.toNatClampNeg).toInt ∧ (u.2.1 61 z3.toNatClampNeg).toInt ≤ 7 := hs_u.1.2.1 61 z3.toNatClampNeg
        refine Tot_gd (inb_t (by omega) (by omega)) ?_
        refine Tot_gd (inb_t (by omega) (by omega)) ?_
        have : 0 ≤ (u.2.1 60 z3.toNatClampNeg).toInt ∧ (u.2.1 60 z3.toNatClampNeg).toInt ≤ 7 := hs_u.1.2.1 60 z3.toNatClampNeg
        refine Tot_gd (inb_t (by omega) (by omega)) ?_
        refine Tot_gd (inb_t (by omega) (by omega)) ?_
        refine Tot_lt (fun u18 e_u18 => ?_)
        have hs_u18 : StX mdX4_passDay_12 u0 u18 := by rw [e_u18]; exact StX_sB hs_u (by decide)
        have : (z3 + 1).toInt = z3.toInt + (1 : Int) := addc_t (by decide) (by omega) (by omega)
        exact ih z1 (z3 + 1) u18 hs_u18 ⟨by omega, by omega⟩ ⟨by omega, by omega⟩ (by omega)
      · exact Tot_some ⟨hs_u, (by show 0 ≤ z3.toInt ∧ z3.toInt ≤ 60; omega), trivial⟩
set_option maxHeartbeats 400000 in
set_option maxRecDepth 10000 in
theorem tGX4_passDay_12_44 (u0 : SX)    (z1 : Int32) (z2 : Int32) (u : SX) (hs_u : StX mdX4_passDay_12 u0 u) (h0 : 2 ≤ z1.toInt ∧ z1.toInt ≤ 120) (h1 : 0 ≤ z2.toInt ∧ z2.toInt ≤ 60) : Tot (GX4_passDay_12_44 z1 z2 u) (qX4_passDay_12 u0) := by
  unfold GX4_passDay_12_44
  exact tLX4_passDay_12_46 u0 5000 z1 z2 u hs_u ⟨by omega, by omega⟩ ⟨by omega, by omega⟩ (by show 60 - z2.toInt < ((5000 : Nat) : Int); omega)
set_option maxHeartbeats 400000 in
set_option maxRecDepth 10000 in
theorem tfX4_passDay_12 (x1 : Int32) (x2 : Int32) (u : SX) (hI : IX u) (h0 : 2 ≤ x1.toInt ∧ x1.toInt ≤ 120) (h1 : 0 ≤ x2.toInt ∧ x2.toInt ≤ 60) : Tot (fX4_passDay_12 x1 x2 u) (qX4_passDay_12 u) := by
  unfold fX4_passDay_12
  have hs_u : StX mdX4_passDay_12 u u := StX_rf hI
  exact tLX4_passDay_12_2 u (tGX4_passDay_12_44 u) 5000 x1 x2 0 u hs_u ⟨by omega, by omega⟩ ⟨by omega, by omega⟩ (by show 0 ≤ (0 : Int) ∧ (0 : Int) ≤ 8; omega) (by show 8 - (0 : Int) < ((5000 : Nat) : Int); omega)

def mdX4_anyMet_12 : MD := ([], [], [], [])
abbrev qX4_anyMet_12 (u : SX) (q : Int32 × SX) : Prop := StX mdX4_anyMet_12 u q.2 ∧ (0 ≤ q.1.toInt ∧ q.1.toInt ≤ 1) ∧ (True)
set_option maxHeartbeats 400000 in
set_option maxRecDepth 10000 in
theorem tGX4_anyMet_12_47 (u0 : SX) (g2 : Int) {k2 : Int32 → SX → Option (Int32 × SX)} (hk2 : ∀ (z1 : Int32) (u : SX), (StX mdX4_anyMet_12 u0 u) → (0 ≤ z1.toInt ∧ z1.toInt ≤ 8) → (g2 < z1.toInt) → Tot (k2 z1 u) (qX4_anyMet_12 u0)) (z1 : Int32) (u : SX) (hs_u : StX mdX4_anyMet_12 u0 u) (h0 : 0 ≤ z1.toInt ∧ z1.toInt ≤ 7) (h1 : g2 ≤ z1.toInt) : Tot (GX4_anyMet_12_47 k2 z1 u) (qX4_anyMet_12 u0) := by
  unfold GX4_anyMet_12_47
  have : (z1 + 1).toInt = z1.toInt + (1 : Int) := addc_t (by decide) (by omega) (by omega)
  exact hk2 (z1 + 1) u hs_u ⟨by omega, by omega⟩ (by omega)
set_option maxHeartbeats 400000 in
set_option maxRecDepth 10000 in
theorem tLX4_anyMet_12_2 (u0 : SX)    : ∀ (n : Nat) (z1 : Int32) (u : SX), (StX mdX4_anyMet_12 u0 u) → (0 ≤ z1.toInt ∧ z1.toInt ≤ 8) → (8 - z1.toInt < (n : Int)) → Tot (LX4_anyMet_12_2 n z1 u) (qX4_anyMet_12 u0) := by
  intro n
  induction n with
  | zero =>
    intro z1 u hs_u h0 hm
    exfalso
    omega
  | succ n ih =>
    intro z1 u hs_u h0 hm
    rw [LX4_anyMet_12_2]
    have : 0 ≤ (u.1 35).toInt ∧ (u.1 35).toInt ≤ 8 := hs_u.1.1 35
    refine Tot_ite (fun c1079 => ?_) (fun c1079 => ?_)
    · have : (u.1 35).toInt ≤ z1.toInt := leI c1079
      refine Tot_gd (by decide) ?_
      exact Tot_some ⟨hs_u, (by show 0 ≤ (0 : Int) ∧ (0 : Int) ≤ 1; omega), trivial⟩
    · have : ¬ (u.1 35).toInt ≤ z1.toInt := nleI c1079
      refine Tot_gd (inb_t (by omega) (by omega)) ?_
      refine Tot_gd (inb_t (by omega) (by omega)) ?_
      refine Tot_ite (fun c1080 => ?_) (fun c1080 => ?_)
      · exact tGX4_anyMet_12_47 u0 (z1.toInt) (fun a1081 w1082 hw1082 p1083 p1084 => ih a1081 w1082 hw1082 p1083 (by omega)) z1 u hs_u ⟨by omega, by omega⟩ (by omega)
      · refine Tot_gd (inb_t (by omega) (by omega)) ?_
        refine Tot_bind (tfX2_areMet_11 (u.2.2.2.1 72 z1.toNatClampNeg) u hs_u.1) (fun q hq => ?_)
        obtain ⟨r5, u6⟩ := q
        have hc_u6 : StX mdX2_areMet_11 u u6 := hq.1
        have hs_u6 : StX mdX4_anyMet_12 u0 u6 := StX_tr hs_u hc_u6 (by decide)
        have : 0 ≤ r5.toInt ∧ r5.toInt ≤ 1 := hq.2.1
        refine Tot_ite (fun c1085 => ?_) (fun c1085 => ?_)
        · have : r5.toInt = (0 : Int) := eqI c1085
          exact tGX4_anyMet_12_47 u0 (z1.toInt) (fun a1086 w1087 hw1087 p1088 p1089 => ih a1086 w1087 hw1087 p1088 (by omega)) z1 u6 hs_u6 ⟨by omega, by omega⟩ (by omega)
        · have : ¬ r5.toInt = (0 : Int) := neI c1085
          refine Tot_gd (by decide) ?_
          exact Tot_some ⟨hs_u6, (by show 0 ≤ (1 : Int) ∧ (1 : Int) ≤ 1; omega), trivial⟩
set_option maxHeartbeats 400000 in
set_option maxRecDepth 10000 in
theorem tfX4_anyMet_12  (u : SX) (hI : IX u)  : Tot (fX4_anyMet_12  u) (qX4_anyMet_12 u) := by
  unfold fX4_anyMet_12
  have hs_u : StX mdX4_anyMet_12 u u := StX_rf hI
  exact tLX4_anyMet_12_2 u 5000 0 u hs_u (by show 0 ≤ (0 : Int) ∧ (0 : Int) ≤ 8; omega) (by show 8 - (0 : Int) < ((5000 : Nat) : Int); omega)

def mdX4_meetingBy_12 : MD := ([], [], [], [71, 72])
abbrev qX4_meetingBy_12 (u : SX) (q : Int32 × SX) : Prop := StX mdX4_meetingBy_12 u q.2 ∧ (1 ≤ q.1.toInt ∧ q.1.toInt ≤ 121) ∧ (True)
set_option maxHeartbeats 400000 in
set_option maxRecDepth 10000 in
theorem tLX4_meetingBy_12_3 (u0 : SX)  {k33 : Int32 → Int32 → Int64 → Int32 → SX → Option (Int32 × SX)} (hk33 : ∀ (z1 : Int32) (z2 : Int32) (z3 : Int64) (z5 : Int32) (u : SX), (StX mdX4_meetingBy_12 u0 u) → (1 ≤ z1.toInt ∧ z1.toInt ≤ 120) → (0 ≤ z2.toInt ∧ z2.toInt ≤ 7) → (1 ≤ z5.toInt ∧ z5.toInt ≤ 121) → Tot (k33 z1 z2 z3 z5 u) (qX4_meetingBy_12 u0)) : ∀ (n : Nat) (z1 : Int32) (z2 : Int32) (z3 : Int64) (z5 : Int32) (z6 : Int32) (u : SX), (StX mdX4_meetingBy_12 u0 u) → (1 ≤ z1.toInt ∧ z1.toInt ≤ 120) → (0 ≤ z2.toInt ∧ z2.toInt ≤ 7) → (1 ≤ z5.toInt ∧ z5.toInt ≤ 121) → (0 ≤ z6.toInt ∧ z6.toInt ≤ 8) → (8 - z6.toInt < (n : Int)) → Tot (LX4_meetingBy_12_3 k33 n z1 z2 z3 z5 z6 u) (qX4_meetingBy_12 u0) := by
  intro n
  induction n with
  | zero =>
    intro z1 z2 z3 z5 z6 u hs_u h0 h1 h2 h3 hm
    exfalso
    omega
  | succ n ih =>
    intro z1 z2 z3 z5 z6 u hs_u h0 h1 h2 h3 hm
    rw [LX4_meetingBy_12_3]
    refine Tot_ite (fun c1090 => ?_) (fun c1090 => ?_)
    · have : (8 : Int) ≤ z6.toInt := leI c1090
      exact hk33 z1 z2 z3 z5 u hs_u ⟨by omega, by omega⟩ ⟨by omega, by omega⟩ ⟨by omega, by omega⟩
    · have : ¬ (8 : Int) ≤ z6.toInt := nleI c1090
      refine Tot_bind (tfX2_knownBy_11 z6 z1 u hs_u.1 ⟨by omega, by omega⟩ ⟨by omega, by omega⟩) (fun q hq => ?_)
      obtain ⟨r1, u2⟩ := q
      have hc_u2 : StX mdX2_knownBy_11 u u2 := hq.1
      have hs_u2 : StX mdX4_meetingBy_12 u0 u2 := StX_tr hs_u hc_u2 (by decide)
      refine Tot_gd (inb_t (by omega) (by omega)) ?_
      refine Tot_lt (fun u5 e_u5 => ?_)
      have hs_u5 : StX mdX4_meetingBy_12 u0 u5 := by rw [e_u5]; exact StX_sB hs_u2 (by decide)
      have : (z6 + 1).toInt = z6.toInt + (1 : Int) := addc_t (by decide) (by omega) (by omega)
      exact ih z1 z2 z3 z5 (z6 + 1) u5 hs_u5 ⟨by omega, by omega⟩ ⟨by omega, by omega⟩ ⟨by omega, by omega⟩ ⟨by omega, by omega⟩ (by omega)
set_option maxHeartbeats 400000 in
set_option maxRecDepth 10000 in
theorem tGX4_meetingBy_12_127 (u0 : SX) (g87 : Int) {k87 : Int32 → Int32 → Int32 → SX → Option (Int32 × SX)} (hk87 : ∀ (z5 : Int32) (z6 : Int32) (z7 : Int32) (u : SX), (StX mdX4_meetingBy_12 u0 u) → (1 ≤ z5.toInt ∧ z5.toInt ≤ 121) → (0 ≤ z6.toInt ∧ z6.toInt ≤ 60) → (2 ≤ z7.toInt ∧ z7.toInt ≤ 121) → (g87 < z7.toInt) → Tot (k87 z5 z6 z7 u) (qX4_meetingBy_12 u0)) (z5 : Int32) (z6 : Int32) (z7 : Int32) (u : SX) (hs_u : StX mdX4_meetingBy_12 u0 u) (h0 : 3 ≤ z5.toInt ∧ z5.toInt ≤ 121) (h1 : 0 ≤ z6.toInt ∧ z6.toInt ≤ 60) (h2 : 2 ≤ z7.toInt ∧ z7.toInt ≤ 120) (h3 : g87 ≤ z7.toInt) : Tot (GX4_meetingBy_12_127 k87 z5 z6 z7 u) (qX4_meetingBy_12 u0) := by
  unfold GX4_meetingBy_12_127
  have : (z7 + 1).toInt = z7.toInt + (1 : Int) := addc_t (by decide) (by omega) (by omega)
  exact hk87 z5 z6 (z7 + 1) u hs_u ⟨by omega, by omega⟩ ⟨by omega, by omega⟩ ⟨by omega, by omega⟩ (by omega)
set_option maxHeartbeats 400000 in
set_option maxRecDepth 10000 in
theorem tLX4_meetingBy_12_87 (u0 : SX)    : ∀ (n : Nat) (z5 : Int32) (z6 : Int32) (z7 : Int32) (u : SX), (StX mdX4_meetingBy_12 u0 u) → (1 ≤ z5.toInt ∧ z5.toInt ≤ 121) → (0 ≤ z6.toInt ∧ z6.toInt ≤ 60) → (2 ≤ z7.toInt ∧ z7.toInt ≤ 121) → (121 - z7.toInt < (n : Int)) → Tot (LX4_meetingBy_12_87 n z5 z6 z7 u) (qX4_meetingBy_12 u0) := by
  intro n
  induction n with
  | zero =>
    intro z5 z6 z7 u hs_u h0 h1 h2 hm
    exfalso
    omega
  | succ n ih =>
    intro z5 z6 z7 u hs_u h0 h1 h2 hm
    rw [LX4_meetingBy_12_87]
    refine Tot_ite (fun c1091 => ?_) (fun c1091 => ?_)
    · have : z5.toInt ≤ z7.toInt := leI c1091
      exact Tot_some ⟨hs_u, (by show 1 ≤ z5.toInt ∧ z5.toInt ≤ 121; omega), trivial⟩
    · have : ¬ z5.toInt ≤ z7.toInt := nleI c1091
      refine Tot_gd (inb_t (by omega) (by omega)) ?_
      have : 0 ≤ (u.2.1 59 z7.toNatClampNeg).toInt ∧ (u.2.1 59 z7.toNatClampNeg).toInt ≤ 1 := hs_u.1.2.1 59 z7.toNatClampNeg
      refine Tot_ite (fun c1092 => ?_) (fun c1092 => ?_)
      · have : (u.2.1 59 z7.toNatClampNeg).toInt = (0 : Int) := eqI c1092
        exact tGX4_meetingBy_12_127 u0 (z7.toInt) (fun a1093 a1094 a1095 w1096 hw1096 p1097 p1098 p1099 p1100 => ih a1093 a1094 a1095 w1096 hw1096 p1097 p1098 p1099 (by omega)) z5 z6 z7 u hs_u ⟨by omega, by omega⟩ ⟨by omega, by omega⟩ ⟨by omega, by omega⟩ (by omega)
      · have : ¬ (u.2.1 59 z7.toNatClampNeg).toInt = (0 : Int) := neI c1092
        refine Tot_bind (tfX4_passDay_12 z7 z6 u hs_u.1 ⟨by omega, by omega⟩ ⟨by omega, by omega⟩) (fun q hq => ?_)
        obtain ⟨r21, u22⟩ := q
        have hc_u22 : StX mdX4_passDay_12 u u22 := hq.1
        have hs_u22 : StX mdX4_meetingBy_12 u0 u22 := StX_tr hs_u hc_u22 (by decide)
        have : 0 ≤ r21.toInt ∧ r21.toInt ≤ 60 := hq.2.1
        refine Tot_bind (tfX4_anyMet_12 u22 hs_u22.1) (fun q hq => ?_)
        obtain ⟨r24, u25⟩ := q
        have hc_u25 : StX mdX4_anyMet_12 u22 u25 := hq.1
        have hs_u25 : StX mdX4_meetingBy_12 u0 u25 := StX_tr hs_u22 hc_u25 (by decide)
        have : 0 ≤ r24.toInt ∧ r24.toInt ≤ 1 := hq.2.1
        refine Tot_ite (fun c1101 => ?_) (fun c1101 => ?_)
        · have : r24.toInt = (0 : Int) := eqI c1101
          exact tGX4_meetingBy_12_127 u0 (z7.toInt) (fun a1102 a1103 a1104 w1105 hw1105 p1106 p1107 p1108 p1109 => ih a1102 a1103 a1104 w1105 hw1105 p1106 p1107 p1108 (by omega)) z5 r21 z7 u25 hs_u25 ⟨by omega, by omega⟩ ⟨by omega, by omega⟩ ⟨by omega, by omega⟩ (by omega)
        · have : ¬ r24.toInt = (0 : Int) := neI c1101
          exact Tot_some ⟨hs_u25, (by show 1 ≤ z7.toInt ∧ z7.toInt ≤ 121; omega), trivial⟩
set_option maxHeartbeats 400000 in
set_option maxRecDepth 10000 in
theorem tGX4_meetingBy_12_33 (u0 : SX)    (z1 : Int32) (z2 : Int32) (z3 : Int64) (z5 : Int32) (u : SX) (hs_u : StX mdX4_meetingBy_12 u0 u) (h0 : 1 ≤ z1.toInt ∧ z1.toInt ≤ 120) (h1 : 0 ≤ z2.toInt ∧ z2.toInt ≤ 7) (h2 : 1 ≤ z5.toInt ∧ z5.toInt ≤ 121) : Tot (GX4_meetingBy_12_33 z1 z2 z3 z5 u) (qX4_meetingBy_12 u0) := by
  unfold GX4_meetingBy_12_33
  refine Tot_gd (inb_t (by omega) (by omega)) ?_
  refine Tot_gd (inb_t (by omega) (by omega)) ?_
  refine Tot_lt (fun u9 e_u9 => ?_)
  have hs_u9 : StX mdX4_meetingBy_12 u0 u9 := by rw [e_u9]; exact StX_sB hs_u (by decide)
  refine Tot_gd (inb_t (by omega) (by omega)) ?_
  refine Tot_bind (tfX2_areMet_11 (u9.2.2.2.1 72 z2.toNatClampNeg) u9 hs_u9.1) (fun q hq => ?_)
  obtain ⟨r12, u13⟩ := q
  have hc_u13 : StX mdX2_areMet_11 u9 u13 := hq.1
  have hs_u13 : StX mdX4_meetingBy_12 u0 u13 := StX_tr hs_u9 hc_u13 (by decide)
  have : 0 ≤ r12.toInt ∧ r12.toInt ≤ 1 := hq.2.1
  refine Tot_ite (fun c1110 => ?_) (fun c1110 => ?_)
  · have : r12.toInt = (0 : Int) := eqI c1110
    have : (u13.1 38).toInt = (u9.1 38).toInt := congrArg Int32.toInt (hc_u13.2.1 38 (by decide))
    have : (u9.1 38).toInt = (u.1 38).toInt := by rw [e_u9]; rfl
    have : 0 ≤ (u.1 38).toInt ∧ (u.1 38).toInt ≤ 60 := hs_u.1.1 38
    refine Tot_bind (tfX11_rowsUpTo_a62 z1 (u13.1 38) 0 u13 hs_u13.1 ⟨by omega, by omega⟩ ⟨by omega, by omega⟩ (by show 0 ≤ (0 : Int) ∧ (0 : Int) ≤ 0; omega)) (fun q hq => ?_)
    obtain ⟨r15, u16⟩ := q
    have hc_u16 : StX mdX11_rowsUpTo_a62 u13 u16 := hq.1
    have hs_u16 : StX mdX4_meetingBy_12 u0 u16 := StX_tr hs_u13 hc_u16 (by decide)
    have : 0 ≤ r15.toInt ∧ r15.toInt ≤ 60 := hq.2.1
    have : (z1 + 1).toInt = z1.toInt + (1 : Int) := addc_t (by decide) (by omega) (by omega)
    refine Tot_lt (fun v18 e_v18 => ?_)
    have : v18.toInt = (z1 + 1).toInt := congrArg Int32.toInt e_v18
    exact tLX4_meetingBy_12_87 u0 5000 z5 r15 v18 u16 hs_u16 ⟨by omega, by omega⟩ ⟨by omega, by omega⟩ ⟨by omega, by omega⟩ (by show 121 - v18.toInt < ((5000 : Nat) : Int); omega)
  · have : ¬ r12.toInt = (0 : Int) := neI c1110
    exact Tot_some ⟨hs_u13, (by show 1 ≤ z1.toInt ∧ z1.toInt ≤ 121; omega), trivial⟩
set_option maxHeartbeats 400000 in
set_option maxRecDepth 10000 in
theorem tfX4_meetingBy_12 (x1 : Int32) (x2 : Int32) (x3 : Int64) (x5 : Int32) (u : SX) (hI : IX u) (h0 : 1 ≤ x1.toInt ∧ x1.toInt ≤ 120) (h1 : 0 ≤ x2.toInt ∧ x2.toInt ≤ 7) (h2 : 1 ≤ x5.toInt ∧ x5.toInt ≤ 121) : Tot (fX4_meetingBy_12 x1 x2 x3 x5 u) (qX4_meetingBy_12 u) := by
  unfold fX4_meetingBy_12
  have hs_u : StX mdX4_meetingBy_12 u u := StX_rf hI
  exact tLX4_meetingBy_12_3 u (tGX4_meetingBy_12_33 u) 5000 x1 x2 x3 x5 0 u hs_u ⟨by omega, by omega⟩ ⟨by omega, by omega⟩ ⟨by omega, by omega⟩ (by show 0 ≤ (0 : Int) ∧ (0 : Int) ≤ 8; omega) (by show 8 - (0 : Int) < ((5000 : Nat) : Int); omega)

def mdX4_tryAll_12 : MD := ([40, 41, 42, 43], [], [], [71, 72])
abbrev qX4_tryAll_12 (u : SX) (q : Int32 × SX) : Prop := StX mdX4_tryAll_12 u q.2 ∧ (1 ≤ q.1.toInt ∧ q.1.toInt ≤ 121) ∧ (True)
set_option maxHeartbeats 400000 in
set_option maxRecDepth 10000 in
theorem tGX4_tryAll_12_91 (u0 : SX) (g7 : Int) {k7 : Int32 → Int32 → Int64 → Int32 → Int32 → SX → Option (Int32 × SX)} (hk7 : ∀ (z1 : Int32) (z2 : Int32) (z3 : Int64) (z6 : Int32) (z7 : Int32) (u : SX), (StX mdX4_tryAll_12 u0 u) → (1 ≤ z1.toInt ∧ z1.toInt ≤ 120) → (0 ≤ z2.toInt ∧ z2.toInt ≤ 7) → (1 ≤ z6.toInt ∧ z6.toInt ≤ 121) → (0 ≤ z7.toInt ∧ z7.toInt ≤ 8) → (g7 < z7.toInt) → Tot (k7 z1 z2 z3 z6 z7 u) (qX4_tryAll_12 u0)) (z1 : Int32) (z2 : Int32) (z3 : Int64) (z6 : Int32) (z7 : Int32) (u : SX) (hs_u : StX mdX4_tryAll_12 u0 u) (h0 : 1 ≤ z1.toInt ∧ z1.toInt ≤ 120) (h1 : 0 ≤ z2.toInt ∧ z2.toInt ≤ 7) (h2 : 1 ≤ z6.toInt ∧ z6.toInt ≤ 121) (h3 : 0 ≤ z7.toInt ∧ z7.toInt ≤ 7) (h4 : g7 ≤ z7.toInt) : Tot (GX4_tryAll_12_91 k7 z1 z2 z3 z6 z7 u) (qX4_tryAll_12 u0) := by
  unfold GX4_tryAll_12_91
  have : (z7 + 1).toInt = z7.toInt + (1 : Int) := addc_t (by decide) (by omega) (by omega)
  exact hk7 z1 z2 z3 z6 (z7 + 1) u hs_u ⟨by omega, by omega⟩ ⟨by omega, by omega⟩ ⟨by omega, by omega⟩ ⟨by omega, by omega⟩ (by omega)
set_option maxHeartbeats 400000 in
set_option maxRecDepth 10000 in
theorem tLX4_tryAll_12_7 (u0 : SX)    : ∀ (n : Nat) (z1 : Int32) (z2 : Int32) (z3 : Int64) (z6 : Int32) (z7 : Int32) (u : SX), (StX mdX4_tryAll_12 u0 u) → (1 ≤ z1.toInt ∧ z1.toInt ≤ 120) → (0 ≤ z2.toInt ∧ z2.toInt ≤ 7) → (1 ≤ z6.toInt ∧ z6.toInt ≤ 121) → (0 ≤ z7.toInt ∧ z7.toInt ≤ 8) → (8 - z7.toInt < (n : Int)) → Tot (LX4_tryAll_12_7 n z1 z2 z3 z6 z7 u) (qX4_tryAll_12 u0) := by
  intro n
  induction n with
  | zero =>
    intro z1 z2 z3 z6 z7 u hs_u h0 h1 h2 h3 hm
    exfalso
    omega
  | succ n ih =>
    intro z1 z2 z3 z6 z7 u hs_u h0 h1 h2 h3 hm
    rw [LX4_tryAll_12_7]
    have : 0 ≤ (u.1 35).toInt ∧ (u.1 35).toInt ≤ 8 := hs_u.1.1 35
    refine Tot_ite (fun c1111 => ?_) (fun c1111 => ?_)
    · have : (u.1 35).toInt ≤ z7.toInt := leI c1111
      exact Tot_some ⟨hs_u, (by show 1 ≤ z6.toInt ∧ z6.toInt ≤ 121; omega), trivial⟩
    · have : ¬ (u.1 35).toInt ≤ z7.toInt := nleI c1111
      refine Tot_ite (fun c1112 => ?_) (fun c1112 => ?_)
      · have : z7.toInt = z2.toInt := eqI c1112
        exact tGX4_tryAll_12_91 u0 (z7.toInt) (fun a1113 a1114 a1115 a1116 a1117 w1118 hw1118 p1119 p1120 p1121 p1122 p1123 => ih a1113 a1114 a1115 a1116 a1117 w1118 hw1118 p1119 p1120 p1121 p1122 (by omega)) z1 z2 z3 z6 z7 u hs_u ⟨by omega, by omega⟩ ⟨by omega, by omega⟩ ⟨by omega, by omega⟩ ⟨by omega, by omega⟩ (by omega)
      · refine Tot_bind (tfX2_knownBy_11 z7 z1 u hs_u.1 ⟨by omega, by omega⟩ ⟨by omega, by omega⟩) (fun q hq => ?_)
        obtain ⟨r1, u2⟩ := q
        have hc_u2 : StX mdX2_knownBy_11 u u2 := hq.1
        have hs_u2 : StX mdX4_tryAll_12 u0 u2 := StX_tr hs_u hc_u2 (by decide)
        refine Tot_ite (fun c1124 => ?_) (fun c1124 => ?_)
        · exact tGX4_tryAll_12_91 u0 (z7.toInt) (fun a1125 a1126 a1127 a1128 a1129 w1130 hw1130 p1131 p1132 p1133 p1134 p1135 => ih a1125 a1126 a1127 a1128 a1129 w1130 hw1130 p1131 p1132 p1133 p1134 (by omega)) z1 z2 z3 z6 z7 u2 hs_u2 ⟨by omega, by omega⟩ ⟨by omega, by omega⟩ ⟨by omega, by omega⟩ ⟨by omega, by omega⟩ (by omega)
        · refine Tot_bind (tfX4_meetingBy_12 z1 z7 z3 z6 u2 hs_u2.1 ⟨by omega, by omega⟩ ⟨by omega, by omega⟩ ⟨by omega, by omega⟩) (fun q hq => ?_)
          obtain ⟨r4, u5⟩ := q
          have hc_u5 : StX mdX4_meetingBy_12 u2 u5 := hq.1
          have hs_u5 : StX mdX4_tryAll_12 u0 u5 := StX_tr hs_u2 hc_u5 (by decide)
          have : 1 ≤ r4.toInt ∧ r4.toInt ≤ 121 := hq.2.1
          refine Tot_ite (fun c1136 => ?_) (fun c1136 => ?_)
          · have : z6.toInt ≤ r4.toInt := leI c1136
            exact tGX4_tryAll_12_91 u0 (z7.toInt) (fun a1137 a1138 a1139 a1140 a1141 w1142 hw1142 p1143 p1144 p1145 p1146 p1147 => ih a1137 a1138 a1139 a1140 a1141 w1142 hw1142 p1143 p1144 p1145 p1146 (by omega)) z1 z2 z3 z6 z7 u5 hs_u5 ⟨by omega, by omega⟩ ⟨by omega, by omega⟩ ⟨by omega, by omega⟩ ⟨by omega, by omega⟩ (by omega)
          · have : ¬ z6.toInt ≤ r4.toInt := nleI c1136
            refine Tot_lt (fun u7 e_u7 => ?_)
            have hs_u7 : StX mdX4_tryAll_12 u0 u7 := by rw [e_u7]; exact StX_sI hs_u5 (by decide) (by show (-1) ≤ z2.toInt; omega) (by show z2.toInt ≤ 7; omega)
            refine Tot_lt (fun u9 e_u9 => ?_)
            have hs_u9 : StX mdX4_tryAll_12 u0 u9 := by rw [e_u9]; exact StX_sI hs_u7 (by decide) (by show (-1) ≤ z7.toInt; omega) (by show z7.toInt ≤ 7; omega)
            refine Tot_lt (fun u11 e_u11 => ?_)
            have hs_u11 : StX mdX4_tryAll_12 u0 u11 := by rw [e_u11]; exact StX_sI hs_u9 (by decide) (by show (-1) ≤ z1.toInt; omega) (by show z1.toInt ≤ 120; omega)
            refine Tot_lt (fun u13 e_u13 => ?_)
            have hs_u13 : StX mdX4_tryAll_12 u0 u13 := by rw [e_u13]; exact StX_sI hs_u11 (by decide) (by show (-1) ≤ r4.toInt; omega) (by show r4.toInt ≤ 120; omega)
            exact tGX4_tryAll_12_91 u0 (z7.toInt) (fun a1148 a1149 a1150 a1151 a1152 w1153 hw1153 p1154 p1155 p1156 p1157 p1158 => ih a1148 a1149 a1150 a1151 a1152 w1153 hw1153 p1154 p1155 p1156 p1157 (by omega)) z1 z2 z3 r4 z7 u13 hs_u13 ⟨by omega, by omega⟩ ⟨by omega, by omega⟩ ⟨by omega, by omega⟩ ⟨by omega, by omega⟩ (by omega)
set_option maxHeartbeats 400000 in
set_option maxRecDepth 10000 in
theorem tfX4_tryAll_12 (x1 : Int32) (x2 : Int32) (x3 : Int64) (x5 : Int32) (u : SX) (hI : IX u) (h0 : 1 ≤ x1.toInt ∧ x1.toInt ≤ 120) (h1 : 0 ≤ x2.toInt ∧ x2.toInt ≤ 7) (h2 : 1 ≤ x5.toInt ∧ x5.toInt ≤ 121) : Tot (fX4_tryAll_12 x1 x2 x3 x5 u) (qX4_tryAll_12 u) := by
  unfold fX4_tryAll_12
  have hs_u : StX mdX4_tryAll_12 u u := StX_rf hI
  exact tLX4_tryAll_12_7 u 5000 x1 x2 x3 x5 0 u hs_u ⟨by omega, by omega⟩ ⟨by omega, by omega⟩ ⟨by omega, by omega⟩ (by show 0 ≤ (0 : Int) ∧ (0 : Int) ≤ 8; omega) (by show 8 - (0 : Int) < ((5000 : Nat) : Int); omega)

def mdX4_search_12 : MD := ([40, 41, 42, 43], [], [], [71, 72])
abbrev qX4_search_12 (u : SX) (q : Int32 × SX) : Prop := StX mdX4_search_12 u q.2 ∧ (0 ≤ q.1.toInt ∧ q.1.toInt ≤ 0) ∧ (True)
set_option maxHeartbeats 400000 in
set_option maxRecDepth 10000 in
theorem tGX4_search_12_103 (u0 : SX) (g24 : Int) (g32 : Int) {k32 : Int32 → Int32 → Int32 → SX → Option (Int32 × SX)} (hk32 : ∀ (z2 : Int32) (z3 : Int32) (z4 : Int32) (u : SX), (StX mdX4_search_12 u0 u) → (1 ≤ z2.toInt ∧ z2.toInt ≤ 121) → (1 ≤ z3.toInt ∧ z3.toInt ≤ 120) → (0 ≤ z4.toInt ∧ z4.toInt ≤ 8) → (g24 ≤ z3.toInt) → (g32 < z4.toInt) → Tot (k32 z2 z3 z4 u) (qX4_search_12 u0)) (z2 : Int32) (z3 : Int32) (z4 : Int32) (u : SX) (hs_u : StX mdX4_search_12 u0 u) (h0 : 1 ≤ z2.toInt ∧ z2.toInt ≤ 121) (h1 : 1 ≤ z3.toInt ∧ z3.toInt ≤ 120) (h2 : 0 ≤ z4.toInt ∧ z4.toInt ≤ 7) (h3 : g24 ≤ z3.toInt) (h4 : g32 ≤ z4.toInt) : Tot (GX4_search_12_103 k32 z2 z3 z4 u) (qX4_search_12 u0) := by
  unfold GX4_search_12_103
  have : (z4 + 1).toInt = z4.toInt + (1 : Int) := addc_t (by decide) (by omega) (by omega)
  exact hk32 z2 z3 (z4 + 1) u hs_u ⟨by omega, by omega⟩ ⟨by omega, by omega⟩ ⟨by omega, by omega⟩ (by omega) (by omega)
set_option maxHeartbeats 400000 in
set_option maxRecDepth 10000 in
theorem tLX4_search_12_32 (u0 : SX) (g24 : Int) {k109 : Int32 → Int32 → SX → Option (Int32 × SX)} (hk109 : ∀ (z2 : Int32) (z3 : Int32) (u : SX), (StX mdX4_search_12 u0 u) → (1 ≤ z2.toInt ∧ z2.toInt ≤ 121) → (1 ≤ z3.toInt ∧ z3.toInt ≤ 120) → (g24 ≤ z3.toInt) → Tot (k109 z2 z3 u) (qX4_search_12 u0)) : ∀ (n : Nat) (z2 : Int32) (z3 : Int32) (z4 : Int32) (u : SX), (StX mdX4_search_12 u0 u) → (1 ≤ z2.toInt ∧ z2.toInt ≤ 121) → (1 ≤ z3.toInt ∧ z3.toInt ≤ 120) → (0 ≤ z4.toInt ∧ z4.toInt ≤ 8) → (g24 ≤ z3.toInt) → (8 - z4.toInt < (n : Int)) → Tot (LX4_search_12_32 k109 n z2 z3 z4 u) (qX4_search_12 u0) := by
  intro n
  induction n with
  | zero =>
    intro z2 z3 z4 u hs_u h0 h1 h2 h3 hm
    exfalso
    omega
  | succ n ih =>
    intro z2 z3 z4 u hs_u h0 h1 h2 h3 hm
    rw [LX4_search_12_32]
    have : 0 ≤ (u.1 35).toInt ∧ (u.1 35).toInt ≤ 8 := hs_u.1.1 35
    refine Tot_ite (fun c1159 => ?_) (fun c1159 => ?_)
    · have : (u.1 35).toInt ≤ z4.toInt := leI c1159
      exact hk109 z2 z3 u hs_u ⟨by omega, by omega⟩ ⟨by omega, by omega⟩ (by omega)
    · have : ¬ (u.1 35).toInt ≤ z4.toInt := nleI c1159
      have : (z3 - 1).toInt = z3.toInt - (1 : Int) := subc_t (by decide) (by omega) (by omega)
      refine Tot_bind (tfX2_knownBy_11 z4 (z3 - 1) u hs_u.1 ⟨by omega, by omega⟩ ⟨by omega, by omega⟩) (fun q hq => ?_)
      obtain ⟨r9, u10⟩ := q
      have hc_u10 : StX mdX2_knownBy_11 u u10 := hq.1
      have hs_u10 : StX mdX4_search_12 u0 u10 := StX_tr hs_u hc_u10 (by decide)
      refine Tot_lt (fun v12 e_v12 => ?_)
      have : (z3 - 2).toInt = z3.toInt - (2 : Int) := subc_t (by decide) (by omega) (by omega)
      refine Tot_bind (tfX2_knownBy_11 z4 (z3 - 2) u10 hs_u10.1 ⟨by omega, by omega⟩ ⟨by omega, by omega⟩) (fun q hq => ?_)
      obtain ⟨r14, u15⟩ := q
      have hc_u15 : StX mdX2_knownBy_11 u10 u15 := hq.1
      have hs_u15 : StX mdX4_search_12 u0 u15 := StX_tr hs_u10 hc_u15 (by decide)
      refine Tot_ite (fun c1160 => ?_) (fun c1160 => ?_)
      · exact tGX4_search_12_103 u0 g24 (z4.toInt) (fun a1161 a1162 a1163 w1164 hw1164 p1165 p1166 p1167 p1168 p1169 => ih a1161 a1162 a1163 w1164 hw1164 p1165 p1166 p1167 p1168 (by omega)) z2 z3 z4 u15 hs_u15 ⟨by omega, by omega⟩ ⟨by omega, by omega⟩ ⟨by omega, by omega⟩ (by omega) (by omega)
      · refine Tot_bind (tfX4_tryAll_12 z3 z4 v12 z2 u15 hs_u15.1 ⟨by omega, by omega⟩ ⟨by omega, by omega⟩ ⟨by omega, by omega⟩) (fun q hq => ?_)
        obtain ⟨r17, u18⟩ := q
        have hc_u18 : StX mdX4_tryAll_12 u15 u18 := hq.1
        have hs_u18 : StX mdX4_search_12 u0 u18 := StX_tr hs_u15 hc_u18 (by decide)
        have : 1 ≤ r17.toInt ∧ r17.toInt ≤ 121 := hq.2.1
        exact tGX4_search_12_103 u0 g24 (z4.toInt) (fun a1170 a1171 a1172 w1173 hw1173 p1174 p1175 p1176 p1177 p1178 => ih a1170 a1171 a1172 w1173 hw1173 p1174 p1175 p1176 p1177 (by omega)) r17 z3 z4 u18 hs_u18 ⟨by omega, by omega⟩ ⟨by omega, by omega⟩ ⟨by omega, by omega⟩ (by omega) (by omega)
set_option maxHeartbeats 400000 in
set_option maxRecDepth 10000 in
theorem tGX4_search_12_109 (u0 : SX) (g24 : Int) {k24 : Int32 → Int32 → SX → Option (Int32 × SX)} (hk24 : ∀ (z2 : Int32) (z3 : Int32) (u : SX), (StX mdX4_search_12 u0 u) → (0 ≤ z2.toInt ∧ z2.toInt ≤ 121) → (1 ≤ z3.toInt ∧ z3.toInt ≤ 121) → (g24 < z3.toInt) → Tot (k24 z2 z3 u) (qX4_search_12 u0)) (z2 : Int32) (z3 : Int32) (u : SX) (hs_u : StX mdX4_search_12 u0 u) (h0 : 1 ≤ z2.toInt ∧ z2.toInt ≤ 121) (h1 : 1 ≤ z3.toInt ∧ z3.toInt ≤ 120) (h2 : g24 ≤ z3.toInt) : Tot (GX4_search_12_109 k24 z2 z3 u) (qX4_search_12 u0) := by
  unfold GX4_search_12_109
  have : (z3 + 1).toInt = z3.toInt + (1 : Int) := addc_t (by decide) (by omega) (by omega)
  exact hk24 z2 (z3 + 1) u hs_u ⟨by omega, by omega⟩ ⟨by omega, by omega⟩ (by omega)
set_option maxHeartbeats 400000 in
set_option maxRecDepth 10000 in
theorem tLX4_search_12_24 (u0 : SX)    : ∀ (n : Nat) (z2 : Int32) (z3 : Int32) (u : SX), (StX mdX4_search_12 u0 u) → (0 ≤ z2.toInt ∧ z2.toInt ≤ 121) → (1 ≤ z3.toInt ∧ z3.toInt ≤ 121) → (121 - z3.toInt < (n : Int)) → Tot (LX4_search_12_24 n z2 z3 u) (qX4_search_12 u0) := by
  intro n
  induction n with
  | zero =>
    intro z2 z3 u hs_u h0 h1 hm
    exfalso
    omega
  | succ n ih =>
    intro z2 z3 u hs_u h0 h1 hm
    rw [LX4_search_12_24]
    refine Tot_ite (fun c1179 => ?_) (fun c1179 => ?_)
    · have : z2.toInt ≤ z3.toInt := leI c1179
      exact Tot_some ⟨hs_u, (by show 0 ≤ (0 : Int) ∧ (0 : Int) ≤ 0; omega), trivial⟩
    · have : ¬ z2.toInt ≤ z3.toInt := nleI c1179
      exact tLX4_search_12_32 u0 (z3.toInt) (tGX4_search_12_109 u0 (z3.toInt) (fun a1180 a1181 w1182 hw1182 p1183 p1184 p1185 => ih a1180 a1181 w1182 hw1182 p1183 p1184 (by omega))) 5000 z2 z3 0 u hs_u ⟨by omega, by omega⟩ ⟨by omega, by omega⟩ (by show 0 ≤ (0 : Int) ∧ (0 : Int) ≤ 8; omega) (by omega) (by show 8 - (0 : Int) < ((5000 : Nat) : Int); omega)
set_option maxHeartbeats 400000 in
set_option maxRecDepth 10000 in
theorem tfX4_search_12 (x1 : Int32) (u : SX) (hI : IX u) (h0 : 0 ≤ x1.toInt ∧ x1.toInt ≤ 121) : Tot (fX4_search_12 x1 u) (qX4_search_12 u) := by
  unfold fX4_search_12
  have hs_u : StX mdX4_search_12 u u := StX_rf hI
  refine Tot_lt (fun u1 e_u1 => ?_)
  have hs_u1 : StX mdX4_search_12 u u1 := by rw [e_u1]; exact StX_sI hs_u (by decide) (by show (-1) ≤ (-1 : Int); omega) (by show (-1 : Int) ≤ 7; omega)
  refine Tot_lt (fun u3 e_u3 => ?_)
  have hs_u3 : StX mdX4_search_12 u u3 := by rw [e_u3]; exact StX_sI hs_u1 (by decide) (by show (-1) ≤ (-1 : Int); omega) (by show (-1 : Int) ≤ 7; omega)
  refine Tot_lt (fun u5 e_u5 => ?_)
  have hs_u5 : StX mdX4_search_12 u u5 := by rw [e_u5]; exact StX_sI hs_u3 (by decide) (by show (-1) ≤ (-1 : Int); omega) (by show (-1 : Int) ≤ 120; omega)
  refine Tot_lt (fun u7 e_u7 => ?_)
  have hs_u7 : StX mdX4_search_12 u u7 := by rw [e_u7]; exact StX_sI hs_u5 (by decide) (by show (-1) ≤ (-1 : Int); omega) (by show (-1 : Int) ≤ 120; omega)
  exact tLX4_search_12_24 u 5000 x1 1 u7 hs_u7 ⟨by omega, by omega⟩ (by show 1 ≤ (1 : Int) ∧ (1 : Int) ≤ 121; omega) (by show 121 - (1 : Int) < ((5000 : Nat) : Int); omega)

def mdX11_sooner_0 : MD := ([39, 40, 41, 42, 43], [], [], [70, 71, 72])
abbrev qX11_sooner_0 (u : SX) (q : Int32 × SX) : Prop := StX mdX11_sooner_0 u q.2 ∧ ((-1) ≤ q.1.toInt ∧ q.1.toInt ≤ 120) ∧ (True)
set_option maxHeartbeats 400000 in
set_option maxRecDepth 10000 in
theorem tGX11_sooner_0_53 (u0 : SX)    (z1 : Int32) (y0 : Int32) (u : SX) (hs_u : StX mdX11_sooner_0 u0 u) (h0 : 0 ≤ z1.toInt ∧ z1.toInt ≤ 3) (h1 : 0 ≤ y0.toInt ∧ y0.toInt ≤ 121) : Tot (GX11_sooner_0_53 z1 y0 u) (qX11_sooner_0 u0) := by
  unfold GX11_sooner_0_53
  refine Tot_bind (tfX4_search_12 y0 u hs_u.1 ⟨by omega, by omega⟩) (fun q hq => ?_)
  obtain ⟨r10, u11⟩ := q
  have hc_u11 : StX mdX4_search_12 u u11 := hq.1
  have hs_u11 : StX mdX11_sooner_0 u0 u11 := StX_tr hs_u hc_u11 (by decide)
  have : 0 ≤ r10.toInt ∧ r10.toInt ≤ 0 := hq.2.1
  refine Tot_ite (fun c1186 => ?_) (fun c1186 => ?_)
  · have : z1.toInt = (0 : Int) := eqI c1186
    have : (-1) ≤ (u11.1 40).toInt ∧ (u11.1 40).toInt ≤ 7 := hs_u11.1.1 40
    exact Tot_some ⟨hs_u11, (by show (-1) ≤ (u11.1 40).toInt ∧ (u11.1 40).toInt ≤ 120; omega), trivial⟩
  · have : ¬ z1.toInt = (0 : Int) := neI c1186
    refine Tot_ite (fun c1187 => ?_) (fun c1187 => ?_)
    · have : z1.toInt = (1 : Int) := eqI c1187
      have : (-1) ≤ (u11.1 41).toInt ∧ (u11.1 41).toInt ≤ 7 := hs_u11.1.1 41
      exact Tot_some ⟨hs_u11, (by show (-1) ≤ (u11.1 41).toInt ∧ (u11.1 41).toInt ≤ 120; omega), trivial⟩
    · have : ¬ z1.toInt = (1 : Int) := neI c1187
      refine Tot_ite (fun c1188 => ?_) (fun c1188 => ?_)
      · have : z1.toInt = (2 : Int) := eqI c1188
        have : (-1) ≤ (u11.1 42).toInt ∧ (u11.1 42).toInt ≤ 120 := hs_u11.1.1 42
        exact Tot_some ⟨hs_u11, (by show (-1) ≤ (u11.1 42).toInt ∧ (u11.1 42).toInt ≤ 120; omega), trivial⟩
      · have : ¬ z1.toInt = (2 : Int) := neI c1188
        have : (-1) ≤ (u11.1 43).toInt ∧ (u11.1 43).toInt ≤ 120 := hs_u11.1.1 43
        exact Tot_some ⟨hs_u11, (by show (-1) ≤ (u11.1 43).toInt ∧ (u11.1 43).toInt ≤ 120; omega), trivial⟩
set_option maxHeartbeats 400000 in
set_option maxRecDepth 10000 in
theorem tfX11_sooner_0 (x1 : Int32) (u : SX) (hI : IX u)  : Tot (fX11_sooner_0 x1 u) (qX11_sooner_0 u) := by
  unfold fX11_sooner_0
  have hs_u : StX mdX11_sooner_0 u u := StX_rf hI
  refine Tot_bind (tfX11_within x1 0 3) (fun r1 hq => ?_)
  have : 0 ≤ r1.toInt ∧ r1.toInt ≤ 1 := hq.1
  have : r1.toInt ≠ 0 → ((0 : Int) ≤ x1.toInt ∧ x1.toInt ≤ (3 : Int)) := hq.2
  refine Tot_ite (fun c1189 => ?_) (fun c1189 => ?_)
  · have : r1.toInt = (0 : Int) := eqI c1189
    exact Tot_some ⟨hs_u, (by show (-1) ≤ (-1 : Int) ∧ (-1 : Int) ≤ 120; omega), trivial⟩
  · have : ¬ r1.toInt = (0 : Int) := neI c1189
    have : 0 ≤ (u.1 0).toInt ∧ (u.1 0).toInt ≤ 120 := hs_u.1.1 0
    refine Tot_bind (tfX2_settle_11 (u.1 0) u hs_u.1 ⟨by omega, by omega⟩) (fun q hq => ?_)
    obtain ⟨r4, u5⟩ := q
    have hc_u5 : StX mdX2_settle_11 u u5 := hq.1
    have hs_u5 : StX mdX11_sooner_0 u u5 := StX_tr hs_u hc_u5 (by decide)
    have : 0 ≤ r4.toInt ∧ r4.toInt ≤ 0 := hq.2.1
    have : (u5.1 0).toInt = (u.1 0).toInt := congrArg Int32.toInt (hc_u5.2.1 0 (by decide))
    refine Tot_bind (tfX4_firstDay_12 (u5.1 0) u5 hs_u5.1 ⟨by omega, by omega⟩) (fun q hq => ?_)
    obtain ⟨r7, u8⟩ := q
    have hc_u8 : StX mdX4_firstDay_12 u5 u8 := hq.1
    have hs_u8 : StX mdX11_sooner_0 u u8 := StX_tr hs_u5 hc_u8 (by decide)
    have : (-1) ≤ r7.toInt ∧ r7.toInt ≤ 120 := hq.2.1
    refine Tot_ite (fun c1190 => ?_) (fun c1190 => ?_)
    · have : r7.toInt = (-1 : Int) := eqI c1190
      have : (u8.1 0).toInt = (u5.1 0).toInt := congrArg Int32.toInt (hc_u8.2.1 0 (by decide))
      have : ((u8.1 0) + 1).toInt = (u8.1 0).toInt + (1 : Int) := addc_t (by decide) (by omega) (by omega)
      exact tGX11_sooner_0_53 u x1 ((u8.1 0) + 1) u8 hs_u8 ⟨by omega, by omega⟩ ⟨by omega, by omega⟩
    · have : ¬ r7.toInt = (-1 : Int) := neI c1190
      exact tGX11_sooner_0_53 u x1 r7 u8 hs_u8 ⟨by omega, by omega⟩ ⟨by omega, by omega⟩

def mdX1_oneSide_8 : MD := ([], [], [], [])
abbrev qX1_oneSide_8 (u : SX) (q : Int32 × SX) : Prop := StX mdX1_oneSide_8 u q.2 ∧ (True) ∧ (True)
set_option maxHeartbeats 400000 in
set_option maxRecDepth 10000 in
theorem tGX1_oneSide_8_79 (u0 : SX) (g8 : Int) {k8 : Int32 → Int32 → Int32 → SX → Option (Int32 × SX)} (hk8 : ∀ (z1 : Int32) (z2 : Int32) (z3 : Int32) (u : SX), (StX mdX1_oneSide_8 u0 u) → (8 ≤ z2.toInt ∧ z2.toInt ≤ 8) → (0 ≤ z3.toInt ∧ z3.toInt ≤ 8) → (g8 < z3.toInt) → Tot (k8 z1 z2 z3 u) (qX1_oneSide_8 u0)) (z1 : Int32) (z2 : Int32) (z3 : Int32) (u : SX) (hs_u : StX mdX1_oneSide_8 u0 u) (h0 : 8 ≤ z2.toInt ∧ z2.toInt ≤ 8) (h1 : 0 ≤ z3.toInt ∧ z3.toInt ≤ 7) (h2 : g8 ≤ z3.toInt) : Tot (GX1_oneSide_8_79 k8 z1 z2 z3 u) (qX1_oneSide_8 u0) := by
  unfold GX1_oneSide_8_79
  have : (z3 + 1).toInt = z3.toInt + (1 : Int) := addc_t (by decide) (by omega) (by omega)
  exact hk8 z1 z2 (z3 + 1) u hs_u ⟨by omega, by omega⟩ ⟨by omega, by omega⟩ (by omega)
set_option maxHeartbeats 400000 in
set_option maxRecDepth 10000 in
theorem tLX1_oneSide_8_8 (u0 : SX)    : ∀ (n : Nat) (z1 : Int32) (z2 : Int32) (z3 : Int32) (u : SX), (StX mdX1_oneSide_8 u0 u) → (8 ≤ z2.toInt ∧ z2.toInt ≤ 8) → (0 ≤ z3.toInt ∧ z3.toInt ≤ 8) → (8 - z3.toInt < (n : Int)) → Tot (LX1_oneSide_8_8 n z1 z2 z3 u) (qX1_oneSide_8 u0) := by
  intro n
  induction n with
  | zero =>
    intro z1 z2 z3 u hs_u h0 h1 hm
    exfalso
    omega
  | succ n ih =>
    intro z1 z2 z3 u hs_u h0 h1 hm
    rw [LX1_oneSide_8_8]
    refine Tot_ite (fun c1191 => ?_) (fun c1191 => ?_)
    · have : z2.toInt ≤ z3.toInt := leI c1191
      exact Tot_some ⟨hs_u, trivial, trivial⟩
    · have : ¬ z2.toInt ≤ z3.toInt := nleI c1191
      refine Tot_gd (inb_t (by omega) (by omega)) ?_
      refine Tot_ite (fun c1192 => ?_) (fun c1192 => ?_)
      · have : (u.2.1 43 z3.toNatClampNeg).toInt ≤ (0 : Int) := leI c1192
        exact tGX1_oneSide_8_79 u0 (z3.toInt) (fun a1193 a1194 a1195 w1196 hw1196 p1197 p1198 p1199 => ih a1193 a1194 a1195 w1196 hw1196 p1197 p1198 (by omega)) z1 z2 z3 u hs_u ⟨by omega, by omega⟩ ⟨by omega, by omega⟩ (by omega)
      · have : ¬ (u.2.1 43 z3.toNatClampNeg).toInt ≤ (0 : Int) := nleI c1192
        have : (z3 + z2).toInt = z3.toInt + z2.toInt := add_t (by omega) (by omega)
        refine Tot_gd (inb_t (by omega) (by omega)) ?_
        refine Tot_ite (fun c1200 => ?_) (fun c1200 => ?_)
        · have : (u.2.1 43 ((z3 + z2)).toNatClampNeg).toInt ≤ (0 : Int) := leI c1200
          exact tGX1_oneSide_8_79 u0 (z3.toInt) (fun a1201 a1202 a1203 w1204 hw1204 p1205 p1206 p1207 => ih a1201 a1202 a1203 w1204 hw1204 p1205 p1206 (by omega)) z1 z2 z3 u hs_u ⟨by omega, by omega⟩ ⟨by omega, by omega⟩ (by omega)
        · have : ¬ (u.2.1 43 ((z3 + z2)).toNatClampNeg).toInt ≤ (0 : Int) := nleI c1200
          refine Tot_gd (inb_t (by omega) (by omega)) ?_
          refine Tot_gd (inb_t (by omega) (by omega)) ?_
          refine Tot_gd (nzL_t (by omega)) ?_
          refine Tot_gd (inb_t (by omega) (by omega)) ?_
          refine Tot_gd (inb_t (by omega) (by omega)) ?_
          refine Tot_gd (nzL_t (by omega)) ?_
          refine Tot_lt (fun v9 e_v9 => ?_)
          have : (z1.toInt < (((if 0 < v9 then v9 else (-v9))).toInt32).toInt ∧ (if z1 < ((if 0 < v9 then v9 else (-v9))).toInt32 then ((if 0 < v9 then v9 else (-v9))).toInt32 else z1).toInt = (((if 0 < v9 then v9 else (-v9))).toInt32).toInt) ∨ (¬ z1.toInt < (((if 0 < v9 then v9 else (-v9))).toInt32).toInt ∧ (if z1 < ((if 0 < v9 then v9 else (-v9))).toInt32 then ((if 0 < v9 then v9 else (-v9))).toInt32 else z1).toInt = z1.toInt) := ite_lt_t (x := z1) (y := ((if 0 < v9 then v9 else (-v9))).toInt32) (p := ((if 0 < v9 then v9 else (-v9))).toInt32) (q := z1)
          refine Tot_lt (fun v11 e_v11 => ?_)
          exact tGX1_oneSide_8_79 u0 (z3.toInt) (fun a1208 a1209 a1210 w1211 hw1211 p1212 p1213 p1214 => ih a1208 a1209 a1210 w1211 hw1211 p1212 p1213 (by omega)) v11 z2 z3 u hs_u ⟨by omega, by omega⟩ ⟨by omega, by omega⟩ (by omega)
set_option maxHeartbeats 400000 in
set_option maxRecDepth 10000 in
theorem tfX1_oneSide_8  (u : SX) (hI : IX u)  : Tot (fX1_oneSide_8  u) (qX1_oneSide_8 u) := by
  unfold fX1_oneSide_8
  have hs_u : StX mdX1_oneSide_8 u u := StX_rf hI
  exact tLX1_oneSide_8_8 u 5000 (-100000000) 8 0 u hs_u (by show 8 ≤ (8 : Int) ∧ (8 : Int) ≤ 8; omega) (by show 0 ≤ (0 : Int) ∧ (0 : Int) ≤ 8; omega) (by show 8 - (0 : Int) < ((5000 : Nat) : Int); omega)

def mdX11_even_0 : MD := ([10, 11, 14, 15, 16], [16, 17, 27, 28, 38, 39, 41, 43], [], [42])
abbrev qX11_even_0 (u : SX) (q : Int32 × SX) : Prop := StX mdX11_even_0 u q.2 ∧ (True) ∧ (True)
set_option maxHeartbeats 400000 in
set_option maxRecDepth 10000 in
theorem tfX11_even_0 (x1 : Int32) (x2 : Int32) (u : SX) (hI : IX u)  : Tot (fX11_even_0 x1 x2 u) (qX11_even_0 u) := by
  unfold fX11_even_0
  have hs_u : StX mdX11_even_0 u u := StX_rf hI
  refine Tot_bind (tfX11_isDay_0 x1 u hs_u.1) (fun q hq => ?_)
  obtain ⟨r1, u2⟩ := q
  have hc_u2 : StX mdX11_isDay_0 u u2 := hq.1
  have hs_u2 : StX mdX11_even_0 u u2 := StX_tr hs_u hc_u2 (by decide)
  have : 0 ≤ r1.toInt ∧ r1.toInt ≤ 1 := hq.2.1
  have : 0 ≤ (u.1 0).toInt ∧ (u.1 0).toInt ≤ 120 := hs_u.1.1 0
  have : r1.toInt ≠ 0 → ((0 : Int) ≤ x1.toInt ∧ x1.toInt ≤ (u.1 0).toInt) := hq.2.2
  refine Tot_ite (fun c1215 => ?_) (fun c1215 => ?_)
  · have : r1.toInt = (0 : Int) := eqI c1215
    exact Tot_some ⟨hs_u2, trivial, trivial⟩
  · have : ¬ r1.toInt = (0 : Int) := neI c1215
    refine Tot_bind (tfX11_isEither x2) (fun r4 hq => ?_)
    have : 0 ≤ r4.toInt ∧ r4.toInt ≤ 1 := hq.1
    have : r4.toInt ≠ 0 → ((0 : Int) ≤ x2.toInt ∧ x2.toInt ≤ (1 : Int)) := hq.2
    refine Tot_ite (fun c1216 => ?_) (fun c1216 => ?_)
    · have : r4.toInt = (0 : Int) := eqI c1216
      exact Tot_some ⟨hs_u2, trivial, trivial⟩
    · have : ¬ r4.toInt = (0 : Int) := neI c1216
      refine Tot_bind (tfX7_recall_7 x1 u2 hs_u2.1 ⟨by omega, by omega⟩) (fun q hq => ?_)
      obtain ⟨r7, u8⟩ := q
      have hc_u8 : StX mdX7_recall_7 u2 u8 := hq.1
      have hs_u8 : StX mdX11_even_0 u u8 := StX_tr hs_u2 hc_u8 (by decide)
      have : 0 ≤ r7.toInt ∧ r7.toInt ≤ 0 := hq.2.1
      refine Tot_bind (tfX1_meansBy_8 0 u8 hs_u8.1 (by show 0 ≤ (0 : Int) ∧ (0 : Int) ≤ 5; omega)) (fun q hq => ?_)
      obtain ⟨r10, u11⟩ := q
      have hc_u11 : StX mdX1_meansBy_8 u8 u11 := hq.1
      have hs_u11 : StX mdX11_even_0 u u11 := StX_tr hs_u8 hc_u11 (by decide)
      refine Tot_ite (fun c1217 => ?_) (fun c1217 => ?_)
      · have : x2.toInt = (1 : Int) := eqI c1217
        refine Tot_bind (tfX1_oneSide_8 u11 hs_u11.1) (fun q hq => ?_)
        obtain ⟨r16, u17⟩ := q
        have hc_u17 : StX mdX1_oneSide_8 u11 u17 := hq.1
        have hs_u17 : StX mdX11_even_0 u u17 := StX_tr hs_u11 hc_u17 (by decide)
        exact Tot_some ⟨hs_u17, trivial, trivial⟩
      · have : ¬ x2.toInt = (1 : Int) := neI c1217
        refine Tot_ite (fun c1218 => ?_) (fun c1218 => ?_)
        · have : (2 : Int) ≤ r10.toInt := leI c1218
          refine Tot_bind (tfX1_distance_8 u11 hs_u11.1) (fun q hq => ?_)
          obtain ⟨r13, u14⟩ := q
          have hc_u14 : StX mdX1_distance_8 u11 u14 := hq.1
          have hs_u14 : StX mdX11_even_0 u u14 := StX_tr hs_u11 hc_u14 (by decide)
          exact Tot_some ⟨hs_u14, trivial, trivial⟩
        · have : ¬ (2 : Int) ≤ r10.toInt := nleI c1218
          exact Tot_some ⟨hs_u11, trivial, trivial⟩

def mdX8_has_5 : MD := ([], [], [], [])
abbrev qX8_has_5 (x1 : Int32) (u : SX) (q : Int32 × SX) : Prop := StX mdX8_has_5 u q.2 ∧ (0 ≤ q.1.toInt ∧ q.1.toInt ≤ 1) ∧ ((q.1.toInt ≠ 0 → ((0 : Int) ≤ x1.toInt ∧ x1.toInt < (u.1 7).toInt)))
set_option maxHeartbeats 400000 in
set_option maxRecDepth 10000 in
theorem tfX8_has_5 (x1 : Int32) (u : SX) (hI : IX u)  : Tot (fX8_has_5 x1 u) (qX8_has_5 x1 u) := by
  unfold fX8_has_5
  have hs_u : StX mdX8_has_5 u u := StX_rf hI
  refine Tot_ite (fun c1219 => ?_) (fun c1219 => ?_)
  · have : x1.toInt < (0 : Int) := ltI c1219
    refine Tot_gd (by decide) ?_
    have : 0 ≤ (u.1 7).toInt ∧ (u.1 7).toInt ≤ 6 := hs_u.1.1 7
    exact Tot_some ⟨hs_u, (by show 0 ≤ (0 : Int) ∧ (0 : Int) ≤ 1; omega), (by show (0 : Int) ≠ 0 → ((0 : Int) ≤ x1.toInt ∧ x1.toInt < (u.1 7).toInt); omega)⟩
  · have : ¬ x1.toInt < (0 : Int) := nltI c1219
    have : 0 ≤ (u.1 7).toInt ∧ (u.1 7).toInt ≤ 6 := hs_u.1.1 7
    refine Tot_ite (fun c1220 => ?_) (fun c1220 => ?_)
    · have : (u.1 7).toInt ≤ x1.toInt := leI c1220
      refine Tot_gd (by decide) ?_
      exact Tot_some ⟨hs_u, (by show 0 ≤ (0 : Int) ∧ (0 : Int) ≤ 1; omega), (by show (0 : Int) ≠ 0 → ((0 : Int) ≤ x1.toInt ∧ x1.toInt < (u.1 7).toInt); omega)⟩
    · have : ¬ (u.1 7).toInt ≤ x1.toInt := nleI c1220
      refine Tot_gd (by decide) ?_
      exact Tot_some ⟨hs_u, (by show 0 ≤ (1 : Int) ∧ (1 : Int) ≤ 1; omega), (by show (1 : Int) ≠ 0 → ((0 : Int) ≤ x1.toInt ∧ x1.toInt < (u.1 7).toInt); omega)⟩
