set_option maxHeartbeats 400000 in
set_option maxRecDepth 10000 in
theorem tGX12_part_0_65 {rc : Nat → Int32 → Int32 → SX → Option (Int32 × SX)} {dd : Nat} (hrc : RCrX12conditiong rc dd) (u0 : SX) (g18 : Int) {k18 : Int32 → SX → Option (Int32 × SX)} (hk18 : ∀ (z3 : Int32) (u : SX), (StM mdX12_part_0 u0 u) → (0 ≤ z3.toInt ∧ z3.toInt ≤ 1) → (((u.1 2).toInt = 2 → (u.1 4).toInt = 0)) → ((u0.1 6).toInt ≤ (u.1 6).toInt) → ((u0.1 8).toInt ≤ (u.1 8).toInt) → (((u.1 7).toInt = -1 → (u.1 8).toInt = (u0.1 8).toInt)) → (3 * (6 - (u0.1 8).toInt) + 2 ≤ (dd : Int)) → (g18 < (u.1 6).toInt) → Tot (k18 z3 u) (qX12_part_0 u0)) (y0 : Int32) (u : SX) (hs_u : StM mdX12_part_0 u0 u) (h0 : 0 ≤ y0.toInt ∧ y0.toInt ≤ 1) (h1 : ((u.1 2).toInt = 2 → (u.1 4).toInt = 0)) (h2 : (u0.1 6).toInt ≤ (u.1 6).toInt) (h3 : (u0.1 8).toInt ≤ (u.1 8).toInt) (h4 : ((u.1 7).toInt = -1 → (u.1 8).toInt = (u0.1 8).toInt)) (h5 : g18 < (u.1 6).toInt) (h6 : g18 ≤ (u.1 6).toInt) (h7 : 3 * (6 - (u0.1 8).toInt) + 2 ≤ (dd : Int)) : Tot (GX12_part_0_65 rc k18 y0 u) (qX12_part_0 u0) := by
  unfold GX12_part_0_65
  have : 2 ≤ (u.1 2).toInt ∧ (u.1 2).toInt ≤ 3 := hs_u.1.1 2
  have : 0 ≤ (u.1 4).toInt ∧ (u.1 4).toInt ≤ 4200 := hs_u.1.1 4
  have : 0 ≤ (u.1 6).toInt ∧ (u.1 6).toInt ≤ 120 := hs_u.1.1 6
  have : 0 ≤ (u.1 8).toInt ∧ (u.1 8).toInt ≤ 6 := hs_u.1.1 8
  have : (-1) ≤ (u.1 7).toInt ∧ (u.1 7).toInt ≤ 120 := hs_u.1.1 7
  exact hk18 y0 u hs_u ⟨by omega, by omega⟩ (by omega) (by omega) (by omega) (by omega) (by omega) (by omega)
set_option maxHeartbeats 400000 in
set_option maxRecDepth 10000 in
theorem tGX12_part_0_64 {rc : Nat → Int32 → Int32 → SX → Option (Int32 × SX)} {dd : Nat} (hrc : RCrX12conditiong rc dd) (u0 : SX) (g18 : Int) {k18 : Int32 → SX → Option (Int32 × SX)} (hk18 : ∀ (z3 : Int32) (u : SX), (StM mdX12_part_0 u0 u) → (0 ≤ z3.toInt ∧ z3.toInt ≤ 1) → (((u.1 2).toInt = 2 → (u.1 4).toInt = 0)) → ((u0.1 6).toInt ≤ (u.1 6).toInt) → ((u0.1 8).toInt ≤ (u.1 8).toInt) → (((u.1 7).toInt = -1 → (u.1 8).toInt = (u0.1 8).toInt)) → (3 * (6 - (u0.1 8).toInt) + 2 ≤ (dd : Int)) → (g18 < (u.1 6).toInt) → Tot (k18 z3 u) (qX12_part_0 u0))  (u : SX) (hs_u : StM mdX12_part_0 u0 u) (h0 : ((u.1 2).toInt = 2 → (u.1 4).toInt = 0)) (h1 : (u0.1 6).toInt ≤ (u.1 6).toInt) (h2 : (u0.1 8).toInt ≤ (u.1 8).toInt) (h3 : ((u.1 7).toInt = -1 → (u.1 8).toInt = (u0.1 8).toInt)) (h4 : g18 < (u.1 6).toInt) (h5 : g18 ≤ (u.1 6).toInt) (h6 : 3 * (6 - (u0.1 8).toInt) + 2 ≤ (dd : Int)) : Tot (GX12_part_0_64 rc k18  u) (qX12_part_0 u0) := by
  unfold GX12_part_0_64
  have : 2 ≤ (u.1 2).toInt ∧ (u.1 2).toInt ≤ 3 := hs_u.1.1 2
  have : 0 ≤ (u.1 4).toInt ∧ (u.1 4).toInt ≤ 4200 := hs_u.1.1 4
  have : 0 ≤ (u.1 6).toInt ∧ (u.1 6).toInt ≤ 120 := hs_u.1.1 6
  have : 0 ≤ (u.1 8).toInt ∧ (u.1 8).toInt ≤ 6 := hs_u.1.1 8
  have : (-1) ≤ (u.1 7).toInt ∧ (u.1 7).toInt ≤ 120 := hs_u.1.1 7
  exact tGX12_part_0_65 hrc u0 g18 hk18 0 u hs_u (by show 0 ≤ (0 : Int) ∧ (0 : Int) ≤ 1; omega) (by omega) (by omega) (by omega) (by omega) (by omega) (by omega) (by omega)
set_option maxHeartbeats 400000 in
set_option maxRecDepth 10000 in
theorem tLX12_part_0_18 {rc : Nat → Int32 → Int32 → SX → Option (Int32 × SX)} {dd : Nat} (hrc : RCrX12conditiong rc dd) (u0 : SX)    : ∀ (n : Nat) (z3 : Int32) (u : SX), (StM mdX12_part_0 u0 u) → (0 ≤ z3.toInt ∧ z3.toInt ≤ 1) → (((u.1 2).toInt = 2 → (u.1 4).toInt = 0)) → ((u0.1 6).toInt ≤ (u.1 6).toInt) → ((u0.1 8).toInt ≤ (u.1 8).toInt) → (((u.1 7).toInt = -1 → (u.1 8).toInt = (u0.1 8).toInt)) → (3 * (6 - (u0.1 8).toInt) + 2 ≤ (dd : Int)) → (120 - (u.1 6).toInt < (n : Int)) → Tot (LX12_part_0_18 rc n z3 u) (qX12_part_0 u0) := by
  intro n
  induction n with
  | zero =>
    intro z3 u hs_u h0 h1 h2 h3 h4 h5 hm
    have : 0 ≤ (u.1 6).toInt ∧ (u.1 6).toInt ≤ 120 := hs_u.1.1 6
    exfalso
    omega
  | succ n ih =>
    intro z3 u hs_u h0 h1 h2 h3 h4 h5 hm
    rw [LX12_part_0_18]
    have : 0 ≤ (u.1 6).toInt ∧ (u.1 6).toInt ≤ 120 := hs_u.1.1 6
    have : 2 ≤ (u.1 2).toInt ∧ (u.1 2).toInt ≤ 3 := hs_u.1.1 2
    have : 0 ≤ (u.1 4).toInt ∧ (u.1 4).toInt ≤ 4200 := hs_u.1.1 4
    have : 0 ≤ (u.1 8).toInt ∧ (u.1 8).toInt ≤ 6 := hs_u.1.1 8
    have : (-1) ≤ (u.1 7).toInt ∧ (u.1 7).toInt ≤ 120 := hs_u.1.1 7
    refine Tot_ite (fun c131 => ?_) (fun c131 => ?_)
    · have : (u.1 7).toInt = (-1 : Int) := eqI c131
      refine Tot_bind (tfX12_look_0 u hs_u.1 (by omega)) (fun q hq => ?_)
      obtain ⟨r5, u6⟩ := q
      have hc_u6 : StM mdX12_look_0 u u6 := hq.1
      have hs_u6 : StM mdX12_part_0 u0 u6 := StM_tr hs_u hc_u6 (by decide)
      have : (-1) ≤ r5.toInt ∧ r5.toInt ≤ 255 := hq.2.1
      have : 0 ≤ (u6.1 6).toInt ∧ (u6.1 6).toInt ≤ 120 := hs_u6.1.1 6
      have : (u6.1 5).toInt = (u.1 5).toInt := congrArg Int32.toInt (hc_u6.2.1 5 (by decide))
      have : 0 ≤ (u.1 5).toInt ∧ (u.1 5).toInt ≤ 120 := hs_u.1.1 5
      have : r5.toInt ≠ (-1) → ((u6.1 6).toInt < (u6.1 5).toInt) := hq.2.2.1
      have : (u.1 6).toInt ≤ (u6.1 6).toInt := hq.2.2.2
      clear hq
      refine Tot_ite (fun c132 => ?_) (fun c132 => ?_)
      · have : r5.toInt = (38 : Int) := eqI c132
        have : ((u6.1 6) + 1).toInt = (u6.1 6).toInt + (1 : Int) := addc_t (by decide) (by omega) (by omega)
        refine Tot_lt (fun u9 e_u9 => ?_)
        have hs_u9 : StM mdX12_part_0 u0 u9 := by rw [e_u9]; exact StM_sI hs_u6 (by decide) (by show 0 ≤ ((u6.1 6) + 1).toInt; omega) (by show ((u6.1 6) + 1).toInt ≤ 120; omega)
        have : (u9.1 2).toInt = (u6.1 2).toInt := by rw [e_u9]; rfl
        have : (u6.1 2).toInt = (u.1 2).toInt := congrArg Int32.toInt (hc_u6.2.1 2 (by decide))
        have : (u9.1 4).toInt = (u6.1 4).toInt := by rw [e_u9]; rfl
        have : (u6.1 4).toInt = (u.1 4).toInt := congrArg Int32.toInt (hc_u6.2.1 4 (by decide))
        have : (u9.1 8).toInt = (u6.1 8).toInt := by rw [e_u9]; rfl
        have : (u6.1 8).toInt = (u.1 8).toInt := congrArg Int32.toInt (hc_u6.2.1 8 (by decide))
        refine Tot_bind (hrc.2.2 u9 hs_u9.1 (by omega) (by show 3 * (6 - (u9.1 8).toInt) + 1 < (dd : Int); omega)) (fun q hq => ?_)
        obtain ⟨r11, u12⟩ := q
        have hc_u12 : StM mdX12_unit_0 u9 u12 := hq.1
        have hs_u12 : StM mdX12_part_0 u0 u12 := StM_tr hs_u9 hc_u12 (by decide)
        have : 0 ≤ r11.toInt ∧ r11.toInt ≤ 1 := hq.2.1
        have : (u9.1 6).toInt = ((u6.1 6) + 1).toInt := by rw [e_u9]; rfl
        have : 0 ≤ (u12.1 6).toInt ∧ (u12.1 6).toInt ≤ 120 := hs_u12.1.1 6
        have : (u9.1 6).toInt ≤ (u12.1 6).toInt := hq.2.2.1
        have : 0 ≤ (u12.1 8).toInt ∧ (u12.1 8).toInt ≤ 6 := hs_u12.1.1 8
        have : (u9.1 8).toInt ≤ (u12.1 8).toInt := hq.2.2.2.1
        have : (-1) ≤ (u12.1 7).toInt ∧ (u12.1 7).toInt ≤ 120 := hs_u12.1.1 7
        have : ((u12.1 7).toInt = -1 → (u12.1 8).toInt = (u9.1 8).toInt) := hq.2.2.2.2
        clear hq
        refine Tot_ite (fun c133 => ?_) (fun c133 => ?_)
        · have : z3.toInt = (0 : Int) := eqI c133
          have : (u12.1 2).toInt = (u9.1 2).toInt := congrArg Int32.toInt (hc_u12.2.1 2 (by decide))
          have : (u12.1 4).toInt = (u9.1 4).toInt := congrArg Int32.toInt (hc_u12.2.1 4 (by decide))
          exact tGX12_part_0_64 hrc u0 ((u.1 6).toInt) (fun a134 w135 hw135 p136 p137 p138 p139 p140 p141 p142 => ih a134 w135 hw135 p136 p137 p138 p139 p140 p141 (by omega)) u12 hs_u12 (by omega) (by omega) (by omega) (by omega) (by omega) (by omega) (by omega)
        · have : ¬ z3.toInt = (0 : Int) := neI c133
          refine Tot_ite (fun c143 => ?_) (fun c143 => ?_)
          · have : r11.toInt = (0 : Int) := eqI c143
            have : (u12.1 2).toInt = (u9.1 2).toInt := congrArg Int32.toInt (hc_u12.2.1 2 (by decide))
            have : (u12.1 4).toInt = (u9.1 4).toInt := congrArg Int32.toInt (hc_u12.2.1 4 (by decide))
            exact tGX12_part_0_64 hrc u0 ((u.1 6).toInt) (fun a144 w145 hw145 p146 p147 p148 p149 p150 p151 p152 => ih a144 w145 hw145 p146 p147 p148 p149 p150 p151 (by omega)) u12 hs_u12 (by omega) (by omega) (by omega) (by omega) (by omega) (by omega) (by omega)
          · have : ¬ r11.toInt = (0 : Int) := neI c143
            have : (u12.1 2).toInt = (u9.1 2).toInt := congrArg Int32.toInt (hc_u12.2.1 2 (by decide))
            have : (u12.1 4).toInt = (u9.1 4).toInt := congrArg Int32.toInt (hc_u12.2.1 4 (by decide))
            exact tGX12_part_0_65 hrc u0 ((u.1 6).toInt) (fun a153 w154 hw154 p155 p156 p157 p158 p159 p160 p161 => ih a153 w154 hw154 p155 p156 p157 p158 p159 p160 (by omega)) 1 u12 hs_u12 (by show 0 ≤ (1 : Int) ∧ (1 : Int) ≤ 1; omega) (by omega) (by omega) (by omega) (by omega) (by omega) (by omega) (by omega)
      · have : ¬ r5.toInt = (38 : Int) := neI c132
        refine Tot_gd (isB_t (by omega) (by omega)) ?_
        have : (u6.1 8).toInt = (u.1 8).toInt := congrArg Int32.toInt (hc_u6.2.1 8 (by decide))
        have : (u6.1 7).toInt = (u.1 7).toInt := congrArg Int32.toInt (hc_u6.2.1 7 (by decide))
        exact Tot_some ⟨hs_u6, (by show 0 ≤ z3.toInt ∧ z3.toInt ≤ 1; omega), ⟨(by show (u0.1 6).toInt ≤ (u6.1 6).toInt; omega), (by show (u0.1 8).toInt ≤ (u6.1 8).toInt; omega), (by show ((u6.1 7).toInt = -1 → (u6.1 8).toInt = (u0.1 8).toInt); omega)⟩⟩
    · have : ¬ (u.1 7).toInt = (-1 : Int) := neI c131
      refine Tot_gd (isB_t (by omega) (by omega)) ?_
      exact Tot_some ⟨hs_u, (by show 0 ≤ z3.toInt ∧ z3.toInt ≤ 1; omega), ⟨(by show (u0.1 6).toInt ≤ (u.1 6).toInt; omega), (by show (u0.1 8).toInt ≤ (u.1 8).toInt; omega), (by show ((u.1 7).toInt = -1 → (u.1 8).toInt = (u0.1 8).toInt); omega)⟩⟩
set_option maxHeartbeats 400000 in
set_option maxRecDepth 10000 in
theorem tGX12_part_0_17 {rc : Nat → Int32 → Int32 → SX → Option (Int32 × SX)} {dd : Nat} (hrc : RCrX12conditiong rc dd) (u0 : SX)    (y0 : Int32) (u : SX) (hs_u : StM mdX12_part_0 u0 u) (h0 : 0 ≤ y0.toInt ∧ y0.toInt ≤ 1) (h1 : ((u.1 2).toInt = 2 → (u.1 4).toInt = 0)) (h2 : (u0.1 6).toInt ≤ (u.1 6).toInt) (h3 : (u0.1 8).toInt ≤ (u.1 8).toInt) (h4 : ((u.1 7).toInt = -1 → (u.1 8).toInt = (u0.1 8).toInt)) (h5 : 3 * (6 - (u0.1 8).toInt) + 2 ≤ (dd : Int)) : Tot (GX12_part_0_17 rc y0 u) (qX12_part_0 u0) := by
  unfold GX12_part_0_17
  have : 2 ≤ (u.1 2).toInt ∧ (u.1 2).toInt ≤ 3 := hs_u.1.1 2
  have : 0 ≤ (u.1 4).toInt ∧ (u.1 4).toInt ≤ 4200 := hs_u.1.1 4
  have : 0 ≤ (u.1 6).toInt ∧ (u.1 6).toInt ≤ 120 := hs_u.1.1 6
  have : 0 ≤ (u.1 8).toInt ∧ (u.1 8).toInt ≤ 6 := hs_u.1.1 8
  have : (-1) ≤ (u.1 7).toInt ∧ (u.1 7).toInt ≤ 120 := hs_u.1.1 7
  exact tLX12_part_0_18 hrc u0 5000 y0 u hs_u ⟨by omega, by omega⟩ (by omega) (by omega) (by omega) (by omega) (by omega) (by show 120 - (u.1 6).toInt < ((5000 : Nat) : Int); omega)
set_option maxHeartbeats 400000 in
set_option maxRecDepth 10000 in
theorem tfX12_part_0 {rc : Nat → Int32 → Int32 → SX → Option (Int32 × SX)} {dd : Nat} (hrc : RCrX12conditiong rc dd) (x1 : Int32) (x2 : Int32) (u : SX) (hI : IM u) (h0 : 0 ≤ x1.toInt ∧ x1.toInt ≤ 1) (h1 : ((u.1 2).toInt = 2 → (u.1 4).toInt = 0)) (h2 : 3 * (6 - (u.1 8).toInt) + 2 ≤ (dd : Int)) : Tot (fX12_part_0 rc x1 x2 u) (qX12_part_0 u) := by
  unfold fX12_part_0
  have hs_u : StM mdX12_part_0 u u := StM_rf hI
  have : 2 ≤ (u.1 2).toInt ∧ (u.1 2).toInt ≤ 3 := hs_u.1.1 2
  have : 0 ≤ (u.1 4).toInt ∧ (u.1 4).toInt ≤ 4200 := hs_u.1.1 4
  refine Tot_ite (fun c162 => ?_) (fun c162 => ?_)
  · have : x1.toInt = (0 : Int) := eqI c162
    have : 0 ≤ (u.1 8).toInt ∧ (u.1 8).toInt ≤ 6 := hs_u.1.1 8
    refine Tot_bind (hrc.2.2 u hs_u.1 (by omega) (by show 3 * (6 - (u.1 8).toInt) + 1 < (dd : Int); omega)) (fun q hq => ?_)
    obtain ⟨r1, u2⟩ := q
    have hc_u2 : StM mdX12_unit_0 u u2 := hq.1
    have hs_u2 : StM mdX12_part_0 u u2 := StM_tr hs_u hc_u2 (by decide)
    have : 0 ≤ r1.toInt ∧ r1.toInt ≤ 1 := hq.2.1
    have : 0 ≤ (u.1 6).toInt ∧ (u.1 6).toInt ≤ 120 := hs_u.1.1 6
    have : 0 ≤ (u2.1 6).toInt ∧ (u2.1 6).toInt ≤ 120 := hs_u2.1.1 6
    have : (u.1 6).toInt ≤ (u2.1 6).toInt := hq.2.2.1
    have : 0 ≤ (u2.1 8).toInt ∧ (u2.1 8).toInt ≤ 6 := hs_u2.1.1 8
    have : (u.1 8).toInt ≤ (u2.1 8).toInt := hq.2.2.2.1
    have : (-1) ≤ (u2.1 7).toInt ∧ (u2.1 7).toInt ≤ 120 := hs_u2.1.1 7
    have : ((u2.1 7).toInt = -1 → (u2.1 8).toInt = (u.1 8).toInt) := hq.2.2.2.2
    clear hq
    have : (u2.1 2).toInt = (u.1 2).toInt := congrArg Int32.toInt (hc_u2.2.1 2 (by decide))
    have : (u2.1 4).toInt = (u.1 4).toInt := congrArg Int32.toInt (hc_u2.2.1 4 (by decide))
    exact tGX12_part_0_17 hrc u r1 u2 hs_u2 ⟨by omega, by omega⟩ (by omega) (by omega) (by omega) (by omega) (by omega)
  · have : ¬ x1.toInt = (0 : Int) := neI c162
    refine Tot_bind (tfX12_compares_0 1 x2 u hs_u.1 (by show 0 ≤ (1 : Int) ∧ (1 : Int) ≤ 1; omega) (by omega)) (fun q hq => ?_)
    obtain ⟨r14, u15⟩ := q
    have hc_u15 : StM mdX12_compares_0 u u15 := hq.1
    have hs_u15 : StM mdX12_part_0 u u15 := StM_tr hs_u hc_u15 (by decide)
    have : 0 ≤ r14.toInt ∧ r14.toInt ≤ 1 := hq.2.1
    have : 0 ≤ (u.1 6).toInt ∧ (u.1 6).toInt ≤ 120 := hs_u.1.1 6
    have : 0 ≤ (u15.1 6).toInt ∧ (u15.1 6).toInt ≤ 120 := hs_u15.1.1 6
    have : (u.1 6).toInt ≤ (u15.1 6).toInt := hq.2.2.1
    have : 0 ≤ (u.1 8).toInt ∧ (u.1 8).toInt ≤ 6 := hs_u.1.1 8
    have : 0 ≤ (u15.1 8).toInt ∧ (u15.1 8).toInt ≤ 6 := hs_u15.1.1 8
    have : (u.1 8).toInt ≤ (u15.1 8).toInt := hq.2.2.2.1
    have : (-1) ≤ (u15.1 7).toInt ∧ (u15.1 7).toInt ≤ 120 := hs_u15.1.1 7
    have : ((u15.1 7).toInt = -1 → (u15.1 8).toInt = (u.1 8).toInt) := hq.2.2.2.2
    clear hq
    have : (u15.1 2).toInt = (u.1 2).toInt := congrArg Int32.toInt (hc_u15.2.1 2 (by decide))
    have : (u15.1 4).toInt = (u.1 4).toInt := congrArg Int32.toInt (hc_u15.2.1 4 (by decide))
    exact tGX12_part_0_17 hrc u r14 u15 hs_u15 ⟨by omega, by omega⟩ (by omega) (by omega) (by omega) (by omega) (by omega)

set_option maxHeartbeats 400000 in
set_option maxRecDepth 10000 in
theorem tfX12_unit_0 {rc : Nat → Int32 → Int32 → SX → Option (Int32 × SX)} {dd : Nat} (hrc : RCrX12conditiong rc dd)  (u : SX) (hI : IM u) (h0 : ((u.1 2).toInt = 2 → (u.1 4).toInt = 0)) (h1 : 3 * (6 - (u.1 8).toInt) + 1 ≤ (dd : Int)) : Tot (fX12_unit_0 rc  u) (qX12_unit_0 u) := by
  unfold fX12_unit_0
  have hs_u : StM mdX12_unit_0 u u := StM_rf hI
  have : 2 ≤ (u.1 2).toInt ∧ (u.1 2).toInt ≤ 3 := hs_u.1.1 2
  have : 0 ≤ (u.1 4).toInt ∧ (u.1 4).toInt ≤ 4200 := hs_u.1.1 4
  refine Tot_bind (tfX12_look_0 u hs_u.1 (by omega)) (fun q hq => ?_)
  obtain ⟨r1, u2⟩ := q
  have hc_u2 : StM mdX12_look_0 u u2 := hq.1
  have hs_u2 : StM mdX12_unit_0 u u2 := StM_tr hs_u hc_u2 (by decide)
  have : (-1) ≤ r1.toInt ∧ r1.toInt ≤ 255 := hq.2.1
  have : 0 ≤ (u2.1 6).toInt ∧ (u2.1 6).toInt ≤ 120 := hs_u2.1.1 6
  have : (u2.1 5).toInt = (u.1 5).toInt := congrArg Int32.toInt (hc_u2.2.1 5 (by decide))
  have : 0 ≤ (u.1 5).toInt ∧ (u.1 5).toInt ≤ 120 := hs_u.1.1 5
  have : r1.toInt ≠ (-1) → ((u2.1 6).toInt < (u2.1 5).toInt) := hq.2.2.1
  have : 0 ≤ (u.1 6).toInt ∧ (u.1 6).toInt ≤ 120 := hs_u.1.1 6
  have : (u.1 6).toInt ≤ (u2.1 6).toInt := hq.2.2.2
  clear hq
  refine Tot_ite (fun c163 => ?_) (fun c163 => ?_)
  · have : r1.toInt = (33 : Int) := eqI c163
    refine Tot_bind (tfX12_goesIn_0 u2 hs_u2.1 (by omega)) (fun q hq => ?_)
    obtain ⟨r22, u23⟩ := q
    have hc_u23 : StM mdX12_goesIn_0 u2 u23 := hq.1
    have hs_u23 : StM mdX12_unit_0 u u23 := StM_tr hs_u2 hc_u23 (by decide)
    have : 0 ≤ r22.toInt ∧ r22.toInt ≤ 1 := hq.2.1
    have : 0 ≤ (u23.1 6).toInt ∧ (u23.1 6).toInt ≤ 120 := hs_u23.1.1 6
    have : (u2.1 6).toInt ≤ (u23.1 6).toInt := hq.2.2.1
    have : (-1) ≤ (u23.1 7).toInt ∧ (u23.1 7).toInt ≤ 120 := hs_u23.1.1 7
    have : 0 ≤ (u23.1 8).toInt ∧ (u23.1 8).toInt ≤ 6 := hs_u23.1.1 8
    have : (u2.1 8).toInt = (u.1 8).toInt := congrArg Int32.toInt (hc_u2.2.1 8 (by decide))
    have : 0 ≤ (u.1 8).toInt ∧ (u.1 8).toInt ≤ 6 := hs_u.1.1 8
    have : (u2.1 7).toInt = (u.1 7).toInt := congrArg Int32.toInt (hc_u2.2.1 7 (by decide))
    have : (-1) ≤ (u.1 7).toInt ∧ (u.1 7).toInt ≤ 120 := hs_u.1.1 7
    have : ((r22.toInt = 0 ∧ (u23.1 7).toInt ≠ -1 ∧ (u23.1 8).toInt = (u2.1 8).toInt) ∨ (r22.toInt ≠ 0 ∧ (u23.1 7).toInt = (u2.1 7).toInt ∧ (u23.1 8).toInt = (u2.1 8).toInt + 1)) := hq.2.2.2
    clear hq
    refine Tot_ite (fun c164 => ?_) (fun c164 => ?_)
    · have : r22.toInt = (0 : Int) := eqI c164
      refine Tot_gd (by decide) ?_
      exact Tot_some ⟨hs_u23, (by show 0 ≤ (0 : Int) ∧ (0 : Int) ≤ 1; omega), ⟨(by show (u.1 6).toInt ≤ (u23.1 6).toInt; omega), (by show (u.1 8).toInt ≤ (u23.1 8).toInt; omega), (by show ((u23.1 7).toInt = -1 → (u23.1 8).toInt = (u.1 8).toInt); omega)⟩⟩
    · have : ¬ r22.toInt = (0 : Int) := neI c164
      have : (u23.1 2).toInt = (u2.1 2).toInt := congrArg Int32.toInt (hc_u23.2.1 2 (by decide))
      have : (u2.1 2).toInt = (u.1 2).toInt := congrArg Int32.toInt (hc_u2.2.1 2 (by decide))
      have : (u23.1 4).toInt = (u2.1 4).toInt := congrArg Int32.toInt (hc_u23.2.1 4 (by decide))
      have : (u2.1 4).toInt = (u.1 4).toInt := congrArg Int32.toInt (hc_u2.2.1 4 (by decide))
      refine Tot_bind (hrc.2.2 u23 hs_u23.1 (by omega) (by show 3 * (6 - (u23.1 8).toInt) + 1 < (dd : Int); omega)) (fun q hq => ?_)
      obtain ⟨r25, u26⟩ := q
      have hc_u26 : StM mdX12_unit_0 u23 u26 := hq.1
      have hs_u26 : StM mdX12_unit_0 u u26 := StM_tr hs_u23 hc_u26 (by decide)
      have : 0 ≤ r25.toInt ∧ r25.toInt ≤ 1 := hq.2.1
      have : 0 ≤ (u26.1 6).toInt ∧ (u26.1 6).toInt ≤ 120 := hs_u26.1.1 6
      have : (u23.1 6).toInt ≤ (u26.1 6).toInt := hq.2.2.1
      have : 0 ≤ (u26.1 8).toInt ∧ (u26.1 8).toInt ≤ 6 := hs_u26.1.1 8
      have : (u23.1 8).toInt ≤ (u26.1 8).toInt := hq.2.2.2.1
      have : (-1) ≤ (u26.1 7).toInt ∧ (u26.1 7).toInt ≤ 120 := hs_u26.1.1 7
      have : ((u26.1 7).toInt = -1 → (u26.1 8).toInt = (u23.1 8).toInt) := hq.2.2.2.2
      clear hq
      have : ((u26.1 8) - 1).toInt = (u26.1 8).toInt - (1 : Int) := subc_t (by decide) (by omega) (by omega)
      refine Tot_lt (fun u28 e_u28 => ?_)
      have hs_u28 : StM mdX12_unit_0 u u28 := by rw [e_u28]; exact StM_sI hs_u26 (by decide) (by show 0 ≤ ((u26.1 8) - 1).toInt; omega) (by show ((u26.1 8) - 1).toInt ≤ 6; omega)
      refine Tot_ite (fun c165 => ?_) (fun c165 => ?_)
      · have : r25.toInt = (0 : Int) := eqI c165
        refine Tot_gd (by decide) ?_
        have : (u28.1 6).toInt = (u26.1 6).toInt := by rw [e_u28]; rfl
        have : (u28.1 8).toInt = ((u26.1 8) - 1).toInt := by rw [e_u28]; rfl
        have : (u28.1 7).toInt = (u26.1 7).toInt := by rw [e_u28]; rfl
        exact Tot_some ⟨hs_u28, (by show 0 ≤ (1 : Int) ∧ (1 : Int) ≤ 1; omega), ⟨(by show (u.1 6).toInt ≤ (u28.1 6).toInt; omega), (by show (u.1 8).toInt ≤ (u28.1 8).toInt; omega), (by show ((u28.1 7).toInt = -1 → (u28.1 8).toInt = (u.1 8).toInt); omega)⟩⟩
      · have : ¬ r25.toInt = (0 : Int) := neI c165
        refine Tot_gd (by decide) ?_
        have : (u28.1 6).toInt = (u26.1 6).toInt := by rw [e_u28]; rfl
        have : (u28.1 8).toInt = ((u26.1 8) - 1).toInt := by rw [e_u28]; rfl
        have : (u28.1 7).toInt = (u26.1 7).toInt := by rw [e_u28]; rfl
        exact Tot_some ⟨hs_u28, (by show 0 ≤ (0 : Int) ∧ (0 : Int) ≤ 1; omega), ⟨(by show (u.1 6).toInt ≤ (u28.1 6).toInt; omega), (by show (u.1 8).toInt ≤ (u28.1 8).toInt; omega), (by show ((u28.1 7).toInt = -1 → (u28.1 8).toInt = (u.1 8).toInt); omega)⟩⟩
  · have : ¬ r1.toInt = (33 : Int) := neI c163
    refine Tot_ite (fun c166 => ?_) (fun c166 => ?_)
    · have : r1.toInt = (40 : Int) := eqI c166
      refine Tot_bind (tfX12_goesIn_0 u2 hs_u2.1 (by omega)) (fun q hq => ?_)
      obtain ⟨r8, u9⟩ := q
      have hc_u9 : StM mdX12_goesIn_0 u2 u9 := hq.1
      have hs_u9 : StM mdX12_unit_0 u u9 := StM_tr hs_u2 hc_u9 (by decide)
      have : 0 ≤ r8.toInt ∧ r8.toInt ≤ 1 := hq.2.1
      have : 0 ≤ (u9.1 6).toInt ∧ (u9.1 6).toInt ≤ 120 := hs_u9.1.1 6
      have : (u2.1 6).toInt ≤ (u9.1 6).toInt := hq.2.2.1
      have : (-1) ≤ (u9.1 7).toInt ∧ (u9.1 7).toInt ≤ 120 := hs_u9.1.1 7
      have : 0 ≤ (u9.1 8).toInt ∧ (u9.1 8).toInt ≤ 6 := hs_u9.1.1 8
      have : (u2.1 8).toInt = (u.1 8).toInt := congrArg Int32.toInt (hc_u2.2.1 8 (by decide))
      have : 0 ≤ (u.1 8).toInt ∧ (u.1 8).toInt ≤ 6 := hs_u.1.1 8
      have : (u2.1 7).toInt = (u.1 7).toInt := congrArg Int32.toInt (hc_u2.2.1 7 (by decide))
      have : (-1) ≤ (u.1 7).toInt ∧ (u.1 7).toInt ≤ 120 := hs_u.1.1 7
      have : ((r8.toInt = 0 ∧ (u9.1 7).toInt ≠ -1 ∧ (u9.1 8).toInt = (u2.1 8).toInt) ∨ (r8.toInt ≠ 0 ∧ (u9.1 7).toInt = (u2.1 7).toInt ∧ (u9.1 8).toInt = (u2.1 8).toInt + 1)) := hq.2.2.2
      clear hq
      refine Tot_ite (fun c167 => ?_) (fun c167 => ?_)
      · have : r8.toInt = (0 : Int) := eqI c167
        refine Tot_gd (by decide) ?_
        exact Tot_some ⟨hs_u9, (by show 0 ≤ (0 : Int) ∧ (0 : Int) ≤ 1; omega), ⟨(by show (u.1 6).toInt ≤ (u9.1 6).toInt; omega), (by show (u.1 8).toInt ≤ (u9.1 8).toInt; omega), (by show ((u9.1 7).toInt = -1 → (u9.1 8).toInt = (u.1 8).toInt); omega)⟩⟩
      · have : ¬ r8.toInt = (0 : Int) := neI c167
        have : (u9.1 2).toInt = (u2.1 2).toInt := congrArg Int32.toInt (hc_u9.2.1 2 (by decide))
        have : (u2.1 2).toInt = (u.1 2).toInt := congrArg Int32.toInt (hc_u2.2.1 2 (by decide))
        have : (u9.1 4).toInt = (u2.1 4).toInt := congrArg Int32.toInt (hc_u9.2.1 4 (by decide))
        have : (u2.1 4).toInt = (u.1 4).toInt := congrArg Int32.toInt (hc_u2.2.1 4 (by decide))
        refine Tot_bind (hrc.1 0 0 u9 hs_u9.1 (by show 0 ≤ (0 : Int) ∧ (0 : Int) ≤ 1; omega) (by omega) (by show 3 * (6 - (u9.1 8).toInt) + 3 < (dd : Int); omega)) (fun q hq => ?_)
        obtain ⟨r11, u12⟩ := q
        have hc_u12 : StM mdX12_condition_0 u9 u12 := hq.1
        have hs_u12 : StM mdX12_unit_0 u u12 := StM_tr hs_u9 hc_u12 (by decide)
        have : 0 ≤ r11.toInt ∧ r11.toInt ≤ 1 := hq.2.1
        have : 0 ≤ (u12.1 6).toInt ∧ (u12.1 6).toInt ≤ 120 := hs_u12.1.1 6
        have : (u9.1 6).toInt ≤ (u12.1 6).toInt := hq.2.2.1
        have : 0 ≤ (u12.1 8).toInt ∧ (u12.1 8).toInt ≤ 6 := hs_u12.1.1 8
        have : (u9.1 8).toInt ≤ (u12.1 8).toInt := hq.2.2.2.1
        have : (-1) ≤ (u12.1 7).toInt ∧ (u12.1 7).toInt ≤ 120 := hs_u12.1.1 7
        have : ((u12.1 7).toInt = -1 → (u12.1 8).toInt = (u9.1 8).toInt) := hq.2.2.2.2
        clear hq
        have : (u12.1 2).toInt = (u9.1 2).toInt := congrArg Int32.toInt (hc_u12.2.1 2 (by decide))
        have : (u12.1 4).toInt = (u9.1 4).toInt := congrArg Int32.toInt (hc_u12.2.1 4 (by decide))
        refine Tot_bind (tfX12_takes_0 41 u12 hs_u12.1 (by show 41 ≤ (41 : Int) ∧ (41 : Int) ≤ 93; omega) (by omega)) (fun q hq => ?_)
        obtain ⟨r14, u15⟩ := q
        have hc_u15 : StM mdX12_takes_0 u12 u15 := hq.1
        have hs_u15 : StM mdX12_unit_0 u u15 := StM_tr hs_u12 hc_u15 (by decide)
        have : 0 ≤ r14.toInt ∧ r14.toInt ≤ 1 := hq.2.1
        have : 0 ≤ (u15.1 6).toInt ∧ (u15.1 6).toInt ≤ 120 := hs_u15.1.1 6
        have : (u12.1 6).toInt ≤ (u15.1 6).toInt := hq.2.2.1
        have : (-1) ≤ (u15.1 7).toInt ∧ (u15.1 7).toInt ≤ 120 := hs_u15.1.1 7
        have : ((r14.toInt = 0 ∧ (u15.1 7).toInt ≠ -1) ∨ (r14.toInt ≠ 0 ∧ (u15.1 7).toInt = -1 ∧ (u12.1 7).toInt = -1)) := hq.2.2.2
        clear hq
        refine Tot_ite (fun c168 => ?_) (fun c168 => ?_)
        · have : r14.toInt = (0 : Int) := eqI c168
          refine Tot_gd (by decide) ?_
          have : (u15.1 8).toInt = (u12.1 8).toInt := congrArg Int32.toInt (hc_u15.2.1 8 (by decide))
          exact Tot_some ⟨hs_u15, (by show 0 ≤ (0 : Int) ∧ (0 : Int) ≤ 1; omega), ⟨(by show (u.1 6).toInt ≤ (u15.1 6).toInt; omega), (by show (u.1 8).toInt ≤ (u15.1 8).toInt; omega), (by show ((u15.1 7).toInt = -1 → (u15.1 8).toInt = (u.1 8).toInt); omega)⟩⟩
        · have : ¬ r14.toInt = (0 : Int) := neI c168
          have : (u15.1 8).toInt = (u12.1 8).toInt := congrArg Int32.toInt (hc_u15.2.1 8 (by decide))
          have : ((u15.1 8) - 1).toInt = (u15.1 8).toInt - (1 : Int) := subc_t (by decide) (by omega) (by omega)
          refine Tot_lt (fun u17 e_u17 => ?_)
          have hs_u17 : StM mdX12_unit_0 u u17 := by rw [e_u17]; exact StM_sI hs_u15 (by decide) (by show 0 ≤ ((u15.1 8) - 1).toInt; omega) (by show ((u15.1 8) - 1).toInt ≤ 6; omega)
          refine Tot_gd (isB_t (by omega) (by omega)) ?_
          have : (u17.1 6).toInt = (u15.1 6).toInt := by rw [e_u17]; rfl
          have : (u17.1 8).toInt = ((u15.1 8) - 1).toInt := by rw [e_u17]; rfl
          have : (u17.1 7).toInt = (u15.1 7).toInt := by rw [e_u17]; rfl
          exact Tot_some ⟨hs_u17, (by show 0 ≤ r11.toInt ∧ r11.toInt ≤ 1; omega), ⟨(by show (u.1 6).toInt ≤ (u17.1 6).toInt; omega), (by show (u.1 8).toInt ≤ (u17.1 8).toInt; omega), (by show ((u17.1 7).toInt = -1 → (u17.1 8).toInt = (u.1 8).toInt); omega)⟩⟩
    · have : ¬ r1.toInt = (40 : Int) := neI c166
      have : (u2.1 2).toInt = (u.1 2).toInt := congrArg Int32.toInt (hc_u2.2.1 2 (by decide))
      have : (u2.1 4).toInt = (u.1 4).toInt := congrArg Int32.toInt (hc_u2.2.1 4 (by decide))
      refine Tot_bind (tfX12_compares_0 0 0 u2 hs_u2.1 (by show 0 ≤ (0 : Int) ∧ (0 : Int) ≤ 1; omega) (by omega)) (fun q hq => ?_)
      obtain ⟨r4, u5⟩ := q
      have hc_u5 : StM mdX12_compares_0 u2 u5 := hq.1
      have hs_u5 : StM mdX12_unit_0 u u5 := StM_tr hs_u2 hc_u5 (by decide)
      have : 0 ≤ r4.toInt ∧ r4.toInt ≤ 1 := hq.2.1
      have : 0 ≤ (u5.1 6).toInt ∧ (u5.1 6).toInt ≤ 120 := hs_u5.1.1 6
      have : (u2.1 6).toInt ≤ (u5.1 6).toInt := hq.2.2.1
      have : (u2.1 8).toInt = (u.1 8).toInt := congrArg Int32.toInt (hc_u2.2.1 8 (by decide))
      have : 0 ≤ (u.1 8).toInt ∧ (u.1 8).toInt ≤ 6 := hs_u.1.1 8
      have : 0 ≤ (u5.1 8).toInt ∧ (u5.1 8).toInt ≤ 6 := hs_u5.1.1 8
      have : (u2.1 8).toInt ≤ (u5.1 8).toInt := hq.2.2.2.1
      have : (-1) ≤ (u5.1 7).toInt ∧ (u5.1 7).toInt ≤ 120 := hs_u5.1.1 7
      have : ((u5.1 7).toInt = -1 → (u5.1 8).toInt = (u2.1 8).toInt) := hq.2.2.2.2
      clear hq
      refine Tot_gd (isB_t (by omega) (by omega)) ?_
      exact Tot_some ⟨hs_u5, (by show 0 ≤ r4.toInt ∧ r4.toInt ≤ 1; omega), ⟨(by show (u.1 6).toInt ≤ (u5.1 6).toInt; omega), (by show (u.1 8).toInt ≤ (u5.1 8).toInt; omega), (by show ((u5.1 7).toInt = -1 → (u5.1 8).toInt = (u.1 8).toInt); omega)⟩⟩

theorem RCrX12conditiong_all : ∀ d, RCrX12conditiong (rX12conditiong d) d := by
  intro d
  induction d with
  | zero =>
    refine ⟨?_, ?_, ?_⟩
    · intro x1 x2 u hI h0 h1 hn
      have : 0 ≤ (u.1 8).toInt ∧ (u.1 8).toInt ≤ 6 := hI.1 8
      exfalso
      omega
    · intro x1 x2 u hI h0 h1 hn
      have : 0 ≤ (u.1 8).toInt ∧ (u.1 8).toInt ≤ 6 := hI.1 8
      exfalso
      omega
    · intro  u hI h0 hn
      have : 0 ≤ (u.1 8).toInt ∧ (u.1 8).toInt ≤ 6 := hI.1 8
      exfalso
      omega
  | succ d ih =>
    refine ⟨?_, ?_, ?_⟩
    · intro x1 x2 u hI h0 h1 hn
      rw [rX12conditiong]
      rw [if_pos rfl]
      exact tfX12_condition_0 ih x1 x2 u hI h0 h1 (by omega)
    · intro x1 x2 u hI h0 h1 hn
      rw [rX12conditiong]
      rw [if_neg (by decide)]; rw [if_pos rfl]
      exact tfX12_part_0 ih x1 x2 u hI h0 h1 (by omega)
    · intro  u hI h0 hn
      rw [rX12conditiong]
      rw [if_neg (by decide)]; rw [if_neg (by decide)]; rw [if_pos rfl]
      exact tfX12_unit_0 ih  u hI h0 (by omega)

def mdX12_clause_0 : MD := ([6, 7, 8, 9, 11], [], [], [])
abbrev qX12_clause_0 (u : SX) (q : Int32 × SX) : Prop := StM mdX12_clause_0 u q.2 ∧ (0 ≤ q.1.toInt ∧ q.1.toInt ≤ 0) ∧ (((u.1 6).toInt ≤ (q.2.1 6).toInt))
set_option maxHeartbeats 400000 in
set_option maxRecDepth 10000 in
theorem tGX12_clause_0_131 (u0 : SX)    (z2 : Int32) (z3 : Int32) (u : SX) (hs_u : StM mdX12_clause_0 u0 u) (h0 : 0 ≤ z2.toInt ∧ z2.toInt ≤ 1) (h1 : ((u.1 2).toInt = 2 → (u.1 4).toInt = 0)) (h2 : (u0.1 6).toInt ≤ (u.1 6).toInt) : Tot (GX12_clause_0_131 z2 z3 u) (qX12_clause_0 u0) := by
  unfold GX12_clause_0_131
  have : 2 ≤ (u.1 2).toInt ∧ (u.1 2).toInt ≤ 3 := hs_u.1.1 2
  have : 0 ≤ (u.1 4).toInt ∧ (u.1 4).toInt ≤ 4200 := hs_u.1.1 4
  have : 0 ≤ (u.1 6).toInt ∧ (u.1 6).toInt ≤ 120 := hs_u.1.1 6
  have : (-1) ≤ (u.1 7).toInt ∧ (u.1 7).toInt ≤ 120 := hs_u.1.1 7
  refine Tot_ite (fun c169 => ?_) (fun c169 => ?_)
  · have : (u.1 7).toInt = (-1 : Int) := eqI c169
    have : 0 ≤ (u.1 11).toInt ∧ (u.1 11).toInt ≤ 1 := hs_u.1.1 11
    refine Tot_ite (fun c170 => ?_) (fun c170 => ?_)
    · have : (u.1 11).toInt = (0 : Int) := eqI c170
      refine Tot_ite (fun c171 => ?_) (fun c171 => ?_)
      · have : z2.toInt = (0 : Int) := eqI c171
        exact Tot_some ⟨hs_u, (by show 0 ≤ (0 : Int) ∧ (0 : Int) ≤ 0; omega), (by show (u0.1 6).toInt ≤ (u.1 6).toInt; omega)⟩
      · have : ¬ z2.toInt = (0 : Int) := neI c171
        refine Tot_gd (by decide) ?_
        refine Tot_lt (fun u22 e_u22 => ?_)
        have hs_u22 : StM mdX12_clause_0 u0 u22 := by rw [e_u22]; exact StM_sI hs_u (by decide) (by show 0 ≤ (1 : Int); omega) (by show (1 : Int) ≤ 1; omega)
        refine Tot_lt (fun u24 e_u24 => ?_)
        have hs_u24 : StM mdX12_clause_0 u0 u24 := by rw [e_u24]; exact StM_sIf hs_u22 (by decide) rfl rfl
        have : (u24.1 6).toInt = (u22.1 6).toInt := by rw [e_u24]; rfl
        have : (u22.1 6).toInt = (u.1 6).toInt := by rw [e_u22]; rfl
        exact Tot_some ⟨hs_u24, (by show 0 ≤ (0 : Int) ∧ (0 : Int) ≤ 0; omega), (by show (u0.1 6).toInt ≤ (u24.1 6).toInt; omega)⟩
    · have : ¬ (u.1 11).toInt = (0 : Int) := neI c170
      exact Tot_some ⟨hs_u, (by show 0 ≤ (0 : Int) ∧ (0 : Int) ≤ 0; omega), (by show (u0.1 6).toInt ≤ (u.1 6).toInt; omega)⟩
  · have : ¬ (u.1 7).toInt = (-1 : Int) := neI c169
    exact Tot_some ⟨hs_u, (by show 0 ≤ (0 : Int) ∧ (0 : Int) ≤ 0; omega), (by show (u0.1 6).toInt ≤ (u.1 6).toInt; omega)⟩
set_option maxHeartbeats 400000 in
set_option maxRecDepth 10000 in
theorem tGX12_clause_0_61 (u0 : SX)     (u : SX) (hs_u : StM mdX12_clause_0 u0 u) (h0 : ((u.1 2).toInt = 2 → (u.1 4).toInt = 0)) (h1 : (u0.1 6).toInt ≤ (u.1 6).toInt) : Tot (GX12_clause_0_61  u) (qX12_clause_0 u0) := by
  unfold GX12_clause_0_61
  have : 2 ≤ (u.1 2).toInt ∧ (u.1 2).toInt ≤ 3 := hs_u.1.1 2
  have : 0 ≤ (u.1 4).toInt ∧ (u.1 4).toInt ≤ 4200 := hs_u.1.1 4
  have : 0 ≤ (u.1 6).toInt ∧ (u.1 6).toInt ≤ 120 := hs_u.1.1 6
  have : 0 ≤ (u.1 8).toInt ∧ (u.1 8).toInt ≤ 6 := hs_u.1.1 8
  refine Tot_bind ((RCrX12conditiong_all 64).1 0 0 u hs_u.1 (by show 0 ≤ (0 : Int) ∧ (0 : Int) ≤ 1; omega) (by omega) (by show 3 * (6 - (u.1 8).toInt) + 3 < ((64 : Nat) : Int); omega)) (fun q hq => ?_)
  obtain ⟨r12, u13⟩ := q
  have hc_u13 : StM mdX12_condition_0 u u13 := hq.1
  have hs_u13 : StM mdX12_clause_0 u0 u13 := StM_tr hs_u hc_u13 (by decide)
  have : 0 ≤ r12.toInt ∧ r12.toInt ≤ 1 := hq.2.1
  have : 0 ≤ (u13.1 6).toInt ∧ (u13.1 6).toInt ≤ 120 := hs_u13.1.1 6
  have : (u.1 6).toInt ≤ (u13.1 6).toInt := hq.2.2.1
  have : 0 ≤ (u13.1 8).toInt ∧ (u13.1 8).toInt ≤ 6 := hs_u13.1.1 8
  have : (u.1 8).toInt ≤ (u13.1 8).toInt := hq.2.2.2.1
  have : (-1) ≤ (u13.1 7).toInt ∧ (u13.1 7).toInt ≤ 120 := hs_u13.1.1 7
  have : ((u13.1 7).toInt = -1 → (u13.1 8).toInt = (u.1 8).toInt) := hq.2.2.2.2
  clear hq
  have : (u13.1 2).toInt = (u.1 2).toInt := congrArg Int32.toInt (hc_u13.2.1 2 (by decide))
  have : (u13.1 4).toInt = (u.1 4).toInt := congrArg Int32.toInt (hc_u13.2.1 4 (by decide))
  refine Tot_bind (tfX12_takes_0 63 u13 hs_u13.1 (by show 41 ≤ (63 : Int) ∧ (63 : Int) ≤ 93; omega) (by omega)) (fun q hq => ?_)
  obtain ⟨r15, u16⟩ := q
  have hc_u16 : StM mdX12_takes_0 u13 u16 := hq.1
  have hs_u16 : StM mdX12_clause_0 u0 u16 := StM_tr hs_u13 hc_u16 (by decide)
  have : 0 ≤ r15.toInt ∧ r15.toInt ≤ 1 := hq.2.1
  have : 0 ≤ (u16.1 6).toInt ∧ (u16.1 6).toInt ≤ 120 := hs_u16.1.1 6
  have : (u13.1 6).toInt ≤ (u16.1 6).toInt := hq.2.2.1
  have : (-1) ≤ (u16.1 7).toInt ∧ (u16.1 7).toInt ≤ 120 := hs_u16.1.1 7
  have : ((r15.toInt = 0 ∧ (u16.1 7).toInt ≠ -1) ∨ (r15.toInt ≠ 0 ∧ (u16.1 7).toInt = -1 ∧ (u13.1 7).toInt = -1)) := hq.2.2.2
  clear hq
  refine Tot_ite (fun c172 => ?_) (fun c172 => ?_)
  · have : r15.toInt = (0 : Int) := eqI c172
    exact Tot_some ⟨hs_u16, (by show 0 ≤ (0 : Int) ∧ (0 : Int) ≤ 0; omega), (by show (u0.1 6).toInt ≤ (u16.1 6).toInt; omega)⟩
  · have : ¬ r15.toInt = (0 : Int) := neI c172
    have : (u16.1 2).toInt = (u13.1 2).toInt := congrArg Int32.toInt (hc_u16.2.1 2 (by decide))
    have : (u16.1 4).toInt = (u13.1 4).toInt := congrArg Int32.toInt (hc_u16.2.1 4 (by decide))
    have : (u16.1 8).toInt = (u13.1 8).toInt := congrArg Int32.toInt (hc_u16.2.1 8 (by decide))
    refine Tot_bind ((RCrX12sumg_all 64).1 u16 hs_u16.1 (by omega) (by show 3 * (6 - (u16.1 8).toInt) + 3 < ((64 : Nat) : Int); omega)) (fun q hq => ?_)
    obtain ⟨r18, u19⟩ := q
    have hc_u19 : StM mdX12_sum_0 u16 u19 := hq.1
    have hs_u19 : StM mdX12_clause_0 u0 u19 := StM_tr hs_u16 hc_u19 (by decide)
    have : 0 ≤ (u19.1 6).toInt ∧ (u19.1 6).toInt ≤ 120 := hs_u19.1.1 6
    have : (u16.1 6).toInt ≤ (u19.1 6).toInt := hq.2.2.1
    have : 0 ≤ (u19.1 8).toInt ∧ (u19.1 8).toInt ≤ 6 := hs_u19.1.1 8
    have : (u16.1 8).toInt ≤ (u19.1 8).toInt := hq.2.2.2.1
    have : (-1) ≤ (u19.1 7).toInt ∧ (u19.1 7).toInt ≤ 120 := hs_u19.1.1 7
    have : ((u19.1 7).toInt = -1 → (u19.1 8).toInt = (u16.1 8).toInt) := hq.2.2.2.2
    clear hq
    have : (u19.1 2).toInt = (u16.1 2).toInt := congrArg Int32.toInt (hc_u19.2.1 2 (by decide))
    have : (u19.1 4).toInt = (u16.1 4).toInt := congrArg Int32.toInt (hc_u19.2.1 4 (by decide))
    exact tGX12_clause_0_131 u0 r12 r18 u19 hs_u19 ⟨by omega, by omega⟩ (by omega) (by omega)
set_option maxHeartbeats 400000 in
set_option maxRecDepth 10000 in
theorem tfX12_clause_0  (u : SX) (hI : IM u) (h0 : ((u.1 2).toInt = 2 → (u.1 4).toInt = 0)) : Tot (fX12_clause_0  u) (qX12_clause_0 u) := by
  unfold fX12_clause_0
  have hs_u : StM mdX12_clause_0 u u := StM_rf hI
  have : 2 ≤ (u.1 2).toInt ∧ (u.1 2).toInt ≤ 3 := hs_u.1.1 2
  have : 0 ≤ (u.1 4).toInt ∧ (u.1 4).toInt ≤ 4200 := hs_u.1.1 4
  refine Tot_bind (tfX12_look_0 u hs_u.1 (by omega)) (fun q hq => ?_)
  obtain ⟨r1, u2⟩ := q
  have hc_u2 : StM mdX12_look_0 u u2 := hq.1
  have hs_u2 : StM mdX12_clause_0 u u2 := StM_tr hs_u hc_u2 (by decide)
  have : (-1) ≤ r1.toInt ∧ r1.toInt ≤ 255 := hq.2.1
  have : 0 ≤ (u2.1 6).toInt ∧ (u2.1 6).toInt ≤ 120 := hs_u2.1.1 6
  have : (u2.1 5).toInt = (u.1 5).toInt := congrArg Int32.toInt (hc_u2.2.1 5 (by decide))
  have : 0 ≤ (u.1 5).toInt ∧ (u.1 5).toInt ≤ 120 := hs_u.1.1 5
  have : r1.toInt ≠ (-1) → ((u2.1 6).toInt < (u2.1 5).toInt) := hq.2.2.1
  have : 0 ≤ (u.1 6).toInt ∧ (u.1 6).toInt ≤ 120 := hs_u.1.1 6
  have : (u.1 6).toInt ≤ (u2.1 6).toInt := hq.2.2.2
  clear hq
  refine Tot_ite (fun c173 => ?_) (fun c173 => ?_)
  · have : r1.toInt = (121 : Int) := eqI c173
    have : ((u2.1 6) + 1).toInt = (u2.1 6).toInt + (1 : Int) := addc_t (by decide) (by omega) (by omega)
    refine Tot_lt (fun u4 e_u4 => ?_)
    have hs_u4 : StM mdX12_clause_0 u u4 := by rw [e_u4]; exact StM_sI hs_u2 (by decide) (by show 0 ≤ ((u2.1 6) + 1).toInt; omega) (by show ((u2.1 6) + 1).toInt ≤ 120; omega)
    have : (u4.1 2).toInt = (u2.1 2).toInt := by rw [e_u4]; rfl
    have : (u2.1 2).toInt = (u.1 2).toInt := congrArg Int32.toInt (hc_u2.2.1 2 (by decide))
    have : (u4.1 4).toInt = (u2.1 4).toInt := by rw [e_u4]; rfl
    have : (u2.1 4).toInt = (u.1 4).toInt := congrArg Int32.toInt (hc_u2.2.1 4 (by decide))
    refine Tot_bind (tfX12_takes_0 58 u4 hs_u4.1 (by show 41 ≤ (58 : Int) ∧ (58 : Int) ≤ 93; omega) (by omega)) (fun q hq => ?_)
    obtain ⟨r6, u7⟩ := q
    have hc_u7 : StM mdX12_takes_0 u4 u7 := hq.1
    have hs_u7 : StM mdX12_clause_0 u u7 := StM_tr hs_u4 hc_u7 (by decide)
    have : 0 ≤ r6.toInt ∧ r6.toInt ≤ 1 := hq.2.1
    have : (u4.1 6).toInt = ((u2.1 6) + 1).toInt := by rw [e_u4]; rfl
    have : 0 ≤ (u7.1 6).toInt ∧ (u7.1 6).toInt ≤ 120 := hs_u7.1.1 6
    have : (u4.1 6).toInt ≤ (u7.1 6).toInt := hq.2.2.1
    have : (-1) ≤ (u7.1 7).toInt ∧ (u7.1 7).toInt ≤ 120 := hs_u7.1.1 7
    have : (u4.1 7).toInt = (u2.1 7).toInt := by rw [e_u4]; rfl
    have : (u2.1 7).toInt = (u.1 7).toInt := congrArg Int32.toInt (hc_u2.2.1 7 (by decide))
    have : (-1) ≤ (u.1 7).toInt ∧ (u.1 7).toInt ≤ 120 := hs_u.1.1 7
    have : ((r6.toInt = 0 ∧ (u7.1 7).toInt ≠ -1) ∨ (r6.toInt ≠ 0 ∧ (u7.1 7).toInt = -1 ∧ (u4.1 7).toInt = -1)) := hq.2.2.2
    clear hq
    refine Tot_ite (fun c174 => ?_) (fun c174 => ?_)
    · have : r6.toInt = (0 : Int) := eqI c174
      exact Tot_some ⟨hs_u7, (by show 0 ≤ (0 : Int) ∧ (0 : Int) ≤ 0; omega), (by show (u.1 6).toInt ≤ (u7.1 6).toInt; omega)⟩
    · have : ¬ r6.toInt = (0 : Int) := neI c174
      have : (u7.1 2).toInt = (u4.1 2).toInt := congrArg Int32.toInt (hc_u7.2.1 2 (by decide))
      have : (u7.1 4).toInt = (u4.1 4).toInt := congrArg Int32.toInt (hc_u7.2.1 4 (by decide))
      refine Tot_bind (tfX12_look_0 u7 hs_u7.1 (by omega)) (fun q hq => ?_)
      obtain ⟨r9, u10⟩ := q
      have hc_u10 : StM mdX12_look_0 u7 u10 := hq.1
      have hs_u10 : StM mdX12_clause_0 u u10 := StM_tr hs_u7 hc_u10 (by decide)
      have : (-1) ≤ r9.toInt ∧ r9.toInt ≤ 255 := hq.2.1
      have : 0 ≤ (u10.1 6).toInt ∧ (u10.1 6).toInt ≤ 120 := hs_u10.1.1 6
      have : (u10.1 5).toInt = (u7.1 5).toInt := congrArg Int32.toInt (hc_u10.2.1 5 (by decide))
      have : (u7.1 5).toInt = (u4.1 5).toInt := congrArg Int32.toInt (hc_u7.2.1 5 (by decide))
      have : (u4.1 5).toInt = (u2.1 5).toInt := by rw [e_u4]; rfl
      have : r9.toInt ≠ (-1) → ((u10.1 6).toInt < (u10.1 5).toInt) := hq.2.2.1
      have : (u7.1 6).toInt ≤ (u10.1 6).toInt := hq.2.2.2
      clear hq
      refine Tot_ite (fun c175 => ?_) (fun c175 => ?_)
      · have : r9.toInt = (33 : Int) := eqI c175
        have : (u10.1 2).toInt = (u7.1 2).toInt := congrArg Int32.toInt (hc_u10.2.1 2 (by decide))
        have : (u10.1 4).toInt = (u7.1 4).toInt := congrArg Int32.toInt (hc_u10.2.1 4 (by decide))
        exact tGX12_clause_0_61 u u10 hs_u10 (by omega) (by omega)
      · have : ¬ r9.toInt = (33 : Int) := neI c175
        refine Tot_ite (fun c176 => ?_) (fun c176 => ?_)
        · have : r9.toInt = (40 : Int) := eqI c176
          have : (u10.1 2).toInt = (u7.1 2).toInt := congrArg Int32.toInt (hc_u10.2.1 2 (by decide))
          have : (u10.1 4).toInt = (u7.1 4).toInt := congrArg Int32.toInt (hc_u10.2.1 4 (by decide))
          exact tGX12_clause_0_61 u u10 hs_u10 (by omega) (by omega)
        · have : ¬ r9.toInt = (40 : Int) := neI c176
          have : (u10.1 2).toInt = (u7.1 2).toInt := congrArg Int32.toInt (hc_u10.2.1 2 (by decide))
          have : (u10.1 4).toInt = (u7.1 4).toInt := congrArg Int32.toInt (hc_u10.2.1 4 (by decide))
          have : (u10.1 8).toInt = (u7.1 8).toInt := congrArg Int32.toInt (hc_u10.2.1 8 (by decide))
          have : (u7.1 8).toInt = (u4.1 8).toInt := congrArg Int32.toInt (hc_u7.2.1 8 (by decide))
          have : (u4.1 8).toInt = (u2.1 8).toInt := by rw [e_u4]; rfl
          have : (u2.1 8).toInt = (u.1 8).toInt := congrArg Int32.toInt (hc_u2.2.1 8 (by decide))
          have : 0 ≤ (u.1 8).toInt ∧ (u.1 8).toInt ≤ 6 := hs_u.1.1 8
          refine Tot_bind ((RCrX12sumg_all 64).1 u10 hs_u10.1 (by omega) (by show 3 * (6 - (u10.1 8).toInt) + 3 < ((64 : Nat) : Int); omega)) (fun q hq => ?_)
          obtain ⟨r26, u27⟩ := q
          have hc_u27 : StM mdX12_sum_0 u10 u27 := hq.1
          have hs_u27 : StM mdX12_clause_0 u u27 := StM_tr hs_u10 hc_u27 (by decide)
          have : 0 ≤ (u27.1 6).toInt ∧ (u27.1 6).toInt ≤ 120 := hs_u27.1.1 6
          have : (u10.1 6).toInt ≤ (u27.1 6).toInt := hq.2.2.1
          have : 0 ≤ (u27.1 8).toInt ∧ (u27.1 8).toInt ≤ 6 := hs_u27.1.1 8
          have : (u10.1 8).toInt ≤ (u27.1 8).toInt := hq.2.2.2.1
          have : (-1) ≤ (u27.1 7).toInt ∧ (u27.1 7).toInt ≤ 120 := hs_u27.1.1 7
          have : ((u27.1 7).toInt = -1 → (u27.1 8).toInt = (u10.1 8).toInt) := hq.2.2.2.2
          clear hq
          refine Tot_ite (fun c177 => ?_) (fun c177 => ?_)
          · have : (u27.1 7).toInt = (-1 : Int) := eqI c177
            have : (u27.1 2).toInt = (u10.1 2).toInt := congrArg Int32.toInt (hc_u27.2.1 2 (by decide))
            have : (u27.1 4).toInt = (u10.1 4).toInt := congrArg Int32.toInt (hc_u27.2.1 4 (by decide))
            refine Tot_bind (tfX12_look_0 u27 hs_u27.1 (by omega)) (fun q hq => ?_)
            obtain ⟨r29, u30⟩ := q
            have hc_u30 : StM mdX12_look_0 u27 u30 := hq.1
            have hs_u30 : StM mdX12_clause_0 u u30 := StM_tr hs_u27 hc_u30 (by decide)
            have : (-1) ≤ r29.toInt ∧ r29.toInt ≤ 255 := hq.2.1
            have : 0 ≤ (u30.1 6).toInt ∧ (u30.1 6).toInt ≤ 120 := hs_u30.1.1 6
            have : (u30.1 5).toInt = (u27.1 5).toInt := congrArg Int32.toInt (hc_u30.2.1 5 (by decide))
            have : (u27.1 5).toInt = (u10.1 5).toInt := congrArg Int32.toInt (hc_u27.2.1 5 (by decide))
            have : r29.toInt ≠ (-1) → ((u30.1 6).toInt < (u30.1 5).toInt) := hq.2.2.1
            have : (u27.1 6).toInt ≤ (u30.1 6).toInt := hq.2.2.2
            clear hq
            refine Tot_bind (tfX12_isSign r29 ⟨by omega, by omega⟩) (fun r32 hq => ?_)
            have : 0 ≤ r32.toInt ∧ r32.toInt ≤ 1 := hq.1
            have : r32.toInt ≠ 0 → ((60 : Int) ≤ r29.toInt ∧ r29.toInt ≤ (62 : Int)) := hq.2
            clear hq
            refine Tot_ite (fun c178 => ?_) (fun c178 => ?_)
            · have : r32.toInt = (0 : Int) := eqI c178
              have : (u30.1 2).toInt = (u27.1 2).toInt := congrArg Int32.toInt (hc_u30.2.1 2 (by decide))
              have : (u30.1 4).toInt = (u27.1 4).toInt := congrArg Int32.toInt (hc_u30.2.1 4 (by decide))
              exact tGX12_clause_0_131 u 1 r26 u30 hs_u30 (by show 0 ≤ (1 : Int) ∧ (1 : Int) ≤ 1; omega) (by omega) (by omega)
            · have : ¬ r32.toInt = (0 : Int) := neI c178
              have : (u30.1 2).toInt = (u27.1 2).toInt := congrArg Int32.toInt (hc_u30.2.1 2 (by decide))
              have : (u30.1 4).toInt = (u27.1 4).toInt := congrArg Int32.toInt (hc_u30.2.1 4 (by decide))
              have : (u30.1 8).toInt = (u27.1 8).toInt := congrArg Int32.toInt (hc_u30.2.1 8 (by decide))
              refine Tot_bind ((RCrX12conditiong_all 64).1 1 r26 u30 hs_u30.1 (by show 0 ≤ (1 : Int) ∧ (1 : Int) ≤ 1; omega) (by omega) (by show 3 * (6 - (u30.1 8).toInt) + 3 < ((64 : Nat) : Int); omega)) (fun q hq => ?_)
              obtain ⟨r35, u36⟩ := q
              have hc_u36 : StM mdX12_condition_0 u30 u36 := hq.1
              have hs_u36 : StM mdX12_clause_0 u u36 := StM_tr hs_u30 hc_u36 (by decide)
              have : 0 ≤ r35.toInt ∧ r35.toInt ≤ 1 := hq.2.1
              have : 0 ≤ (u36.1 6).toInt ∧ (u36.1 6).toInt ≤ 120 := hs_u36.1.1 6
              have : (u30.1 6).toInt ≤ (u36.1 6).toInt := hq.2.2.1
              have : 0 ≤ (u36.1 8).toInt ∧ (u36.1 8).toInt ≤ 6 := hs_u36.1.1 8
              have : (u30.1 8).toInt ≤ (u36.1 8).toInt := hq.2.2.2.1
              have : (-1) ≤ (u36.1 7).toInt ∧ (u36.1 7).toInt ≤ 120 := hs_u36.1.1 7
              have : ((u36.1 7).toInt = -1 → (u36.1 8).toInt = (u30.1 8).toInt) := hq.2.2.2.2
              clear hq
              have : (u36.1 2).toInt = (u30.1 2).toInt := congrArg Int32.toInt (hc_u36.2.1 2 (by decide))
              have : (u36.1 4).toInt = (u30.1 4).toInt := congrArg Int32.toInt (hc_u36.2.1 4 (by decide))
              refine Tot_bind (tfX12_takes_0 63 u36 hs_u36.1 (by show 41 ≤ (63 : Int) ∧ (63 : Int) ≤ 93; omega) (by omega)) (fun q hq => ?_)
              obtain ⟨r38, u39⟩ := q
              have hc_u39 : StM mdX12_takes_0 u36 u39 := hq.1
              have hs_u39 : StM mdX12_clause_0 u u39 := StM_tr hs_u36 hc_u39 (by decide)
              have : 0 ≤ r38.toInt ∧ r38.toInt ≤ 1 := hq.2.1
              have : 0 ≤ (u39.1 6).toInt ∧ (u39.1 6).toInt ≤ 120 := hs_u39.1.1 6
              have : (u36.1 6).toInt ≤ (u39.1 6).toInt := hq.2.2.1
              have : (-1) ≤ (u39.1 7).toInt ∧ (u39.1 7).toInt ≤ 120 := hs_u39.1.1 7
              have : ((r38.toInt = 0 ∧ (u39.1 7).toInt ≠ -1) ∨ (r38.toInt ≠ 0 ∧ (u39.1 7).toInt = -1 ∧ (u36.1 7).toInt = -1)) := hq.2.2.2
              clear hq
              refine Tot_ite (fun c179 => ?_) (fun c179 => ?_)
              · have : r38.toInt = (0 : Int) := eqI c179
                exact Tot_some ⟨hs_u39, (by show 0 ≤ (0 : Int) ∧ (0 : Int) ≤ 0; omega), (by show (u.1 6).toInt ≤ (u39.1 6).toInt; omega)⟩
              · have : ¬ r38.toInt = (0 : Int) := neI c179
                have : (u39.1 2).toInt = (u36.1 2).toInt := congrArg Int32.toInt (hc_u39.2.1 2 (by decide))
                have : (u39.1 4).toInt = (u36.1 4).toInt := congrArg Int32.toInt (hc_u39.2.1 4 (by decide))
                have : (u39.1 8).toInt = (u36.1 8).toInt := congrArg Int32.toInt (hc_u39.2.1 8 (by decide))
                refine Tot_bind ((RCrX12sumg_all 64).1 u39 hs_u39.1 (by omega) (by show 3 * (6 - (u39.1 8).toInt) + 3 < ((64 : Nat) : Int); omega)) (fun q hq => ?_)
                obtain ⟨r41, u42⟩ := q
                have hc_u42 : StM mdX12_sum_0 u39 u42 := hq.1
                have hs_u42 : StM mdX12_clause_0 u u42 := StM_tr hs_u39 hc_u42 (by decide)
                have : 0 ≤ (u42.1 6).toInt ∧ (u42.1 6).toInt ≤ 120 := hs_u42.1.1 6
                have : (u39.1 6).toInt ≤ (u42.1 6).toInt := hq.2.2.1
                have : 0 ≤ (u42.1 8).toInt ∧ (u42.1 8).toInt ≤ 6 := hs_u42.1.1 8
                have : (u39.1 8).toInt ≤ (u42.1 8).toInt := hq.2.2.2.1
                have : (-1) ≤ (u42.1 7).toInt ∧ (u42.1 7).toInt ≤ 120 := hs_u42.1.1 7
                have : ((u42.1 7).toInt = -1 → (u42.1 8).toInt = (u39.1 8).toInt) := hq.2.2.2.2
                clear hq
                have : (u42.1 2).toInt = (u39.1 2).toInt := congrArg Int32.toInt (hc_u42.2.1 2 (by decide))
                have : (u42.1 4).toInt = (u39.1 4).toInt := congrArg Int32.toInt (hc_u42.2.1 4 (by decide))
                exact tGX12_clause_0_131 u r35 r41 u42 hs_u42 ⟨by omega, by omega⟩ (by omega) (by omega)
          · have : ¬ (u27.1 7).toInt = (-1 : Int) := neI c177
            have : (u27.1 2).toInt = (u10.1 2).toInt := congrArg Int32.toInt (hc_u27.2.1 2 (by decide))
            have : (u27.1 4).toInt = (u10.1 4).toInt := congrArg Int32.toInt (hc_u27.2.1 4 (by decide))
            exact tGX12_clause_0_131 u 1 r26 u27 hs_u27 (by show 0 ≤ (1 : Int) ∧ (1 : Int) ≤ 1; omega) (by omega) (by omega)
  · have : ¬ r1.toInt = (121 : Int) := neI c173
    refine Tot_bind (tfX12_fails_0 u2 hs_u2.1) (fun q hq => ?_)
    obtain ⟨r44, u45⟩ := q
    have hc_u45 : StM mdX12_fails_0 u2 u45 := hq.1
    have hs_u45 : StM mdX12_clause_0 u u45 := StM_tr hs_u2 hc_u45 (by decide)
    have : 0 ≤ r44.toInt ∧ r44.toInt ≤ 0 := hq.2.1
    have : (u45.1 6).toInt = (u2.1 6).toInt := congrArg Int32.toInt (hc_u45.2.1 6 (by decide))
    have : (u2.1 6).toInt ≤ (u45.1 6).toInt := hq.2.2.1
    have : (-1) ≤ (u45.1 7).toInt ∧ (u45.1 7).toInt ≤ 120 := hs_u45.1.1 7
    have : (u45.1 7).toInt ≠ -1 := hq.2.2.2
    clear hq
    exact Tot_some ⟨hs_u45, (by show 0 ≤ (0 : Int) ∧ (0 : Int) ≤ 0; omega), (by show (u.1 6).toInt ≤ (u45.1 6).toInt; omega)⟩

def mdX12_goThrough_0_a1 : MD := ([2, 4, 5, 6, 7, 8, 9, 10, 11], [], [], [])
abbrev qX12_goThrough_0_a1 (u : SX) (q : Int32 × SX) : Prop := StM mdX12_goThrough_0_a1 u q.2 ∧ (0 ≤ q.1.toInt ∧ q.1.toInt ≤ 0) ∧ (True)
set_option maxHeartbeats 400000 in
set_option maxRecDepth 10000 in
theorem tLX12_goThrough_0_a1_73 (u0 : SX)  {k107 : SX → Option (Int32 × SX)} (hk107 : ∀  (u : SX), (StM mdX12_goThrough_0_a1 u0 u) → (((u.1 2).toInt = 2 → (u.1 4).toInt = 0)) → Tot (k107  u) (qX12_goThrough_0_a1 u0)) : ∀ (n : Nat)  (u : SX), (StM mdX12_goThrough_0_a1 u0 u) → (((u.1 2).toInt = 2 → (u.1 4).toInt = 0)) → (120 - (u.1 6).toInt < (n : Int)) → Tot (LX12_goThrough_0_a1_73 k107 n  u) (qX12_goThrough_0_a1 u0) := by
  intro n
  induction n with
  | zero =>
    intro  u hs_u h0 hm
    have : 0 ≤ (u.1 6).toInt ∧ (u.1 6).toInt ≤ 120 := hs_u.1.1 6
    exfalso
    omega
  | succ n ih =>
    intro  u hs_u h0 hm
    rw [LX12_goThrough_0_a1_73]
    have : 0 ≤ (u.1 6).toInt ∧ (u.1 6).toInt ≤ 120 := hs_u.1.1 6
    have : 2 ≤ (u.1 2).toInt ∧ (u.1 2).toInt ≤ 3 := hs_u.1.1 2
    have : 0 ≤ (u.1 4).toInt ∧ (u.1 4).toInt ≤ 4200 := hs_u.1.1 4
    have : (-1) ≤ (u.1 7).toInt ∧ (u.1 7).toInt ≤ 120 := hs_u.1.1 7
    refine Tot_ite (fun c180 => ?_) (fun c180 => ?_)
    · have : (u.1 7).toInt = (-1 : Int) := eqI c180
      refine Tot_bind (tfX12_look_0 u hs_u.1 (by omega)) (fun q hq => ?_)
      obtain ⟨r23, u24⟩ := q
      have hc_u24 : StM mdX12_look_0 u u24 := hq.1
      have hs_u24 : StM mdX12_goThrough_0_a1 u0 u24 := StM_tr hs_u hc_u24 (by decide)
      have : (-1) ≤ r23.toInt ∧ r23.toInt ≤ 255 := hq.2.1
      have : 0 ≤ (u24.1 6).toInt ∧ (u24.1 6).toInt ≤ 120 := hs_u24.1.1 6
      have : (u24.1 5).toInt = (u.1 5).toInt := congrArg Int32.toInt (hc_u24.2.1 5 (by decide))
      have : 0 ≤ (u.1 5).toInt ∧ (u.1 5).toInt ≤ 120 := hs_u.1.1 5
      have : r23.toInt ≠ (-1) → ((u24.1 6).toInt < (u24.1 5).toInt) := hq.2.2.1
      have : (u.1 6).toInt ≤ (u24.1 6).toInt := hq.2.2.2
      clear hq
      refine Tot_ite (fun c181 => ?_) (fun c181 => ?_)
      · have : r23.toInt = (59 : Int) := eqI c181
        have : ((u24.1 6) + 1).toInt = (u24.1 6).toInt + (1 : Int) := addc_t (by decide) (by omega) (by omega)
        refine Tot_lt (fun u26 e_u26 => ?_)
        have hs_u26 : StM mdX12_goThrough_0_a1 u0 u26 := by rw [e_u26]; exact StM_sI hs_u24 (by decide) (by show 0 ≤ ((u24.1 6) + 1).toInt; omega) (by show ((u24.1 6) + 1).toInt ≤ 120; omega)
        have : (u26.1 2).toInt = (u24.1 2).toInt := by rw [e_u26]; rfl
        have : (u24.1 2).toInt = (u.1 2).toInt := congrArg Int32.toInt (hc_u24.2.1 2 (by decide))
        have : (u26.1 4).toInt = (u24.1 4).toInt := by rw [e_u26]; rfl
        have : (u24.1 4).toInt = (u.1 4).toInt := congrArg Int32.toInt (hc_u24.2.1 4 (by decide))
        refine Tot_bind (tfX12_clause_0 u26 hs_u26.1 (by omega)) (fun q hq => ?_)
        obtain ⟨r28, u29⟩ := q
        have hc_u29 : StM mdX12_clause_0 u26 u29 := hq.1
        have hs_u29 : StM mdX12_goThrough_0_a1 u0 u29 := StM_tr hs_u26 hc_u29 (by decide)
        have : 0 ≤ r28.toInt ∧ r28.toInt ≤ 0 := hq.2.1
        have : (u26.1 6).toInt = ((u24.1 6) + 1).toInt := by rw [e_u26]; rfl
        have : 0 ≤ (u29.1 6).toInt ∧ (u29.1 6).toInt ≤ 120 := hs_u29.1.1 6
        have : (u26.1 6).toInt ≤ (u29.1 6).toInt := hq.2.2
        clear hq
        have : (u29.1 2).toInt = (u26.1 2).toInt := congrArg Int32.toInt (hc_u29.2.1 2 (by decide))
        have : (u29.1 4).toInt = (u26.1 4).toInt := congrArg Int32.toInt (hc_u29.2.1 4 (by decide))
        exact ih u29 hs_u29 (by omega) (by omega)
      · have : ¬ r23.toInt = (59 : Int) := neI c181
        have : (u24.1 2).toInt = (u.1 2).toInt := congrArg Int32.toInt (hc_u24.2.1 2 (by decide))
        have : (u24.1 4).toInt = (u.1 4).toInt := congrArg Int32.toInt (hc_u24.2.1 4 (by decide))
        exact hk107 u24 hs_u24 (by omega)
    · have : ¬ (u.1 7).toInt = (-1 : Int) := neI c180
      exact hk107 u hs_u (by omega)
set_option maxHeartbeats 400000 in
set_option maxRecDepth 10000 in
theorem tGX12_goThrough_0_a1_107 (u0 : SX)     (u : SX) (hs_u : StM mdX12_goThrough_0_a1 u0 u) (h0 : ((u.1 2).toInt = 2 → (u.1 4).toInt = 0)) : Tot (GX12_goThrough_0_a1_107  u) (qX12_goThrough_0_a1 u0) := by
  unfold GX12_goThrough_0_a1_107
  have : 2 ≤ (u.1 2).toInt ∧ (u.1 2).toInt ≤ 3 := hs_u.1.1 2
  have : 0 ≤ (u.1 4).toInt ∧ (u.1 4).toInt ≤ 4200 := hs_u.1.1 4
  have : (-1) ≤ (u.1 7).toInt ∧ (u.1 7).toInt ≤ 120 := hs_u.1.1 7
  refine Tot_ite (fun c182 => ?_) (fun c182 => ?_)
  · have : (u.1 7).toInt = (-1 : Int) := eqI c182
    refine Tot_bind (tfX12_look_0 u hs_u.1 (by omega)) (fun q hq => ?_)
    obtain ⟨r31, u32⟩ := q
    have hc_u32 : StM mdX12_look_0 u u32 := hq.1
    have hs_u32 : StM mdX12_goThrough_0_a1 u0 u32 := StM_tr hs_u hc_u32 (by decide)
    have : (-1) ≤ r31.toInt ∧ r31.toInt ≤ 255 := hq.2.1
    have : 0 ≤ (u32.1 6).toInt ∧ (u32.1 6).toInt ≤ 120 := hs_u32.1.1 6
    have : (u32.1 5).toInt = (u.1 5).toInt := congrArg Int32.toInt (hc_u32.2.1 5 (by decide))
    have : 0 ≤ (u.1 5).toInt ∧ (u.1 5).toInt ≤ 120 := hs_u.1.1 5
    have : r31.toInt ≠ (-1) → ((u32.1 6).toInt < (u32.1 5).toInt) := hq.2.2.1
    have : 0 ≤ (u.1 6).toInt ∧ (u.1 6).toInt ≤ 120 := hs_u.1.1 6
    have : (u.1 6).toInt ≤ (u32.1 6).toInt := hq.2.2.2
    clear hq
    refine Tot_ite (fun c183 => ?_) (fun c183 => ?_)
    · have : r31.toInt = (-1 : Int) := eqI c183
      exact Tot_some ⟨hs_u32, (by show 0 ≤ (0 : Int) ∧ (0 : Int) ≤ 0; omega), trivial⟩
    · have : ¬ r31.toInt = (-1 : Int) := neI c183
      refine Tot_bind (tfX12_fails_0 u32 hs_u32.1) (fun q hq => ?_)
      obtain ⟨r34, u35⟩ := q
      have hc_u35 : StM mdX12_fails_0 u32 u35 := hq.1
      have hs_u35 : StM mdX12_goThrough_0_a1 u0 u35 := StM_tr hs_u32 hc_u35 (by decide)
      have : 0 ≤ r34.toInt ∧ r34.toInt ≤ 0 := hq.2.1
      have : (u35.1 6).toInt = (u32.1 6).toInt := congrArg Int32.toInt (hc_u35.2.1 6 (by decide))
      have : (u32.1 6).toInt ≤ (u35.1 6).toInt := hq.2.2.1
      have : (-1) ≤ (u35.1 7).toInt ∧ (u35.1 7).toInt ≤ 120 := hs_u35.1.1 7
      have : (u35.1 7).toInt ≠ -1 := hq.2.2.2
      clear hq
      exact Tot_some ⟨hs_u35, (by show 0 ≤ (0 : Int) ∧ (0 : Int) ≤ 0; omega), trivial⟩
  · have : ¬ (u.1 7).toInt = (-1 : Int) := neI c182
    exact Tot_some ⟨hs_u, (by show 0 ≤ (0 : Int) ∧ (0 : Int) ≤ 0; omega), trivial⟩
set_option maxHeartbeats 400000 in
set_option maxRecDepth 10000 in
theorem tGX12_goThrough_0_a1_41 (u0 : SX)     (u : SX) (hs_u : StM mdX12_goThrough_0_a1 u0 u) (h0 : ((u.1 2).toInt = 2 → (u.1 4).toInt = 0)) : Tot (GX12_goThrough_0_a1_41  u) (qX12_goThrough_0_a1 u0) := by
  unfold GX12_goThrough_0_a1_41
  have : 2 ≤ (u.1 2).toInt ∧ (u.1 2).toInt ≤ 3 := hs_u.1.1 2
  have : 0 ≤ (u.1 4).toInt ∧ (u.1 4).toInt ≤ 4200 := hs_u.1.1 4
  refine Tot_lt (fun u7 e_u7 => ?_)
  have hs_u7 : StM mdX12_goThrough_0_a1 u0 u7 := by rw [e_u7]; exact StM_sI hs_u (by decide) (by show 5 ≤ (7 : Int); omega) (by show (7 : Int) ≤ 7; omega)
  refine Tot_lt (fun u9 e_u9 => ?_)
  have hs_u9 : StM mdX12_goThrough_0_a1 u0 u9 := by rw [e_u9]; exact StM_sI hs_u7 (by decide) (by show 0 ≤ (0 : Int); omega) (by show (0 : Int) ≤ 120; omega)
  refine Tot_lt (fun u11 e_u11 => ?_)
  have hs_u11 : StM mdX12_goThrough_0_a1 u0 u11 := by rw [e_u11]; exact StM_sI hs_u9 (by decide) (by show (-1) ≤ (-1 : Int); omega) (by show (-1 : Int) ≤ 120; omega)
  refine Tot_lt (fun u13 e_u13 => ?_)
  have hs_u13 : StM mdX12_goThrough_0_a1 u0 u13 := by rw [e_u13]; exact StM_sI hs_u11 (by decide) (by show 0 ≤ (0 : Int); omega) (by show (0 : Int) ≤ 6; omega)
  refine Tot_gd (by decide) ?_
  refine Tot_lt (fun u16 e_u16 => ?_)
  have hs_u16 : StM mdX12_goThrough_0_a1 u0 u16 := by rw [e_u16]; exact StM_sI hs_u13 (by decide) (by show 0 ≤ (0 : Int); omega) (by show (0 : Int) ≤ 1; omega)
  refine Tot_lt (fun u18 e_u18 => ?_)
  have hs_u18 : StM mdX12_goThrough_0_a1 u0 u18 := by rw [e_u18]; exact StM_sIf hs_u16 (by decide) rfl rfl
  have : (u18.1 2).toInt = (u16.1 2).toInt := by rw [e_u18]; rfl
  have : (u16.1 2).toInt = (u13.1 2).toInt := by rw [e_u16]; rfl
  have : (u13.1 2).toInt = (u11.1 2).toInt := by rw [e_u13]; rfl
  have : (u11.1 2).toInt = (u9.1 2).toInt := by rw [e_u11]; rfl
  have : (u9.1 2).toInt = (u7.1 2).toInt := by rw [e_u9]; rfl
  have : (u7.1 2).toInt = (u.1 2).toInt := by rw [e_u7]; rfl
  have : (u18.1 4).toInt = (u16.1 4).toInt := by rw [e_u18]; rfl
  have : (u16.1 4).toInt = (u13.1 4).toInt := by rw [e_u16]; rfl
  have : (u13.1 4).toInt = (u11.1 4).toInt := by rw [e_u13]; rfl
  have : (u11.1 4).toInt = (u9.1 4).toInt := by rw [e_u11]; rfl
  have : (u9.1 4).toInt = (u7.1 4).toInt := by rw [e_u9]; rfl
  have : (u7.1 4).toInt = (u.1 4).toInt := by rw [e_u7]; rfl
  refine Tot_bind (tfX12_clause_0 u18 hs_u18.1 (by omega)) (fun q hq => ?_)
  obtain ⟨r20, u21⟩ := q
  have hc_u21 : StM mdX12_clause_0 u18 u21 := hq.1
  have hs_u21 : StM mdX12_goThrough_0_a1 u0 u21 := StM_tr hs_u18 hc_u21 (by decide)
  have : 0 ≤ r20.toInt ∧ r20.toInt ≤ 0 := hq.2.1
  have : (u18.1 6).toInt = (u16.1 6).toInt := by rw [e_u18]; rfl
  have : (u16.1 6).toInt = (u13.1 6).toInt := by rw [e_u16]; rfl
  have : (u13.1 6).toInt = (u11.1 6).toInt := by rw [e_u13]; rfl
  have : (u11.1 6).toInt = (u9.1 6).toInt := by rw [e_u11]; rfl
  have : (u9.1 6).toInt = (0 : Int) := by rw [e_u9]; rfl
  have : 0 ≤ (u21.1 6).toInt ∧ (u21.1 6).toInt ≤ 120 := hs_u21.1.1 6
  have : (u18.1 6).toInt ≤ (u21.1 6).toInt := hq.2.2
  clear hq
  have : (u21.1 2).toInt = (u18.1 2).toInt := congrArg Int32.toInt (hc_u21.2.1 2 (by decide))
  have : (u21.1 4).toInt = (u18.1 4).toInt := congrArg Int32.toInt (hc_u21.2.1 4 (by decide))
  exact tLX12_goThrough_0_a1_73 u0 (tGX12_goThrough_0_a1_107 u0) 5000 u21 hs_u21 (by omega) (by show 120 - (u21.1 6).toInt < ((5000 : Nat) : Int); omega)
set_option maxHeartbeats 400000 in
set_option maxRecDepth 10000 in
theorem tGX12_goThrough_0_a1_41a (u0 : SX)     (u : SX) (hs_u : StM mdX12_goThrough_0_a1 u0 u) (h0 : ((u.1 2).toInt = 2 → (u.1 4).toInt = 0)) : Tot (GX12_goThrough_0_a1_41a  u) (qX12_goThrough_0_a1 u0) := by
  unfold GX12_goThrough_0_a1_41a
  have : 2 ≤ (u.1 2).toInt ∧ (u.1 2).toInt ≤ 3 := hs_u.1.1 2
  have : 0 ≤ (u.1 4).toInt ∧ (u.1 4).toInt ≤ 4200 := hs_u.1.1 4
  refine Tot_lt (fun u37 e_u37 => ?_)
  have hs_u37 : StM mdX12_goThrough_0_a1 u0 u37 := by rw [e_u37]; exact StM_sI hs_u (by decide) (by show 5 ≤ (6 : Int); omega) (by show (6 : Int) ≤ 7; omega)
  refine Tot_lt (fun u39 e_u39 => ?_)
  have hs_u39 : StM mdX12_goThrough_0_a1 u0 u39 := by rw [e_u39]; exact StM_sI hs_u37 (by decide) (by show 0 ≤ (0 : Int); omega) (by show (0 : Int) ≤ 120; omega)
  refine Tot_lt (fun u41 e_u41 => ?_)
  have hs_u41 : StM mdX12_goThrough_0_a1 u0 u41 := by rw [e_u41]; exact StM_sI hs_u39 (by decide) (by show (-1) ≤ (-1 : Int); omega) (by show (-1 : Int) ≤ 120; omega)
  refine Tot_lt (fun u43 e_u43 => ?_)
  have hs_u43 : StM mdX12_goThrough_0_a1 u0 u43 := by rw [e_u43]; exact StM_sI hs_u41 (by decide) (by show 0 ≤ (0 : Int); omega) (by show (0 : Int) ≤ 6; omega)
  refine Tot_gd (by decide) ?_
  refine Tot_lt (fun u46 e_u46 => ?_)
  have hs_u46 : StM mdX12_goThrough_0_a1 u0 u46 := by rw [e_u46]; exact StM_sI hs_u43 (by decide) (by show 0 ≤ (0 : Int); omega) (by show (0 : Int) ≤ 1; omega)
  refine Tot_lt (fun u48 e_u48 => ?_)
  have hs_u48 : StM mdX12_goThrough_0_a1 u0 u48 := by rw [e_u48]; exact StM_sIf hs_u46 (by decide) rfl rfl
  have : (u48.1 2).toInt = (u46.1 2).toInt := by rw [e_u48]; rfl
  have : (u46.1 2).toInt = (u43.1 2).toInt := by rw [e_u46]; rfl
  have : (u43.1 2).toInt = (u41.1 2).toInt := by rw [e_u43]; rfl
  have : (u41.1 2).toInt = (u39.1 2).toInt := by rw [e_u41]; rfl
  have : (u39.1 2).toInt = (u37.1 2).toInt := by rw [e_u39]; rfl
  have : (u37.1 2).toInt = (u.1 2).toInt := by rw [e_u37]; rfl
  have : (u48.1 4).toInt = (u46.1 4).toInt := by rw [e_u48]; rfl
  have : (u46.1 4).toInt = (u43.1 4).toInt := by rw [e_u46]; rfl
  have : (u43.1 4).toInt = (u41.1 4).toInt := by rw [e_u43]; rfl
  have : (u41.1 4).toInt = (u39.1 4).toInt := by rw [e_u41]; rfl
  have : (u39.1 4).toInt = (u37.1 4).toInt := by rw [e_u39]; rfl
  have : (u37.1 4).toInt = (u.1 4).toInt := by rw [e_u37]; rfl
  refine Tot_bind (tfX12_clause_0 u48 hs_u48.1 (by omega)) (fun q hq => ?_)
  obtain ⟨r50, u51⟩ := q
  have hc_u51 : StM mdX12_clause_0 u48 u51 := hq.1
  have hs_u51 : StM mdX12_goThrough_0_a1 u0 u51 := StM_tr hs_u48 hc_u51 (by decide)
  have : 0 ≤ r50.toInt ∧ r50.toInt ≤ 0 := hq.2.1
  have : (u48.1 6).toInt = (u46.1 6).toInt := by rw [e_u48]; rfl
  have : (u46.1 6).toInt = (u43.1 6).toInt := by rw [e_u46]; rfl
  have : (u43.1 6).toInt = (u41.1 6).toInt := by rw [e_u43]; rfl
  have : (u41.1 6).toInt = (u39.1 6).toInt := by rw [e_u41]; rfl
  have : (u39.1 6).toInt = (0 : Int) := by rw [e_u39]; rfl
  have : 0 ≤ (u51.1 6).toInt ∧ (u51.1 6).toInt ≤ 120 := hs_u51.1.1 6
  have : (u48.1 6).toInt ≤ (u51.1 6).toInt := hq.2.2
  clear hq
  have : (u51.1 2).toInt = (u48.1 2).toInt := congrArg Int32.toInt (hc_u51.2.1 2 (by decide))
  have : (u51.1 4).toInt = (u48.1 4).toInt := congrArg Int32.toInt (hc_u51.2.1 4 (by decide))
  exact tLX12_goThrough_0_a1_73 u0 (tGX12_goThrough_0_a1_107 u0) 5000 u51 hs_u51 (by omega) (by show 120 - (u51.1 6).toInt < ((5000 : Nat) : Int); omega)
set_option maxHeartbeats 400000 in
set_option maxRecDepth 10000 in
theorem tGX12_goThrough_0_a1_41b (u0 : SX)     (u : SX) (hs_u : StM mdX12_goThrough_0_a1 u0 u) (h0 : ((u.1 2).toInt = 2 → (u.1 4).toInt = 0)) : Tot (GX12_goThrough_0_a1_41b  u) (qX12_goThrough_0_a1 u0) := by
  unfold GX12_goThrough_0_a1_41b
  have : 2 ≤ (u.1 2).toInt ∧ (u.1 2).toInt ≤ 3 := hs_u.1.1 2
  have : 0 ≤ (u.1 4).toInt ∧ (u.1 4).toInt ≤ 4200 := hs_u.1.1 4
  refine Tot_lt (fun u53 e_u53 => ?_)
  have hs_u53 : StM mdX12_goThrough_0_a1 u0 u53 := by rw [e_u53]; exact StM_sI hs_u (by decide) (by show 5 ≤ (5 : Int); omega) (by show (5 : Int) ≤ 7; omega)
  refine Tot_lt (fun u55 e_u55 => ?_)
  have hs_u55 : StM mdX12_goThrough_0_a1 u0 u55 := by rw [e_u55]; exact StM_sI hs_u53 (by decide) (by show 0 ≤ (0 : Int); omega) (by show (0 : Int) ≤ 120; omega)
  refine Tot_lt (fun u57 e_u57 => ?_)
  have hs_u57 : StM mdX12_goThrough_0_a1 u0 u57 := by rw [e_u57]; exact StM_sI hs_u55 (by decide) (by show (-1) ≤ (-1 : Int); omega) (by show (-1 : Int) ≤ 120; omega)
  refine Tot_lt (fun u59 e_u59 => ?_)
  have hs_u59 : StM mdX12_goThrough_0_a1 u0 u59 := by rw [e_u59]; exact StM_sI hs_u57 (by decide) (by show 0 ≤ (0 : Int); omega) (by show (0 : Int) ≤ 6; omega)
  refine Tot_gd (by decide) ?_
  refine Tot_lt (fun u62 e_u62 => ?_)
  have hs_u62 : StM mdX12_goThrough_0_a1 u0 u62 := by rw [e_u62]; exact StM_sI hs_u59 (by decide) (by show 0 ≤ (0 : Int); omega) (by show (0 : Int) ≤ 1; omega)
  refine Tot_lt (fun u64 e_u64 => ?_)
  have hs_u64 : StM mdX12_goThrough_0_a1 u0 u64 := by rw [e_u64]; exact StM_sIf hs_u62 (by decide) rfl rfl
  have : (u64.1 2).toInt = (u62.1 2).toInt := by rw [e_u64]; rfl
  have : (u62.1 2).toInt = (u59.1 2).toInt := by rw [e_u62]; rfl
  have : (u59.1 2).toInt = (u57.1 2).toInt := by rw [e_u59]; rfl
  have : (u57.1 2).toInt = (u55.1 2).toInt := by rw [e_u57]; rfl
  have : (u55.1 2).toInt = (u53.1 2).toInt := by rw [e_u55]; rfl
  have : (u53.1 2).toInt = (u.1 2).toInt := by rw [e_u53]; rfl
  have : (u64.1 4).toInt = (u62.1 4).toInt := by rw [e_u64]; rfl
  have : (u62.1 4).toInt = (u59.1 4).toInt := by rw [e_u62]; rfl
  have : (u59.1 4).toInt = (u57.1 4).toInt := by rw [e_u59]; rfl
  have : (u57.1 4).toInt = (u55.1 4).toInt := by rw [e_u57]; rfl
  have : (u55.1 4).toInt = (u53.1 4).toInt := by rw [e_u55]; rfl
  have : (u53.1 4).toInt = (u.1 4).toInt := by rw [e_u53]; rfl
  refine Tot_bind (tfX12_clause_0 u64 hs_u64.1 (by omega)) (fun q hq => ?_)
  obtain ⟨r66, u67⟩ := q
  have hc_u67 : StM mdX12_clause_0 u64 u67 := hq.1
  have hs_u67 : StM mdX12_goThrough_0_a1 u0 u67 := StM_tr hs_u64 hc_u67 (by decide)
  have : 0 ≤ r66.toInt ∧ r66.toInt ≤ 0 := hq.2.1
  have : (u64.1 6).toInt = (u62.1 6).toInt := by rw [e_u64]; rfl
  have : (u62.1 6).toInt = (u59.1 6).toInt := by rw [e_u62]; rfl
  have : (u59.1 6).toInt = (u57.1 6).toInt := by rw [e_u59]; rfl
  have : (u57.1 6).toInt = (u55.1 6).toInt := by rw [e_u57]; rfl
  have : (u55.1 6).toInt = (0 : Int) := by rw [e_u55]; rfl
  have : 0 ≤ (u67.1 6).toInt ∧ (u67.1 6).toInt ≤ 120 := hs_u67.1.1 6
  have : (u64.1 6).toInt ≤ (u67.1 6).toInt := hq.2.2
  clear hq
  have : (u67.1 2).toInt = (u64.1 2).toInt := congrArg Int32.toInt (hc_u67.2.1 2 (by decide))
  have : (u67.1 4).toInt = (u64.1 4).toInt := congrArg Int32.toInt (hc_u67.2.1 4 (by decide))
  exact tLX12_goThrough_0_a1_73 u0 (tGX12_goThrough_0_a1_107 u0) 5000 u67 hs_u67 (by omega) (by show 120 - (u67.1 6).toInt < ((5000 : Nat) : Int); omega)
set_option maxHeartbeats 400000 in
set_option maxRecDepth 10000 in
theorem tfX12_goThrough_0_a1 (x2 : Int32) (x3 : Int32) (x4 : Int32) (u : SX) (hI : IM u) (h0 : 0 ≤ x2.toInt ∧ x2.toInt ≤ 0) (h1 : 0 ≤ x3.toInt ∧ x3.toInt ≤ 120) (h2 : 0 ≤ x4.toInt ∧ x4.toInt ≤ 2) : Tot (fX12_goThrough_0_a1 x2 x3 x4 u) (qX12_goThrough_0_a1 u) := by
  unfold fX12_goThrough_0_a1
  have hs_u : StM mdX12_goThrough_0_a1 u u := StM_rf hI
  refine Tot_lt (fun u1 e_u1 => ?_)
  have hs_u1 : StM mdX12_goThrough_0_a1 u u1 := by rw [e_u1]; exact StM_sI hs_u (by decide) (by show 2 ≤ (2 : Int); omega) (by show (2 : Int) ≤ 3; omega)
  refine Tot_lt (fun u3 e_u3 => ?_)
  have hs_u3 : StM mdX12_goThrough_0_a1 u u3 := by rw [e_u3]; exact StM_sI hs_u1 (by decide) (by show 0 ≤ x2.toInt; omega) (by show x2.toInt ≤ 4200; omega)
  refine Tot_lt (fun u5 e_u5 => ?_)
  have hs_u5 : StM mdX12_goThrough_0_a1 u u5 := by rw [e_u5]; exact StM_sI hs_u3 (by decide) (by show 0 ≤ x3.toInt; omega) (by show x3.toInt ≤ 120; omega)
  refine Tot_ite (fun c184 => ?_) (fun c184 => ?_)
  · have : x4.toInt = (0 : Int) := eqI c184
    have : (u5.1 2).toInt = (u3.1 2).toInt := by rw [e_u5]; rfl
    have : (u3.1 2).toInt = (u1.1 2).toInt := by rw [e_u3]; rfl
    have : (u1.1 2).toInt = (2 : Int) := by rw [e_u1]; rfl
    have : (u5.1 4).toInt = (u3.1 4).toInt := by rw [e_u5]; rfl
    have : (u3.1 4).toInt = x2.toInt := by rw [e_u3]; rfl
    exact tGX12_goThrough_0_a1_41b u u5 hs_u5 (by omega)
  · have : ¬ x4.toInt = (0 : Int) := neI c184
    refine Tot_ite (fun c185 => ?_) (fun c185 => ?_)
    · have : x4.toInt = (1 : Int) := eqI c185
      have : (u5.1 2).toInt = (u3.1 2).toInt := by rw [e_u5]; rfl
      have : (u3.1 2).toInt = (u1.1 2).toInt := by rw [e_u3]; rfl
      have : (u1.1 2).toInt = (2 : Int) := by rw [e_u1]; rfl
      have : (u5.1 4).toInt = (u3.1 4).toInt := by rw [e_u5]; rfl
      have : (u3.1 4).toInt = x2.toInt := by rw [e_u3]; rfl
      exact tGX12_goThrough_0_a1_41a u u5 hs_u5 (by omega)
    · have : ¬ x4.toInt = (1 : Int) := neI c185
      have : (u5.1 2).toInt = (u3.1 2).toInt := by rw [e_u5]; rfl
      have : (u3.1 2).toInt = (u1.1 2).toInt := by rw [e_u3]; rfl
      have : (u1.1 2).toInt = (2 : Int) := by rw [e_u1]; rfl
      have : (u5.1 4).toInt = (u3.1 4).toInt := by rw [e_u5]; rfl
      have : (u3.1 4).toInt = x2.toInt := by rw [e_u3]; rfl
      exact tGX12_goThrough_0_a1_41 u u5 hs_u5 (by omega)

def mdX12_fault_0 : MD := ([0, 2, 4, 5, 6, 7, 8, 9, 10, 11], [], [], [])
abbrev qX12_fault_0 (u : SX) (q : Int32 × SX) : Prop := StM mdX12_fault_0 u q.2 ∧ ((-2) ≤ q.1.toInt ∧ q.1.toInt ≤ 120) ∧ (True)
set_option maxHeartbeats 400000 in
set_option maxRecDepth 10000 in
theorem tfX12_fault_0 (x1 : Int32) (u : SX) (hI : IM u)  : Tot (fX12_fault_0 x1 u) (qX12_fault_0 u) := by
  unfold fX12_fault_0
  have hs_u : StM mdX12_fault_0 u u := StM_rf hI
  refine Tot_lt (fun u1 e_u1 => ?_)
  have hs_u1 : StM mdX12_fault_0 u u1 := by rw [e_u1]; exact StM_sI hs_u (by decide) (by show 0 ≤ (0 : Int); omega) (by show (0 : Int) ≤ 1; omega)
  refine Tot_bind (tfX12_isIn x1 0 2 (by show (-100000) ≤ (0 : Int) ∧ (0 : Int) ≤ 400; omega) (by show (-1) ≤ (2 : Int) ∧ (2 : Int) ≤ 100000; omega)) (fun r3 hq => ?_)
  have : 0 ≤ r3.toInt ∧ r3.toInt ≤ 1 := hq.1
  have : r3.toInt ≠ 0 → ((0 : Int) ≤ x1.toInt ∧ x1.toInt ≤ (2 : Int)) := hq.2
  clear hq
  refine Tot_ite (fun c186 => ?_) (fun c186 => ?_)
  · have : r3.toInt = (0 : Int) := eqI c186
    exact Tot_some ⟨hs_u1, (by show (-2) ≤ (-2 : Int) ∧ (-2 : Int) ≤ 120; omega), trivial⟩
  · have : ¬ r3.toInt = (0 : Int) := neI c186
    have : (u1.1 3).toInt = (u.1 3).toInt := by rw [e_u1]; rfl
    have : 0 ≤ (u.1 3).toInt ∧ (u.1 3).toInt ≤ 120 := hs_u.1.1 3
    refine Tot_bind (tfX12_goThrough_0_a1 0 (u1.1 3) x1 u1 hs_u1.1 (by show 0 ≤ (0 : Int) ∧ (0 : Int) ≤ 0; omega) ⟨by omega, by omega⟩ ⟨by omega, by omega⟩) (fun q hq => ?_)
    obtain ⟨r6, u7⟩ := q
    have hc_u7 : StM mdX12_goThrough_0_a1 u1 u7 := hq.1
    have hs_u7 : StM mdX12_fault_0 u u7 := StM_tr hs_u1 hc_u7 (by decide)
    have : 0 ≤ r6.toInt ∧ r6.toInt ≤ 0 := hq.2.1
    clear hq
    have : (-1) ≤ (u7.1 7).toInt ∧ (u7.1 7).toInt ≤ 120 := hs_u7.1.1 7
    exact Tot_some ⟨hs_u7, (by show (-2) ≤ (u7.1 7).toInt ∧ (u7.1 7).toInt ≤ 120; omega), trivial⟩

def mdX12_text_0 : MD := ([0, 2, 3, 4, 5, 6, 7, 8, 9, 10, 11], [2, 3, 4], [], [])
abbrev qX12_text_0 (u : SX) (q : Int32 × SX) : Prop := StM mdX12_text_0 u q.2 ∧ ((-1) ≤ q.1.toInt ∧ q.1.toInt ≤ 11) ∧ (True)
set_option maxHeartbeats 400000 in
set_option maxRecDepth 10000 in
theorem tLX12_text_0_74 (u0 : SX)  {k105 : Int32 → Int32 → SX → Option (Int32 × SX)} (hk105 : ∀ (z1 : Int32) (z2 : Int32) (u : SX), (StM mdX12_text_0 u0 u) → (0 ≤ z1.toInt ∧ z1.toInt ≤ 2) → (0 ≤ z2.toInt ∧ z2.toInt ≤ 35) → ((((z1.toInt = 0 ∧ (u.2.1 4 z1.toNatClampNeg).toInt ≤ 11) ∨ (1 ≤ z1.toInt ∧ (u.2.1 4 z1.toNatClampNeg).toInt ≤ 5)) ∧ z1.toInt ≤ 2)) → Tot (k105 z1 z2 u) (qX12_text_0 u0)) : ∀ (n : Nat) (z1 : Int32) (z2 : Int32) (z3 : Int32) (u : SX), (StM mdX12_text_0 u0 u) → (0 ≤ z1.toInt ∧ z1.toInt ≤ 2) → (0 ≤ z2.toInt ∧ z2.toInt ≤ 35) → (0 ≤ z3.toInt ∧ z3.toInt ≤ 120) → ((((z1.toInt = 0 ∧ (u.2.1 4 z1.toNatClampNeg).toInt ≤ 11) ∨ (1 ≤ z1.toInt ∧ (u.2.1 4 z1.toNatClampNeg).toInt ≤ 5)) ∧ z1.toInt ≤ 2)) → (120 - z3.toInt < (n : Int)) → Tot (LX12_text_0_74 k105 n z1 z2 z3 u) (qX12_text_0 u0) := by
  intro n
  induction n with
  | zero =>
    intro z1 z2 z3 u hs_u h0 h1 h2 h3 hm
    exfalso
    omega
  | succ n ih =>
    intro z1 z2 z3 u hs_u h0 h1 h2 h3 hm
    rw [LX12_text_0_74]
    have : 0 ≤ (u.1 3).toInt ∧ (u.1 3).toInt ≤ 120 := hs_u.1.1 3
    refine Tot_ite (fun c187 => ?_) (fun c187 => ?_)
    · have : (u.1 3).toInt ≤ z3.toInt := leI c187
      exact hk105 z1 z2 u hs_u ⟨by omega, by omega⟩ ⟨by omega, by omega⟩ (by omega)
    · have : ¬ (u.1 3).toInt ≤ z3.toInt := nleI c187
      refine Tot_gd (inb_t (by omega) (by omega)) ?_
      have : (120 * z2).toInt = 120 * z2.toInt := cmul_t (by decide) (by omega) (by omega)
      have : ((120 * z2) + z3).toInt = (120 * z2).toInt + z3.toInt := add_t (by omega) (by omega)
      refine Tot_gd (inb_t (by omega) (by omega)) ?_
      have := narb_t (u.2.1 1 z3.toNatClampNeg)
      refine Tot_lt (fun u15 e_u15 => ?_)
      have hs_u15 : StM mdX12_text_0 u0 u15 := by rw [e_u15]; exact StM_sA hs_u (by decide) (by show (-128) ≤ (vp_nar .byte (u.2.1 1 z3.toNatClampNeg)).toInt; omega) (by show (vp_nar .byte (u.2.1 1 z3.toNatClampNeg)).toInt ≤ 127; omega) (by decide)
      have : (z3 + 1).toInt = z3.toInt + (1 : Int) := addc_t (by decide) (by omega) (by omega)
      have : (u15.2.1 4 z1.toNatClampNeg).toInt = (u.2.1 4 z1.toNatClampNeg).toInt := by rw [e_u15]; rfl
      exact ih z1 z2 (z3 + 1) u15 hs_u15 ⟨by omega, by omega⟩ ⟨by omega, by omega⟩ ⟨by omega, by omega⟩ (by omega) (by omega)
set_option maxHeartbeats 400000 in
set_option maxRecDepth 10000 in
theorem tGX12_text_0_105 (u0 : SX)    (z1 : Int32) (z2 : Int32) (u : SX) (hs_u : StM mdX12_text_0 u0 u) (h0 : 0 ≤ z1.toInt ∧ z1.toInt ≤ 2) (h1 : 0 ≤ z2.toInt ∧ z2.toInt ≤ 35) (h2 : (((z1.toInt = 0 ∧ (u.2.1 4 z1.toNatClampNeg).toInt ≤ 11) ∨ (1 ≤ z1.toInt ∧ (u.2.1 4 z1.toNatClampNeg).toInt ≤ 5)) ∧ z1.toInt ≤ 2)) : Tot (GX12_text_0_105 z1 z2 u) (qX12_text_0 u0) := by
  unfold GX12_text_0_105
  refine Tot_gd (inb_t (by omega) (by omega)) ?_
  have : 0 ≤ (u.1 3).toInt ∧ (u.1 3).toInt ≤ 120 := hs_u.1.1 3
  refine Tot_lt (fun u18 e_u18 => ?_)
  have hs_u18 : StM mdX12_text_0 u0 u18 := by rw [e_u18]; exact StM_sA hs_u (by decide) (by show 0 ≤ (u.1 3).toInt; omega) (by show (u.1 3).toInt ≤ 120; omega) (by decide)
  refine Tot_lt (fun u20 e_u20 => ?_)
  have hs_u20 : StM mdX12_text_0 u0 u20 := by rw [e_u20]; exact StM_sI hs_u18 (by decide) (by show 0 ≤ (0 : Int); omega) (by show (0 : Int) ≤ 120; omega)
  refine Tot_gd (inb_t (by omega) (by omega)) ?_
  refine Tot_gd (inb_t (by omega) (by omega)) ?_
  have : (u20.2.1 4 z1.toNatClampNeg).toInt = (u18.2.1 4 z1.toNatClampNeg).toInt := by rw [e_u20]; rfl
  have : (u18.2.1 4 z1.toNatClampNeg).toInt = (u.2.1 4 z1.toNatClampNeg).toInt := by rw [e_u18]; rfl
  have : 0 ≤ (u20.2.1 4 z1.toNatClampNeg).toInt ∧ (u20.2.1 4 z1.toNatClampNeg).toInt ≤ 12 := hs_u20.1.2.1 4 z1.toNatClampNeg
  have : ((u20.2.1 4 z1.toNatClampNeg) + 1).toInt = (u20.2.1 4 z1.toNatClampNeg).toInt + (1 : Int) := addc_t (by decide) (by omega) (by omega)
  refine Tot_lt (fun u24 e_u24 => ?_)
  have hs_u24 : StM mdX12_text_0 u0 u24 := by rw [e_u24]; exact StM_sAc hs_u20 (by decide) (fun hz => by have : z1.toNatClampNeg = z1.toInt.toNat := rfl; omega) (by show 0 ≤ ((u20.2.1 4 z1.toNatClampNeg) + 1).toInt; omega) (by show ((u20.2.1 4 z1.toNatClampNeg) + 1).toInt ≤ 12; omega)
  refine Tot_gd (inb_t (by omega) (by omega)) ?_
  have : 0 ≤ (u24.2.1 4 z1.toNatClampNeg).toInt ∧ (u24.2.1 4 z1.toNatClampNeg).toInt ≤ 12 := hs_u24.1.2.1 4 z1.toNatClampNeg
  have : ((u24.2.1 4 z1.toNatClampNeg) - 1).toInt = (u24.2.1 4 z1.toNatClampNeg).toInt - (1 : Int) := subc_t (by decide) (by omega) (by omega)
  exact Tot_some ⟨hs_u24, (by show (-1) ≤ ((u24.2.1 4 z1.toNatClampNeg) - 1).toInt ∧ ((u24.2.1 4 z1.toNatClampNeg) - 1).toInt ≤ 11; omega), trivial⟩
set_option maxHeartbeats 400000 in
set_option maxRecDepth 10000 in
theorem tGX12_text_0_31 (u0 : SX)    (z1 : Int32) (y0 : Int32) (y1 : Int32) (u : SX) (hs_u : StM mdX12_text_0 u0 u) (h0 : 0 ≤ z1.toInt ∧ z1.toInt ≤ 2) (h1 : 6 ≤ y0.toInt ∧ y0.toInt ≤ 12) (h2 : 0 ≤ y1.toInt ∧ y1.toInt ≤ 12) (h3 : (y1.toInt = (u.2.1 4 z1.toNatClampNeg).toInt ∧ ((z1.toInt = 0 ∧ y0.toInt = 12) ∨ (1 ≤ z1.toInt ∧ y0.toInt = 6 ∧ y1.toInt ≤ 6)))) : Tot (GX12_text_0_31 z1 y0 y1 u) (qX12_text_0 u0) := by
  unfold GX12_text_0_31
  refine Tot_ite (fun c188 => ?_) (fun c188 => ?_)
  · have : y1.toInt = y0.toInt := eqI c188
    exact Tot_some ⟨hs_u, (by show (-1) ≤ (-1 : Int) ∧ (-1 : Int) ≤ 11; omega), trivial⟩
  · have : ¬ y1.toInt = y0.toInt := neI c188
    have : 0 ≤ (u.1 3).toInt ∧ (u.1 3).toInt ≤ 120 := hs_u.1.1 3
    refine Tot_bind (tfX12_goThrough_0_a1 0 (u.1 3) z1 u hs_u.1 (by show 0 ≤ (0 : Int) ∧ (0 : Int) ≤ 0; omega) ⟨by omega, by omega⟩ ⟨by omega, by omega⟩) (fun q hq => ?_)
    obtain ⟨r7, u8⟩ := q
    have hc_u8 : StM mdX12_goThrough_0_a1 u u8 := hq.1
    have hs_u8 : StM mdX12_text_0 u0 u8 := StM_tr hs_u hc_u8 (by decide)
    have : 0 ≤ r7.toInt ∧ r7.toInt ≤ 0 := hq.2.1
    clear hq
    have : (-1) ≤ (u8.1 7).toInt ∧ (u8.1 7).toInt ≤ 120 := hs_u8.1.1 7
    refine Tot_ite (fun c189 => ?_) (fun c189 => ?_)
    · have : (u8.1 7).toInt = (-1 : Int) := eqI c189
      refine Tot_gd (inb_t (by omega) (by omega)) ?_
      have : (12 * z1).toInt = 12 * z1.toInt := cmul_t (by decide) (by omega) (by omega)
      have : (u8.2.1 4 z1.toNatClampNeg).toInt = (u.2.1 4 z1.toNatClampNeg).toInt := congrArg (fun f : Nat → Int32 => (f z1.toNatClampNeg).toInt) (hc_u8.2.2.1 4 (by decide))
      have : 0 ≤ (u8.2.1 4 z1.toNatClampNeg).toInt ∧ (u8.2.1 4 z1.toNatClampNeg).toInt ≤ 12 := hs_u8.1.2.1 4 z1.toNatClampNeg
      have : ((12 * z1) + (u8.2.1 4 z1.toNatClampNeg)).toInt = (12 * z1).toInt + (u8.2.1 4 z1.toNatClampNeg).toInt := add_t (by omega) (by omega)
      refine Tot_lt (fun v11 e_v11 => ?_)
      have : v11.toInt = ((12 * z1) + (u8.2.1 4 z1.toNatClampNeg)).toInt := congrArg Int32.toInt e_v11
      exact tLX12_text_0_74 u0 (tGX12_text_0_105 u0) 5000 z1 v11 0 u8 hs_u8 ⟨by omega, by omega⟩ ⟨by omega, by omega⟩ (by show 0 ≤ (0 : Int) ∧ (0 : Int) ≤ 120; omega) (by omega) (by show 120 - (0 : Int) < ((5000 : Nat) : Int); omega)
    · have : ¬ (u8.1 7).toInt = (-1 : Int) := neI c189
      exact Tot_some ⟨hs_u8, (by show (-1) ≤ (-1 : Int) ∧ (-1 : Int) ≤ 11; omega), trivial⟩
set_option maxHeartbeats 400000 in
set_option maxRecDepth 10000 in
theorem tfX12_text_0 (x1 : Int32) (u : SX) (hI : IM u)  : Tot (fX12_text_0 x1 u) (qX12_text_0 u) := by
  unfold fX12_text_0
  have hs_u : StM mdX12_text_0 u u := StM_rf hI
  refine Tot_lt (fun u1 e_u1 => ?_)
  have hs_u1 : StM mdX12_text_0 u u1 := by rw [e_u1]; exact StM_sI hs_u (by decide) (by show 0 ≤ (0 : Int); omega) (by show (0 : Int) ≤ 1; omega)
  refine Tot_bind (tfX12_isIn x1 0 2 (by show (-100000) ≤ (0 : Int) ∧ (0 : Int) ≤ 400; omega) (by show (-1) ≤ (2 : Int) ∧ (2 : Int) ≤ 100000; omega)) (fun r3 hq => ?_)
  have : 0 ≤ r3.toInt ∧ r3.toInt ≤ 1 := hq.1
  have : r3.toInt ≠ 0 → ((0 : Int) ≤ x1.toInt ∧ x1.toInt ≤ (2 : Int)) := hq.2
  clear hq
  have : x1.toNatClampNeg = x1.toInt.toNat := rfl
  have : 1 ≤ x1.toNatClampNeg → (u1.2.1 4 x1.toNatClampNeg).toInt ≤ 6 := hs_u1.1.2.2.1 x1.toNatClampNeg
  refine Tot_ite (fun c190 => ?_) (fun c190 => ?_)
  · have : r3.toInt = (0 : Int) := eqI c190
    exact Tot_some ⟨hs_u1, (by show (-1) ≤ (-1 : Int) ∧ (-1 : Int) ≤ 11; omega), trivial⟩
  · have : ¬ r3.toInt = (0 : Int) := neI c190
    refine Tot_gd (inb_t (by omega) (by omega)) ?_
    refine Tot_ite (fun c191 => ?_) (fun c191 => ?_)
    · have : x1.toInt = (0 : Int) := eqI c191
      have : (u1.2.1 4 x1.toNatClampNeg).toInt = (u.2.1 4 x1.toNatClampNeg).toInt := by rw [e_u1]; rfl
      have : 0 ≤ (u1.2.1 4 x1.toNatClampNeg).toInt ∧ (u1.2.1 4 x1.toNatClampNeg).toInt ≤ 12 := hs_u1.1.2.1 4 x1.toNatClampNeg
      exact tGX12_text_0_31 u x1 12 (u1.2.1 4 x1.toNatClampNeg) u1 hs_u1 ⟨by omega, by omega⟩ (by show 6 ≤ (12 : Int) ∧ (12 : Int) ≤ 12; omega) ⟨by omega, by omega⟩ (by show ((u1.2.1 4 x1.toNatClampNeg).toInt = (u1.2.1 4 x1.toNatClampNeg).toInt ∧ ((x1.toInt = 0 ∧ (12 : Int) = 12) ∨ (1 ≤ x1.toInt ∧ (12 : Int) = 6 ∧ (u1.2.1 4 x1.toNatClampNeg).toInt ≤ 6))); omega)
    · have : ¬ x1.toInt = (0 : Int) := neI c191
      have : (u1.2.1 4 x1.toNatClampNeg).toInt = (u.2.1 4 x1.toNatClampNeg).toInt := by rw [e_u1]; rfl
      have : 0 ≤ (u1.2.1 4 x1.toNatClampNeg).toInt ∧ (u1.2.1 4 x1.toNatClampNeg).toInt ≤ 12 := hs_u1.1.2.1 4 x1.toNatClampNeg
      exact tGX12_text_0_31 u x1 6 (u1.2.1 4 x1.toNatClampNeg) u1 hs_u1 ⟨by omega, by omega⟩ (by show 6 ≤ (6 : Int) ∧ (6 : Int) ≤ 12; omega) ⟨by omega, by omega⟩ (by show ((u1.2.1 4 x1.toNatClampNeg).toInt = (u1.2.1 4 x1.toNatClampNeg).toInt ∧ ((x1.toInt = 0 ∧ (6 : Int) = 12) ∨ (1 ≤ x1.toInt ∧ (6 : Int) = 6 ∧ (u1.2.1 4 x1.toNatClampNeg).toInt ≤ 6))); omega)

def mdX12_noLetters_0 : MD := ([], [5], [], [])
abbrev qX12_noLetters_0 (u : SX) (q : Int32 × SX) : Prop := StM mdX12_noLetters_0 u q.2 ∧ (0 ≤ q.1.toInt ∧ q.1.toInt ≤ 0) ∧ (True)
set_option maxHeartbeats 400000 in
set_option maxRecDepth 10000 in
theorem tLX12_noLetters_0_2 (u0 : SX)    : ∀ (n : Nat) (z1 : Int32) (u : SX), (StM mdX12_noLetters_0 u0 u) → (0 ≤ z1.toInt ∧ z1.toInt ≤ 128) → (128 - z1.toInt < (n : Int)) → Tot (LX12_noLetters_0_2 n z1 u) (qX12_noLetters_0 u0) := by
  intro n
  induction n with
  | zero =>
    intro z1 u hs_u h0 hm
    exfalso
    omega
  | succ n ih =>
    intro z1 u hs_u h0 hm
    rw [LX12_noLetters_0_2]
    refine Tot_ite (fun c192 => ?_) (fun c192 => ?_)
    · have : (128 : Int) ≤ z1.toInt := leI c192
      exact Tot_some ⟨hs_u, (by show 0 ≤ (0 : Int) ∧ (0 : Int) ≤ 0; omega), trivial⟩
    · have : ¬ (128 : Int) ≤ z1.toInt := nleI c192
      refine Tot_gd (inb_t (by omega) (by omega)) ?_
      refine Tot_lt (fun u2 e_u2 => ?_)
      have hs_u2 : StM mdX12_noLetters_0 u0 u2 := by rw [e_u2]; exact StM_sAf hs_u (by decide) rfl rfl (by decide)
      have : (z1 + 1).toInt = z1.toInt + (1 : Int) := addc_t (by decide) (by omega) (by omega)
      exact ih (z1 + 1) u2 hs_u2 ⟨by omega, by omega⟩ (by omega)
set_option maxHeartbeats 400000 in
set_option maxRecDepth 10000 in
theorem tfX12_noLetters_0  (u : SX) (hI : IM u)  : Tot (fX12_noLetters_0  u) (qX12_noLetters_0 u) := by
  unfold fX12_noLetters_0
  have hs_u : StM mdX12_noLetters_0 u u := StM_rf hI
  exact tLX12_noLetters_0_2 u 5000 0 u hs_u (by show 0 ≤ (0 : Int) ∧ (0 : Int) ≤ 128; omega) (by show 128 - (0 : Int) < ((5000 : Nat) : Int); omega)

def mdX12_goThrough_0_a2 : MD := ([2, 4, 5, 6, 7, 8, 9, 10, 11], [], [], [])
abbrev qX12_goThrough_0_a2 (u : SX) (q : Int32 × SX) : Prop := StM mdX12_goThrough_0_a2 u q.2 ∧ (0 ≤ q.1.toInt ∧ q.1.toInt ≤ 0) ∧ (True)
set_option maxHeartbeats 400000 in
set_option maxRecDepth 10000 in
theorem tLX12_goThrough_0_a2_73 (u0 : SX)  {k107 : SX → Option (Int32 × SX)} (hk107 : ∀  (u : SX), (StM mdX12_goThrough_0_a2 u0 u) → (((u.1 2).toInt = 2 → (u.1 4).toInt = 0)) → Tot (k107  u) (qX12_goThrough_0_a2 u0)) : ∀ (n : Nat)  (u : SX), (StM mdX12_goThrough_0_a2 u0 u) → (((u.1 2).toInt = 2 → (u.1 4).toInt = 0)) → (120 - (u.1 6).toInt < (n : Int)) → Tot (LX12_goThrough_0_a2_73 k107 n  u) (qX12_goThrough_0_a2 u0) := by
  intro n
  induction n with
  | zero =>
    intro  u hs_u h0 hm
    have : 0 ≤ (u.1 6).toInt ∧ (u.1 6).toInt ≤ 120 := hs_u.1.1 6
    exfalso
    omega
  | succ n ih =>
    intro  u hs_u h0 hm
    rw [LX12_goThrough_0_a2_73]
    have : 0 ≤ (u.1 6).toInt ∧ (u.1 6).toInt ≤ 120 := hs_u.1.1 6
    have : 2 ≤ (u.1 2).toInt ∧ (u.1 2).toInt ≤ 3 := hs_u.1.1 2
    have : 0 ≤ (u.1 4).toInt ∧ (u.1 4).toInt ≤ 4200 := hs_u.1.1 4
    have : (-1) ≤ (u.1 7).toInt ∧ (u.1 7).toInt ≤ 120 := hs_u.1.1 7
    refine Tot_ite (fun c193 => ?_) (fun c193 => ?_)
    · have : (u.1 7).toInt = (-1 : Int) := eqI c193
      refine Tot_bind (tfX12_look_0 u hs_u.1 (by omega)) (fun q hq => ?_)
      obtain ⟨r23, u24⟩ := q
      have hc_u24 : StM mdX12_look_0 u u24 := hq.1
      have hs_u24 : StM mdX12_goThrough_0_a2 u0 u24 := StM_tr hs_u hc_u24 (by decide)
      have : (-1) ≤ r23.toInt ∧ r23.toInt ≤ 255 := hq.2.1
      have : 0 ≤ (u24.1 6).toInt ∧ (u24.1 6).toInt ≤ 120 := hs_u24.1.1 6
      have : (u24.1 5).toInt = (u.1 5).toInt := congrArg Int32.toInt (hc_u24.2.1 5 (by decide))
      have : 0 ≤ (u.1 5).toInt ∧ (u.1 5).toInt ≤ 120 := hs_u.1.1 5
      have : r23.toInt ≠ (-1) → ((u24.1 6).toInt < (u24.1 5).toInt) := hq.2.2.1
      have : (u.1 6).toInt ≤ (u24.1 6).toInt := hq.2.2.2
      clear hq
      refine Tot_ite (fun c194 => ?_) (fun c194 => ?_)
      · have : r23.toInt = (59 : Int) := eqI c194
        have : ((u24.1 6) + 1).toInt = (u24.1 6).toInt + (1 : Int) := addc_t (by decide) (by omega) (by omega)
        refine Tot_lt (fun u26 e_u26 => ?_)
        have hs_u26 : StM mdX12_goThrough_0_a2 u0 u26 := by rw [e_u26]; exact StM_sI hs_u24 (by decide) (by show 0 ≤ ((u24.1 6) + 1).toInt; omega) (by show ((u24.1 6) + 1).toInt ≤ 120; omega)
        have : (u26.1 2).toInt = (u24.1 2).toInt := by rw [e_u26]; rfl
        have : (u24.1 2).toInt = (u.1 2).toInt := congrArg Int32.toInt (hc_u24.2.1 2 (by decide))
        have : (u26.1 4).toInt = (u24.1 4).toInt := by rw [e_u26]; rfl
        have : (u24.1 4).toInt = (u.1 4).toInt := congrArg Int32.toInt (hc_u24.2.1 4 (by decide))
        refine Tot_bind (tfX12_clause_0 u26 hs_u26.1 (by omega)) (fun q hq => ?_)
        obtain ⟨r28, u29⟩ := q
        have hc_u29 : StM mdX12_clause_0 u26 u29 := hq.1
        have hs_u29 : StM mdX12_goThrough_0_a2 u0 u29 := StM_tr hs_u26 hc_u29 (by decide)
        have : 0 ≤ r28.toInt ∧ r28.toInt ≤ 0 := hq.2.1
        have : (u26.1 6).toInt = ((u24.1 6) + 1).toInt := by rw [e_u26]; rfl
        have : 0 ≤ (u29.1 6).toInt ∧ (u29.1 6).toInt ≤ 120 := hs_u29.1.1 6
        have : (u26.1 6).toInt ≤ (u29.1 6).toInt := hq.2.2
        clear hq
        have : (u29.1 2).toInt = (u26.1 2).toInt := congrArg Int32.toInt (hc_u29.2.1 2 (by decide))
        have : (u29.1 4).toInt = (u26.1 4).toInt := congrArg Int32.toInt (hc_u29.2.1 4 (by decide))
        exact ih u29 hs_u29 (by omega) (by omega)
      · have : ¬ r23.toInt = (59 : Int) := neI c194
        have : (u24.1 2).toInt = (u.1 2).toInt := congrArg Int32.toInt (hc_u24.2.1 2 (by decide))
        have : (u24.1 4).toInt = (u.1 4).toInt := congrArg Int32.toInt (hc_u24.2.1 4 (by decide))
        exact hk107 u24 hs_u24 (by omega)
    · have : ¬ (u.1 7).toInt = (-1 : Int) := neI c193
      exact hk107 u hs_u (by omega)
set_option maxHeartbeats 400000 in
set_option maxRecDepth 10000 in
theorem tGX12_goThrough_0_a2_107 (u0 : SX)     (u : SX) (hs_u : StM mdX12_goThrough_0_a2 u0 u) (h0 : ((u.1 2).toInt = 2 → (u.1 4).toInt = 0)) : Tot (GX12_goThrough_0_a2_107  u) (qX12_goThrough_0_a2 u0) := by
  unfold GX12_goThrough_0_a2_107
  have : 2 ≤ (u.1 2).toInt ∧ (u.1 2).toInt ≤ 3 := hs_u.1.1 2
  have : 0 ≤ (u.1 4).toInt ∧ (u.1 4).toInt ≤ 4200 := hs_u.1.1 4
  have : (-1) ≤ (u.1 7).toInt ∧ (u.1 7).toInt ≤ 120 := hs_u.1.1 7
  refine Tot_ite (fun c195 => ?_) (fun c195 => ?_)
  · have : (u.1 7).toInt = (-1 : Int) := eqI c195
    refine Tot_bind (tfX12_look_0 u hs_u.1 (by omega)) (fun q hq => ?_)
    obtain ⟨r31, u32⟩ := q
    have hc_u32 : StM mdX12_look_0 u u32 := hq.1
    have hs_u32 : StM mdX12_goThrough_0_a2 u0 u32 := StM_tr hs_u hc_u32 (by decide)
    have : (-1) ≤ r31.toInt ∧ r31.toInt ≤ 255 := hq.2.1
    have : 0 ≤ (u32.1 6).toInt ∧ (u32.1 6).toInt ≤ 120 := hs_u32.1.1 6
    have : (u32.1 5).toInt = (u.1 5).toInt := congrArg Int32.toInt (hc_u32.2.1 5 (by decide))
    have : 0 ≤ (u.1 5).toInt ∧ (u.1 5).toInt ≤ 120 := hs_u.1.1 5
    have : r31.toInt ≠ (-1) → ((u32.1 6).toInt < (u32.1 5).toInt) := hq.2.2.1
    have : 0 ≤ (u.1 6).toInt ∧ (u.1 6).toInt ≤ 120 := hs_u.1.1 6
    have : (u.1 6).toInt ≤ (u32.1 6).toInt := hq.2.2.2
    clear hq
    refine Tot_ite (fun c196 => ?_) (fun c196 => ?_)
    · have : r31.toInt = (-1 : Int) := eqI c196
      exact Tot_some ⟨hs_u32, (by show 0 ≤ (0 : Int) ∧ (0 : Int) ≤ 0; omega), trivial⟩
    · have : ¬ r31.toInt = (-1 : Int) := neI c196
      refine Tot_bind (tfX12_fails_0 u32 hs_u32.1) (fun q hq => ?_)
      obtain ⟨r34, u35⟩ := q
      have hc_u35 : StM mdX12_fails_0 u32 u35 := hq.1
      have hs_u35 : StM mdX12_goThrough_0_a2 u0 u35 := StM_tr hs_u32 hc_u35 (by decide)
      have : 0 ≤ r34.toInt ∧ r34.toInt ≤ 0 := hq.2.1
      have : (u35.1 6).toInt = (u32.1 6).toInt := congrArg Int32.toInt (hc_u35.2.1 6 (by decide))
      have : (u32.1 6).toInt ≤ (u35.1 6).toInt := hq.2.2.1
      have : (-1) ≤ (u35.1 7).toInt ∧ (u35.1 7).toInt ≤ 120 := hs_u35.1.1 7
      have : (u35.1 7).toInt ≠ -1 := hq.2.2.2
      clear hq
      exact Tot_some ⟨hs_u35, (by show 0 ≤ (0 : Int) ∧ (0 : Int) ≤ 0; omega), trivial⟩
  · have : ¬ (u.1 7).toInt = (-1 : Int) := neI c195
    exact Tot_some ⟨hs_u, (by show 0 ≤ (0 : Int) ∧ (0 : Int) ≤ 0; omega), trivial⟩
set_option maxHeartbeats 400000 in
set_option maxRecDepth 10000 in
theorem tGX12_goThrough_0_a2_41 (u0 : SX)     (u : SX) (hs_u : StM mdX12_goThrough_0_a2 u0 u) (h0 : ((u.1 2).toInt = 2 → (u.1 4).toInt = 0)) : Tot (GX12_goThrough_0_a2_41  u) (qX12_goThrough_0_a2 u0) := by
  unfold GX12_goThrough_0_a2_41
  have : 2 ≤ (u.1 2).toInt ∧ (u.1 2).toInt ≤ 3 := hs_u.1.1 2
  have : 0 ≤ (u.1 4).toInt ∧ (u.1 4).toInt ≤ 4200 := hs_u.1.1 4
  refine Tot_lt (fun u7 e_u7 => ?_)
  have hs_u7 : StM mdX12_goThrough_0_a2 u0 u7 := by rw [e_u7]; exact StM_sI hs_u (by decide) (by show 5 ≤ (7 : Int); omega) (by show (7 : Int) ≤ 7; omega)
  refine Tot_lt (fun u9 e_u9 => ?_)
  have hs_u9 : StM mdX12_goThrough_0_a2 u0 u9 := by rw [e_u9]; exact StM_sI hs_u7 (by decide) (by show 0 ≤ (0 : Int); omega) (by show (0 : Int) ≤ 120; omega)
  refine Tot_lt (fun u11 e_u11 => ?_)
  have hs_u11 : StM mdX12_goThrough_0_a2 u0 u11 := by rw [e_u11]; exact StM_sI hs_u9 (by decide) (by show (-1) ≤ (-1 : Int); omega) (by show (-1 : Int) ≤ 120; omega)
  refine Tot_lt (fun u13 e_u13 => ?_)
  have hs_u13 : StM mdX12_goThrough_0_a2 u0 u13 := by rw [e_u13]; exact StM_sI hs_u11 (by decide) (by show 0 ≤ (0 : Int); omega) (by show (0 : Int) ≤ 6; omega)
  refine Tot_gd (by decide) ?_
  refine Tot_lt (fun u16 e_u16 => ?_)
  have hs_u16 : StM mdX12_goThrough_0_a2 u0 u16 := by rw [e_u16]; exact StM_sI hs_u13 (by decide) (by show 0 ≤ (0 : Int); omega) (by show (0 : Int) ≤ 1; omega)
  refine Tot_lt (fun u18 e_u18 => ?_)
  have hs_u18 : StM mdX12_goThrough_0_a2 u0 u18 := by rw [e_u18]; exact StM_sIf hs_u16 (by decide) rfl rfl
  have : (u18.1 2).toInt = (u16.1 2).toInt := by rw [e_u18]; rfl
  have : (u16.1 2).toInt = (u13.1 2).toInt := by rw [e_u16]; rfl
  have : (u13.1 2).toInt = (u11.1 2).toInt := by rw [e_u13]; rfl
  have : (u11.1 2).toInt = (u9.1 2).toInt := by rw [e_u11]; rfl
  have : (u9.1 2).toInt = (u7.1 2).toInt := by rw [e_u9]; rfl
  have : (u7.1 2).toInt = (u.1 2).toInt := by rw [e_u7]; rfl
  have : (u18.1 4).toInt = (u16.1 4).toInt := by rw [e_u18]; rfl
  have : (u16.1 4).toInt = (u13.1 4).toInt := by rw [e_u16]; rfl
  have : (u13.1 4).toInt = (u11.1 4).toInt := by rw [e_u13]; rfl
  have : (u11.1 4).toInt = (u9.1 4).toInt := by rw [e_u11]; rfl
  have : (u9.1 4).toInt = (u7.1 4).toInt := by rw [e_u9]; rfl
  have : (u7.1 4).toInt = (u.1 4).toInt := by rw [e_u7]; rfl
  refine Tot_bind (tfX12_clause_0 u18 hs_u18.1 (by omega)) (fun q hq => ?_)
  obtain ⟨r20, u21⟩ := q
  have hc_u21 : StM mdX12_clause_0 u18 u21 := hq.1
  have hs_u21 : StM mdX12_goThrough_0_a2 u0 u21 := StM_tr hs_u18 hc_u21 (by decide)
  have : 0 ≤ r20.toInt ∧ r20.toInt ≤ 0 := hq.2.1
  have : (u18.1 6).toInt = (u16.1 6).toInt := by rw [e_u18]; rfl
  have : (u16.1 6).toInt = (u13.1 6).toInt := by rw [e_u16]; rfl
  have : (u13.1 6).toInt = (u11.1 6).toInt := by rw [e_u13]; rfl
  have : (u11.1 6).toInt = (u9.1 6).toInt := by rw [e_u11]; rfl
  have : (u9.1 6).toInt = (0 : Int) := by rw [e_u9]; rfl
  have : 0 ≤ (u21.1 6).toInt ∧ (u21.1 6).toInt ≤ 120 := hs_u21.1.1 6
  have : (u18.1 6).toInt ≤ (u21.1 6).toInt := hq.2.2
  clear hq
  have : (u21.1 2).toInt = (u18.1 2).toInt := congrArg Int32.toInt (hc_u21.2.1 2 (by decide))
  have : (u21.1 4).toInt = (u18.1 4).toInt := congrArg Int32.toInt (hc_u21.2.1 4 (by decide))
  exact tLX12_goThrough_0_a2_73 u0 (tGX12_goThrough_0_a2_107 u0) 5000 u21 hs_u21 (by omega) (by show 120 - (u21.1 6).toInt < ((5000 : Nat) : Int); omega)
set_option maxHeartbeats 400000 in
set_option maxRecDepth 10000 in
theorem tGX12_goThrough_0_a2_41a (u0 : SX)     (u : SX) (hs_u : StM mdX12_goThrough_0_a2 u0 u) (h0 : ((u.1 2).toInt = 2 → (u.1 4).toInt = 0)) : Tot (GX12_goThrough_0_a2_41a  u) (qX12_goThrough_0_a2 u0) := by
  unfold GX12_goThrough_0_a2_41a
  have : 2 ≤ (u.1 2).toInt ∧ (u.1 2).toInt ≤ 3 := hs_u.1.1 2
  have : 0 ≤ (u.1 4).toInt ∧ (u.1 4).toInt ≤ 4200 := hs_u.1.1 4
  refine Tot_lt (fun u37 e_u37 => ?_)
  have hs_u37 : StM mdX12_goThrough_0_a2 u0 u37 := by rw [e_u37]; exact StM_sI hs_u (by decide) (by show 5 ≤ (6 : Int); omega) (by show (6 : Int) ≤ 7; omega)
  refine Tot_lt (fun u39 e_u39 => ?_)
  have hs_u39 : StM mdX12_goThrough_0_a2 u0 u39 := by rw [e_u39]; exact StM_sI hs_u37 (by decide) (by show 0 ≤ (0 : Int); omega) (by show (0 : Int) ≤ 120; omega)
  refine Tot_lt (fun u41 e_u41 => ?_)
  have hs_u41 : StM mdX12_goThrough_0_a2 u0 u41 := by rw [e_u41]; exact StM_sI hs_u39 (by decide) (by show (-1) ≤ (-1 : Int); omega) (by show (-1 : Int) ≤ 120; omega)
  refine Tot_lt (fun u43 e_u43 => ?_)
  have hs_u43 : StM mdX12_goThrough_0_a2 u0 u43 := by rw [e_u43]; exact StM_sI hs_u41 (by decide) (by show 0 ≤ (0 : Int); omega) (by show (0 : Int) ≤ 6; omega)
  refine Tot_gd (by decide) ?_
  refine Tot_lt (fun u46 e_u46 => ?_)
  have hs_u46 : StM mdX12_goThrough_0_a2 u0 u46 := by rw [e_u46]; exact StM_sI hs_u43 (by decide) (by show 0 ≤ (0 : Int); omega) (by show (0 : Int) ≤ 1; omega)
  refine Tot_lt (fun u48 e_u48 => ?_)
  have hs_u48 : StM mdX12_goThrough_0_a2 u0 u48 := by rw [e_u48]; exact StM_sIf hs_u46 (by decide) rfl rfl
  have : (u48.1 2).toInt = (u46.1 2).toInt := by rw [e_u48]; rfl
  have : (u46.1 2).toInt = (u43.1 2).toInt := by rw [e_u46]; rfl
  have : (u43.1 2).toInt = (u41.1 2).toInt := by rw [e_u43]; rfl
  have : (u41.1 2).toInt = (u39.1 2).toInt := by rw [e_u41]; rfl
  have : (u39.1 2).toInt = (u37.1 2).toInt := by rw [e_u39]; rfl
  have : (u37.1 2).toInt = (u.1 2).toInt := by rw [e_u37]; rfl
  have : (u48.1 4).toInt = (u46.1 4).toInt := by rw [e_u48]; rfl
  have : (u46.1 4).toInt = (u43.1 4).toInt := by rw [e_u46]; rfl
  have : (u43.1 4).toInt = (u41.1 4).toInt := by rw [e_u43]; rfl
  have : (u41.1 4).toInt = (u39.1 4).toInt := by rw [e_u41]; rfl
  have : (u39.1 4).toInt = (u37.1 4).toInt := by rw [e_u39]; rfl
  have : (u37.1 4).toInt = (u.1 4).toInt := by rw [e_u37]; rfl
  refine Tot_bind (tfX12_clause_0 u48 hs_u48.1 (by omega)) (fun q hq => ?_)
  obtain ⟨r50, u51⟩ := q
  have hc_u51 : StM mdX12_clause_0 u48 u51 := hq.1
  have hs_u51 : StM mdX12_goThrough_0_a2 u0 u51 := StM_tr hs_u48 hc_u51 (by decide)
  have : 0 ≤ r50.toInt ∧ r50.toInt ≤ 0 := hq.2.1
  have : (u48.1 6).toInt = (u46.1 6).toInt := by rw [e_u48]; rfl
  have : (u46.1 6).toInt = (u43.1 6).toInt := by rw [e_u46]; rfl
  have : (u43.1 6).toInt = (u41.1 6).toInt := by rw [e_u43]; rfl
  have : (u41.1 6).toInt = (u39.1 6).toInt := by rw [e_u41]; rfl
  have : (u39.1 6).toInt = (0 : Int) := by rw [e_u39]; rfl
  have : 0 ≤ (u51.1 6).toInt ∧ (u51.1 6).toInt ≤ 120 := hs_u51.1.1 6
  have : (u48.1 6).toInt ≤ (u51.1 6).toInt := hq.2.2
  clear hq
  have : (u51.1 2).toInt = (u48.1 2).toInt := congrArg Int32.toInt (hc_u51.2.1 2 (by decide))
  have : (u51.1 4).toInt = (u48.1 4).toInt := congrArg Int32.toInt (hc_u51.2.1 4 (by decide))
  exact tLX12_goThrough_0_a2_73 u0 (tGX12_goThrough_0_a2_107 u0) 5000 u51 hs_u51 (by omega) (by show 120 - (u51.1 6).toInt < ((5000 : Nat) : Int); omega)
set_option maxHeartbeats 400000 in
set_option maxRecDepth 10000 in
theorem tGX12_goThrough_0_a2_41b (u0 : SX)     (u : SX) (hs_u : StM mdX12_goThrough_0_a2 u0 u) (h0 : ((u.1 2).toInt = 2 → (u.1 4).toInt = 0)) : Tot (GX12_goThrough_0_a2_41b  u) (qX12_goThrough_0_a2 u0) := by
  unfold GX12_goThrough_0_a2_41b
  have : 2 ≤ (u.1 2).toInt ∧ (u.1 2).toInt ≤ 3 := hs_u.1.1 2
  have : 0 ≤ (u.1 4).toInt ∧ (u.1 4).toInt ≤ 4200 := hs_u.1.1 4
  refine Tot_lt (fun u53 e_u53 => ?_)
  have hs_u53 : StM mdX12_goThrough_0_a2 u0 u53 := by rw [e_u53]; exact StM_sI hs_u (by decide) (by show 5 ≤ (5 : Int); omega) (by show (5 : Int) ≤ 7; omega)
  refine Tot_lt (fun u55 e_u55 => ?_)
  have hs_u55 : StM mdX12_goThrough_0_a2 u0 u55 := by rw [e_u55]; exact StM_sI hs_u53 (by decide) (by show 0 ≤ (0 : Int); omega) (by show (0 : Int) ≤ 120; omega)
  refine Tot_lt (fun u57 e_u57 => ?_)
  have hs_u57 : StM mdX12_goThrough_0_a2 u0 u57 := by rw [e_u57]; exact StM_sI hs_u55 (by decide) (by show (-1) ≤ (-1 : Int); omega) (by show (-1 : Int) ≤ 120; omega)
  refine Tot_lt (fun u59 e_u59 => ?_)
  have hs_u59 : StM mdX12_goThrough_0_a2 u0 u59 := by rw [e_u59]; exact StM_sI hs_u57 (by decide) (by show 0 ≤ (0 : Int); omega) (by show (0 : Int) ≤ 6; omega)
  refine Tot_gd (by decide) ?_
  refine Tot_lt (fun u62 e_u62 => ?_)
  have hs_u62 : StM mdX12_goThrough_0_a2 u0 u62 := by rw [e_u62]; exact StM_sI hs_u59 (by decide) (by show 0 ≤ (0 : Int); omega) (by show (0 : Int) ≤ 1; omega)
  refine Tot_lt (fun u64 e_u64 => ?_)
  have hs_u64 : StM mdX12_goThrough_0_a2 u0 u64 := by rw [e_u64]; exact StM_sIf hs_u62 (by decide) rfl rfl
  have : (u64.1 2).toInt = (u62.1 2).toInt := by rw [e_u64]; rfl
  have : (u62.1 2).toInt = (u59.1 2).toInt := by rw [e_u62]; rfl
  have : (u59.1 2).toInt = (u57.1 2).toInt := by rw [e_u59]; rfl
  have : (u57.1 2).toInt = (u55.1 2).toInt := by rw [e_u57]; rfl
  have : (u55.1 2).toInt = (u53.1 2).toInt := by rw [e_u55]; rfl
  have : (u53.1 2).toInt = (u.1 2).toInt := by rw [e_u53]; rfl
  have : (u64.1 4).toInt = (u62.1 4).toInt := by rw [e_u64]; rfl
  have : (u62.1 4).toInt = (u59.1 4).toInt := by rw [e_u62]; rfl
  have : (u59.1 4).toInt = (u57.1 4).toInt := by rw [e_u59]; rfl
  have : (u57.1 4).toInt = (u55.1 4).toInt := by rw [e_u57]; rfl
  have : (u55.1 4).toInt = (u53.1 4).toInt := by rw [e_u55]; rfl
  have : (u53.1 4).toInt = (u.1 4).toInt := by rw [e_u53]; rfl
  refine Tot_bind (tfX12_clause_0 u64 hs_u64.1 (by omega)) (fun q hq => ?_)
  obtain ⟨r66, u67⟩ := q
  have hc_u67 : StM mdX12_clause_0 u64 u67 := hq.1
  have hs_u67 : StM mdX12_goThrough_0_a2 u0 u67 := StM_tr hs_u64 hc_u67 (by decide)
  have : 0 ≤ r66.toInt ∧ r66.toInt ≤ 0 := hq.2.1
  have : (u64.1 6).toInt = (u62.1 6).toInt := by rw [e_u64]; rfl
  have : (u62.1 6).toInt = (u59.1 6).toInt := by rw [e_u62]; rfl
  have : (u59.1 6).toInt = (u57.1 6).toInt := by rw [e_u59]; rfl
  have : (u57.1 6).toInt = (u55.1 6).toInt := by rw [e_u57]; rfl
  have : (u55.1 6).toInt = (0 : Int) := by rw [e_u55]; rfl
  have : 0 ≤ (u67.1 6).toInt ∧ (u67.1 6).toInt ≤ 120 := hs_u67.1.1 6
  have : (u64.1 6).toInt ≤ (u67.1 6).toInt := hq.2.2
  clear hq
  have : (u67.1 2).toInt = (u64.1 2).toInt := congrArg Int32.toInt (hc_u67.2.1 2 (by decide))
  have : (u67.1 4).toInt = (u64.1 4).toInt := congrArg Int32.toInt (hc_u67.2.1 4 (by decide))
  exact tLX12_goThrough_0_a2_73 u0 (tGX12_goThrough_0_a2_107 u0) 5000 u67 hs_u67 (by omega) (by show 120 - (u67.1 6).toInt < ((5000 : Nat) : Int); omega)
set_option maxHeartbeats 400000 in
set_option maxRecDepth 10000 in
theorem tfX12_goThrough_0_a2 (x2 : Int32) (x3 : Int32) (x4 : Int32) (u : SX) (hI : IM u) (h0 : 0 ≤ x2.toInt ∧ x2.toInt ≤ 4200) (h1 : 0 ≤ x3.toInt ∧ x3.toInt ≤ 120) (h2 : 0 ≤ x4.toInt ∧ x4.toInt ≤ 2) : Tot (fX12_goThrough_0_a2 x2 x3 x4 u) (qX12_goThrough_0_a2 u) := by
  unfold fX12_goThrough_0_a2
  have hs_u : StM mdX12_goThrough_0_a2 u u := StM_rf hI
  refine Tot_lt (fun u1 e_u1 => ?_)
  have hs_u1 : StM mdX12_goThrough_0_a2 u u1 := by rw [e_u1]; exact StM_sI hs_u (by decide) (by show 2 ≤ (3 : Int); omega) (by show (3 : Int) ≤ 3; omega)
  refine Tot_lt (fun u3 e_u3 => ?_)
  have hs_u3 : StM mdX12_goThrough_0_a2 u u3 := by rw [e_u3]; exact StM_sI hs_u1 (by decide) (by show 0 ≤ x2.toInt; omega) (by show x2.toInt ≤ 4200; omega)
  refine Tot_lt (fun u5 e_u5 => ?_)
  have hs_u5 : StM mdX12_goThrough_0_a2 u u5 := by rw [e_u5]; exact StM_sI hs_u3 (by decide) (by show 0 ≤ x3.toInt; omega) (by show x3.toInt ≤ 120; omega)
  refine Tot_ite (fun c197 => ?_) (fun c197 => ?_)
  · have : x4.toInt = (0 : Int) := eqI c197
    have : (u5.1 2).toInt = (u3.1 2).toInt := by rw [e_u5]; rfl
    have : (u3.1 2).toInt = (u1.1 2).toInt := by rw [e_u3]; rfl
    have : (u1.1 2).toInt = (3 : Int) := by rw [e_u1]; rfl
    have : (u5.1 4).toInt = (u3.1 4).toInt := by rw [e_u5]; rfl
    have : (u3.1 4).toInt = x2.toInt := by rw [e_u3]; rfl
    exact tGX12_goThrough_0_a2_41b u u5 hs_u5 (by omega)
  · have : ¬ x4.toInt = (0 : Int) := neI c197
    refine Tot_ite (fun c198 => ?_) (fun c198 => ?_)
    · have : x4.toInt = (1 : Int) := eqI c198
      have : (u5.1 2).toInt = (u3.1 2).toInt := by rw [e_u5]; rfl
      have : (u3.1 2).toInt = (u1.1 2).toInt := by rw [e_u3]; rfl
      have : (u1.1 2).toInt = (3 : Int) := by rw [e_u1]; rfl
      have : (u5.1 4).toInt = (u3.1 4).toInt := by rw [e_u5]; rfl
      have : (u3.1 4).toInt = x2.toInt := by rw [e_u3]; rfl
      exact tGX12_goThrough_0_a2_41a u u5 hs_u5 (by omega)
    · have : ¬ x4.toInt = (1 : Int) := neI c198
      have : (u5.1 2).toInt = (u3.1 2).toInt := by rw [e_u5]; rfl
      have : (u3.1 2).toInt = (u1.1 2).toInt := by rw [e_u3]; rfl
      have : (u1.1 2).toInt = (3 : Int) := by rw [e_u1]; rfl
      have : (u5.1 4).toInt = (u3.1 4).toInt := by rw [e_u5]; rfl
      have : (u3.1 4).toInt = x2.toInt := by rw [e_u3]; rfl
      exact tGX12_goThrough_0_a2_41 u u5 hs_u5 (by omega)

def mdX12_worthOf_0 : MD := ([2, 4, 5, 6, 7, 8, 9, 10, 11], [], [], [])
abbrev qX12_worthOf_0 (u : SX) (q : Int32 × SX) : Prop := StM mdX12_worthOf_0 u q.2 ∧ (True) ∧ (True)
set_option maxHeartbeats 400000 in
set_option maxRecDepth 10000 in
theorem tfX12_worthOf_0 (x1 : Int32) (x2 : Int32) (u : SX) (hI : IM u) (h0 : 0 ≤ x1.toInt ∧ x1.toInt ≤ 2) (h1 : 0 ≤ x2.toInt ∧ x2.toInt ≤ 11) : Tot (fX12_worthOf_0 x1 x2 u) (qX12_worthOf_0 u) := by
  unfold fX12_worthOf_0
  have hs_u : StM mdX12_worthOf_0 u u := StM_rf hI
  have : (12 * x1).toInt = 12 * x1.toInt := cmul_t (by decide) (by omega) (by omega)
  have : ((12 * x1) + x2).toInt = (12 * x1).toInt + x2.toInt := add_t (by omega) (by omega)
  refine Tot_lt (fun v1 e_v1 => ?_)
  have : v1.toInt = ((12 * x1) + x2).toInt := congrArg Int32.toInt e_v1
  refine Tot_gd (inb_t (by omega) (by omega)) ?_
  have : (120 * v1).toInt = 120 * v1.toInt := cmul_t (by decide) (by omega) (by omega)
  have : 0 ≤ (u.2.1 3 v1.toNatClampNeg).toInt ∧ (u.2.1 3 v1.toNatClampNeg).toInt ≤ 120 := hs_u.1.2.1 3 v1.toNatClampNeg
  refine Tot_bind (tfX12_goThrough_0_a2 (120 * v1) (u.2.1 3 v1.toNatClampNeg) x1 u hs_u.1 ⟨by omega, by omega⟩ ⟨by omega, by omega⟩ ⟨by omega, by omega⟩) (fun q hq => ?_)
  obtain ⟨r4, u5⟩ := q
  have hc_u5 : StM mdX12_goThrough_0_a2 u u5 := hq.1
  have hs_u5 : StM mdX12_worthOf_0 u u5 := StM_tr hs_u hc_u5 (by decide)
  have : 0 ≤ r4.toInt ∧ r4.toInt ≤ 0 := hq.2.1
  clear hq
  exact Tot_some ⟨hs_u5, trivial, trivial⟩

abbrev qX12_isAim (x0 : Int32) (x1 : Int32) (x2 : Int32) (x3 : Int32) (x4 : Int32) (q : Int32) : Prop := (0 ≤ q.toInt ∧ q.toInt ≤ 1) ∧ ((q.toInt ≠ 0 → ((0 : Int) ≤ x0.toInt ∧ x0.toInt ≤ (15 : Int) ∧ (0 : Int) ≤ x1.toInt ∧ x1.toInt ≤ (9 : Int) ∧ (0 : Int) ≤ x2.toInt ∧ x2.toInt ≤ (23 : Int) ∧ (0 : Int) ≤ x3.toInt ∧ x3.toInt ≤ (9 : Int) ∧ (1 : Int) ≤ x4.toInt ∧ x4.toInt ≤ (40 : Int))))
set_option maxHeartbeats 400000 in
set_option maxRecDepth 10000 in
theorem tfX12_isAim (x0 : Int32) (x1 : Int32) (x2 : Int32) (x3 : Int32) (x4 : Int32)  : Tot (fX12_isAim x0 x1 x2 x3 x4) (qX12_isAim x0 x1 x2 x3 x4 ) := by
  unfold fX12_isAim
  refine Tot_bind (tfX12_isIn x0 0 15 (by show (-100000) ≤ (0 : Int) ∧ (0 : Int) ≤ 400; omega) (by show (-1) ≤ (15 : Int) ∧ (15 : Int) ≤ 100000; omega)) (fun r1 hq => ?_)
  have : 0 ≤ r1.toInt ∧ r1.toInt ≤ 1 := hq.1
  have : r1.toInt ≠ 0 → ((0 : Int) ≤ x0.toInt ∧ x0.toInt ≤ (15 : Int)) := hq.2
  clear hq
  refine Tot_ite (fun c199 => ?_) (fun c199 => ?_)
  · have : r1.toInt = (0 : Int) := eqI c199
    refine Tot_gd (by decide) ?_
    exact Tot_some ⟨(by show 0 ≤ (0 : Int) ∧ (0 : Int) ≤ 1; omega), (by show (0 : Int) ≠ 0 → ((0 : Int) ≤ x0.toInt ∧ x0.toInt ≤ (15 : Int) ∧ (0 : Int) ≤ x1.toInt ∧ x1.toInt ≤ (9 : Int) ∧ (0 : Int) ≤ x2.toInt ∧ x2.toInt ≤ (23 : Int) ∧ (0 : Int) ≤ x3.toInt ∧ x3.toInt ≤ (9 : Int) ∧ (1 : Int) ≤ x4.toInt ∧ x4.toInt ≤ (40 : Int)); omega)⟩
  · have : ¬ r1.toInt = (0 : Int) := neI c199
    refine Tot_bind (tfX12_isIn x1 0 9 (by show (-100000) ≤ (0 : Int) ∧ (0 : Int) ≤ 400; omega) (by show (-1) ≤ (9 : Int) ∧ (9 : Int) ≤ 100000; omega)) (fun r5 hq => ?_)
    have : 0 ≤ r5.toInt ∧ r5.toInt ≤ 1 := hq.1
    have : r5.toInt ≠ 0 → ((0 : Int) ≤ x1.toInt ∧ x1.toInt ≤ (9 : Int)) := hq.2
    clear hq
    refine Tot_ite (fun c200 => ?_) (fun c200 => ?_)
    · have : r5.toInt = (0 : Int) := eqI c200
      refine Tot_gd (by decide) ?_
      exact Tot_some ⟨(by show 0 ≤ (0 : Int) ∧ (0 : Int) ≤ 1; omega), (by show (0 : Int) ≠ 0 → ((0 : Int) ≤ x0.toInt ∧ x0.toInt ≤ (15 : Int) ∧ (0 : Int) ≤ x1.toInt ∧ x1.toInt ≤ (9 : Int) ∧ (0 : Int) ≤ x2.toInt ∧ x2.toInt ≤ (23 : Int) ∧ (0 : Int) ≤ x3.toInt ∧ x3.toInt ≤ (9 : Int) ∧ (1 : Int) ≤ x4.toInt ∧ x4.toInt ≤ (40 : Int)); omega)⟩
    · have : ¬ r5.toInt = (0 : Int) := neI c200
      refine Tot_bind (tfX12_isIn x2 0 23 (by show (-100000) ≤ (0 : Int) ∧ (0 : Int) ≤ 400; omega) (by show (-1) ≤ (23 : Int) ∧ (23 : Int) ≤ 100000; omega)) (fun r9 hq => ?_)
      have : 0 ≤ r9.toInt ∧ r9.toInt ≤ 1 := hq.1
      have : r9.toInt ≠ 0 → ((0 : Int) ≤ x2.toInt ∧ x2.toInt ≤ (23 : Int)) := hq.2
      clear hq
      refine Tot_ite (fun c201 => ?_) (fun c201 => ?_)
      · have : r9.toInt = (0 : Int) := eqI c201
        refine Tot_gd (by decide) ?_
        exact Tot_some ⟨(by show 0 ≤ (0 : Int) ∧ (0 : Int) ≤ 1; omega), (by show (0 : Int) ≠ 0 → ((0 : Int) ≤ x0.toInt ∧ x0.toInt ≤ (15 : Int) ∧ (0 : Int) ≤ x1.toInt ∧ x1.toInt ≤ (9 : Int) ∧ (0 : Int) ≤ x2.toInt ∧ x2.toInt ≤ (23 : Int) ∧ (0 : Int) ≤ x3.toInt ∧ x3.toInt ≤ (9 : Int) ∧ (1 : Int) ≤ x4.toInt ∧ x4.toInt ≤ (40 : Int)); omega)⟩
      · have : ¬ r9.toInt = (0 : Int) := neI c201
        refine Tot_bind (tfX12_isIn x3 0 9 (by show (-100000) ≤ (0 : Int) ∧ (0 : Int) ≤ 400; omega) (by show (-1) ≤ (9 : Int) ∧ (9 : Int) ≤ 100000; omega)) (fun r13 hq => ?_)
        have : 0 ≤ r13.toInt ∧ r13.toInt ≤ 1 := hq.1
        have : r13.toInt ≠ 0 → ((0 : Int) ≤ x3.toInt ∧ x3.toInt ≤ (9 : Int)) := hq.2
        clear hq
        refine Tot_ite (fun c202 => ?_) (fun c202 => ?_)
        · have : r13.toInt = (0 : Int) := eqI c202
          refine Tot_gd (by decide) ?_
          exact Tot_some ⟨(by show 0 ≤ (0 : Int) ∧ (0 : Int) ≤ 1; omega), (by show (0 : Int) ≠ 0 → ((0 : Int) ≤ x0.toInt ∧ x0.toInt ≤ (15 : Int) ∧ (0 : Int) ≤ x1.toInt ∧ x1.toInt ≤ (9 : Int) ∧ (0 : Int) ≤ x2.toInt ∧ x2.toInt ≤ (23 : Int) ∧ (0 : Int) ≤ x3.toInt ∧ x3.toInt ≤ (9 : Int) ∧ (1 : Int) ≤ x4.toInt ∧ x4.toInt ≤ (40 : Int)); omega)⟩
        · have : ¬ r13.toInt = (0 : Int) := neI c202
          refine Tot_bind (tfX12_isIn x4 1 40 (by show (-100000) ≤ (1 : Int) ∧ (1 : Int) ≤ 400; omega) (by show (-1) ≤ (40 : Int) ∧ (40 : Int) ≤ 100000; omega)) (fun r17 hq => ?_)
          have : 0 ≤ r17.toInt ∧ r17.toInt ≤ 1 := hq.1
          have : r17.toInt ≠ 0 → ((1 : Int) ≤ x4.toInt ∧ x4.toInt ≤ (40 : Int)) := hq.2
          clear hq
          refine Tot_ite (fun c203 => ?_) (fun c203 => ?_)
          · have : r17.toInt = (0 : Int) := eqI c203
            refine Tot_gd (by decide) ?_
            exact Tot_some ⟨(by show 0 ≤ (0 : Int) ∧ (0 : Int) ≤ 1; omega), (by show (0 : Int) ≠ 0 → ((0 : Int) ≤ x0.toInt ∧ x0.toInt ≤ (15 : Int) ∧ (0 : Int) ≤ x1.toInt ∧ x1.toInt ≤ (9 : Int) ∧ (0 : Int) ≤ x2.toInt ∧ x2.toInt ≤ (23 : Int) ∧ (0 : Int) ≤ x3.toInt ∧ x3.toInt ≤ (9 : Int) ∧ (1 : Int) ≤ x4.toInt ∧ x4.toInt ≤ (40 : Int)); omega)⟩
          · have : ¬ r17.toInt = (0 : Int) := neI c203
            refine Tot_gd (by decide) ?_
            exact Tot_some ⟨(by show 0 ≤ (1 : Int) ∧ (1 : Int) ≤ 1; omega), (by show (1 : Int) ≠ 0 → ((0 : Int) ≤ x0.toInt ∧ x0.toInt ≤ (15 : Int) ∧ (0 : Int) ≤ x1.toInt ∧ x1.toInt ≤ (9 : Int) ∧ (0 : Int) ≤ x2.toInt ∧ x2.toInt ≤ (23 : Int) ∧ (0 : Int) ≤ x3.toInt ∧ x3.toInt ≤ (9 : Int) ∧ (1 : Int) ≤ x4.toInt ∧ x4.toInt ≤ (40 : Int)); omega)⟩

def mdX12_lawWorth_0 : MD := ([2, 4, 5, 6, 7, 8, 9, 10, 11], [5], [], [])
abbrev qX12_lawWorth_0 (u : SX) (q : Int32 × SX) : Prop := StM mdX12_lawWorth_0 u q.2 ∧ (True) ∧ (True)
set_option maxHeartbeats 400000 in
set_option maxRecDepth 10000 in
theorem tfX12_lawWorth_0 (x1 : Int32) (x2 : Int32) (x3 : Int32) (x4 : Int32) (x5 : Int32) (x6 : Int32) (x7 : Int32) (u : SX) (hI : IM u) (h0 : 0 ≤ x1.toInt ∧ x1.toInt ≤ 11) (h1 : 0 ≤ x2.toInt ∧ x2.toInt ≤ 40) (h2 : 0 ≤ x3.toInt ∧ x3.toInt ≤ 40) (h3 : 0 ≤ x4.toInt ∧ x4.toInt ≤ 40) (h4 : 0 ≤ x5.toInt ∧ x5.toInt ≤ 40) (h5 : 0 ≤ x6.toInt ∧ x6.toInt ≤ 40) (h6 : 0 ≤ x7.toInt ∧ x7.toInt ≤ 40) : Tot (fX12_lawWorth_0 x1 x2 x3 x4 x5 x6 x7 u) (qX12_lawWorth_0 u) := by
  unfold fX12_lawWorth_0
  have hs_u : StM mdX12_lawWorth_0 u u := StM_rf hI
  refine Tot_bind (tfX12_noLetters_0 u hs_u.1) (fun q hq => ?_)
  obtain ⟨r1, u2⟩ := q
  have hc_u2 : StM mdX12_noLetters_0 u u2 := hq.1
  have hs_u2 : StM mdX12_lawWorth_0 u u2 := StM_tr hs_u hc_u2 (by decide)
  have : 0 ≤ r1.toInt ∧ r1.toInt ≤ 0 := hq.2.1
  clear hq
  refine Tot_gd (by decide) ?_
  refine Tot_lt (fun u5 e_u5 => ?_)
  have hs_u5 : StM mdX12_lawWorth_0 u u5 := by rw [e_u5]; exact StM_sAf hs_u2 (by decide) rfl rfl (by decide)
  refine Tot_gd (by decide) ?_
  refine Tot_lt (fun u8 e_u8 => ?_)
  have hs_u8 : StM mdX12_lawWorth_0 u u8 := by rw [e_u8]; exact StM_sAf hs_u5 (by decide) rfl rfl (by decide)
  refine Tot_gd (by decide) ?_
  refine Tot_lt (fun u11 e_u11 => ?_)
  have hs_u11 : StM mdX12_lawWorth_0 u u11 := by rw [e_u11]; exact StM_sAf hs_u8 (by decide) rfl rfl (by decide)
  refine Tot_gd (by decide) ?_
  refine Tot_lt (fun u14 e_u14 => ?_)
  have hs_u14 : StM mdX12_lawWorth_0 u u14 := by rw [e_u14]; exact StM_sAf hs_u11 (by decide) rfl rfl (by decide)
  refine Tot_gd (by decide) ?_
  refine Tot_lt (fun u17 e_u17 => ?_)
  have hs_u17 : StM mdX12_lawWorth_0 u u17 := by rw [e_u17]; exact StM_sAf hs_u14 (by decide) rfl rfl (by decide)
  refine Tot_gd (by decide) ?_
  refine Tot_lt (fun u20 e_u20 => ?_)
  have hs_u20 : StM mdX12_lawWorth_0 u u20 := by rw [e_u20]; exact StM_sAf hs_u17 (by decide) rfl rfl (by decide)
  refine Tot_bind (tfX12_worthOf_0 0 x1 u20 hs_u20.1 (by show 0 ≤ (0 : Int) ∧ (0 : Int) ≤ 2; omega) ⟨by omega, by omega⟩) (fun q hq => ?_)
  obtain ⟨r22, u23⟩ := q
  have hc_u23 : StM mdX12_worthOf_0 u20 u23 := hq.1
  have hs_u23 : StM mdX12_lawWorth_0 u u23 := StM_tr hs_u20 hc_u23 (by decide)
  clear hq
  exact Tot_some ⟨hs_u23, trivial, trivial⟩

def mdX12_worth_0 : MD := ([0, 2, 4, 5, 6, 7, 8, 9, 10, 11], [5], [], [])
abbrev qX12_worth_0 (u : SX) (q : Int32 × SX) : Prop := StM mdX12_worth_0 u q.2 ∧ (True) ∧ (True)
set_option maxHeartbeats 400000 in
set_option maxRecDepth 10000 in
theorem tGX12_worth_0_46 (u0 : SX)    (z1 : Int32) (z2 : Int32) (z3 : Int32) (z4 : Int32) (z5 : Int32) (z6 : Int32) (z7 : Int32) (y0 : Int32) (u : SX) (hs_u : StM mdX12_worth_0 u0 u) (h0 : 0 ≤ y0.toInt ∧ y0.toInt ≤ 1) (h1 : y0.toInt ≠ 1 → ((0 : Int) ≤ z1.toInt ∧ z1.toInt ≤ (11 : Int) ∧ (0 : Int) ≤ z2.toInt ∧ z2.toInt ≤ (15 : Int) ∧ (0 : Int) ≤ z3.toInt ∧ z3.toInt ≤ (9 : Int) ∧ (0 : Int) ≤ z4.toInt ∧ z4.toInt ≤ (23 : Int) ∧ (0 : Int) ≤ z5.toInt ∧ z5.toInt ≤ (3 : Int) ∧ (0 : Int) ≤ z6.toInt ∧ z6.toInt ≤ (9 : Int) ∧ (1 : Int) ≤ z7.toInt ∧ z7.toInt ≤ (40 : Int))) : Tot (GX12_worth_0_46 z1 z2 z3 z4 z5 z6 z7 y0 u) (qX12_worth_0 u0) := by
  unfold GX12_worth_0_46
  refine Tot_lt (fun u5 e_u5 => ?_)
  have hs_u5 : StM mdX12_worth_0 u0 u5 := by rw [e_u5]; exact StM_sI hs_u (by decide) (by show 0 ≤ y0.toInt; omega) (by show y0.toInt ≤ 1; omega)
  have : (u5.1 0).toInt = y0.toInt := by rw [e_u5]; rfl
  refine Tot_ite (fun c204 => ?_) (fun c204 => ?_)
  · have : (u5.1 0).toInt ≤ (0 : Int) := leI c204
    refine Tot_bind (tfX12_lawWorth_0 z1 z2 z3 z4 z5 z6 z7 u5 hs_u5.1 ⟨by omega, by omega⟩ ⟨by omega, by omega⟩ ⟨by omega, by omega⟩ ⟨by omega, by omega⟩ ⟨by omega, by omega⟩ ⟨by omega, by omega⟩ ⟨by omega, by omega⟩) (fun q hq => ?_)
    obtain ⟨r7, u8⟩ := q
    have hc_u8 : StM mdX12_lawWorth_0 u5 u8 := hq.1
    have hs_u8 : StM mdX12_worth_0 u0 u8 := StM_tr hs_u5 hc_u8 (by decide)
    clear hq
    exact Tot_some ⟨hs_u8, trivial, trivial⟩
  · have : ¬ (u5.1 0).toInt ≤ (0 : Int) := nleI c204
    exact Tot_some ⟨hs_u5, trivial, trivial⟩
set_option maxHeartbeats 400000 in
set_option maxRecDepth 10000 in
theorem tGX12_worth_0_45 (u0 : SX)    (z1 : Int32) (z2 : Int32) (z3 : Int32) (z4 : Int32) (z5 : Int32) (z6 : Int32) (z7 : Int32) (u : SX) (hs_u : StM mdX12_worth_0 u0 u)  : Tot (GX12_worth_0_45 z1 z2 z3 z4 z5 z6 z7 u) (qX12_worth_0 u0) := by
  unfold GX12_worth_0_45
  exact tGX12_worth_0_46 u0 z1 z2 z3 z4 z5 z6 z7 1 u hs_u (by show 0 ≤ (1 : Int) ∧ (1 : Int) ≤ 1; omega) (by show (1 : Int) ≠ 1 → ((0 : Int) ≤ z1.toInt ∧ z1.toInt ≤ (11 : Int) ∧ (0 : Int) ≤ z2.toInt ∧ z2.toInt ≤ (15 : Int) ∧ (0 : Int) ≤ z3.toInt ∧ z3.toInt ≤ (9 : Int) ∧ (0 : Int) ≤ z4.toInt ∧ z4.toInt ≤ (23 : Int) ∧ (0 : Int) ≤ z5.toInt ∧ z5.toInt ≤ (3 : Int) ∧ (0 : Int) ≤ z6.toInt ∧ z6.toInt ≤ (9 : Int) ∧ (1 : Int) ≤ z7.toInt ∧ z7.toInt ≤ (40 : Int)); omega)
set_option maxHeartbeats 400000 in
set_option maxRecDepth 10000 in
theorem tfX12_worth_0 (x1 : Int32) (x2 : Int32) (x3 : Int32) (x4 : Int32) (x5 : Int32) (x6 : Int32) (x7 : Int32) (u : SX) (hI : IM u)  : Tot (fX12_worth_0 x1 x2 x3 x4 x5 x6 x7 u) (qX12_worth_0 u) := by
  unfold fX12_worth_0
  have hs_u : StM mdX12_worth_0 u u := StM_rf hI
  refine Tot_gd (by decide) ?_
  have : 0 ≤ (u.2.1 4 ((0 : Int32)).toNatClampNeg).toInt ∧ (u.2.1 4 ((0 : Int32)).toNatClampNeg).toInt ≤ 12 := hs_u.1.2.1 4 ((0 : Int32)).toNatClampNeg
  have : ((u.2.1 4 ((0 : Int32)).toNatClampNeg) - 1).toInt = (u.2.1 4 ((0 : Int32)).toNatClampNeg).toInt - (1 : Int) := subc_t (by decide) (by omega) (by omega)
  refine Tot_bind (tfX12_isIn x1 0 ((u.2.1 4 ((0 : Int32)).toNatClampNeg) - 1) (by show (-100000) ≤ (0 : Int) ∧ (0 : Int) ≤ 400; omega) ⟨by omega, by omega⟩) (fun r2 hq => ?_)
  have : 0 ≤ r2.toInt ∧ r2.toInt ≤ 1 := hq.1
  have : r2.toInt ≠ 0 → ((0 : Int) ≤ x1.toInt ∧ x1.toInt ≤ ((u.2.1 4 ((0 : Int32)).toNatClampNeg) - 1).toInt) := hq.2
  clear hq
  refine Tot_ite (fun c205 => ?_) (fun c205 => ?_)
  · have : r2.toInt = (0 : Int) := eqI c205
    exact tGX12_worth_0_45 u x1 x2 x3 x4 x5 x6 x7 u hs_u
  · have : ¬ r2.toInt = (0 : Int) := neI c205
    refine Tot_bind (tfX12_isAim x2 x3 x4 x6 x7) (fun r10 hq => ?_)
    have : 0 ≤ r10.toInt ∧ r10.toInt ≤ 1 := hq.1
    have : r10.toInt ≠ 0 → ((0 : Int) ≤ x2.toInt ∧ x2.toInt ≤ (15 : Int) ∧ (0 : Int) ≤ x3.toInt ∧ x3.toInt ≤ (9 : Int) ∧ (0 : Int) ≤ x4.toInt ∧ x4.toInt ≤ (23 : Int) ∧ (0 : Int) ≤ x6.toInt ∧ x6.toInt ≤ (9 : Int) ∧ (1 : Int) ≤ x7.toInt ∧ x7.toInt ≤ (40 : Int)) := hq.2
    clear hq
    refine Tot_ite (fun c206 => ?_) (fun c206 => ?_)
    · have : r10.toInt = (0 : Int) := eqI c206
      exact tGX12_worth_0_45 u x1 x2 x3 x4 x5 x6 x7 u hs_u
    · have : ¬ r10.toInt = (0 : Int) := neI c206
      refine Tot_bind (tfX12_isIn x5 0 3 (by show (-100000) ≤ (0 : Int) ∧ (0 : Int) ≤ 400; omega) (by show (-1) ≤ (3 : Int) ∧ (3 : Int) ≤ 100000; omega)) (fun r13 hq => ?_)
      have : 0 ≤ r13.toInt ∧ r13.toInt ≤ 1 := hq.1
      have : r13.toInt ≠ 0 → ((0 : Int) ≤ x5.toInt ∧ x5.toInt ≤ (3 : Int)) := hq.2
      clear hq
      refine Tot_ite (fun c207 => ?_) (fun c207 => ?_)
      · have : r13.toInt = (0 : Int) := eqI c207
        exact tGX12_worth_0_45 u x1 x2 x3 x4 x5 x6 x7 u hs_u
      · have : ¬ r13.toInt = (0 : Int) := neI c207
        exact tGX12_worth_0_46 u x1 x2 x3 x4 x5 x6 x7 0 u hs_u (by show 0 ≤ (0 : Int) ∧ (0 : Int) ≤ 1; omega) (by show (0 : Int) ≠ 1 → ((0 : Int) ≤ x1.toInt ∧ x1.toInt ≤ (11 : Int) ∧ (0 : Int) ≤ x2.toInt ∧ x2.toInt ≤ (15 : Int) ∧ (0 : Int) ≤ x3.toInt ∧ x3.toInt ≤ (9 : Int) ∧ (0 : Int) ≤ x4.toInt ∧ x4.toInt ≤ (23 : Int) ∧ (0 : Int) ≤ x5.toInt ∧ x5.toInt ≤ (3 : Int) ∧ (0 : Int) ≤ x6.toInt ∧ x6.toInt ≤ (9 : Int) ∧ (1 : Int) ≤ x7.toInt ∧ x7.toInt ≤ (40 : Int)); omega)

def mdX12_isPart_0 : MD := ([], [], [], [])
abbrev qX12_isPart_0 (x1 : Int32) (u : SX) (q : Int32 × SX) : Prop := StM mdX12_isPart_0 u q.2 ∧ (0 ≤ q.1.toInt ∧ q.1.toInt ≤ 1) ∧ ((q.1.toInt ≠ 0 → ((0 : Int) ≤ x1.toInt ∧ x1.toInt < (u.1 12).toInt)))
set_option maxHeartbeats 400000 in
set_option maxRecDepth 10000 in
theorem tfX12_isPart_0 (x1 : Int32) (u : SX) (hI : IM u)  : Tot (fX12_isPart_0 x1 u) (qX12_isPart_0 x1 u) := by
  unfold fX12_isPart_0
  have hs_u : StM mdX12_isPart_0 u u := StM_rf hI
  refine Tot_ite (fun c208 => ?_) (fun c208 => ?_)
  · have : x1.toInt < (0 : Int) := ltI c208
    refine Tot_gd (by decide) ?_
    have : 0 ≤ (u.1 12).toInt ∧ (u.1 12).toInt ≤ 12 := hs_u.1.1 12
    exact Tot_some ⟨hs_u, (by show 0 ≤ (0 : Int) ∧ (0 : Int) ≤ 1; omega), (by show (0 : Int) ≠ 0 → ((0 : Int) ≤ x1.toInt ∧ x1.toInt < (u.1 12).toInt); omega)⟩
  · have : ¬ x1.toInt < (0 : Int) := nltI c208
    have : 0 ≤ (u.1 12).toInt ∧ (u.1 12).toInt ≤ 12 := hs_u.1.1 12
    refine Tot_ite (fun c209 => ?_) (fun c209 => ?_)
    · have : (u.1 12).toInt ≤ x1.toInt := leI c209
      refine Tot_gd (by decide) ?_
      exact Tot_some ⟨hs_u, (by show 0 ≤ (0 : Int) ∧ (0 : Int) ≤ 1; omega), (by show (0 : Int) ≠ 0 → ((0 : Int) ≤ x1.toInt ∧ x1.toInt < (u.1 12).toInt); omega)⟩
    · have : ¬ (u.1 12).toInt ≤ x1.toInt := nleI c209
      refine Tot_gd (by decide) ?_
      exact Tot_some ⟨hs_u, (by show 0 ≤ (1 : Int) ∧ (1 : Int) ≤ 1; omega), (by show (1 : Int) ≠ 0 → ((0 : Int) ≤ x1.toInt ∧ x1.toInt < (u.1 12).toInt); omega)⟩
