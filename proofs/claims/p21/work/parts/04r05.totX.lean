def mdX8_set_5 : MD := ([], [22], [], [])
abbrev qX8_set_5 (u : SX) (q : Int32 × SX) : Prop := StX mdX8_set_5 u q.2 ∧ (0 ≤ q.1.toInt ∧ q.1.toInt ≤ 0) ∧ (True)
set_option maxHeartbeats 400000 in
set_option maxRecDepth 10000 in
theorem tfX8_set_5 (x1 : Int32) (x2 : Int32) (u : SX) (hI : IX u) (h0 : 0 ≤ x1.toInt ∧ x1.toInt ≤ 4) : Tot (fX8_set_5 x1 x2 u) (qX8_set_5 u) := by
  unfold fX8_set_5
  have hs_u : StX mdX8_set_5 u u := StX_rf hI
  refine Tot_ite (fun c1221 => ?_) (fun c1221 => ?_)
  · have : x1.toInt < (0 : Int) := ltI c1221
    exfalso
    omega
  · have : ¬ x1.toInt < (0 : Int) := nltI c1221
    refine Tot_ite (fun c1222 => ?_) (fun c1222 => ?_)
    · have : (5 : Int) ≤ x1.toInt := leI c1222
      exfalso
      omega
    · have : ¬ (5 : Int) ≤ x1.toInt := nleI c1222
      refine Tot_gd (inb_t (by omega) (by omega)) ?_
      refine Tot_lt (fun u2 e_u2 => ?_)
      have hs_u2 : StX mdX8_set_5 u u2 := by rw [e_u2]; exact StX_sAf hs_u (by decide) rfl rfl (by decide)
      exact Tot_some ⟨hs_u2, (by show 0 ≤ (0 : Int) ∧ (0 : Int) ≤ 0; omega), trivial⟩

def mdX3_doneUpTo_10 : MD := ([], [], [], [])
abbrev qX3_doneUpTo_10 (u : SX) (q : Int32 × SX) : Prop := StX mdX3_doneUpTo_10 u q.2 ∧ (True) ∧ (True)
set_option maxHeartbeats 400000 in
set_option maxRecDepth 10000 in
theorem tGX3_doneUpTo_10_33 (u0 : SX) (g4 : Int) {k4 : Int32 → Int32 → Int32 → SX → Option (Int32 × SX)} (hk4 : ∀ (z1 : Int32) (z2 : Int32) (z3 : Int32) (u : SX), (StX mdX3_doneUpTo_10 u0 u) → (0 ≤ z1.toInt ∧ z1.toInt ≤ 120) → (0 ≤ z3.toInt ∧ z3.toInt ≤ 10) → (g4 < z3.toInt) → Tot (k4 z1 z2 z3 u) (qX3_doneUpTo_10 u0)) (z1 : Int32) (z2 : Int32) (z3 : Int32) (u : SX) (hs_u : StX mdX3_doneUpTo_10 u0 u) (h0 : 0 ≤ z1.toInt ∧ z1.toInt ≤ 120) (h1 : 0 ≤ z3.toInt ∧ z3.toInt ≤ 9) (h2 : g4 ≤ z3.toInt) : Tot (GX3_doneUpTo_10_33 k4 z1 z2 z3 u) (qX3_doneUpTo_10 u0) := by
  unfold GX3_doneUpTo_10_33
  have : (z3 + 1).toInt = z3.toInt + (1 : Int) := addc_t (by decide) (by omega) (by omega)
  exact hk4 z1 z2 (z3 + 1) u hs_u ⟨by omega, by omega⟩ ⟨by omega, by omega⟩ (by omega)
set_option maxHeartbeats 400000 in
set_option maxRecDepth 10000 in
theorem tLX3_doneUpTo_10_4 (u0 : SX)    : ∀ (n : Nat) (z1 : Int32) (z2 : Int32) (z3 : Int32) (u : SX), (StX mdX3_doneUpTo_10 u0 u) → (0 ≤ z1.toInt ∧ z1.toInt ≤ 120) → (0 ≤ z3.toInt ∧ z3.toInt ≤ 10) → (10 - z3.toInt < (n : Int)) → Tot (LX3_doneUpTo_10_4 n z1 z2 z3 u) (qX3_doneUpTo_10 u0) := by
  intro n
  induction n with
  | zero =>
    intro z1 z2 z3 u hs_u h0 h1 hm
    exfalso
    omega
  | succ n ih =>
    intro z1 z2 z3 u hs_u h0 h1 hm
    rw [LX3_doneUpTo_10_4]
    have : 0 ≤ (u.1 29).toInt ∧ (u.1 29).toInt ≤ 10 := hs_u.1.1 29
    refine Tot_ite (fun c1223 => ?_) (fun c1223 => ?_)
    · have : (u.1 29).toInt ≤ z3.toInt := leI c1223
      exact Tot_some ⟨hs_u, trivial, trivial⟩
    · have : ¬ (u.1 29).toInt ≤ z3.toInt := nleI c1223
      refine Tot_bind (tfX3_isDone_10 z3 u hs_u.1 ⟨by omega, by omega⟩) (fun q hq => ?_)
      obtain ⟨r1, u2⟩ := q
      have hc_u2 : StX mdX3_isDone_10 u u2 := hq.1
      have hs_u2 : StX mdX3_doneUpTo_10 u0 u2 := StX_tr hs_u hc_u2 (by decide)
      have : 0 ≤ r1.toInt ∧ r1.toInt ≤ 1 := hq.2.1
      refine Tot_ite (fun c1224 => ?_) (fun c1224 => ?_)
      · have : r1.toInt = (0 : Int) := eqI c1224
        exact tGX3_doneUpTo_10_33 u0 (z3.toInt) (fun a1225 a1226 a1227 w1228 hw1228 p1229 p1230 p1231 => ih a1225 a1226 a1227 w1228 hw1228 p1229 p1230 (by omega)) z1 z2 z3 u2 hs_u2 ⟨by omega, by omega⟩ ⟨by omega, by omega⟩ (by omega)
      · have : ¬ r1.toInt = (0 : Int) := neI c1224
        refine Tot_gd (inb_t (by omega) (by omega)) ?_
        have : (-1) ≤ (u2.2.1 52 z3.toNatClampNeg).toInt ∧ (u2.2.1 52 z3.toNatClampNeg).toInt ≤ 120 := hs_u2.1.2.1 52 z3.toNatClampNeg
        refine Tot_ite (fun c1232 => ?_) (fun c1232 => ?_)
        · have : z1.toInt < (u2.2.1 52 z3.toNatClampNeg).toInt := ltI c1232
          exact tGX3_doneUpTo_10_33 u0 (z3.toInt) (fun a1233 a1234 a1235 w1236 hw1236 p1237 p1238 p1239 => ih a1233 a1234 a1235 w1236 hw1236 p1237 p1238 (by omega)) z1 z2 z3 u2 hs_u2 ⟨by omega, by omega⟩ ⟨by omega, by omega⟩ (by omega)
        · have : ¬ z1.toInt < (u2.2.1 52 z3.toNatClampNeg).toInt := nltI c1232
          exact tGX3_doneUpTo_10_33 u0 (z3.toInt) (fun a1240 a1241 a1242 w1243 hw1243 p1244 p1245 p1246 => ih a1240 a1241 a1242 w1243 hw1243 p1244 p1245 (by omega)) z1 (z2 + 1) z3 u2 hs_u2 ⟨by omega, by omega⟩ ⟨by omega, by omega⟩ (by omega)
set_option maxHeartbeats 400000 in
set_option maxRecDepth 10000 in
theorem tfX3_doneUpTo_10 (x1 : Int32) (u : SX) (hI : IX u) (h0 : 0 ≤ x1.toInt ∧ x1.toInt ≤ 120) : Tot (fX3_doneUpTo_10 x1 u) (qX3_doneUpTo_10 u) := by
  unfold fX3_doneUpTo_10
  have hs_u : StX mdX3_doneUpTo_10 u u := StX_rf hI
  exact tLX3_doneUpTo_10_4 u 5000 x1 0 0 u hs_u ⟨by omega, by omega⟩ (by show 0 ≤ (0 : Int) ∧ (0 : Int) ≤ 10; omega) (by show 10 - (0 : Int) < ((5000 : Nat) : Int); omega)

def mdX10_worthBy_T_a22_a23 : MD := ([], [23], [], [])
abbrev qX10_worthBy_T_a22_a23 (u : SX) (q : Int32 × SX) : Prop := StX mdX10_worthBy_T_a22_a23 u q.2 ∧ (True) ∧ (True)
set_option maxHeartbeats 400000 in
set_option maxRecDepth 10000 in
theorem tGX10_worthBy_T_a22_a23_227 (u0 : SX) (g8 : Int) {k8 : Nat → Int32 → Int32 → Int32 → SX → Option (Int32 × SX)} (hk8 : ∀ (z0 : Nat) (z3 : Int32) (z4 : Int32) (z5 : Int32) (u : SX), (StX mdX10_worthBy_T_a22_a23 u0 u) → (0 ≤ z3.toInt ∧ z3.toInt ≤ 120) → (0 ≤ z4.toInt ∧ z4.toInt ≤ 1) → (0 ≤ z5.toInt ∧ z5.toInt ≤ 121) → (z0 < tN u0) → (g8 < z5.toInt) → Tot (k8 z0 z3 z4 z5 u) (qX10_worthBy_T_a22_a23 u0)) (z0 : Nat) (z3 : Int32) (z4 : Int32) (z5 : Int32) (u : SX) (hs_u : StX mdX10_worthBy_T_a22_a23 u0 u) (h0 : 0 ≤ z3.toInt ∧ z3.toInt ≤ 120) (h1 : 0 ≤ z4.toInt ∧ z4.toInt ≤ 1) (h2 : 0 ≤ z5.toInt ∧ z5.toInt ≤ 120) (h3 : z0 < tN u0) (h4 : g8 ≤ z5.toInt) : Tot (GX10_worthBy_T_a22_a23_227 k8 z0 z3 z4 z5 u) (qX10_worthBy_T_a22_a23 u0) := by
  unfold GX10_worthBy_T_a22_a23_227
  have : (z5 + 1).toInt = z5.toInt + (1 : Int) := addc_t (by decide) (by omega) (by omega)
  exact hk8 z0 z3 z4 (z5 + 1) u hs_u ⟨by omega, by omega⟩ ⟨by omega, by omega⟩ ⟨by omega, by omega⟩ (by assumption) (by omega)
set_option maxHeartbeats 400000 in
set_option maxRecDepth 10000 in
theorem tGX10_worthBy_T_a22_a23_119 (u0 : SX) (g8 : Int) {k8 : Nat → Int32 → Int32 → Int32 → SX → Option (Int32 × SX)} (hk8 : ∀ (z0 : Nat) (z3 : Int32) (z4 : Int32) (z5 : Int32) (u : SX), (StX mdX10_worthBy_T_a22_a23 u0 u) → (0 ≤ z3.toInt ∧ z3.toInt ≤ 120) → (0 ≤ z4.toInt ∧ z4.toInt ≤ 1) → (0 ≤ z5.toInt ∧ z5.toInt ≤ 121) → (z0 < tN u0) → (g8 < z5.toInt) → Tot (k8 z0 z3 z4 z5 u) (qX10_worthBy_T_a22_a23 u0)) (z0 : Nat) (z3 : Int32) (z4 : Int32) (z5 : Int32) (y0 : Int32) (y1 : Int32) (u : SX) (hs_u : StX mdX10_worthBy_T_a22_a23 u0 u) (h0 : 0 ≤ z3.toInt ∧ z3.toInt ≤ 119) (h1 : 0 ≤ z4.toInt ∧ z4.toInt ≤ 0) (h2 : 0 ≤ z5.toInt ∧ z5.toInt ≤ 120) (h3 : 0 ≤ y1.toInt ∧ y1.toInt ≤ 119) (h4 : z0 < tN u0) (h5 : g8 ≤ z5.toInt) : Tot (GX10_worthBy_T_a22_a23_119 k8 z0 z3 z4 z5 y0 y1 u) (qX10_worthBy_T_a22_a23 u0) := by
  unfold GX10_worthBy_T_a22_a23_119
  refine Tot_gd (inb_t (by omega) (by omega)) ?_
  refine Tot_lt (fun u15 e_u15 => ?_)
  have hs_u15 : StX mdX10_worthBy_T_a22_a23 u0 u15 := by rw [e_u15]; exact StX_sAf hs_u (by decide) rfl rfl (by decide)
  have : (z3 + 1).toInt = z3.toInt + (1 : Int) := addc_t (by decide) (by omega) (by omega)
  exact tGX10_worthBy_T_a22_a23_227 u0 g8 hk8 z0 (z3 + 1) z4 z5 u15 hs_u15 ⟨by omega, by omega⟩ ⟨by omega, by omega⟩ ⟨by omega, by omega⟩ (by assumption) (by omega)
set_option maxHeartbeats 400000 in
set_option maxRecDepth 10000 in
theorem tGX10_worthBy_T_a22_a23_101 (u0 : SX) (g8 : Int) {k8 : Nat → Int32 → Int32 → Int32 → SX → Option (Int32 × SX)} (hk8 : ∀ (z0 : Nat) (z3 : Int32) (z4 : Int32) (z5 : Int32) (u : SX), (StX mdX10_worthBy_T_a22_a23 u0 u) → (0 ≤ z3.toInt ∧ z3.toInt ≤ 120) → (0 ≤ z4.toInt ∧ z4.toInt ≤ 1) → (0 ≤ z5.toInt ∧ z5.toInt ≤ 121) → (z0 < tN u0) → (g8 < z5.toInt) → Tot (k8 z0 z3 z4 z5 u) (qX10_worthBy_T_a22_a23 u0)) (z0 : Nat) (z3 : Int32) (z4 : Int32) (z5 : Int32) (z6 : Int32) (z7 : Int32) (u : SX) (hs_u : StX mdX10_worthBy_T_a22_a23 u0 u) (h0 : 0 ≤ z3.toInt ∧ z3.toInt ≤ 119) (h1 : 0 ≤ z4.toInt ∧ z4.toInt ≤ 0) (h2 : 0 ≤ z5.toInt ∧ z5.toInt ≤ 120) (h3 : 48 ≤ z6.toInt ∧ z6.toInt ≤ 121) (h4 : z0 < tN u0) (h5 : (z6.toInt = 48 ∨ (z6.toInt = 121 ∧ 0 ≤ z7.toInt ∧ z7.toInt < 5))) (h6 : g8 ≤ z5.toInt) : Tot (GX10_worthBy_T_a22_a23_101 k8 z0 z3 z4 z5 z6 z7 u) (qX10_worthBy_T_a22_a23 u0) := by
  unfold GX10_worthBy_T_a22_a23_101
  refine Tot_ite (fun c1247 => ?_) (fun c1247 => ?_)
  · have : z6.toInt = (48 : Int) := eqI c1247
    exact tGX10_worthBy_T_a22_a23_119 u0 g8 hk8 z0 z3 z4 z5 z7 z3 u hs_u ⟨by omega, by omega⟩ ⟨by omega, by omega⟩ ⟨by omega, by omega⟩ ⟨by omega, by omega⟩ (by assumption) (by omega)
  · have : ¬ z6.toInt = (48 : Int) := neI c1247
    refine Tot_gd (inb_t (by omega) (by omega)) ?_
    exact tGX10_worthBy_T_a22_a23_119 u0 g8 hk8 z0 z3 z4 z5 (u.2.1 22 z7.toNatClampNeg) z3 u hs_u ⟨by omega, by omega⟩ ⟨by omega, by omega⟩ ⟨by omega, by omega⟩ ⟨by omega, by omega⟩ (by assumption) (by omega)
set_option maxHeartbeats 400000 in
set_option maxRecDepth 10000 in
theorem tGX10_worthBy_T_a22_a23_79 (u0 : SX) (g8 : Int) {k8 : Nat → Int32 → Int32 → Int32 → SX → Option (Int32 × SX)} (hk8 : ∀ (z0 : Nat) (z3 : Int32) (z4 : Int32) (z5 : Int32) (u : SX), (StX mdX10_worthBy_T_a22_a23 u0 u) → (0 ≤ z3.toInt ∧ z3.toInt ≤ 120) → (0 ≤ z4.toInt ∧ z4.toInt ≤ 1) → (0 ≤ z5.toInt ∧ z5.toInt ≤ 121) → (z0 < tN u0) → (g8 < z5.toInt) → Tot (k8 z0 z3 z4 z5 u) (qX10_worthBy_T_a22_a23 u0)) (z0 : Nat) (z3 : Int32) (z4 : Int32) (z5 : Int32) (z6 : Int32) (z7 : Int32) (u : SX) (hs_u : StX mdX10_worthBy_T_a22_a23 u0 u) (h0 : 0 ≤ z3.toInt ∧ z3.toInt ≤ 120) (h1 : 0 ≤ z4.toInt ∧ z4.toInt ≤ 0) (h2 : 0 ≤ z5.toInt ∧ z5.toInt ≤ 120) (h3 : 48 ≤ z6.toInt ∧ z6.toInt ≤ 121) (h4 : z0 < tN u0) (h5 : (z6.toInt = 48 ∨ (z6.toInt = 121 ∧ 0 ≤ z7.toInt))) (h6 : g8 ≤ z5.toInt) : Tot (GX10_worthBy_T_a22_a23_79 k8 z0 z3 z4 z5 z6 z7 u) (qX10_worthBy_T_a22_a23 u0) := by
  unfold GX10_worthBy_T_a22_a23_79
  refine Tot_ite (fun c1248 => ?_) (fun c1248 => ?_)
  · have : (120 : Int) ≤ z3.toInt := leI c1248
    exact Tot_some ⟨hs_u, trivial, trivial⟩
  · have : ¬ (120 : Int) ≤ z3.toInt := nleI c1248
    refine Tot_ite (fun c1249 => ?_) (fun c1249 => ?_)
    · have : z6.toInt = (121 : Int) := eqI c1249
      refine Tot_ite (fun c1250 => ?_) (fun c1250 => ?_)
      · have : z7.toInt < (5 : Int) := ltI c1250
        exact tGX10_worthBy_T_a22_a23_101 u0 g8 hk8 z0 z3 z4 z5 z6 z7 u hs_u ⟨by omega, by omega⟩ ⟨by omega, by omega⟩ ⟨by omega, by omega⟩ ⟨by omega, by omega⟩ (by assumption) (by omega) (by omega)
      · have : ¬ z7.toInt < (5 : Int) := nltI c1250
        exact Tot_some ⟨hs_u, trivial, trivial⟩
    · have : ¬ z6.toInt = (121 : Int) := neI c1249
      exact tGX10_worthBy_T_a22_a23_101 u0 g8 hk8 z0 z3 z4 z5 z6 z7 u hs_u ⟨by omega, by omega⟩ ⟨by omega, by omega⟩ ⟨by omega, by omega⟩ ⟨by omega, by omega⟩ (by assumption) (by omega) (by omega)
set_option maxHeartbeats 400000 in
set_option maxRecDepth 10000 in
theorem tGX10_worthBy_T_a22_a23_167 (u0 : SX) (g8 : Int) {k8 : Nat → Int32 → Int32 → Int32 → SX → Option (Int32 × SX)} (hk8 : ∀ (z0 : Nat) (z3 : Int32) (z4 : Int32) (z5 : Int32) (u : SX), (StX mdX10_worthBy_T_a22_a23 u0 u) → (0 ≤ z3.toInt ∧ z3.toInt ≤ 120) → (0 ≤ z4.toInt ∧ z4.toInt ≤ 1) → (0 ≤ z5.toInt ∧ z5.toInt ≤ 121) → (z0 < tN u0) → (g8 < z5.toInt) → Tot (k8 z0 z3 z4 z5 u) (qX10_worthBy_T_a22_a23 u0)) (z0 : Nat) (z3 : Int32) (z5 : Int32) (y0 : Int32) (u : SX) (hs_u : StX mdX10_worthBy_T_a22_a23 u0 u) (h0 : 0 ≤ z3.toInt ∧ z3.toInt ≤ 119) (h1 : 0 ≤ z5.toInt ∧ z5.toInt ≤ 120) (h2 : 0 ≤ y0.toInt ∧ y0.toInt ≤ 1) (h3 : z0 < tN u0) (h4 : g8 ≤ z5.toInt) : Tot (GX10_worthBy_T_a22_a23_167 k8 z0 z3 z5 y0 u) (qX10_worthBy_T_a22_a23 u0) := by
  unfold GX10_worthBy_T_a22_a23_167
  exact tGX10_worthBy_T_a22_a23_227 u0 g8 hk8 z0 z3 y0 z5 u hs_u ⟨by omega, by omega⟩ ⟨by omega, by omega⟩ ⟨by omega, by omega⟩ (by assumption) (by omega)
set_option maxHeartbeats 400000 in
set_option maxRecDepth 10000 in
theorem tGX10_worthBy_T_a22_a23_60 (u0 : SX) (g8 : Int) {k8 : Nat → Int32 → Int32 → Int32 → SX → Option (Int32 × SX)} (hk8 : ∀ (z0 : Nat) (z3 : Int32) (z4 : Int32) (z5 : Int32) (u : SX), (StX mdX10_worthBy_T_a22_a23 u0 u) → (0 ≤ z3.toInt ∧ z3.toInt ≤ 120) → (0 ≤ z4.toInt ∧ z4.toInt ≤ 1) → (0 ≤ z5.toInt ∧ z5.toInt ≤ 121) → (z0 < tN u0) → (g8 < z5.toInt) → Tot (k8 z0 z3 z4 z5 u) (qX10_worthBy_T_a22_a23 u0)) (z0 : Nat) (z3 : Int32) (z5 : Int32) (y0 : Int32) (u : SX) (hs_u : StX mdX10_worthBy_T_a22_a23 u0 u) (h0 : 0 ≤ z3.toInt ∧ z3.toInt ≤ 120) (h1 : 0 ≤ z5.toInt ∧ z5.toInt ≤ 120) (h2 : 0 ≤ y0.toInt ∧ y0.toInt ≤ 1) (h3 : z0 < tN u0) (h4 : g8 ≤ z5.toInt) : Tot (GX10_worthBy_T_a22_a23_60 k8 z0 z3 z5 y0 u) (qX10_worthBy_T_a22_a23 u0) := by
  unfold GX10_worthBy_T_a22_a23_60
  exact tGX10_worthBy_T_a22_a23_227 u0 g8 hk8 z0 z3 y0 z5 u hs_u ⟨by omega, by omega⟩ ⟨by omega, by omega⟩ ⟨by omega, by omega⟩ (by assumption) (by omega)
set_option maxHeartbeats 400000 in
set_option maxRecDepth 10000 in
theorem tLX10_worthBy_T_a22_a23_8 (u0 : SX)    : ∀ (n : Nat) (z0 : Nat) (z3 : Int32) (z4 : Int32) (z5 : Int32) (u : SX), (StX mdX10_worthBy_T_a22_a23 u0 u) → (0 ≤ z3.toInt ∧ z3.toInt ≤ 120) → (0 ≤ z4.toInt ∧ z4.toInt ≤ 1) → (0 ≤ z5.toInt ∧ z5.toInt ≤ 121) → (z0 < tN u0) → (121 - z5.toInt < (n : Int)) → Tot (LX10_worthBy_T_a22_a23_8 n z0 z3 z4 z5 u) (qX10_worthBy_T_a22_a23 u0) := by
  intro n
  induction n with
  | zero =>
    intro z0 z3 z4 z5 u hs_u h0 h1 h2 h3 hm
    exfalso
    omega
  | succ n ih =>
    intro z0 z3 z4 z5 u hs_u h0 h1 h2 h3 hm
    rw [LX10_worthBy_T_a22_a23_8]
    refine Tot_gd (decide_eq_true (by have e : tN u = tN u0 := congrArg (fun t : TX => t.1) hs_u.2.2.2.2.2; rw [e]; assumption)) ?_
    refine Tot_gd (decide_eq_true (by have e : tN u = tN u0 := congrArg (fun t : TX => t.1) hs_u.2.2.2.2.2; rw [e]; assumption)) ?_
    refine Tot_ite (fun c1251 => ?_) (fun c1251 => ?_)
    · exact Tot_some ⟨hs_u, trivial, trivial⟩
    · have : tL u z0 ≤ 121 := hs_u.1.2.2.2.2.1 z0
      have : z5.toInt < ((tL u z0 : Nat) : Int) := by have a := nleI c1251; have b : (Int32.ofNat (tL u z0)).toInt = ((tL u z0 : Nat) : Int) := Int32.toInt_ofNat_of_lt (by omega); omega
      refine Tot_gd (decide_eq_true (by have e : tN u = tN u0 := congrArg (fun t : TX => t.1) hs_u.2.2.2.2.2; rw [e]; assumption)) ?_
      refine Tot_gd (decide_eq_true (by have e : tN u = tN u0 := congrArg (fun t : TX => t.1) hs_u.2.2.2.2.2; rw [e]; assumption)) ?_
      refine Tot_gd (inb_t (by omega) (by omega)) ?_
      have := and255_t (tC u z0 z5.toNatClampNeg)
      refine Tot_lt (fun v6 e_v6 => ?_)
      have : v6.toInt = ((tC u z0 z5.toNatClampNeg) &&& 255).toInt := congrArg Int32.toInt e_v6
      refine Tot_gd (decide_eq_true (by have e : tN u = tN u0 := congrArg (fun t : TX => t.1) hs_u.2.2.2.2.2; rw [e]; assumption)) ?_
      refine Tot_gd (decide_eq_true (by have e : tN u = tN u0 := congrArg (fun t : TX => t.1) hs_u.2.2.2.2.2; rw [e]; assumption)) ?_
      refine Tot_gd (inb_t (by omega) (by omega)) ?_
      refine Tot_lt (fun v11 e_v11 => ?_)
      have : v6.toInt = 121 → 0 ≤ v11.toInt := by rw [e_v6, e_v11]; exact hs_u.1.2.2.2.2.2 z0 _
      refine Tot_ite (fun c1252 => ?_) (fun c1252 => ?_)
      · have : z4.toInt = (0 : Int) := eqI c1252
        refine Tot_ite (fun c1253 => ?_) (fun c1253 => ?_)
        · have : v6.toInt = (48 : Int) := eqI c1253
          exact tGX10_worthBy_T_a22_a23_79 u0 (z5.toInt) (fun a1254 a1255 a1256 a1257 w1258 hw1258 p1259 p1260 p1261 p1262 p1263 => ih a1254 a1255 a1256 a1257 w1258 hw1258 p1259 p1260 p1261 p1262 (by omega)) z0 z3 z4 z5 v6 v11 u hs_u ⟨by omega, by omega⟩ ⟨by omega, by omega⟩ ⟨by omega, by omega⟩ ⟨by omega, by omega⟩ (by assumption) (by omega) (by omega)
        · refine Tot_ite (fun c1264 => ?_) (fun c1264 => ?_)
          · have : v6.toInt = (121 : Int) := eqI c1264
            exact tGX10_worthBy_T_a22_a23_79 u0 (z5.toInt) (fun a1265 a1266 a1267 a1268 w1269 hw1269 p1270 p1271 p1272 p1273 p1274 => ih a1265 a1266 a1267 a1268 w1269 hw1269 p1270 p1271 p1272 p1273 (by omega)) z0 z3 z4 z5 v6 v11 u hs_u ⟨by omega, by omega⟩ ⟨by omega, by omega⟩ ⟨by omega, by omega⟩ ⟨by omega, by omega⟩ (by assumption) (by omega) (by omega)
          · refine Tot_ite (fun c1275 => ?_) (fun c1275 => ?_)
            · have : (1 : Int) ≤ z3.toInt := leI c1275
              refine Tot_ite (fun c1276 => ?_) (fun c1276 => ?_)
              · have : v6.toInt = (59 : Int) := eqI c1276
                have s1278 : (z3 - 1).toInt = z3.toInt - (1 : Int) := subc_t (by decide) (by omega) (by omega)
                generalize (z3 - 1) = w1277 at s1278 ⊢
                refine Tot_gd (inb_t (by omega) (by omega)) ?_
                exact Tot_some ⟨hs_u, trivial, trivial⟩
              · refine Tot_ite (fun c1279 => ?_) (fun c1279 => ?_)
                · have : v6.toInt = (63 : Int) := eqI c1279
                  have s1281 : (z3 + (-1)).toInt = z3.toInt + (-1 : Int) := addc_t (by decide) (by omega) (by omega)
                  generalize (z3 + (-1)) = w1280 at s1281 ⊢
                  refine Tot_gd (inb_t (by omega) (by omega)) ?_
                  refine Tot_ite (fun c1282 => ?_) (fun c1282 => ?_)
                  · have : (u.2.1 23 w1280.toNatClampNeg).toInt = (0 : Int) := eqI c1282
                    exact tGX10_worthBy_T_a22_a23_167 u0 (z5.toInt) (fun a1283 a1284 a1285 a1286 w1287 hw1287 p1288 p1289 p1290 p1291 p1292 => ih a1283 a1284 a1285 a1286 w1287 hw1287 p1288 p1289 p1290 p1291 (by omega)) z0 w1280 z5 1 u hs_u ⟨by omega, by omega⟩ ⟨by omega, by omega⟩ (by show 0 ≤ (1 : Int) ∧ (1 : Int) ≤ 1; omega) (by assumption) (by omega)
                  · exact tGX10_worthBy_T_a22_a23_167 u0 (z5.toInt) (fun a1293 a1294 a1295 a1296 w1297 hw1297 p1298 p1299 p1300 p1301 p1302 => ih a1293 a1294 a1295 a1296 w1297 hw1297 p1298 p1299 p1300 p1301 (by omega)) z0 w1280 z5 0 u hs_u ⟨by omega, by omega⟩ ⟨by omega, by omega⟩ (by show 0 ≤ (0 : Int) ∧ (0 : Int) ≤ 1; omega) (by assumption) (by omega)
                · refine Tot_ite (fun c1303 => ?_) (fun c1303 => ?_)
                  · have : v6.toInt = (33 : Int) := eqI c1303
                    have s1305 : (z3 - 1).toInt = z3.toInt - (1 : Int) := subc_t (by decide) (by omega) (by omega)
                    generalize (z3 - 1) = w1304 at s1305 ⊢
                    refine Tot_gd (inb_t (by omega) (by omega)) ?_
                    refine Tot_gd (inb_t (by omega) (by omega)) ?_
                    refine Tot_lt (fun u30 e_u30 => ?_)
                    have hs_u30 : StX mdX10_worthBy_T_a22_a23 u0 u30 := by rw [e_u30]; exact StX_sAf hs_u (by decide) rfl rfl (by decide)
                    exact tGX10_worthBy_T_a22_a23_227 u0 (z5.toInt) (fun a1306 a1307 a1308 a1309 w1310 hw1310 p1311 p1312 p1313 p1314 p1315 => ih a1306 a1307 a1308 a1309 w1310 hw1310 p1311 p1312 p1313 p1314 (by omega)) z0 z3 z4 z5 u30 hs_u30 ⟨by omega, by omega⟩ ⟨by omega, by omega⟩ ⟨by omega, by omega⟩ (by assumption) (by omega)
                  · refine Tot_ite (fun c1316 => ?_) (fun c1316 => ?_)
                    · have : (2 : Int) ≤ z3.toInt := leI c1316
                      have s1318 : (z3 + (-1)).toInt = z3.toInt + (-1 : Int) := addc_t (by decide) (by omega) (by omega)
                      generalize (z3 + (-1)) = w1317 at s1318 ⊢
                      have s1320 : (w1317 - 1).toInt = w1317.toInt - (1 : Int) := subc_t (by decide) (by omega) (by omega)
                      generalize (w1317 - 1) = w1319 at s1320 ⊢
                      refine Tot_gd (inb_t (by omega) (by omega)) ?_
                      refine Tot_gd (inb_t (by omega) (by omega)) ?_
                      refine Tot_bind (tfX10_join v6 (((u.2.1 23 w1319.toNatClampNeg)).toInt64) (((u.2.1 23 w1317.toNatClampNeg)).toInt64) ⟨by omega, by omega⟩) (fun r19 hq => ?_)
                      refine Tot_bind (tfX10_bounded r19) (fun r22 hq => ?_)
                      refine Tot_gd (inb_t (by omega) (by omega)) ?_
                      refine Tot_lt (fun u26 e_u26 => ?_)
                      have hs_u26 : StX mdX10_worthBy_T_a22_a23 u0 u26 := by rw [e_u26]; exact StX_sAf hs_u (by decide) rfl rfl (by decide)
                      exact tGX10_worthBy_T_a22_a23_227 u0 (z5.toInt) (fun a1321 a1322 a1323 a1324 w1325 hw1325 p1326 p1327 p1328 p1329 p1330 => ih a1321 a1322 a1323 a1324 w1325 hw1325 p1326 p1327 p1328 p1329 (by omega)) z0 w1317 z4 z5 u26 hs_u26 ⟨by omega, by omega⟩ ⟨by omega, by omega⟩ ⟨by omega, by omega⟩ (by assumption) (by omega)
                    · have : ¬ (2 : Int) ≤ z3.toInt := nleI c1316
                      exact Tot_some ⟨hs_u, trivial, trivial⟩
            · have : ¬ (1 : Int) ≤ z3.toInt := nleI c1275
              exact Tot_some ⟨hs_u, trivial, trivial⟩
      · have : ¬ z4.toInt = (0 : Int) := neI c1252
        refine Tot_ite (fun c1331 => ?_) (fun c1331 => ?_)
        · have : v6.toInt = (59 : Int) := eqI c1331
          exact tGX10_worthBy_T_a22_a23_60 u0 (z5.toInt) (fun a1332 a1333 a1334 a1335 w1336 hw1336 p1337 p1338 p1339 p1340 p1341 => ih a1332 a1333 a1334 a1335 w1336 hw1336 p1337 p1338 p1339 p1340 (by omega)) z0 z3 z5 0 u hs_u ⟨by omega, by omega⟩ ⟨by omega, by omega⟩ (by show 0 ≤ (0 : Int) ∧ (0 : Int) ≤ 1; omega) (by assumption) (by omega)
        · exact tGX10_worthBy_T_a22_a23_60 u0 (z5.toInt) (fun a1342 a1343 a1344 a1345 w1346 hw1346 p1347 p1348 p1349 p1350 p1351 => ih a1342 a1343 a1344 a1345 w1346 hw1346 p1347 p1348 p1349 p1350 (by omega)) z0 z3 z5 1 u hs_u ⟨by omega, by omega⟩ ⟨by omega, by omega⟩ (by show 0 ≤ (1 : Int) ∧ (1 : Int) ≤ 1; omega) (by assumption) (by omega)
set_option maxHeartbeats 400000 in
set_option maxRecDepth 10000 in
theorem tfX10_worthBy_T_a22_a23 (x0 : Nat) (u : SX) (hI : IX u) (h0 : x0 < tN u) : Tot (fX10_worthBy_T_a22_a23 x0 u) (qX10_worthBy_T_a22_a23 u) := by
  unfold fX10_worthBy_T_a22_a23
  have hs_u : StX mdX10_worthBy_T_a22_a23 u u := StX_rf hI
  exact tLX10_worthBy_T_a22_a23_8 u 5000 x0 0 0 0 u hs_u (by show 0 ≤ (0 : Int) ∧ (0 : Int) ≤ 120; omega) (by show 0 ≤ (0 : Int) ∧ (0 : Int) ≤ 1; omega) (by show 0 ≤ (0 : Int) ∧ (0 : Int) ≤ 121; omega) (by assumption) (by show 121 - (0 : Int) < ((5000 : Nat) : Int); omega)

def mdX8_ask_5 : MD := ([], [23], [], [])
abbrev qX8_ask_5 (u : SX) (q : Int32 × SX) : Prop := StX mdX8_ask_5 u q.2 ∧ (True) ∧ (True)
set_option maxHeartbeats 400000 in
set_option maxRecDepth 10000 in
theorem tGX8_ask_5_18 (u0 : SX)     (u : SX) (hs_u : StX mdX8_ask_5 u0 u)  : Tot (GX8_ask_5_18  u) (qX8_ask_5 u0) := by
  unfold GX8_ask_5_18
  exact Tot_some ⟨hs_u, trivial, trivial⟩
set_option maxHeartbeats 400000 in
set_option maxRecDepth 10000 in
theorem tGX8_ask_5_18a (u0 : SX)    (y0 : Nat) (u : SX) (hs_u : StX mdX8_ask_5 u0 u) (h0 : y0 < tN u) : Tot (GX8_ask_5_18a y0 u) (qX8_ask_5 u0) := by
  unfold GX8_ask_5_18a
  refine Tot_gd (decide_eq_true (by assumption)) ?_
  refine Tot_bind (tfX10_worthBy_T_a22_a23 y0 u hs_u.1 (by assumption)) (fun q hq => ?_)
  obtain ⟨r7, u8⟩ := q
  have hc_u8 : StX mdX10_worthBy_T_a22_a23 u u8 := hq.1
  have hs_u8 : StX mdX8_ask_5 u0 u8 := StX_tr hs_u hc_u8 (by decide)
  exact Tot_some ⟨hs_u8, trivial, trivial⟩
set_option maxHeartbeats 400000 in
set_option maxRecDepth 10000 in
theorem tfX8_ask_5 (x1 : Int32) (u : SX) (hI : IX u) (h0 : 0 ≤ x1.toInt ∧ x1.toInt ≤ 5) : Tot (fX8_ask_5 x1 u) (qX8_ask_5 u) := by
  unfold fX8_ask_5
  have hs_u : StX mdX8_ask_5 u u := StX_rf hI
  refine Tot_bind (tfX8_has_5 x1 u hs_u.1) (fun q hq => ?_)
  obtain ⟨r1, u2⟩ := q
  have hc_u2 : StX mdX8_has_5 u u2 := hq.1
  have hs_u2 : StX mdX8_ask_5 u u2 := StX_tr hs_u hc_u2 (by decide)
  have : 0 ≤ r1.toInt ∧ r1.toInt ≤ 1 := hq.2.1
  have : 0 ≤ (u.1 7).toInt ∧ (u.1 7).toInt ≤ 6 := hs_u.1.1 7
  have : r1.toInt ≠ 0 → ((0 : Int) ≤ x1.toInt ∧ x1.toInt < (u.1 7).toInt) := hq.2.2
  refine Tot_ite (fun c1352 => ?_) (fun c1352 => ?_)
  · have : r1.toInt = (0 : Int) := eqI c1352
    exact tGX8_ask_5_18 u u2 hs_u2
  · have : ¬ r1.toInt = (0 : Int) := neI c1352
    refine Tot_gd (inb_t (by omega) (by omega)) ?_
    refine Tot_tcs (fun ht => ?_) (fun k5 ht => ⟨hs_u2.1.2.2.2.1 _ _ _ ht, ?_⟩)
    · exact tGX8_ask_5_18 u u2 hs_u2
    · have hT_k5 := hs_u2.1.2.2.2.1 _ _ _ ht
      exact tGX8_ask_5_18a u k5 u2 hs_u2 (by assumption)

def mdX11_say_0 : MD := ([10, 11, 14, 15, 16, 17, 18], [16, 17, 22, 23, 27, 28, 38, 39, 41], [], [])
abbrev qX11_say_0 (u : SX) (q : Int32 × SX) : Prop := StX mdX11_say_0 u q.2 ∧ ((-1) ≤ q.1.toInt ∧ q.1.toInt ≤ 120) ∧ (True)
set_option maxHeartbeats 400000 in
set_option maxRecDepth 10000 in
theorem tGX11_say_0_105 (u0 : SX) (g15 : Int) {k15 : Int32 → Int32 → SX → Option (Int32 × SX)} (hk15 : ∀ (z1 : Int32) (z2 : Int32) (u : SX), (StX mdX11_say_0 u0 u) → (0 ≤ z1.toInt ∧ z1.toInt ≤ 5) → (0 ≤ z2.toInt ∧ z2.toInt ≤ 121) → (g15 < z2.toInt) → Tot (k15 z1 z2 u) (qX11_say_0 u0)) (z1 : Int32) (z2 : Int32) (y0 : Int32) (y1 : Int32) (u : SX) (hs_u : StX mdX11_say_0 u0 u) (h0 : 0 ≤ z1.toInt ∧ z1.toInt ≤ 5) (h1 : 0 ≤ z2.toInt ∧ z2.toInt ≤ 120) (h2 : 2 ≤ y1.toInt ∧ y1.toInt ≤ 2) (h3 : g15 ≤ z2.toInt) : Tot (GX11_say_0_105 k15 z1 z2 y0 y1 u) (qX11_say_0 u0) := by
  unfold GX11_say_0_105
  refine Tot_bind (tfX8_set_5 y1 y0 u hs_u.1 ⟨by omega, by omega⟩) (fun q hq => ?_)
  obtain ⟨r16, u17⟩ := q
  have hc_u17 : StX mdX8_set_5 u u17 := hq.1
  have hs_u17 : StX mdX11_say_0 u0 u17 := StX_tr hs_u hc_u17 (by decide)
  have : 0 ≤ r16.toInt ∧ r16.toInt ≤ 0 := hq.2.1
  refine Tot_bind (tfX3_doneUpTo_10 z2 u17 hs_u17.1 ⟨by omega, by omega⟩) (fun q hq => ?_)
  obtain ⟨r19, u20⟩ := q
  have hc_u20 : StX mdX3_doneUpTo_10 u17 u20 := hq.1
  have hs_u20 : StX mdX11_say_0 u0 u20 := StX_tr hs_u17 hc_u20 (by decide)
  refine Tot_bind (tfX8_set_5 3 r19 u20 hs_u20.1 (by show 0 ≤ (3 : Int) ∧ (3 : Int) ≤ 4; omega)) (fun q hq => ?_)
  obtain ⟨r22, u23⟩ := q
  have hc_u23 : StX mdX8_set_5 u20 u23 := hq.1
  have hs_u23 : StX mdX11_say_0 u0 u23 := StX_tr hs_u20 hc_u23 (by decide)
  have : 0 ≤ r22.toInt ∧ r22.toInt ≤ 0 := hq.2.1
  refine Tot_bind (tfX8_set_5 4 z2 u23 hs_u23.1 (by show 0 ≤ (4 : Int) ∧ (4 : Int) ≤ 4; omega)) (fun q hq => ?_)
  obtain ⟨r25, u26⟩ := q
  have hc_u26 : StX mdX8_set_5 u23 u26 := hq.1
  have hs_u26 : StX mdX11_say_0 u0 u26 := StX_tr hs_u23 hc_u26 (by decide)
  have : 0 ≤ r25.toInt ∧ r25.toInt ≤ 0 := hq.2.1
  refine Tot_bind (tfX8_ask_5 z1 u26 hs_u26.1 ⟨by omega, by omega⟩) (fun q hq => ?_)
  obtain ⟨r28, u29⟩ := q
  have hc_u29 : StX mdX8_ask_5 u26 u29 := hq.1
  have hs_u29 : StX mdX11_say_0 u0 u29 := StX_tr hs_u26 hc_u29 (by decide)
  refine Tot_ite (fun c1353 => ?_) (fun c1353 => ?_)
  · have : r28.toInt = (0 : Int) := eqI c1353
    have : (z2 + 1).toInt = z2.toInt + (1 : Int) := addc_t (by decide) (by omega) (by omega)
    exact hk15 z1 (z2 + 1) u29 hs_u29 ⟨by omega, by omega⟩ ⟨by omega, by omega⟩ (by omega)
  · exact Tot_some ⟨hs_u29, (by show (-1) ≤ z2.toInt ∧ z2.toInt ≤ 120; omega), trivial⟩
set_option maxHeartbeats 400000 in
set_option maxRecDepth 10000 in
theorem tGX11_say_0_82 (u0 : SX) (g15 : Int) {k15 : Int32 → Int32 → SX → Option (Int32 × SX)} (hk15 : ∀ (z1 : Int32) (z2 : Int32) (u : SX), (StX mdX11_say_0 u0 u) → (0 ≤ z1.toInt ∧ z1.toInt ≤ 5) → (0 ≤ z2.toInt ∧ z2.toInt ≤ 121) → (g15 < z2.toInt) → Tot (k15 z1 z2 u) (qX11_say_0 u0)) (z1 : Int32) (z2 : Int32) (z3 : Int32) (y0 : Int32) (y1 : Int32) (u : SX) (hs_u : StX mdX11_say_0 u0 u) (h0 : 0 ≤ z1.toInt ∧ z1.toInt ≤ 5) (h1 : 0 ≤ z2.toInt ∧ z2.toInt ≤ 120) (h2 : 0 ≤ z3.toInt ∧ z3.toInt ≤ 1) (h3 : 1 ≤ y1.toInt ∧ y1.toInt ≤ 1) (h4 : g15 ≤ z2.toInt) : Tot (GX11_say_0_82 k15 z1 z2 z3 y0 y1 u) (qX11_say_0 u0) := by
  unfold GX11_say_0_82
  refine Tot_bind (tfX8_set_5 y1 y0 u hs_u.1 ⟨by omega, by omega⟩) (fun q hq => ?_)
  obtain ⟨r13, u14⟩ := q
  have hc_u14 : StX mdX8_set_5 u u14 := hq.1
  have hs_u14 : StX mdX11_say_0 u0 u14 := StX_tr hs_u hc_u14 (by decide)
  have : 0 ≤ r13.toInt ∧ r13.toInt ≤ 0 := hq.2.1
  refine Tot_ite (fun c1354 => ?_) (fun c1354 => ?_)
  · have : z3.toInt = (0 : Int) := eqI c1354
    exact tGX11_say_0_105 u0 g15 hk15 z1 z2 0 2 u14 hs_u14 ⟨by omega, by omega⟩ ⟨by omega, by omega⟩ (by show 2 ≤ (2 : Int) ∧ (2 : Int) ≤ 2; omega) (by omega)
  · have : ¬ z3.toInt = (0 : Int) := neI c1354
    have : (u14.1 17).toInt = (u.1 17).toInt := congrArg Int32.toInt (hc_u14.2.1 17 (by decide))
    exact tGX11_say_0_105 u0 g15 hk15 z1 z2 (u14.1 17) 2 u14 hs_u14 ⟨by omega, by omega⟩ ⟨by omega, by omega⟩ (by show 2 ≤ (2 : Int) ∧ (2 : Int) ≤ 2; omega) (by omega)
set_option maxHeartbeats 400000 in
set_option maxRecDepth 10000 in
theorem tLX11_say_0_15 (u0 : SX)    : ∀ (n : Nat) (z1 : Int32) (z2 : Int32) (u : SX), (StX mdX11_say_0 u0 u) → (0 ≤ z1.toInt ∧ z1.toInt ≤ 5) → (0 ≤ z2.toInt ∧ z2.toInt ≤ 121) → (121 - z2.toInt < (n : Int)) → Tot (LX11_say_0_15 n z1 z2 u) (qX11_say_0 u0) := by
  intro n
  induction n with
  | zero =>
    intro z1 z2 u hs_u h0 h1 hm
    exfalso
    omega
  | succ n ih =>
    intro z1 z2 u hs_u h0 h1 hm
    rw [LX11_say_0_15]
    have : 0 ≤ (u.1 0).toInt ∧ (u.1 0).toInt ≤ 120 := hs_u.1.1 0
    refine Tot_ite (fun c1355 => ?_) (fun c1355 => ?_)
    · have : (u.1 0).toInt < z2.toInt := ltI c1355
      exact Tot_some ⟨hs_u, (by show (-1) ≤ (-1 : Int) ∧ (-1 : Int) ≤ 120; omega), trivial⟩
    · have : ¬ (u.1 0).toInt < z2.toInt := nltI c1355
      refine Tot_bind (tfX7_recall_7 z2 u hs_u.1 ⟨by omega, by omega⟩) (fun q hq => ?_)
      obtain ⟨r4, u5⟩ := q
      have hc_u5 : StX mdX7_recall_7 u u5 := hq.1
      have hs_u5 : StX mdX11_say_0 u0 u5 := StX_tr hs_u hc_u5 (by decide)
      have : 0 ≤ r4.toInt ∧ r4.toInt ≤ 0 := hq.2.1
      refine Tot_bind (tfX1_compare_8 u5 hs_u5.1) (fun q hq => ?_)
      obtain ⟨r7, u8⟩ := q
      have hc_u8 : StX mdX1_compare_8 u5 u8 := hq.1
      have hs_u8 : StX mdX11_say_0 u0 u8 := StX_tr hs_u5 hc_u8 (by decide)
      have : 0 ≤ r7.toInt ∧ r7.toInt ≤ 1 := hq.2.1
      have : (u8.1 14).toInt = (u5.1 14).toInt := congrArg Int32.toInt (hc_u8.2.1 14 (by decide))
      have : 0 ≤ (u5.1 14).toInt ∧ (u5.1 14).toInt ≤ 80 := hs_u5.1.1 14
      refine Tot_bind (tfX8_set_5 0 (u8.1 14) u8 hs_u8.1 (by show 0 ≤ (0 : Int) ∧ (0 : Int) ≤ 4; omega)) (fun q hq => ?_)
      obtain ⟨r10, u11⟩ := q
      have hc_u11 : StX mdX8_set_5 u8 u11 := hq.1
      have hs_u11 : StX mdX11_say_0 u0 u11 := StX_tr hs_u8 hc_u11 (by decide)
      have : 0 ≤ r10.toInt ∧ r10.toInt ≤ 0 := hq.2.1
      refine Tot_ite (fun c1356 => ?_) (fun c1356 => ?_)
      · have : r7.toInt = (0 : Int) := eqI c1356
        exact tGX11_say_0_82 u0 (z2.toInt) (fun a1357 a1358 w1359 hw1359 p1360 p1361 p1362 => ih a1357 a1358 w1359 hw1359 p1360 p1361 (by omega)) z1 z2 r7 0 1 u11 hs_u11 ⟨by omega, by omega⟩ ⟨by omega, by omega⟩ ⟨by omega, by omega⟩ (by show 1 ≤ (1 : Int) ∧ (1 : Int) ≤ 1; omega) (by omega)
      · have : ¬ r7.toInt = (0 : Int) := neI c1356
        have : (u11.1 18).toInt = (u8.1 18).toInt := congrArg Int32.toInt (hc_u11.2.1 18 (by decide))
        have : (u11.1 17).toInt = (u8.1 17).toInt := congrArg Int32.toInt (hc_u11.2.1 17 (by decide))
        exact tGX11_say_0_82 u0 (z2.toInt) (fun a1363 a1364 w1365 hw1365 p1366 p1367 p1368 => ih a1363 a1364 w1365 hw1365 p1366 p1367 (by omega)) z1 z2 r7 ((u11.1 18) - (u11.1 17)) 1 u11 hs_u11 ⟨by omega, by omega⟩ ⟨by omega, by omega⟩ ⟨by omega, by omega⟩ (by show 1 ≤ (1 : Int) ∧ (1 : Int) ≤ 1; omega) (by omega)
set_option maxHeartbeats 400000 in
set_option maxRecDepth 10000 in
theorem tfX11_say_0 (x1 : Int32) (u : SX) (hI : IX u)  : Tot (fX11_say_0 x1 u) (qX11_say_0 u) := by
  unfold fX11_say_0
  have hs_u : StX mdX11_say_0 u u := StX_rf hI
  refine Tot_bind (tfX8_has_5 x1 u hs_u.1) (fun q hq => ?_)
  obtain ⟨r1, u2⟩ := q
  have hc_u2 : StX mdX8_has_5 u u2 := hq.1
  have hs_u2 : StX mdX11_say_0 u u2 := StX_tr hs_u hc_u2 (by decide)
  have : 0 ≤ r1.toInt ∧ r1.toInt ≤ 1 := hq.2.1
  have : 0 ≤ (u.1 7).toInt ∧ (u.1 7).toInt ≤ 6 := hs_u.1.1 7
  have : r1.toInt ≠ 0 → ((0 : Int) ≤ x1.toInt ∧ x1.toInt < (u.1 7).toInt) := hq.2.2
  refine Tot_ite (fun c1369 => ?_) (fun c1369 => ?_)
  · have : r1.toInt = (0 : Int) := eqI c1369
    exact Tot_some ⟨hs_u2, (by show (-1) ≤ (-1 : Int) ∧ (-1 : Int) ≤ 120; omega), trivial⟩
  · have : ¬ r1.toInt = (0 : Int) := neI c1369
    exact tLX11_say_0_15 u 5000 x1 0 u2 hs_u2 ⟨by omega, by omega⟩ (by show 0 ≤ (0 : Int) ∧ (0 : Int) ≤ 121; omega) (by show 121 - (0 : Int) < ((5000 : Nat) : Int); omega)

def mdX11_count_0 : MD := ([], [], [], [])
abbrev qX11_count_0 (u : SX) (q : Int32 × SX) : Prop := StX mdX11_count_0 u q.2 ∧ (True) ∧ (True)
set_option maxHeartbeats 400000 in
set_option maxRecDepth 10000 in
theorem tfX11_count_0 (x1 : Int32) (u : SX) (hI : IX u)  : Tot (fX11_count_0 x1 u) (qX11_count_0 u) := by
  unfold fX11_count_0
  have hs_u : StX mdX11_count_0 u u := StX_rf hI
  refine Tot_ite (fun c1370 => ?_) (fun c1370 => ?_)
  · have : x1.toInt = (0 : Int) := eqI c1370
    have : 0 ≤ (u.1 0).toInt ∧ (u.1 0).toInt ≤ 120 := hs_u.1.1 0
    exact Tot_some ⟨hs_u, trivial, trivial⟩
  · refine Tot_ite (fun c1371 => ?_) (fun c1371 => ?_)
    · have : x1.toInt = (1 : Int) := eqI c1371
      have : 0 ≤ (u.1 5).toInt ∧ (u.1 5).toInt ≤ 12 := hs_u.1.1 5
      exact Tot_some ⟨hs_u, trivial, trivial⟩
    · refine Tot_ite (fun c1372 => ?_) (fun c1372 => ?_)
      · have : x1.toInt = (2 : Int) := eqI c1372
        have : 0 ≤ (u.1 6).toInt ∧ (u.1 6).toInt ≤ 6 := hs_u.1.1 6
        exact Tot_some ⟨hs_u, trivial, trivial⟩
      · refine Tot_ite (fun c1373 => ?_) (fun c1373 => ?_)
        · have : x1.toInt = (3 : Int) := eqI c1373
          have : 0 ≤ (u.1 7).toInt ∧ (u.1 7).toInt ≤ 6 := hs_u.1.1 7
          exact Tot_some ⟨hs_u, trivial, trivial⟩
        · refine Tot_ite (fun c1374 => ?_) (fun c1374 => ?_)
          · have : x1.toInt = (4 : Int) := eqI c1374
            have : 0 ≤ (u.1 8).toInt ∧ (u.1 8).toInt ≤ 12 := hs_u.1.1 8
            exact Tot_some ⟨hs_u, trivial, trivial⟩
          · refine Tot_ite (fun c1375 => ?_) (fun c1375 => ?_)
            · have : x1.toInt = (5 : Int) := eqI c1375
              have : 0 ≤ (u.1 13).toInt ∧ (u.1 13).toInt ≤ 80 := hs_u.1.1 13
              exact Tot_some ⟨hs_u, trivial, trivial⟩
            · refine Tot_ite (fun c1376 => ?_) (fun c1376 => ?_)
              · have : x1.toInt = (6 : Int) := eqI c1376
                have : 0 ≤ (u.1 29).toInt ∧ (u.1 29).toInt ≤ 10 := hs_u.1.1 29
                exact Tot_some ⟨hs_u, trivial, trivial⟩
              · refine Tot_ite (fun c1377 => ?_) (fun c1377 => ?_)
                · have : x1.toInt = (7 : Int) := eqI c1377
                  have : 0 ≤ (u.1 0).toInt ∧ (u.1 0).toInt ≤ 120 := hs_u.1.1 0
                  refine Tot_bind (tfX3_doneUpTo_10 (u.1 0) u hs_u.1 ⟨by omega, by omega⟩) (fun q hq => ?_)
                  obtain ⟨r1, u2⟩ := q
                  have hc_u2 : StX mdX3_doneUpTo_10 u u2 := hq.1
                  have hs_u2 : StX mdX11_count_0 u u2 := StX_tr hs_u hc_u2 (by decide)
                  exact Tot_some ⟨hs_u2, trivial, trivial⟩
                · refine Tot_ite (fun c1378 => ?_) (fun c1378 => ?_)
                  · have : x1.toInt = (8 : Int) := eqI c1378
                    have : 0 ≤ (u.1 9).toInt ∧ (u.1 9).toInt ≤ 20 := hs_u.1.1 9
                    exact Tot_some ⟨hs_u, trivial, trivial⟩
                  · refine Tot_ite (fun c1379 => ?_) (fun c1379 => ?_)
                    · have : x1.toInt = (9 : Int) := eqI c1379
                      have : 0 ≤ (u.1 35).toInt ∧ (u.1 35).toInt ≤ 8 := hs_u.1.1 35
                      exact Tot_some ⟨hs_u, trivial, trivial⟩
                    · refine Tot_ite (fun c1380 => ?_) (fun c1380 => ?_)
                      · have : x1.toInt = (10 : Int) := eqI c1380
                        have : 0 ≤ (u.1 36).toInt ∧ (u.1 36).toInt ≤ 40 := hs_u.1.1 36
                        exact Tot_some ⟨hs_u, trivial, trivial⟩
                      · refine Tot_ite (fun c1381 => ?_) (fun c1381 => ?_)
                        · have : x1.toInt = (11 : Int) := eqI c1381
                          have : 0 ≤ (u.1 37).toInt ∧ (u.1 37).toInt ≤ 20 := hs_u.1.1 37
                          exact Tot_some ⟨hs_u, trivial, trivial⟩
                        · refine Tot_ite (fun c1382 => ?_) (fun c1382 => ?_)
                          · have : x1.toInt = (12 : Int) := eqI c1382
                            have : 0 ≤ (u.1 38).toInt ∧ (u.1 38).toInt ≤ 60 := hs_u.1.1 38
                            exact Tot_some ⟨hs_u, trivial, trivial⟩
                          · refine Tot_ite (fun c1383 => ?_) (fun c1383 => ?_)
                            · have : x1.toInt = (13 : Int) := eqI c1383
                              have : 0 ≤ (u.1 1).toInt ∧ (u.1 1).toInt ≤ 120 := hs_u.1.1 1
                              exact Tot_some ⟨hs_u, trivial, trivial⟩
                            · exact Tot_some ⟨hs_u, trivial, trivial⟩
