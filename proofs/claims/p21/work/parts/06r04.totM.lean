def mdX12_layFits_0 : MD := ([2, 4, 5, 6, 7, 8, 9, 10, 11, 16, 17], [5, 16, 17, 18, 34], [], [])
abbrev qX12_layFits_0 (u : SX) (q : Int32 × SX) : Prop := StM mdX12_layFits_0 u q.2 ∧ (0 ≤ q.1.toInt ∧ q.1.toInt ≤ 0) ∧ (True)
set_option maxHeartbeats 400000 in
set_option maxRecDepth 10000 in
theorem tLX12_layFits_0_2 (u0 : SX)  {k21 : Int32 → Int32 → SX → Option (Int32 × SX)} (hk21 : ∀ (z1 : Int32) (z2 : Int32) (u : SX), (StM mdX12_layFits_0 u0 u) → (0 ≤ z1.toInt ∧ z1.toInt ≤ 11) → (0 ≤ z2.toInt ∧ z2.toInt ≤ 120) → Tot (k21 z1 z2 u) (qX12_layFits_0 u0)) : ∀ (n : Nat) (z1 : Int32) (z2 : Int32) (z3 : Int32) (u : SX), (StM mdX12_layFits_0 u0 u) → (0 ≤ z1.toInt ∧ z1.toInt ≤ 11) → (0 ≤ z2.toInt ∧ z2.toInt ≤ 120) → (0 ≤ z3.toInt ∧ z3.toInt ≤ 61) → (61 - z3.toInt < (n : Int)) → Tot (LX12_layFits_0_2 k21 n z1 z2 z3 u) (qX12_layFits_0 u0) := by
  intro n
  induction n with
  | zero =>
    intro z1 z2 z3 u hs_u h0 h1 h2 hm
    exfalso
    omega
  | succ n ih =>
    intro z1 z2 z3 u hs_u h0 h1 h2 hm
    rw [LX12_layFits_0_2]
    refine Tot_ite (fun c840 => ?_) (fun c840 => ?_)
    · have : (61 : Int) ≤ z3.toInt := leI c840
      exact hk21 z1 z2 u hs_u ⟨by omega, by omega⟩ ⟨by omega, by omega⟩
    · have : ¬ (61 : Int) ≤ z3.toInt := nleI c840
      refine Tot_gd (inb_t (by omega) (by omega)) ?_
      have := narz_t 1
      refine Tot_lt (fun u2 e_u2 => ?_)
      have hs_u2 : StM mdX12_layFits_0 u0 u2 := by rw [e_u2]; exact StM_sA hs_u (by decide) (by show 0 ≤ (vp_nar .boolean 1).toInt; omega) (by show (vp_nar .boolean 1).toInt ≤ 1; omega) (by decide)
      have : (z3 + 1).toInt = z3.toInt + (1 : Int) := addc_t (by decide) (by omega) (by omega)
      exact ih z1 z2 (z3 + 1) u2 hs_u2 ⟨by omega, by omega⟩ ⟨by omega, by omega⟩ ⟨by omega, by omega⟩ (by omega)
set_option maxHeartbeats 400000 in
set_option maxRecDepth 10000 in
theorem tGX12_layFits_0_119 (u0 : SX) (g28 : Int) (g58 : Int) {k58 : Int32 → Int32 → Int32 → Int32 → SX → Option (Int32 × SX)} (hk58 : ∀ (z1 : Int32) (z2 : Int32) (z3 : Int32) (z4 : Int32) (u : SX), (StM mdX12_layFits_0 u0 u) → (0 ≤ z1.toInt ∧ z1.toInt ≤ 11) → (0 ≤ z2.toInt ∧ z2.toInt ≤ 120) → (0 ≤ z3.toInt ∧ z3.toInt ≤ 79) → (0 ≤ z4.toInt ∧ z4.toInt ≤ 61) → (g28 ≤ z3.toInt) → (g58 < z4.toInt) → Tot (k58 z1 z2 z3 z4 u) (qX12_layFits_0 u0)) (z1 : Int32) (z2 : Int32) (z3 : Int32) (z4 : Int32) (y0 : Int32) (y1 : Int32) (u : SX) (hs_u : StM mdX12_layFits_0 u0 u) (h0 : 0 ≤ z1.toInt ∧ z1.toInt ≤ 11) (h1 : 0 ≤ z2.toInt ∧ z2.toInt ≤ 120) (h2 : 0 ≤ z3.toInt ∧ z3.toInt ≤ 79) (h3 : 0 ≤ z4.toInt ∧ z4.toInt ≤ 60) (h4 : 0 ≤ y0.toInt ∧ y0.toInt ≤ 1) (h5 : 0 ≤ y1.toInt ∧ y1.toInt ≤ 60) (h6 : g28 ≤ z3.toInt) (h7 : g58 ≤ z4.toInt) : Tot (GX12_layFits_0_119 k58 z1 z2 z3 z4 y0 y1 u) (qX12_layFits_0 u0) := by
  unfold GX12_layFits_0_119
  refine Tot_gd (inb_t (by omega) (by omega)) ?_
  have := narz_t y0
  refine Tot_lt (fun u19 e_u19 => ?_)
  have hs_u19 : StM mdX12_layFits_0 u0 u19 := by rw [e_u19]; exact StM_sA hs_u (by decide) (by show 0 ≤ (vp_nar .boolean y0).toInt; omega) (by show (vp_nar .boolean y0).toInt ≤ 1; omega) (by decide)
  have : (z4 + 1).toInt = z4.toInt + (1 : Int) := addc_t (by decide) (by omega) (by omega)
  exact hk58 z1 z2 z3 (z4 + 1) u19 hs_u19 ⟨by omega, by omega⟩ ⟨by omega, by omega⟩ ⟨by omega, by omega⟩ ⟨by omega, by omega⟩ (by omega) (by omega)
set_option maxHeartbeats 400000 in
set_option maxRecDepth 10000 in
theorem tGX12_layFits_0_118 (u0 : SX) (g28 : Int) (g58 : Int) {k58 : Int32 → Int32 → Int32 → Int32 → SX → Option (Int32 × SX)} (hk58 : ∀ (z1 : Int32) (z2 : Int32) (z3 : Int32) (z4 : Int32) (u : SX), (StM mdX12_layFits_0 u0 u) → (0 ≤ z1.toInt ∧ z1.toInt ≤ 11) → (0 ≤ z2.toInt ∧ z2.toInt ≤ 120) → (0 ≤ z3.toInt ∧ z3.toInt ≤ 79) → (0 ≤ z4.toInt ∧ z4.toInt ≤ 61) → (g28 ≤ z3.toInt) → (g58 < z4.toInt) → Tot (k58 z1 z2 z3 z4 u) (qX12_layFits_0 u0)) (z1 : Int32) (z2 : Int32) (z3 : Int32) (z4 : Int32) (y0 : Int32) (u : SX) (hs_u : StM mdX12_layFits_0 u0 u) (h0 : 0 ≤ z1.toInt ∧ z1.toInt ≤ 11) (h1 : 0 ≤ z2.toInt ∧ z2.toInt ≤ 120) (h2 : 0 ≤ z3.toInt ∧ z3.toInt ≤ 79) (h3 : 0 ≤ z4.toInt ∧ z4.toInt ≤ 60) (h4 : 0 ≤ y0.toInt ∧ y0.toInt ≤ 60) (h5 : g28 ≤ z3.toInt) (h6 : g58 ≤ z4.toInt) : Tot (GX12_layFits_0_118 k58 z1 z2 z3 z4 y0 u) (qX12_layFits_0 u0) := by
  unfold GX12_layFits_0_118
  exact tGX12_layFits_0_119 u0 g28 g58 hk58 z1 z2 z3 z4 0 y0 u hs_u ⟨by omega, by omega⟩ ⟨by omega, by omega⟩ ⟨by omega, by omega⟩ ⟨by omega, by omega⟩ (by show 0 ≤ (0 : Int) ∧ (0 : Int) ≤ 1; omega) ⟨by omega, by omega⟩ (by omega) (by omega)
set_option maxHeartbeats 400000 in
set_option maxRecDepth 10000 in
theorem tLX12_layFits_0_58 (u0 : SX) (g28 : Int) {k126 : Int32 → Int32 → Int32 → SX → Option (Int32 × SX)} (hk126 : ∀ (z1 : Int32) (z2 : Int32) (z3 : Int32) (u : SX), (StM mdX12_layFits_0 u0 u) → (0 ≤ z1.toInt ∧ z1.toInt ≤ 11) → (0 ≤ z2.toInt ∧ z2.toInt ≤ 120) → (0 ≤ z3.toInt ∧ z3.toInt ≤ 79) → (g28 ≤ z3.toInt) → Tot (k126 z1 z2 z3 u) (qX12_layFits_0 u0)) : ∀ (n : Nat) (z1 : Int32) (z2 : Int32) (z3 : Int32) (z4 : Int32) (u : SX), (StM mdX12_layFits_0 u0 u) → (0 ≤ z1.toInt ∧ z1.toInt ≤ 11) → (0 ≤ z2.toInt ∧ z2.toInt ≤ 120) → (0 ≤ z3.toInt ∧ z3.toInt ≤ 79) → (0 ≤ z4.toInt ∧ z4.toInt ≤ 61) → (g28 ≤ z3.toInt) → (61 - z4.toInt < (n : Int)) → Tot (LX12_layFits_0_58 k126 n z1 z2 z3 z4 u) (qX12_layFits_0 u0) := by
  intro n
  induction n with
  | zero =>
    intro z1 z2 z3 z4 u hs_u h0 h1 h2 h3 h4 hm
    exfalso
    omega
  | succ n ih =>
    intro z1 z2 z3 z4 u hs_u h0 h1 h2 h3 h4 hm
    rw [LX12_layFits_0_58]
    refine Tot_ite (fun c841 => ?_) (fun c841 => ?_)
    · have : (61 : Int) ≤ z4.toInt := leI c841
      exact hk126 z1 z2 z3 u hs_u ⟨by omega, by omega⟩ ⟨by omega, by omega⟩ ⟨by omega, by omega⟩ (by omega)
    · have : ¬ (61 : Int) ≤ z4.toInt := nleI c841
      refine Tot_bind (tfX12_aimOf_0 z3 5 u hs_u.1 ⟨by omega, by omega⟩ (by show 0 ≤ (5 : Int) ∧ (5 : Int) ≤ 5; omega)) (fun q hq => ?_)
      obtain ⟨r11, u12⟩ := q
      have hc_u12 : StM mdX12_aimOf_0 u u12 := hq.1
      have hs_u12 : StM mdX12_layFits_0 u0 u12 := StM_tr hs_u hc_u12 (by decide)
      have : 0 ≤ r11.toInt ∧ r11.toInt ≤ 40 := hq.2.1
      clear hq
      refine Tot_bind (tfX12_guessWorth_0 z1 z4 r11 u12 hs_u12.1 ⟨by omega, by omega⟩ ⟨by omega, by omega⟩) (fun q hq => ?_)
      obtain ⟨r14, u15⟩ := q
      have hc_u15 : StM mdX12_guessWorth_0 u12 u15 := hq.1
      have hs_u15 : StM mdX12_layFits_0 u0 u15 := StM_tr hs_u12 hc_u15 (by decide)
      clear hq
      refine Tot_gd (inb_t (by omega) (by omega)) ?_
      have : 0 ≤ (u15.2.1 34 z4.toNatClampNeg).toInt ∧ (u15.2.1 34 z4.toNatClampNeg).toInt ≤ 1 := hs_u15.1.2.1 34 z4.toNatClampNeg
      refine Tot_ite (fun c842 => ?_) (fun c842 => ?_)
      · have : (u15.2.1 34 z4.toNatClampNeg).toInt = (0 : Int) := eqI c842
        exact tGX12_layFits_0_118 u0 g28 (z4.toInt) (fun a843 a844 a845 a846 w847 hw847 p848 p849 p850 p851 p852 p853 => ih a843 a844 a845 a846 w847 hw847 p848 p849 p850 p851 p852 (by omega)) z1 z2 z3 z4 z4 u15 hs_u15 ⟨by omega, by omega⟩ ⟨by omega, by omega⟩ ⟨by omega, by omega⟩ ⟨by omega, by omega⟩ ⟨by omega, by omega⟩ (by omega) (by omega)
      · have : ¬ (u15.2.1 34 z4.toNatClampNeg).toInt = (0 : Int) := neI c842
        refine Tot_ite (fun c854 => ?_) (fun c854 => ?_)
        · exact tGX12_layFits_0_118 u0 g28 (z4.toInt) (fun a855 a856 a857 a858 w859 hw859 p860 p861 p862 p863 p864 p865 => ih a855 a856 a857 a858 w859 hw859 p860 p861 p862 p863 p864 (by omega)) z1 z2 z3 z4 z4 u15 hs_u15 ⟨by omega, by omega⟩ ⟨by omega, by omega⟩ ⟨by omega, by omega⟩ ⟨by omega, by omega⟩ ⟨by omega, by omega⟩ (by omega) (by omega)
        · refine Tot_ite (fun c866 => ?_) (fun c866 => ?_)
          · exact tGX12_layFits_0_118 u0 g28 (z4.toInt) (fun a867 a868 a869 a870 w871 hw871 p872 p873 p874 p875 p876 p877 => ih a867 a868 a869 a870 w871 hw871 p872 p873 p874 p875 p876 (by omega)) z1 z2 z3 z4 z4 u15 hs_u15 ⟨by omega, by omega⟩ ⟨by omega, by omega⟩ ⟨by omega, by omega⟩ ⟨by omega, by omega⟩ ⟨by omega, by omega⟩ (by omega) (by omega)
          · exact tGX12_layFits_0_119 u0 g28 (z4.toInt) (fun a878 a879 a880 a881 w882 hw882 p883 p884 p885 p886 p887 p888 => ih a878 a879 a880 a881 w882 hw882 p883 p884 p885 p886 p887 (by omega)) z1 z2 z3 z4 1 z4 u15 hs_u15 ⟨by omega, by omega⟩ ⟨by omega, by omega⟩ ⟨by omega, by omega⟩ ⟨by omega, by omega⟩ (by show 0 ≤ (1 : Int) ∧ (1 : Int) ≤ 1; omega) ⟨by omega, by omega⟩ (by omega) (by omega)
set_option maxHeartbeats 400000 in
set_option maxRecDepth 10000 in
theorem tGX12_layFits_0_126 (u0 : SX) (g28 : Int) {k28 : Int32 → Int32 → Int32 → SX → Option (Int32 × SX)} (hk28 : ∀ (z1 : Int32) (z2 : Int32) (z3 : Int32) (u : SX), (StM mdX12_layFits_0 u0 u) → (0 ≤ z1.toInt ∧ z1.toInt ≤ 11) → (0 ≤ z2.toInt ∧ z2.toInt ≤ 120) → (0 ≤ z3.toInt ∧ z3.toInt ≤ 80) → (g28 < z3.toInt) → Tot (k28 z1 z2 z3 u) (qX12_layFits_0 u0)) (z1 : Int32) (z2 : Int32) (z3 : Int32) (u : SX) (hs_u : StM mdX12_layFits_0 u0 u) (h0 : 0 ≤ z1.toInt ∧ z1.toInt ≤ 11) (h1 : 0 ≤ z2.toInt ∧ z2.toInt ≤ 120) (h2 : 0 ≤ z3.toInt ∧ z3.toInt ≤ 79) (h3 : g28 ≤ z3.toInt) : Tot (GX12_layFits_0_126 k28 z1 z2 z3 u) (qX12_layFits_0 u0) := by
  unfold GX12_layFits_0_126
  have : (z3 + 1).toInt = z3.toInt + (1 : Int) := addc_t (by decide) (by omega) (by omega)
  exact hk28 z1 z2 (z3 + 1) u hs_u ⟨by omega, by omega⟩ ⟨by omega, by omega⟩ ⟨by omega, by omega⟩ (by omega)
set_option maxHeartbeats 400000 in
set_option maxRecDepth 10000 in
theorem tLX12_layFits_0_28 (u0 : SX)    : ∀ (n : Nat) (z1 : Int32) (z2 : Int32) (z3 : Int32) (u : SX), (StM mdX12_layFits_0 u0 u) → (0 ≤ z1.toInt ∧ z1.toInt ≤ 11) → (0 ≤ z2.toInt ∧ z2.toInt ≤ 120) → (0 ≤ z3.toInt ∧ z3.toInt ≤ 80) → (80 - z3.toInt < (n : Int)) → Tot (LX12_layFits_0_28 n z1 z2 z3 u) (qX12_layFits_0 u0) := by
  intro n
  induction n with
  | zero =>
    intro z1 z2 z3 u hs_u h0 h1 h2 hm
    exfalso
    omega
  | succ n ih =>
    intro z1 z2 z3 u hs_u h0 h1 h2 hm
    rw [LX12_layFits_0_28]
    have : 0 ≤ (u.1 15).toInt ∧ (u.1 15).toInt ≤ 80 := hs_u.1.1 15
    refine Tot_ite (fun c889 => ?_) (fun c889 => ?_)
    · have : (u.1 15).toInt ≤ z3.toInt := leI c889
      exact Tot_some ⟨hs_u, (by show 0 ≤ (0 : Int) ∧ (0 : Int) ≤ 0; omega), trivial⟩
    · have : ¬ (u.1 15).toInt ≤ z3.toInt := nleI c889
      refine Tot_gd (inb_t (by omega) (by omega)) ?_
      have : 0 ≤ (u.2.1 21 z3.toNatClampNeg).toInt ∧ (u.2.1 21 z3.toNatClampNeg).toInt ≤ 120 := hs_u.1.2.1 21 z3.toNatClampNeg
      refine Tot_ite (fun c890 => ?_) (fun c890 => ?_)
      · have : (u.2.1 21 z3.toNatClampNeg).toInt ≤ z2.toInt := leI c890
        refine Tot_bind (tfX12_layLeft_0 z3 z2 u hs_u.1 ⟨by omega, by omega⟩ ⟨by omega, by omega⟩) (fun q hq => ?_)
        obtain ⟨r8, u9⟩ := q
        have hc_u9 : StM mdX12_layLeft_0 u u9 := hq.1
        have hs_u9 : StM mdX12_layFits_0 u0 u9 := StM_tr hs_u hc_u9 (by decide)
        have : 0 ≤ r8.toInt ∧ r8.toInt ≤ 0 := hq.2.1
        clear hq
        exact tLX12_layFits_0_58 u0 (z3.toInt) (tGX12_layFits_0_126 u0 (z3.toInt) (fun a891 a892 a893 w894 hw894 p895 p896 p897 p898 => ih a891 a892 a893 w894 hw894 p895 p896 p897 (by omega))) 5000 z1 z2 z3 0 u9 hs_u9 ⟨by omega, by omega⟩ ⟨by omega, by omega⟩ ⟨by omega, by omega⟩ (by show 0 ≤ (0 : Int) ∧ (0 : Int) ≤ 61; omega) (by omega) (by show 61 - (0 : Int) < ((5000 : Nat) : Int); omega)
      · have : ¬ (u.2.1 21 z3.toNatClampNeg).toInt ≤ z2.toInt := nleI c890
        exact tGX12_layFits_0_126 u0 (z3.toInt) (fun a899 a900 a901 w902 hw902 p903 p904 p905 p906 => ih a899 a900 a901 w902 hw902 p903 p904 p905 (by omega)) z1 z2 z3 u hs_u ⟨by omega, by omega⟩ ⟨by omega, by omega⟩ ⟨by omega, by omega⟩ (by omega)
set_option maxHeartbeats 400000 in
set_option maxRecDepth 10000 in
theorem tGX12_layFits_0_21 (u0 : SX)    (z1 : Int32) (z2 : Int32) (u : SX) (hs_u : StM mdX12_layFits_0 u0 u) (h0 : 0 ≤ z1.toInt ∧ z1.toInt ≤ 11) (h1 : 0 ≤ z2.toInt ∧ z2.toInt ≤ 120) : Tot (GX12_layFits_0_21 z1 z2 u) (qX12_layFits_0 u0) := by
  unfold GX12_layFits_0_21
  refine Tot_bind (tfX12_laySpansOf_0 z2 u hs_u.1 ⟨by omega, by omega⟩) (fun q hq => ?_)
  obtain ⟨r4, u5⟩ := q
  have hc_u5 : StM mdX12_laySpansOf_0 u u5 := hq.1
  have hs_u5 : StM mdX12_layFits_0 u0 u5 := StM_tr hs_u hc_u5 (by decide)
  have : 0 ≤ r4.toInt ∧ r4.toInt ≤ 0 := hq.2.1
  clear hq
  exact tLX12_layFits_0_28 u0 5000 z1 z2 0 u5 hs_u5 ⟨by omega, by omega⟩ ⟨by omega, by omega⟩ (by show 0 ≤ (0 : Int) ∧ (0 : Int) ≤ 80; omega) (by show 80 - (0 : Int) < ((5000 : Nat) : Int); omega)
set_option maxHeartbeats 400000 in
set_option maxRecDepth 10000 in
theorem tfX12_layFits_0 (x1 : Int32) (x2 : Int32) (u : SX) (hI : IM u) (h0 : 0 ≤ x1.toInt ∧ x1.toInt ≤ 11) (h1 : 0 ≤ x2.toInt ∧ x2.toInt ≤ 120) : Tot (fX12_layFits_0 x1 x2 u) (qX12_layFits_0 u) := by
  unfold fX12_layFits_0
  have hs_u : StM mdX12_layFits_0 u u := StM_rf hI
  exact tLX12_layFits_0_2 u (tGX12_layFits_0_21 u) 5000 x1 x2 0 u hs_u ⟨by omega, by omega⟩ ⟨by omega, by omega⟩ (by show 0 ≤ (0 : Int) ∧ (0 : Int) ≤ 61; omega) (by show 61 - (0 : Int) < ((5000 : Nat) : Int); omega)

def mdX12_isGuess_0 : MD := ([], [], [], [])
abbrev qX12_isGuess_0 (x1 : Int32) (u : SX) (q : Int32 × SX) : Prop := StM mdX12_isGuess_0 u q.2 ∧ (0 ≤ q.1.toInt ∧ q.1.toInt ≤ 1) ∧ ((q.1.toInt ≠ 0 → ((0 : Int) ≤ x1.toInt ∧ x1.toInt < (12 : Int))))
set_option maxHeartbeats 400000 in
set_option maxRecDepth 10000 in
theorem tfX12_isGuess_0 (x1 : Int32) (u : SX) (hI : IM u)  : Tot (fX12_isGuess_0 x1 u) (qX12_isGuess_0 x1 u) := by
  unfold fX12_isGuess_0
  have hs_u : StM mdX12_isGuess_0 u u := StM_rf hI
  refine Tot_gd (by decide) ?_
  have : 0 ≤ (u.2.1 4 ((1 : Int32)).toNatClampNeg).toInt ∧ (u.2.1 4 ((1 : Int32)).toNatClampNeg).toInt ≤ 12 := hs_u.1.2.1 4 ((1 : Int32)).toNatClampNeg
  have : ((u.2.1 4 ((1 : Int32)).toNatClampNeg) - 1).toInt = (u.2.1 4 ((1 : Int32)).toNatClampNeg).toInt - (1 : Int) := subc_t (by decide) (by omega) (by omega)
  refine Tot_bind (tfX12_isIn x1 0 ((u.2.1 4 ((1 : Int32)).toNatClampNeg) - 1) (by show (-100000) ≤ (0 : Int) ∧ (0 : Int) ≤ 400; omega) ⟨by omega, by omega⟩) (fun r2 hq => ?_)
  have : 0 ≤ r2.toInt ∧ r2.toInt ≤ 1 := hq.1
  have : r2.toInt ≠ 0 → ((0 : Int) ≤ x1.toInt ∧ x1.toInt ≤ ((u.2.1 4 ((1 : Int32)).toNatClampNeg) - 1).toInt) := hq.2
  clear hq
  refine Tot_gd (isB_t (by omega) (by omega)) ?_
  exact Tot_some ⟨hs_u, (by show 0 ≤ r2.toInt ∧ r2.toInt ≤ 1; omega), (by show r2.toInt ≠ 0 → ((0 : Int) ≤ x1.toInt ∧ x1.toInt < (12 : Int)); omega)⟩

def mdX12_fits_0 : MD := ([0, 2, 4, 5, 6, 7, 8, 9, 10, 11, 16, 17], [5, 16, 17, 18, 34], [], [])
abbrev qX12_fits_0 (u : SX) (q : Int32 × SX) : Prop := StM mdX12_fits_0 u q.2 ∧ (True) ∧ (True)
set_option maxHeartbeats 400000 in
set_option maxRecDepth 10000 in
theorem tGX12_fits_0_96 (u0 : SX) (g54 : Int) {k54 : Int32 → Int32 → Int32 → Int32 → Int32 → SX → Option (Int32 × SX)} (hk54 : ∀ (z3 : Int32) (z4 : Int32) (z5 : Int32) (z6 : Int32) (z7 : Int32) (u : SX), (StM mdX12_fits_0 u0 u) → (0 ≤ z3.toInt ∧ z3.toInt ≤ 2) → ((-1) ≤ z4.toInt ∧ z4.toInt ≤ 60) → ((-1) ≤ z5.toInt ∧ z5.toInt ≤ 60) → (0 ≤ z7.toInt ∧ z7.toInt ≤ 61) → (g54 < z7.toInt) → Tot (k54 z3 z4 z5 z6 z7 u) (qX12_fits_0 u0)) (z3 : Int32) (z4 : Int32) (z5 : Int32) (z6 : Int32) (z7 : Int32) (u : SX) (hs_u : StM mdX12_fits_0 u0 u) (h0 : 0 ≤ z3.toInt ∧ z3.toInt ≤ 2) (h1 : (-1) ≤ z4.toInt ∧ z4.toInt ≤ 60) (h2 : (-1) ≤ z5.toInt ∧ z5.toInt ≤ 60) (h3 : 0 ≤ z7.toInt ∧ z7.toInt ≤ 60) (h4 : g54 ≤ z7.toInt) : Tot (GX12_fits_0_96 k54 z3 z4 z5 z6 z7 u) (qX12_fits_0 u0) := by
  unfold GX12_fits_0_96
  have : (z7 + 1).toInt = z7.toInt + (1 : Int) := addc_t (by decide) (by omega) (by omega)
  exact hk54 z3 z4 z5 z6 (z7 + 1) u hs_u ⟨by omega, by omega⟩ ⟨by omega, by omega⟩ ⟨by omega, by omega⟩ ⟨by omega, by omega⟩ (by omega)
set_option maxHeartbeats 400000 in
set_option maxRecDepth 10000 in
theorem tGX12_fits_0_87 (u0 : SX) (g54 : Int) {k54 : Int32 → Int32 → Int32 → Int32 → Int32 → SX → Option (Int32 × SX)} (hk54 : ∀ (z3 : Int32) (z4 : Int32) (z5 : Int32) (z6 : Int32) (z7 : Int32) (u : SX), (StM mdX12_fits_0 u0 u) → (0 ≤ z3.toInt ∧ z3.toInt ≤ 2) → ((-1) ≤ z4.toInt ∧ z4.toInt ≤ 60) → ((-1) ≤ z5.toInt ∧ z5.toInt ≤ 60) → (0 ≤ z7.toInt ∧ z7.toInt ≤ 61) → (g54 < z7.toInt) → Tot (k54 z3 z4 z5 z6 z7 u) (qX12_fits_0 u0)) (z3 : Int32) (z6 : Int32) (z7 : Int32) (y0 : Int32) (u : SX) (hs_u : StM mdX12_fits_0 u0 u) (h0 : 0 ≤ z3.toInt ∧ z3.toInt ≤ 2) (h1 : 0 ≤ z7.toInt ∧ z7.toInt ≤ 60) (h2 : 0 ≤ y0.toInt ∧ y0.toInt ≤ 60) (h3 : g54 ≤ z7.toInt) : Tot (GX12_fits_0_87 k54 z3 z6 z7 y0 u) (qX12_fits_0 u0) := by
  unfold GX12_fits_0_87
  exact tGX12_fits_0_96 u0 g54 hk54 z3 y0 z7 (z6 + 1) z7 u hs_u ⟨by omega, by omega⟩ ⟨by omega, by omega⟩ ⟨by omega, by omega⟩ ⟨by omega, by omega⟩ (by omega)
set_option maxHeartbeats 400000 in
set_option maxRecDepth 10000 in
theorem tLX12_fits_0_54 (u0 : SX)  {k102 : Int32 → Int32 → Int32 → Int32 → SX → Option (Int32 × SX)} (hk102 : ∀ (z3 : Int32) (z4 : Int32) (z5 : Int32) (z6 : Int32) (u : SX), (StM mdX12_fits_0 u0 u) → (0 ≤ z3.toInt ∧ z3.toInt ≤ 2) → ((-1) ≤ z4.toInt ∧ z4.toInt ≤ 60) → ((-1) ≤ z5.toInt ∧ z5.toInt ≤ 60) → Tot (k102 z3 z4 z5 z6 u) (qX12_fits_0 u0)) : ∀ (n : Nat) (z3 : Int32) (z4 : Int32) (z5 : Int32) (z6 : Int32) (z7 : Int32) (u : SX), (StM mdX12_fits_0 u0 u) → (0 ≤ z3.toInt ∧ z3.toInt ≤ 2) → ((-1) ≤ z4.toInt ∧ z4.toInt ≤ 60) → ((-1) ≤ z5.toInt ∧ z5.toInt ≤ 60) → (0 ≤ z7.toInt ∧ z7.toInt ≤ 61) → (61 - z7.toInt < (n : Int)) → Tot (LX12_fits_0_54 k102 n z3 z4 z5 z6 z7 u) (qX12_fits_0 u0) := by
  intro n
  induction n with
  | zero =>
    intro z3 z4 z5 z6 z7 u hs_u h0 h1 h2 h3 hm
    exfalso
    omega
  | succ n ih =>
    intro z3 z4 z5 z6 z7 u hs_u h0 h1 h2 h3 hm
    rw [LX12_fits_0_54]
    refine Tot_ite (fun c907 => ?_) (fun c907 => ?_)
    · have : (61 : Int) ≤ z7.toInt := leI c907
      exact hk102 z3 z4 z5 z6 u hs_u ⟨by omega, by omega⟩ ⟨by omega, by omega⟩ ⟨by omega, by omega⟩
    · have : ¬ (61 : Int) ≤ z7.toInt := nleI c907
      refine Tot_gd (inb_t (by omega) (by omega)) ?_
      have : 0 ≤ (u.2.1 34 z7.toNatClampNeg).toInt ∧ (u.2.1 34 z7.toNatClampNeg).toInt ≤ 1 := hs_u.1.2.1 34 z7.toNatClampNeg
      refine Tot_ite (fun c908 => ?_) (fun c908 => ?_)
      · have : (u.2.1 34 z7.toNatClampNeg).toInt = (0 : Int) := eqI c908
        exact tGX12_fits_0_96 u0 (z7.toInt) (fun a909 a910 a911 a912 a913 w914 hw914 p915 p916 p917 p918 p919 => ih a909 a910 a911 a912 a913 w914 hw914 p915 p916 p917 p918 (by omega)) z3 z4 z5 z6 z7 u hs_u ⟨by omega, by omega⟩ ⟨by omega, by omega⟩ ⟨by omega, by omega⟩ ⟨by omega, by omega⟩ (by omega)
      · have : ¬ (u.2.1 34 z7.toNatClampNeg).toInt = (0 : Int) := neI c908
        refine Tot_ite (fun c920 => ?_) (fun c920 => ?_)
        · have : z4.toInt = (-1 : Int) := eqI c920
          exact tGX12_fits_0_87 u0 (z7.toInt) (fun a921 a922 a923 a924 a925 w926 hw926 p927 p928 p929 p930 p931 => ih a921 a922 a923 a924 a925 w926 hw926 p927 p928 p929 p930 (by omega)) z3 z6 z7 z7 u hs_u ⟨by omega, by omega⟩ ⟨by omega, by omega⟩ ⟨by omega, by omega⟩ (by omega)
        · have : ¬ z4.toInt = (-1 : Int) := neI c920
          exact tGX12_fits_0_87 u0 (z7.toInt) (fun a932 a933 a934 a935 a936 w937 hw937 p938 p939 p940 p941 p942 => ih a932 a933 a934 a935 a936 w937 hw937 p938 p939 p940 p941 (by omega)) z3 z6 z7 z4 u hs_u ⟨by omega, by omega⟩ ⟨by omega, by omega⟩ ⟨by omega, by omega⟩ (by omega)
set_option maxHeartbeats 400000 in
set_option maxRecDepth 10000 in
theorem tGX12_fits_0_102 (u0 : SX)    (z3 : Int32) (z4 : Int32) (z5 : Int32) (z6 : Int32) (u : SX) (hs_u : StM mdX12_fits_0 u0 u) (h0 : 0 ≤ z3.toInt ∧ z3.toInt ≤ 2) (h1 : (-1) ≤ z4.toInt ∧ z4.toInt ≤ 60) (h2 : (-1) ≤ z5.toInt ∧ z5.toInt ≤ 60) : Tot (GX12_fits_0_102 z3 z4 z5 z6 u) (qX12_fits_0 u0) := by
  unfold GX12_fits_0_102
  refine Tot_ite (fun c943 => ?_) (fun c943 => ?_)
  · have : z3.toInt = (0 : Int) := eqI c943
    exact Tot_some ⟨hs_u, trivial, trivial⟩
  · have : ¬ z3.toInt = (0 : Int) := neI c943
    refine Tot_ite (fun c944 => ?_) (fun c944 => ?_)
    · have : z3.toInt = (1 : Int) := eqI c944
      exact Tot_some ⟨hs_u, trivial, trivial⟩
    · have : ¬ z3.toInt = (1 : Int) := neI c944
      exact Tot_some ⟨hs_u, trivial, trivial⟩
set_option maxHeartbeats 400000 in
set_option maxRecDepth 10000 in
theorem tfX12_fits_0 (x1 : Int32) (x2 : Int32) (x3 : Int32) (u : SX) (hI : IM u)  : Tot (fX12_fits_0 x1 x2 x3 u) (qX12_fits_0 u) := by
  unfold fX12_fits_0
  have hs_u : StM mdX12_fits_0 u u := StM_rf hI
  refine Tot_lt (fun u1 e_u1 => ?_)
  have hs_u1 : StM mdX12_fits_0 u u1 := by rw [e_u1]; exact StM_sI hs_u (by decide) (by show 0 ≤ (0 : Int); omega) (by show (0 : Int) ≤ 1; omega)
  refine Tot_bind (tfX12_isGuess_0 x1 u1 hs_u1.1) (fun q hq => ?_)
  obtain ⟨r3, u4⟩ := q
  have hc_u4 : StM mdX12_isGuess_0 u1 u4 := hq.1
  have hs_u4 : StM mdX12_fits_0 u u4 := StM_tr hs_u1 hc_u4 (by decide)
  have : 0 ≤ r3.toInt ∧ r3.toInt ≤ 1 := hq.2.1
  have : r3.toInt ≠ 0 → ((0 : Int) ≤ x1.toInt ∧ x1.toInt < (12 : Int)) := hq.2.2
  clear hq
  refine Tot_ite (fun c945 => ?_) (fun c945 => ?_)
  · have : r3.toInt = (0 : Int) := eqI c945
    exact Tot_some ⟨hs_u4, trivial, trivial⟩
  · have : ¬ r3.toInt = (0 : Int) := neI c945
    have : (u4.1 1).toInt = (u1.1 1).toInt := congrArg Int32.toInt (hc_u4.2.1 1 (by decide))
    have : (u1.1 1).toInt = (u.1 1).toInt := by rw [e_u1]; rfl
    have : 0 ≤ (u.1 1).toInt ∧ (u.1 1).toInt ≤ 120 := hs_u.1.1 1
    refine Tot_bind (tfX12_isIn x2 0 (u4.1 1) (by show (-100000) ≤ (0 : Int) ∧ (0 : Int) ≤ 400; omega) ⟨by omega, by omega⟩) (fun r6 hq => ?_)
    have : 0 ≤ r6.toInt ∧ r6.toInt ≤ 1 := hq.1
    have : r6.toInt ≠ 0 → ((0 : Int) ≤ x2.toInt ∧ x2.toInt ≤ (u4.1 1).toInt) := hq.2
    clear hq
    refine Tot_ite (fun c946 => ?_) (fun c946 => ?_)
    · have : r6.toInt = (0 : Int) := eqI c946
      exact Tot_some ⟨hs_u4, trivial, trivial⟩
    · have : ¬ r6.toInt = (0 : Int) := neI c946
      refine Tot_bind (tfX12_isIn x3 0 2 (by show (-100000) ≤ (0 : Int) ∧ (0 : Int) ≤ 400; omega) (by show (-1) ≤ (2 : Int) ∧ (2 : Int) ≤ 100000; omega)) (fun r9 hq => ?_)
      have : 0 ≤ r9.toInt ∧ r9.toInt ≤ 1 := hq.1
      have : r9.toInt ≠ 0 → ((0 : Int) ≤ x3.toInt ∧ x3.toInt ≤ (2 : Int)) := hq.2
      clear hq
      refine Tot_ite (fun c947 => ?_) (fun c947 => ?_)
      · have : r9.toInt = (0 : Int) := eqI c947
        exact Tot_some ⟨hs_u4, trivial, trivial⟩
      · have : ¬ r9.toInt = (0 : Int) := neI c947
        refine Tot_bind (tfX12_layFits_0 x1 x2 u4 hs_u4.1 ⟨by omega, by omega⟩ ⟨by omega, by omega⟩) (fun q hq => ?_)
        obtain ⟨r12, u13⟩ := q
        have hc_u13 : StM mdX12_layFits_0 u4 u13 := hq.1
        have hs_u13 : StM mdX12_fits_0 u u13 := StM_tr hs_u4 hc_u13 (by decide)
        have : 0 ≤ r12.toInt ∧ r12.toInt ≤ 0 := hq.2.1
        clear hq
        exact tLX12_fits_0_54 u (tGX12_fits_0_102 u) 5000 x3 (-1) (-1) 0 0 u13 hs_u13 ⟨by omega, by omega⟩ (by show (-1) ≤ (-1 : Int) ∧ (-1 : Int) ≤ 60; omega) (by show (-1) ≤ (-1 : Int) ∧ (-1 : Int) ≤ 60; omega) (by show 0 ≤ (0 : Int) ∧ (0 : Int) ≤ 61; omega) (by show 61 - (0 : Int) < ((5000 : Nat) : Int); omega)

def mdX12_next_0 : MD := ([0, 2, 4, 5, 6, 7, 8, 9, 10, 11, 16, 17], [5, 16, 17, 18, 34], [], [])
abbrev qX12_next_0 (u : SX) (q : Int32 × SX) : Prop := StM mdX12_next_0 u q.2 ∧ ((-1) ≤ q.1.toInt) ∧ (True)
set_option maxHeartbeats 400000 in
set_option maxRecDepth 10000 in
theorem tGX12_next_0_135 (u0 : SX) (g86 : Int) {k86 : Int32 → Int32 → Int32 → Int32 → Int32 → Int32 → Int32 → Int32 → SX → Option (Int32 × SX)} (hk86 : ∀ (z1 : Int32) (z2 : Int32) (z4 : Int32) (z5 : Int32) (z6 : Int32) (z7 : Int32) (z8 : Int32) (z9 : Int32) (u : SX), (StM mdX12_next_0 u0 u) → (0 ≤ z1.toInt ∧ z1.toInt ≤ 11) → (0 ≤ z2.toInt ∧ z2.toInt ≤ 11) → (0 ≤ z4.toInt ∧ z4.toInt ≤ 1) → (0 ≤ z7.toInt ∧ z7.toInt ≤ 40) → ((-1) ≤ z8.toInt) → (1 ≤ z9.toInt ∧ z9.toInt ≤ 41) → (g86 < z9.toInt) → Tot (k86 z1 z2 z4 z5 z6 z7 z8 z9 u) (qX12_next_0 u0)) (z1 : Int32) (z2 : Int32) (z4 : Int32) (z5 : Int32) (z6 : Int32) (z7 : Int32) (z8 : Int32) (z9 : Int32) (u : SX) (hs_u : StM mdX12_next_0 u0 u) (h0 : 0 ≤ z1.toInt ∧ z1.toInt ≤ 11) (h1 : 0 ≤ z2.toInt ∧ z2.toInt ≤ 11) (h2 : 0 ≤ z4.toInt ∧ z4.toInt ≤ 1) (h3 : 0 ≤ z7.toInt ∧ z7.toInt ≤ 40) (h4 : (-1) ≤ z8.toInt) (h5 : 1 ≤ z9.toInt ∧ z9.toInt ≤ 40) (h6 : g86 ≤ z9.toInt) : Tot (GX12_next_0_135 k86 z1 z2 z4 z5 z6 z7 z8 z9 u) (qX12_next_0 u0) := by
  unfold GX12_next_0_135
  have : (z9 + 1).toInt = z9.toInt + (1 : Int) := addc_t (by decide) (by omega) (by omega)
  exact hk86 z1 z2 z4 z5 z6 z7 z8 (z9 + 1) u hs_u ⟨by omega, by omega⟩ ⟨by omega, by omega⟩ ⟨by omega, by omega⟩ ⟨by omega, by omega⟩ (by omega) ⟨by omega, by omega⟩ (by omega)
set_option maxHeartbeats 400000 in
set_option maxRecDepth 10000 in
theorem tLX12_next_0_86 (u0 : SX)  {k141 : Int32 → Int32 → Int32 → SX → Option (Int32 × SX)} (hk141 : ∀ (z4 : Int32) (z7 : Int32) (z8 : Int32) (u : SX), (StM mdX12_next_0 u0 u) → (0 ≤ z4.toInt ∧ z4.toInt ≤ 1) → (0 ≤ z7.toInt ∧ z7.toInt ≤ 40) → ((-1) ≤ z8.toInt) → Tot (k141 z4 z7 z8 u) (qX12_next_0 u0)) : ∀ (n : Nat) (z1 : Int32) (z2 : Int32) (z4 : Int32) (z5 : Int32) (z6 : Int32) (z7 : Int32) (z8 : Int32) (z9 : Int32) (u : SX), (StM mdX12_next_0 u0 u) → (0 ≤ z1.toInt ∧ z1.toInt ≤ 11) → (0 ≤ z2.toInt ∧ z2.toInt ≤ 11) → (0 ≤ z4.toInt ∧ z4.toInt ≤ 1) → (0 ≤ z7.toInt ∧ z7.toInt ≤ 40) → ((-1) ≤ z8.toInt) → (1 ≤ z9.toInt ∧ z9.toInt ≤ 41) → (41 - z9.toInt < (n : Int)) → Tot (LX12_next_0_86 k141 n z1 z2 z4 z5 z6 z7 z8 z9 u) (qX12_next_0 u0) := by
  intro n
  induction n with
  | zero =>
    intro z1 z2 z4 z5 z6 z7 z8 z9 u hs_u h0 h1 h2 h3 h4 h5 hm
    exfalso
    omega
  | succ n ih =>
    intro z1 z2 z4 z5 z6 z7 z8 z9 u hs_u h0 h1 h2 h3 h4 h5 hm
    rw [LX12_next_0_86]
    refine Tot_ite (fun c948 => ?_) (fun c948 => ?_)
    · have : (40 : Int) < z9.toInt := ltI c948
      exact hk141 z4 z7 z8 u hs_u ⟨by omega, by omega⟩ ⟨by omega, by omega⟩ (by omega)
    · have : ¬ (40 : Int) < z9.toInt := nltI c948
      refine Tot_bind (tfX12_guessWorth_0 z1 z5 z9 u hs_u.1 ⟨by omega, by omega⟩ ⟨by omega, by omega⟩) (fun q hq => ?_)
      obtain ⟨r21, u22⟩ := q
      have hc_u22 : StM mdX12_guessWorth_0 u u22 := hq.1
      have hs_u22 : StM mdX12_next_0 u0 u22 := StM_tr hs_u hc_u22 (by decide)
      clear hq
      refine Tot_bind (tfX12_guessWorth_0 z2 z6 z9 u22 hs_u22.1 ⟨by omega, by omega⟩ ⟨by omega, by omega⟩) (fun q hq => ?_)
      obtain ⟨r24, u25⟩ := q
      have hc_u25 : StM mdX12_guessWorth_0 u22 u25 := hq.1
      have hs_u25 : StM mdX12_next_0 u0 u25 := StM_tr hs_u22 hc_u25 (by decide)
      clear hq
      have : ((0 : Int) ≤ (r21 - r24).toInt ∧ (if 0 ≤ (r21 - r24) then (r21 - r24) else (0 - (r21 - r24))).toInt = (r21 - r24).toInt) ∨ (¬ (0 : Int) ≤ (r21 - r24).toInt ∧ (if 0 ≤ (r21 - r24) then (r21 - r24) else (0 - (r21 - r24))).toInt = (0 - (r21 - r24)).toInt) := ite_le_t (x := 0) (y := (r21 - r24)) (p := (r21 - r24)) (q := (0 - (r21 - r24)))
      refine Tot_lt (fun v27 e_v27 => ?_)
      refine Tot_ite (fun c949 => ?_) (fun c949 => ?_)
      · have : z8.toInt < v27.toInt := ltI c949
        exact tGX12_next_0_135 u0 (z9.toInt) (fun a950 a951 a952 a953 a954 a955 a956 a957 w958 hw958 p959 p960 p961 p962 p963 p964 p965 => ih a950 a951 a952 a953 a954 a955 a956 a957 w958 hw958 p959 p960 p961 p962 p963 p964 (by omega)) z1 z2 z4 z5 z6 z9 v27 z9 u25 hs_u25 ⟨by omega, by omega⟩ ⟨by omega, by omega⟩ ⟨by omega, by omega⟩ ⟨by omega, by omega⟩ (by omega) ⟨by omega, by omega⟩ (by omega)
      · have : ¬ z8.toInt < v27.toInt := nltI c949
        exact tGX12_next_0_135 u0 (z9.toInt) (fun a966 a967 a968 a969 a970 a971 a972 a973 w974 hw974 p975 p976 p977 p978 p979 p980 p981 => ih a966 a967 a968 a969 a970 a971 a972 a973 w974 hw974 p975 p976 p977 p978 p979 p980 (by omega)) z1 z2 z4 z5 z6 z7 z8 z9 u25 hs_u25 ⟨by omega, by omega⟩ ⟨by omega, by omega⟩ ⟨by omega, by omega⟩ ⟨by omega, by omega⟩ (by omega) ⟨by omega, by omega⟩ (by omega)
set_option maxHeartbeats 400000 in
set_option maxRecDepth 10000 in
theorem tGX12_next_0_141 (u0 : SX)    (z4 : Int32) (z7 : Int32) (z8 : Int32) (u : SX) (hs_u : StM mdX12_next_0 u0 u) (h0 : 0 ≤ z4.toInt ∧ z4.toInt ≤ 1) (h1 : 0 ≤ z7.toInt ∧ z7.toInt ≤ 40) (h2 : (-1) ≤ z8.toInt) : Tot (GX12_next_0_141 z4 z7 z8 u) (qX12_next_0 u0) := by
  unfold GX12_next_0_141
  refine Tot_ite (fun c982 => ?_) (fun c982 => ?_)
  · have : z4.toInt = (0 : Int) := eqI c982
    exact Tot_some ⟨hs_u, (by show (-1) ≤ z7.toInt; omega), trivial⟩
  · have : ¬ z4.toInt = (0 : Int) := neI c982
    exact Tot_some ⟨hs_u, (by show (-1) ≤ z8.toInt; omega), trivial⟩
set_option maxHeartbeats 400000 in
set_option maxRecDepth 10000 in
theorem tfX12_next_0 (x1 : Int32) (x2 : Int32) (x3 : Int32) (x4 : Int32) (u : SX) (hI : IM u)  : Tot (fX12_next_0 x1 x2 x3 x4 u) (qX12_next_0 u) := by
  unfold fX12_next_0
  have hs_u : StM mdX12_next_0 u u := StM_rf hI
  refine Tot_lt (fun u1 e_u1 => ?_)
  have hs_u1 : StM mdX12_next_0 u u1 := by rw [e_u1]; exact StM_sI hs_u (by decide) (by show 0 ≤ (0 : Int); omega) (by show (0 : Int) ≤ 1; omega)
  refine Tot_bind (tfX12_isGuess_0 x1 u1 hs_u1.1) (fun q hq => ?_)
  obtain ⟨r3, u4⟩ := q
  have hc_u4 : StM mdX12_isGuess_0 u1 u4 := hq.1
  have hs_u4 : StM mdX12_next_0 u u4 := StM_tr hs_u1 hc_u4 (by decide)
  have : 0 ≤ r3.toInt ∧ r3.toInt ≤ 1 := hq.2.1
  have : r3.toInt ≠ 0 → ((0 : Int) ≤ x1.toInt ∧ x1.toInt < (12 : Int)) := hq.2.2
  clear hq
  refine Tot_ite (fun c983 => ?_) (fun c983 => ?_)
  · have : r3.toInt = (0 : Int) := eqI c983
    exact Tot_some ⟨hs_u4, (by show (-1) ≤ (-1 : Int); omega), trivial⟩
  · have : ¬ r3.toInt = (0 : Int) := neI c983
    refine Tot_bind (tfX12_isGuess_0 x2 u4 hs_u4.1) (fun q hq => ?_)
    obtain ⟨r6, u7⟩ := q
    have hc_u7 : StM mdX12_isGuess_0 u4 u7 := hq.1
    have hs_u7 : StM mdX12_next_0 u u7 := StM_tr hs_u4 hc_u7 (by decide)
    have : 0 ≤ r6.toInt ∧ r6.toInt ≤ 1 := hq.2.1
    have : r6.toInt ≠ 0 → ((0 : Int) ≤ x2.toInt ∧ x2.toInt < (12 : Int)) := hq.2.2
    clear hq
    refine Tot_ite (fun c984 => ?_) (fun c984 => ?_)
    · have : r6.toInt = (0 : Int) := eqI c984
      exact Tot_some ⟨hs_u7, (by show (-1) ≤ (-1 : Int); omega), trivial⟩
    · have : ¬ r6.toInt = (0 : Int) := neI c984
      have : (u7.1 1).toInt = (u4.1 1).toInt := congrArg Int32.toInt (hc_u7.2.1 1 (by decide))
      have : (u4.1 1).toInt = (u1.1 1).toInt := congrArg Int32.toInt (hc_u4.2.1 1 (by decide))
      have : (u1.1 1).toInt = (u.1 1).toInt := by rw [e_u1]; rfl
      have : 0 ≤ (u.1 1).toInt ∧ (u.1 1).toInt ≤ 120 := hs_u.1.1 1
      refine Tot_bind (tfX12_isIn x3 0 (u7.1 1) (by show (-100000) ≤ (0 : Int) ∧ (0 : Int) ≤ 400; omega) ⟨by omega, by omega⟩) (fun r9 hq => ?_)
      have : 0 ≤ r9.toInt ∧ r9.toInt ≤ 1 := hq.1
      have : r9.toInt ≠ 0 → ((0 : Int) ≤ x3.toInt ∧ x3.toInt ≤ (u7.1 1).toInt) := hq.2
      clear hq
      refine Tot_ite (fun c985 => ?_) (fun c985 => ?_)
      · have : r9.toInt = (0 : Int) := eqI c985
        exact Tot_some ⟨hs_u7, (by show (-1) ≤ (-1 : Int); omega), trivial⟩
      · have : ¬ r9.toInt = (0 : Int) := neI c985
        refine Tot_bind (tfX12_isIn x4 0 1 (by show (-100000) ≤ (0 : Int) ∧ (0 : Int) ≤ 400; omega) (by show (-1) ≤ (1 : Int) ∧ (1 : Int) ≤ 100000; omega)) (fun r12 hq => ?_)
        have : 0 ≤ r12.toInt ∧ r12.toInt ≤ 1 := hq.1
        have : r12.toInt ≠ 0 → ((0 : Int) ≤ x4.toInt ∧ x4.toInt ≤ (1 : Int)) := hq.2
        clear hq
        refine Tot_ite (fun c986 => ?_) (fun c986 => ?_)
        · have : r12.toInt = (0 : Int) := eqI c986
          exact Tot_some ⟨hs_u7, (by show (-1) ≤ (-1 : Int); omega), trivial⟩
        · have : ¬ r12.toInt = (0 : Int) := neI c986
          refine Tot_bind (tfX12_fits_0 x1 x3 0 u7 hs_u7.1) (fun q hq => ?_)
          obtain ⟨r15, u16⟩ := q
          have hc_u16 : StM mdX12_fits_0 u7 u16 := hq.1
          have hs_u16 : StM mdX12_next_0 u u16 := StM_tr hs_u7 hc_u16 (by decide)
          clear hq
          refine Tot_bind (tfX12_fits_0 x2 x3 0 u16 hs_u16.1) (fun q hq => ?_)
          obtain ⟨r18, u19⟩ := q
          have hc_u19 : StM mdX12_fits_0 u16 u19 := hq.1
          have hs_u19 : StM mdX12_next_0 u u19 := StM_tr hs_u16 hc_u19 (by decide)
          clear hq
          refine Tot_ite (fun c987 => ?_) (fun c987 => ?_)
          · have : r15.toInt = (-1 : Int) := eqI c987
            exact Tot_some ⟨hs_u19, (by show (-1) ≤ (-1 : Int); omega), trivial⟩
          · refine Tot_ite (fun c988 => ?_) (fun c988 => ?_)
            · have : r18.toInt = (-1 : Int) := eqI c988
              exact Tot_some ⟨hs_u19, (by show (-1) ≤ (-1 : Int); omega), trivial⟩
            · exact tLX12_next_0_86 u (tGX12_next_0_141 u) 5000 x1 x2 x4 r15 r18 0 (-1) 1 u19 hs_u19 ⟨by omega, by omega⟩ ⟨by omega, by omega⟩ ⟨by omega, by omega⟩ (by show 0 ≤ (0 : Int) ∧ (0 : Int) ≤ 40; omega) (by show (-1) ≤ (-1 : Int); omega) (by show 1 ≤ (1 : Int) ∧ (1 : Int) ≤ 41; omega) (by show 41 - (1 : Int) < ((5000 : Nat) : Int); omega)

def mdX12_isHouse_0 : MD := ([], [], [], [])
abbrev qX12_isHouse_0 (x1 : Int32) (u : SX) (q : Int32 × SX) : Prop := StM mdX12_isHouse_0 u q.2 ∧ (0 ≤ q.1.toInt ∧ q.1.toInt ≤ 1) ∧ ((q.1.toInt ≠ 0 → ((0 : Int) ≤ x1.toInt ∧ x1.toInt < (u.1 22).toInt)))
set_option maxHeartbeats 400000 in
set_option maxRecDepth 10000 in
theorem tfX12_isHouse_0 (x1 : Int32) (u : SX) (hI : IM u)  : Tot (fX12_isHouse_0 x1 u) (qX12_isHouse_0 x1 u) := by
  unfold fX12_isHouse_0
  have hs_u : StM mdX12_isHouse_0 u u := StM_rf hI
  refine Tot_ite (fun c989 => ?_) (fun c989 => ?_)
  · have : x1.toInt < (0 : Int) := ltI c989
    refine Tot_gd (by decide) ?_
    have : 0 ≤ (u.1 22).toInt ∧ (u.1 22).toInt ≤ 8 := hs_u.1.1 22
    exact Tot_some ⟨hs_u, (by show 0 ≤ (0 : Int) ∧ (0 : Int) ≤ 1; omega), (by show (0 : Int) ≠ 0 → ((0 : Int) ≤ x1.toInt ∧ x1.toInt < (u.1 22).toInt); omega)⟩
  · have : ¬ x1.toInt < (0 : Int) := nltI c989
    have : 0 ≤ (u.1 22).toInt ∧ (u.1 22).toInt ≤ 8 := hs_u.1.1 22
    refine Tot_ite (fun c990 => ?_) (fun c990 => ?_)
    · have : (u.1 22).toInt ≤ x1.toInt := leI c990
      refine Tot_gd (by decide) ?_
      exact Tot_some ⟨hs_u, (by show 0 ≤ (0 : Int) ∧ (0 : Int) ≤ 1; omega), (by show (0 : Int) ≠ 0 → ((0 : Int) ≤ x1.toInt ∧ x1.toInt < (u.1 22).toInt); omega)⟩
    · have : ¬ (u.1 22).toInt ≤ x1.toInt := nleI c990
      refine Tot_gd (by decide) ?_
      exact Tot_some ⟨hs_u, (by show 0 ≤ (1 : Int) ∧ (1 : Int) ≤ 1; omega), (by show (1 : Int) ≠ 0 → ((0 : Int) ≤ x1.toInt ∧ x1.toInt < (u.1 22).toInt); omega)⟩

def mdX12_house_0 : MD := ([0, 22], [], [], [])
abbrev qX12_house_0 (u : SX) (q : Int32 × SX) : Prop := StM mdX12_house_0 u q.2 ∧ ((-1) ≤ q.1.toInt ∧ q.1.toInt ≤ 7) ∧ (True)
set_option maxHeartbeats 400000 in
set_option maxRecDepth 10000 in
theorem tfX12_house_0  (u : SX) (hI : IM u)  : Tot (fX12_house_0  u) (qX12_house_0 u) := by
  unfold fX12_house_0
  have hs_u : StM mdX12_house_0 u u := StM_rf hI
  refine Tot_lt (fun u1 e_u1 => ?_)
  have hs_u1 : StM mdX12_house_0 u u1 := by rw [e_u1]; exact StM_sI hs_u (by decide) (by show 0 ≤ (0 : Int); omega) (by show (0 : Int) ≤ 1; omega)
  have : (u1.1 22).toInt = (u.1 22).toInt := by rw [e_u1]; rfl
  have : 0 ≤ (u.1 22).toInt ∧ (u.1 22).toInt ≤ 8 := hs_u.1.1 22
  refine Tot_ite (fun c991 => ?_) (fun c991 => ?_)
  · have : (u1.1 22).toInt = (8 : Int) := eqI c991
    exact Tot_some ⟨hs_u1, (by show (-1) ≤ (-1 : Int) ∧ (-1 : Int) ≤ 7; omega), trivial⟩
  · have : ¬ (u1.1 22).toInt = (8 : Int) := neI c991
    have : ((u1.1 22) + 1).toInt = (u1.1 22).toInt + (1 : Int) := addc_t (by decide) (by omega) (by omega)
    refine Tot_lt (fun u3 e_u3 => ?_)
    have hs_u3 : StM mdX12_house_0 u u3 := by rw [e_u3]; exact StM_sI hs_u1 (by decide) (by show 0 ≤ ((u1.1 22) + 1).toInt; omega) (by show ((u1.1 22) + 1).toInt ≤ 8; omega)
    have : (u3.1 22).toInt = ((u1.1 22) + 1).toInt := by rw [e_u3]; rfl
    have : ((u3.1 22) - 1).toInt = (u3.1 22).toInt - (1 : Int) := subc_t (by decide) (by omega) (by omega)
    exact Tot_some ⟨hs_u3, (by show (-1) ≤ ((u3.1 22) - 1).toInt ∧ ((u3.1 22) - 1).toInt ≤ 7; omega), trivial⟩

def mdX12_print_0 : MD := ([0, 23, 24], [35, 36, 37, 38], [], [])
abbrev qX12_print_0 (u : SX) (q : Int32 × SX) : Prop := StM mdX12_print_0 u q.2 ∧ ((-1) ≤ q.1.toInt ∧ q.1.toInt ≤ 39) ∧ (True)
set_option maxHeartbeats 400000 in
set_option maxRecDepth 10000 in
theorem tGX12_print_0_148 (u0 : SX)    (z2 : Int32) (u : SX) (hs_u : StM mdX12_print_0 u0 u) (h0 : 0 ≤ z2.toInt ∧ z2.toInt ≤ 1) : Tot (GX12_print_0_148 z2 u) (qX12_print_0 u0) := by
  unfold GX12_print_0_148
  refine Tot_ite (fun c992 => ?_) (fun c992 => ?_)
  · have : z2.toInt = (0 : Int) := eqI c992
    have : 0 ≤ (u.1 23).toInt ∧ (u.1 23).toInt ≤ 40 := hs_u.1.1 23
    have : ((u.1 23) - 1).toInt = (u.1 23).toInt - (1 : Int) := subc_t (by decide) (by omega) (by omega)
    exact Tot_some ⟨hs_u, (by show (-1) ≤ ((u.1 23) - 1).toInt ∧ ((u.1 23) - 1).toInt ≤ 39; omega), trivial⟩
  · have : ¬ z2.toInt = (0 : Int) := neI c992
    have : 0 ≤ (u.1 24).toInt ∧ (u.1 24).toInt ≤ 20 := hs_u.1.1 24
    have : ((u.1 24) - 1).toInt = (u.1 24).toInt - (1 : Int) := subc_t (by decide) (by omega) (by omega)
    exact Tot_some ⟨hs_u, (by show (-1) ≤ ((u.1 24) - 1).toInt ∧ ((u.1 24) - 1).toInt ≤ 39; omega), trivial⟩
set_option maxHeartbeats 400000 in
set_option maxRecDepth 10000 in
theorem tGX12_print_0_83 (u0 : SX)    (z1 : Int32) (z2 : Int32) (z3 : Int32) (z4 : Int32) (y0 : Int32) (u : SX) (hs_u : StM mdX12_print_0 u0 u) (h0 : 0 ≤ z1.toInt ∧ z1.toInt ≤ 7) (h1 : 0 ≤ z2.toInt ∧ z2.toInt ≤ 1) (h2 : (-400) ≤ z3.toInt ∧ z3.toInt ≤ 400) (h3 : (-400) ≤ z4.toInt ∧ z4.toInt ≤ 400) (h4 : 0 ≤ y0.toInt ∧ y0.toInt ≤ 59) (h5 : ((z2.toInt = 0 → (y0.toInt = (u.1 23).toInt ∧ (u.1 23).toInt < 40)) ∧ (z2.toInt ≠ 0 → (y0.toInt = 40 + (u.1 24).toInt ∧ (u.1 24).toInt < 20)))) : Tot (GX12_print_0_83 z1 z2 z3 z4 y0 u) (qX12_print_0 u0) := by
  unfold GX12_print_0_83
  have : 0 ≤ (u.1 23).toInt ∧ (u.1 23).toInt ≤ 40 := hs_u.1.1 23
  have : 0 ≤ (u.1 24).toInt ∧ (u.1 24).toInt ≤ 20 := hs_u.1.1 24
  refine Tot_gd (inb_t (by omega) (by omega)) ?_
  refine Tot_lt (fun u13 e_u13 => ?_)
  have hs_u13 : StM mdX12_print_0 u0 u13 := by rw [e_u13]; exact StM_sA hs_u (by decide) (by show 0 ≤ z1.toInt; omega) (by show z1.toInt ≤ 7; omega) (by decide)
  refine Tot_gd (inb_t (by omega) (by omega)) ?_
  refine Tot_lt (fun u16 e_u16 => ?_)
  have hs_u16 : StM mdX12_print_0 u0 u16 := by rw [e_u16]; exact StM_sA hs_u13 (by decide) (by show (-400) ≤ z3.toInt; omega) (by show z3.toInt ≤ 400; omega) (by decide)
  refine Tot_gd (inb_t (by omega) (by omega)) ?_
  refine Tot_lt (fun u19 e_u19 => ?_)
  have hs_u19 : StM mdX12_print_0 u0 u19 := by rw [e_u19]; exact StM_sA hs_u16 (by decide) (by show (-400) ≤ z4.toInt; omega) (by show z4.toInt ≤ 400; omega) (by decide)
  refine Tot_gd (inb_t (by omega) (by omega)) ?_
  have : (u19.1 1).toInt = (u16.1 1).toInt := by rw [e_u19]; rfl
  have : (u16.1 1).toInt = (u13.1 1).toInt := by rw [e_u16]; rfl
  have : (u13.1 1).toInt = (u.1 1).toInt := by rw [e_u13]; rfl
  have : 0 ≤ (u.1 1).toInt ∧ (u.1 1).toInt ≤ 120 := hs_u.1.1 1
  refine Tot_lt (fun u22 e_u22 => ?_)
  have hs_u22 : StM mdX12_print_0 u0 u22 := by rw [e_u22]; exact StM_sA hs_u19 (by decide) (by show 0 ≤ (u19.1 1).toInt; omega) (by show (u19.1 1).toInt ≤ 120; omega) (by decide)
  refine Tot_ite (fun c993 => ?_) (fun c993 => ?_)
  · have : z2.toInt = (0 : Int) := eqI c993
    have : (u22.1 23).toInt = (u19.1 23).toInt := by rw [e_u22]; rfl
    have : (u19.1 23).toInt = (u16.1 23).toInt := by rw [e_u19]; rfl
    have : (u16.1 23).toInt = (u13.1 23).toInt := by rw [e_u16]; rfl
    have : (u13.1 23).toInt = (u.1 23).toInt := by rw [e_u13]; rfl
    have : ((u22.1 23) + 1).toInt = (u22.1 23).toInt + (1 : Int) := addc_t (by decide) (by omega) (by omega)
    refine Tot_lt (fun u24 e_u24 => ?_)
    have hs_u24 : StM mdX12_print_0 u0 u24 := by rw [e_u24]; exact StM_sI hs_u22 (by decide) (by show 0 ≤ ((u22.1 23) + 1).toInt; omega) (by show ((u22.1 23) + 1).toInt ≤ 40; omega)
    exact tGX12_print_0_148 u0 z2 u24 hs_u24 ⟨by omega, by omega⟩
  · have : ¬ z2.toInt = (0 : Int) := neI c993
    have : (u22.1 24).toInt = (u19.1 24).toInt := by rw [e_u22]; rfl
    have : (u19.1 24).toInt = (u16.1 24).toInt := by rw [e_u19]; rfl
    have : (u16.1 24).toInt = (u13.1 24).toInt := by rw [e_u16]; rfl
    have : (u13.1 24).toInt = (u.1 24).toInt := by rw [e_u13]; rfl
    have : ((u22.1 24) + 1).toInt = (u22.1 24).toInt + (1 : Int) := addc_t (by decide) (by omega) (by omega)
    refine Tot_lt (fun u26 e_u26 => ?_)
    have hs_u26 : StM mdX12_print_0 u0 u26 := by rw [e_u26]; exact StM_sI hs_u22 (by decide) (by show 0 ≤ ((u22.1 24) + 1).toInt; omega) (by show ((u22.1 24) + 1).toInt ≤ 20; omega)
    exact tGX12_print_0_148 u0 z2 u26 hs_u26 ⟨by omega, by omega⟩
set_option maxHeartbeats 400000 in
set_option maxRecDepth 10000 in
theorem tGX12_print_0_65 (u0 : SX)    (z1 : Int32) (z2 : Int32) (z3 : Int32) (z4 : Int32) (u : SX) (hs_u : StM mdX12_print_0 u0 u) (h0 : 0 ≤ z1.toInt ∧ z1.toInt ≤ 7) (h1 : 0 ≤ z2.toInt ∧ z2.toInt ≤ 1) (h2 : (-400) ≤ z3.toInt ∧ z3.toInt ≤ 400) (h3 : (-400) ≤ z4.toInt ∧ z4.toInt ≤ 400) (h4 : ((z2.toInt = 0 → (u.1 23).toInt < 40) ∧ (z2.toInt ≠ 0 → (u.1 24).toInt < 20))) : Tot (GX12_print_0_65 z1 z2 z3 z4 u) (qX12_print_0 u0) := by
  unfold GX12_print_0_65
  have : 0 ≤ (u.1 23).toInt ∧ (u.1 23).toInt ≤ 40 := hs_u.1.1 23
  have : 0 ≤ (u.1 24).toInt ∧ (u.1 24).toInt ≤ 20 := hs_u.1.1 24
  refine Tot_ite (fun c994 => ?_) (fun c994 => ?_)
  · have : z2.toInt = (0 : Int) := eqI c994
    exact tGX12_print_0_83 u0 z1 z2 z3 z4 (u.1 23) u hs_u ⟨by omega, by omega⟩ ⟨by omega, by omega⟩ ⟨by omega, by omega⟩ ⟨by omega, by omega⟩ ⟨by omega, by omega⟩ (by omega)
  · have : ¬ z2.toInt = (0 : Int) := neI c994
    have : (40 + (u.1 24)).toInt = (40 : Int) + (u.1 24).toInt := cadd_t (by decide) (by omega) (by omega)
    exact tGX12_print_0_83 u0 z1 z2 z3 z4 (40 + (u.1 24)) u hs_u ⟨by omega, by omega⟩ ⟨by omega, by omega⟩ ⟨by omega, by omega⟩ ⟨by omega, by omega⟩ ⟨by omega, by omega⟩ (by omega)
set_option maxHeartbeats 400000 in
set_option maxRecDepth 10000 in
theorem tfX12_print_0 (x1 : Int32) (x2 : Int32) (x3 : Int32) (x4 : Int32) (u : SX) (hI : IM u) (h0 : 0 ≤ x2.toInt ∧ x2.toInt ≤ 1) : Tot (fX12_print_0 x1 x2 x3 x4 u) (qX12_print_0 u) := by
  unfold fX12_print_0
  have hs_u : StM mdX12_print_0 u u := StM_rf hI
  refine Tot_lt (fun u1 e_u1 => ?_)
  have hs_u1 : StM mdX12_print_0 u u1 := by rw [e_u1]; exact StM_sI hs_u (by decide) (by show 0 ≤ (0 : Int); omega) (by show (0 : Int) ≤ 1; omega)
  refine Tot_bind (tfX12_isHouse_0 x1 u1 hs_u1.1) (fun q hq => ?_)
  obtain ⟨r3, u4⟩ := q
  have hc_u4 : StM mdX12_isHouse_0 u1 u4 := hq.1
  have hs_u4 : StM mdX12_print_0 u u4 := StM_tr hs_u1 hc_u4 (by decide)
  have : 0 ≤ r3.toInt ∧ r3.toInt ≤ 1 := hq.2.1
  have : (u1.1 22).toInt = (u.1 22).toInt := by rw [e_u1]; rfl
  have : 0 ≤ (u.1 22).toInt ∧ (u.1 22).toInt ≤ 8 := hs_u.1.1 22
  have : r3.toInt ≠ 0 → ((0 : Int) ≤ x1.toInt ∧ x1.toInt < (u1.1 22).toInt) := hq.2.2
  clear hq
  refine Tot_ite (fun c995 => ?_) (fun c995 => ?_)
  · have : r3.toInt = (0 : Int) := eqI c995
    exact Tot_some ⟨hs_u4, (by show (-1) ≤ (-1 : Int) ∧ (-1 : Int) ≤ 39; omega), trivial⟩
  · have : ¬ r3.toInt = (0 : Int) := neI c995
    refine Tot_bind (tfX12_isIn x3 (-400) 400 (by show (-100000) ≤ (-400 : Int) ∧ (-400 : Int) ≤ 400; omega) (by show (-1) ≤ (400 : Int) ∧ (400 : Int) ≤ 100000; omega)) (fun r6 hq => ?_)
    have : 0 ≤ r6.toInt ∧ r6.toInt ≤ 1 := hq.1
    have : r6.toInt ≠ 0 → ((-400 : Int) ≤ x3.toInt ∧ x3.toInt ≤ (400 : Int)) := hq.2
    clear hq
    refine Tot_ite (fun c996 => ?_) (fun c996 => ?_)
    · have : r6.toInt = (0 : Int) := eqI c996
      exact Tot_some ⟨hs_u4, (by show (-1) ≤ (-1 : Int) ∧ (-1 : Int) ≤ 39; omega), trivial⟩
    · have : ¬ r6.toInt = (0 : Int) := neI c996
      refine Tot_bind (tfX12_isIn x4 x3 400 ⟨by omega, by omega⟩ (by show (-1) ≤ (400 : Int) ∧ (400 : Int) ≤ 100000; omega)) (fun r9 hq => ?_)
      have : 0 ≤ r9.toInt ∧ r9.toInt ≤ 1 := hq.1
      have : r9.toInt ≠ 0 → (x3.toInt ≤ x4.toInt ∧ x4.toInt ≤ (400 : Int)) := hq.2
      clear hq
      refine Tot_ite (fun c997 => ?_) (fun c997 => ?_)
      · have : r9.toInt = (0 : Int) := eqI c997
        exact Tot_some ⟨hs_u4, (by show (-1) ≤ (-1 : Int) ∧ (-1 : Int) ≤ 39; omega), trivial⟩
      · have : ¬ r9.toInt = (0 : Int) := neI c997
        refine Tot_ite (fun c998 => ?_) (fun c998 => ?_)
        · have : x2.toInt = (0 : Int) := eqI c998
          have : (u4.1 23).toInt = (u1.1 23).toInt := congrArg Int32.toInt (hc_u4.2.1 23 (by decide))
          have : (u1.1 23).toInt = (u.1 23).toInt := by rw [e_u1]; rfl
          have : 0 ≤ (u.1 23).toInt ∧ (u.1 23).toInt ≤ 40 := hs_u.1.1 23
          refine Tot_ite (fun c999 => ?_) (fun c999 => ?_)
          · have : (u4.1 23).toInt = (40 : Int) := eqI c999
            exact Tot_some ⟨hs_u4, (by show (-1) ≤ (-1 : Int) ∧ (-1 : Int) ≤ 39; omega), trivial⟩
          · have : ¬ (u4.1 23).toInt = (40 : Int) := neI c999
            have : (u4.1 24).toInt = (u1.1 24).toInt := congrArg Int32.toInt (hc_u4.2.1 24 (by decide))
            have : (u1.1 24).toInt = (u.1 24).toInt := by rw [e_u1]; rfl
            have : 0 ≤ (u.1 24).toInt ∧ (u.1 24).toInt ≤ 20 := hs_u.1.1 24
            exact tGX12_print_0_65 u x1 x2 x3 x4 u4 hs_u4 ⟨by omega, by omega⟩ ⟨by omega, by omega⟩ ⟨by omega, by omega⟩ ⟨by omega, by omega⟩ (by omega)
        · have : ¬ x2.toInt = (0 : Int) := neI c998
          have : (u4.1 24).toInt = (u1.1 24).toInt := congrArg Int32.toInt (hc_u4.2.1 24 (by decide))
          have : (u1.1 24).toInt = (u.1 24).toInt := by rw [e_u1]; rfl
          have : 0 ≤ (u.1 24).toInt ∧ (u.1 24).toInt ≤ 20 := hs_u.1.1 24
          refine Tot_ite (fun c1000 => ?_) (fun c1000 => ?_)
          · have : (u4.1 24).toInt = (20 : Int) := eqI c1000
            exact Tot_some ⟨hs_u4, (by show (-1) ≤ (-1 : Int) ∧ (-1 : Int) ≤ 39; omega), trivial⟩
          · have : ¬ (u4.1 24).toInt = (20 : Int) := neI c1000
            have : (u4.1 23).toInt = (u1.1 23).toInt := congrArg Int32.toInt (hc_u4.2.1 23 (by decide))
            have : (u1.1 23).toInt = (u.1 23).toInt := by rw [e_u1]; rfl
            have : 0 ≤ (u.1 23).toInt ∧ (u.1 23).toInt ≤ 40 := hs_u.1.1 23
            exact tGX12_print_0_65 u x1 x2 x3 x4 u4 hs_u4 ⟨by omega, by omega⟩ ⟨by omega, by omega⟩ ⟨by omega, by omega⟩ ⟨by omega, by omega⟩ (by omega)

def mdX12_had_0 : MD := ([0], [], [], [])
abbrev qX12_had_0 (u : SX) (q : Int32 × SX) : Prop := StM mdX12_had_0 u q.2 ∧ (True) ∧ (True)
set_option maxHeartbeats 400000 in
set_option maxRecDepth 10000 in
theorem tGX12_had_0_96 (u0 : SX) (g33 : Int) {k33 : Int32 → Int32 → Int32 → Int32 → SX → Option (Int32 × SX)} (hk33 : ∀ (z1 : Int32) (z2 : Int32) (z3 : Int32) (z4 : Int32) (u : SX), (StM mdX12_had_0 u0 u) → (0 ≤ z1.toInt ∧ z1.toInt ≤ 120) → (0 ≤ z2.toInt ∧ z2.toInt ≤ 1) → (0 ≤ z4.toInt ∧ z4.toInt ≤ 40) → (g33 < z4.toInt) → Tot (k33 z1 z2 z3 z4 u) (qX12_had_0 u0)) (z1 : Int32) (z2 : Int32) (z4 : Int32) (y0 : Int32) (y1 : Int32) (u : SX) (hs_u : StM mdX12_had_0 u0 u) (h0 : 0 ≤ z1.toInt ∧ z1.toInt ≤ 120) (h1 : 0 ≤ z2.toInt ∧ z2.toInt ≤ 1) (h2 : 0 ≤ z4.toInt ∧ z4.toInt ≤ 39) (h3 : 0 ≤ y0.toInt ∧ y0.toInt ≤ 1) (h4 : g33 ≤ z4.toInt) : Tot (GX12_had_0_96 k33 z1 z2 z4 y0 y1 u) (qX12_had_0 u0) := by
  unfold GX12_had_0_96
  refine Tot_lt (fun v10 e_v10 => ?_)
  have : (z4 + 1).toInt = z4.toInt + (1 : Int) := addc_t (by decide) (by omega) (by omega)
  exact hk33 z1 z2 v10 (z4 + 1) u hs_u ⟨by omega, by omega⟩ ⟨by omega, by omega⟩ ⟨by omega, by omega⟩ (by omega)
set_option maxHeartbeats 400000 in
set_option maxRecDepth 10000 in
theorem tGX12_had_0_95 (u0 : SX) (g33 : Int) {k33 : Int32 → Int32 → Int32 → Int32 → SX → Option (Int32 × SX)} (hk33 : ∀ (z1 : Int32) (z2 : Int32) (z3 : Int32) (z4 : Int32) (u : SX), (StM mdX12_had_0 u0 u) → (0 ≤ z1.toInt ∧ z1.toInt ≤ 120) → (0 ≤ z2.toInt ∧ z2.toInt ≤ 1) → (0 ≤ z4.toInt ∧ z4.toInt ≤ 40) → (g33 < z4.toInt) → Tot (k33 z1 z2 z3 z4 u) (qX12_had_0 u0)) (z1 : Int32) (z2 : Int32) (z4 : Int32) (y0 : Int32) (u : SX) (hs_u : StM mdX12_had_0 u0 u) (h0 : 0 ≤ z1.toInt ∧ z1.toInt ≤ 120) (h1 : 0 ≤ z2.toInt ∧ z2.toInt ≤ 1) (h2 : 0 ≤ z4.toInt ∧ z4.toInt ≤ 39) (h3 : g33 ≤ z4.toInt) : Tot (GX12_had_0_95 k33 z1 z2 z4 y0 u) (qX12_had_0 u0) := by
  unfold GX12_had_0_95
  exact tGX12_had_0_96 u0 g33 hk33 z1 z2 z4 0 y0 u hs_u ⟨by omega, by omega⟩ ⟨by omega, by omega⟩ ⟨by omega, by omega⟩ (by show 0 ≤ (0 : Int) ∧ (0 : Int) ≤ 1; omega) (by omega)
set_option maxHeartbeats 400000 in
set_option maxRecDepth 10000 in
theorem tGX12_had_0_91 (u0 : SX) (g33 : Int) {k33 : Int32 → Int32 → Int32 → Int32 → SX → Option (Int32 × SX)} (hk33 : ∀ (z1 : Int32) (z2 : Int32) (z3 : Int32) (z4 : Int32) (u : SX), (StM mdX12_had_0 u0 u) → (0 ≤ z1.toInt ∧ z1.toInt ≤ 120) → (0 ≤ z2.toInt ∧ z2.toInt ≤ 1) → (0 ≤ z4.toInt ∧ z4.toInt ≤ 40) → (g33 < z4.toInt) → Tot (k33 z1 z2 z3 z4 u) (qX12_had_0 u0)) (z1 : Int32) (z2 : Int32) (z4 : Int32) (y0 : Int32) (u : SX) (hs_u : StM mdX12_had_0 u0 u) (h0 : 0 ≤ z1.toInt ∧ z1.toInt ≤ 120) (h1 : 0 ≤ z2.toInt ∧ z2.toInt ≤ 1) (h2 : 0 ≤ z4.toInt ∧ z4.toInt ≤ 39) (h3 : g33 ≤ z4.toInt) : Tot (GX12_had_0_91 k33 z1 z2 z4 y0 u) (qX12_had_0 u0) := by
  unfold GX12_had_0_91
  exact tGX12_had_0_96 u0 g33 hk33 z1 z2 z4 1 y0 u hs_u ⟨by omega, by omega⟩ ⟨by omega, by omega⟩ ⟨by omega, by omega⟩ (by show 0 ≤ (1 : Int) ∧ (1 : Int) ≤ 1; omega) (by omega)
set_option maxHeartbeats 400000 in
set_option maxRecDepth 10000 in
theorem tLX12_had_0_33 (u0 : SX)    : ∀ (n : Nat) (z1 : Int32) (z2 : Int32) (z3 : Int32) (z4 : Int32) (u : SX), (StM mdX12_had_0 u0 u) → (0 ≤ z1.toInt ∧ z1.toInt ≤ 120) → (0 ≤ z2.toInt ∧ z2.toInt ≤ 1) → (0 ≤ z4.toInt ∧ z4.toInt ≤ 40) → (40 - z4.toInt < (n : Int)) → Tot (LX12_had_0_33 n z1 z2 z3 z4 u) (qX12_had_0 u0) := by
  intro n
  induction n with
  | zero =>
    intro z1 z2 z3 z4 u hs_u h0 h1 h2 hm
    exfalso
    omega
  | succ n ih =>
    intro z1 z2 z3 z4 u hs_u h0 h1 h2 hm
    rw [LX12_had_0_33]
    have : 0 ≤ (u.1 23).toInt ∧ (u.1 23).toInt ≤ 40 := hs_u.1.1 23
    refine Tot_ite (fun c1001 => ?_) (fun c1001 => ?_)
    · have : (u.1 23).toInt ≤ z4.toInt := leI c1001
      exact Tot_some ⟨hs_u, trivial, trivial⟩
    · have : ¬ (u.1 23).toInt ≤ z4.toInt := nleI c1001
      refine Tot_gd (inb_t (by omega) (by omega)) ?_
      have : 0 ≤ (u.2.1 38 z4.toNatClampNeg).toInt ∧ (u.2.1 38 z4.toNatClampNeg).toInt ≤ 120 := hs_u.1.2.1 38 z4.toNatClampNeg
      refine Tot_ite (fun c1002 => ?_) (fun c1002 => ?_)
      · have : z1.toInt < (u.2.1 38 z4.toNatClampNeg).toInt := ltI c1002
        exact tGX12_had_0_95 u0 (z4.toInt) (fun a1003 a1004 a1005 a1006 w1007 hw1007 p1008 p1009 p1010 p1011 => ih a1003 a1004 a1005 a1006 w1007 hw1007 p1008 p1009 p1010 (by omega)) z1 z2 z4 z3 u hs_u ⟨by omega, by omega⟩ ⟨by omega, by omega⟩ ⟨by omega, by omega⟩ (by omega)
      · have : ¬ z1.toInt < (u.2.1 38 z4.toNatClampNeg).toInt := nltI c1002
        refine Tot_ite (fun c1012 => ?_) (fun c1012 => ?_)
        · have : z2.toInt = (0 : Int) := eqI c1012
          refine Tot_gd (inb_t (by omega) (by omega)) ?_
          have : (-400) ≤ (u.2.1 36 z4.toNatClampNeg).toInt ∧ (u.2.1 36 z4.toNatClampNeg).toInt ≤ 400 := hs_u.1.2.1 36 z4.toNatClampNeg
          refine Tot_ite (fun c1013 => ?_) (fun c1013 => ?_)
          · have : (u.2.1 36 z4.toNatClampNeg).toInt ≤ (0 : Int) := leI c1013
            exact tGX12_had_0_95 u0 (z4.toInt) (fun a1014 a1015 a1016 a1017 w1018 hw1018 p1019 p1020 p1021 p1022 => ih a1014 a1015 a1016 a1017 w1018 hw1018 p1019 p1020 p1021 (by omega)) z1 z2 z4 z3 u hs_u ⟨by omega, by omega⟩ ⟨by omega, by omega⟩ ⟨by omega, by omega⟩ (by omega)
          · have : ¬ (u.2.1 36 z4.toNatClampNeg).toInt ≤ (0 : Int) := nleI c1013
            exact tGX12_had_0_91 u0 (z4.toInt) (fun a1023 a1024 a1025 a1026 w1027 hw1027 p1028 p1029 p1030 p1031 => ih a1023 a1024 a1025 a1026 w1027 hw1027 p1028 p1029 p1030 (by omega)) z1 z2 z4 z3 u hs_u ⟨by omega, by omega⟩ ⟨by omega, by omega⟩ ⟨by omega, by omega⟩ (by omega)
        · have : ¬ z2.toInt = (0 : Int) := neI c1012
          refine Tot_gd (inb_t (by omega) (by omega)) ?_
          have : (-400) ≤ (u.2.1 36 z4.toNatClampNeg).toInt ∧ (u.2.1 36 z4.toNatClampNeg).toInt ≤ 400 := hs_u.1.2.1 36 z4.toNatClampNeg
          refine Tot_ite (fun c1032 => ?_) (fun c1032 => ?_)
          · have : (0 : Int) < (u.2.1 36 z4.toNatClampNeg).toInt := ltI c1032
            exact tGX12_had_0_95 u0 (z4.toInt) (fun a1033 a1034 a1035 a1036 w1037 hw1037 p1038 p1039 p1040 p1041 => ih a1033 a1034 a1035 a1036 w1037 hw1037 p1038 p1039 p1040 (by omega)) z1 z2 z4 z3 u hs_u ⟨by omega, by omega⟩ ⟨by omega, by omega⟩ ⟨by omega, by omega⟩ (by omega)
          · have : ¬ (0 : Int) < (u.2.1 36 z4.toNatClampNeg).toInt := nltI c1032
            refine Tot_gd (inb_t (by omega) (by omega)) ?_
            have : (-400) ≤ (u.2.1 37 z4.toNatClampNeg).toInt ∧ (u.2.1 37 z4.toNatClampNeg).toInt ≤ 400 := hs_u.1.2.1 37 z4.toNatClampNeg
            refine Tot_ite (fun c1042 => ?_) (fun c1042 => ?_)
            · have : (u.2.1 37 z4.toNatClampNeg).toInt ≤ (0 : Int) := leI c1042
              exact tGX12_had_0_95 u0 (z4.toInt) (fun a1043 a1044 a1045 a1046 w1047 hw1047 p1048 p1049 p1050 p1051 => ih a1043 a1044 a1045 a1046 w1047 hw1047 p1048 p1049 p1050 (by omega)) z1 z2 z4 z3 u hs_u ⟨by omega, by omega⟩ ⟨by omega, by omega⟩ ⟨by omega, by omega⟩ (by omega)
            · have : ¬ (u.2.1 37 z4.toNatClampNeg).toInt ≤ (0 : Int) := nleI c1042
              exact tGX12_had_0_91 u0 (z4.toInt) (fun a1052 a1053 a1054 a1055 w1056 hw1056 p1057 p1058 p1059 p1060 => ih a1052 a1053 a1054 a1055 w1056 hw1056 p1057 p1058 p1059 (by omega)) z1 z2 z4 z3 u hs_u ⟨by omega, by omega⟩ ⟨by omega, by omega⟩ ⟨by omega, by omega⟩ (by omega)
set_option maxHeartbeats 400000 in
set_option maxRecDepth 10000 in
theorem tfX12_had_0 (x1 : Int32) (x2 : Int32) (u : SX) (hI : IM u)  : Tot (fX12_had_0 x1 x2 u) (qX12_had_0 u) := by
  unfold fX12_had_0
  have hs_u : StM mdX12_had_0 u u := StM_rf hI
  refine Tot_lt (fun u1 e_u1 => ?_)
  have hs_u1 : StM mdX12_had_0 u u1 := by rw [e_u1]; exact StM_sI hs_u (by decide) (by show 0 ≤ (0 : Int); omega) (by show (0 : Int) ≤ 1; omega)
  have : (u1.1 1).toInt = (u.1 1).toInt := by rw [e_u1]; rfl
  have : 0 ≤ (u.1 1).toInt ∧ (u.1 1).toInt ≤ 120 := hs_u.1.1 1
  refine Tot_bind (tfX12_isIn x1 0 (u1.1 1) (by show (-100000) ≤ (0 : Int) ∧ (0 : Int) ≤ 400; omega) ⟨by omega, by omega⟩) (fun r3 hq => ?_)
  have : 0 ≤ r3.toInt ∧ r3.toInt ≤ 1 := hq.1
  have : r3.toInt ≠ 0 → ((0 : Int) ≤ x1.toInt ∧ x1.toInt ≤ (u1.1 1).toInt) := hq.2
  clear hq
  refine Tot_ite (fun c1061 => ?_) (fun c1061 => ?_)
  · have : r3.toInt = (0 : Int) := eqI c1061
    exact Tot_some ⟨hs_u1, trivial, trivial⟩
  · have : ¬ r3.toInt = (0 : Int) := neI c1061
    refine Tot_bind (tfX12_isIn x2 0 1 (by show (-100000) ≤ (0 : Int) ∧ (0 : Int) ≤ 400; omega) (by show (-1) ≤ (1 : Int) ∧ (1 : Int) ≤ 100000; omega)) (fun r6 hq => ?_)
    have : 0 ≤ r6.toInt ∧ r6.toInt ≤ 1 := hq.1
    have : r6.toInt ≠ 0 → ((0 : Int) ≤ x2.toInt ∧ x2.toInt ≤ (1 : Int)) := hq.2
    clear hq
    refine Tot_ite (fun c1062 => ?_) (fun c1062 => ?_)
    · have : r6.toInt = (0 : Int) := eqI c1062
      exact Tot_some ⟨hs_u1, trivial, trivial⟩
    · have : ¬ r6.toInt = (0 : Int) := neI c1062
      exact tLX12_had_0_33 u 5000 x1 x2 0 0 u1 hs_u1 ⟨by omega, by omega⟩ ⟨by omega, by omega⟩ (by show 0 ≤ (0 : Int) ∧ (0 : Int) ≤ 40; omega) (by show 40 - (0 : Int) < ((5000 : Nat) : Int); omega)

def mdX12_letter_0 : MD := ([0, 25], [39, 40, 41], [], [])
abbrev qX12_letter_0 (u : SX) (q : Int32 × SX) : Prop := StM mdX12_letter_0 u q.2 ∧ (0 ≤ q.1.toInt ∧ q.1.toInt ≤ 1) ∧ (True)
set_option maxHeartbeats 400000 in
set_option maxRecDepth 10000 in
theorem tfX12_letter_0 (x1 : Int32) (x2 : Int32) (u : SX) (hI : IM u)  : Tot (fX12_letter_0 x1 x2 u) (qX12_letter_0 u) := by
  unfold fX12_letter_0
  have hs_u : StM mdX12_letter_0 u u := StM_rf hI
  refine Tot_lt (fun u1 e_u1 => ?_)
  have hs_u1 : StM mdX12_letter_0 u u1 := by rw [e_u1]; exact StM_sI hs_u (by decide) (by show 0 ≤ (0 : Int); omega) (by show (0 : Int) ≤ 1; omega)
  have : (u1.1 25).toInt = (u.1 25).toInt := by rw [e_u1]; rfl
  have : 0 ≤ (u.1 25).toInt ∧ (u.1 25).toInt ≤ 60 := hs_u.1.1 25
  refine Tot_ite (fun c1063 => ?_) (fun c1063 => ?_)
  · have : (u1.1 25).toInt = (60 : Int) := eqI c1063
    refine Tot_gd (by decide) ?_
    exact Tot_some ⟨hs_u1, (by show 0 ≤ (0 : Int) ∧ (0 : Int) ≤ 1; omega), trivial⟩
  · have : ¬ (u1.1 25).toInt = (60 : Int) := neI c1063
    refine Tot_bind (tfX12_isHouse_0 x1 u1 hs_u1.1) (fun q hq => ?_)
    obtain ⟨r4, u5⟩ := q
    have hc_u5 : StM mdX12_isHouse_0 u1 u5 := hq.1
    have hs_u5 : StM mdX12_letter_0 u u5 := StM_tr hs_u1 hc_u5 (by decide)
    have : 0 ≤ r4.toInt ∧ r4.toInt ≤ 1 := hq.2.1
    have : (u1.1 22).toInt = (u.1 22).toInt := by rw [e_u1]; rfl
    have : 0 ≤ (u.1 22).toInt ∧ (u.1 22).toInt ≤ 8 := hs_u.1.1 22
    have : r4.toInt ≠ 0 → ((0 : Int) ≤ x1.toInt ∧ x1.toInt < (u1.1 22).toInt) := hq.2.2
    clear hq
    refine Tot_ite (fun c1064 => ?_) (fun c1064 => ?_)
    · have : r4.toInt = (0 : Int) := eqI c1064
      refine Tot_gd (by decide) ?_
      exact Tot_some ⟨hs_u5, (by show 0 ≤ (0 : Int) ∧ (0 : Int) ≤ 1; omega), trivial⟩
    · have : ¬ r4.toInt = (0 : Int) := neI c1064
      refine Tot_bind (tfX12_isHouse_0 x2 u5 hs_u5.1) (fun q hq => ?_)
      obtain ⟨r8, u9⟩ := q
      have hc_u9 : StM mdX12_isHouse_0 u5 u9 := hq.1
      have hs_u9 : StM mdX12_letter_0 u u9 := StM_tr hs_u5 hc_u9 (by decide)
      have : 0 ≤ r8.toInt ∧ r8.toInt ≤ 1 := hq.2.1
      have : (u5.1 22).toInt = (u1.1 22).toInt := congrArg Int32.toInt (hc_u5.2.1 22 (by decide))
      have : r8.toInt ≠ 0 → ((0 : Int) ≤ x2.toInt ∧ x2.toInt < (u5.1 22).toInt) := hq.2.2
      clear hq
      refine Tot_ite (fun c1065 => ?_) (fun c1065 => ?_)
      · have : r8.toInt = (0 : Int) := eqI c1065
        refine Tot_gd (by decide) ?_
        exact Tot_some ⟨hs_u9, (by show 0 ≤ (0 : Int) ∧ (0 : Int) ≤ 1; omega), trivial⟩
      · have : ¬ r8.toInt = (0 : Int) := neI c1065
        refine Tot_ite (fun c1066 => ?_) (fun c1066 => ?_)
        · have : x1.toInt = x2.toInt := eqI c1066
          refine Tot_gd (by decide) ?_
          exact Tot_some ⟨hs_u9, (by show 0 ≤ (0 : Int) ∧ (0 : Int) ≤ 1; omega), trivial⟩
        · have : (u9.1 25).toInt = (u5.1 25).toInt := congrArg Int32.toInt (hc_u9.2.1 25 (by decide))
          have : (u5.1 25).toInt = (u1.1 25).toInt := congrArg Int32.toInt (hc_u5.2.1 25 (by decide))
          refine Tot_gd (inb_t (by omega) (by omega)) ?_
          refine Tot_lt (fun u13 e_u13 => ?_)
          have hs_u13 : StM mdX12_letter_0 u u13 := by rw [e_u13]; exact StM_sA hs_u9 (by decide) (by show 0 ≤ x1.toInt; omega) (by show x1.toInt ≤ 7; omega) (by decide)
          have : (u13.1 25).toInt = (u9.1 25).toInt := by rw [e_u13]; rfl
          refine Tot_gd (inb_t (by omega) (by omega)) ?_
          refine Tot_lt (fun u16 e_u16 => ?_)
          have hs_u16 : StM mdX12_letter_0 u u16 := by rw [e_u16]; exact StM_sA hs_u13 (by decide) (by show 0 ≤ x2.toInt; omega) (by show x2.toInt ≤ 7; omega) (by decide)
          have : (u16.1 25).toInt = (u13.1 25).toInt := by rw [e_u16]; rfl
          refine Tot_gd (inb_t (by omega) (by omega)) ?_
          have : (u16.1 1).toInt = (u13.1 1).toInt := by rw [e_u16]; rfl
          have : (u13.1 1).toInt = (u9.1 1).toInt := by rw [e_u13]; rfl
          have : (u9.1 1).toInt = (u5.1 1).toInt := congrArg Int32.toInt (hc_u9.2.1 1 (by decide))
          have : (u5.1 1).toInt = (u1.1 1).toInt := congrArg Int32.toInt (hc_u5.2.1 1 (by decide))
          have : (u1.1 1).toInt = (u.1 1).toInt := by rw [e_u1]; rfl
          have : 0 ≤ (u.1 1).toInt ∧ (u.1 1).toInt ≤ 120 := hs_u.1.1 1
          refine Tot_lt (fun u19 e_u19 => ?_)
          have hs_u19 : StM mdX12_letter_0 u u19 := by rw [e_u19]; exact StM_sA hs_u16 (by decide) (by show 0 ≤ (u16.1 1).toInt; omega) (by show (u16.1 1).toInt ≤ 120; omega) (by decide)
          have : (u19.1 25).toInt = (u16.1 25).toInt := by rw [e_u19]; rfl
          have : ((u19.1 25) + 1).toInt = (u19.1 25).toInt + (1 : Int) := addc_t (by decide) (by omega) (by omega)
          refine Tot_lt (fun u21 e_u21 => ?_)
          have hs_u21 : StM mdX12_letter_0 u u21 := by rw [e_u21]; exact StM_sI hs_u19 (by decide) (by show 0 ≤ ((u19.1 25) + 1).toInt; omega) (by show ((u19.1 25) + 1).toInt ≤ 60; omega)
          refine Tot_gd (by decide) ?_
          exact Tot_some ⟨hs_u21, (by show 0 ≤ (1 : Int) ∧ (1 : Int) ≤ 1; omega), trivial⟩

def mdX12_isThere_0 : MD := ([], [], [], [])
abbrev qX12_isThere_0 (u : SX) (q : Int32 × SX) : Prop := StM mdX12_isThere_0 u q.2 ∧ (0 ≤ q.1.toInt ∧ q.1.toInt ≤ 1) ∧ (True)
set_option maxHeartbeats 400000 in
set_option maxRecDepth 10000 in
theorem tfX12_isThere_0 (x1 : Int32) (u : SX) (hI : IM u) (h0 : 0 ≤ x1.toInt ∧ x1.toInt ≤ 59) : Tot (fX12_isThere_0 x1 u) (qX12_isThere_0 u) := by
  unfold fX12_isThere_0
  have hs_u : StM mdX12_isThere_0 u u := StM_rf hI
  refine Tot_ite (fun c1067 => ?_) (fun c1067 => ?_)
  · have : (40 : Int) ≤ x1.toInt := leI c1067
    have : 0 ≤ (u.1 24).toInt ∧ (u.1 24).toInt ≤ 20 := hs_u.1.1 24
    have : (x1 - 40).toInt = x1.toInt - (40 : Int) := subc_t (by decide) (by omega) (by omega)
    refine Tot_ite (fun c1068 => ?_) (fun c1068 => ?_)
    · have : (u.1 24).toInt ≤ (x1 - 40).toInt := leI c1068
      refine Tot_gd (by decide) ?_
      exact Tot_some ⟨hs_u, (by show 0 ≤ (0 : Int) ∧ (0 : Int) ≤ 1; omega), trivial⟩
    · have : ¬ (u.1 24).toInt ≤ (x1 - 40).toInt := nleI c1068
      refine Tot_gd (by decide) ?_
      exact Tot_some ⟨hs_u, (by show 0 ≤ (1 : Int) ∧ (1 : Int) ≤ 1; omega), trivial⟩
  · have : ¬ (40 : Int) ≤ x1.toInt := nleI c1067
    have : 0 ≤ (u.1 23).toInt ∧ (u.1 23).toInt ≤ 40 := hs_u.1.1 23
    refine Tot_ite (fun c1069 => ?_) (fun c1069 => ?_)
    · have : (u.1 23).toInt ≤ x1.toInt := leI c1069
      refine Tot_gd (by decide) ?_
      exact Tot_some ⟨hs_u, (by show 0 ≤ (0 : Int) ∧ (0 : Int) ≤ 1; omega), trivial⟩
    · have : ¬ (u.1 23).toInt ≤ x1.toInt := nleI c1069
      refine Tot_gd (by decide) ?_
      exact Tot_some ⟨hs_u, (by show 0 ≤ (1 : Int) ∧ (1 : Int) ≤ 1; omega), trivial⟩

def mdX12_knowsNow_0 : MD := ([], [], [], [])
abbrev qX12_knowsNow_0 (u : SX) (q : Int32 × SX) : Prop := StM mdX12_knowsNow_0 u q.2 ∧ (0 ≤ q.1.toInt ∧ q.1.toInt ≤ 1) ∧ (True)
set_option maxHeartbeats 400000 in
set_option maxRecDepth 10000 in
theorem tfX12_knowsNow_0 (x1 : Int32) (x2 : Int32) (x3 : Int32) (u : SX) (hI : IM u) (h0 : 0 ≤ x1.toInt ∧ x1.toInt ≤ 7) (h1 : 0 ≤ x2.toInt ∧ x2.toInt ≤ 59) (h2 : 0 ≤ x3.toInt ∧ x3.toInt ≤ 120) : Tot (fX12_knowsNow_0 x1 x2 x3 u) (qX12_knowsNow_0 u) := by
  unfold fX12_knowsNow_0
  have hs_u : StM mdX12_knowsNow_0 u u := StM_rf hI
  have : (60 * x1).toInt = 60 * x1.toInt := cmul_t (by decide) (by omega) (by omega)
  have : ((60 * x1) + x2).toInt = (60 * x1).toInt + x2.toInt := add_t (by omega) (by omega)
  refine Tot_gd (inb_t (by omega) (by omega)) ?_
  have : 0 ≤ (u.2.1 42 (((60 * x1) + x2)).toNatClampNeg).toInt ∧ (u.2.1 42 (((60 * x1) + x2)).toNatClampNeg).toInt ≤ 1 := hs_u.1.2.1 42 (((60 * x1) + x2)).toNatClampNeg
  refine Tot_ite (fun c1070 => ?_) (fun c1070 => ?_)
  · have : (u.2.1 42 (((60 * x1) + x2)).toNatClampNeg).toInt = (0 : Int) := eqI c1070
    refine Tot_bind (tfX12_isThere_0 x2 u hs_u.1 ⟨by omega, by omega⟩) (fun q hq => ?_)
    obtain ⟨r3, u4⟩ := q
    have hc_u4 : StM mdX12_isThere_0 u u4 := hq.1
    have hs_u4 : StM mdX12_knowsNow_0 u u4 := StM_tr hs_u hc_u4 (by decide)
    have : 0 ≤ r3.toInt ∧ r3.toInt ≤ 1 := hq.2.1
    clear hq
    refine Tot_ite (fun c1071 => ?_) (fun c1071 => ?_)
    · have : r3.toInt = (0 : Int) := eqI c1071
      refine Tot_gd (by decide) ?_
      exact Tot_some ⟨hs_u4, (by show 0 ≤ (0 : Int) ∧ (0 : Int) ≤ 1; omega), trivial⟩
    · have : ¬ r3.toInt = (0 : Int) := neI c1071
      refine Tot_gd (inb_t (by omega) (by omega)) ?_
      have : 0 ≤ (u4.2.1 35 x2.toNatClampNeg).toInt ∧ (u4.2.1 35 x2.toNatClampNeg).toInt ≤ 7 := hs_u4.1.2.1 35 x2.toNatClampNeg
      refine Tot_ite (fun c1072 => ?_) (fun c1072 => ?_)
      · have : (u4.2.1 35 x2.toNatClampNeg).toInt = x1.toInt := eqI c1072
        refine Tot_gd (inb_t (by omega) (by omega)) ?_
        have : 0 ≤ (u4.2.1 38 x2.toNatClampNeg).toInt ∧ (u4.2.1 38 x2.toNatClampNeg).toInt ≤ 120 := hs_u4.1.2.1 38 x2.toNatClampNeg
        refine Tot_ite (fun c1073 => ?_) (fun c1073 => ?_)
        · have : x3.toInt < (u4.2.1 38 x2.toNatClampNeg).toInt := ltI c1073
          refine Tot_gd (by decide) ?_
          exact Tot_some ⟨hs_u4, (by show 0 ≤ (0 : Int) ∧ (0 : Int) ≤ 1; omega), trivial⟩
        · have : ¬ x3.toInt < (u4.2.1 38 x2.toNatClampNeg).toInt := nltI c1073
          refine Tot_gd (by decide) ?_
          exact Tot_some ⟨hs_u4, (by show 0 ≤ (1 : Int) ∧ (1 : Int) ≤ 1; omega), trivial⟩
      · refine Tot_gd (by decide) ?_
        exact Tot_some ⟨hs_u4, (by show 0 ≤ (0 : Int) ∧ (0 : Int) ≤ 1; omega), trivial⟩
  · have : ¬ (u.2.1 42 (((60 * x1) + x2)).toNatClampNeg).toInt = (0 : Int) := neI c1070
    refine Tot_gd (by decide) ?_
    exact Tot_some ⟨hs_u, (by show 0 ≤ (1 : Int) ∧ (1 : Int) ≤ 1; omega), trivial⟩

def mdX12_nobodyKnows_0 : MD := ([], [42], [], [])
abbrev qX12_nobodyKnows_0 (u : SX) (q : Int32 × SX) : Prop := StM mdX12_nobodyKnows_0 u q.2 ∧ (0 ≤ q.1.toInt ∧ q.1.toInt ≤ 0) ∧ (True)
set_option maxHeartbeats 400000 in
set_option maxRecDepth 10000 in
theorem tLX12_nobodyKnows_0_2 (u0 : SX)    : ∀ (n : Nat) (z1 : Int32) (u : SX), (StM mdX12_nobodyKnows_0 u0 u) → (0 ≤ z1.toInt ∧ z1.toInt ≤ 480) → (480 - z1.toInt < (n : Int)) → Tot (LX12_nobodyKnows_0_2 n z1 u) (qX12_nobodyKnows_0 u0) := by
  intro n
  induction n with
  | zero =>
    intro z1 u hs_u h0 hm
    exfalso
    omega
  | succ n ih =>
    intro z1 u hs_u h0 hm
    rw [LX12_nobodyKnows_0_2]
    refine Tot_ite (fun c1074 => ?_) (fun c1074 => ?_)
    · have : (480 : Int) ≤ z1.toInt := leI c1074
      exact Tot_some ⟨hs_u, (by show 0 ≤ (0 : Int) ∧ (0 : Int) ≤ 0; omega), trivial⟩
    · have : ¬ (480 : Int) ≤ z1.toInt := nleI c1074
      refine Tot_gd (inb_t (by omega) (by omega)) ?_
      have := narz_t 0
      refine Tot_lt (fun u2 e_u2 => ?_)
      have hs_u2 : StM mdX12_nobodyKnows_0 u0 u2 := by rw [e_u2]; exact StM_sA hs_u (by decide) (by show 0 ≤ (vp_nar .boolean 0).toInt; omega) (by show (vp_nar .boolean 0).toInt ≤ 1; omega) (by decide)
      have : (z1 + 1).toInt = z1.toInt + (1 : Int) := addc_t (by decide) (by omega) (by omega)
      exact ih (z1 + 1) u2 hs_u2 ⟨by omega, by omega⟩ (by omega)
set_option maxHeartbeats 400000 in
set_option maxRecDepth 10000 in
theorem tfX12_nobodyKnows_0  (u : SX) (hI : IM u)  : Tot (fX12_nobodyKnows_0  u) (qX12_nobodyKnows_0 u) := by
  unfold fX12_nobodyKnows_0
  have hs_u : StM mdX12_nobodyKnows_0 u u := StM_rf hI
  exact tLX12_nobodyKnows_0_2 u 5000 0 u hs_u (by show 0 ≤ (0 : Int) ∧ (0 : Int) ≤ 480; omega) (by show 480 - (0 : Int) < ((5000 : Nat) : Int); omega)

def mdX12_passes_0 : MD := ([], [42, 43], [], [])
abbrev qX12_passes_0 (u : SX) (q : Int32 × SX) : Prop := StM mdX12_passes_0 u q.2 ∧ (0 ≤ q.1.toInt ∧ q.1.toInt ≤ 0) ∧ (True)
set_option maxHeartbeats 400000 in
set_option maxRecDepth 10000 in
theorem tLX12_passes_0_13 (u0 : SX) (g2 : Int) {k46 : Int32 → Int32 → Int32 → SX → Option (Int32 × SX)} (hk46 : ∀ (z1 : Int32) (z2 : Int32) (z3 : Int32) (u : SX), (StM mdX12_passes_0 u0 u) → (0 ≤ z1.toInt ∧ z1.toInt ≤ 120) → (0 ≤ z2.toInt ∧ z2.toInt ≤ 61) → (0 ≤ z3.toInt ∧ z3.toInt ≤ 7) → (g2 ≤ z3.toInt) → Tot (k46 z1 z2 z3 u) (qX12_passes_0 u0)) : ∀ (n : Nat) (z1 : Int32) (z2 : Int32) (z3 : Int32) (z4 : Int32) (u : SX), (StM mdX12_passes_0 u0 u) → (0 ≤ z1.toInt ∧ z1.toInt ≤ 120) → (0 ≤ z2.toInt ∧ z2.toInt ≤ 61) → (0 ≤ z3.toInt ∧ z3.toInt ≤ 7) → (0 ≤ z4.toInt ∧ z4.toInt ≤ 60) → (g2 ≤ z3.toInt) → (60 - z4.toInt < (n : Int)) → Tot (LX12_passes_0_13 k46 n z1 z2 z3 z4 u) (qX12_passes_0 u0) := by
  intro n
  induction n with
  | zero =>
    intro z1 z2 z3 z4 u hs_u h0 h1 h2 h3 h4 hm
    exfalso
    omega
  | succ n ih =>
    intro z1 z2 z3 z4 u hs_u h0 h1 h2 h3 h4 hm
    rw [LX12_passes_0_13]
    refine Tot_ite (fun c1075 => ?_) (fun c1075 => ?_)
    · have : (60 : Int) ≤ z4.toInt := leI c1075
      exact hk46 z1 z2 z3 u hs_u ⟨by omega, by omega⟩ ⟨by omega, by omega⟩ ⟨by omega, by omega⟩ (by omega)
    · have : ¬ (60 : Int) ≤ z4.toInt := nleI c1075
      refine Tot_bind (tfX12_knowsNow_0 z3 z4 z1 u hs_u.1 ⟨by omega, by omega⟩ ⟨by omega, by omega⟩ ⟨by omega, by omega⟩) (fun q hq => ?_)
      obtain ⟨r1, u2⟩ := q
      have hc_u2 : StM mdX12_knowsNow_0 u u2 := hq.1
      have hs_u2 : StM mdX12_passes_0 u0 u2 := StM_tr hs_u hc_u2 (by decide)
      have : 0 ≤ r1.toInt ∧ r1.toInt ≤ 1 := hq.2.1
      clear hq
      have : (60 * z3).toInt = 60 * z3.toInt := cmul_t (by decide) (by omega) (by omega)
      have : ((60 * z3) + z4).toInt = (60 * z3).toInt + z4.toInt := add_t (by omega) (by omega)
      refine Tot_gd (inb_t (by omega) (by omega)) ?_
      have := narz_t r1
      refine Tot_lt (fun u5 e_u5 => ?_)
      have hs_u5 : StM mdX12_passes_0 u0 u5 := by rw [e_u5]; exact StM_sA hs_u2 (by decide) (by show 0 ≤ (vp_nar .boolean r1).toInt; omega) (by show (vp_nar .boolean r1).toInt ≤ 1; omega) (by decide)
      have : (z4 + 1).toInt = z4.toInt + (1 : Int) := addc_t (by decide) (by omega) (by omega)
      exact ih z1 z2 z3 (z4 + 1) u5 hs_u5 ⟨by omega, by omega⟩ ⟨by omega, by omega⟩ ⟨by omega, by omega⟩ ⟨by omega, by omega⟩ (by omega) (by omega)
set_option maxHeartbeats 400000 in
set_option maxRecDepth 10000 in
theorem tGX12_passes_0_46 (u0 : SX) (g2 : Int) {k2 : Int32 → Int32 → Int32 → SX → Option (Int32 × SX)} (hk2 : ∀ (z1 : Int32) (z2 : Int32) (z3 : Int32) (u : SX), (StM mdX12_passes_0 u0 u) → (0 ≤ z1.toInt ∧ z1.toInt ≤ 120) → (0 ≤ z2.toInt ∧ z2.toInt ≤ 61) → (0 ≤ z3.toInt ∧ z3.toInt ≤ 8) → (g2 < z3.toInt) → Tot (k2 z1 z2 z3 u) (qX12_passes_0 u0)) (z1 : Int32) (z2 : Int32) (z3 : Int32) (u : SX) (hs_u : StM mdX12_passes_0 u0 u) (h0 : 0 ≤ z1.toInt ∧ z1.toInt ≤ 120) (h1 : 0 ≤ z2.toInt ∧ z2.toInt ≤ 61) (h2 : 0 ≤ z3.toInt ∧ z3.toInt ≤ 7) (h3 : g2 ≤ z3.toInt) : Tot (GX12_passes_0_46 k2 z1 z2 z3 u) (qX12_passes_0 u0) := by
  unfold GX12_passes_0_46
  have : (z3 + 1).toInt = z3.toInt + (1 : Int) := addc_t (by decide) (by omega) (by omega)
  exact hk2 z1 z2 (z3 + 1) u hs_u ⟨by omega, by omega⟩ ⟨by omega, by omega⟩ ⟨by omega, by omega⟩ (by omega)
set_option maxHeartbeats 400000 in
set_option maxRecDepth 10000 in
theorem tLX12_passes_0_2 (u0 : SX)  {k52 : Int32 → Int32 → SX → Option (Int32 × SX)} (hk52 : ∀ (z1 : Int32) (z2 : Int32) (u : SX), (StM mdX12_passes_0 u0 u) → (0 ≤ z1.toInt ∧ z1.toInt ≤ 120) → (0 ≤ z2.toInt ∧ z2.toInt ≤ 61) → Tot (k52 z1 z2 u) (qX12_passes_0 u0)) : ∀ (n : Nat) (z1 : Int32) (z2 : Int32) (z3 : Int32) (u : SX), (StM mdX12_passes_0 u0 u) → (0 ≤ z1.toInt ∧ z1.toInt ≤ 120) → (0 ≤ z2.toInt ∧ z2.toInt ≤ 61) → (0 ≤ z3.toInt ∧ z3.toInt ≤ 8) → (8 - z3.toInt < (n : Int)) → Tot (LX12_passes_0_2 k52 n z1 z2 z3 u) (qX12_passes_0 u0) := by
  intro n
  induction n with
  | zero =>
    intro z1 z2 z3 u hs_u h0 h1 h2 hm
    exfalso
    omega
  | succ n ih =>
    intro z1 z2 z3 u hs_u h0 h1 h2 hm
    rw [LX12_passes_0_2]
    have : 0 ≤ (u.1 22).toInt ∧ (u.1 22).toInt ≤ 8 := hs_u.1.1 22
    refine Tot_ite (fun c1076 => ?_) (fun c1076 => ?_)
    · have : (u.1 22).toInt ≤ z3.toInt := leI c1076
      exact hk52 z1 z2 u hs_u ⟨by omega, by omega⟩ ⟨by omega, by omega⟩
    · have : ¬ (u.1 22).toInt ≤ z3.toInt := nleI c1076
      exact tLX12_passes_0_13 u0 (z3.toInt) (tGX12_passes_0_46 u0 (z3.toInt) (fun a1077 a1078 a1079 w1080 hw1080 p1081 p1082 p1083 p1084 => ih a1077 a1078 a1079 w1080 hw1080 p1081 p1082 p1083 (by omega))) 5000 z1 z2 z3 0 u hs_u ⟨by omega, by omega⟩ ⟨by omega, by omega⟩ ⟨by omega, by omega⟩ (by show 0 ≤ (0 : Int) ∧ (0 : Int) ≤ 60; omega) (by omega) (by show 60 - (0 : Int) < ((5000 : Nat) : Int); omega)
set_option maxHeartbeats 400000 in
set_option maxRecDepth 10000 in
theorem tGX12_passes_0_120 (u0 : SX) (g54 : Int) (g75 : Int) {k75 : Int32 → Int32 → Int32 → Int32 → SX → Option (Int32 × SX)} (hk75 : ∀ (z1 : Int32) (z2 : Int32) (z3 : Int32) (z4 : Int32) (u : SX), (StM mdX12_passes_0 u0 u) → (0 ≤ z1.toInt ∧ z1.toInt ≤ 120) → (1 ≤ z2.toInt ∧ z2.toInt ≤ 61) → (0 ≤ z3.toInt ∧ z3.toInt ≤ 60) → (0 ≤ z4.toInt ∧ z4.toInt ≤ 60) → (g54 ≤ z3.toInt) → (g75 < z4.toInt) → Tot (k75 z1 z2 z3 z4 u) (qX12_passes_0 u0)) (z1 : Int32) (z2 : Int32) (z3 : Int32) (z4 : Int32) (u : SX) (hs_u : StM mdX12_passes_0 u0 u) (h0 : 0 ≤ z1.toInt ∧ z1.toInt ≤ 120) (h1 : 1 ≤ z2.toInt ∧ z2.toInt ≤ 61) (h2 : 0 ≤ z3.toInt ∧ z3.toInt ≤ 60) (h3 : 0 ≤ z4.toInt ∧ z4.toInt ≤ 59) (h4 : g54 ≤ z3.toInt) (h5 : g75 ≤ z4.toInt) : Tot (GX12_passes_0_120 k75 z1 z2 z3 z4 u) (qX12_passes_0 u0) := by
  unfold GX12_passes_0_120
  have : (z4 + 1).toInt = z4.toInt + (1 : Int) := addc_t (by decide) (by omega) (by omega)
  exact hk75 z1 z2 z3 (z4 + 1) u hs_u ⟨by omega, by omega⟩ ⟨by omega, by omega⟩ ⟨by omega, by omega⟩ ⟨by omega, by omega⟩ (by omega) (by omega)
set_option maxHeartbeats 400000 in
set_option maxRecDepth 10000 in
theorem tLX12_passes_0_75 (u0 : SX) (g54 : Int) {k126 : Int32 → Int32 → Int32 → SX → Option (Int32 × SX)} (hk126 : ∀ (z1 : Int32) (z2 : Int32) (z3 : Int32) (u : SX), (StM mdX12_passes_0 u0 u) → (0 ≤ z1.toInt ∧ z1.toInt ≤ 120) → (1 ≤ z2.toInt ∧ z2.toInt ≤ 61) → (0 ≤ z3.toInt ∧ z3.toInt ≤ 60) → (g54 ≤ z3.toInt) → Tot (k126 z1 z2 z3 u) (qX12_passes_0 u0)) : ∀ (n : Nat) (z1 : Int32) (z2 : Int32) (z3 : Int32) (z4 : Int32) (u : SX), (StM mdX12_passes_0 u0 u) → (0 ≤ z1.toInt ∧ z1.toInt ≤ 120) → (1 ≤ z2.toInt ∧ z2.toInt ≤ 61) → (0 ≤ z3.toInt ∧ z3.toInt ≤ 60) → (0 ≤ z4.toInt ∧ z4.toInt ≤ 60) → (g54 ≤ z3.toInt) → (60 - z4.toInt < (n : Int)) → Tot (LX12_passes_0_75 k126 n z1 z2 z3 z4 u) (qX12_passes_0 u0) := by
  intro n
  induction n with
  | zero =>
    intro z1 z2 z3 z4 u hs_u h0 h1 h2 h3 h4 hm
    exfalso
    omega
  | succ n ih =>
    intro z1 z2 z3 z4 u hs_u h0 h1 h2 h3 h4 hm
    rw [LX12_passes_0_75]
    refine Tot_ite (fun c1085 => ?_) (fun c1085 => ?_)
    · have : (60 : Int) ≤ z4.toInt := leI c1085
      exact hk126 z1 z2 z3 u hs_u ⟨by omega, by omega⟩ ⟨by omega, by omega⟩ ⟨by omega, by omega⟩ (by omega)
    · have : ¬ (60 : Int) ≤ z4.toInt := nleI c1085
      refine Tot_gd (inb_t (by omega) (by omega)) ?_
      have : 0 ≤ (u.2.1 39 z3.toNatClampNeg).toInt ∧ (u.2.1 39 z3.toNatClampNeg).toInt ≤ 7 := hs_u.1.2.1 39 z3.toNatClampNeg
      have : (60 * (u.2.1 39 z3.toNatClampNeg)).toInt = 60 * (u.2.1 39 z3.toNatClampNeg).toInt := cmul_t (by decide) (by omega) (by omega)
      have : ((60 * (u.2.1 39 z3.toNatClampNeg)) + z4).toInt = (60 * (u.2.1 39 z3.toNatClampNeg)).toInt + z4.toInt := add_t (by omega) (by omega)
      refine Tot_gd (inb_t (by omega) (by omega)) ?_
      have : 0 ≤ (u.2.1 42 (((60 * (u.2.1 39 z3.toNatClampNeg)) + z4)).toNatClampNeg).toInt ∧ (u.2.1 42 (((60 * (u.2.1 39 z3.toNatClampNeg)) + z4)).toNatClampNeg).toInt ≤ 1 := hs_u.1.2.1 42 (((60 * (u.2.1 39 z3.toNatClampNeg)) + z4)).toNatClampNeg
      refine Tot_ite (fun c1086 => ?_) (fun c1086 => ?_)
      · have : (u.2.1 42 (((60 * (u.2.1 39 z3.toNatClampNeg)) + z4)).toNatClampNeg).toInt = (0 : Int) := eqI c1086
        exact tGX12_passes_0_120 u0 g54 (z4.toInt) (fun a1087 a1088 a1089 a1090 w1091 hw1091 p1092 p1093 p1094 p1095 p1096 p1097 => ih a1087 a1088 a1089 a1090 w1091 hw1091 p1092 p1093 p1094 p1095 p1096 (by omega)) z1 z2 z3 z4 u hs_u ⟨by omega, by omega⟩ ⟨by omega, by omega⟩ ⟨by omega, by omega⟩ ⟨by omega, by omega⟩ (by omega) (by omega)
      · have : ¬ (u.2.1 42 (((60 * (u.2.1 39 z3.toNatClampNeg)) + z4)).toNatClampNeg).toInt = (0 : Int) := neI c1086
        refine Tot_gd (inb_t (by omega) (by omega)) ?_
        have : 0 ≤ (u.2.1 40 z3.toNatClampNeg).toInt ∧ (u.2.1 40 z3.toNatClampNeg).toInt ≤ 7 := hs_u.1.2.1 40 z3.toNatClampNeg
        have : (60 * (u.2.1 40 z3.toNatClampNeg)).toInt = 60 * (u.2.1 40 z3.toNatClampNeg).toInt := cmul_t (by decide) (by omega) (by omega)
        have : ((60 * (u.2.1 40 z3.toNatClampNeg)) + z4).toInt = (60 * (u.2.1 40 z3.toNatClampNeg)).toInt + z4.toInt := add_t (by omega) (by omega)
        refine Tot_gd (inb_t (by omega) (by omega)) ?_
        have := narz_t 1
        refine Tot_lt (fun u12 e_u12 => ?_)
        have hs_u12 : StM mdX12_passes_0 u0 u12 := by rw [e_u12]; exact StM_sA hs_u (by decide) (by show 0 ≤ (vp_nar .boolean 1).toInt; omega) (by show (vp_nar .boolean 1).toInt ≤ 1; omega) (by decide)
        exact tGX12_passes_0_120 u0 g54 (z4.toInt) (fun a1098 a1099 a1100 a1101 w1102 hw1102 p1103 p1104 p1105 p1106 p1107 p1108 => ih a1098 a1099 a1100 a1101 w1102 hw1102 p1103 p1104 p1105 p1106 p1107 (by omega)) z1 z2 z3 z4 u12 hs_u12 ⟨by omega, by omega⟩ ⟨by omega, by omega⟩ ⟨by omega, by omega⟩ ⟨by omega, by omega⟩ (by omega) (by omega)
set_option maxHeartbeats 400000 in
set_option maxRecDepth 10000 in
theorem tGX12_passes_0_126 (u0 : SX) (g54 : Int) {k54 : Int32 → Int32 → Int32 → SX → Option (Int32 × SX)} (hk54 : ∀ (z1 : Int32) (z2 : Int32) (z3 : Int32) (u : SX), (StM mdX12_passes_0 u0 u) → (0 ≤ z1.toInt ∧ z1.toInt ≤ 120) → (0 ≤ z2.toInt ∧ z2.toInt ≤ 61) → (0 ≤ z3.toInt ∧ z3.toInt ≤ 61) → (g54 < z3.toInt) → Tot (k54 z1 z2 z3 u) (qX12_passes_0 u0)) (z1 : Int32) (z2 : Int32) (z3 : Int32) (u : SX) (hs_u : StM mdX12_passes_0 u0 u) (h0 : 0 ≤ z1.toInt ∧ z1.toInt ≤ 120) (h1 : 1 ≤ z2.toInt ∧ z2.toInt ≤ 61) (h2 : 0 ≤ z3.toInt ∧ z3.toInt ≤ 60) (h3 : g54 ≤ z3.toInt) : Tot (GX12_passes_0_126 k54 z1 z2 z3 u) (qX12_passes_0 u0) := by
  unfold GX12_passes_0_126
  have : (z3 + 1).toInt = z3.toInt + (1 : Int) := addc_t (by decide) (by omega) (by omega)
  exact hk54 z1 z2 (z3 + 1) u hs_u ⟨by omega, by omega⟩ ⟨by omega, by omega⟩ ⟨by omega, by omega⟩ (by omega)
set_option maxHeartbeats 400000 in
set_option maxRecDepth 10000 in
theorem tLX12_passes_0_54 (u0 : SX)  {k132 : SX → Option (Int32 × SX)} (hk132 : ∀  (u : SX), (StM mdX12_passes_0 u0 u) → Tot (k132  u) (qX12_passes_0 u0)) : ∀ (n : Nat) (z1 : Int32) (z2 : Int32) (z3 : Int32) (u : SX), (StM mdX12_passes_0 u0 u) → (0 ≤ z1.toInt ∧ z1.toInt ≤ 120) → (0 ≤ z2.toInt ∧ z2.toInt ≤ 61) → (0 ≤ z3.toInt ∧ z3.toInt ≤ 61) → (61 - z3.toInt < (n : Int)) → Tot (LX12_passes_0_54 k132 n z1 z2 z3 u) (qX12_passes_0 u0) := by
  intro n
  induction n with
  | zero =>
    intro z1 z2 z3 u hs_u h0 h1 h2 hm
    exfalso
    omega
  | succ n ih =>
    intro z1 z2 z3 u hs_u h0 h1 h2 hm
    rw [LX12_passes_0_54]
    refine Tot_ite (fun c1109 => ?_) (fun c1109 => ?_)
    · have : z2.toInt ≤ z3.toInt := leI c1109
      exact hk132 u hs_u
    · have : ¬ z2.toInt ≤ z3.toInt := nleI c1109
      refine Tot_gd (inb_t (by omega) (by omega)) ?_
      have : 0 ≤ (u.2.1 41 z3.toNatClampNeg).toInt ∧ (u.2.1 41 z3.toNatClampNeg).toInt ≤ 120 := hs_u.1.2.1 41 z3.toNatClampNeg
      refine Tot_ite (fun c1110 => ?_) (fun c1110 => ?_)
      · have : (u.2.1 41 z3.toNatClampNeg).toInt = z1.toInt := eqI c1110
        exact tLX12_passes_0_75 u0 (z3.toInt) (tGX12_passes_0_126 u0 (z3.toInt) (fun a1111 a1112 a1113 w1114 hw1114 p1115 p1116 p1117 p1118 => ih a1111 a1112 a1113 w1114 hw1114 p1115 p1116 p1117 (by omega))) 5000 z1 z2 z3 0 u hs_u ⟨by omega, by omega⟩ ⟨by omega, by omega⟩ ⟨by omega, by omega⟩ (by show 0 ≤ (0 : Int) ∧ (0 : Int) ≤ 60; omega) (by omega) (by show 60 - (0 : Int) < ((5000 : Nat) : Int); omega)
      · exact tGX12_passes_0_126 u0 (z3.toInt) (fun a1119 a1120 a1121 w1122 hw1122 p1123 p1124 p1125 p1126 => ih a1119 a1120 a1121 w1122 hw1122 p1123 p1124 p1125 (by omega)) z1 z2 z3 u hs_u ⟨by omega, by omega⟩ ⟨by omega, by omega⟩ ⟨by omega, by omega⟩ (by omega)
set_option maxHeartbeats 400000 in
set_option maxRecDepth 10000 in
theorem tLX12_passes_0_134 (u0 : SX)    : ∀ (n : Nat) (z3 : Int32) (u : SX), (StM mdX12_passes_0 u0 u) → (0 ≤ z3.toInt ∧ z3.toInt ≤ 480) → (480 - z3.toInt < (n : Int)) → Tot (LX12_passes_0_134 n z3 u) (qX12_passes_0 u0) := by
  intro n
  induction n with
  | zero =>
    intro z3 u hs_u h0 hm
    exfalso
    omega
  | succ n ih =>
    intro z3 u hs_u h0 hm
    rw [LX12_passes_0_134]
    refine Tot_ite (fun c1127 => ?_) (fun c1127 => ?_)
    · have : (480 : Int) ≤ z3.toInt := leI c1127
      exact Tot_some ⟨hs_u, (by show 0 ≤ (0 : Int) ∧ (0 : Int) ≤ 0; omega), trivial⟩
    · have : ¬ (480 : Int) ≤ z3.toInt := nleI c1127
      refine Tot_gd (inb_t (by omega) (by omega)) ?_
      refine Tot_gd (inb_t (by omega) (by omega)) ?_
      have := narz_t (u.2.1 43 z3.toNatClampNeg)
      refine Tot_lt (fun u16 e_u16 => ?_)
      have hs_u16 : StM mdX12_passes_0 u0 u16 := by rw [e_u16]; exact StM_sA hs_u (by decide) (by show 0 ≤ (vp_nar .boolean (u.2.1 43 z3.toNatClampNeg)).toInt; omega) (by show (vp_nar .boolean (u.2.1 43 z3.toNatClampNeg)).toInt ≤ 1; omega) (by decide)
      have : (z3 + 1).toInt = z3.toInt + (1 : Int) := addc_t (by decide) (by omega) (by omega)
      exact ih (z3 + 1) u16 hs_u16 ⟨by omega, by omega⟩ (by omega)
set_option maxHeartbeats 400000 in
set_option maxRecDepth 10000 in
theorem tGX12_passes_0_132 (u0 : SX)     (u : SX) (hs_u : StM mdX12_passes_0 u0 u)  : Tot (GX12_passes_0_132  u) (qX12_passes_0 u0) := by
  unfold GX12_passes_0_132
  exact tLX12_passes_0_134 u0 5000 0 u hs_u (by show 0 ≤ (0 : Int) ∧ (0 : Int) ≤ 480; omega) (by show 480 - (0 : Int) < ((5000 : Nat) : Int); omega)
set_option maxHeartbeats 400000 in
set_option maxRecDepth 10000 in
theorem tGX12_passes_0_52 (u0 : SX)    (z1 : Int32) (z2 : Int32) (u : SX) (hs_u : StM mdX12_passes_0 u0 u) (h0 : 0 ≤ z1.toInt ∧ z1.toInt ≤ 120) (h1 : 0 ≤ z2.toInt ∧ z2.toInt ≤ 61) : Tot (GX12_passes_0_52 z1 z2 u) (qX12_passes_0 u0) := by
  unfold GX12_passes_0_52
  exact tLX12_passes_0_54 u0 (tGX12_passes_0_132 u0) 5000 z1 z2 0 u hs_u ⟨by omega, by omega⟩ ⟨by omega, by omega⟩ (by show 0 ≤ (0 : Int) ∧ (0 : Int) ≤ 61; omega) (by show 61 - (0 : Int) < ((5000 : Nat) : Int); omega)
set_option maxHeartbeats 400000 in
set_option maxRecDepth 10000 in
theorem tfX12_passes_0 (x1 : Int32) (x2 : Int32) (u : SX) (hI : IM u) (h0 : 0 ≤ x1.toInt ∧ x1.toInt ≤ 120) (h1 : 0 ≤ x2.toInt ∧ x2.toInt ≤ 61) : Tot (fX12_passes_0 x1 x2 u) (qX12_passes_0 u) := by
  unfold fX12_passes_0
  have hs_u : StM mdX12_passes_0 u u := StM_rf hI
  exact tLX12_passes_0_2 u (tGX12_passes_0_52 u) 5000 x1 x2 0 u hs_u ⟨by omega, by omega⟩ ⟨by omega, by omega⟩ (by show 0 ≤ (0 : Int) ∧ (0 : Int) ≤ 8; omega) (by show 8 - (0 : Int) < ((5000 : Nat) : Int); omega)

def mdX12_knows_0 : MD := ([0], [42, 43], [], [])
abbrev qX12_knows_0 (u : SX) (q : Int32 × SX) : Prop := StM mdX12_knows_0 u q.2 ∧ ((-1) ≤ q.1.toInt ∧ q.1.toInt ≤ 1) ∧ (True)
set_option maxHeartbeats 400000 in
set_option maxRecDepth 10000 in
theorem tLX12_knows_0_60 (u0 : SX)  {k83 : Int32 → Int32 → Int32 → SX → Option (Int32 × SX)} (hk83 : ∀ (z1 : Int32) (z2 : Int32) (z3 : Int32) (u : SX), (StM mdX12_knows_0 u0 u) → (0 ≤ z1.toInt ∧ z1.toInt ≤ 7) → (0 ≤ z2.toInt ∧ z2.toInt ≤ 1) → (0 ≤ z3.toInt ∧ z3.toInt ≤ 39) → ((z2.toInt ≠ 0 → z3.toInt ≤ 19)) → Tot (k83 z1 z2 z3 u) (qX12_knows_0 u0)) : ∀ (n : Nat) (z1 : Int32) (z2 : Int32) (z3 : Int32) (z4 : Int32) (z5 : Int32) (u : SX), (StM mdX12_knows_0 u0 u) → (0 ≤ z1.toInt ∧ z1.toInt ≤ 7) → (0 ≤ z2.toInt ∧ z2.toInt ≤ 1) → (0 ≤ z3.toInt ∧ z3.toInt ≤ 39) → (0 ≤ z4.toInt ∧ z4.toInt ≤ 120) → (0 ≤ z5.toInt ∧ z5.toInt ≤ 121) → ((z2.toInt ≠ 0 → z3.toInt ≤ 19)) → (121 - z5.toInt < (n : Int)) → Tot (LX12_knows_0_60 k83 n z1 z2 z3 z4 z5 u) (qX12_knows_0 u0) := by
  intro n
  induction n with
  | zero =>
    intro z1 z2 z3 z4 z5 u hs_u h0 h1 h2 h3 h4 h5 hm
    exfalso
    omega
  | succ n ih =>
    intro z1 z2 z3 z4 z5 u hs_u h0 h1 h2 h3 h4 h5 hm
    rw [LX12_knows_0_60]
    refine Tot_ite (fun c1128 => ?_) (fun c1128 => ?_)
    · have : z4.toInt < z5.toInt := ltI c1128
      exact hk83 z1 z2 z3 u hs_u ⟨by omega, by omega⟩ ⟨by omega, by omega⟩ ⟨by omega, by omega⟩ (by omega)
    · have : ¬ z4.toInt < z5.toInt := nltI c1128
      have : 0 ≤ (u.1 25).toInt ∧ (u.1 25).toInt ≤ 60 := hs_u.1.1 25
      refine Tot_bind (tfX12_passes_0 z5 (u.1 25) u hs_u.1 ⟨by omega, by omega⟩ ⟨by omega, by omega⟩) (fun q hq => ?_)
      obtain ⟨r15, u16⟩ := q
      have hc_u16 : StM mdX12_passes_0 u u16 := hq.1
      have hs_u16 : StM mdX12_knows_0 u0 u16 := StM_tr hs_u hc_u16 (by decide)
      have : 0 ≤ r15.toInt ∧ r15.toInt ≤ 0 := hq.2.1
      clear hq
      have : (z5 + 1).toInt = z5.toInt + (1 : Int) := addc_t (by decide) (by omega) (by omega)
      exact ih z1 z2 z3 z4 (z5 + 1) u16 hs_u16 ⟨by omega, by omega⟩ ⟨by omega, by omega⟩ ⟨by omega, by omega⟩ ⟨by omega, by omega⟩ ⟨by omega, by omega⟩ (by omega) (by omega)
set_option maxHeartbeats 400000 in
set_option maxRecDepth 10000 in
theorem tGX12_knows_0_103 (u0 : SX)    (y0 : Int32) (y1 : Int32) (u : SX) (hs_u : StM mdX12_knows_0 u0 u) (h0 : 0 ≤ y0.toInt ∧ y0.toInt ≤ 59) (h1 : 0 ≤ y1.toInt ∧ y1.toInt ≤ 420) : Tot (GX12_knows_0_103 y0 y1 u) (qX12_knows_0 u0) := by
  unfold GX12_knows_0_103
  have : (y1 + y0).toInt = y1.toInt + y0.toInt := add_t (by omega) (by omega)
  refine Tot_gd (inb_t (by omega) (by omega)) ?_
  have : 0 ≤ (u.2.1 42 ((y1 + y0)).toNatClampNeg).toInt ∧ (u.2.1 42 ((y1 + y0)).toNatClampNeg).toInt ≤ 1 := hs_u.1.2.1 42 ((y1 + y0)).toNatClampNeg
  refine Tot_ite (fun c1129 => ?_) (fun c1129 => ?_)
  · have : (u.2.1 42 ((y1 + y0)).toNatClampNeg).toInt = (0 : Int) := eqI c1129
    exact Tot_some ⟨hs_u, (by show (-1) ≤ (0 : Int) ∧ (0 : Int) ≤ 1; omega), trivial⟩
  · have : ¬ (u.2.1 42 ((y1 + y0)).toNatClampNeg).toInt = (0 : Int) := neI c1129
    exact Tot_some ⟨hs_u, (by show (-1) ≤ (1 : Int) ∧ (1 : Int) ≤ 1; omega), trivial⟩
set_option maxHeartbeats 400000 in
set_option maxRecDepth 10000 in
theorem tGX12_knows_0_83 (u0 : SX)    (z1 : Int32) (z2 : Int32) (z3 : Int32) (u : SX) (hs_u : StM mdX12_knows_0 u0 u) (h0 : 0 ≤ z1.toInt ∧ z1.toInt ≤ 7) (h1 : 0 ≤ z2.toInt ∧ z2.toInt ≤ 1) (h2 : 0 ≤ z3.toInt ∧ z3.toInt ≤ 39) (h3 : (z2.toInt ≠ 0 → z3.toInt ≤ 19)) : Tot (GX12_knows_0_83 z1 z2 z3 u) (qX12_knows_0 u0) := by
  unfold GX12_knows_0_83
  refine Tot_ite (fun c1130 => ?_) (fun c1130 => ?_)
  · have : z2.toInt = (0 : Int) := eqI c1130
    have : (60 * z1).toInt = 60 * z1.toInt := cmul_t (by decide) (by omega) (by omega)
    exact tGX12_knows_0_103 u0 z3 (60 * z1) u hs_u ⟨by omega, by omega⟩ ⟨by omega, by omega⟩
  · have : ¬ z2.toInt = (0 : Int) := neI c1130
    have : (40 + z3).toInt = (40 : Int) + z3.toInt := cadd_t (by decide) (by omega) (by omega)
    have : (60 * z1).toInt = 60 * z1.toInt := cmul_t (by decide) (by omega) (by omega)
    exact tGX12_knows_0_103 u0 (40 + z3) (60 * z1) u hs_u ⟨by omega, by omega⟩ ⟨by omega, by omega⟩
set_option maxHeartbeats 400000 in
set_option maxRecDepth 10000 in
theorem tGX12_knows_0_30 (u0 : SX)    (z1 : Int32) (z2 : Int32) (z3 : Int32) (z4 : Int32) (y0 : Int32) (y1 : Int32) (y2 : Int32) (u : SX) (hs_u : StM mdX12_knows_0 u0 u) (h0 : 0 ≤ z1.toInt ∧ z1.toInt ≤ 7) (h1 : 0 ≤ z2.toInt ∧ z2.toInt ≤ 1) (h2 : 0 ≤ y0.toInt ∧ y0.toInt ≤ 40) (h3 : 0 ≤ y1.toInt ∧ y1.toInt ≤ 0) (h4 : y2.toInt = z3.toInt) (h5 : y1.toInt = 0) (h6 : (z2.toInt ≠ 0 → y0.toInt ≤ 20)) : Tot (GX12_knows_0_30 z1 z2 z3 z4 y0 y1 y2 u) (qX12_knows_0 u0) := by
  unfold GX12_knows_0_30
  have : (y0 - 1).toInt = y0.toInt - (1 : Int) := subc_t (by decide) (by omega) (by omega)
  refine Tot_bind (tfX12_isIn y2 y1 (y0 - 1) ⟨by omega, by omega⟩ ⟨by omega, by omega⟩) (fun r6 hq => ?_)
  have : 0 ≤ r6.toInt ∧ r6.toInt ≤ 1 := hq.1
  have : r6.toInt ≠ 0 → (y1.toInt ≤ y2.toInt ∧ y2.toInt ≤ (y0 - 1).toInt) := hq.2
  clear hq
  refine Tot_ite (fun c1131 => ?_) (fun c1131 => ?_)
  · have : r6.toInt = (0 : Int) := eqI c1131
    exact Tot_some ⟨hs_u, (by show (-1) ≤ (-1 : Int) ∧ (-1 : Int) ≤ 1; omega), trivial⟩
  · have : ¬ r6.toInt = (0 : Int) := neI c1131
    have : 0 ≤ (u.1 1).toInt ∧ (u.1 1).toInt ≤ 120 := hs_u.1.1 1
    refine Tot_bind (tfX12_isIn z4 0 (u.1 1) (by show (-100000) ≤ (0 : Int) ∧ (0 : Int) ≤ 400; omega) ⟨by omega, by omega⟩) (fun r9 hq => ?_)
    have : 0 ≤ r9.toInt ∧ r9.toInt ≤ 1 := hq.1
    have : r9.toInt ≠ 0 → ((0 : Int) ≤ z4.toInt ∧ z4.toInt ≤ (u.1 1).toInt) := hq.2
    clear hq
    refine Tot_ite (fun c1132 => ?_) (fun c1132 => ?_)
    · have : r9.toInt = (0 : Int) := eqI c1132
      exact Tot_some ⟨hs_u, (by show (-1) ≤ (-1 : Int) ∧ (-1 : Int) ≤ 1; omega), trivial⟩
    · have : ¬ r9.toInt = (0 : Int) := neI c1132
      refine Tot_bind (tfX12_nobodyKnows_0 u hs_u.1) (fun q hq => ?_)
      obtain ⟨r12, u13⟩ := q
      have hc_u13 : StM mdX12_nobodyKnows_0 u u13 := hq.1
      have hs_u13 : StM mdX12_knows_0 u0 u13 := StM_tr hs_u hc_u13 (by decide)
      have : 0 ≤ r12.toInt ∧ r12.toInt ≤ 0 := hq.2.1
      clear hq
      exact tLX12_knows_0_60 u0 (tGX12_knows_0_83 u0) 5000 z1 z2 z3 z4 0 u13 hs_u13 ⟨by omega, by omega⟩ ⟨by omega, by omega⟩ ⟨by omega, by omega⟩ ⟨by omega, by omega⟩ (by show 0 ≤ (0 : Int) ∧ (0 : Int) ≤ 121; omega) (by omega) (by show 121 - (0 : Int) < ((5000 : Nat) : Int); omega)
set_option maxHeartbeats 400000 in
set_option maxRecDepth 10000 in
theorem tfX12_knows_0 (x1 : Int32) (x2 : Int32) (x3 : Int32) (x4 : Int32) (u : SX) (hI : IM u) (h0 : 0 ≤ x2.toInt ∧ x2.toInt ≤ 1) : Tot (fX12_knows_0 x1 x2 x3 x4 u) (qX12_knows_0 u) := by
  unfold fX12_knows_0
  have hs_u : StM mdX12_knows_0 u u := StM_rf hI
  refine Tot_lt (fun u1 e_u1 => ?_)
  have hs_u1 : StM mdX12_knows_0 u u1 := by rw [e_u1]; exact StM_sI hs_u (by decide) (by show 0 ≤ (0 : Int); omega) (by show (0 : Int) ≤ 1; omega)
  refine Tot_bind (tfX12_isHouse_0 x1 u1 hs_u1.1) (fun q hq => ?_)
  obtain ⟨r3, u4⟩ := q
  have hc_u4 : StM mdX12_isHouse_0 u1 u4 := hq.1
  have hs_u4 : StM mdX12_knows_0 u u4 := StM_tr hs_u1 hc_u4 (by decide)
  have : 0 ≤ r3.toInt ∧ r3.toInt ≤ 1 := hq.2.1
  have : (u1.1 22).toInt = (u.1 22).toInt := by rw [e_u1]; rfl
  have : 0 ≤ (u.1 22).toInt ∧ (u.1 22).toInt ≤ 8 := hs_u.1.1 22
  have : r3.toInt ≠ 0 → ((0 : Int) ≤ x1.toInt ∧ x1.toInt < (u1.1 22).toInt) := hq.2.2
  clear hq
  refine Tot_ite (fun c1133 => ?_) (fun c1133 => ?_)
  · have : r3.toInt = (0 : Int) := eqI c1133
    exact Tot_some ⟨hs_u4, (by show (-1) ≤ (-1 : Int) ∧ (-1 : Int) ≤ 1; omega), trivial⟩
  · have : ¬ r3.toInt = (0 : Int) := neI c1133
    refine Tot_ite (fun c1134 => ?_) (fun c1134 => ?_)
    · have : x2.toInt = (0 : Int) := eqI c1134
      have : (u4.1 23).toInt = (u1.1 23).toInt := congrArg Int32.toInt (hc_u4.2.1 23 (by decide))
      have : (u1.1 23).toInt = (u.1 23).toInt := by rw [e_u1]; rfl
      have : 0 ≤ (u.1 23).toInt ∧ (u.1 23).toInt ≤ 40 := hs_u.1.1 23
      exact tGX12_knows_0_30 u x1 x2 x3 x4 (u4.1 23) 0 x3 u4 hs_u4 ⟨by omega, by omega⟩ ⟨by omega, by omega⟩ ⟨by omega, by omega⟩ (by show 0 ≤ (0 : Int) ∧ (0 : Int) ≤ 0; omega) (by omega) (by show (0 : Int) = 0; omega) (by omega)
    · have : ¬ x2.toInt = (0 : Int) := neI c1134
      have : (u4.1 24).toInt = (u1.1 24).toInt := congrArg Int32.toInt (hc_u4.2.1 24 (by decide))
      have : (u1.1 24).toInt = (u.1 24).toInt := by rw [e_u1]; rfl
      have : 0 ≤ (u.1 24).toInt ∧ (u.1 24).toInt ≤ 20 := hs_u.1.1 24
      exact tGX12_knows_0_30 u x1 x2 x3 x4 (u4.1 24) 0 x3 u4 hs_u4 ⟨by omega, by omega⟩ ⟨by omega, by omega⟩ ⟨by omega, by omega⟩ (by show 0 ≤ (0 : Int) ∧ (0 : Int) ≤ 0; omega) (by omega) (by show (0 : Int) = 0; omega) (by omega)

def mdX12_meets_0 : MD := ([], [], [], [])
abbrev qX12_meets_0 (u : SX) (q : Int32 × SX) : Prop := StM mdX12_meets_0 u q.2 ∧ (0 ≤ q.1.toInt ∧ q.1.toInt ≤ 1) ∧ (True)
set_option maxHeartbeats 400000 in
set_option maxRecDepth 10000 in
theorem tGX12_meets_0_105 (u0 : SX) (g2 : Int) {k2 : Int32 → Int32 → SX → Option (Int32 × SX)} (hk2 : ∀ (z1 : Int32) (z2 : Int32) (u : SX), (StM mdX12_meets_0 u0 u) → (0 ≤ z1.toInt ∧ z1.toInt ≤ 7) → (0 ≤ z2.toInt ∧ z2.toInt ≤ 40) → (g2 < z2.toInt) → Tot (k2 z1 z2 u) (qX12_meets_0 u0)) (z1 : Int32) (z2 : Int32) (u : SX) (hs_u : StM mdX12_meets_0 u0 u) (h0 : 0 ≤ z1.toInt ∧ z1.toInt ≤ 7) (h1 : 0 ≤ z2.toInt ∧ z2.toInt ≤ 39) (h2 : g2 ≤ z2.toInt) : Tot (GX12_meets_0_105 k2 z1 z2 u) (qX12_meets_0 u0) := by
  unfold GX12_meets_0_105
  have : (z2 + 1).toInt = z2.toInt + (1 : Int) := addc_t (by decide) (by omega) (by omega)
  exact hk2 z1 (z2 + 1) u hs_u ⟨by omega, by omega⟩ ⟨by omega, by omega⟩ (by omega)
set_option maxHeartbeats 400000 in
set_option maxRecDepth 10000 in
theorem tGX12_meets_0_99 (u0 : SX) (g2 : Int) (g39 : Int) {k39 : Int32 → Int32 → Int32 → SX → Option (Int32 × SX)} (hk39 : ∀ (z1 : Int32) (z2 : Int32) (z3 : Int32) (u : SX), (StM mdX12_meets_0 u0 u) → (0 ≤ z1.toInt ∧ z1.toInt ≤ 7) → (0 ≤ z2.toInt ∧ z2.toInt ≤ 39) → (40 ≤ z3.toInt ∧ z3.toInt ≤ 60) → (g2 ≤ z2.toInt) → (g39 < z3.toInt) → Tot (k39 z1 z2 z3 u) (qX12_meets_0 u0)) (z1 : Int32) (z2 : Int32) (z3 : Int32) (u : SX) (hs_u : StM mdX12_meets_0 u0 u) (h0 : 0 ≤ z1.toInt ∧ z1.toInt ≤ 7) (h1 : 0 ≤ z2.toInt ∧ z2.toInt ≤ 39) (h2 : 40 ≤ z3.toInt ∧ z3.toInt ≤ 59) (h3 : g2 ≤ z2.toInt) (h4 : g39 ≤ z3.toInt) : Tot (GX12_meets_0_99 k39 z1 z2 z3 u) (qX12_meets_0 u0) := by
  unfold GX12_meets_0_99
  have : (z3 + 1).toInt = z3.toInt + (1 : Int) := addc_t (by decide) (by omega) (by omega)
  exact hk39 z1 z2 (z3 + 1) u hs_u ⟨by omega, by omega⟩ ⟨by omega, by omega⟩ ⟨by omega, by omega⟩ (by omega) (by omega)
set_option maxHeartbeats 400000 in
set_option maxRecDepth 10000 in
theorem tLX12_meets_0_39 (u0 : SX) (g2 : Int) {k105 : Int32 → Int32 → SX → Option (Int32 × SX)} (hk105 : ∀ (z1 : Int32) (z2 : Int32) (u : SX), (StM mdX12_meets_0 u0 u) → (0 ≤ z1.toInt ∧ z1.toInt ≤ 7) → (0 ≤ z2.toInt ∧ z2.toInt ≤ 39) → (g2 ≤ z2.toInt) → Tot (k105 z1 z2 u) (qX12_meets_0 u0)) : ∀ (n : Nat) (z1 : Int32) (z2 : Int32) (z3 : Int32) (u : SX), (StM mdX12_meets_0 u0 u) → (0 ≤ z1.toInt ∧ z1.toInt ≤ 7) → (0 ≤ z2.toInt ∧ z2.toInt ≤ 39) → (40 ≤ z3.toInt ∧ z3.toInt ≤ 60) → (g2 ≤ z2.toInt) → (60 - z3.toInt < (n : Int)) → Tot (LX12_meets_0_39 k105 n z1 z2 z3 u) (qX12_meets_0 u0) := by
  intro n
  induction n with
  | zero =>
    intro z1 z2 z3 u hs_u h0 h1 h2 h3 hm
    exfalso
    omega
  | succ n ih =>
    intro z1 z2 z3 u hs_u h0 h1 h2 h3 hm
    rw [LX12_meets_0_39]
    have : 0 ≤ (u.1 24).toInt ∧ (u.1 24).toInt ≤ 20 := hs_u.1.1 24
    have : (40 + (u.1 24)).toInt = (40 : Int) + (u.1 24).toInt := cadd_t (by decide) (by omega) (by omega)
    refine Tot_ite (fun c1135 => ?_) (fun c1135 => ?_)
    · have : (40 + (u.1 24)).toInt ≤ z3.toInt := leI c1135
      exact hk105 z1 z2 u hs_u ⟨by omega, by omega⟩ ⟨by omega, by omega⟩ (by omega)
    · have : ¬ (40 + (u.1 24)).toInt ≤ z3.toInt := nleI c1135
      have : (60 * z1).toInt = 60 * z1.toInt := cmul_t (by decide) (by omega) (by omega)
      have : ((60 * z1) + z3).toInt = (60 * z1).toInt + z3.toInt := add_t (by omega) (by omega)
      refine Tot_gd (inb_t (by omega) (by omega)) ?_
      have : 0 ≤ (u.2.1 42 (((60 * z1) + z3)).toNatClampNeg).toInt ∧ (u.2.1 42 (((60 * z1) + z3)).toNatClampNeg).toInt ≤ 1 := hs_u.1.2.1 42 (((60 * z1) + z3)).toNatClampNeg
      refine Tot_ite (fun c1136 => ?_) (fun c1136 => ?_)
      · have : (u.2.1 42 (((60 * z1) + z3)).toNatClampNeg).toInt = (0 : Int) := eqI c1136
        exact tGX12_meets_0_99 u0 g2 (z3.toInt) (fun a1137 a1138 a1139 w1140 hw1140 p1141 p1142 p1143 p1144 p1145 => ih a1137 a1138 a1139 w1140 hw1140 p1141 p1142 p1143 p1144 (by omega)) z1 z2 z3 u hs_u ⟨by omega, by omega⟩ ⟨by omega, by omega⟩ ⟨by omega, by omega⟩ (by omega) (by omega)
      · have : ¬ (u.2.1 42 (((60 * z1) + z3)).toNatClampNeg).toInt = (0 : Int) := neI c1136
        refine Tot_gd (inb_t (by omega) (by omega)) ?_
        refine Tot_gd (inb_t (by omega) (by omega)) ?_
        refine Tot_gd (inb_t (by omega) (by omega)) ?_
        refine Tot_gd (inb_t (by omega) (by omega)) ?_
        have : (-400) ≤ (u.2.1 37 z3.toNatClampNeg).toInt ∧ (u.2.1 37 z3.toNatClampNeg).toInt ≤ 400 := hs_u.1.2.1 37 z3.toNatClampNeg
        have : (-400) ≤ (u.2.1 37 z2.toNatClampNeg).toInt ∧ (u.2.1 37 z2.toNatClampNeg).toInt ≤ 400 := hs_u.1.2.1 37 z2.toNatClampNeg
        have : ((u.2.1 37 z3.toNatClampNeg).toInt < (u.2.1 37 z2.toNatClampNeg).toInt ∧ (if (u.2.1 37 z3.toNatClampNeg) < (u.2.1 37 z2.toNatClampNeg) then (u.2.1 37 z3.toNatClampNeg) else (u.2.1 37 z2.toNatClampNeg)).toInt = (u.2.1 37 z3.toNatClampNeg).toInt) ∨ (¬ (u.2.1 37 z3.toNatClampNeg).toInt < (u.2.1 37 z2.toNatClampNeg).toInt ∧ (if (u.2.1 37 z3.toNatClampNeg) < (u.2.1 37 z2.toNatClampNeg) then (u.2.1 37 z3.toNatClampNeg) else (u.2.1 37 z2.toNatClampNeg)).toInt = (u.2.1 37 z2.toNatClampNeg).toInt) := ite_lt_t (x := (u.2.1 37 z3.toNatClampNeg)) (y := (u.2.1 37 z2.toNatClampNeg)) (p := (u.2.1 37 z3.toNatClampNeg)) (q := (u.2.1 37 z2.toNatClampNeg))
        have : (-400) ≤ (u.2.1 36 z2.toNatClampNeg).toInt ∧ (u.2.1 36 z2.toNatClampNeg).toInt ≤ 400 := hs_u.1.2.1 36 z2.toNatClampNeg
        have : (-400) ≤ (u.2.1 36 z3.toNatClampNeg).toInt ∧ (u.2.1 36 z3.toNatClampNeg).toInt ≤ 400 := hs_u.1.2.1 36 z3.toNatClampNeg
        have : ((u.2.1 36 z2.toNatClampNeg).toInt < (u.2.1 36 z3.toNatClampNeg).toInt ∧ (if (u.2.1 36 z2.toNatClampNeg) < (u.2.1 36 z3.toNatClampNeg) then (u.2.1 36 z3.toNatClampNeg) else (u.2.1 36 z2.toNatClampNeg)).toInt = (u.2.1 36 z3.toNatClampNeg).toInt) ∨ (¬ (u.2.1 36 z2.toNatClampNeg).toInt < (u.2.1 36 z3.toNatClampNeg).toInt ∧ (if (u.2.1 36 z2.toNatClampNeg) < (u.2.1 36 z3.toNatClampNeg) then (u.2.1 36 z3.toNatClampNeg) else (u.2.1 36 z2.toNatClampNeg)).toInt = (u.2.1 36 z2.toNatClampNeg).toInt) := ite_lt_t (x := (u.2.1 36 z2.toNatClampNeg)) (y := (u.2.1 36 z3.toNatClampNeg)) (p := (u.2.1 36 z3.toNatClampNeg)) (q := (u.2.1 36 z2.toNatClampNeg))
        refine Tot_ite (fun c1146 => ?_) (fun c1146 => ?_)
        · have : (if (u.2.1 37 z3.toNatClampNeg) < (u.2.1 37 z2.toNatClampNeg) then (u.2.1 37 z3.toNatClampNeg) else (u.2.1 37 z2.toNatClampNeg)).toInt < (if (u.2.1 36 z2.toNatClampNeg) < (u.2.1 36 z3.toNatClampNeg) then (u.2.1 36 z3.toNatClampNeg) else (u.2.1 36 z2.toNatClampNeg)).toInt := ltI c1146
          exact tGX12_meets_0_99 u0 g2 (z3.toInt) (fun a1147 a1148 a1149 w1150 hw1150 p1151 p1152 p1153 p1154 p1155 => ih a1147 a1148 a1149 w1150 hw1150 p1151 p1152 p1153 p1154 (by omega)) z1 z2 z3 u hs_u ⟨by omega, by omega⟩ ⟨by omega, by omega⟩ ⟨by omega, by omega⟩ (by omega) (by omega)
        · have : ¬ (if (u.2.1 37 z3.toNatClampNeg) < (u.2.1 37 z2.toNatClampNeg) then (u.2.1 37 z3.toNatClampNeg) else (u.2.1 37 z2.toNatClampNeg)).toInt < (if (u.2.1 36 z2.toNatClampNeg) < (u.2.1 36 z3.toNatClampNeg) then (u.2.1 36 z3.toNatClampNeg) else (u.2.1 36 z2.toNatClampNeg)).toInt := nltI c1146
          refine Tot_gd (by decide) ?_
          exact Tot_some ⟨hs_u, (by show 0 ≤ (1 : Int) ∧ (1 : Int) ≤ 1; omega), trivial⟩
set_option maxHeartbeats 400000 in
set_option maxRecDepth 10000 in
theorem tLX12_meets_0_2 (u0 : SX)    : ∀ (n : Nat) (z1 : Int32) (z2 : Int32) (u : SX), (StM mdX12_meets_0 u0 u) → (0 ≤ z1.toInt ∧ z1.toInt ≤ 7) → (0 ≤ z2.toInt ∧ z2.toInt ≤ 40) → (40 - z2.toInt < (n : Int)) → Tot (LX12_meets_0_2 n z1 z2 u) (qX12_meets_0 u0) := by
  intro n
  induction n with
  | zero =>
    intro z1 z2 u hs_u h0 h1 hm
    exfalso
    omega
  | succ n ih =>
    intro z1 z2 u hs_u h0 h1 hm
    rw [LX12_meets_0_2]
    have : 0 ≤ (u.1 23).toInt ∧ (u.1 23).toInt ≤ 40 := hs_u.1.1 23
    refine Tot_ite (fun c1156 => ?_) (fun c1156 => ?_)
    · have : (u.1 23).toInt ≤ z2.toInt := leI c1156
      refine Tot_gd (by decide) ?_
      exact Tot_some ⟨hs_u, (by show 0 ≤ (0 : Int) ∧ (0 : Int) ≤ 1; omega), trivial⟩
    · have : ¬ (u.1 23).toInt ≤ z2.toInt := nleI c1156
      have : (60 * z1).toInt = 60 * z1.toInt := cmul_t (by decide) (by omega) (by omega)
      have : ((60 * z1) + z2).toInt = (60 * z1).toInt + z2.toInt := add_t (by omega) (by omega)
      refine Tot_gd (inb_t (by omega) (by omega)) ?_
      have : 0 ≤ (u.2.1 42 (((60 * z1) + z2)).toNatClampNeg).toInt ∧ (u.2.1 42 (((60 * z1) + z2)).toNatClampNeg).toInt ≤ 1 := hs_u.1.2.1 42 (((60 * z1) + z2)).toNatClampNeg
      refine Tot_ite (fun c1157 => ?_) (fun c1157 => ?_)
      · have : (u.2.1 42 (((60 * z1) + z2)).toNatClampNeg).toInt = (0 : Int) := eqI c1157
        exact tGX12_meets_0_105 u0 (z2.toInt) (fun a1158 a1159 w1160 hw1160 p1161 p1162 p1163 => ih a1158 a1159 w1160 hw1160 p1161 p1162 (by omega)) z1 z2 u hs_u ⟨by omega, by omega⟩ ⟨by omega, by omega⟩ (by omega)
      · have : ¬ (u.2.1 42 (((60 * z1) + z2)).toNatClampNeg).toInt = (0 : Int) := neI c1157
        refine Tot_gd (inb_t (by omega) (by omega)) ?_
        have : (-400) ≤ (u.2.1 36 z2.toNatClampNeg).toInt ∧ (u.2.1 36 z2.toNatClampNeg).toInt ≤ 400 := hs_u.1.2.1 36 z2.toNatClampNeg
        refine Tot_ite (fun c1164 => ?_) (fun c1164 => ?_)
        · have : (0 : Int) < (u.2.1 36 z2.toNatClampNeg).toInt := ltI c1164
          exact tLX12_meets_0_39 u0 (z2.toInt) (tGX12_meets_0_105 u0 (z2.toInt) (fun a1165 a1166 w1167 hw1167 p1168 p1169 p1170 => ih a1165 a1166 w1167 hw1167 p1168 p1169 (by omega))) 5000 z1 z2 40 u hs_u ⟨by omega, by omega⟩ ⟨by omega, by omega⟩ (by show 40 ≤ (40 : Int) ∧ (40 : Int) ≤ 60; omega) (by omega) (by show 60 - (40 : Int) < ((5000 : Nat) : Int); omega)
        · have : ¬ (0 : Int) < (u.2.1 36 z2.toNatClampNeg).toInt := nltI c1164
          exact tGX12_meets_0_105 u0 (z2.toInt) (fun a1171 a1172 w1173 hw1173 p1174 p1175 p1176 => ih a1171 a1172 w1173 hw1173 p1174 p1175 (by omega)) z1 z2 u hs_u ⟨by omega, by omega⟩ ⟨by omega, by omega⟩ (by omega)
set_option maxHeartbeats 400000 in
set_option maxRecDepth 10000 in
theorem tfX12_meets_0 (x1 : Int32) (u : SX) (hI : IM u) (h0 : 0 ≤ x1.toInt ∧ x1.toInt ≤ 7) : Tot (fX12_meets_0 x1 u) (qX12_meets_0 u) := by
  unfold fX12_meets_0
  have hs_u : StM mdX12_meets_0 u u := StM_rf hI
  exact tLX12_meets_0_2 u 5000 x1 0 u hs_u ⟨by omega, by omega⟩ (by show 0 ≤ (0 : Int) ∧ (0 : Int) ≤ 40; omega) (by show 40 - (0 : Int) < ((5000 : Nat) : Int); omega)

def mdX12_metBy_0 : MD := ([], [42, 43], [], [])
abbrev qX12_metBy_0 (u : SX) (q : Int32 × SX) : Prop := StM mdX12_metBy_0 u q.2 ∧ ((-1) ≤ q.1.toInt ∧ q.1.toInt ≤ 120) ∧ (True)
set_option maxHeartbeats 400000 in
set_option maxRecDepth 10000 in
theorem tLX12_metBy_0_20 (u0 : SX) (g6 : Int) {k46 : Int32 → Int32 → Int32 → SX → Option (Int32 × SX)} (hk46 : ∀ (z1 : Int32) (z2 : Int32) (z3 : Int32) (u : SX), (StM mdX12_metBy_0 u0 u) → (0 ≤ z1.toInt ∧ z1.toInt ≤ 61) → (0 ≤ z2.toInt ∧ z2.toInt ≤ 120) → (0 ≤ z3.toInt ∧ z3.toInt ≤ 120) → (g6 ≤ z3.toInt) → Tot (k46 z1 z2 z3 u) (qX12_metBy_0 u0)) : ∀ (n : Nat) (z1 : Int32) (z2 : Int32) (z3 : Int32) (z4 : Int32) (u : SX), (StM mdX12_metBy_0 u0 u) → (0 ≤ z1.toInt ∧ z1.toInt ≤ 61) → (0 ≤ z2.toInt ∧ z2.toInt ≤ 120) → (0 ≤ z3.toInt ∧ z3.toInt ≤ 120) → (0 ≤ z4.toInt ∧ z4.toInt ≤ 8) → (g6 ≤ z3.toInt) → (8 - z4.toInt < (n : Int)) → Tot (LX12_metBy_0_20 k46 n z1 z2 z3 z4 u) (qX12_metBy_0 u0) := by
  intro n
  induction n with
  | zero =>
    intro z1 z2 z3 z4 u hs_u h0 h1 h2 h3 h4 hm
    exfalso
    omega
  | succ n ih =>
    intro z1 z2 z3 z4 u hs_u h0 h1 h2 h3 h4 hm
    rw [LX12_metBy_0_20]
    have : 0 ≤ (u.1 22).toInt ∧ (u.1 22).toInt ≤ 8 := hs_u.1.1 22
    refine Tot_ite (fun c1177 => ?_) (fun c1177 => ?_)
    · have : (u.1 22).toInt ≤ z4.toInt := leI c1177
      exact hk46 z1 z2 z3 u hs_u ⟨by omega, by omega⟩ ⟨by omega, by omega⟩ ⟨by omega, by omega⟩ (by omega)
    · have : ¬ (u.1 22).toInt ≤ z4.toInt := nleI c1177
      refine Tot_bind (tfX12_meets_0 z4 u hs_u.1 ⟨by omega, by omega⟩) (fun q hq => ?_)
      obtain ⟨r7, u8⟩ := q
      have hc_u8 : StM mdX12_meets_0 u u8 := hq.1
      have hs_u8 : StM mdX12_metBy_0 u0 u8 := StM_tr hs_u hc_u8 (by decide)
      have : 0 ≤ r7.toInt ∧ r7.toInt ≤ 1 := hq.2.1
      clear hq
      refine Tot_ite (fun c1178 => ?_) (fun c1178 => ?_)
      · have : r7.toInt = (0 : Int) := eqI c1178
        have : (z4 + 1).toInt = z4.toInt + (1 : Int) := addc_t (by decide) (by omega) (by omega)
        exact ih z1 z2 z3 (z4 + 1) u8 hs_u8 ⟨by omega, by omega⟩ ⟨by omega, by omega⟩ ⟨by omega, by omega⟩ ⟨by omega, by omega⟩ (by omega) (by omega)
      · have : ¬ r7.toInt = (0 : Int) := neI c1178
        exact Tot_some ⟨hs_u8, (by show (-1) ≤ z3.toInt ∧ z3.toInt ≤ 120; omega), trivial⟩
set_option maxHeartbeats 400000 in
set_option maxRecDepth 10000 in
theorem tGX12_metBy_0_46 (u0 : SX) (g6 : Int) {k6 : Int32 → Int32 → Int32 → SX → Option (Int32 × SX)} (hk6 : ∀ (z1 : Int32) (z2 : Int32) (z3 : Int32) (u : SX), (StM mdX12_metBy_0 u0 u) → (0 ≤ z1.toInt ∧ z1.toInt ≤ 61) → ((-1) ≤ z2.toInt ∧ z2.toInt ≤ 120) → (0 ≤ z3.toInt ∧ z3.toInt ≤ 121) → (g6 < z3.toInt) → Tot (k6 z1 z2 z3 u) (qX12_metBy_0 u0)) (z1 : Int32) (z2 : Int32) (z3 : Int32) (u : SX) (hs_u : StM mdX12_metBy_0 u0 u) (h0 : 0 ≤ z1.toInt ∧ z1.toInt ≤ 61) (h1 : 0 ≤ z2.toInt ∧ z2.toInt ≤ 120) (h2 : 0 ≤ z3.toInt ∧ z3.toInt ≤ 120) (h3 : g6 ≤ z3.toInt) : Tot (GX12_metBy_0_46 k6 z1 z2 z3 u) (qX12_metBy_0 u0) := by
  unfold GX12_metBy_0_46
  have : (z3 + 1).toInt = z3.toInt + (1 : Int) := addc_t (by decide) (by omega) (by omega)
  exact hk6 z1 z2 (z3 + 1) u hs_u ⟨by omega, by omega⟩ ⟨by omega, by omega⟩ ⟨by omega, by omega⟩ (by omega)
set_option maxHeartbeats 400000 in
set_option maxRecDepth 10000 in
theorem tLX12_metBy_0_6 (u0 : SX)    : ∀ (n : Nat) (z1 : Int32) (z2 : Int32) (z3 : Int32) (u : SX), (StM mdX12_metBy_0 u0 u) → (0 ≤ z1.toInt ∧ z1.toInt ≤ 61) → ((-1) ≤ z2.toInt ∧ z2.toInt ≤ 120) → (0 ≤ z3.toInt ∧ z3.toInt ≤ 121) → (121 - z3.toInt < (n : Int)) → Tot (LX12_metBy_0_6 n z1 z2 z3 u) (qX12_metBy_0 u0) := by
  intro n
  induction n with
  | zero =>
    intro z1 z2 z3 u hs_u h0 h1 h2 hm
    exfalso
    omega
  | succ n ih =>
    intro z1 z2 z3 u hs_u h0 h1 h2 hm
    rw [LX12_metBy_0_6]
    refine Tot_ite (fun c1179 => ?_) (fun c1179 => ?_)
    · have : z2.toInt < z3.toInt := ltI c1179
      exact Tot_some ⟨hs_u, (by show (-1) ≤ (-1 : Int) ∧ (-1 : Int) ≤ 120; omega), trivial⟩
    · have : ¬ z2.toInt < z3.toInt := nltI c1179
      refine Tot_bind (tfX12_passes_0 z3 z1 u hs_u.1 ⟨by omega, by omega⟩ ⟨by omega, by omega⟩) (fun q hq => ?_)
      obtain ⟨r4, u5⟩ := q
      have hc_u5 : StM mdX12_passes_0 u u5 := hq.1
      have hs_u5 : StM mdX12_metBy_0 u0 u5 := StM_tr hs_u hc_u5 (by decide)
      have : 0 ≤ r4.toInt ∧ r4.toInt ≤ 0 := hq.2.1
      clear hq
      exact tLX12_metBy_0_20 u0 (z3.toInt) (tGX12_metBy_0_46 u0 (z3.toInt) (fun a1180 a1181 a1182 w1183 hw1183 p1184 p1185 p1186 p1187 => ih a1180 a1181 a1182 w1183 hw1183 p1184 p1185 p1186 (by omega))) 5000 z1 z2 z3 0 u5 hs_u5 ⟨by omega, by omega⟩ ⟨by omega, by omega⟩ ⟨by omega, by omega⟩ (by show 0 ≤ (0 : Int) ∧ (0 : Int) ≤ 8; omega) (by omega) (by show 8 - (0 : Int) < ((5000 : Nat) : Int); omega)
set_option maxHeartbeats 400000 in
set_option maxRecDepth 10000 in
theorem tfX12_metBy_0 (x1 : Int32) (x2 : Int32) (u : SX) (hI : IM u) (h0 : 0 ≤ x1.toInt ∧ x1.toInt ≤ 61) (h1 : (-1) ≤ x2.toInt ∧ x2.toInt ≤ 120) : Tot (fX12_metBy_0 x1 x2 u) (qX12_metBy_0 u) := by
  unfold fX12_metBy_0
  have hs_u : StM mdX12_metBy_0 u u := StM_rf hI
  refine Tot_bind (tfX12_nobodyKnows_0 u hs_u.1) (fun q hq => ?_)
  obtain ⟨r1, u2⟩ := q
  have hc_u2 : StM mdX12_nobodyKnows_0 u u2 := hq.1
  have hs_u2 : StM mdX12_metBy_0 u u2 := StM_tr hs_u hc_u2 (by decide)
  have : 0 ≤ r1.toInt ∧ r1.toInt ≤ 0 := hq.2.1
  clear hq
  exact tLX12_metBy_0_6 u 5000 x1 x2 0 u2 hs_u2 ⟨by omega, by omega⟩ ⟨by omega, by omega⟩ (by show 0 ≤ (0 : Int) ∧ (0 : Int) ≤ 121; omega) (by show 121 - (0 : Int) < ((5000 : Nat) : Int); omega)

def mdX12_met_0 : MD := ([0], [42, 43], [], [])
abbrev qX12_met_0 (u : SX) (q : Int32 × SX) : Prop := StM mdX12_met_0 u q.2 ∧ ((-1) ≤ q.1.toInt ∧ q.1.toInt ≤ 120) ∧ (True)
set_option maxHeartbeats 400000 in
set_option maxRecDepth 10000 in
theorem tfX12_met_0  (u : SX) (hI : IM u)  : Tot (fX12_met_0  u) (qX12_met_0 u) := by
  unfold fX12_met_0
  have hs_u : StM mdX12_met_0 u u := StM_rf hI
  refine Tot_lt (fun u1 e_u1 => ?_)
  have hs_u1 : StM mdX12_met_0 u u1 := by rw [e_u1]; exact StM_sI hs_u (by decide) (by show 0 ≤ (0 : Int); omega) (by show (0 : Int) ≤ 1; omega)
  have : (u1.1 25).toInt = (u.1 25).toInt := by rw [e_u1]; rfl
  have : 0 ≤ (u.1 25).toInt ∧ (u.1 25).toInt ≤ 60 := hs_u.1.1 25
  have : (u1.1 1).toInt = (u.1 1).toInt := by rw [e_u1]; rfl
  have : 0 ≤ (u.1 1).toInt ∧ (u.1 1).toInt ≤ 120 := hs_u.1.1 1
  refine Tot_bind (tfX12_metBy_0 (u1.1 25) (u1.1 1) u1 hs_u1.1 ⟨by omega, by omega⟩ ⟨by omega, by omega⟩) (fun q hq => ?_)
  obtain ⟨r3, u4⟩ := q
  have hc_u4 : StM mdX12_metBy_0 u1 u4 := hq.1
  have hs_u4 : StM mdX12_met_0 u u4 := StM_tr hs_u1 hc_u4 (by decide)
  have : (-1) ≤ r3.toInt ∧ r3.toInt ≤ 120 := hq.2.1
  clear hq
  exact Tot_some ⟨hs_u4, (by show (-1) ≤ r3.toInt ∧ r3.toInt ≤ 120; omega), trivial⟩

def mdX12_wasSent_0 : MD := ([], [], [], [])
abbrev qX12_wasSent_0 (u : SX) (q : Int32 × SX) : Prop := StM mdX12_wasSent_0 u q.2 ∧ (0 ≤ q.1.toInt ∧ q.1.toInt ≤ 1) ∧ (True)
set_option maxHeartbeats 400000 in
set_option maxRecDepth 10000 in
theorem tGX12_wasSent_0_47 (u0 : SX) (g3 : Int) {k3 : Int32 → Int32 → Int32 → Int32 → SX → Option (Int32 × SX)} (hk3 : ∀ (z1 : Int32) (z2 : Int32) (z3 : Int32) (z4 : Int32) (u : SX), (StM mdX12_wasSent_0 u0 u) → (0 ≤ z1.toInt ∧ z1.toInt ≤ 7) → (0 ≤ z2.toInt ∧ z2.toInt ≤ 7) → (0 ≤ z3.toInt ∧ z3.toInt ≤ 120) → (0 ≤ z4.toInt ∧ z4.toInt ≤ 60) → (g3 < z4.toInt) → Tot (k3 z1 z2 z3 z4 u) (qX12_wasSent_0 u0)) (z1 : Int32) (z2 : Int32) (z3 : Int32) (z4 : Int32) (u : SX) (hs_u : StM mdX12_wasSent_0 u0 u) (h0 : 0 ≤ z1.toInt ∧ z1.toInt ≤ 7) (h1 : 0 ≤ z2.toInt ∧ z2.toInt ≤ 7) (h2 : 0 ≤ z3.toInt ∧ z3.toInt ≤ 120) (h3 : 0 ≤ z4.toInt ∧ z4.toInt ≤ 59) (h4 : g3 ≤ z4.toInt) : Tot (GX12_wasSent_0_47 k3 z1 z2 z3 z4 u) (qX12_wasSent_0 u0) := by
  unfold GX12_wasSent_0_47
  have : (z4 + 1).toInt = z4.toInt + (1 : Int) := addc_t (by decide) (by omega) (by omega)
  exact hk3 z1 z2 z3 (z4 + 1) u hs_u ⟨by omega, by omega⟩ ⟨by omega, by omega⟩ ⟨by omega, by omega⟩ ⟨by omega, by omega⟩ (by omega)
set_option maxHeartbeats 400000 in
set_option maxRecDepth 10000 in
theorem tLX12_wasSent_0_3 (u0 : SX)    : ∀ (n : Nat) (z1 : Int32) (z2 : Int32) (z3 : Int32) (z4 : Int32) (u : SX), (StM mdX12_wasSent_0 u0 u) → (0 ≤ z1.toInt ∧ z1.toInt ≤ 7) → (0 ≤ z2.toInt ∧ z2.toInt ≤ 7) → (0 ≤ z3.toInt ∧ z3.toInt ≤ 120) → (0 ≤ z4.toInt ∧ z4.toInt ≤ 60) → (60 - z4.toInt < (n : Int)) → Tot (LX12_wasSent_0_3 n z1 z2 z3 z4 u) (qX12_wasSent_0 u0) := by
  intro n
  induction n with
  | zero =>
    intro z1 z2 z3 z4 u hs_u h0 h1 h2 h3 hm
    exfalso
    omega
  | succ n ih =>
    intro z1 z2 z3 z4 u hs_u h0 h1 h2 h3 hm
    rw [LX12_wasSent_0_3]
    have : 0 ≤ (u.1 25).toInt ∧ (u.1 25).toInt ≤ 60 := hs_u.1.1 25
    refine Tot_ite (fun c1188 => ?_) (fun c1188 => ?_)
    · have : (u.1 25).toInt ≤ z4.toInt := leI c1188
      refine Tot_gd (by decide) ?_
      exact Tot_some ⟨hs_u, (by show 0 ≤ (0 : Int) ∧ (0 : Int) ≤ 1; omega), trivial⟩
    · have : ¬ (u.1 25).toInt ≤ z4.toInt := nleI c1188
      refine Tot_gd (inb_t (by omega) (by omega)) ?_
      have : 0 ≤ (u.2.1 39 z4.toNatClampNeg).toInt ∧ (u.2.1 39 z4.toNatClampNeg).toInt ≤ 7 := hs_u.1.2.1 39 z4.toNatClampNeg
      refine Tot_ite (fun c1189 => ?_) (fun c1189 => ?_)
      · have : (u.2.1 39 z4.toNatClampNeg).toInt = z1.toInt := eqI c1189
        refine Tot_gd (inb_t (by omega) (by omega)) ?_
        have : 0 ≤ (u.2.1 40 z4.toNatClampNeg).toInt ∧ (u.2.1 40 z4.toNatClampNeg).toInt ≤ 7 := hs_u.1.2.1 40 z4.toNatClampNeg
        refine Tot_ite (fun c1190 => ?_) (fun c1190 => ?_)
        · have : (u.2.1 40 z4.toNatClampNeg).toInt = z2.toInt := eqI c1190
          refine Tot_gd (inb_t (by omega) (by omega)) ?_
          have : 0 ≤ (u.2.1 41 z4.toNatClampNeg).toInt ∧ (u.2.1 41 z4.toNatClampNeg).toInt ≤ 120 := hs_u.1.2.1 41 z4.toNatClampNeg
          refine Tot_ite (fun c1191 => ?_) (fun c1191 => ?_)
          · have : (u.2.1 41 z4.toNatClampNeg).toInt = z3.toInt := eqI c1191
            refine Tot_gd (by decide) ?_
            exact Tot_some ⟨hs_u, (by show 0 ≤ (1 : Int) ∧ (1 : Int) ≤ 1; omega), trivial⟩
          · exact tGX12_wasSent_0_47 u0 (z4.toInt) (fun a1192 a1193 a1194 a1195 w1196 hw1196 p1197 p1198 p1199 p1200 p1201 => ih a1192 a1193 a1194 a1195 w1196 hw1196 p1197 p1198 p1199 p1200 (by omega)) z1 z2 z3 z4 u hs_u ⟨by omega, by omega⟩ ⟨by omega, by omega⟩ ⟨by omega, by omega⟩ ⟨by omega, by omega⟩ (by omega)
        · exact tGX12_wasSent_0_47 u0 (z4.toInt) (fun a1202 a1203 a1204 a1205 w1206 hw1206 p1207 p1208 p1209 p1210 p1211 => ih a1202 a1203 a1204 a1205 w1206 hw1206 p1207 p1208 p1209 p1210 (by omega)) z1 z2 z3 z4 u hs_u ⟨by omega, by omega⟩ ⟨by omega, by omega⟩ ⟨by omega, by omega⟩ ⟨by omega, by omega⟩ (by omega)
      · exact tGX12_wasSent_0_47 u0 (z4.toInt) (fun a1212 a1213 a1214 a1215 w1216 hw1216 p1217 p1218 p1219 p1220 p1221 => ih a1212 a1213 a1214 a1215 w1216 hw1216 p1217 p1218 p1219 p1220 (by omega)) z1 z2 z3 z4 u hs_u ⟨by omega, by omega⟩ ⟨by omega, by omega⟩ ⟨by omega, by omega⟩ ⟨by omega, by omega⟩ (by omega)
set_option maxHeartbeats 400000 in
set_option maxRecDepth 10000 in
theorem tfX12_wasSent_0 (x1 : Int32) (x2 : Int32) (x3 : Int32) (u : SX) (hI : IM u) (h0 : 0 ≤ x1.toInt ∧ x1.toInt ≤ 7) (h1 : 0 ≤ x2.toInt ∧ x2.toInt ≤ 7) (h2 : 0 ≤ x3.toInt ∧ x3.toInt ≤ 120) : Tot (fX12_wasSent_0 x1 x2 x3 u) (qX12_wasSent_0 u) := by
  unfold fX12_wasSent_0
  have hs_u : StM mdX12_wasSent_0 u u := StM_rf hI
  exact tLX12_wasSent_0_3 u 5000 x1 x2 x3 0 u hs_u ⟨by omega, by omega⟩ ⟨by omega, by omega⟩ ⟨by omega, by omega⟩ (by show 0 ≤ (0 : Int) ∧ (0 : Int) ≤ 60; omega) (by show 60 - (0 : Int) < ((5000 : Nat) : Int); omega)

def mdX12_sooner_0 : MD := ([0], [39, 40, 41, 42, 43], [], [])
abbrev qX12_sooner_0 (u : SX) (q : Int32 × SX) : Prop := StM mdX12_sooner_0 u q.2 ∧ ((-1) ≤ q.1.toInt ∧ q.1.toInt ≤ 120) ∧ (True)
set_option maxHeartbeats 400000 in
set_option maxRecDepth 10000 in
theorem tGX12_sooner_0_187 (u0 : SX) (g59 : Int) (g68 : Int) (g80 : Int) {k80 : Int32 → Int32 → Int32 → Int32 → Int32 → Int32 → Int32 → Int32 → Int32 → SX → Option (Int32 × SX)} (hk80 : ∀ (z1 : Int32) (z2 : Int32) (z3 : Int32) (z4 : Int32) (z5 : Int32) (z6 : Int32) (z7 : Int32) (z8 : Int32) (z9 : Int32) (u : SX), (StM mdX12_sooner_0 u0 u) → (0 ≤ z1.toInt ∧ z1.toInt ≤ 3) → ((-1) ≤ z2.toInt ∧ z2.toInt ≤ 120) → ((-1) ≤ z3.toInt ∧ z3.toInt ≤ 7) → ((-1) ≤ z4.toInt ∧ z4.toInt ≤ 7) → ((-1) ≤ z5.toInt ∧ z5.toInt ≤ 120) → ((-1) ≤ z6.toInt ∧ z6.toInt ≤ 120) → (0 ≤ z7.toInt ∧ z7.toInt ≤ 120) → (0 ≤ z8.toInt ∧ z8.toInt ≤ 7) → (0 ≤ z9.toInt ∧ z9.toInt ≤ 8) → (g59 ≤ z7.toInt) → (g68 ≤ z8.toInt) → (g80 < z9.toInt) → Tot (k80 z1 z2 z3 z4 z5 z6 z7 z8 z9 u) (qX12_sooner_0 u0)) (z1 : Int32) (z2 : Int32) (z3 : Int32) (z4 : Int32) (z5 : Int32) (z6 : Int32) (z7 : Int32) (z8 : Int32) (z9 : Int32) (u : SX) (hs_u : StM mdX12_sooner_0 u0 u) (h0 : 0 ≤ z1.toInt ∧ z1.toInt ≤ 3) (h1 : (-1) ≤ z2.toInt ∧ z2.toInt ≤ 120) (h2 : (-1) ≤ z3.toInt ∧ z3.toInt ≤ 7) (h3 : (-1) ≤ z4.toInt ∧ z4.toInt ≤ 7) (h4 : (-1) ≤ z5.toInt ∧ z5.toInt ≤ 120) (h5 : (-1) ≤ z6.toInt ∧ z6.toInt ≤ 120) (h6 : 0 ≤ z7.toInt ∧ z7.toInt ≤ 120) (h7 : 0 ≤ z8.toInt ∧ z8.toInt ≤ 7) (h8 : 0 ≤ z9.toInt ∧ z9.toInt ≤ 7) (h9 : g59 ≤ z7.toInt) (h10 : g68 ≤ z8.toInt) (h11 : g80 ≤ z9.toInt) : Tot (GX12_sooner_0_187 k80 z1 z2 z3 z4 z5 z6 z7 z8 z9 u) (qX12_sooner_0 u0) := by
  unfold GX12_sooner_0_187
  have : (z9 + 1).toInt = z9.toInt + (1 : Int) := addc_t (by decide) (by omega) (by omega)
  exact hk80 z1 z2 z3 z4 z5 z6 z7 z8 (z9 + 1) u hs_u ⟨by omega, by omega⟩ ⟨by omega, by omega⟩ ⟨by omega, by omega⟩ ⟨by omega, by omega⟩ ⟨by omega, by omega⟩ ⟨by omega, by omega⟩ ⟨by omega, by omega⟩ ⟨by omega, by omega⟩ ⟨by omega, by omega⟩ (by omega) (by omega) (by omega)
set_option maxHeartbeats 400000 in
set_option maxRecDepth 10000 in
theorem tLX12_sooner_0_80 (u0 : SX) (g59 : Int) (g68 : Int) {k193 : Int32 → Int32 → Int32 → Int32 → Int32 → Int32 → Int32 → Int32 → SX → Option (Int32 × SX)} (hk193 : ∀ (z1 : Int32) (z2 : Int32) (z3 : Int32) (z4 : Int32) (z5 : Int32) (z6 : Int32) (z7 : Int32) (z8 : Int32) (u : SX), (StM mdX12_sooner_0 u0 u) → (0 ≤ z1.toInt ∧ z1.toInt ≤ 3) → ((-1) ≤ z2.toInt ∧ z2.toInt ≤ 120) → ((-1) ≤ z3.toInt ∧ z3.toInt ≤ 7) → ((-1) ≤ z4.toInt ∧ z4.toInt ≤ 7) → ((-1) ≤ z5.toInt ∧ z5.toInt ≤ 120) → ((-1) ≤ z6.toInt ∧ z6.toInt ≤ 120) → (0 ≤ z7.toInt ∧ z7.toInt ≤ 120) → (0 ≤ z8.toInt ∧ z8.toInt ≤ 7) → (g59 ≤ z7.toInt) → (g68 ≤ z8.toInt) → Tot (k193 z1 z2 z3 z4 z5 z6 z7 z8 u) (qX12_sooner_0 u0)) : ∀ (n : Nat) (z1 : Int32) (z2 : Int32) (z3 : Int32) (z4 : Int32) (z5 : Int32) (z6 : Int32) (z7 : Int32) (z8 : Int32) (z9 : Int32) (u : SX), (StM mdX12_sooner_0 u0 u) → (0 ≤ z1.toInt ∧ z1.toInt ≤ 3) → ((-1) ≤ z2.toInt ∧ z2.toInt ≤ 120) → ((-1) ≤ z3.toInt ∧ z3.toInt ≤ 7) → ((-1) ≤ z4.toInt ∧ z4.toInt ≤ 7) → ((-1) ≤ z5.toInt ∧ z5.toInt ≤ 120) → ((-1) ≤ z6.toInt ∧ z6.toInt ≤ 120) → (0 ≤ z7.toInt ∧ z7.toInt ≤ 120) → (0 ≤ z8.toInt ∧ z8.toInt ≤ 7) → (0 ≤ z9.toInt ∧ z9.toInt ≤ 8) → (g59 ≤ z7.toInt) → (g68 ≤ z8.toInt) → (8 - z9.toInt < (n : Int)) → Tot (LX12_sooner_0_80 k193 n z1 z2 z3 z4 z5 z6 z7 z8 z9 u) (qX12_sooner_0 u0) := by
  intro n
  induction n with
  | zero =>
    intro z1 z2 z3 z4 z5 z6 z7 z8 z9 u hs_u h0 h1 h2 h3 h4 h5 h6 h7 h8 h9 h10 hm
    exfalso
    omega
  | succ n ih =>
    intro z1 z2 z3 z4 z5 z6 z7 z8 z9 u hs_u h0 h1 h2 h3 h4 h5 h6 h7 h8 h9 h10 hm
    rw [LX12_sooner_0_80]
    have : 0 ≤ (u.1 22).toInt ∧ (u.1 22).toInt ≤ 8 := hs_u.1.1 22
    refine Tot_ite (fun c1222 => ?_) (fun c1222 => ?_)
    · have : (u.1 22).toInt ≤ z9.toInt := leI c1222
      exact hk193 z1 z2 z3 z4 z5 z6 z7 z8 u hs_u ⟨by omega, by omega⟩ ⟨by omega, by omega⟩ ⟨by omega, by omega⟩ ⟨by omega, by omega⟩ ⟨by omega, by omega⟩ ⟨by omega, by omega⟩ ⟨by omega, by omega⟩ ⟨by omega, by omega⟩ (by omega) (by omega)
    · have : ¬ (u.1 22).toInt ≤ z9.toInt := nleI c1222
      refine Tot_ite (fun c1223 => ?_) (fun c1223 => ?_)
      · have : z8.toInt = z9.toInt := eqI c1223
        exact tGX12_sooner_0_187 u0 g59 g68 (z9.toInt) (fun a1224 a1225 a1226 a1227 a1228 a1229 a1230 a1231 a1232 w1233 hw1233 p1234 p1235 p1236 p1237 p1238 p1239 p1240 p1241 p1242 p1243 p1244 p1245 => ih a1224 a1225 a1226 a1227 a1228 a1229 a1230 a1231 a1232 w1233 hw1233 p1234 p1235 p1236 p1237 p1238 p1239 p1240 p1241 p1242 p1243 p1244 (by omega)) z1 z2 z3 z4 z5 z6 z7 z8 z9 u hs_u ⟨by omega, by omega⟩ ⟨by omega, by omega⟩ ⟨by omega, by omega⟩ ⟨by omega, by omega⟩ ⟨by omega, by omega⟩ ⟨by omega, by omega⟩ ⟨by omega, by omega⟩ ⟨by omega, by omega⟩ ⟨by omega, by omega⟩ (by omega) (by omega) (by omega)
      · refine Tot_bind (tfX12_wasSent_0 z8 z9 z7 u hs_u.1 ⟨by omega, by omega⟩ ⟨by omega, by omega⟩ ⟨by omega, by omega⟩) (fun q hq => ?_)
        obtain ⟨r9, u10⟩ := q
        have hc_u10 : StM mdX12_wasSent_0 u u10 := hq.1
        have hs_u10 : StM mdX12_sooner_0 u0 u10 := StM_tr hs_u hc_u10 (by decide)
        have : 0 ≤ r9.toInt ∧ r9.toInt ≤ 1 := hq.2.1
        clear hq
        refine Tot_ite (fun c1246 => ?_) (fun c1246 => ?_)
        · have : r9.toInt = (0 : Int) := eqI c1246
          have : (u10.1 25).toInt = (u.1 25).toInt := congrArg Int32.toInt (hc_u10.2.1 25 (by decide))
          have : 0 ≤ (u.1 25).toInt ∧ (u.1 25).toInt ≤ 60 := hs_u.1.1 25
          refine Tot_gd (inb_t (by omega) (by omega)) ?_
          refine Tot_lt (fun u13 e_u13 => ?_)
          have hs_u13 : StM mdX12_sooner_0 u0 u13 := by rw [e_u13]; exact StM_sA hs_u10 (by decide) (by show 0 ≤ z8.toInt; omega) (by show z8.toInt ≤ 7; omega) (by decide)
          have : (u13.1 25).toInt = (u10.1 25).toInt := by rw [e_u13]; rfl
          refine Tot_gd (inb_t (by omega) (by omega)) ?_
          refine Tot_lt (fun u16 e_u16 => ?_)
          have hs_u16 : StM mdX12_sooner_0 u0 u16 := by rw [e_u16]; exact StM_sA hs_u13 (by decide) (by show 0 ≤ z9.toInt; omega) (by show z9.toInt ≤ 7; omega) (by decide)
          have : (u16.1 25).toInt = (u13.1 25).toInt := by rw [e_u16]; rfl
          refine Tot_gd (inb_t (by omega) (by omega)) ?_
          refine Tot_lt (fun u19 e_u19 => ?_)
          have hs_u19 : StM mdX12_sooner_0 u0 u19 := by rw [e_u19]; exact StM_sA hs_u16 (by decide) (by show 0 ≤ z7.toInt; omega) (by show z7.toInt ≤ 120; omega) (by decide)
          have : (u19.1 25).toInt = (u16.1 25).toInt := by rw [e_u19]; rfl
          have : ((u19.1 25) + 1).toInt = (u19.1 25).toInt + (1 : Int) := addc_t (by decide) (by omega) (by omega)
          refine Tot_bind (tfX12_metBy_0 ((u19.1 25) + 1) z2 u19 hs_u19.1 ⟨by omega, by omega⟩ ⟨by omega, by omega⟩) (fun q hq => ?_)
          obtain ⟨r21, u22⟩ := q
          have hc_u22 : StM mdX12_metBy_0 u19 u22 := hq.1
          have hs_u22 : StM mdX12_sooner_0 u0 u22 := StM_tr hs_u19 hc_u22 (by decide)
          have : (-1) ≤ r21.toInt ∧ r21.toInt ≤ 120 := hq.2.1
          clear hq
          refine Tot_ite (fun c1247 => ?_) (fun c1247 => ?_)
          · have : r21.toInt = (-1 : Int) := eqI c1247
            exact tGX12_sooner_0_187 u0 g59 g68 (z9.toInt) (fun a1248 a1249 a1250 a1251 a1252 a1253 a1254 a1255 a1256 w1257 hw1257 p1258 p1259 p1260 p1261 p1262 p1263 p1264 p1265 p1266 p1267 p1268 p1269 => ih a1248 a1249 a1250 a1251 a1252 a1253 a1254 a1255 a1256 w1257 hw1257 p1258 p1259 p1260 p1261 p1262 p1263 p1264 p1265 p1266 p1267 p1268 (by omega)) z1 z2 z3 z4 z5 z6 z7 z8 z9 u22 hs_u22 ⟨by omega, by omega⟩ ⟨by omega, by omega⟩ ⟨by omega, by omega⟩ ⟨by omega, by omega⟩ ⟨by omega, by omega⟩ ⟨by omega, by omega⟩ ⟨by omega, by omega⟩ ⟨by omega, by omega⟩ ⟨by omega, by omega⟩ (by omega) (by omega) (by omega)
          · have : ¬ r21.toInt = (-1 : Int) := neI c1247
            have : (r21 - 1).toInt = r21.toInt - (1 : Int) := subc_t (by decide) (by omega) (by omega)
            refine Tot_lt (fun v24 e_v24 => ?_)
            have : v24.toInt = (r21 - 1).toInt := congrArg Int32.toInt e_v24
            exact tGX12_sooner_0_187 u0 g59 g68 (z9.toInt) (fun a1270 a1271 a1272 a1273 a1274 a1275 a1276 a1277 a1278 w1279 hw1279 p1280 p1281 p1282 p1283 p1284 p1285 p1286 p1287 p1288 p1289 p1290 p1291 => ih a1270 a1271 a1272 a1273 a1274 a1275 a1276 a1277 a1278 w1279 hw1279 p1280 p1281 p1282 p1283 p1284 p1285 p1286 p1287 p1288 p1289 p1290 (by omega)) z1 v24 z8 z9 z7 r21 z7 z8 z9 u22 hs_u22 ⟨by omega, by omega⟩ ⟨by omega, by omega⟩ ⟨by omega, by omega⟩ ⟨by omega, by omega⟩ ⟨by omega, by omega⟩ ⟨by omega, by omega⟩ ⟨by omega, by omega⟩ ⟨by omega, by omega⟩ ⟨by omega, by omega⟩ (by omega) (by omega) (by omega)
        · have : ¬ r9.toInt = (0 : Int) := neI c1246
          exact tGX12_sooner_0_187 u0 g59 g68 (z9.toInt) (fun a1292 a1293 a1294 a1295 a1296 a1297 a1298 a1299 a1300 w1301 hw1301 p1302 p1303 p1304 p1305 p1306 p1307 p1308 p1309 p1310 p1311 p1312 p1313 => ih a1292 a1293 a1294 a1295 a1296 a1297 a1298 a1299 a1300 w1301 hw1301 p1302 p1303 p1304 p1305 p1306 p1307 p1308 p1309 p1310 p1311 p1312 (by omega)) z1 z2 z3 z4 z5 z6 z7 z8 z9 u10 hs_u10 ⟨by omega, by omega⟩ ⟨by omega, by omega⟩ ⟨by omega, by omega⟩ ⟨by omega, by omega⟩ ⟨by omega, by omega⟩ ⟨by omega, by omega⟩ ⟨by omega, by omega⟩ ⟨by omega, by omega⟩ ⟨by omega, by omega⟩ (by omega) (by omega) (by omega)
set_option maxHeartbeats 400000 in
set_option maxRecDepth 10000 in
theorem tGX12_sooner_0_193 (u0 : SX) (g59 : Int) (g68 : Int) {k68 : Int32 → Int32 → Int32 → Int32 → Int32 → Int32 → Int32 → Int32 → SX → Option (Int32 × SX)} (hk68 : ∀ (z1 : Int32) (z2 : Int32) (z3 : Int32) (z4 : Int32) (z5 : Int32) (z6 : Int32) (z7 : Int32) (z8 : Int32) (u : SX), (StM mdX12_sooner_0 u0 u) → (0 ≤ z1.toInt ∧ z1.toInt ≤ 3) → ((-1) ≤ z2.toInt ∧ z2.toInt ≤ 120) → ((-1) ≤ z3.toInt ∧ z3.toInt ≤ 7) → ((-1) ≤ z4.toInt ∧ z4.toInt ≤ 7) → ((-1) ≤ z5.toInt ∧ z5.toInt ≤ 120) → ((-1) ≤ z6.toInt ∧ z6.toInt ≤ 120) → (0 ≤ z7.toInt ∧ z7.toInt ≤ 120) → (0 ≤ z8.toInt ∧ z8.toInt ≤ 8) → (g59 ≤ z7.toInt) → (g68 < z8.toInt) → Tot (k68 z1 z2 z3 z4 z5 z6 z7 z8 u) (qX12_sooner_0 u0)) (z1 : Int32) (z2 : Int32) (z3 : Int32) (z4 : Int32) (z5 : Int32) (z6 : Int32) (z7 : Int32) (z8 : Int32) (u : SX) (hs_u : StM mdX12_sooner_0 u0 u) (h0 : 0 ≤ z1.toInt ∧ z1.toInt ≤ 3) (h1 : (-1) ≤ z2.toInt ∧ z2.toInt ≤ 120) (h2 : (-1) ≤ z3.toInt ∧ z3.toInt ≤ 7) (h3 : (-1) ≤ z4.toInt ∧ z4.toInt ≤ 7) (h4 : (-1) ≤ z5.toInt ∧ z5.toInt ≤ 120) (h5 : (-1) ≤ z6.toInt ∧ z6.toInt ≤ 120) (h6 : 0 ≤ z7.toInt ∧ z7.toInt ≤ 120) (h7 : 0 ≤ z8.toInt ∧ z8.toInt ≤ 7) (h8 : g59 ≤ z7.toInt) (h9 : g68 ≤ z8.toInt) : Tot (GX12_sooner_0_193 k68 z1 z2 z3 z4 z5 z6 z7 z8 u) (qX12_sooner_0 u0) := by
  unfold GX12_sooner_0_193
  have : (z8 + 1).toInt = z8.toInt + (1 : Int) := addc_t (by decide) (by omega) (by omega)
  exact hk68 z1 z2 z3 z4 z5 z6 z7 (z8 + 1) u hs_u ⟨by omega, by omega⟩ ⟨by omega, by omega⟩ ⟨by omega, by omega⟩ ⟨by omega, by omega⟩ ⟨by omega, by omega⟩ ⟨by omega, by omega⟩ ⟨by omega, by omega⟩ ⟨by omega, by omega⟩ (by omega) (by omega)
set_option maxHeartbeats 400000 in
set_option maxRecDepth 10000 in
theorem tLX12_sooner_0_68 (u0 : SX) (g59 : Int) {k199 : Int32 → Int32 → Int32 → Int32 → Int32 → Int32 → Int32 → SX → Option (Int32 × SX)} (hk199 : ∀ (z1 : Int32) (z2 : Int32) (z3 : Int32) (z4 : Int32) (z5 : Int32) (z6 : Int32) (z7 : Int32) (u : SX), (StM mdX12_sooner_0 u0 u) → (0 ≤ z1.toInt ∧ z1.toInt ≤ 3) → ((-1) ≤ z2.toInt ∧ z2.toInt ≤ 120) → ((-1) ≤ z3.toInt ∧ z3.toInt ≤ 7) → ((-1) ≤ z4.toInt ∧ z4.toInt ≤ 7) → ((-1) ≤ z5.toInt ∧ z5.toInt ≤ 120) → ((-1) ≤ z6.toInt ∧ z6.toInt ≤ 120) → (0 ≤ z7.toInt ∧ z7.toInt ≤ 120) → (g59 ≤ z7.toInt) → Tot (k199 z1 z2 z3 z4 z5 z6 z7 u) (qX12_sooner_0 u0)) : ∀ (n : Nat) (z1 : Int32) (z2 : Int32) (z3 : Int32) (z4 : Int32) (z5 : Int32) (z6 : Int32) (z7 : Int32) (z8 : Int32) (u : SX), (StM mdX12_sooner_0 u0 u) → (0 ≤ z1.toInt ∧ z1.toInt ≤ 3) → ((-1) ≤ z2.toInt ∧ z2.toInt ≤ 120) → ((-1) ≤ z3.toInt ∧ z3.toInt ≤ 7) → ((-1) ≤ z4.toInt ∧ z4.toInt ≤ 7) → ((-1) ≤ z5.toInt ∧ z5.toInt ≤ 120) → ((-1) ≤ z6.toInt ∧ z6.toInt ≤ 120) → (0 ≤ z7.toInt ∧ z7.toInt ≤ 120) → (0 ≤ z8.toInt ∧ z8.toInt ≤ 8) → (g59 ≤ z7.toInt) → (8 - z8.toInt < (n : Int)) → Tot (LX12_sooner_0_68 k199 n z1 z2 z3 z4 z5 z6 z7 z8 u) (qX12_sooner_0 u0) := by
  intro n
  induction n with
  | zero =>
    intro z1 z2 z3 z4 z5 z6 z7 z8 u hs_u h0 h1 h2 h3 h4 h5 h6 h7 h8 hm
    exfalso
    omega
  | succ n ih =>
    intro z1 z2 z3 z4 z5 z6 z7 z8 u hs_u h0 h1 h2 h3 h4 h5 h6 h7 h8 hm
    rw [LX12_sooner_0_68]
    have : 0 ≤ (u.1 22).toInt ∧ (u.1 22).toInt ≤ 8 := hs_u.1.1 22
    refine Tot_ite (fun c1314 => ?_) (fun c1314 => ?_)
    · have : (u.1 22).toInt ≤ z8.toInt := leI c1314
      exact hk199 z1 z2 z3 z4 z5 z6 z7 u hs_u ⟨by omega, by omega⟩ ⟨by omega, by omega⟩ ⟨by omega, by omega⟩ ⟨by omega, by omega⟩ ⟨by omega, by omega⟩ ⟨by omega, by omega⟩ ⟨by omega, by omega⟩ (by omega)
    · have : ¬ (u.1 22).toInt ≤ z8.toInt := nleI c1314
      exact tLX12_sooner_0_80 u0 g59 (z8.toInt) (tGX12_sooner_0_193 u0 g59 (z8.toInt) (fun a1315 a1316 a1317 a1318 a1319 a1320 a1321 a1322 w1323 hw1323 p1324 p1325 p1326 p1327 p1328 p1329 p1330 p1331 p1332 p1333 => ih a1315 a1316 a1317 a1318 a1319 a1320 a1321 a1322 w1323 hw1323 p1324 p1325 p1326 p1327 p1328 p1329 p1330 p1331 p1332 (by omega))) 5000 z1 z2 z3 z4 z5 z6 z7 z8 0 u hs_u ⟨by omega, by omega⟩ ⟨by omega, by omega⟩ ⟨by omega, by omega⟩ ⟨by omega, by omega⟩ ⟨by omega, by omega⟩ ⟨by omega, by omega⟩ ⟨by omega, by omega⟩ ⟨by omega, by omega⟩ (by show 0 ≤ (0 : Int) ∧ (0 : Int) ≤ 8; omega) (by omega) (by omega) (by show 8 - (0 : Int) < ((5000 : Nat) : Int); omega)
set_option maxHeartbeats 400000 in
set_option maxRecDepth 10000 in
theorem tGX12_sooner_0_199 (u0 : SX) (g59 : Int) {k59 : Int32 → Int32 → Int32 → Int32 → Int32 → Int32 → Int32 → SX → Option (Int32 × SX)} (hk59 : ∀ (z1 : Int32) (z2 : Int32) (z3 : Int32) (z4 : Int32) (z5 : Int32) (z6 : Int32) (z7 : Int32) (u : SX), (StM mdX12_sooner_0 u0 u) → (0 ≤ z1.toInt ∧ z1.toInt ≤ 3) → ((-1) ≤ z2.toInt ∧ z2.toInt ≤ 120) → ((-1) ≤ z3.toInt ∧ z3.toInt ≤ 7) → ((-1) ≤ z4.toInt ∧ z4.toInt ≤ 7) → ((-1) ≤ z5.toInt ∧ z5.toInt ≤ 120) → ((-1) ≤ z6.toInt ∧ z6.toInt ≤ 120) → (0 ≤ z7.toInt ∧ z7.toInt ≤ 121) → (g59 < z7.toInt) → Tot (k59 z1 z2 z3 z4 z5 z6 z7 u) (qX12_sooner_0 u0)) (z1 : Int32) (z2 : Int32) (z3 : Int32) (z4 : Int32) (z5 : Int32) (z6 : Int32) (z7 : Int32) (u : SX) (hs_u : StM mdX12_sooner_0 u0 u) (h0 : 0 ≤ z1.toInt ∧ z1.toInt ≤ 3) (h1 : (-1) ≤ z2.toInt ∧ z2.toInt ≤ 120) (h2 : (-1) ≤ z3.toInt ∧ z3.toInt ≤ 7) (h3 : (-1) ≤ z4.toInt ∧ z4.toInt ≤ 7) (h4 : (-1) ≤ z5.toInt ∧ z5.toInt ≤ 120) (h5 : (-1) ≤ z6.toInt ∧ z6.toInt ≤ 120) (h6 : 0 ≤ z7.toInt ∧ z7.toInt ≤ 120) (h7 : g59 ≤ z7.toInt) : Tot (GX12_sooner_0_199 k59 z1 z2 z3 z4 z5 z6 z7 u) (qX12_sooner_0 u0) := by
  unfold GX12_sooner_0_199
  have : (z7 + 1).toInt = z7.toInt + (1 : Int) := addc_t (by decide) (by omega) (by omega)
  exact hk59 z1 z2 z3 z4 z5 z6 (z7 + 1) u hs_u ⟨by omega, by omega⟩ ⟨by omega, by omega⟩ ⟨by omega, by omega⟩ ⟨by omega, by omega⟩ ⟨by omega, by omega⟩ ⟨by omega, by omega⟩ ⟨by omega, by omega⟩ (by omega)
set_option maxHeartbeats 400000 in
set_option maxRecDepth 10000 in
theorem tLX12_sooner_0_59 (u0 : SX)  {k205 : Int32 → Int32 → Int32 → Int32 → Int32 → SX → Option (Int32 × SX)} (hk205 : ∀ (z1 : Int32) (z3 : Int32) (z4 : Int32) (z5 : Int32) (z6 : Int32) (u : SX), (StM mdX12_sooner_0 u0 u) → (0 ≤ z1.toInt ∧ z1.toInt ≤ 3) → ((-1) ≤ z3.toInt ∧ z3.toInt ≤ 7) → ((-1) ≤ z4.toInt ∧ z4.toInt ≤ 7) → ((-1) ≤ z5.toInt ∧ z5.toInt ≤ 120) → ((-1) ≤ z6.toInt ∧ z6.toInt ≤ 120) → Tot (k205 z1 z3 z4 z5 z6 u) (qX12_sooner_0 u0)) : ∀ (n : Nat) (z1 : Int32) (z2 : Int32) (z3 : Int32) (z4 : Int32) (z5 : Int32) (z6 : Int32) (z7 : Int32) (u : SX), (StM mdX12_sooner_0 u0 u) → (0 ≤ z1.toInt ∧ z1.toInt ≤ 3) → ((-1) ≤ z2.toInt ∧ z2.toInt ≤ 120) → ((-1) ≤ z3.toInt ∧ z3.toInt ≤ 7) → ((-1) ≤ z4.toInt ∧ z4.toInt ≤ 7) → ((-1) ≤ z5.toInt ∧ z5.toInt ≤ 120) → ((-1) ≤ z6.toInt ∧ z6.toInt ≤ 120) → (0 ≤ z7.toInt ∧ z7.toInt ≤ 121) → (121 - z7.toInt < (n : Int)) → Tot (LX12_sooner_0_59 k205 n z1 z2 z3 z4 z5 z6 z7 u) (qX12_sooner_0 u0) := by
  intro n
  induction n with
  | zero =>
    intro z1 z2 z3 z4 z5 z6 z7 u hs_u h0 h1 h2 h3 h4 h5 h6 hm
    exfalso
    omega
  | succ n ih =>
    intro z1 z2 z3 z4 z5 z6 z7 u hs_u h0 h1 h2 h3 h4 h5 h6 hm
    rw [LX12_sooner_0_59]
    refine Tot_ite (fun c1334 => ?_) (fun c1334 => ?_)
    · have : z2.toInt < z7.toInt := ltI c1334
      exact hk205 z1 z3 z4 z5 z6 u hs_u ⟨by omega, by omega⟩ ⟨by omega, by omega⟩ ⟨by omega, by omega⟩ ⟨by omega, by omega⟩ ⟨by omega, by omega⟩
    · have : ¬ z2.toInt < z7.toInt := nltI c1334
      exact tLX12_sooner_0_68 u0 (z7.toInt) (tGX12_sooner_0_199 u0 (z7.toInt) (fun a1335 a1336 a1337 a1338 a1339 a1340 a1341 w1342 hw1342 p1343 p1344 p1345 p1346 p1347 p1348 p1349 p1350 => ih a1335 a1336 a1337 a1338 a1339 a1340 a1341 w1342 hw1342 p1343 p1344 p1345 p1346 p1347 p1348 p1349 (by omega))) 5000 z1 z2 z3 z4 z5 z6 z7 0 u hs_u ⟨by omega, by omega⟩ ⟨by omega, by omega⟩ ⟨by omega, by omega⟩ ⟨by omega, by omega⟩ ⟨by omega, by omega⟩ ⟨by omega, by omega⟩ ⟨by omega, by omega⟩ (by show 0 ≤ (0 : Int) ∧ (0 : Int) ≤ 8; omega) (by omega) (by show 8 - (0 : Int) < ((5000 : Nat) : Int); omega)
set_option maxHeartbeats 400000 in
set_option maxRecDepth 10000 in
theorem tGX12_sooner_0_205 (u0 : SX)    (z1 : Int32) (z3 : Int32) (z4 : Int32) (z5 : Int32) (z6 : Int32) (u : SX) (hs_u : StM mdX12_sooner_0 u0 u) (h0 : 0 ≤ z1.toInt ∧ z1.toInt ≤ 3) (h1 : (-1) ≤ z3.toInt ∧ z3.toInt ≤ 7) (h2 : (-1) ≤ z4.toInt ∧ z4.toInt ≤ 7) (h3 : (-1) ≤ z5.toInt ∧ z5.toInt ≤ 120) (h4 : (-1) ≤ z6.toInt ∧ z6.toInt ≤ 120) : Tot (GX12_sooner_0_205 z1 z3 z4 z5 z6 u) (qX12_sooner_0 u0) := by
  unfold GX12_sooner_0_205
  refine Tot_ite (fun c1351 => ?_) (fun c1351 => ?_)
  · have : z1.toInt = (0 : Int) := eqI c1351
    exact Tot_some ⟨hs_u, (by show (-1) ≤ z3.toInt ∧ z3.toInt ≤ 120; omega), trivial⟩
  · have : ¬ z1.toInt = (0 : Int) := neI c1351
    refine Tot_ite (fun c1352 => ?_) (fun c1352 => ?_)
    · have : z1.toInt = (1 : Int) := eqI c1352
      exact Tot_some ⟨hs_u, (by show (-1) ≤ z4.toInt ∧ z4.toInt ≤ 120; omega), trivial⟩
    · have : ¬ z1.toInt = (1 : Int) := neI c1352
      refine Tot_ite (fun c1353 => ?_) (fun c1353 => ?_)
      · have : z1.toInt = (2 : Int) := eqI c1353
        exact Tot_some ⟨hs_u, (by show (-1) ≤ z5.toInt ∧ z5.toInt ≤ 120; omega), trivial⟩
      · have : ¬ z1.toInt = (2 : Int) := neI c1353
        exact Tot_some ⟨hs_u, (by show (-1) ≤ z6.toInt ∧ z6.toInt ≤ 120; omega), trivial⟩
set_option maxHeartbeats 400000 in
set_option maxRecDepth 10000 in
theorem tGX12_sooner_0_44 (u0 : SX)    (z1 : Int32) (y0 : Int32) (u : SX) (hs_u : StM mdX12_sooner_0 u0 u) (h0 : 0 ≤ z1.toInt ∧ z1.toInt ≤ 3) (h1 : (-1) ≤ y0.toInt ∧ y0.toInt ≤ 120) : Tot (GX12_sooner_0_44 z1 y0 u) (qX12_sooner_0 u0) := by
  unfold GX12_sooner_0_44
  exact tLX12_sooner_0_59 u0 (tGX12_sooner_0_205 u0) 5000 z1 y0 (-1) (-1) (-1) (-1) 0 u hs_u ⟨by omega, by omega⟩ ⟨by omega, by omega⟩ (by show (-1) ≤ (-1 : Int) ∧ (-1 : Int) ≤ 7; omega) (by show (-1) ≤ (-1 : Int) ∧ (-1 : Int) ≤ 7; omega) (by show (-1) ≤ (-1 : Int) ∧ (-1 : Int) ≤ 120; omega) (by show (-1) ≤ (-1 : Int) ∧ (-1 : Int) ≤ 120; omega) (by show 0 ≤ (0 : Int) ∧ (0 : Int) ≤ 121; omega) (by show 121 - (0 : Int) < ((5000 : Nat) : Int); omega)
set_option maxHeartbeats 400000 in
set_option maxRecDepth 10000 in
theorem tfX12_sooner_0 (x1 : Int32) (u : SX) (hI : IM u)  : Tot (fX12_sooner_0 x1 u) (qX12_sooner_0 u) := by
  unfold fX12_sooner_0
  have hs_u : StM mdX12_sooner_0 u u := StM_rf hI
  refine Tot_lt (fun u1 e_u1 => ?_)
  have hs_u1 : StM mdX12_sooner_0 u u1 := by rw [e_u1]; exact StM_sI hs_u (by decide) (by show 0 ≤ (0 : Int); omega) (by show (0 : Int) ≤ 1; omega)
  refine Tot_bind (tfX12_isIn x1 0 3 (by show (-100000) ≤ (0 : Int) ∧ (0 : Int) ≤ 400; omega) (by show (-1) ≤ (3 : Int) ∧ (3 : Int) ≤ 100000; omega)) (fun r3 hq => ?_)
  have : 0 ≤ r3.toInt ∧ r3.toInt ≤ 1 := hq.1
  have : r3.toInt ≠ 0 → ((0 : Int) ≤ x1.toInt ∧ x1.toInt ≤ (3 : Int)) := hq.2
  clear hq
  refine Tot_ite (fun c1354 => ?_) (fun c1354 => ?_)
  · have : r3.toInt = (0 : Int) := eqI c1354
    exact Tot_some ⟨hs_u1, (by show (-1) ≤ (-1 : Int) ∧ (-1 : Int) ≤ 120; omega), trivial⟩
  · have : ¬ r3.toInt = (0 : Int) := neI c1354
    have : (u1.1 25).toInt = (u.1 25).toInt := by rw [e_u1]; rfl
    have : 0 ≤ (u.1 25).toInt ∧ (u.1 25).toInt ≤ 60 := hs_u.1.1 25
    have : (u1.1 1).toInt = (u.1 1).toInt := by rw [e_u1]; rfl
    have : 0 ≤ (u.1 1).toInt ∧ (u.1 1).toInt ≤ 120 := hs_u.1.1 1
    refine Tot_bind (tfX12_metBy_0 (u1.1 25) (u1.1 1) u1 hs_u1.1 ⟨by omega, by omega⟩ ⟨by omega, by omega⟩) (fun q hq => ?_)
    obtain ⟨r6, u7⟩ := q
    have hc_u7 : StM mdX12_metBy_0 u1 u7 := hq.1
    have hs_u7 : StM mdX12_sooner_0 u u7 := StM_tr hs_u1 hc_u7 (by decide)
    have : (-1) ≤ r6.toInt ∧ r6.toInt ≤ 120 := hq.2.1
    clear hq
    refine Tot_ite (fun c1355 => ?_) (fun c1355 => ?_)
    · have : r6.toInt = (-1 : Int) := eqI c1355
      have : (u7.1 1).toInt = (u1.1 1).toInt := congrArg Int32.toInt (hc_u7.2.1 1 (by decide))
      exact tGX12_sooner_0_44 u x1 (u7.1 1) u7 hs_u7 ⟨by omega, by omega⟩ ⟨by omega, by omega⟩
    · have : ¬ r6.toInt = (-1 : Int) := neI c1355
      have : (r6 - 1).toInt = r6.toInt - (1 : Int) := subc_t (by decide) (by omega) (by omega)
      exact tGX12_sooner_0_44 u x1 (r6 - 1) u7 hs_u7 ⟨by omega, by omega⟩ ⟨by omega, by omega⟩
