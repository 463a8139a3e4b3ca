/-! What the class weighs. -/
def mx0 (w : Int32) : Int32 := if 0 < shn 400 w then shn 400 w else 0
def mn0 (w : Int32) : Int32 := if shn 400 w < 0 then shn 400 w else 0
def e46 (u : SX) (m : Nat) : Int32 := if u.2.1 38 m ≤ 0 then -(u.2.1 39 m) else u.2.1 38 m
noncomputable def e47 (u : SX) (m i : Nat) : Int32 := if u.2.1 38 m ≤ 0 then mnS (ww u m i) (u.2.1 27 i, u.2.1 28 i) - mn0 (ww u m i) else mx0 (ww u m i) - mxS (ww u m i) (u.2.1 27 i, u.2.1 28 i)
def need (u : SX) (m : Nat) : Prop := 0 < (u.2.1 38 m).toInt ∨ (u.2.1 39 m).toInt < 0
def ENC (u0 u : SX) (k m : Nat) : Prop := u.2.1 46 k = e46 u0 m ∧ ∀ i : Nat, (i : Int) < (u0.1 10).toInt → u.2.1 47 (k * 12 + i) = e47 u0 m i
theorem wgh55 {u0 : SX} {k174 : SX → Option (Int32 × SX)} {z1 z2 r : Int32} {u' : SX} (a0 : 0 ≤ z1.toInt) (hz : z2 = 0 ↔ u0.2.1 38 z1.toNatClampNeg ≤ 0) : ∀ (n : Nat) (z3 : Int32) (u : SX), RW u → FrM mdX0_weigh_9 u0 u → z1.toInt < (u.1 13).toInt → 0 ≤ (u.1 26).toInt → (u.1 26).toInt < 80 → 0 ≤ z3.toInt → z3.toInt ≤ (u.1 10).toInt → LX0_weigh_9_55 k174 n z1 z2 z3 u = some (r, u') → ∃ w : SX, RW w ∧ FrM ([], [16, 17, 41, 47], [], []) u w ∧ (∀ j : Nat, ((j : Int) < (u.1 26).toInt * 12 + z3.toInt ∨ (u.1 26).toInt * 12 + (u.1 10).toInt ≤ (j : Int)) → w.2.1 47 j = u.2.1 47 j) ∧ (∀ i : Nat, z3.toInt ≤ (i : Int) → (i : Int) < (u.1 10).toInt → w.2.1 47 ((u.1 26).toNatClampNeg * 12 + i) = e47 u0 z1.toNatClampNeg i) ∧ k174 w = some (r, u') := by
  intro n
  induction n with
  | zero => intro z3 u _ _ _ _ _ _ _ h; cases h
  | succ n ih =>
    intro z3 u hR hF a1 k0 k9 h0 h9 g
    have b10 : (u.1 10).toInt ≤ (12 : Int) := (hR.1.1 10).2
    have b8 : (u.1 10).toInt ≤ (u.1 8).toInt := hR.2.1.1
    have g : (if (u.1 10) ≤ z3 then (k174 u) else ((fX7_leanOf_7 z1 z3 u).bind fun q => match q with | (r6, u7) => (gd (inb z3 12) ((fX11_shine (u7.2.1 27 z3.toNatClampNeg) r6).bind fun r10 => (gd (inb z3 12) ((fX11_shine (u7.2.1 28 z3.toNatClampNeg) r6).bind fun r14 => ((fX11_shine 400 r6).bind fun r17 => (if z2 = 0 then (GX0_weigh_9_167 (LX0_weigh_9_55 k174 n) z1 z2 z3 ((if r14 < r10 then r14 else r10) - (if r17 < 0 then r17 else 0)) (((u7.1 26) * 12) + z3) u7) else (GX0_weigh_9_167 (LX0_weigh_9_55 k174 n) z1 z2 z3 ((if 0 < r17 then r17 else 0) - (if r10 < r14 then r14 else r10)) (((u7.1 26) * 12) + z3) u7))))))))) = some (r, u') := g
    have t3 := tnS h0
    have tk := tnS k0
    by_cases c : u.1 10 ≤ z3
    · rw [if_pos c] at g
      have c9 := leI c
      exact ⟨u, hR, FrM_rf, fun _ _ => rfl, fun i h1 h2 => by omega, g⟩
    · rw [if_neg c] at g
      have c9 := nleI c
      obtain ⟨⟨r6, u7⟩, a6, g⟩ := bd_some g
      obtain ⟨ew, R7, F7⟩ := leanX hR a0 a1 h0 (by omega) a6
      obtain ⟨-, g⟩ := gd_some g
      obtain ⟨r10, s10, g⟩ := bd_some g
      obtain ⟨-, g⟩ := gd_some g
      obtain ⟨r14, s14, g⟩ := bd_some g
      obtain ⟨r17, s17, g⟩ := bd_some g
      have s10 := shn_X s10
      have s14 := shn_X s14
      have s17 := shn_X s17
      have f27 : u7.2.1 27 = u0.2.1 27 := (F7.2.1 27 (by decide)).trans (hF.2.1 27 (by decide))
      have f28 : u7.2.1 28 = u0.2.1 28 := (F7.2.1 28 (by decide)).trans (hF.2.1 28 (by decide))
      rw [f27] at s10
      rw [f28] at s14
      have eww : ww u = ww u0 := ww_fr (hF.2.1 24 (by decide)) (hF.2.1 36 (by decide)) hF.2.2.2.2
      rw [eww] at ew
      rw [ew] at s10 s14 s17
      have e26 : u7.1 26 = u.1 26 := F7.1 26 (by decide)
      have et : (z3 + 1).toInt = z3.toInt + 1 := addc_t (by decide) (by omega) (by omega)
      have m1 : (u.1 26 * 12).toInt = (u.1 26).toInt * 12 := mulc_t (by decide) (by omega) (by omega)
      have m2 : (u.1 26 * 12 + z3).toInt = (u.1 26).toInt * 12 + z3.toInt := by rw [add_t (by omega) (by omega), m1]
      have mn : (u.1 26 * 12 + z3).toNatClampNeg = (u.1 26).toNatClampNeg * 12 + z3.toNatClampNeg := by
        show (u.1 26 * 12 + z3).toInt.toNat = (u.1 26).toInt.toNat * 12 + z3.toInt.toNat
        omega
      have fin : ∀ y0 : Int32, y0 = e47 u0 z1.toNatClampNeg z3.toNatClampNeg → GX0_weigh_9_167 (LX0_weigh_9_55 k174 n) z1 z2 z3 y0 (((u7.1 26) * 12) + z3) u7 = some (r, u') → ∃ w : SX, RW w ∧ FrM ([], [16, 17, 41, 47], [], []) u w ∧ (∀ j : Nat, ((j : Int) < (u.1 26).toInt * 12 + z3.toInt ∨ (u.1 26).toInt * 12 + (u.1 10).toInt ≤ (j : Int)) → w.2.1 47 j = u.2.1 47 j) ∧ (∀ i : Nat, z3.toInt ≤ (i : Int) → (i : Int) < (u.1 10).toInt → w.2.1 47 ((u.1 26).toNatClampNeg * 12 + i) = e47 u0 z1.toNatClampNeg i) ∧ k174 w = some (r, u') := fun y0 ey k => by
        unfold GX0_weigh_9_167 at k
        rw [e26, mn] at k
        obtain ⟨-, k⟩ := gd_some k
        obtain ⟨u21, i21, k⟩ := lt_some k
        have s21 : StX ([], [47], [], []) u7 u21 := by
          rw [i21]
          exact StX_sAf (StX_rf R7.1) (by decide) rfl rfl (by decide)
        have R21 := RW_md s21.1 s21.2 (by decide) (by decide) (by decide) R7
        have F21 : FrM ([], [16, 17, 41, 47], [], []) u u21 := FrM_tr (FrM_tr FrM_rf F7 (by decide)) s21.2 (by decide)
        have e47' : ∀ j : Nat, u21.2.1 47 j = if j = (u.1 26).toNatClampNeg * 12 + z3.toNatClampNeg then y0 else u.2.1 47 j := fun j => by
          rw [i21]
          show (if j = _ then y0 else u7.2.1 47 j) = _
          rw [F7.2.1 47 (by decide)]
        have q26 : u21.1 26 = u.1 26 := F21.1 26 (by decide)
        have q10 : u21.1 10 = u.1 10 := F21.1 10 (by decide)
        obtain ⟨w, q1, q2, q3, q4, q5⟩ := ih (z3 + 1) u21 R21 (FrM_tr hF F21 (by decide)) (by rw [F21.1 13 (by decide)]; exact a1) (by rw [q26]; exact k0) (by rw [q26]; exact k9) (by rw [et]; omega) (by rw [et, q10]; omega) k
        rw [q26, q10, et] at q3
        rw [q26, q10, et] at q4
        refine ⟨w, q1, FrM_tr F21 q2 (by decide), fun j hj => ?_, fun i h1 h2 => ?_, q5⟩
        · rw [q3 j (by omega), e47', if_neg (by omega)]
        · by_cases ci : i = z3.toNatClampNeg
          · rw [q3 _ (by omega), e47', if_pos (by rw [ci]), ey, ci]
          · exact q4 i (by omega) h2
      by_cases d : z2 = 0
      · rw [if_pos d] at g
        refine fin _ ?_ g
        unfold e47
        rw [if_pos (hz.mp d), s10, s14, s17]
        rfl
      · rw [if_neg d] at g
        refine fin _ ?_ g
        unfold e47
        rw [if_neg (fun q => d (hz.mpr q)), s10, s14, s17]
        rfl
theorem weigh_sp {u0 : SX} {x1 r : Int32} {u u' : SX} (hR : RW u) (hF : FrM mdX0_weigh_9 u0 u) (a0 : 0 ≤ x1.toInt) (a1 : x1.toInt < (u.1 13).toInt) (h26 : (u.1 26).toInt < (80 : Int)) (h : fX0_weigh_9 x1 u = some (r, u')) : ENC u0 u' (u.1 26).toNatClampNeg x1.toNatClampNeg ∧ ∀ k m : Nat, (k : Int) < (u.1 26).toInt → ENC u0 u k m → ENC u0 u' k m := by
  have b26 : (0 : Int) ≤ (u.1 26).toInt := (hR.1.1 26).1
  have t26 := tnS b26
  have b10 : (u.1 10).toInt ≤ (12 : Int) := (hR.1.1 10).2
  have z10 : (0 : Int) ≤ (u.1 10).toInt := (hR.1.1 10).1
  unfold fX0_weigh_9 at h
  obtain ⟨-, h⟩ := gd_some h
  have e10 : u.1 10 = u0.1 10 := hF.1 10 (by decide)
  have f38 : u.2.1 38 = u0.2.1 38 := hF.2.1 38 (by decide)
  have f39 : u.2.1 39 = u0.2.1 39 := hF.2.1 39 (by decide)
  have f52 : ∀ y0 z2 : Int32, y0 = e46 u0 x1.toNatClampNeg → (z2 = 0 ↔ u0.2.1 38 x1.toNatClampNeg ≤ 0) → GX0_weigh_9_52 x1 z2 y0 (u.1 26) u = some (r, u') → ENC u0 u' (u.1 26).toNatClampNeg x1.toNatClampNeg ∧ ∀ k m : Nat, (k : Int) < (u.1 26).toInt → ENC u0 u k m → ENC u0 u' k m := fun y0 z2 ey hz k => by
    unfold GX0_weigh_9_52 at k
    obtain ⟨-, k⟩ := gd_some k
    obtain ⟨u4, i4, k⟩ := lt_some k
    have s4 : StX ([], [46], [], []) u u4 := by
      rw [i4]
      exact StX_sAf (StX_rf hR.1) (by decide) rfl rfl (by decide)
    have R4 := RW_md s4.1 s4.2 (by decide) (by decide) (by decide) hR
    have q26 : u4.1 26 = u.1 26 := s4.2.1 26 (by decide)
    have q10 : u4.1 10 = u.1 10 := s4.2.1 10 (by decide)
    obtain ⟨w, Rw, Fw, w1, w2, k⟩ := wgh55 (u0 := u0) a0 hz 5000 0 u4 R4 (FrM_tr hF s4.2 (by decide)) (by rw [s4.2.1 13 (by decide)]; exact a1) (by rw [q26]; exact b26) (by rw [q26]; exact h26) (by decide) (by rw [q10]; exact z10) k
    have z0 : (0 : Int32).toInt = 0 := by decide
    rw [q26, q10, z0] at w1
    rw [q26, q10, z0] at w2
    unfold GX0_weigh_9_174 at k
    obtain ⟨u23, i23, k⟩ := lt_some k
    have e : u23 = u' := by cases k; rfl
    have p46 : u'.2.1 46 = upd (u.2.1 46) (u.1 26).toNatClampNeg y0 := by
      rw [← e, i23]
      show w.2.1 46 = _
      rw [Fw.2.1 46 (by decide), i4]
      rfl
    have p47 : u'.2.1 47 = w.2.1 47 := by
      rw [← e, i23]
      rfl
    have o47 : u4.2.1 47 = u.2.1 47 := s4.2.2.1 47 (by decide)
    rw [o47] at w1
    refine ⟨⟨by rw [p46, upd_at, ey], fun i hi => ?_⟩, fun k m hk hE => ⟨?_, fun i hi => ?_⟩⟩
    · rw [p47]
      exact w2 i (by omega) (by rw [e10]; exact hi)
    · rw [p46, upd_ne (by omega)]
      exact hE.1
    · rw [p47, w1 _ (by rw [← e10] at hi; omega)]
      exact hE.2 i hi
  unfold GX0_weigh_9_17 at h
  rw [f38] at h
  by_cases c : u0.2.1 38 x1.toNatClampNeg ≤ 0
  · rw [if_pos c, if_pos rfl] at h
    obtain ⟨-, h⟩ := gd_some h
    refine f52 _ 0 ?_ ⟨fun _ => c, fun _ => rfl⟩ h
    unfold e46
    rw [if_pos c, f39]
  · rw [if_neg c, if_neg (by decide)] at h
    obtain ⟨-, h⟩ := gd_some h
    refine f52 _ 1 ?_ ⟨fun q => absurd q (by decide), fun q => absurd q c⟩ h
    unfold e46
    rw [if_neg c]
/-- kept: the readings that need something, each once -/
def KP (u0 u : SX) (z : Int) : Prop := (∀ k : Nat, (k : Int) < (u.1 26).toInt → ∃ m : Nat, (m : Int) < z ∧ need u0 m ∧ ENC u0 u k m) ∧ ∀ m : Nat, (m : Int) < z → need u0 m → ∃ k : Nat, (k : Int) < (u.1 26).toInt ∧ ENC u0 u k m
theorem kp12 {u0 : SX} {k58 : SX → Option (Int32 × SX)} {r : Int32} {u' : SX} : ∀ (n : Nat) (z1 : Int32) (u : SX), RW u → FrM mdX0_weigh_9 u0 u → (u.1 14).toInt ≤ (u.1 13).toInt → 0 ≤ z1.toInt → z1.toInt ≤ (u.1 14).toInt → (u.1 26).toInt ≤ z1.toInt → KP u0 u z1.toInt → LX0_fewest_9_12 k58 n z1 u = some (r, u') → ∃ w : SX, RW w ∧ FrM mdX0_weigh_9 u0 w ∧ KP u0 w (u0.1 14).toInt ∧ k58 w = some (r, u') := by
  intro n
  induction n with
  | zero => intro z1 u _ _ _ _ _ _ _ h; cases h
  | succ n ih =>
    intro z1 u hR hF h14 h0 h9 h26 hK g
    have b13 : (u.1 13).toInt ≤ (80 : Int) := (hR.1.1 13).2
    have b26 : (0 : Int) ≤ (u.1 26).toInt := (hR.1.1 26).1
    have f38 : u.2.1 38 = u0.2.1 38 := hF.2.1 38 (by decide)
    have f39 : u.2.1 39 = u0.2.1 39 := hF.2.1 39 (by decide)
    have t1 := tnS h0
    have t26 := tnS b26
    have g : (if (u.1 14) ≤ z1 then (k58 u) else (gd (inb z1 80) (if 0 < (u.2.1 38 z1.toNatClampNeg) then (GX0_fewest_9_47 (LX0_fewest_9_12 k58 n) z1 u) else (gd (inb z1 80) (if 0 ≤ (u.2.1 39 z1.toNatClampNeg) then (GX0_fewest_9_52 (LX0_fewest_9_12 k58 n) z1 u) else (GX0_fewest_9_47 (LX0_fewest_9_12 k58 n) z1 u)))))) = some (r, u') := g
    by_cases c : u.1 14 ≤ z1
    · rw [if_pos c] at g
      have c9 := leI c
      have e : (u0.1 14).toInt = z1.toInt := by
        rw [← hF.1 14 (by decide)]
        omega
      rw [e]
      exact ⟨u, hR, hF, hK, g⟩
    · rw [if_neg c] at g
      have c9 := nleI c
      have et : (z1 + 1).toInt = z1.toInt + 1 := addc_t (by decide) (by omega) (by omega)
      obtain ⟨-, g⟩ := gd_some g
      have f47 : need u0 z1.toNatClampNeg → GX0_fewest_9_47 (LX0_fewest_9_12 k58 n) z1 u = some (r, u') → ∃ w : SX, RW w ∧ FrM mdX0_weigh_9 u0 w ∧ KP u0 w (u0.1 14).toInt ∧ k58 w = some (r, u') := fun hn k => by
        unfold GX0_fewest_9_47 at k
        obtain ⟨⟨r6, u7⟩, a6, k⟩ := bd_some k
        obtain ⟨R7, F7, e26⟩ := weigh_RW hR h0 (by omega) (by omega) a6
        obtain ⟨E1, E2⟩ := weigh_sp hR hF h0 (by omega) (by omega) a6
        have k : LX0_fewest_9_12 k58 n (z1 + 1) u7 = some (r, u') := k
        have e1 : (u.1 26 + 1).toInt = (u.1 26).toInt + 1 := addc_t (by decide) (by omega) (by omega)
        refine ih (z1 + 1) u7 R7 (FrM_tr hF F7 (by decide)) (by rw [F7.1 14 (by decide), F7.1 13 (by decide)]; exact h14) (by rw [et]; omega) (by rw [et, F7.1 14 (by decide)]; omega) (by rw [e26, et, e1]; omega) ?_ k
        unfold KP
        rw [e26, e1, et]
        refine ⟨fun j hj => ?_, fun m hm hd => ?_⟩
        · by_cases cj : j = (u.1 26).toNatClampNeg
          · rw [cj]
            exact ⟨z1.toNatClampNeg, by omega, hn, E1⟩
          · obtain ⟨m, q1, q2, q3⟩ := hK.1 j (by omega)
            exact ⟨m, by omega, q2, E2 j m (by omega) q3⟩
        · by_cases cm : m = z1.toNatClampNeg
          · rw [cm]
            exact ⟨(u.1 26).toNatClampNeg, by omega, E1⟩
          · obtain ⟨j, q1, q2⟩ := hK.2 m (by omega) hd
            exact ⟨j, by omega, E2 j m q1 q2⟩
      by_cases d : 0 < u.2.1 38 z1.toNatClampNeg
      · rw [if_pos d] at g
        rw [f38] at d
        exact f47 (Or.inl (ltI d)) g
      · rw [if_neg d] at g
        obtain ⟨-, g⟩ := gd_some g
        rw [f38] at d
        have d9 : ¬ (0 : Int) < (u0.2.1 38 z1.toNatClampNeg).toInt := nltI d
        by_cases d2 : 0 ≤ u.2.1 39 z1.toNatClampNeg
        · rw [if_pos d2] at g
          rw [f39] at d2
          have d29 : (0 : Int) ≤ (u0.2.1 39 z1.toNatClampNeg).toInt := leI d2
          have g : LX0_fewest_9_12 k58 n (z1 + 1) u = some (r, u') := g
          refine ih (z1 + 1) u hR hF h14 (by rw [et]; omega) (by rw [et]; omega) (by rw [et]; omega) ?_ g
          rw [et]
          refine ⟨fun j hj => ?_, fun m hm hd => ?_⟩
          · obtain ⟨m, q1, q2⟩ := hK.1 j hj
            exact ⟨m, by omega, q2⟩
          · by_cases cm : m = z1.toNatClampNeg
            · rw [cm] at hd
              unfold need at hd
              omega
            · exact hK.2 m (by omega) hd
        · rw [if_neg d2] at g
          rw [f39] at d2
          have d29 : ¬ (0 : Int) ≤ (u0.2.1 39 z1.toNatClampNeg).toInt := nleI d2
          exact f47 (Or.inr (by omega)) g
