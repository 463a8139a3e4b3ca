/-! Rows of looks: judge; plan keeps the worths. -/
theorem rowSpread_sp {x1 r : Int32} {u u' : SX} (hR : RW u) (a0 : 0 ≤ (u.1 32).toInt) (a1 : (u.1 32).toInt < (u.1 13).toInt) (p0 : 0 ≤ x1.toInt) (p1 : x1.toInt < (u.1 8).toInt) (h : fX3_rowSpread_10 x1 u = some (r, u')) : RW u' ∧ FrM mdX7_leanOf_7 u u' ∧ r = spr (ww u (u.1 32).toNatClampNeg x1.toNatClampNeg) (u.2.1 57 x1.toNatClampNeg, u.2.1 58 x1.toNatClampNeg) := by
  unfold fX3_rowSpread_10 at h
  obtain ⟨-, h⟩ := gd_some h
  obtain ⟨-, h⟩ := gd_some h
  obtain ⟨⟨r3, u4⟩, b3, h⟩ := bd_some h
  obtain ⟨ew, R4, F4⟩ := leanX hR a0 a1 p0 p1 b3
  obtain ⟨r6, b6, h⟩ := bd_some h
  have q : r6 = r ∧ u4 = u' := by cases h; exact ⟨rfl, rfl⟩
  have s6 := spread_X b6
  rw [ew] at s6
  rw [← q.1, ← q.2, s6]
  exact ⟨R4, F4, rfl⟩
theorem sr_20 {r : Int32} {u' : SX} : ∀ (n : Nat) (z3 : Int32) (u : SX), RW u → 0 ≤ (u.1 32).toInt → (u.1 32).toInt < (u.1 13).toInt → 0 ≤ z3.toInt → z3.toInt ≤ (u.1 10).toInt → (∀ i : Nat, (i : Int) < z3.toInt → (u.2.1 57 i, u.2.1 58 i) = (u.2.1 27 i, u.2.1 28 i)) → u.1 33 = sumW (fun i => spr (ww u (u.1 32).toNatClampNeg i) (u.2.1 27 i, u.2.1 28 i)) z3.toNatClampNeg → LX3_startRow_10_20 n z3 u = some (r, u') → RW u' ∧ FrM ([33], [16, 17, 41, 57, 58], [], []) u u' ∧ (∀ i : Nat, (i : Int) < (u.1 10).toInt → (u'.2.1 57 i, u'.2.1 58 i) = (u.2.1 27 i, u.2.1 28 i)) ∧ u'.1 33 = sumW (fun i => spr (ww u (u.1 32).toNatClampNeg i) (u.2.1 27 i, u.2.1 28 i)) (u.1 10).toNatClampNeg := by
  intro n
  induction n with
  | zero => intro z3 u _ _ _ _ _ _ _ h; cases h
  | succ n ih =>
    intro z3 u hR a0 a1 h0 h9 hr hs g
    have b10 : (u.1 10).toInt ≤ (12 : Int) := (hR.1.1 10).2
    have b8 : (u.1 10).toInt ≤ (u.1 8).toInt := hR.2.1.1
    have zn : z3.toNatClampNeg = z3.toInt.toNat := rfl
    have g : (if (u.1 10) ≤ z3 then (some (0, u)) else (gd (inb z3 12) (gd (inb z3 12) (lt (sA u 57 (upd (u.2.1 57) z3.toNatClampNeg (u.2.1 27 z3.toNatClampNeg))) fun u10 => (gd (inb z3 12) (gd (inb z3 12) (lt (sA u10 58 (upd (u10.2.1 58) z3.toNatClampNeg (u10.2.1 28 z3.toNatClampNeg))) fun u14 => ((fX3_rowSpread_10 z3 u14).bind fun q => match q with | (r16, u17) => (lt (sI u17 33 ((u14.1 33) + r16)) fun u19 => ((LX3_startRow_10_20 n) (z3 + 1) u19)))))))))) = some (r, u') := g
    by_cases c : u.1 10 ≤ z3
    · rw [if_pos c] at g
      have c9 := leI c
      have e : u = u' := by cases g; rfl
      have ez : z3.toNatClampNeg = (u.1 10).toNatClampNeg := by
        show z3.toInt.toNat = (u.1 10).toInt.toNat
        rw [show z3.toInt = (u.1 10).toInt by omega]
      rw [ez] at hs
      rw [← e]
      exact ⟨hR, FrM_rf, fun i hi => hr i (by omega), hs⟩
    · rw [if_neg c] at g
      have c9 := nleI c
      obtain ⟨-, g⟩ := gd_some g
      obtain ⟨-, g⟩ := gd_some g
      obtain ⟨u10, i10, g⟩ := lt_some g
      obtain ⟨-, g⟩ := gd_some g
      obtain ⟨-, g⟩ := gd_some g
      obtain ⟨u14, i14, g⟩ := lt_some g
      have s14 : StX ([], [57, 58], [], []) u u14 := by
        rw [i14, i10]
        have w27 := hR.1.2.1 27 z3.toNatClampNeg
        have w28 := hR.1.2.1 28 z3.toNatClampNeg
        exact StX_sA (StX_sA (StX_rf hR.1) (by decide) w27.1 w27.2 (by decide)) (by decide) w28.1 w28.2 (by decide)
      have k57 : u14.2.1 57 = upd (u.2.1 57) z3.toNatClampNeg (u.2.1 27 z3.toNatClampNeg) := by rw [i14, i10]; rfl
      have k58 : u14.2.1 58 = upd (u.2.1 58) z3.toNatClampNeg (u.2.1 28 z3.toNatClampNeg) := by rw [i14, i10]; rfl
      have R14 := RW_md s14.1 s14.2 (by decide) (by decide) (by decide) hR
      have f14 := s14.2.1
      obtain ⟨⟨r16, u17⟩, a16, g⟩ := bd_some g
      obtain ⟨R17, F17, s16⟩ := rowSpread_sp R14 (by rw [f14 32 (by decide)]; exact a0) (by rw [f14 32 (by decide), f14 13 (by decide)]; exact a1) h0 (by rw [f14 8 (by decide)]; omega) a16
      obtain ⟨u19, i19, g⟩ := lt_some g
      have s19 : StX ([33], [], [], []) u17 u19 := by
        rw [i19]
        exact StX_sIf (StX_rf R17.1) (by decide) rfl rfl
      have R19 := RW_md s19.1 s19.2 (by decide) (by decide) (by decide) R17
      have F19 : FrM ([33], [16, 17, 41, 57, 58], [], []) u u19 := FrM_tr (FrM_tr (FrM_tr FrM_rf s14.2 (by decide)) F17 (by decide)) s19.2 (by decide)
      have ewu : ww u19 = ww u := ww_fr (F19.2.1 24 (by decide)) (F19.2.1 36 (by decide)) F19.2.2.2.2
      have ew14 : ww u14 = ww u := ww_fr (s14.2.2.1 24 (by decide)) (s14.2.2.1 36 (by decide)) s14.2.2.2.2.2
      have e57 : u19.2.1 57 = upd (u.2.1 57) z3.toNatClampNeg (u.2.1 27 z3.toNatClampNeg) := by rw [s19.2.2.1 57 (by decide), F17.2.1 57 (by decide), k57]
      have e58 : u19.2.1 58 = upd (u.2.1 58) z3.toNatClampNeg (u.2.1 28 z3.toNatClampNeg) := by rw [s19.2.2.1 58 (by decide), F17.2.1 58 (by decide), k58]
      have e33 : u19.1 33 = u.1 33 + spr (ww u (u.1 32).toNatClampNeg z3.toNatClampNeg) (u.2.1 27 z3.toNatClampNeg, u.2.1 28 z3.toNatClampNeg) := by
        rw [i19]
        show u14.1 33 + r16 = _
        rw [s16, ew14, f14 32 (by decide), f14 33 (by decide), k57, k58, upd_at, upd_at]
      have et : (z3 + 1).toInt = z3.toInt + 1 := addc_t (by decide) (by omega) (by omega)
      have en := ns1 h0 (show z3.toInt ≤ 5000 by omega)
      have e32 := F19.1 32 (by decide)
      have e27 := F19.2.1 27 (by decide)
      have e28 := F19.2.1 28 (by decide)
      have e10 := F19.1 10 (by decide)
      obtain ⟨q1, q2, q3, q4⟩ := ih (z3 + 1) u19 R19 (by rw [e32]; exact a0) (by rw [e32, F19.1 13 (by decide)]; exact a1) (by rw [et]; omega) (by rw [et, e10]; omega) (fun i hi => by
        rw [et] at hi
        rw [e57, e58, e27, e28]
        by_cases ci : i = z3.toNatClampNeg
        · rw [ci, upd_at, upd_at]
        · rw [upd_ne ci, upd_ne ci]
          rw [zn] at ci
          exact hr i (by omega)) (by
        rw [e33, ewu, e32, e27, e28, en, hs]
        rfl) g
      rw [ewu, e32, e27, e28, e10] at q4
      rw [e27, e28, e10] at q3
      exact ⟨q1, FrM_tr F19 q2 (by decide), q3, q4⟩
theorem startRow_sp {x1 r : Int32} {u u' : SX} (hR : RW u) (a0 : 0 ≤ x1.toInt) (a1 : x1.toInt < (u.1 13).toInt) (h : fX3_startRow_10 x1 (u.1 0) u = some (r, u')) : RW u' ∧ FrM mdX3_startRow_10 u u' ∧ u'.1 32 = x1 ∧ UpTo (u.2.1 25) (u.1 0) (u.1 8) (u'.1 10) ∧ UpTo (u.2.1 34) (u.1 0) (u.1 12) (u'.1 11) ∧ (∀ i : Nat, (i : Int) < (u'.1 10).toInt → (u'.2.1 57 i, u'.2.1 58 i) = spX u (u'.1 11).toNatClampNeg i) ∧ u'.1 33 = wdS u (spX u (u'.1 11).toNatClampNeg) (u'.1 10).toNatClampNeg x1.toNatClampNeg := by
  have b13 : (u.1 13).toInt ≤ (80 : Int) := (hR.1.1 13).2
  unfold fX3_startRow_10 at h
  obtain ⟨⟨r1, u2⟩, b1, h⟩ := bd_some h
  obtain ⟨R2, F2, U10, U11⟩ := recall6_RW hR (hR.1.1 0).1 (hR.1.1 0).2 b1
  obtain ⟨u4, i4, h⟩ := lt_some h
  obtain ⟨u6, i6, h⟩ := lt_some h
  have s6 : StX ([32, 33], [], [], []) u2 u6 := by
    rw [i6, i4]
    exact StX_sIf (StX_sI (StX_rf R2.1) (by decide) (by show (0 : Int) ≤ _; omega) (by show _ ≤ (79 : Int); omega)) (by decide) rfl rfl
  have R6 := RW_md s6.1 s6.2 (by decide) (by decide) (by decide) R2
  have e32 : u6.1 32 = x1 := by rw [i6, i4]; rfl
  have e33 : u6.1 33 = 0 := by rw [i6, i4]; rfl
  have F6 : FrM mdX3_startRow_10 u u6 := FrM_tr (FrM_tr FrM_rf F2 (by decide)) s6.2 (by decide)
  generalize (5000 : Nat) = N1 at h
  have b10 : (0 : Int) ≤ (u6.1 10).toInt := (R6.1.1 10).1
  obtain ⟨R', F', q3, q4⟩ := sr_20 N1 0 u6 R6 (by rw [e32]; exact a0) (by rw [e32, F6.1 13 (by decide)]; exact a1) (by decide) (by show (0 : Int) ≤ _; exact b10) (fun i hi => by
    have hi : (i : Int) < 0 := hi
    omega) e33 h
  have ewu : ww u6 = ww u := ww_fr (F6.2.1 24 (by decide)) (F6.2.1 36 (by decide)) F6.2.2.2.2
  have k10 : u'.1 10 = u2.1 10 := (F'.1 10 (by decide)).trans (s6.2.1 10 (by decide))
  have k11 : u'.1 11 = u2.1 11 := (F'.1 11 (by decide)).trans (s6.2.1 11 (by decide))
  have es : spX u6 = spX u := by
    unfold spX
    rw [F6.2.1 29 (by decide), F6.2.1 30 (by decide), F6.2.1 31 (by decide), F6.2.1 32 (by decide), F6.2.1 33 (by decide), F6.2.1 35 (by decide)]
  have k611 : u6.1 11 = u'.1 11 := (F'.1 11 (by decide)).symm
  have k610 : u6.1 10 = u'.1 10 := (F'.1 10 (by decide)).symm
  have cx : ∀ i : Nat, (i : Int) < (u'.1 10).toInt → (u6.2.1 27 i, u6.2.1 28 i) = spX u (u'.1 11).toNatClampNeg i := fun i hi => by
    rw [← k610] at hi
    rw [R6.2.1.2.2 i hi, es, k611]
  refine ⟨R', FrM_tr F6 F' (by decide), (F'.1 32 (by decide)).trans e32, by rw [k10]; exact U10, by rw [k11]; exact U11, fun i hi => ?_, ?_⟩
  · rw [q3 i (by rw [k610]; exact hi)]
    exact cx i hi
  · rw [q4, e32, ewu, k610]
    unfold wdS
    exact sumW_cg _ (fun i hi => by
      have hi : i < (u'.1 10).toInt.toNat := hi
      show spr _ (u6.2.1 27 i, u6.2.1 28 i) = _
      rw [cx i (by omega)])
theorem cut68 {z1 z2 z3 y0 r : Int32} {u u' : SX} (h : GX3_cut_10_68 z1 z2 z3 y0 z2 u = some (r, u')) : u' = sA (sA u 57 (upd (u.2.1 57) z2.toNatClampNeg y0)) 58 (upd (u.2.1 58) z2.toNatClampNeg (if z3 = 0 then (if u.2.1 50 z1.toNatClampNeg < u.2.1 58 z2.toNatClampNeg then u.2.1 50 z1.toNatClampNeg else u.2.1 58 z2.toNatClampNeg) else u.2.1 50 z1.toNatClampNeg)) := by
  unfold GX3_cut_10_68 at h
  obtain ⟨-, h⟩ := gd_some h
  obtain ⟨u14, e14, h⟩ := lt_some h
  by_cases c : z3 = 0
  · rw [if_pos c] at h
    obtain ⟨-, h⟩ := gd_some h
    obtain ⟨-, h⟩ := gd_some h
    obtain ⟨-, h⟩ := gd_some h
    obtain ⟨u19, e19, h⟩ := lt_some h
    have e : u19 = u' := by cases h; rfl
    rw [← e, e19, e14, if_pos c]
    rfl
  · rw [if_neg c] at h
    obtain ⟨-, h⟩ := gd_some h
    obtain ⟨-, h⟩ := gd_some h
    obtain ⟨u23, e23, h⟩ := lt_some h
    have e : u23 = u' := by cases h; rfl
    rw [← e, e23, e14, if_neg c]
    rfl
theorem apart_i {a b c d r : Int32} (h : fX6_apart a b c d = some r) : (r = 0 ∧ ¬ b < c ∧ a ≤ d) ∨ (r = 1 ∧ (b < c ∨ ¬ a ≤ d)) := by
  unfold fX6_apart at h
  by_cases c1 : b < c
  · rw [if_pos c1] at h
    have e : (1 : Int32) = r := by cases (gd_some h).2; rfl
    exact Or.inr ⟨e.symm, Or.inl c1⟩
  · rw [if_neg c1] at h
    by_cases c2 : a ≤ d
    · rw [if_pos c2] at h
      have e : (0 : Int32) = r := by cases (gd_some h).2; rfl
      exact Or.inl ⟨e.symm, c1, c2⟩
    · rw [if_neg c2] at h
      have e : (1 : Int32) = r := by cases (gd_some h).2; rfl
      exact Or.inr ⟨e.symm, Or.inr c2⟩
/-- a look not done cuts the row's span of its part -/
theorem cutX {x1 r : Int32} {u u' : SX} (h : fX3_cut_10 x1 u = some (r, u')) : u'.1 = u.1 ∧ (∀ j, Nat.beq j 57 = false → Nat.beq j 58 = false → u'.2.1 j = u.2.1 j) ∧ ∀ i, (u'.2.1 57 i, u'.2.1 58 i) = if (u.2.1 48 x1.toNatClampNeg).toNatClampNeg = i then stepS 0 (u.2.1 49 x1.toNatClampNeg) (u.2.1 50 x1.toNatClampNeg) (u.2.1 57 i, u.2.1 58 i) else (u.2.1 57 i, u.2.1 58 i) := by
  unfold fX3_cut_10 at h
  obtain ⟨-, h⟩ := gd_some h
  obtain ⟨v2, e2, h⟩ := lt_some h
  rw [← e2]
  obtain ⟨-, h⟩ := gd_some h
  obtain ⟨-, h⟩ := gd_some h
  obtain ⟨-, h⟩ := gd_some h
  obtain ⟨-, h⟩ := gd_some h
  obtain ⟨r8, a8, h⟩ := bd_some h
  rcases apart_i a8 with ⟨z, k1, k2⟩ | ⟨z, k⟩
  · rw [if_pos z] at h
    obtain ⟨-, h⟩ := gd_some h
    obtain ⟨-, h⟩ := gd_some h
    refine sp_fin (a := 57) (b := 58) rfl _ (cut68 h) ?_
    unfold stepS
    rw [if_pos rfl, if_neg k1, if_pos k2, if_pos z]
  · rw [if_neg (ne01 z)] at h
    obtain ⟨-, h⟩ := gd_some h
    refine sp_fin (a := 57) (b := 58) rfl _ (cut68 h) ?_
    unfold stepS
    rw [if_pos rfl, if_neg (ne01 z)]
    rcases k with k | k
    · rw [if_pos k]
    · by_cases c1 : u.2.1 58 v2.toNatClampNeg < u.2.1 49 x1.toNatClampNeg
      · rw [if_pos c1]
      · rw [if_neg c1, if_neg k]
