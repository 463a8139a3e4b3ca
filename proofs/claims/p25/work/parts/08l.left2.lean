/-! What is left over of a reading: the class's side. -/
theorem ns1 {z : Int32} (h0 : 0 ≤ z.toInt) (h1 : z.toInt ≤ 5000) : (z + 1).toNatClampNeg = z.toNatClampNeg + 1 := by
  show (z + 1).toInt.toNat = z.toInt.toNat + 1
  rw [addc_t (n := 1) (by decide) (by omega) (by omega)]
  omega
def shn (a w : Int32) : Int32 := (a * w) / 100
theorem shn_X {a w r : Int32} (h : fX11_shine a w = some r) : r = shn a w := by
  unfold fX11_shine at h
  cases (gd_some h).2
  rfl
theorem shn_M {a w r : Int32} (h : fX12_shines a w = some r) : r = shn a w := by
  unfold fX12_shines at h
  cases (gd_some h).2
  rfl
def mxS (w : Int32) (p : Int32 × Int32) : Int32 := if shn p.1 w < shn p.2 w then shn p.2 w else shn p.1 w
def mnS (w : Int32) (p : Int32 × Int32) : Int32 := if shn p.2 w < shn p.1 w then shn p.2 w else shn p.1 w
def sumW (g : Nat → Int32) : Nat → Int32
  | 0 => 0
  | k + 1 => sumW g k + g k
theorem sumW_cg {g g' : Nat → Int32} : ∀ k : Nat, (∀ i, i < k → g i = g' i) → sumW g k = sumW g' k := by
  intro k
  induction k with
  | zero => intro _; rfl
  | succ k ih =>
    intro h
    show sumW g k + g k = sumW g' k + g' k
    rw [ih (fun i hi => h i (by omega)), h k (by omega)]
noncomputable def mxL (u : SX) (n i : Nat) : Int32 := mxS (ww u n i) (u.2.1 27 i, u.2.1 28 i)
noncomputable def mnL (u : SX) (n i : Nat) : Int32 := mnS (ww u n i) (u.2.1 27 i, u.2.1 28 i)
theorem mL_fr {u u' : SX} (h : FrM mdX7_leanOf_7 u u') : mxL u' = mxL u ∧ mnL u' = mnL u := by
  have e := ww_fr (h.2.1 24 (by decide)) (h.2.1 36 (by decide)) h.2.2.2.2
  refine ⟨?_, ?_⟩
  · funext n i
    unfold mxL
    rw [e, h.2.1 27 (by decide), h.2.1 28 (by decide)]
  · funext n i
    unfold mnL
    rw [e, h.2.1 27 (by decide), h.2.1 28 (by decide)]
theorem leave_L {k88 : Int32 → Int32 → Int32 → SX → Option (Int32 × SX)} {z1 r : Int32} {u' : SX} (a0 : 0 ≤ z1.toInt) : ∀ (n : Nat) (z2 z3 z4 : Int32) (u : SX), RW u → z1.toInt < (u.1 13).toInt → 0 ≤ z4.toInt → z4.toInt ≤ (u.1 10).toInt → z2 = sumW (mnL u z1.toNatClampNeg) z4.toNatClampNeg → z3 = sumW (mxL u z1.toNatClampNeg) z4.toNatClampNeg → LX7_leave_7_7 k88 n z1 z2 z3 z4 u = some (r, u') → ∃ w : SX, RW w ∧ FrM mdX7_leanOf_7 u w ∧ k88 z1 (sumW (mnL u z1.toNatClampNeg) (u.1 10).toNatClampNeg) (sumW (mxL u z1.toNatClampNeg) (u.1 10).toNatClampNeg) w = some (r, u') := by
  intro n
  induction n with
  | zero => intro z2 z3 z4 u _ _ _ _ _ _ h; cases h
  | succ n ih =>
    intro z2 z3 z4 u hR a1 h0 h9 e2 e3 g
    have b10 : (u.1 10).toInt ≤ (12 : Int) := (hR.1.1 10).2
    have b8 : (u.1 10).toInt ≤ (u.1 8).toInt := hR.2.1.1
    have g : (if (u.1 10) ≤ z4 then (k88 z1 z2 z3 u) else ((fX7_leanOf_7 z1 z4 u).bind fun q => match q with | (r1, u2) => (gd (inb z4 12) ((fX11_shine (u2.2.1 27 z4.toNatClampNeg) r1).bind fun r5 => (gd (inb z4 12) ((fX11_shine (u2.2.1 28 z4.toNatClampNeg) r1).bind fun r9 => (lt (z2 + (if r9 < r5 then r9 else r5)) fun v12 => (lt (z3 + (if r5 < r9 then r9 else r5)) fun v14 => ((LX7_leave_7_7 k88 n) z1 v12 v14 (z4 + 1) u2))))))))) = some (r, u') := g
    by_cases c : u.1 10 ≤ z4
    · rw [if_pos c] at g
      have c9 := leI c
      have ez : z4.toNatClampNeg = (u.1 10).toNatClampNeg := by
        show z4.toInt.toNat = (u.1 10).toInt.toNat
        rw [show z4.toInt = (u.1 10).toInt by omega]
      rw [ez] at e2 e3
      rw [e2, e3] at g
      exact ⟨u, hR, FrM_rf, g⟩
    · rw [if_neg c] at g
      have c9 := nleI c
      obtain ⟨⟨r1, u2⟩, a2, g⟩ := bd_some g
      obtain ⟨ew, R2, F2⟩ := leanX hR a0 a1 h0 (by omega) a2
      obtain ⟨-, g⟩ := gd_some g
      obtain ⟨r5, a5, g⟩ := bd_some g
      obtain ⟨-, g⟩ := gd_some g
      obtain ⟨r9, a9, g⟩ := bd_some g
      obtain ⟨v12, i12, g⟩ := lt_some g
      obtain ⟨v14, i14, g⟩ := lt_some g
      have s5 := shn_X a5
      have s9 := shn_X a9
      rw [F2.2.1 27 (by decide)] at s5
      rw [F2.2.1 28 (by decide)] at s9
      obtain ⟨fx, fn⟩ := mL_fr F2
      have en := ns1 h0 (show z4.toInt ≤ 5000 by omega)
      have et : (z4 + 1).toInt = z4.toInt + 1 := addc_t (by decide) (by omega) (by omega)
      obtain ⟨w, q1, q2, q3⟩ := ih v12 v14 (z4 + 1) u2 R2 (by rw [F2.1 13 (by decide)]; exact a1) (by rw [et]; omega) (by rw [et, F2.1 10 (by decide)]; omega) (by
        rw [fn, en, i12, e2, s5, s9, ew]
        rfl) (by
        rw [fx, en, i14, e3, s5, s9, ew]
        rfl) g
      rw [fx, fn, F2.1 10 (by decide)] at q3
      exact ⟨w, q1, FrM_tr F2 q2 (by decide), q3⟩
noncomputable def lfS (u : SX) (S : Nat → Int32 × Int32) (kp n : Nat) : Int32 × Int32 := (u.2.1 40 n - sumW (fun i => mxS (ww u n i) (S i)) kp, u.2.1 40 n - sumW (fun i => mnS (ww u n i) (S i)) kp)
noncomputable def lfX (u : SX) (kp kc n : Nat) : Int32 × Int32 := lfS u (spX u kc) kp n
theorem lfX_fr {u u' : SX} (r24 : u'.2.1 24 = u.2.1 24) (r29 : u'.2.1 29 = u.2.1 29) (r30 : u'.2.1 30 = u.2.1 30) (r31 : u'.2.1 31 = u.2.1 31) (r32 : u'.2.1 32 = u.2.1 32) (r33 : u'.2.1 33 = u.2.1 33) (r35 : u'.2.1 35 = u.2.1 35) (r36 : u'.2.1 36 = u.2.1 36) (r40 : u'.2.1 40 = u.2.1 40) (hx : u'.2.2.2.2 = u.2.2.2.2) : lfX u' = lfX u := by
  funext kp kc n
  unfold lfX lfS spX
  rw [ww_fr r24 r36 hx, r29, r30, r31, r32, r33, r35, r40]
theorem lfX_md {u u' : SX} {mx : MD} (h : FrM mx u u') (c : ([24, 29, 30, 31, 32, 33, 35, 36, 40].all fun k => !mx.2.1.contains k) = true) : lfX u' = lfX u := by
  have g : ∀ k, k ∈ [24, 29, 30, 31, 32, 33, 35, 36, 40] → u'.2.1 k = u.2.1 k := fun k hk => h.2.1 k (not_b (List.all_eq_true.mp c k hk))
  exact lfX_fr (g 24 (by decide)) (g 29 (by decide)) (g 30 (by decide)) (g 31 (by decide)) (g 32 (by decide)) (g 33 (by decide)) (g 35 (by decide)) (g 36 (by decide)) (g 40 (by decide)) h.2.2.2.2
theorem leave_sp {x1 r : Int32} {u u' : SX} (hR : RW u) (a0 : 0 ≤ x1.toInt) (a1 : x1.toInt < (u.1 13).toInt) (h : fX7_leave_7 x1 u = some (r, u')) : RW u' ∧ FrM mdX7_leave_7 u u' ∧ (∀ n : Nat, ¬ n = x1.toNatClampNeg → u'.2.1 38 n = u.2.1 38 n ∧ u'.2.1 39 n = u.2.1 39 n) ∧ (u'.2.1 38 x1.toNatClampNeg, u'.2.1 39 x1.toNatClampNeg) = lfX u (u.1 10).toNatClampNeg (u.1 11).toNatClampNeg x1.toNatClampNeg := by
  have b13 : (u.1 13).toInt ≤ (80 : Int) := (hR.1.1 13).2
  have b10 : (0 : Int) ≤ (u.1 10).toInt := (hR.1.1 10).1
  have sx : StX mdX7_leave_7 u u' := (Tot_at (tfX7_leave_7 x1 u hR.1 ⟨a0, by omega⟩) h).1
  unfold fX7_leave_7 at h
  generalize (5000 : Nat) = N1 at h
  obtain ⟨w, Rw, Fw, g⟩ := leave_L (u' := u') a0 N1 0 0 0 u hR a1 (by decide) (by show (0 : Int) ≤ _; exact b10) rfl rfl h
  unfold GX7_leave_7_88 at g
  obtain ⟨-, g⟩ := gd_some g
  obtain ⟨-, g⟩ := gd_some g
  obtain ⟨u18, i18, g⟩ := lt_some g
  obtain ⟨-, g⟩ := gd_some g
  obtain ⟨-, g⟩ := gd_some g
  obtain ⟨u22, i22, g⟩ := lt_some g
  have eu : u22 = u' := by cases g; rfl
  have k38 : u'.2.1 38 = upd (u.2.1 38) x1.toNatClampNeg (u.2.1 40 x1.toNatClampNeg - sumW (mxL u x1.toNatClampNeg) (u.1 10).toNatClampNeg) := by
    rw [← eu, i22, i18]
    show upd (w.2.1 38) x1.toNatClampNeg (w.2.1 40 x1.toNatClampNeg - _) = _
    rw [Fw.2.1 38 (by decide), Fw.2.1 40 (by decide)]
  have k39 : u'.2.1 39 = upd (u.2.1 39) x1.toNatClampNeg (u.2.1 40 x1.toNatClampNeg - sumW (mnL u x1.toNatClampNeg) (u.1 10).toNatClampNeg) := by
    rw [← eu, i22, i18]
    show upd (w.2.1 39) x1.toNatClampNeg (w.2.1 40 x1.toNatClampNeg - _) = _
    rw [Fw.2.1 39 (by decide), Fw.2.1 40 (by decide)]
  have Fu : FrM ([], [38, 39], [], []) w u' := by
    rw [← eu, i22, i18]
    exact FrM_sA (FrM_sA FrM_rf (by decide)) (by decide)
  have hc := hR.2.1.2.2
  have e1 : sumW (mxL u x1.toNatClampNeg) (u.1 10).toNatClampNeg = sumW (fun i => mxS (ww u x1.toNatClampNeg i) (spX u (u.1 11).toNatClampNeg i)) (u.1 10).toNatClampNeg := sumW_cg _ (fun i hi => by
    have hi : i < (u.1 10).toInt.toNat := hi
    show mxS _ (u.2.1 27 i, u.2.1 28 i) = _
    rw [hc i (by omega)])
  have e2 : sumW (mnL u x1.toNatClampNeg) (u.1 10).toNatClampNeg = sumW (fun i => mnS (ww u x1.toNatClampNeg i) (spX u (u.1 11).toNatClampNeg i)) (u.1 10).toNatClampNeg := sumW_cg _ (fun i hi => by
    have hi : i < (u.1 10).toInt.toNat := hi
    show mnS _ (u.2.1 27 i, u.2.1 28 i) = _
    rw [hc i (by omega)])
  refine ⟨RW_md sx.1 Fu (by decide) (by decide) (by decide) Rw, sx.2, fun n hn => ?_, ?_⟩
  · rw [k38, k39, upd_ne hn, upd_ne hn]
    exact ⟨rfl, rfl⟩
  · rw [k38, k39, upd_at, upd_at, e1, e2]
    rfl
def CK (u : SX) : Prop := (u.1 14).toInt ≤ (u.1 13).toInt ∧ (u.1 15).toInt ≤ (u.1 8).toInt ∧ (u.1 16).toInt ≤ (u.1 12).toInt ∧ ∀ n : Nat, (n : Int) < (u.1 14).toInt → (u.2.1 38 n, u.2.1 39 n) = lfX u (u.1 15).toNatClampNeg (u.1 16).toNatClampNeg n
theorem CK_md {u u' : SX} {mx : MD} (hx : FrM mx u u') (c2 : ([8, 12, 13, 14, 15, 16].all fun k => !mx.1.contains k) = true) (c3 : ([24, 29, 30, 31, 32, 33, 35, 36, 38, 39, 40].all fun k => !mx.2.1.contains k) = true) (h : CK u) : CK u' := by
  have f : ∀ k, k ∈ [8, 12, 13, 14, 15, 16] → u'.1 k = u.1 k := fun k hk => hx.1 k (not_b (List.all_eq_true.mp c2 k hk))
  have g : ∀ k, k ∈ [24, 29, 30, 31, 32, 33, 35, 36, 38, 39, 40] → u'.2.1 k = u.2.1 k := fun k hk => hx.2.1 k (not_b (List.all_eq_true.mp c3 k hk))
  have e := lfX_fr (g 24 (by decide)) (g 29 (by decide)) (g 30 (by decide)) (g 31 (by decide)) (g 32 (by decide)) (g 33 (by decide)) (g 35 (by decide)) (g 36 (by decide)) (g 40 (by decide)) hx.2.2.2.2
  unfold CK at h ⊢
  rw [e, f 8 (by decide), f 12 (by decide), f 13 (by decide), f 14 (by decide), f 15 (by decide), f 16 (by decide), g 38 (by decide), g 39 (by decide)]
  exact h
theorem recall_L {k91 : Int32 → SX → Option (Int32 × SX)} {z3 r : Int32} {u' : SX} : ∀ (n : Nat) (z4 : Int32) (u : SX), RW u → z3.toInt ≤ (u.1 13).toInt → 0 ≤ z4.toInt → (∀ i : Nat, (i : Int) < z4.toInt → (u.2.1 38 i, u.2.1 39 i) = lfX u (u.1 10).toNatClampNeg (u.1 11).toNatClampNeg i) → LX7_recall_7_73 k91 n z3 z4 u = some (r, u') → ∃ w : SX, RW w ∧ FrM mdX7_leave_7 u w ∧ (∀ i : Nat, (i : Int) < z3.toInt → (w.2.1 38 i, w.2.1 39 i) = lfX w (w.1 10).toNatClampNeg (w.1 11).toNatClampNeg i) ∧ k91 z3 w = some (r, u') := by
  intro n
  induction n with
  | zero => intro z4 u _ _ _ _ h; cases h
  | succ n ih =>
    intro z4 u hR h3 h0 hl g
    have b13 : (u.1 13).toInt ≤ (80 : Int) := (hR.1.1 13).2
    have g : (if z3 ≤ z4 then (k91 z3 u) else ((fX7_leave_7 z4 u).bind fun q => match q with | (r7, u8) => ((LX7_recall_7_73 k91 n) z3 (z4 + 1) u8))) = some (r, u') := g
    by_cases c : z3 ≤ z4
    · rw [if_pos c] at g
      have c9 := leI c
      exact ⟨u, hR, FrM_rf, fun i hi => hl i (by omega), g⟩
    · rw [if_neg c] at g
      have c9 := nleI c
      obtain ⟨⟨r7, u8⟩, a7, g⟩ := bd_some g
      obtain ⟨R8, F8, o8, n8⟩ := leave_sp hR h0 (by omega) a7
      have el : lfX u8 = lfX u := lfX_md F8 (by decide)
      have et : (z4 + 1).toInt = z4.toInt + 1 := addc_t (by decide) (by omega) (by omega)
      obtain ⟨w, q1, q2, q3, q4⟩ := ih (z4 + 1) u8 R8 (by rw [F8.1 13 (by decide)]; exact h3) (by rw [et]; omega) (fun i hi => by
        rw [et] at hi
        rw [el, F8.1 10 (by decide), F8.1 11 (by decide)]
        by_cases ci : i = z4.toNatClampNeg
        · rw [ci]
          exact n8
        · obtain ⟨p1, p2⟩ := o8 i ci
          have ci : ¬ i = z4.toInt.toNat := ci
          rw [p1, p2]
          exact hl i (by omega)) g
      exact ⟨w, q1, FrM_tr F8 q2 (by decide), q3, q4⟩
theorem recall_71 {z3 y0 r : Int32} {u u' : SX} (hI' : IX u') (hR : RW u) (h3 : 0 ≤ z3.toInt) (h3' : z3.toInt ≤ (u.1 13).toInt) (h0 : 0 ≤ y0.toInt) (hl : ∀ i : Nat, (i : Int) < y0.toInt → (u.2.1 38 i, u.2.1 39 i) = lfX u (u.1 10).toNatClampNeg (u.1 11).toNatClampNeg i) (h : GX7_recall_7_71 z3 y0 u = some (r, u')) : RW u' ∧ CK u' ∧ u'.1 14 = z3 ∧ u'.1 10 = u.1 10 ∧ u'.1 11 = u.1 11 ∧ u'.1 15 = u'.1 10 ∧ u'.1 16 = u'.1 11 := by
  unfold GX7_recall_7_71 at h
  generalize (5000 : Nat) = N1 at h
  obtain ⟨w, Rw, Fw, hw, g⟩ := recall_L (u' := u') N1 y0 u hR h3' h0 hl h
  unfold GX7_recall_7_91 at g
  obtain ⟨u10, i10, g⟩ := lt_some g
  obtain ⟨u12, i12, g⟩ := lt_some g
  obtain ⟨u14, i14, g⟩ := lt_some g
  have eu : u14 = u' := by cases g; rfl
  have Fu : FrM ([14, 15, 16], [], [], []) w u' := by
    rw [← eu, i14, i12, i10]
    exact FrM_sI (FrM_sI (FrM_sI FrM_rf (by decide)) (by decide)) (by decide)
  have k14 : u'.1 14 = z3 := by rw [← eu, i14, i12, i10]; rfl
  have k15 : u'.1 15 = w.1 10 := by rw [← eu, i14, i12, i10]; rfl
  have k16 : u'.1 16 = w.1 11 := by rw [← eu, i14, i12, i10]; rfl
  have k10 := Fu.1 10 (by decide)
  have k11 := Fu.1 11 (by decide)
  refine ⟨RW_md hI' Fu (by decide) (by decide) (by decide) Rw, ⟨?_, ?_, ?_, fun n hn => ?_⟩, k14, k10.trans (Fw.1 10 (by decide)), k11.trans (Fw.1 11 (by decide)), k15.trans k10.symm, k16.trans k11.symm⟩
  · rw [k14, Fu.1 13 (by decide), Fw.1 13 (by decide)]
    exact h3'
  · rw [k15, Fu.1 8 (by decide)]
    exact Rw.2.1.1
  · rw [k16, Fu.1 12 (by decide)]
    exact Rw.2.1.2.1
  · rw [k14] at hn
    rw [lfX_md Fu (by decide), k15, k16, Fu.2.1 38 (by decide), Fu.2.1 39 (by decide)]
    exact hw n hn
theorem recall7_sp {x1 r : Int32} {u u' : SX} (hR : RW u) (hK : CK u) (b0 : 0 ≤ x1.toInt) (b1 : x1.toInt ≤ 120) (h : fX7_recall_7 x1 u = some (r, u')) : RW u' ∧ CK u' ∧ FrM mdX7_recall_7 u u' ∧ u'.1 15 = u'.1 10 ∧ u'.1 16 = u'.1 11 ∧ UpTo (u.2.1 25) x1 (u.1 8) (u'.1 10) ∧ UpTo (u.2.1 34) x1 (u.1 12) (u'.1 11) ∧ UpTo (u.2.1 37) x1 (u.1 13) (u'.1 14) := by
  have sx : StX mdX7_recall_7 u u' := (Tot_at (tfX7_recall_7 x1 u hR.1 ⟨b0, b1⟩) h).1
  have b13 : (0 : Int) ≤ (u.1 13).toInt := (hR.1.1 13).1
  have b13' : (u.1 13).toInt ≤ (80 : Int) := (hR.1.1 13).2
  have b14 : (0 : Int) ≤ (u.1 14).toInt := (hR.1.1 14).1
  unfold fX7_recall_7 at h
  obtain ⟨⟨r1, u2⟩, a1, h⟩ := bd_some h
  obtain ⟨f2, g2, U10, U11, C2⟩ := recall_sp hR.1 hR.2.1 a1
  have s2 : StX mdX6_recall_6 u u2 := (Tot_at (tfX6_recall_6 x1 u hR.1 ⟨b0, b1⟩) a1).1
  have R2 : RW u2 := ⟨s2.1, C2, PL_fr (f2 8 rfl rfl) (f2 5 rfl rfl) (g2 24 rfl rfl) hR.2.2.1, LVX_fr (f2 13 rfl rfl) (f2 5 rfl rfl) (g2 36 rfl rfl) s2.2.2.2.2.2 hR.2.2.2.1, CW_fr (f2 13 rfl rfl) (f2 5 rfl rfl) (g2 36 rfl rfl) (g2 41 rfl rfl) s2.2.2.2.2.2 hR.2.2.2.2⟩
  have el : lfX u2 = lfX u := lfX_md s2.2 (by decide)
  have K2 : ∀ i : Nat, (i : Int) < (u2.1 14).toInt → (u2.2.1 38 i, u2.2.1 39 i) = lfX u2 (u2.1 15).toNatClampNeg (u2.1 16).toNatClampNeg i := fun i hi => by
    rw [f2 14 rfl rfl] at hi
    rw [el, f2 15 rfl rfl, f2 16 rfl rfl, g2 38 rfl rfl, g2 39 rfl rfl]
    exact hK.2.2.2 i hi
  have fin : ∀ (z3 y0 : Int32), UpTo (u2.2.1 37) x1 (u2.1 13) z3 → 0 ≤ y0.toInt → (∀ i : Nat, (i : Int) < y0.toInt → (u2.2.1 38 i, u2.2.1 39 i) = lfX u2 (u2.1 10).toNatClampNeg (u2.1 11).toNatClampNeg i) → GX7_recall_7_71 z3 y0 u2 = some (r, u') → RW u' ∧ CK u' ∧ FrM mdX7_recall_7 u u' ∧ u'.1 15 = u'.1 10 ∧ u'.1 16 = u'.1 11 ∧ UpTo (u.2.1 25) x1 (u.1 8) (u'.1 10) ∧ UpTo (u.2.1 34) x1 (u.1 12) (u'.1 11) ∧ UpTo (u.2.1 37) x1 (u.1 13) (u'.1 14) := fun z3 y0 hU hy hl g => by
    obtain ⟨q1, q2, q3, q4, q5, q6, q7⟩ := recall_71 sx.1 R2 hU.1 hU.2.1 hy hl g
    refine ⟨q1, q2, sx.2, q6, q7, ?_, ?_, ?_⟩
    · rw [q4]
      exact U10
    · rw [q5]
      exact U11
    · rw [q3, ← g2 37 rfl rfl, ← f2 13 rfl rfl]
      exact hU
  have b13u : (0 : Int) ≤ (u2.1 13).toInt := by rw [f2 13 rfl rfl]; exact b13
  have b13v : (u2.1 13).toInt ≤ (80 : Int) := by rw [f2 13 rfl rfl]; exact b13'
  have no : GX7_recall_7_40 x1 u2 = some (r, u') → RW u' ∧ CK u' ∧ FrM mdX7_recall_7 u u' ∧ u'.1 15 = u'.1 10 ∧ u'.1 16 = u'.1 11 ∧ UpTo (u.2.1 25) x1 (u.1 8) (u'.1 10) ∧ UpTo (u.2.1 34) x1 (u.1 12) (u'.1 11) ∧ UpTo (u.2.1 37) x1 (u.1 13) (u'.1 14) := fun g => by
    unfold GX7_recall_7_40 GX7_recall_7_41 at g
    obtain ⟨⟨r4, u5⟩, a4, g⟩ := bd_some g
    obtain ⟨e5, hU⟩ := rup37 b13u b13v a4
    have g : (if (0 : Int32) = 0 then (GX7_recall_7_71 r4 0 u5) else (GX7_recall_7_71 r4 (u5.1 14) u5)) = some (r, u') := g
    rw [if_pos rfl, e5] at g
    exact fin r4 0 hU (by decide) (fun i hi => by
      have hi : (i : Int) < 0 := hi
      omega) g
  have h : (if (u2.1 15) = (u2.1 10) then (if (u2.1 16) = (u2.1 11) then (GX7_recall_7_41 x1 1 u2) else (GX7_recall_7_40 x1 u2)) else (GX7_recall_7_40 x1 u2)) = some (r, u') := h
  by_cases c1 : u2.1 15 = u2.1 10
  · rw [if_pos c1] at h
    by_cases c2 : u2.1 16 = u2.1 11
    · rw [if_pos c2] at h
      unfold GX7_recall_7_41 at h
      obtain ⟨⟨r4, u5⟩, a4, h⟩ := bd_some h
      obtain ⟨e5, hU⟩ := rup37 b13u b13v a4
      have h : (if (1 : Int32) = 0 then (GX7_recall_7_71 r4 0 u5) else (GX7_recall_7_71 r4 (u5.1 14) u5)) = some (r, u') := h
      rw [if_neg (by decide), e5] at h
      exact fin r4 (u2.1 14) hU (by rw [f2 14 rfl rfl]; exact b14) (fun i hi => by
        rw [← c1, ← c2]
        exact K2 i hi) h
    · rw [if_neg c2] at h
      exact no h
  · rw [if_neg c1] at h
    exact no h
