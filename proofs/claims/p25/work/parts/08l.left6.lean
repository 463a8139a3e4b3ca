/-! The worths that are kept stay right: most, could, sets. -/
theorem RW_of {u u' : SX} {mx : MD} (hx : StX mx u u') (c1 : tieCX mx = true) (c2 : ([5, 8, 13].all fun k => !mx.1.contains k) = true) (c3 : ([24, 36].all fun k => !mx.2.1.contains k) = true) (hW : CW u') (h : RW u) : RW u' := by
  obtain ⟨-, hC, hP, hL, -⟩ := h
  have f : ∀ k, k ∈ [5, 8, 13] → u'.1 k = u.1 k := fun k hk => hx.2.1 k (not_b (List.all_eq_true.mp c2 k hk))
  have g : ∀ k, k ∈ [24, 36] → u'.2.1 k = u.2.1 k := fun k hk => hx.2.2.1 k (not_b (List.all_eq_true.mp c3 k hk))
  exact ⟨hx.1, CX_md hx.2 c1 hC, PL_fr (f 8 (by decide)) (f 5 (by decide)) (g 24 (by decide)) hP, LVX_fr (f 13 (by decide)) (f 5 (by decide)) (g 36 (by decide)) hx.2.2.2.2.2 hL, hW⟩
theorem recall6_RW {x1 r : Int32} {u u' : SX} (hR : RW u) (b0 : 0 ≤ x1.toInt) (b1 : x1.toInt ≤ 120) (h : fX6_recall_6 x1 u = some (r, u')) : RW u' ∧ FrM mdX6_recall_6 u u' ∧ UpTo (u.2.1 25) x1 (u.1 8) (u'.1 10) ∧ UpTo (u.2.1 34) x1 (u.1 12) (u'.1 11) := by
  obtain ⟨f2, g2, U10, U11, C2⟩ := recall_sp hR.1 hR.2.1 h
  have s2 : StX mdX6_recall_6 u u' := (Tot_at (tfX6_recall_6 x1 u hR.1 ⟨b0, b1⟩) h).1
  exact ⟨⟨s2.1, C2, PL_fr (f2 8 rfl rfl) (f2 5 rfl rfl) (g2 24 rfl rfl) hR.2.2.1, LVX_fr (f2 13 rfl rfl) (f2 5 rfl rfl) (g2 36 rfl rfl) s2.2.2.2.2.2 hR.2.2.2.1, CW_fr (f2 13 rfl rfl) (f2 5 rfl rfl) (g2 36 rfl rfl) (g2 41 rfl rfl) s2.2.2.2.2.2 hR.2.2.2.2⟩, s2.2, U10, U11⟩
theorem wide_L {z1 r : Int32} {u' : SX} (a0 : 0 ≤ z1.toInt) : ∀ (n : Nat) (z2 z3 z4 : Int32) (u : SX), RW u → z1.toInt < (u.1 13).toInt → 0 ≤ z4.toInt → LX7_widestPart_7_7 n z1 z2 z3 z4 u = some (r, u') → RW u' ∧ FrM mdX7_leanOf_7 u u' := by
  intro n
  induction n with
  | zero => intro z2 z3 z4 u _ _ _ h; cases h
  | succ n ih =>
    intro z2 z3 z4 u hR a1 h0 g
    have b10 : (u.1 10).toInt ≤ (12 : Int) := (hR.1.1 10).2
    have b8 : (u.1 10).toInt ≤ (u.1 8).toInt := hR.2.1.1
    have g : (if (u.1 10) ≤ z4 then (some (z2, u)) else (gd (inb z4 12) (gd (inb z4 12) ((fX7_leanOf_7 z1 z4 u).bind fun q => match q with | (r3, u4) => ((fX11_spread (u.2.1 27 z4.toNatClampNeg) (u.2.1 28 z4.toNatClampNeg) r3).bind fun r6 => (if r6 ≤ z3 then (GX7_widestPart_7_63 (LX7_widestPart_7_7 n) z1 z2 z3 z4 u4) else (GX7_widestPart_7_63 (LX7_widestPart_7_7 n) z1 z4 r6 z4 u4))))))) = some (r, u') := g
    by_cases c : u.1 10 ≤ z4
    · rw [if_pos c] at g
      have e : u = u' := by cases g; rfl
      rw [← e]
      exact ⟨hR, FrM_rf⟩
    · rw [if_neg c] at g
      have c9 := nleI c
      obtain ⟨-, g⟩ := gd_some g
      obtain ⟨-, g⟩ := gd_some g
      obtain ⟨⟨r3, u4⟩, a3, g⟩ := bd_some g
      obtain ⟨-, R4, F4⟩ := leanX hR a0 a1 h0 (by omega) a3
      obtain ⟨r6, a6, g⟩ := bd_some g
      have et : (z4 + 1).toInt = z4.toInt + 1 := addc_t (by decide) (by omega) (by omega)
      have fin : ∀ y2 y3 : Int32, LX7_widestPart_7_7 n z1 y2 y3 (z4 + 1) u4 = some (r, u') → RW u' ∧ FrM mdX7_leanOf_7 u u' := fun y2 y3 k => by
        obtain ⟨q1, q2⟩ := ih y2 y3 (z4 + 1) u4 R4 (by rw [F4.1 13 (by decide)]; exact a1) (by rw [et]; omega) k
        exact ⟨q1, FrM_tr F4 q2 (by decide)⟩
      by_cases d : r6 ≤ z3
      · rw [if_pos d] at g
        exact fin z2 z3 g
      · rw [if_neg d] at g
        exact fin z4 r6 g
theorem most_K {x1 x2 r : Int32} {u u' : SX} (hR : RW u) (hK : CK u) (h : fX11_most_0 x1 x2 u = some (r, u')) : RW u' ∧ CK u' := by
  have b120 : (u.1 0).toInt ≤ (120 : Int) := (hR.1.1 0).2
  unfold fX11_most_0 at h
  obtain ⟨⟨r1, u2⟩, a1, h⟩ := bd_some h
  obtain ⟨e1, k1⟩ := isDayi a1
  rw [e1] at h
  have no : some ((-1 : Int32), u) = some (r, u') → RW u' ∧ CK u' := fun g => by
    have e : u = u' := by cases g; rfl
    rw [← e]
    exact ⟨hR, hK⟩
  have h : (if r1 = 0 then (some ((-1), u)) else ((fX7_has_7 x1 u).bind fun q => match q with | (r4, u5) => (if r4 = 0 then (some ((-1), u5)) else ((fX6_recall_6 x2 u5).bind fun q => match q with | (r7, u8) => ((fX7_widestPart_7 x1 u8).bind fun q => match q with | (r10, u11) => (some (r10, u11))))))) = some (r, u') := h
  rcases k1 with ⟨z, k1⟩ | ⟨z, k1, k1'⟩
  · rw [if_pos z] at h
    exact no h
  · rw [if_neg (ne01 z)] at h
    obtain ⟨⟨r4, u5⟩, a4, h⟩ := bd_some h
    obtain ⟨e4, k4⟩ := has7i a4
    rw [e4] at h
    have h : (if r4 = 0 then (some ((-1), u)) else ((fX6_recall_6 x2 u).bind fun q => match q with | (r7, u8) => ((fX7_widestPart_7 x1 u8).bind fun q => match q with | (r10, u11) => (some (r10, u11))))) = some (r, u') := h
    rcases k4 with ⟨z, k4⟩ | ⟨z, k4, k4'⟩
    · rw [if_pos z] at h
      exact no h
    · rw [if_neg (ne01 z)] at h
      obtain ⟨⟨r7, u8⟩, a7, h⟩ := bd_some h
      obtain ⟨R8, F8, -⟩ := recall6_RW hR k1 (by omega) a7
      obtain ⟨⟨r10, u11⟩, a10, h⟩ := bd_some h
      have e : u11 = u' := by cases h; rfl
      have a10 : fX7_widestPart_7 x1 u8 = some (r10, u11) := a10
      unfold fX7_widestPart_7 at a10
      generalize (5000 : Nat) = N1 at a10
      obtain ⟨R9, F9⟩ := wide_L k4 N1 _ _ 0 u8 R8 (by rw [F8.1 13 (by decide)]; exact k4') (by decide) a10
      rw [← e]
      exact ⟨R9, CK_md F9 (by decide) (by decide) (CK_md F8 (by decide) (by decide) hK)⟩
/-! could -/
theorem nd_103 {k145 : Int32 → Int32 → Int32 → Int32 → Int32 → SX → Option (Int32 × SX)} {z1 z2 z3 z6 z7 r : Int32} {u' : SX} : ∀ (n : Nat) (u : SX), IX u → LX0_narrowDown_9_103 k145 n z1 z2 z3 z6 z7 u = some (r, u') → ∃ w : SX, IX w ∧ FrM ([24, 25], [], [], []) u w ∧ k145 z1 z2 z3 z6 z7 w = some (r, u') := by
  intro n
  induction n with
  | zero => intro u _ h; cases h
  | succ n ih =>
    intro u hI g
    have b24 : (0 : Int) ≤ (u.1 24).toInt := (hI.1 24).1
    have b25 : (u.1 25).toInt ≤ (400 : Int) := (hI.1 25).2
    have g : (if (u.1 25) < (u.1 24) then (k145 z1 z2 z3 z6 z7 u) else ((fX11_shine (u.1 24) z3).bind fun r22 => ((fX11_within r22 z6 z7).bind fun r25 => (if r25 = 0 then (lt (sI u 24 ((u.1 24) + 1)) fun u28 => ((LX0_narrowDown_9_103 k145 n) z1 z2 z3 z6 z7 u28)) else (k145 z1 z2 z3 z6 z7 u))))) = some (r, u') := g
    by_cases c : u.1 25 < u.1 24
    · rw [if_pos c] at g
      exact ⟨u, hI, FrM_rf, g⟩
    · rw [if_neg c] at g
      have c9 := nltI c
      obtain ⟨r22, -, g⟩ := bd_some g
      obtain ⟨r25, -, g⟩ := bd_some g
      by_cases d : r25 = 0
      · rw [if_pos d] at g
        obtain ⟨u28, i28, g⟩ := lt_some g
        have et : (u.1 24 + 1).toInt = (u.1 24).toInt + 1 := addc_t (by decide) (by omega) (by omega)
        have s28 : StX ([24, 25], [], [], []) u u28 := by
          rw [i28]
          exact StX_sI (StX_rf hI) (by decide) (by show (0 : Int) ≤ _; rw [et]; omega) (by show _ ≤ (401 : Int); rw [et]; omega)
        obtain ⟨w, q1, q2, q3⟩ := ih u28 s28.1 g
        exact ⟨w, q1, FrM_tr s28.2 q2 (by decide), q3⟩
      · rw [if_neg d] at g
        exact ⟨u, hI, FrM_rf, g⟩
theorem nd_145 {k187 : Int32 → Int32 → SX → Option (Int32 × SX)} {z1 z2 z3 z6 z7 r : Int32} {u' : SX} : ∀ (n : Nat) (u : SX), IX u → LX0_narrowDown_9_145 k187 n z1 z2 z3 z6 z7 u = some (r, u') → ∃ w : SX, IX w ∧ FrM ([24, 25], [], [], []) u w ∧ k187 z1 z2 w = some (r, u') := by
  intro n
  induction n with
  | zero => intro u _ h; cases h
  | succ n ih =>
    intro u hI g
    have b24 : (0 : Int) ≤ (u.1 24).toInt := (hI.1 24).1
    have b25 : (u.1 25).toInt ≤ (400 : Int) := (hI.1 25).2
    have g : (if (u.1 25) < (u.1 24) then (k187 z1 z2 u) else ((fX11_shine (u.1 25) z3).bind fun r30 => ((fX11_within r30 z6 z7).bind fun r33 => (if r33 = 0 then (lt (sI u 25 ((u.1 25) - 1)) fun u36 => ((LX0_narrowDown_9_145 k187 n) z1 z2 z3 z6 z7 u36)) else (k187 z1 z2 u))))) = some (r, u') := g
    by_cases c : u.1 25 < u.1 24
    · rw [if_pos c] at g
      exact ⟨u, hI, FrM_rf, g⟩
    · rw [if_neg c] at g
      have c9 := nltI c
      obtain ⟨r30, -, g⟩ := bd_some g
      obtain ⟨r33, -, g⟩ := bd_some g
      by_cases d : r33 = 0
      · rw [if_pos d] at g
        obtain ⟨u36, i36, g⟩ := lt_some g
        have et : (u.1 25 - 1).toInt = (u.1 25).toInt - 1 := subc_t (by decide) (by omega) (by omega)
        have s36 : StX ([24, 25], [], [], []) u u36 := by
          rw [i36]
          exact StX_sI (StX_rf hI) (by decide) (by show (-1 : Int) ≤ _; rw [et]; omega) (by show _ ≤ (400 : Int); rw [et]; omega)
        obtain ⟨w, q1, q2, q3⟩ := ih u36 s36.1 g
        exact ⟨w, q1, FrM_tr s36.2 q2 (by decide), q3⟩
      · rw [if_neg d] at g
        exact ⟨u, hI, FrM_rf, g⟩
theorem nd_14 {k193 : SX → Option (Int32 × SX)} {z1 r : Int32} {u' : SX} (p0 : 0 ≤ z1.toInt) : ∀ (n : Nat) (z2 : Int32) (u : SX), RW u → (u.1 14).toInt ≤ (u.1 13).toInt → z1.toInt < (u.1 8).toInt → 0 ≤ z2.toInt → LX0_narrowDown_9_14 k193 n z1 z2 u = some (r, u') → ∃ w : SX, RW w ∧ FrM mdX0_narrowDown_9 u w ∧ k193 w = some (r, u') := by
  intro n
  induction n with
  | zero => intro z2 u _ _ _ _ h; cases h
  | succ n ih =>
    intro z2 u hR h14 p1 h0 g
    have b13 : (u.1 13).toInt ≤ (80 : Int) := (hR.1.1 13).2
    have g : (if (u.1 14) ≤ z2 then (k193 u) else ((fX7_leanOf_7 z2 z1 u).bind fun q => match q with | (r5, u6) => (gd (inb z1 12) ((fX11_shine (u6.2.1 27 z1.toNatClampNeg) r5).bind fun r9 => (gd (inb z1 12) ((fX11_shine (u6.2.1 28 z1.toNatClampNeg) r5).bind fun r13 => (gd (inb z2 80) (lt ((u6.2.1 38 z2.toNatClampNeg) + (if r9 < r13 then r13 else r9)) fun v17 => (gd (inb z2 80) (lt ((u6.2.1 39 z2.toNatClampNeg) + (if r13 < r9 then r13 else r9)) fun v20 => (LX0_narrowDown_9_103 (LX0_narrowDown_9_145 (GX0_narrowDown_9_187 (LX0_narrowDown_9_14 k193 n)) 5000) 5000 z1 z2 r5 v17 v20 u6))))))))))) = some (r, u') := g
    by_cases c : u.1 14 ≤ z2
    · rw [if_pos c] at g
      exact ⟨u, hR, FrM_rf, g⟩
    · rw [if_neg c] at g
      have c9 := nleI c
      obtain ⟨⟨r5, u6⟩, a5, g⟩ := bd_some g
      obtain ⟨-, R6, F6⟩ := leanX hR h0 (by omega) p0 p1 a5
      obtain ⟨-, g⟩ := gd_some g
      obtain ⟨r9, -, g⟩ := bd_some g
      obtain ⟨-, g⟩ := gd_some g
      obtain ⟨r13, -, g⟩ := bd_some g
      obtain ⟨-, g⟩ := gd_some g
      obtain ⟨v17, -, g⟩ := lt_some g
      obtain ⟨-, g⟩ := gd_some g
      obtain ⟨v20, -, g⟩ := lt_some g
      generalize (5000 : Nat) = N1 at g
      obtain ⟨w1, J1, F1, g⟩ := nd_103 N1 u6 R6.1 g
      obtain ⟨w2, J2, F2, g⟩ := nd_145 N1 w1 J1 g
      have g : LX0_narrowDown_9_14 k193 n z1 (z2 + 1) w2 = some (r, u') := g
      have F3 : FrM ([24, 25], [], [], []) u6 w2 := FrM_tr F1 F2 (by decide)
      have R2 : RW w2 := RW_md J2 F3 (by decide) (by decide) (by decide) R6
      have F4 : FrM mdX0_narrowDown_9 u w2 := FrM_tr (FrM_tr FrM_rf F6 (by decide)) F3 (by decide)
      have et : (z2 + 1).toInt = z2.toInt + 1 := addc_t (by decide) (by omega) (by omega)
      obtain ⟨w, q1, q2, q3⟩ := ih (z2 + 1) w2 R2 (by rw [F4.1 14 (by decide), F4.1 13 (by decide)]; exact h14) (by rw [F4.1 8 (by decide)]; exact p1) (by rw [et]; omega) g
      exact ⟨w, q1, FrM_tr F4 q2 (by decide), q3⟩
theorem narrowDown_RW {x1 r : Int32} {u u' : SX} (hR : RW u) (h14 : (u.1 14).toInt ≤ (u.1 13).toInt) (p0 : 0 ≤ x1.toInt) (p1 : x1.toInt < (u.1 8).toInt) (h : fX0_narrowDown_9 x1 u = some (r, u')) : RW u' ∧ FrM mdX0_narrowDown_9 u u' := by
  unfold fX0_narrowDown_9 at h
  obtain ⟨u1, i1, h⟩ := lt_some h
  obtain ⟨u3, i3, h⟩ := lt_some h
  have s3 : StX ([24, 25], [], [], []) u u3 := by
    rw [i3, i1]
    exact StX_sI (StX_sI (StX_rf hR.1) (by decide) (by decide) (by decide)) (by decide) (by decide) (by decide)
  have R3 := RW_md s3.1 s3.2 (by decide) (by decide) (by decide) hR
  have F3 : FrM mdX0_narrowDown_9 u u3 := FrM_tr FrM_rf s3.2 (by decide)
  generalize (5000 : Nat) = N1 at h
  obtain ⟨w, Rw, Fw, g⟩ := nd_14 p0 N1 0 u3 R3 (by rw [F3.1 14 (by decide), F3.1 13 (by decide)]; exact h14) (by rw [F3.1 8 (by decide)]; exact p1) (by decide) h
  unfold GX0_narrowDown_9_193 at g
  have e : w = u' := by
    by_cases c : w.1 25 < w.1 24
    · rw [if_pos c] at g
      cases (gd_some g).2
      rfl
    · rw [if_neg c] at g
      cases (gd_some g).2
      rfl
  rw [← e]
  exact ⟨Rw, FrM_tr F3 Fw (by decide)⟩
def OKc (u : SX) (x1 x2 x3 : Int32) : Prop := 0 ≤ x2.toInt ∧ x2.toInt ≤ (u.1 0).toInt ∧ 0 ≤ x3.toInt ∧ x3.toInt ≤ 1 ∧ 0 ≤ x1.toInt ∧ x1.toInt < (u.1 8).toInt ∧ (u.2.1 25 x1.toNatClampNeg).toInt ≤ x2.toInt
theorem couldX {x1 x2 x3 r : Int32} {u u' : SX} (h : fX11_could_0 x1 x2 x3 u = some (r, u')) : (¬ OKc u x1 x2 x3 ∧ r = -1 ∧ u' = u) ∨ (OKc u x1 x2 x3 ∧ ∃ (s t : Int32) (w : SX), fX7_recall_7 x2 u = some (s, w) ∧ fX0_narrowDown_9 x1 w = some (t, u') ∧ r = if t = 0 then -1 else if x3 = 0 then u'.1 24 else u'.1 25) := by
  unfold fX11_could_0 at h
  have no : some ((-1 : Int32), u) = some (r, u') → r = -1 ∧ u' = u := fun g => by
    have e : (-1 : Int32) = r ∧ u = u' := by cases g; exact ⟨rfl, rfl⟩
    exact ⟨e.1.symm, e.2.symm⟩
  obtain ⟨⟨r1, u2⟩, a1, h⟩ := bd_some h
  obtain ⟨e1, k1⟩ := isDayi a1
  rw [e1] at h
  have h : (if r1 = 0 then (some ((-1), u)) else _) = some (r, u') := h
  rcases k1 with ⟨z, k1⟩ | ⟨z, k1, k1'⟩
  · rw [if_pos z] at h
    exact Or.inl ⟨fun q => k1 ⟨q.1, q.2.1⟩, no h⟩
  · rw [if_neg (ne01 z)] at h
    obtain ⟨r4, a4, h⟩ := bd_some h
    rcases eith a4 with ⟨z, k4⟩ | ⟨z, k4, k4'⟩
    · rw [if_pos z] at h
      exact Or.inl ⟨fun q => k4 ⟨q.2.2.1, q.2.2.2.1⟩, no h⟩
    · rw [if_neg (ne01 z)] at h
      obtain ⟨⟨r7, u8⟩, a7, h⟩ := bd_some h
      obtain ⟨e7, k7⟩ := hasPi a7
      rw [e7] at h
      have h : (if r7 = 0 then (some ((-1), u)) else (gd (inb x1 12) (if (u.2.1 25 x1.toNatClampNeg) ≤ x2 then ((fX7_recall_7 x2 u).bind fun q => match q with | (r11, u12) => ((fX0_narrowDown_9 x1 u12).bind fun q => match q with | (r14, u15) => (if r14 = 0 then (some ((-1), u15)) else (if x3 = 0 then (some (u15.1 24, u15)) else (some (u15.1 25, u15)))))) else (some ((-1), u))))) = some (r, u') := h
      rcases k7 with ⟨z, k7⟩ | ⟨z, k7, k7'⟩
      · rw [if_pos z] at h
        exact Or.inl ⟨fun q => k7 ⟨q.2.2.2.2.1, q.2.2.2.2.2.1⟩, no h⟩
      · rw [if_neg (ne01 z)] at h
        obtain ⟨-, h⟩ := gd_some h
        by_cases c : u.2.1 25 x1.toNatClampNeg ≤ x2
        · rw [if_pos c] at h
          have c9 := leI c
          obtain ⟨⟨r11, u12⟩, a11, h⟩ := bd_some h
          obtain ⟨⟨r14, u15⟩, a14, h⟩ := bd_some h
          have h : (if r14 = 0 then (some ((-1), u15)) else (if x3 = 0 then (some (u15.1 24, u15)) else (some (u15.1 25, u15)))) = some (r, u') := h
          have e : (if r14 = 0 then -1 else if x3 = 0 then u15.1 24 else u15.1 25) = r ∧ u15 = u' := by
            by_cases d : r14 = 0
            · rw [if_pos d] at h ⊢
              cases h
              exact ⟨rfl, rfl⟩
            · rw [if_neg d] at h ⊢
              by_cases d2 : x3 = 0
              · rw [if_pos d2] at h ⊢
                cases h
                exact ⟨rfl, rfl⟩
              · rw [if_neg d2] at h ⊢
                cases h
                exact ⟨rfl, rfl⟩
          rw [e.2] at a14 e
          exact Or.inr ⟨⟨k1, k1', k4, k4', k7, k7', c9⟩, r11, r14, u12, a11, a14, e.1.symm⟩
        · rw [if_neg c] at h
          have c9 := nleI c
          exact Or.inl ⟨fun q => c9 q.2.2.2.2.2.2, no h⟩
theorem could_K {x1 x2 x3 r : Int32} {u u' : SX} (hR : RW u) (hK : CK u) (h : fX11_could_0 x1 x2 x3 u = some (r, u')) : RW u' ∧ CK u' := by
  have b120 : (u.1 0).toInt ≤ (120 : Int) := (hR.1.1 0).2
  rcases couldX h with ⟨-, -, e⟩ | ⟨⟨q1, q2, q3, q4, q5, q6, q7⟩, s, t, w, a1, a2, -⟩
  · rw [e]
    exact ⟨hR, hK⟩
  · obtain ⟨Rw, Kw, Fw, -⟩ := recall7_sp hR hK q1 (by omega) a1
    obtain ⟨R', F'⟩ := narrowDown_RW Rw Kw.1 q5 (by rw [Fw.1 8 (by decide)]; exact q6) a2
    exact ⟨R', CK_md F' (by decide) (by decide) Kw⟩
/-! sets -/
theorem wg_55 {k174 : SX → Option (Int32 × SX)} {z1 z2 r : Int32} {u' : SX} (a0 : 0 ≤ z1.toInt) : ∀ (n : Nat) (z3 : Int32) (u : SX), RW u → z1.toInt < (u.1 13).toInt → 0 ≤ z3.toInt → LX0_weigh_9_55 k174 n z1 z2 z3 u = some (r, u') → ∃ w : SX, RW w ∧ FrM ([], [16, 17, 41, 47], [], []) u w ∧ k174 w = some (r, u') := by
  intro n
  induction n with
  | zero => intro z3 u _ _ _ h; cases h
  | succ n ih =>
    intro z3 u hR a1 h0 g
    have b10 : (u.1 10).toInt ≤ (12 : Int) := (hR.1.1 10).2
    have b8 : (u.1 10).toInt ≤ (u.1 8).toInt := hR.2.1.1
    have g : (if (u.1 10) ≤ z3 then (k174 u) else ((fX7_leanOf_7 z1 z3 u).bind fun q => match q with | (r6, u7) => (gd (inb z3 12) ((fX11_shine (u7.2.1 27 z3.toNatClampNeg) r6).bind fun r10 => (gd (inb z3 12) ((fX11_shine (u7.2.1 28 z3.toNatClampNeg) r6).bind fun r14 => ((fX11_shine 400 r6).bind fun r17 => (if z2 = 0 then (GX0_weigh_9_167 (LX0_weigh_9_55 k174 n) z1 z2 z3 ((if r14 < r10 then r14 else r10) - (if r17 < 0 then r17 else 0)) (((u7.1 26) * 12) + z3) u7) else (GX0_weigh_9_167 (LX0_weigh_9_55 k174 n) z1 z2 z3 ((if 0 < r17 then r17 else 0) - (if r10 < r14 then r14 else r10)) (((u7.1 26) * 12) + z3) u7))))))))) = some (r, u') := g
    by_cases c : u.1 10 ≤ z3
    · rw [if_pos c] at g
      exact ⟨u, hR, FrM_rf, g⟩
    · rw [if_neg c] at g
      have c9 := nleI c
      obtain ⟨⟨r6, u7⟩, a6, g⟩ := bd_some g
      obtain ⟨-, R7, F7⟩ := leanX hR a0 a1 h0 (by omega) a6
      obtain ⟨-, g⟩ := gd_some g
      obtain ⟨r10, -, g⟩ := bd_some g
      obtain ⟨-, g⟩ := gd_some g
      obtain ⟨r14, -, g⟩ := bd_some g
      obtain ⟨r17, -, g⟩ := bd_some g
      have et : (z3 + 1).toInt = z3.toInt + 1 := addc_t (by decide) (by omega) (by omega)
      have fin : ∀ y0 y1 : Int32, GX0_weigh_9_167 (LX0_weigh_9_55 k174 n) z1 z2 z3 y0 y1 u7 = some (r, u') → ∃ w : SX, RW w ∧ FrM ([], [16, 17, 41, 47], [], []) u w ∧ k174 w = some (r, u') := fun y0 y1 k => by
        unfold GX0_weigh_9_167 at k
        obtain ⟨-, k⟩ := gd_some k
        obtain ⟨u21, i21, k⟩ := lt_some k
        have s21 : StX ([], [47], [], []) u7 u21 := by
          rw [i21]
          exact StX_sAf (StX_rf R7.1) (by decide) rfl rfl (by decide)
        have R21 := RW_md s21.1 s21.2 (by decide) (by decide) (by decide) R7
        have F21 : FrM ([], [16, 17, 41, 47], [], []) u u21 := FrM_tr (FrM_tr FrM_rf F7 (by decide)) s21.2 (by decide)
        obtain ⟨w, q1, q2, q3⟩ := ih (z3 + 1) u21 R21 (by rw [F21.1 13 (by decide)]; exact a1) (by rw [et]; omega) k
        exact ⟨w, q1, FrM_tr F21 q2 (by decide), q3⟩
      by_cases d : z2 = 0
      · rw [if_pos d] at g
        exact fin _ _ g
      · rw [if_neg d] at g
        exact fin _ _ g
theorem weigh_RW {x1 r : Int32} {u u' : SX} (hR : RW u) (a0 : 0 ≤ x1.toInt) (a1 : x1.toInt < (u.1 13).toInt) (h26 : (u.1 26).toInt < (80 : Int)) (h : fX0_weigh_9 x1 u = some (r, u')) : RW u' ∧ FrM mdX0_weigh_9 u u' ∧ u'.1 26 = u.1 26 + 1 := by
  have b13 : (u.1 13).toInt ≤ (80 : Int) := (hR.1.1 13).2
  have sx : StX mdX0_weigh_9 u u' := (Tot_at (tfX0_weigh_9 x1 u hR.1 ⟨a0, by omega⟩ h26) h).1
  unfold fX0_weigh_9 at h
  obtain ⟨-, h⟩ := gd_some h
  have f52 : ∀ y0 y1 z2 : Int32, GX0_weigh_9_52 x1 z2 y0 y1 u = some (r, u') → RW u' ∧ FrM mdX0_weigh_9 u u' ∧ u'.1 26 = u.1 26 + 1 := fun y0 y1 z2 k => by
    unfold GX0_weigh_9_52 at k
    obtain ⟨-, k⟩ := gd_some k
    obtain ⟨u4, i4, k⟩ := lt_some k
    have s4 : StX ([], [46], [], []) u u4 := by
      rw [i4]
      exact StX_sAf (StX_rf hR.1) (by decide) rfl rfl (by decide)
    have R4 := RW_md s4.1 s4.2 (by decide) (by decide) (by decide) hR
    generalize (5000 : Nat) = N1 at k
    obtain ⟨w, Rw, Fw, k⟩ := wg_55 a0 N1 0 u4 R4 (by rw [s4.2.1 13 (by decide)]; exact a1) (by decide) k
    unfold GX0_weigh_9_174 at k
    obtain ⟨u23, i23, k⟩ := lt_some k
    have e : u23 = u' := by cases k; rfl
    have F5 : FrM ([26], [], [], []) w u' := by
      rw [← e, i23]
      exact FrM_sI FrM_rf (by decide)
    refine ⟨RW_md sx.1 F5 (by decide) (by decide) (by decide) Rw, sx.2, ?_⟩
    rw [← e, i23]
    show w.1 26 + 1 = _
    rw [Fw.1 26 (by decide), s4.2.1 26 (by decide)]
  have f17 : ∀ y0 : Int32, GX0_weigh_9_17 x1 y0 u = some (r, u') → RW u' ∧ FrM mdX0_weigh_9 u u' ∧ u'.1 26 = u.1 26 + 1 := fun y0 k => by
    unfold GX0_weigh_9_17 at k
    by_cases d : y0 = 0
    · rw [if_pos d] at k
      exact f52 _ _ _ (gd_some k).2
    · rw [if_neg d] at k
      exact f52 _ _ _ (gd_some k).2
  by_cases c : u.2.1 38 x1.toNatClampNeg ≤ 0
  · rw [if_pos c] at h
    exact f17 _ h
  · rw [if_neg c] at h
    exact f17 _ h
theorem fw_12 {k58 : SX → Option (Int32 × SX)} {r : Int32} {u' : SX} : ∀ (n : Nat) (z1 : Int32) (u : SX), RW u → (u.1 14).toInt ≤ (u.1 13).toInt → 0 ≤ z1.toInt → (u.1 26).toInt ≤ z1.toInt → LX0_fewest_9_12 k58 n z1 u = some (r, u') → ∃ w : SX, RW w ∧ FrM mdX0_weigh_9 u w ∧ k58 w = some (r, u') := by
  intro n
  induction n with
  | zero => intro z1 u _ _ _ _ h; cases h
  | succ n ih =>
    intro z1 u hR h14 h0 h26 g
    have b13 : (u.1 13).toInt ≤ (80 : Int) := (hR.1.1 13).2
    have b26 : (0 : Int) ≤ (u.1 26).toInt := (hR.1.1 26).1
    have g : (if (u.1 14) ≤ z1 then (k58 u) else (gd (inb z1 80) (if 0 < (u.2.1 38 z1.toNatClampNeg) then (GX0_fewest_9_47 (LX0_fewest_9_12 k58 n) z1 u) else (gd (inb z1 80) (if 0 ≤ (u.2.1 39 z1.toNatClampNeg) then (GX0_fewest_9_52 (LX0_fewest_9_12 k58 n) z1 u) else (GX0_fewest_9_47 (LX0_fewest_9_12 k58 n) z1 u)))))) = some (r, u') := g
    by_cases c : u.1 14 ≤ z1
    · rw [if_pos c] at g
      exact ⟨u, hR, FrM_rf, g⟩
    · rw [if_neg c] at g
      have c9 := nleI c
      have et : (z1 + 1).toInt = z1.toInt + 1 := addc_t (by decide) (by omega) (by omega)
      obtain ⟨-, g⟩ := gd_some g
      have f47 : GX0_fewest_9_47 (LX0_fewest_9_12 k58 n) z1 u = some (r, u') → ∃ w : SX, RW w ∧ FrM mdX0_weigh_9 u w ∧ k58 w = some (r, u') := fun k => by
        unfold GX0_fewest_9_47 at k
        obtain ⟨⟨r6, u7⟩, a6, k⟩ := bd_some k
        obtain ⟨R7, F7, e26⟩ := weigh_RW hR h0 (by omega) (by omega) a6
        have k : LX0_fewest_9_12 k58 n (z1 + 1) u7 = some (r, u') := k
        have e1 : (u.1 26 + 1).toInt = (u.1 26).toInt + 1 := addc_t (by decide) (by omega) (by omega)
        obtain ⟨w, q1, q2, q3⟩ := ih (z1 + 1) u7 R7 (by rw [F7.1 14 (by decide), F7.1 13 (by decide)]; exact h14) (by rw [et]; omega) (by rw [e26, et, e1]; omega) k
        exact ⟨w, q1, FrM_tr F7 q2 (by decide), q3⟩
      by_cases d : 0 < u.2.1 38 z1.toNatClampNeg
      · rw [if_pos d] at g
        exact f47 g
      · rw [if_neg d] at g
        obtain ⟨-, g⟩ := gd_some g
        by_cases d2 : 0 ≤ u.2.1 39 z1.toNatClampNeg
        · rw [if_pos d2] at g
          have g : LX0_fewest_9_12 k58 n (z1 + 1) u = some (r, u') := g
          exact ih (z1 + 1) u hR h14 (by rw [et]; omega) (by rw [et]; omega) g
        · rw [if_neg d2] at g
          exact f47 g
theorem fw_80 {r : Int32} {u' : SX} : ∀ (n : Nat) (z1 : Int32) (u : SX), IX u → 0 ≤ z1.toInt → LX0_fewest_9_80 n z1 u = some (r, u') → StX mdX0_choose_9 u u' := by
  intro n
  induction n with
  | zero => intro z1 u _ _ h; cases h
  | succ n ih =>
    intro z1 u hI h0 g
    have b10 : (u.1 10).toInt ≤ (12 : Int) := (hI.1 10).2
    have g : (if (u.1 10) < z1 then (some ((-1), u)) else ((rX0chooseg 16 0 0 z1 0 u).bind fun q => match q with | (r13, u14) => (if r13 = 0 then ((LX0_fewest_9_80 n) (z1 + 1) u14) else (some (u14.1 28, u14))))) = some (r, u') := g
    by_cases c : u.1 10 < z1
    · rw [if_pos c] at g
      have e : u = u' := by cases g; rfl
      rw [← e]
      exact StX_rf hI
    · rw [if_neg c] at g
      have c9 := nltI c
      have et : (z1 + 1).toInt = z1.toInt + 1 := addc_t (by decide) (by omega) (by omega)
      obtain ⟨⟨r13, u14⟩, a13, g⟩ := bd_some g
      have s14 : StX mdX0_choose_9 u u14 := (Tot_at ((RCrX0chooseg_all 16) 0 z1 0 u hI (by decide) ⟨h0, by omega⟩ (by show z1.toInt + 1 < (16 : Int); omega)) a13).1
      have g : (if r13 = 0 then ((LX0_fewest_9_80 n) (z1 + 1) u14) else (some (u14.1 28, u14))) = some (r, u') := g
      by_cases d : r13 = 0
      · rw [if_pos d] at g
        exact StX_tr s14 (ih (z1 + 1) u14 s14.1 (by rw [et]; omega) g) (by decide)
      · rw [if_neg d] at g
        have e : u14 = u' := by cases g; rfl
        rw [← e]
        exact s14
theorem fewest_RW {r : Int32} {u u' : SX} (hR : RW u) (h14 : (u.1 14).toInt ≤ (u.1 13).toInt) (h : fX0_fewest_9 u = some (r, u')) : RW u' ∧ FrM mdX0_fewest_9 u u' := by
  unfold fX0_fewest_9 at h
  obtain ⟨u1, i1, h⟩ := lt_some h
  obtain ⟨u3, i3, h⟩ := lt_some h
  have s3 : StX ([26, 27], [], [], []) u u3 := by
    rw [i3, i1]
    exact StX_sI (StX_sI (StX_rf hR.1) (by decide) (by decide) (by decide)) (by decide) (by decide) (by decide)
  have R3 := RW_md s3.1 s3.2 (by decide) (by decide) (by decide) hR
  have F3 : FrM mdX0_fewest_9 u u3 := FrM_tr FrM_rf s3.2 (by decide)
  have e26 : u3.1 26 = 0 := by rw [i3, i1]; rfl
  generalize (5000 : Nat) = N1 at h
  obtain ⟨w, Rw, Fw, g⟩ := fw_12 N1 0 u3 R3 (by rw [F3.1 14 (by decide), F3.1 13 (by decide)]; exact h14) (by decide) (by rw [e26]; decide) h
  have F4 : FrM mdX0_fewest_9 u w := FrM_tr F3 Fw (by decide)
  unfold GX0_fewest_9_58 at g
  obtain ⟨⟨r10, u11⟩, a10, g⟩ := bd_some g
  have s11 : StX mdX0_covers_9 w u11 := (Tot_at (tfX0_covers_9 _ w Rw.1) a10).1
  have R11 := RW_md s11.1 s11.2 (by decide) (by decide) (by decide) Rw
  have F11 : FrM mdX0_fewest_9 u u11 := FrM_tr F4 s11.2 (by decide)
  have g : (if r10 = 0 then (some ((-1), u11)) else (LX0_fewest_9_80 5000 0 u11)) = some (r, u') := g
  by_cases d : r10 = 0
  · rw [if_pos d] at g
    have e : u11 = u' := by cases g; rfl
    rw [← e]
    exact ⟨R11, F11⟩
  · rw [if_neg d] at g
    generalize (5000 : Nat) = N2 at g
    have s' := fw_80 N2 0 u11 R11.1 (by decide) g
    exact ⟨RW_md s'.1 s'.2 (by decide) (by decide) (by decide) R11, FrM_tr F11 s'.2 (by decide)⟩
theorem sets_K {x1 r : Int32} {u u' : SX} (hR : RW u) (hK : CK u) (h : fX11_sets_0 x1 u = some (r, u')) : RW u' ∧ CK u' := by
  have b120 : (u.1 0).toInt ≤ (120 : Int) := (hR.1.1 0).2
  unfold fX11_sets_0 at h
  obtain ⟨⟨r1, u2⟩, a1, h⟩ := bd_some h
  obtain ⟨e1, k1⟩ := isDayi a1
  rw [e1] at h
  have h : (if r1 = 0 then (some ((-1), u)) else ((fX7_recall_7 x1 u).bind fun q => match q with | (r4, u5) => ((fX0_fewest_9 u5).bind fun q => match q with | (r7, u8) => (some (r7, u8))))) = some (r, u') := h
  rcases k1 with ⟨z, k1⟩ | ⟨z, k1, k1'⟩
  · rw [if_pos z] at h
    have e : u = u' := by cases h; rfl
    rw [← e]
    exact ⟨hR, hK⟩
  · rw [if_neg (ne01 z)] at h
    obtain ⟨⟨r4, u5⟩, a4, h⟩ := bd_some h
    obtain ⟨R5, K5, F5, -⟩ := recall7_sp hR hK k1 (by omega) a4
    obtain ⟨⟨r7, u8⟩, a7, h⟩ := bd_some h
    have e : u8 = u' := by cases h; rfl
    obtain ⟨R8, F8⟩ := fewest_RW R5 K5.1 a7
    rw [← e]
    exact ⟨R8, CK_md F8 (by decide) (by decide) K5⟩
