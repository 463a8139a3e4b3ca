/-! What a part could be: the class narrows down from both ends. -/
theorem shn_btw {a b c w : Int32} (a0 : 0 ≤ a.toInt) (c1 : c.toInt ≤ 400) (hab : a.toInt ≤ b.toInt) (hbc : b.toInt ≤ c.toInt) (hw : Bw w) : ((shn a w).toInt ≤ (shn b w).toInt ∧ (shn b w).toInt ≤ (shn c w).toInt) ∨ ((shn c w).toInt ≤ (shn b w).toInt ∧ (shn b w).toInt ≤ (shn a w).toInt) := by
  rw [shnv (a := a) a0 (by omega) hw, shnv (a := b) (by omega) (by omega) hw, shnv (a := c) (by omega) c1 hw]
  rcases Int.lt_or_le w.toInt 0 with d | d
  · exact Or.inr ⟨tdiv_mono (Int.mul_le_mul_of_nonpos_right hbc (by omega)), tdiv_mono (Int.mul_le_mul_of_nonpos_right hab (by omega))⟩
  · exact Or.inl ⟨tdiv_mono (Int.mul_le_mul_of_nonneg_right hab d), tdiv_mono (Int.mul_le_mul_of_nonneg_right hbc d)⟩
/-- a loudness fits one reading -/
def FA (fl ce w v : Int32) : Prop := fl.toInt ≤ (shn v w).toInt ∧ (shn v w).toInt ≤ ce.toInt
theorem FA_cv {fl ce w a b c : Int32} (a0 : 0 ≤ a.toInt) (c1 : c.toInt ≤ 400) (hab : a.toInt ≤ b.toInt) (hbc : b.toInt ≤ c.toInt) (hw : Bw w) (h1 : FA fl ce w a) (h2 : FA fl ce w c) : FA fl ce w b := by
  obtain ⟨p1, p2⟩ := h1
  obtain ⟨q1, q2⟩ := h2
  rcases shn_btw a0 c1 hab hbc hw with ⟨x, y⟩ | ⟨x, y⟩
  · exact ⟨by omega, by omega⟩
  · exact ⟨by omega, by omega⟩
/-- a loudness fits the first m readings -/
def FC (fl ce w : Nat → Int32) (m : Nat) (v : Int32) : Prop := ∀ i, i < m → FA (fl i) (ce i) (w i) v
theorem FC_s {fl ce w : Nat → Int32} {m : Nat} {v : Int32} : FC fl ce w (m + 1) v ↔ (FC fl ce w m v ∧ FA (fl m) (ce m) (w m) v) := by
  constructor
  · intro h
    exact ⟨fun i hi => h i (by omega), h m (by omega)⟩
  · intro h i hi
    by_cases c : i = m
    · rw [c]
      exact h.2
    · exact h.1 i (by omega)
theorem nd_103v {k145 : Int32 → Int32 → Int32 → Int32 → Int32 → SX → Option (Int32 × SX)} {z1 z2 z3 z6 z7 r : Int32} {u' : SX} : ∀ (n : Nat) (u : SX), IX u → LX0_narrowDown_9_103 k145 n z1 z2 z3 z6 z7 u = some (r, u') → ∃ w : SX, IX w ∧ FrM ([24], [], [], []) u w ∧ (u.1 24).toInt ≤ (w.1 24).toInt ∧ (∀ v : Int32, (u.1 24).toInt ≤ v.toInt → v.toInt < (w.1 24).toInt → ¬ FA z6 z7 z3 v) ∧ ((u.1 25).toInt < (w.1 24).toInt ∨ FA z6 z7 z3 (w.1 24)) ∧ k145 z1 z2 z3 z6 z7 w = some (r, u') := by
  intro n
  induction n with
  | zero => intro u _ h; cases h
  | succ n ih =>
    intro u hI g
    have b24 : (0 : Int) ≤ (u.1 24).toInt := (hI.1 24).1
    have b25 : (u.1 25).toInt ≤ (400 : Int) := (hI.1 25).2
    have g : (if (u.1 25) < (u.1 24) then (k145 z1 z2 z3 z6 z7 u) else ((fX11_shine (u.1 24) z3).bind fun r22 => ((fX11_within r22 z6 z7).bind fun r25 => (if r25 = 0 then (lt (sI u 24 ((u.1 24) + 1)) fun u28 => ((LX0_narrowDown_9_103 k145 n) z1 z2 z3 z6 z7 u28)) else (k145 z1 z2 z3 z6 z7 u))))) = some (r, u') := g
    by_cases c : u.1 25 < u.1 24
    · rw [if_pos c] at g
      exact ⟨u, hI, FrM_rf, Int.le_refl _, fun v h1 h2 => by omega, Or.inl (ltI c), g⟩
    · rw [if_neg c] at g
      have c9 := nltI c
      obtain ⟨r22, a22, g⟩ := bd_some g
      obtain ⟨r25, a25, g⟩ := bd_some g
      have s22 := shn_X a22
      rcases win a25 with ⟨d, kk⟩ | ⟨d, k1, k2⟩
      · rw [if_pos d] at g
        obtain ⟨u28, i28, g⟩ := lt_some g
        have et : (u.1 24 + 1).toInt = (u.1 24).toInt + 1 := addc_t (by decide) (by omega) (by omega)
        have s28 : StX ([24], [], [], []) u u28 := by
          rw [i28]
          exact StX_sI (StX_rf hI) (by decide) (by show (0 : Int) ≤ _; rw [et]; omega) (by show _ ≤ (401 : Int); rw [et]; omega)
        have e24 : u28.1 24 = u.1 24 + 1 := by rw [i28]; rfl
        obtain ⟨w, q1, q2, q3, q4, q5, q6⟩ := ih u28 s28.1 g
        rw [e24, et] at q3 q4
        rw [s28.2.1 25 (by decide)] at q5
        refine ⟨w, q1, FrM_tr s28.2 q2 (by decide), by omega, fun v h1 h2 => ?_, q5, q6⟩
        by_cases cv : v = u.1 24
        · rw [cv]
          unfold FA
          rw [← s22]
          exact kk
        · have cv9 : ¬ v.toInt = (u.1 24).toInt := neI cv
          exact q4 v (by omega) h2
      · rw [if_neg (ne01 d)] at g
        refine ⟨u, hI, FrM_rf, Int.le_refl _, fun v h1 h2 => by omega, Or.inr ?_, g⟩
        unfold FA
        rw [← s22]
        exact ⟨k1, k2⟩
theorem nd_145v {k187 : Int32 → Int32 → SX → Option (Int32 × SX)} {z1 z2 z3 z6 z7 r : Int32} {u' : SX} : ∀ (n : Nat) (u : SX), IX u → LX0_narrowDown_9_145 k187 n z1 z2 z3 z6 z7 u = some (r, u') → ∃ w : SX, IX w ∧ FrM ([25], [], [], []) u w ∧ (w.1 25).toInt ≤ (u.1 25).toInt ∧ (∀ v : Int32, (w.1 25).toInt < v.toInt → v.toInt ≤ (u.1 25).toInt → ¬ FA z6 z7 z3 v) ∧ ((w.1 25).toInt < (u.1 24).toInt ∨ FA z6 z7 z3 (w.1 25)) ∧ k187 z1 z2 w = some (r, u') := by
  intro n
  induction n with
  | zero => intro u _ h; cases h
  | succ n ih =>
    intro u hI g
    have b24 : (0 : Int) ≤ (u.1 24).toInt := (hI.1 24).1
    have b25 : (u.1 25).toInt ≤ (400 : Int) := (hI.1 25).2
    have g : (if (u.1 25) < (u.1 24) then (k187 z1 z2 u) else ((fX11_shine (u.1 25) z3).bind fun r30 => ((fX11_within r30 z6 z7).bind fun r33 => (if r33 = 0 then (lt (sI u 25 ((u.1 25) - 1)) fun u36 => ((LX0_narrowDown_9_145 k187 n) z1 z2 z3 z6 z7 u36)) else (k187 z1 z2 u))))) = some (r, u') := g
    by_cases c : u.1 25 < u.1 24
    · rw [if_pos c] at g
      exact ⟨u, hI, FrM_rf, Int.le_refl _, fun v h1 h2 => by omega, Or.inl (ltI c), g⟩
    · rw [if_neg c] at g
      have c9 := nltI c
      obtain ⟨r30, a30, g⟩ := bd_some g
      obtain ⟨r33, a33, g⟩ := bd_some g
      have s30 := shn_X a30
      rcases win a33 with ⟨d, kk⟩ | ⟨d, k1, k2⟩
      · rw [if_pos d] at g
        obtain ⟨u36, i36, g⟩ := lt_some g
        have et : (u.1 25 - 1).toInt = (u.1 25).toInt - 1 := subc_t (by decide) (by omega) (by omega)
        have s36 : StX ([25], [], [], []) u u36 := by
          rw [i36]
          exact StX_sI (StX_rf hI) (by decide) (by show (-1 : Int) ≤ _; rw [et]; omega) (by show _ ≤ (400 : Int); rw [et]; omega)
        have e25 : u36.1 25 = u.1 25 - 1 := by rw [i36]; rfl
        obtain ⟨w, q1, q2, q3, q4, q5, q6⟩ := ih u36 s36.1 g
        rw [e25, et] at q3 q4
        rw [s36.2.1 24 (by decide)] at q5
        refine ⟨w, q1, FrM_tr s36.2 q2 (by decide), by omega, fun v h1 h2 => ?_, q5, q6⟩
        by_cases cv : v = u.1 25
        · rw [cv]
          unfold FA
          rw [← s30]
          exact kk
        · have cv9 : ¬ v.toInt = (u.1 25).toInt := neI cv
          exact q4 v h1 (by omega)
      · rw [if_neg (ne01 d)] at g
        refine ⟨u, hI, FrM_rf, Int.le_refl _, fun v h1 h2 => by omega, Or.inr ?_, g⟩
        unfold FA
        rw [← s30]
        exact ⟨k1, k2⟩
theorem nd_14v {k193 : SX → Option (Int32 × SX)} {z1 r : Int32} {u' : SX} {fl ce wl : Nat → Int32} (p0 : 0 ≤ z1.toInt) : ∀ (n : Nat) (z2 : Int32) (u : SX), RW u → (u.1 14).toInt ≤ (u.1 13).toInt → z1.toInt < (u.1 8).toInt → 0 ≤ z2.toInt → z2.toInt ≤ (u.1 14).toInt → (∀ i : Nat, (i : Int) < (u.1 14).toInt → wl i = ww u i z1.toNatClampNeg ∧ Bw (wl i) ∧ fl i = u.2.1 38 i + mxS (wl i) (u.2.1 27 z1.toNatClampNeg, u.2.1 28 z1.toNatClampNeg) ∧ ce i = u.2.1 39 i + mnS (wl i) (u.2.1 27 z1.toNatClampNeg, u.2.1 28 z1.toNatClampNeg)) → (∀ v : Int32, 0 ≤ v.toInt → v.toInt ≤ 400 → (FC fl ce wl z2.toNatClampNeg v ↔ ((u.1 24).toInt ≤ v.toInt ∧ v.toInt ≤ (u.1 25).toInt))) → LX0_narrowDown_9_14 k193 n z1 z2 u = some (r, u') → ∃ w : SX, (∀ v : Int32, 0 ≤ v.toInt → v.toInt ≤ 400 → (FC fl ce wl (u.1 14).toNatClampNeg v ↔ ((w.1 24).toInt ≤ v.toInt ∧ v.toInt ≤ (w.1 25).toInt))) ∧ IX w ∧ k193 w = some (r, u') := by
  intro n
  induction n with
  | zero => intro z2 u _ _ _ _ _ _ _ h; cases h
  | succ n ih =>
    intro z2 u hR h14 p1 h0 h9 hd hF g
    have b13 : (u.1 13).toInt ≤ (80 : Int) := (hR.1.1 13).2
    have g : (if (u.1 14) ≤ z2 then (k193 u) else ((fX7_leanOf_7 z2 z1 u).bind fun q => match q with | (r5, u6) => (gd (inb z1 12) ((fX11_shine (u6.2.1 27 z1.toNatClampNeg) r5).bind fun r9 => (gd (inb z1 12) ((fX11_shine (u6.2.1 28 z1.toNatClampNeg) r5).bind fun r13 => (gd (inb z2 80) (lt ((u6.2.1 38 z2.toNatClampNeg) + (if r9 < r13 then r13 else r9)) fun v17 => (gd (inb z2 80) (lt ((u6.2.1 39 z2.toNatClampNeg) + (if r13 < r9 then r13 else r9)) fun v20 => (LX0_narrowDown_9_103 (LX0_narrowDown_9_145 (GX0_narrowDown_9_187 (LX0_narrowDown_9_14 k193 n)) 5000) 5000 z1 z2 r5 v17 v20 u6))))))))))) = some (r, u') := g
    by_cases c : u.1 14 ≤ z2
    · rw [if_pos c] at g
      have c9 := leI c
      have ez : (u.1 14).toNatClampNeg = z2.toNatClampNeg := by
        show (u.1 14).toInt.toNat = z2.toInt.toNat
        rw [show (u.1 14).toInt = z2.toInt by omega]
      rw [ez]
      exact ⟨u, hF, hR.1, g⟩
    · rw [if_neg c] at g
      have c9 := nleI c
      have zn : z2.toNatClampNeg = z2.toInt.toNat := rfl
      obtain ⟨⟨r5, u6⟩, a5, g⟩ := bd_some g
      obtain ⟨ew, R6, F6⟩ := leanX hR h0 (by omega) p0 p1 a5
      obtain ⟨-, g⟩ := gd_some g
      obtain ⟨r9, a9, g⟩ := bd_some g
      obtain ⟨-, g⟩ := gd_some g
      obtain ⟨r13, a13, g⟩ := bd_some g
      obtain ⟨-, g⟩ := gd_some g
      obtain ⟨v17, i17, g⟩ := lt_some g
      obtain ⟨-, g⟩ := gd_some g
      obtain ⟨v20, i20, g⟩ := lt_some g
      obtain ⟨d1, d2, d3, d4⟩ := hd z2.toNatClampNeg (by rw [zn]; omega)
      have s9 := shn_X a9
      have s13 := shn_X a13
      rw [F6.2.1 27 (by decide)] at s9
      rw [F6.2.1 28 (by decide)] at s13
      have e5 : r5 = wl z2.toNatClampNeg := ew.trans d1.symm
      have e17 : v17 = fl z2.toNatClampNeg := by
        rw [i17, d3, F6.2.1 38 (by decide), s9, s13, e5]
        rfl
      have e20 : v20 = ce z2.toNatClampNeg := by
        rw [i20, d4, F6.2.1 39 (by decide), s9, s13, e5]
        rfl
      rw [e5, e17, e20] at g
      generalize (5000 : Nat) = N1 at g
      have f24 : u6.1 24 = u.1 24 := F6.1 24 (by decide)
      have f25 : u6.1 25 = u.1 25 := F6.1 25 (by decide)
      have b24 : (0 : Int) ≤ (u.1 24).toInt := (hR.1.1 24).1
      have b25 : (u.1 25).toInt ≤ (400 : Int) := (hR.1.1 25).2
      obtain ⟨w1, J1, F1, o1, o2, o3, g⟩ := nd_103v N1 u6 R6.1 g
      obtain ⟨w2, J2, F2, t1, t2, t3, g⟩ := nd_145v N1 w1 J1 g
      have g : LX0_narrowDown_9_14 k193 n z1 (z2 + 1) w2 = some (r, u') := g
      have k25 : w1.1 25 = u.1 25 := (F1.1 25 (by decide)).trans f25
      have k24 : w2.1 24 = w1.1 24 := F2.1 24 (by decide)
      rw [f24] at o1 o2
      rw [f25] at o3
      rw [k25] at t1 t2
      rw [← k24] at o1 o2 o3 t3
      have F3 : FrM ([24, 25], [], [], []) u6 w2 := FrM_tr (FrM_tr FrM_rf F1 (by decide)) F2 (by decide)
      have R2 : RW w2 := RW_md J2 F3 (by decide) (by decide) (by decide) R6
      have F4 : FrM mdX0_narrowDown_9 u w2 := FrM_tr (FrM_tr FrM_rf F6 (by decide)) F3 (by decide)
      have et : (z2 + 1).toInt = z2.toInt + 1 := addc_t (by decide) (by omega) (by omega)
      have en := ns1 h0 (show z2.toInt ≤ 5000 by omega)
      have e14 := F4.1 14 (by decide)
      have ewu : ww w2 = ww u := ww_fr (F4.2.1 24 (by decide)) (F4.2.1 36 (by decide)) F4.2.2.2.2
      obtain ⟨w, q1, q2, q3⟩ := ih (z2 + 1) w2 R2 (by rw [e14, F4.1 13 (by decide)]; exact h14) (by rw [F4.1 8 (by decide)]; exact p1) (by rw [et]; omega) (by rw [et, e14]; omega) (fun i hi => by
        rw [e14] at hi
        rw [ewu, F4.2.1 38 (by decide), F4.2.1 39 (by decide), F4.2.1 27 (by decide), F4.2.1 28 (by decide)]
        exact hd i hi) (fun v v0 v4 => by
        rw [en, FC_s, hF v v0 v4]
        constructor
        · rintro ⟨⟨x1, x2⟩, x3⟩
          refine ⟨?_, ?_⟩
          · rcases Int.lt_or_le v.toInt (w2.1 24).toInt with y | y
            · exact absurd x3 (o2 v x1 y)
            · exact y
          · rcases Int.lt_or_le (w2.1 25).toInt v.toInt with y | y
            · exact absurd x3 (t2 v y x2)
            · exact y
        · rintro ⟨x1, x2⟩
          have A1 : FA (fl z2.toNatClampNeg) (ce z2.toNatClampNeg) (wl z2.toNatClampNeg) (w2.1 24) := by
            rcases o3 with y | y
            · omega
            · exact y
          have A2 : FA (fl z2.toNatClampNeg) (ce z2.toNatClampNeg) (wl z2.toNatClampNeg) (w2.1 25) := by
            rcases t3 with y | y
            · omega
            · exact y
          exact ⟨⟨by omega, by omega⟩, FA_cv (by omega) (by omega) x1 x2 d2 A1 A2⟩) g
      rw [e14] at q1
      exact ⟨w, q1, q2, q3⟩
/-- the class's COULD -/
theorem narrow_sp {x1 r : Int32} {u u' : SX} {fl ce wl : Nat → Int32} (hR : RW u) (h14 : (u.1 14).toInt ≤ (u.1 13).toInt) (p0 : 0 ≤ x1.toInt) (p1 : x1.toInt < (u.1 8).toInt) (hd : ∀ i : Nat, (i : Int) < (u.1 14).toInt → wl i = ww u i x1.toNatClampNeg ∧ Bw (wl i) ∧ fl i = u.2.1 38 i + mxS (wl i) (u.2.1 27 x1.toNatClampNeg, u.2.1 28 x1.toNatClampNeg) ∧ ce i = u.2.1 39 i + mnS (wl i) (u.2.1 27 x1.toNatClampNeg, u.2.1 28 x1.toNatClampNeg)) (h : fX0_narrowDown_9 x1 u = some (r, u')) : (∀ v : Int32, 0 ≤ v.toInt → v.toInt ≤ 400 → (FC fl ce wl (u.1 14).toNatClampNeg v ↔ ((u'.1 24).toInt ≤ v.toInt ∧ v.toInt ≤ (u'.1 25).toInt))) ∧ (0 ≤ (u'.1 24).toInt ∧ (u'.1 25).toInt ≤ 400) ∧ ((r = 0 ∧ (u'.1 25).toInt < (u'.1 24).toInt) ∨ (r = 1 ∧ (u'.1 24).toInt ≤ (u'.1 25).toInt)) := by
  have b14 : (0 : Int) ≤ (u.1 14).toInt := (hR.1.1 14).1
  unfold fX0_narrowDown_9 at h
  obtain ⟨u1, i1, h⟩ := lt_some h
  obtain ⟨u3, i3, h⟩ := lt_some h
  have s3 : StX ([24, 25], [], [], []) u u3 := by
    rw [i3, i1]
    exact StX_sI (StX_sI (StX_rf hR.1) (by decide) (by decide) (by decide)) (by decide) (by decide) (by decide)
  have R3 := RW_md s3.1 s3.2 (by decide) (by decide) (by decide) hR
  have e24 : u3.1 24 = 0 := by rw [i3, i1]; rfl
  have e25 : u3.1 25 = 400 := by rw [i3, i1]; rfl
  have e14 := s3.2.1 14 (by decide)
  have ewu : ww u3 = ww u := ww_fr (s3.2.2.1 24 (by decide)) (s3.2.2.1 36 (by decide)) s3.2.2.2.2.2
  generalize (5000 : Nat) = N1 at h
  obtain ⟨w, q1, q2, g⟩ := nd_14v (fl := fl) (ce := ce) (wl := wl) p0 N1 0 u3 R3 (by rw [e14, s3.2.1 13 (by decide)]; exact h14) (by rw [s3.2.1 8 (by decide)]; exact p1) (by decide) (by rw [e14]; show (0 : Int) ≤ _; exact b14) (fun i hi => by
    rw [e14] at hi
    rw [ewu, s3.2.2.1 38 (by decide), s3.2.2.1 39 (by decide), s3.2.2.1 27 (by decide), s3.2.2.1 28 (by decide)]
    exact hd i hi) (fun v v0 v4 => by
    rw [e24, e25]
    exact ⟨fun _ => ⟨v0, v4⟩, fun _ i hi => by
      have hi : i < 0 := hi
      omega⟩) h
  rw [e14] at q1
  unfold GX0_narrowDown_9_193 at g
  by_cases c : w.1 25 < w.1 24
  · rw [if_pos c] at g
    have e : (0 : Int32) = r ∧ w = u' := by cases (gd_some g).2; exact ⟨rfl, rfl⟩
    rw [← e.2]
    exact ⟨q1, ⟨(q2.1 24).1, (q2.1 25).2⟩, Or.inl ⟨e.1.symm, ltI c⟩⟩
  · rw [if_neg c] at g
    have e : (1 : Int32) = r ∧ w = u' := by cases (gd_some g).2; exact ⟨rfl, rfl⟩
    have c9 := nltI c
    rw [← e.2]
    exact ⟨q1, ⟨(q2.1 24).1, (q2.1 25).2⟩, Or.inr ⟨e.1.symm, by omega⟩⟩
