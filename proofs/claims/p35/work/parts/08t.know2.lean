/-! The class settles the days one after another. -/
abbrev md70 : MD := ([], [], [], [70])
theorem ix8 {a b : Int32} (a0 : 0 ≤ a.toInt) (a9 : a.toInt ≤ 120) (b0 : 0 ≤ b.toInt) (b9 : b.toInt < 8) : (a * 8 + b).toNatClampNeg = a.toNatClampNeg * 8 + b.toNatClampNeg := by
  have e1 : (a * 8).toInt = a.toInt * 8 := mulc_t (by decide) (by omega) (by omega)
  have e2 : (a * 8 + b).toInt = a.toInt * 8 + b.toInt := by rw [add_t (by omega) (by omega), e1]
  show (a * 8 + b).toInt.toNat = a.toInt.toNat * 8 + b.toInt.toNat
  rw [e2]
  omega
theorem tn {a : Int32} (h : 0 ≤ a.toInt) : ((a.toNatClampNeg : Nat) : Int) = a.toInt := by
  show ((a.toInt.toNat : Nat) : Int) = a.toInt
  omega
/-- what the class has for a house at the end of a day (none ahead of the first) -/
def ro (u : SX) (d h : Nat) : Int64 := u.2.2.2.1 70 (d * 8 + h)
theorem kb_sp {x1 x2 : Int32} {w : Int64} {u u' : SX} (b0 : 0 ≤ x1.toInt) (b9 : x1.toInt < 8) (a9 : x2.toInt ≤ 120) (h : fX2_knownBy_11 x1 x2 u = some (w, u')) : u' = u ∧ ((0 ≤ x2.toInt ∧ w = ro u x2.toNatClampNeg x1.toNatClampNeg) ∨ (x2.toInt < 0 ∧ w = 0)) := by
  unfold fX2_knownBy_11 at h
  by_cases c : 0 ≤ x2
  · rw [if_pos c] at h
    have c0 : (0 : Int) ≤ x2.toInt := leI c
    obtain ⟨-, h⟩ := gd_some h
    rw [ix8 c0 a9 b0 b9] at h
    cases h
    exact ⟨rfl, Or.inl ⟨c0, rfl⟩⟩
  · rw [if_neg c] at h
    have c0 : ¬ (0 : Int) ≤ x2.toInt := nleI c
    cases h
    exact ⟨rfl, Or.inr ⟨by omega, rfl⟩⟩
/-- of the day ahead -/
theorem kb_bt {z1 z3 : Int32} {w : Int64} {u u' : SX} {x : Nat} (b0 : 0 ≤ z3.toInt) (b9 : z3.toInt < 8) (a0 : 0 ≤ z1.toInt) (a9 : z1.toInt ≤ 120) (h : fX2_knownBy_11 z3 (z1 - 1) u = some (w, u')) : u' = u ∧ (bt w x ↔ (0 < z1.toNatClampNeg ∧ bt (ro u (z1.toNatClampNeg - 1) z3.toNatClampNeg) x)) := by
  have e : (z1 - 1).toInt = z1.toInt - 1 := subc_t (by decide) (by omega) (by omega)
  obtain ⟨h1, h2⟩ := kb_sp b0 b9 (by omega) h
  refine ⟨h1, ?_⟩
  have t := tn a0
  rcases h2 with ⟨c, h2⟩ | ⟨c, h2⟩
  · have en : (z1 - 1).toNatClampNeg = z1.toNatClampNeg - 1 := by
      show (z1 - 1).toInt.toNat = z1.toInt.toNat - 1
      omega
    rw [h2, en]
    exact ⟨fun g => ⟨by omega, g⟩, fun g => g.2⟩
  · rw [h2]
    exact ⟨fun g => absurd g bt_0, fun g => absurd g.1 (by omega)⟩
/-- a day's first knowledge -/
theorem set12 {k50 : Int32 → Int32 → SX → Option (Int32 × SX)} {z1 z2 r : Int32} {u' : SX} (a0 : 0 ≤ z2.toInt) (a9 : z2.toInt ≤ 120) : ∀ (n : Nat) (z3 : Int32) (u : SX), IX u → 0 ≤ z3.toInt → z3.toInt ≤ 8 → LX2_settle_11_12 k50 n z1 z2 z3 u = some (r, u') → ∃ u1 : SX, StX md70 u u1 ∧ k50 z1 z2 u1 = some (r, u') ∧ (∀ d h : Nat, h < 8 → ¬ (d = z2.toNatClampNeg ∧ z3.toNatClampNeg ≤ h) → ro u1 d h = ro u d h) ∧ ∀ h x : Nat, z3.toNatClampNeg ≤ h → h < 8 → (bt (ro u1 z2.toNatClampNeg h) x ↔ ((0 < z2.toNatClampNeg ∧ bt (ro u (z2.toNatClampNeg - 1) h) x) ∨ bt (u.2.2.2.1 69 (z2.toNatClampNeg * 8 + h)) x)) := by
  intro n
  induction n with
  | zero => intro z3 u _ _ _ h; cases h
  | succ n ih =>
    intro z3 u hI h0 h9 h
    have h : (if 8 ≤ z3 then (k50 z1 z2 u) else ((fX2_knownBy_11 z3 (z2 - 1) u).bind fun q => match q with | (r3, u4) => ((fX2_toldBy_11 z3 z2 u4).bind fun q => match q with | (r6, u7) => (gd (inb ((z2 * 8) + z3) 968) (lt (sB u7 70 (vp_updL (u7.2.2.2.1 70) ((z2 * 8) + z3).toNatClampNeg (r3 ||| r6))) fun u10 => ((LX2_settle_11_12 k50 n) z1 z2 (z3 + 1) u10)))))) = some (r, u') := h
    by_cases c : 8 ≤ z3
    · rw [if_pos c] at h
      have c9 : (8 : Int) ≤ z3.toInt := leI c
      have t := tn h0
      exact ⟨u, StX_rf hI, h, fun d k _ _ => rfl, fun k x g1 g2 => by omega⟩
    · rw [if_neg c] at h
      have c9 : ¬ (8 : Int) ≤ z3.toInt := nleI c
      obtain ⟨⟨r3, u4⟩, a3, h⟩ := bd_some h
      have k3 := fun x => kb_bt (x := x) h0 (by omega) a0 a9 a3
      have e4 : u4 = u := (k3 0).1
      rw [e4] at h
      obtain ⟨⟨r6, u7⟩, a6, h⟩ := bd_some h
      unfold fX2_toldBy_11 at a6
      obtain ⟨-, a6⟩ := gd_some a6
      rw [ix8 a0 a9 h0 (by omega)] at a6
      have e7 : u7 = u ∧ r6 = u.2.2.2.1 69 (z2.toNatClampNeg * 8 + z3.toNatClampNeg) := by
        cases a6
        exact ⟨rfl, rfl⟩
      rw [e7.1] at h
      obtain ⟨-, h⟩ := gd_some h
      obtain ⟨u10, j10, h⟩ := lt_some h
      have et : (z3 + 1).toInt = z3.toInt + 1 := addc_t (by decide) (by omega) (by omega)
      have en := ns1 h0 (show z3.toInt ≤ 5000 by omega)
      have s10 : StX md70 u u10 := by
        rw [j10]
        exact StX_sB (StX_rf hI) (by decide)
      have t3 := tn h0
      have ro10 : ∀ d k : Nat, ro u10 d k = if d * 8 + k = z2.toNatClampNeg * 8 + z3.toNatClampNeg then (r3 ||| r6) else ro u d k := by
        intro d k
        rw [j10]
        show vp_updL (u.2.2.2.1 70) ((z2 * 8) + z3).toNatClampNeg (r3 ||| r6) (d * 8 + k) = _
        rw [ix8 a0 a9 h0 (by omega)]
        rfl
      obtain ⟨u1, s1, b1, p1, q1⟩ := ih (z3 + 1) u10 s10.1 (by rw [et]; omega) (by rw [et]; omega) h
      refine ⟨u1, StX_tr s10 s1 (by decide), b1, ?_, ?_⟩
      · intro d k hk hd
        rw [p1 d k hk (by rw [en]; omega), ro10, if_neg (by omega)]
      · intro k x g1 g2
        by_cases ck : k = z3.toNatClampNeg
        · rw [p1 _ k g2 (by rw [en]; omega), ro10, if_pos (by rw [ck]), bt_or, (k3 x).2, e7.2, ck]
        · rw [q1 k x (by rw [en]; omega) g2, ro10, if_neg (by omega)]
          rw [show u10.2.2.2.1 69 = u.2.2.2.1 69 from s10.2.2.2.2.1 69 (by decide)]
/-- the letters of a day -/
theorem del_sp {z1 r : Int32} {u' : SX} (a0 : 0 ≤ z1.toInt) (a9 : z1.toInt ≤ 120) : ∀ (n : Nat) (z2 : Int32) (u : SX), IX u → 0 ≤ z2.toInt → z2.toInt ≤ (u.1 38).toInt → LX2_deliver_11_2 n z1 z2 u = some (r, u') → StX md70 u u' ∧ (∀ d h : Nat, h < 8 → ¬ d = z1.toNatClampNeg → ro u' d h = ro u d h) ∧ ∀ h x : Nat, h < 8 → (bt (ro u' z1.toNatClampNeg h) x ↔ (bt (ro u z1.toNatClampNeg h) x ∨ ∃ i : Nat, z2.toNatClampNeg ≤ i ∧ (i : Int) < (u.1 38).toInt ∧ (u.2.1 62 i).toInt = z1.toInt ∧ (u.2.1 61 i).toInt = (h : Int) ∧ 0 < z1.toNatClampNeg ∧ bt (ro u (z1.toNatClampNeg - 1) (u.2.1 60 i).toNatClampNeg) x)) := by
  intro n
  induction n with
  | zero => intro z2 u _ _ _ h; cases h
  | succ n ih =>
    intro z2 u hI h0 h9 h
    have b38 : (u.1 38).toInt ≤ (60 : Int) := (hI.1 38).2
    have h : (if (u.1 38) ≤ z2 then (some (0, u)) else (gd (inb z2 60) (if (u.2.1 62 z2.toNatClampNeg) = z1 then (gd (inb z2 60) (gd (inb ((z1 * 8) + (u.2.1 61 z2.toNatClampNeg)) 968) (gd (inb z2 60) ((fX2_knownBy_11 (u.2.1 60 z2.toNatClampNeg) (z1 - 1) u).bind fun q => match q with | (r5, u6) => (gd (inb ((z1 * 8) + (u.2.1 61 z2.toNatClampNeg)) 968) (lt (sB u6 70 (vp_updL (u6.2.2.2.1 70) ((z1 * 8) + (u.2.1 61 z2.toNatClampNeg)).toNatClampNeg ((u.2.2.2.1 70 ((z1 * 8) + (u.2.1 61 z2.toNatClampNeg)).toNatClampNeg) ||| r5))) fun u9 => (GX2_deliver_11_52 (LX2_deliver_11_2 n) z1 z2 u9))))))) else (GX2_deliver_11_52 (LX2_deliver_11_2 n) z1 z2 u)))) = some (r, u') := h
    have t2 := tn h0
    by_cases c : u.1 38 ≤ z2
    · rw [if_pos c] at h
      have c9 := leI c
      have e : u = u' := by cases h; rfl
      rw [← e]
      refine ⟨StX_rf hI, fun d k _ _ => rfl, fun k x _ => ⟨fun g => Or.inl g, ?_⟩⟩
      rintro (g | ⟨i, g1, g2, -⟩)
      · exact g
      · omega
    · rw [if_neg c] at h
      have c9 := nleI c
      have et : (z2 + 1).toInt = z2.toInt + 1 := addc_t (by decide) (by omega) (by omega)
      have en := ns1 h0 (show z2.toInt ≤ 5000 by omega)
      obtain ⟨-, h⟩ := gd_some h
      unfold GX2_deliver_11_52 at h
      by_cases cd : u.2.1 62 z2.toNatClampNeg = z1
      · rw [if_pos cd] at h
        obtain ⟨-, h⟩ := gd_some h
        obtain ⟨-, h⟩ := gd_some h
        obtain ⟨-, h⟩ := gd_some h
        obtain ⟨⟨r5, u6⟩, a5, h⟩ := bd_some h
        have f0 : (0 : Int) ≤ (u.2.1 60 z2.toNatClampNeg).toInt := (hI.2.1 60 _).1
        have f9 : (u.2.1 60 z2.toNatClampNeg).toInt ≤ (7 : Int) := (hI.2.1 60 _).2
        have o0 : (0 : Int) ≤ (u.2.1 61 z2.toNatClampNeg).toInt := (hI.2.1 61 _).1
        have o9 : (u.2.1 61 z2.toNatClampNeg).toInt ≤ (7 : Int) := (hI.2.1 61 _).2
        have k5 := fun x => kb_bt (x := x) f0 (by omega) a0 a9 a5
        have e6 : u6 = u := (k5 0).1
        rw [e6] at h
        obtain ⟨-, h⟩ := gd_some h
        obtain ⟨u9, j9, h⟩ := lt_some h
        rw [ix8 a0 a9 o0 (by omega)] at j9
        have s9 : StX md70 u u9 := by
          rw [j9]
          exact StX_sB (StX_rf hI) (by decide)
        have to := tn o0
        have ro9 : ∀ d k : Nat, ro u9 d k = if d * 8 + k = z1.toNatClampNeg * 8 + (u.2.1 61 z2.toNatClampNeg).toNatClampNeg then (ro u z1.toNatClampNeg (u.2.1 61 z2.toNatClampNeg).toNatClampNeg ||| r5) else ro u d k := by
          intro d k
          rw [j9]
          rfl
        have w38 : u9.1 38 = u.1 38 := s9.2.1 38 (by decide)
        have w60 : u9.2.1 60 = u.2.1 60 := s9.2.2.1 60 (by decide)
        have w61 : u9.2.1 61 = u.2.1 61 := s9.2.2.1 61 (by decide)
        have w62 : u9.2.1 62 = u.2.1 62 := s9.2.2.1 62 (by decide)
        obtain ⟨s1, p1, q1⟩ := ih (z2 + 1) u9 s9.1 (by rw [et]; omega) (by rw [et, w38]; omega) h
        refine ⟨StX_tr s9 s1 (by decide), ?_, ?_⟩
        · intro d k hk hd
          rw [p1 d k hk hd, ro9, if_neg (by omega)]
        · intro k x hk
          rw [q1 k x hk, w38, w60, w61, w62, en]
          have rp : ∀ f : Nat, f < 8 → 0 < z1.toNatClampNeg → ro u9 (z1.toNatClampNeg - 1) f = ro u (z1.toNatClampNeg - 1) f := by
            intro f hf hz
            rw [ro9, if_neg (by omega)]
          have tl : ∀ i : Nat, (u.2.1 60 i).toNatClampNeg < 8 := by
            intro i
            have z0 : (0 : Int) ≤ (u.2.1 60 i).toInt := (hI.2.1 60 _).1
            have z9 : (u.2.1 60 i).toInt ≤ (7 : Int) := (hI.2.1 60 _).2
            show (u.2.1 60 i).toInt.toNat < 8
            omega
          constructor
          · rintro (g | ⟨i, g1, g2, g3, g4, g5, g6⟩)
            · rw [ro9] at g
              by_cases ck : k = (u.2.1 61 z2.toNatClampNeg).toNatClampNeg
              · rw [if_pos (by rw [ck]), bt_or] at g
                rcases g with g | g
                · exact Or.inl (by rw [ck]; exact g)
                · obtain ⟨g1, g2⟩ := (k5 x).2.mp g
                  exact Or.inr ⟨z2.toNatClampNeg, Nat.le_refl _, by omega, by rw [cd], by omega, g1, g2⟩
              · rw [if_neg (by omega)] at g
                exact Or.inl g
            · rw [rp _ (tl i) g5] at g6
              exact Or.inr ⟨i, by omega, g2, g3, g4, g5, g6⟩
          · rintro (g | ⟨i, g1, g2, g3, g4, g5, g6⟩)
            · left
              rw [ro9]
              by_cases ck : k = (u.2.1 61 z2.toNatClampNeg).toNatClampNeg
              · rw [if_pos (by rw [ck]), bt_or]
                rw [ck] at g
                exact Or.inl g
              · rw [if_neg (by omega)]
                exact g
            · by_cases ci : i = z2.toNatClampNeg
              · left
                rw [ci] at g4 g6
                rw [ro9, if_pos (by omega), bt_or]
                exact Or.inr ((k5 x).2.mpr ⟨g5, g6⟩)
              · right
                refine ⟨i, by omega, g2, g3, g4, g5, ?_⟩
                rw [rp _ (tl i) g5]
                exact g6
      · rw [if_neg cd] at h
        obtain ⟨s1, p1, q1⟩ := ih (z2 + 1) u hI (by rw [et]; omega) (by rw [et]; omega) h
        refine ⟨s1, p1, ?_⟩
        intro k x hk
        rw [q1 k x hk, en]
        constructor
        · rintro (g | ⟨i, g1, g2⟩)
          · exact Or.inl g
          · exact Or.inr ⟨i, by omega, g2⟩
        · rintro (g | ⟨i, g1, g2, g3, g4⟩)
          · exact Or.inl g
          · refine Or.inr ⟨i, ?_, g2, g3, g4⟩
            by_cases ci : i = z2.toNatClampNeg
            · rw [ci] at g3
              exact absurd (Int32.toInt.inj g3) cd
            · omega
