/-! A print or a paper is told. -/
/-- the class's print i and paper j meet -/
def mx2 (u : SX) (i j : Nat) : Prop := 0 < (u.2.1 63 i).toInt ∧ (u.2.1 63 i).toInt ≤ (u.2.1 67 j).toInt ∧ (u.2.1 66 j).toInt ≤ (u.2.1 64 i).toInt
theorem comp_sp {x1 x2 r : Int32} {u u' : SX} (a0 : 0 ≤ x1.toInt) (a9 : x1.toInt < 40) (b0 : 0 ≤ x2.toInt) (b9 : x2.toInt < 20) (h : fX2_compare_11 x1 x2 u = some (r, u')) : FrM ([], [], [0], [68]) u u' ∧ (∀ i x : Nat, bt (u'.2.2.2.1 68 i) x ↔ (bt (u.2.2.2.1 68 i) x ∨ (i = x1.toNatClampNeg ∧ x = 40 + x2.toNatClampNeg ∧ mx2 u x1.toNatClampNeg x2.toNatClampNeg))) ∧ ∀ x : Nat, bt (u'.2.2.1 0) x ↔ (bt (u.2.2.1 0) x ∨ (mx2 u x1.toNatClampNeg x2.toNatClampNeg ∧ (x = x1.toNatClampNeg ∨ x = 40 + x2.toNatClampNeg))) := by
  unfold fX2_compare_11 GX2_compare_11_34 at h
  obtain ⟨-, h⟩ := gd_some h
  obtain ⟨-, h⟩ := gd_some h
  have e40 : (40 + x2).toInt = 40 + x2.toInt := by
    have c : (40 : Int32).toInt = 40 := by decide
    rw [add_t (by rw [c]; omega) (by rw [c]; omega), c]
  have n40 : (40 + x2).toNatClampNeg = 40 + x2.toNatClampNeg := by
    show (40 + x2).toInt.toNat = 40 + x2.toInt.toNat
    omega
  have no : ¬ mx2 u x1.toNatClampNeg x2.toNatClampNeg → u' = u → FrM ([], [], [0], [68]) u u' ∧ (∀ i x : Nat, bt (u'.2.2.2.1 68 i) x ↔ (bt (u.2.2.2.1 68 i) x ∨ (i = x1.toNatClampNeg ∧ x = 40 + x2.toNatClampNeg ∧ mx2 u x1.toNatClampNeg x2.toNatClampNeg))) ∧ ∀ x : Nat, bt (u'.2.2.1 0) x ↔ (bt (u.2.2.1 0) x ∨ (mx2 u x1.toNatClampNeg x2.toNatClampNeg ∧ (x = x1.toNatClampNeg ∨ x = 40 + x2.toNatClampNeg))) := by
    intro n e
    rw [e]
    exact ⟨FrM_rf, fun i x => ⟨Or.inl, fun g => g.elim id (fun g => absurd g.2.2 n)⟩, fun x => ⟨Or.inl, fun g => g.elim id (fun g => absurd g.1 n)⟩⟩
  have go : ∀ y0 : Int32, (y0 = 1 → ((u.2.1 63 x1.toNatClampNeg).toInt ≤ (u.2.1 67 x2.toNatClampNeg).toInt ∧ (u.2.1 66 x2.toNatClampNeg).toInt ≤ (u.2.1 64 x1.toNatClampNeg).toInt)) → (y0 = 0 → ¬ mx2 u x1.toNatClampNeg x2.toNatClampNeg) → (y0 = 0 ∨ y0 = 1) → GX2_compare_11_35 x1 x2 y0 u = some (r, u') → FrM ([], [], [0], [68]) u u' ∧ (∀ i x : Nat, bt (u'.2.2.2.1 68 i) x ↔ (bt (u.2.2.2.1 68 i) x ∨ (i = x1.toNatClampNeg ∧ x = 40 + x2.toNatClampNeg ∧ mx2 u x1.toNatClampNeg x2.toNatClampNeg))) ∧ ∀ x : Nat, bt (u'.2.2.1 0) x ↔ (bt (u.2.2.1 0) x ∨ (mx2 u x1.toNatClampNeg x2.toNatClampNeg ∧ (x = x1.toNatClampNeg ∨ x = 40 + x2.toNatClampNeg))) := by
    intro y0 hy1 hy0 h01 g
    unfold GX2_compare_11_35 at g
    obtain ⟨-, g⟩ := gd_some g
    by_cases c : u.2.1 63 x1.toNatClampNeg ≤ 0
    · rw [if_pos c] at g
      have c9 : (u.2.1 63 x1.toNatClampNeg).toInt ≤ (0 : Int) := leI c
      refine no (fun z => ?_) (by cases g; rfl)
      have := z.1
      omega
    · rw [if_neg c] at g
      have c9 : ¬ (u.2.1 63 x1.toNatClampNeg).toInt ≤ (0 : Int) := nleI c
      by_cases d : y0 = 0
      · rw [if_pos d] at g
        exact no (hy0 d) (by cases g; rfl)
      · rw [if_neg d] at g
        have d1 : y0 = 1 := h01.resolve_left d
        have m : mx2 u x1.toNatClampNeg x2.toNatClampNeg := ⟨by omega, (hy1 d1).1, (hy1 d1).2⟩
        obtain ⟨-, g⟩ := gd_some g
        have g : (gd (inb x1 40) (lt (sB u 68 (vp_updL (u.2.2.2.1 68) x1.toNatClampNeg ((u.2.2.2.1 68 x1.toNatClampNeg) ||| bp (40 + x2)))) fun u9 => (lt (sJ u9 0 ((u9.2.2.1 0) ||| (bp x1 ||| bp (40 + x2)))) fun u17 => (some ((0 : Int32), u17))))) = some (r, u') := g
        obtain ⟨-, g⟩ := gd_some g
        obtain ⟨u9, j9, g⟩ := lt_some g
        obtain ⟨u17, j17, g⟩ := lt_some g
        have e : u17 = u' := by cases g; rfl
        refine ⟨?_, ?_, ?_⟩
        · rw [← e, j17, j9]
          exact FrM_sJ (FrM_sB FrM_rf (by decide)) (by decide)
        · intro i x
          have e1 : u'.2.2.2.1 68 i = if i = x1.toNatClampNeg then (u.2.2.2.1 68 x1.toNatClampNeg ||| bp (40 + x2)) else u.2.2.2.1 68 i := by
            rw [← e, j17, j9]
            rfl
          rw [e1]
          by_cases ci : i = x1.toNatClampNeg
          · rw [if_pos ci, bt_or, bt_p (by omega) (by omega), n40, ci]
            exact ⟨fun z => z.elim Or.inl (fun z => Or.inr ⟨rfl, z, m⟩), fun z => z.elim Or.inl (fun z => Or.inr z.2.1)⟩
          · rw [if_neg ci]
            exact ⟨Or.inl, fun z => z.elim id (fun z => absurd z.1 ci)⟩
        · intro x
          have e1 : u'.2.2.1 0 = (u.2.2.1 0 ||| (bp x1 ||| bp (40 + x2))) := by
            rw [← e, j17, j9]
            rfl
          rw [e1, bt_or, bt_or, bt_p a0 (by omega), bt_p (by omega) (by omega), n40]
          exact ⟨fun z => z.elim Or.inl (fun z => Or.inr ⟨m, z⟩), fun z => z.elim Or.inl (fun z => Or.inr z.2)⟩
  by_cases c : u.2.1 67 x2.toNatClampNeg < u.2.1 63 x1.toNatClampNeg
  · rw [if_pos c] at h
    have c9 := ltI c
    exact go 0 (fun z => absurd z (by decide)) (fun _ z => by have := z.2.1; omega) (Or.inl rfl) h
  · rw [if_neg c] at h
    have c9 := nltI c
    obtain ⟨-, h⟩ := gd_some h
    obtain ⟨-, h⟩ := gd_some h
    by_cases d : u.2.1 64 x1.toNatClampNeg < u.2.1 66 x2.toNatClampNeg
    · rw [if_pos d] at h
      have d9 := ltI d
      exact go 0 (fun z => absurd z (by decide)) (fun _ z => by have := z.2.2; omega) (Or.inl rfl) h
    · rw [if_neg d] at h
      have d9 := nltI d
      exact go 1 (fun _ => ⟨by omega, by omega⟩) (fun z => absurd z (by decide)) (Or.inr rfl) h
theorem mx2_fr {u w : SX} (s : FrM ([], [], [0], [68]) u w) {i j : Nat} : mx2 w i j ↔ mx2 u i j := by
  unfold mx2
  rw [s.2.1 63 (by decide), s.2.1 64 (by decide), s.2.1 66 (by decide), s.2.1 67 (by decide)]
/-- a new print against all papers -/
theorem adp45 {k70 : Int32 → Int32 → SX → Option (Int32 × SX)} {z1 z4 r : Int32} {u' : SX} : ∀ (n : Nat) (z5 : Int32) (u : SX), 0 ≤ (u.1 36).toInt → (u.1 36).toInt < 40 → (u.1 37).toInt ≤ 20 → 0 ≤ z5.toInt → LX2_addPrint_11_45 k70 n z1 z4 z5 u = some (r, u') → ∃ w : SX, FrM ([], [], [0], [68]) u w ∧ k70 z1 z4 w = some (r, u') ∧ (∀ i x : Nat, bt (w.2.2.2.1 68 i) x ↔ (bt (u.2.2.2.1 68 i) x ∨ (i = (u.1 36).toNatClampNeg ∧ ∃ j : Nat, z5.toNatClampNeg ≤ j ∧ (j : Int) < (u.1 37).toInt ∧ x = 40 + j ∧ mx2 u i j))) ∧ ∀ x : Nat, bt (w.2.2.1 0) x ↔ (bt (u.2.2.1 0) x ∨ ∃ j : Nat, z5.toNatClampNeg ≤ j ∧ (j : Int) < (u.1 37).toInt ∧ mx2 u (u.1 36).toNatClampNeg j ∧ (x = (u.1 36).toNatClampNeg ∨ x = 40 + j)) := by
  intro n
  induction n with
  | zero => intro z5 u _ _ _ _ h; cases h
  | succ n ih =>
    intro z5 u p0 p9 q9 h0 h
    have h : (if (u.1 37) ≤ z5 then (k70 z1 z4 u) else ((fX2_compare_11 (u.1 36) z5 u).bind fun q => match q with | (r10, u11) => ((LX2_addPrint_11_45 k70 n) z1 z4 (z5 + 1) u11))) = some (r, u') := h
    have t5 := tn h0
    by_cases c : u.1 37 ≤ z5
    · rw [if_pos c] at h
      have c9 := leI c
      exact ⟨u, FrM_rf, h, fun i x => ⟨Or.inl, fun g => g.elim id (fun ⟨_, j, g1, g2, _⟩ => by omega)⟩, fun x => ⟨Or.inl, fun g => g.elim id (fun ⟨j, g1, g2, _⟩ => by omega)⟩⟩
    · rw [if_neg c] at h
      have c9 := nleI c
      have et : (z5 + 1).toInt = z5.toInt + 1 := addc_t (by decide) (by omega) (by omega)
      have en := ns1 h0 (show z5.toInt ≤ 5000 by omega)
      obtain ⟨⟨r10, u11⟩, a10, h⟩ := bd_some h
      obtain ⟨s, b1, b2⟩ := comp_sp p0 p9 h0 (by omega) a10
      have w36 : u11.1 36 = u.1 36 := s.1 36 (by decide)
      have w37 : u11.1 37 = u.1 37 := s.1 37 (by decide)
      obtain ⟨w, sw, bw, d1, d2⟩ := ih (z5 + 1) u11 (by rw [w36]; exact p0) (by rw [w36]; exact p9) (by rw [w37]; exact q9) (by rw [et]; omega) h
      refine ⟨w, FrM_tr s sw (by decide), bw, ?_, ?_⟩
      · intro i x
        rw [d1 i x, b1 i x, w36, w37, en]
        constructor
        · rintro ((g | ⟨g1, g2, g3⟩) | ⟨g1, j, g2, g3, g4, g5⟩)
          · exact Or.inl g
          · exact Or.inr ⟨g1, z5.toNatClampNeg, Nat.le_refl _, by omega, g2, by rw [g1]; exact g3⟩
          · exact Or.inr ⟨g1, j, by omega, g3, g4, (mx2_fr s).mp g5⟩
        · rintro (g | ⟨g1, j, g2, g3, g4, g5⟩)
          · exact Or.inl (Or.inl g)
          · by_cases cj : j = z5.toNatClampNeg
            · rw [cj] at g4 g5
              exact Or.inl (Or.inr ⟨g1, g4, by rw [← g1]; exact g5⟩)
            · exact Or.inr ⟨g1, j, by omega, g3, g4, (mx2_fr s).mpr g5⟩
      · intro x
        rw [d2 x, b2 x, w36, w37, en]
        constructor
        · rintro ((g | ⟨g1, g2⟩) | ⟨j, g2, g3, g4, g5⟩)
          · exact Or.inl g
          · exact Or.inr ⟨z5.toNatClampNeg, Nat.le_refl _, by omega, g1, g2⟩
          · exact Or.inr ⟨j, by omega, g3, (mx2_fr s).mp g4, g5⟩
        · rintro (g | ⟨j, g2, g3, g4, g5⟩)
          · exact Or.inl (Or.inl g)
          · by_cases cj : j = z5.toNatClampNeg
            · rw [cj] at g4 g5
              exact Or.inl (Or.inr ⟨g4, g5⟩)
            · exact Or.inr ⟨j, by omega, g3, (mx2_fr s).mpr g4, g5⟩
/-- a new paper against all prints -/
theorem adq34 {k59 : Int32 → Int32 → SX → Option (Int32 × SX)} {z1 z4 r : Int32} {u' : SX} : ∀ (n : Nat) (z5 : Int32) (u : SX), 0 ≤ (u.1 37).toInt → (u.1 37).toInt < 20 → (u.1 36).toInt ≤ 40 → 0 ≤ z5.toInt → LX2_addPaper_11_34 k59 n z1 z4 z5 u = some (r, u') → ∃ w : SX, FrM ([], [], [0], [68]) u w ∧ k59 z1 z4 w = some (r, u') ∧ (∀ i x : Nat, bt (w.2.2.2.1 68 i) x ↔ (bt (u.2.2.2.1 68 i) x ∨ (z5.toNatClampNeg ≤ i ∧ (i : Int) < (u.1 36).toInt ∧ x = 40 + (u.1 37).toNatClampNeg ∧ mx2 u i (u.1 37).toNatClampNeg))) ∧ ∀ x : Nat, bt (w.2.2.1 0) x ↔ (bt (u.2.2.1 0) x ∨ ∃ i : Nat, z5.toNatClampNeg ≤ i ∧ (i : Int) < (u.1 36).toInt ∧ mx2 u i (u.1 37).toNatClampNeg ∧ (x = i ∨ x = 40 + (u.1 37).toNatClampNeg)) := by
  intro n
  induction n with
  | zero => intro z5 u _ _ _ _ h; cases h
  | succ n ih =>
    intro z5 u p0 p9 q9 h0 h
    have h : (if (u.1 36) ≤ z5 then (k59 z1 z4 u) else ((fX2_compare_11 z5 (u.1 37) u).bind fun q => match q with | (r7, u8) => ((LX2_addPaper_11_34 k59 n) z1 z4 (z5 + 1) u8))) = some (r, u') := h
    have t5 := tn h0
    by_cases c : u.1 36 ≤ z5
    · rw [if_pos c] at h
      have c9 := leI c
      exact ⟨u, FrM_rf, h, fun i x => ⟨Or.inl, fun g => g.elim id (fun ⟨g1, g2, _⟩ => by omega)⟩, fun x => ⟨Or.inl, fun g => g.elim id (fun ⟨j, g1, g2, _⟩ => by omega)⟩⟩
    · rw [if_neg c] at h
      have c9 := nleI c
      have et : (z5 + 1).toInt = z5.toInt + 1 := addc_t (by decide) (by omega) (by omega)
      have en := ns1 h0 (show z5.toInt ≤ 5000 by omega)
      obtain ⟨⟨r7, u8⟩, a7, h⟩ := bd_some h
      obtain ⟨s, b1, b2⟩ := comp_sp h0 (by omega) p0 p9 a7
      have w36 : u8.1 36 = u.1 36 := s.1 36 (by decide)
      have w37 : u8.1 37 = u.1 37 := s.1 37 (by decide)
      obtain ⟨w, sw, bw, d1, d2⟩ := ih (z5 + 1) u8 (by rw [w37]; exact p0) (by rw [w37]; exact p9) (by rw [w36]; exact q9) (by rw [et]; omega) h
      refine ⟨w, FrM_tr s sw (by decide), bw, ?_, ?_⟩
      · intro i x
        rw [d1 i x, b1 i x, w36, w37, en]
        constructor
        · rintro ((g | ⟨g1, g2, g3⟩) | ⟨g1, g2, g3, g4⟩)
          · exact Or.inl g
          · exact Or.inr ⟨by omega, by omega, g2, by rw [g1]; exact g3⟩
          · exact Or.inr ⟨by omega, g2, g3, (mx2_fr s).mp g4⟩
        · rintro (g | ⟨g1, g2, g3, g4⟩)
          · exact Or.inl (Or.inl g)
          · by_cases cj : i = z5.toNatClampNeg
            · rw [cj] at g4
              exact Or.inl (Or.inr ⟨cj, g3, g4⟩)
            · exact Or.inr ⟨by omega, g2, g3, (mx2_fr s).mpr g4⟩
      · intro x
        rw [d2 x, b2 x, w36, w37, en]
        constructor
        · rintro ((g | ⟨g1, g2⟩) | ⟨j, g2, g3, g4, g5⟩)
          · exact Or.inl g
          · exact Or.inr ⟨z5.toNatClampNeg, Nat.le_refl _, by omega, g1, g2⟩
          · exact Or.inr ⟨j, by omega, g3, (mx2_fr s).mp g4, g5⟩
        · rintro (g | ⟨j, g2, g3, g4, g5⟩)
          · exact Or.inl (Or.inl g)
          · by_cases cj : j = z5.toNatClampNeg
            · rw [cj] at g4 g5
              exact Or.inl (Or.inr ⟨g4, g5⟩)
            · exact Or.inr ⟨j, by omega, g3, (mx2_fr s).mpr g4, g5⟩
/-- it is told to a house on a day -/
theorem tell_sp {x1 x4 r : Int32} {w : Int64} {u u' : SX} (a0 : 0 ≤ x1.toInt) (a9 : x1.toInt < 8) (d0 : 0 ≤ x4.toInt) (d9 : x4.toInt ≤ 120) (h : fX2_tell_11 x1 w x4 u = some (r, u')) : u' = sI (sA (sB u 69 (vp_updL (u.2.2.2.1 69) (x4.toNatClampNeg * 8 + x1.toNatClampNeg) (u.2.2.2.1 69 (x4.toNatClampNeg * 8 + x1.toNatClampNeg) ||| w))) 59 (upd (u.2.1 59) x4.toNatClampNeg 1)) 39 (if x4 < u.1 39 then x4 else u.1 39) := by
  unfold fX2_tell_11 at h
  obtain ⟨-, h⟩ := gd_some h
  obtain ⟨-, h⟩ := gd_some h
  obtain ⟨u3, e3, h⟩ := lt_some h
  obtain ⟨-, h⟩ := gd_some h
  obtain ⟨u6, e6, h⟩ := lt_some h
  obtain ⟨u8, e8, h⟩ := lt_some h
  have e : u8 = u' := by cases h; rfl
  rw [nar01.2] at e6
  rw [ix8 d0 d9 a0 a9] at e3
  rw [← e, e8, e6, e3]
  rfl
