/-! The class's sets, as the reference means them. -/
abbrev spU (u : SX) : Nat → Int32 × Int32 := fun i => (u.2.1 27 i, u.2.1 28 i)
/-- a state that has recalled a day: what the search of sets reads -/
def RC (u : SX) : Prop := (∀ m i : Nat, (m : Int) < (u.1 14).toInt → (i : Int) < (u.1 10).toInt → Bw (ww u m i)) ∧ (∀ i : Nat, (i : Int) < (u.1 10).toInt → Sb (spU u i)) ∧ ∀ m : Nat, (m : Int) < (u.1 14).toInt → (-100000 ≤ (u.2.1 40 m).toInt ∧ (u.2.1 40 m).toInt ≤ 100000) ∧ u.2.1 38 m = u.2.1 40 m - sumW (fun i => mxS (ww u m i) (spU u i)) (u.1 10).toNatClampNeg ∧ u.2.1 39 m = u.2.1 40 m - sumW (fun i => mnS (ww u m i) (spU u i)) (u.1 10).toNatClampNeg
theorem e47_t {u : SX} {m i : Nat} (hw : Bw (ww u m i)) (hs : Sb (spU u i)) : (e47 u m i).toInt = (if u.2.1 38 m ≤ 0 then (mnS (ww u m i) (spU u i)).toInt - (mn0 (ww u m i)).toInt else (mx0 (ww u m i)).toInt - (mxS (ww u m i) (spU u i)).toInt) ∧ 0 ≤ (e47 u m i).toInt ∧ (e47 u m i).toInt ≤ 8000000 := by
  have e := ends_sp hw hs
  have q1 := mxSB hw hs
  have q2 := mnSB hw hs
  unfold e47
  by_cases c : u.2.1 38 m ≤ 0
  · rw [if_pos c, if_pos c]
    have s : (mnS (ww u m i) (spU u i) - mn0 (ww u m i)).toInt = (mnS (ww u m i) (spU u i)).toInt - (mn0 (ww u m i)).toInt := sub_t (by omega) (by omega)
    show (mnS (ww u m i) (spU u i) - mn0 (ww u m i)).toInt = _ ∧ 0 ≤ (mnS (ww u m i) (spU u i) - mn0 (ww u m i)).toInt ∧ (mnS (ww u m i) (spU u i) - mn0 (ww u m i)).toInt ≤ _
    omega
  · rw [if_neg c, if_neg c]
    have s : (mx0 (ww u m i) - mxS (ww u m i) (spU u i)).toInt = (mx0 (ww u m i)).toInt - (mxS (ww u m i) (spU u i)).toInt := sub_t (by omega) (by omega)
    show (mx0 (ww u m i) - mxS (ww u m i) (spU u i)).toInt = _ ∧ 0 ≤ (mx0 (ww u m i) - mxS (ww u m i) (spU u i)).toInt ∧ (mx0 (ww u m i) - mxS (ww u m i) (spU u i)).toInt ≤ _
    omega
theorem rest_e {u0 u : SX} (hI : IX u0) (hC : RC u0) {k m s : Nat} (hm : (m : Int) < (u0.1 14).toInt) (hE : ENC u0 u k m) : (-100000000 ≤ (e46 u0 m).toInt ∧ (e46 u0 m).toInt ≤ 100000000) ∧ rest u s k (u0.1 10).toNatClampNeg = if u0.2.1 38 m ≤ 0 then - upR u0 (spU u0) m s (u0.1 10).toNatClampNeg else loR u0 (spU u0) m s (u0.1 10).toNatClampNeg := by
  have b10 : (u0.1 10).toInt ≤ (12 : Int) := (hI.1 10).2
  have z10 : (0 : Int) ≤ (u0.1 10).toInt := (hI.1 10).1
  have t10 := tnS z10
  obtain ⟨hN, h38, h39⟩ := hC.2.2 m hm
  have hw : ∀ i, i < (u0.1 10).toNatClampNeg → Bw (ww u0 m i) := fun i hi => hC.1 m i hm (by omega)
  have hS : ∀ i, i < (u0.1 10).toNatClampNeg → Sb (spU u0 i) := fun i hi => hC.2.1 i (by omega)
  have bx : ∀ i, i < (u0.1 10).toNatClampNeg → -4000000 ≤ (mxS (ww u0 m i) (spU u0 i)).toInt ∧ (mxS (ww u0 m i) (spU u0 i)).toInt ≤ 4000000 := fun i hi => mxSB (hw i hi) (hS i hi)
  have bm : ∀ i, i < (u0.1 10).toNatClampNeg → -4000000 ≤ (mnS (ww u0 m i) (spU u0 i)).toInt ∧ (mnS (ww u0 m i) (spU u0 i)).toInt ≤ 4000000 := fun i hi => mnSB (hw i hi) (hS i hi)
  obtain ⟨a1, a2⟩ := sumWB (g := fun i => mxS (ww u0 m i) (spU u0 i)) (u0.1 10).toNatClampNeg (by omega) bx
  obtain ⟨c1, c2⟩ := sumWB (g := fun i => mnS (ww u0 m i) (spU u0 i)) (u0.1 10).toNatClampNeg (by omega) bm
  have t38 : (u0.2.1 38 m).toInt = (u0.2.1 40 m).toInt - (sumW (fun i => mxS (ww u0 m i) (spU u0 i)) (u0.1 10).toNatClampNeg).toInt := by
    rw [h38]
    exact sub_t (by omega) (by omega)
  have t39 : (u0.2.1 39 m).toInt = (u0.2.1 40 m).toInt - (sumW (fun i => mnS (ww u0 m i) (spU u0 i)) (u0.1 10).toNatClampNeg).toInt := by
    rw [h39]
    exact sub_t (by omega) (by omega)
  have tneg : (-(u0.2.1 39 m)).toInt = -(u0.2.1 39 m).toInt := by
    rw [Int32.toInt_neg]
    exact bm_t (by omega) (by omega)
  refine ⟨?_, ?_⟩
  · unfold e46
    by_cases c : u0.2.1 38 m ≤ 0
    · rw [if_pos c, tneg]
      omega
    · rw [if_neg c]
      omega
  · have step : ∀ i, i ≤ (u0.1 10).toNatClampNeg → rest u s k i = if u0.2.1 38 m ≤ 0 then -(u0.2.1 39 m).toInt - (upR u0 (spU u0) m s i - ((u0.2.1 40 m).toInt - (sumW (fun i => mnS (ww u0 m i) (spU u0 i)) i).toInt)) else (u0.2.1 38 m).toInt + (loR u0 (spU u0) m s i - ((u0.2.1 40 m).toInt - (sumW (fun i => mxS (ww u0 m i) (spU u0 i)) i).toInt)) := by
      intro i
      induction i with
      | zero =>
        intro _
        have z : ∀ g : Nat → Int32, (sumW g 0).toInt = 0 := fun g => by
          show (0 : Int32).toInt = 0
          decide
        rw [z, z]
        show (u.2.1 46 k).toInt = if u0.2.1 38 m ≤ 0 then -(u0.2.1 39 m).toInt - ((u0.2.1 40 m).toInt - ((u0.2.1 40 m).toInt - 0)) else (u0.2.1 38 m).toInt + ((u0.2.1 40 m).toInt - ((u0.2.1 40 m).toInt - 0))
        rw [hE.1]
        unfold e46
        by_cases c : u0.2.1 38 m ≤ 0
        · rw [if_pos c, if_pos c, tneg]
          omega
        · rw [if_neg c, if_neg c]
          omega
      | succ i ih =>
        intro hi
        have a := ih (by omega)
        have e := (e47_t (hw i (by omega)) (hS i (by omega))).1
        rw [rest_s, a, hE.2 i (by omega), e, sumW_t (g := fun i => mnS (ww u0 m i) (spU u0 i)) _ (by omega) bm i (by omega), sumW_t (g := fun i => mxS (ww u0 m i) (spU u0 i)) _ (by omega) bx i (by omega), upR_s, loR_s]
        by_cases c : u0.2.1 38 m ≤ 0
        · rw [if_pos c, if_pos c, if_pos c]
          by_cases d : s.testBit i = true
          · rw [if_pos d, if_pos d]
            omega
          · rw [if_neg d, if_neg d]
            omega
        · rw [if_neg c, if_neg c, if_neg c]
          by_cases d : s.testBit i = true
          · rw [if_pos d, if_pos d]
            omega
          · rw [if_neg d, if_neg d]
            omega
    rw [step _ (Nat.le_refl _)]
    by_cases c : u0.2.1 38 m ≤ 0
    · rw [if_pos c, if_pos c]
      omega
    · rw [if_neg c, if_neg c]
      omega
theorem COV_CV {u0 u : SX} (hI : IX u0) (hC : RC u0) (hK : KP u0 u (u0.1 14).toInt) {s : Nat} : COV u (u0.1 10).toNatClampNeg s ↔ CV u0 (spU u0) (u0.1 14).toNatClampNeg (u0.1 10).toNatClampNeg s := by
  have b10 : (u0.1 10).toInt ≤ (12 : Int) := (hI.1 10).2
  have z10 : (0 : Int) ≤ (u0.1 10).toInt := (hI.1 10).1
  have t10 := tnS z10
  have z14 : (0 : Int) ≤ (u0.1 14).toInt := (hI.1 14).1
  have t14 := tnS z14
  have fac : ∀ m : Nat, (m : Int) < (u0.1 14).toInt → (u0.2.1 38 m).toInt ≤ (u0.2.1 39 m).toInt ∧ loR u0 (spU u0) m s (u0.1 10).toNatClampNeg ≤ (u0.2.1 38 m).toInt ∧ (u0.2.1 39 m).toInt ≤ upR u0 (spU u0) m s (u0.1 10).toNatClampNeg := fun m hm => by
    obtain ⟨hN, h38, h39⟩ := hC.2.2 m hm
    obtain ⟨p1, p2, p3, -⟩ := one_sp (u := u0) (S := spU u0) (m := m) (s := s) (n := (u0.1 10).toNatClampNeg) (by omega) (fun i hi => hC.1 m i hm (by omega)) (fun i hi => hC.2.1 i (by omega)) hN _ (Nat.le_refl _)
    rw [h38, h39]
    exact ⟨p1, p2, p3⟩
  constructor
  · intro h m hm
    have hm : (m : Int) < (u0.1 14).toInt := by omega
    obtain ⟨f1, f2, f3⟩ := fac m hm
    by_cases hn : need u0 m
    · obtain ⟨k, hk, hE⟩ := hK.2 m hm hn
      have := h k hk
      rw [(rest_e hI hC hm hE).2] at this
      by_cases c : u0.2.1 38 m ≤ 0
      · rw [if_pos c] at this
        have c9 : (u0.2.1 38 m).toInt ≤ (0 : Int) := leI c
        omega
      · rw [if_neg c] at this
        have c9 : ¬ (u0.2.1 38 m).toInt ≤ (0 : Int) := nleI c
        omega
    · unfold need at hn
      omega
  · intro h k hk
    obtain ⟨m, hm, hn, hE⟩ := hK.1 k hk
    obtain ⟨g1, g2⟩ := h m (by omega)
    rw [(rest_e hI hC hm hE).2]
    by_cases c : u0.2.1 38 m ≤ 0
    · rw [if_pos c]
      omega
    · rw [if_neg c]
      exact g1
theorem fewest_sp {r : Int32} {u u' : SX} (hR : RW u) (h14 : (u.1 14).toInt ≤ (u.1 13).toInt) (hC : RC u) (h : fX0_fewest_9 u = some (r, u')) : BSt (CV u (spU u) (u.1 14).toNatClampNeg (u.1 10).toNatClampNeg) (u.1 10).toNatClampNeg r := by
  unfold fX0_fewest_9 at h
  obtain ⟨u1, j1, h⟩ := lt_some h
  obtain ⟨u3, j3, h⟩ := lt_some h
  have s3 : StX ([26, 27], [], [], []) u u3 := by
    rw [j3, j1]
    exact StX_sI (StX_sI (StX_rf hR.1) (by decide) (by decide) (by decide)) (by decide) (by decide) (by decide)
  have R3 := RW_md s3.1 s3.2 (by decide) (by decide) (by decide) hR
  have x26 : u3.1 26 = 0 := by rw [j3, j1]; rfl
  have x27 : u3.1 27 = 0 := by rw [j3]; rfl
  have f10 : u3.1 10 = u.1 10 := s3.2.1 10 (by decide)
  have f14 : u3.1 14 = u.1 14 := s3.2.1 14 (by decide)
  have ew : ww u3 = ww u := ww_fr (s3.2.2.1 24 (by decide)) (s3.2.2.1 36 (by decide)) s3.2.2.2.2.2
  have sU : spU u3 = spU u := by
    unfold spU
    rw [s3.2.2.1 27 (by decide), s3.2.2.1 28 (by decide)]
  have C3 : RC u3 := by
    unfold RC at hC ⊢
    rw [f10, f14, ew, sU, s3.2.2.1 38 (by decide), s3.2.2.1 39 (by decide), s3.2.2.1 40 (by decide)]
    exact hC
  have z14 : (0 : Int) ≤ (u3.1 14).toInt := (s3.1.1 14).1
  have z0 : (0 : Int32).toInt = 0 := by decide
  obtain ⟨w, Rw, Fw, Kw, h⟩ := kp12 (u0 := u3) 5000 0 u3 R3 FrM_rf (by rw [f14, s3.2.1 13 (by decide)]; exact h14) (by decide) z14 (by rw [x26]; exact Int.le_refl _) (by
    unfold KP
    rw [x26, z0]
    exact ⟨fun k hk => by omega, fun m hm => by omega⟩) h
  have w10 : w.1 10 = u3.1 10 := Fw.1 10 (by decide)
  have w27 : w.1 27 = 0 := (Fw.1 27 (by decide)).trans x27
  have b26 : (0 : Int) ≤ (w.1 26).toInt := (Rw.1.1 26).1
  have B : RB w := fun k hk => by
    obtain ⟨m, hm, -, hE⟩ := Kw.1 k hk
    refine ⟨?_, fun i hi => ?_⟩
    · rw [hE.1]
      exact (rest_e (s := 0) s3.1 C3 hm hE).1
    · rw [w10] at hi
      rw [hE.2 i hi]
      exact (e47_t (C3.1 m i hm hi) (C3.2.1 i hi)).2
  have fin := fw58 Rw.1 B (by
    unfold H27
    rw [w27, z0]
    omega) h
  rw [w10] at fin
  have cv : ∀ t, COV w (u3.1 10).toNatClampNeg t ↔ CV u (spU u) (u.1 14).toNatClampNeg (u.1 10).toNatClampNeg t := fun t => by
    rw [COV_CV s3.1 C3 Kw, f10, f14, sU]
    have el : ∀ m i, loR u3 (spU u) m t i = loR u (spU u) m t i := fun m i => by
      induction i with
      | zero =>
        show (u3.2.1 40 m).toInt = (u.2.1 40 m).toInt
        rw [s3.2.2.1 40 (by decide)]
      | succ i ih => rw [loR_s, loR_s, ih, ew]
    have eu : ∀ m i, upR u3 (spU u) m t i = upR u (spU u) m t i := fun m i => by
      induction i with
      | zero =>
        show (u3.2.1 40 m).toInt = (u.2.1 40 m).toInt
        rw [s3.2.2.1 40 (by decide)]
      | succ i ih => rw [upR_s, upR_s, ih, ew]
    unfold CV
    constructor
    · intro h m hm
      rw [← el, ← eu]
      exact h m hm
    · intro h m hm
      rw [el, eu]
      exact h m hm
  rw [f10] at fin cv
  rcases fin with ⟨q1, q2⟩ | ⟨t, q1, q2, q3, q4⟩
  · exact Or.inl ⟨q1, fun t ht g => q2 t ht ((cv t).mpr g)⟩
  · exact Or.inr ⟨t, q1, (cv t).mp q2, q3, fun t' ht' g => q4 t' ht' ((cv t').mpr g)⟩
