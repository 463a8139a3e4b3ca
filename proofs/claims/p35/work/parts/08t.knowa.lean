/-! What a print or a paper changes. -/
theorem TieM_add {u u' v v' : SX} {Q : Nat → Nat → Prop} (hM : ∀ i y, MT v' i y ↔ (MT v i y ∨ Q i y)) (h68 : ∀ i x : Nat, i < 40 → (bt (u'.2.2.2.1 68 i) x ↔ (bt (u.2.2.2.1 68 i) x ∨ Q i x))) (hJ : ∀ x : Nat, bt (u'.2.2.1 0) x ↔ (bt (u.2.2.1 0) x ∨ (∃ y, Q x y) ∨ ∃ i, Q i x)) (h3 : ∀ j : Nat, (j : Int) < (u'.1 37).toInt → u'.2.1 66 j = v'.2.1 36 (40 + j) ∧ u'.2.1 67 j = v'.2.1 37 (40 + j) ∧ (u'.2.1 66 j).toInt ≤ (u'.2.1 67 j).toInt) (k : TieM u v) : TieM u' v' := by
  refine ⟨fun i x hi => ?_, fun x => ?_, h3⟩
  · rw [h68 i x hi, k.1 i x hi, hM]
  · rw [hJ x, k.2.1 x]
    constructor
    · rintro ((⟨y, g⟩ | ⟨i, g⟩) | ⟨y, g⟩ | ⟨i, g⟩)
      · exact Or.inl ⟨y, (hM _ _).mpr (Or.inl g)⟩
      · exact Or.inr ⟨i, (hM _ _).mpr (Or.inl g)⟩
      · exact Or.inl ⟨y, (hM _ _).mpr (Or.inr g)⟩
      · exact Or.inr ⟨i, (hM _ _).mpr (Or.inr g)⟩
    · rintro (⟨y, g⟩ | ⟨i, g⟩)
      · exact ((hM _ _).mp g).elim (fun g => Or.inl (Or.inl ⟨y, g⟩)) (fun g => Or.inr (Or.inl ⟨y, g⟩))
      · exact ((hM _ _).mp g).elim (fun g => Or.inl (Or.inr ⟨i, g⟩)) (fun g => Or.inr (Or.inr ⟨i, g⟩))
theorem toldK {u u' v v' : SX} {x1 xb : Int32} {w : Int64} (hI : IX u) (a0 : 0 ≤ x1.toInt) (a9 : x1.toInt < 8) (b0 : 0 ≤ xb.toInt) (b9 : xb.toInt < 60) (hn : ¬ thM v xb.toNatClampNeg) (e69 : u'.2.2.2.1 69 = vp_updL (u.2.2.2.1 69) ((u.1 0).toNatClampNeg * 8 + x1.toNatClampNeg) (u.2.2.2.1 69 ((u.1 0).toNatClampNeg * 8 + x1.toNatClampNeg) ||| bp xb)) (e59 : u'.2.1 59 = upd (u.2.1 59) (u.1 0).toNatClampNeg 1) (e39 : u'.1 39 = if u.1 0 < u.1 39 then u.1 0 else u.1 39) (e38 : u'.1 38 = u.1 38) (e60 : u'.2.1 60 = u.2.1 60) (e61 : u'.2.1 61 = u.2.1 61) (e62 : u'.2.1 62 = u.2.1 62) (e70 : u'.2.2.2.1 70 = u.2.2.2.1 70)
    (hth : ∀ x, thM v' x ↔ (thM v x ∨ x = xb.toNatClampNeg)) (m35 : v'.2.1 35 = upd (v.2.1 35) xb.toNatClampNeg x1) (m38 : v'.2.1 38 = upd (v.2.1 38) xb.toNatClampNeg (u.1 0)) (m22 : v'.1 22 = v.1 22) (m25 : v'.1 25 = v.1 25) (m39 : v'.2.1 39 = v.2.1 39) (m40 : v'.2.1 40 = v.2.1 40) (m41 : v'.2.1 41 = v.2.1 41) (hK : TieK u v) : HTL (TM v') (LK v') u' ∧ (∀ d : Nat, d < (u'.1 39).toNatClampNeg → KV (TM v') (LK v') u' d) ∧ LHn v' (v'.1 25).toInt := by
  have bn : (0 : Int) ≤ (u.1 0).toInt := (hI.1 0).1
  have b39 : (0 : Int) ≤ (u.1 39).toInt := (hI.1 39).1
  have tN := tn bn
  have ta := tn a0
  have tb := tn b0
  have eL : LK v' = LK v := by
    unfold LK LMn
    rw [m25, m39, m40, m41]
  have eT : ∀ d h x : Nat, TM v' d h x ↔ (TM v d h x ∨ (d = (u.1 0).toNatClampNeg ∧ h = x1.toNatClampNeg ∧ x = xb.toNatClampNeg)) := by
    intro d h x
    unfold TM
    rw [hth, m35, m38]
    by_cases e : x = xb.toNatClampNeg
    · rw [e, upd_at, upd_at]
      constructor
      · rintro ⟨-, -, g2, g3⟩
        exact Or.inr ⟨by omega, by omega, rfl⟩
      · rintro (⟨g, -⟩ | ⟨g1, g2, -⟩)
        · exact absurd g hn
        · exact ⟨Or.inr rfl, by omega, by omega, by omega⟩
    · rw [upd_ne e, upd_ne e]
      constructor
      · rintro ⟨g, g1, g2, g3⟩
        exact Or.inl ⟨g.resolve_right e, g1, g2, g3⟩
      · rintro (⟨g, g1, g2, g3⟩ | ⟨-, -, g⟩)
        · exact ⟨Or.inl g, g1, g2, g3⟩
        · exact absurd g e
  obtain ⟨⟨k1, k2, k3⟩, kb, kc, -⟩ := hK
  refine ⟨⟨?_, ?_, ?_⟩, ?_, ?_⟩
  · intro d h x hd hh
    rw [eT, ← k1 d h x hd hh, e69]
    by_cases e : d * 8 + h = (u.1 0).toNatClampNeg * 8 + x1.toNatClampNeg
    · rw [e, updL_at, bt_or, bt_p b0 (by omega)]
      have d1 : d = (u.1 0).toNatClampNeg := by omega
      have d2 : h = x1.toNatClampNeg := by omega
      exact ⟨fun g => g.elim Or.inl (fun g => Or.inr ⟨d1, d2, g⟩), fun g => g.elim Or.inl (fun g => Or.inr g.2.2)⟩
    · rw [updL_ne e]
      exact ⟨Or.inl, fun g => g.elim id (fun g => absurd (by rw [g.1, g.2.1]) e)⟩
  · rw [eL]
    intro d f h
    rw [k2, e38, e60, e61, e62]
  · intro d hd hb
    rw [e59] at hb
    by_cases e : d = (u.1 0).toNatClampNeg
    · rw [e, upd_at] at hb
      exact absurd hb (by decide)
    · rw [upd_ne e] at hb
      obtain ⟨q1, q2⟩ := k3 d hd hb
      rw [eL]
      exact ⟨fun h x g => ((eT d h x).mp g).elim (q1 h x) (fun g => e g.1), q2⟩
  · intro d hd
    rw [e39] at hd
    obtain ⟨d1, d2⟩ := min39 bn b39 hd
    intro k x hk
    have := kb d d2 k x hk
    unfold ro at this ⊢
    rw [e70, this, eL]
    refine Kn_cg d (fun e he h y => ?_) (fun _ _ _ _ => Iff.rfl) k x
    rw [eT]
    exact ⟨Or.inl, fun g => g.elim id (fun g => by omega)⟩
  · unfold LHn at kc ⊢
    rw [m25, m22, m39]
    exact kc
theorem addPrintX {x1 x2 x3 x4 r : Int32} {u u' : SX} (hI : IX u) (c : u.1 36 < 40) (a0 : 0 ≤ x1.toInt) (a9 : x1.toInt < 8) (d0 : 0 ≤ x4.toInt) (d9 : x4.toInt ≤ 120) (h : fX2_addPrint_11 x1 x2 x3 x4 u = some (r, u')) : r = u.1 36 ∧ FrM mdX11_print_0 u u' ∧ u'.1 37 = u.1 37 ∧ u'.2.1 66 = u.2.1 66 ∧ u'.2.1 67 = u.2.1 67 ∧ u'.2.2.2.1 69 = vp_updL (u.2.2.2.1 69) (x4.toNatClampNeg * 8 + x1.toNatClampNeg) (u.2.2.2.1 69 (x4.toNatClampNeg * 8 + x1.toNatClampNeg) ||| bp (u.1 36)) ∧ u'.2.1 59 = upd (u.2.1 59) x4.toNatClampNeg 1 ∧ u'.1 39 = (if x4 < u.1 39 then x4 else u.1 39) ∧ (∀ i x : Nat, bt (u'.2.2.2.1 68 i) x ↔ (bt (u.2.2.2.1 68 i) x ∨ (i = (u.1 36).toNatClampNeg ∧ ∃ j : Nat, (j : Int) < (u.1 37).toInt ∧ x = 40 + j ∧ 0 < x2.toInt ∧ x2.toInt ≤ (u.2.1 67 j).toInt ∧ (u.2.1 66 j).toInt ≤ x3.toInt))) ∧ ∀ x : Nat, bt (u'.2.2.1 0) x ↔ (bt (u.2.2.1 0) x ∨ ∃ j : Nat, (j : Int) < (u.1 37).toInt ∧ (0 < x2.toInt ∧ x2.toInt ≤ (u.2.1 67 j).toInt ∧ (u.2.1 66 j).toInt ≤ x3.toInt) ∧ (x = (u.1 36).toNatClampNeg ∨ x = 40 + j)) := by
  unfold fX2_addPrint_11 at h
  rw [if_pos c] at h
  have b36 : (0 : Int) ≤ (u.1 36).toInt := (hI.1 36).1
  have c36 : (u.1 36).toInt < (40 : Int) := ltI c
  have b37 : (u.1 37).toInt ≤ (20 : Int) := (hI.1 37).2
  obtain ⟨-, h⟩ := gd_some h
  obtain ⟨u2, e2, h⟩ := lt_some h
  obtain ⟨-, h⟩ := gd_some h
  obtain ⟨u5, e5, h⟩ := lt_some h
  obtain ⟨-, h⟩ := gd_some h
  obtain ⟨u8, e8, h⟩ := lt_some h
  have k36 : u8.1 36 = u.1 36 := by rw [e8, e5, e2]; rfl
  have k37 : u8.1 37 = u.1 37 := by rw [e8, e5, e2]; rfl
  have k39 : u8.1 39 = u.1 39 := by rw [e8, e5, e2]; rfl
  have k63 : u8.2.1 63 = upd (u.2.1 63) (u.1 36).toNatClampNeg x2 := by rw [e8, e5, e2]; rfl
  have k64 : u8.2.1 64 = upd (u.2.1 64) (u.1 36).toNatClampNeg x3 := by rw [e8, e5, e2]; rfl
  have k66 : u8.2.1 66 = u.2.1 66 := by rw [e8, e5, e2]; rfl
  have k67 : u8.2.1 67 = u.2.1 67 := by rw [e8, e5, e2]; rfl
  have k59 : u8.2.1 59 = u.2.1 59 := by rw [e8, e5, e2]; rfl
  have kl : u8.2.2 = u.2.2 := by rw [e8, e5, e2]; rfl
  have fr8 : FrM mdX11_print_0 u u8 := by
    rw [e8, e5, e2]
    exact FrM_sA (FrM_sA (FrM_sA FrM_rf (by decide)) (by decide)) (by decide)
  obtain ⟨w, sw, bw, d1, d2⟩ := adp45 5000 0 u8 (by rw [k36]; exact b36) (by rw [k36]; exact c36) (by rw [k37]; exact b37) (by decide) h
  unfold GX2_addPrint_11_70 at bw
  have w36 : w.1 36 = u.1 36 := (sw.1 36 (by decide)).trans k36
  rw [w36] at bw
  have bw : ((fX2_tell_11 x1 (bp (u.1 36)) x4 w).bind fun q => match q with | (r16, u17) => (lt (sI u17 36 ((u17.1 36) + 1)) fun u19 => (some ((u19.1 36) - 1, u19)))) = some (r, u') := bw
  obtain ⟨⟨r16, u17⟩, a16, bw⟩ := bd_some bw
  obtain ⟨u19, j19, bw⟩ := lt_some bw
  have e17 := tell_sp a0 a9 d0 d9 a16
  have er : r = (u19.1 36) - 1 ∧ u19 = u' := by cases bw; exact ⟨rfl, rfl⟩
  have f36 : u17.1 36 = u.1 36 := by rw [e17]; exact w36
  have m1 : ∀ j : Nat, mx2 u8 (u.1 36).toNatClampNeg j ↔ (0 < x2.toInt ∧ x2.toInt ≤ (u.2.1 67 j).toInt ∧ (u.2.1 66 j).toInt ≤ x3.toInt) := by
    intro j
    unfold mx2
    rw [k63, k64, k66, k67, upd_at, upd_at]
  have l69 : w.2.2.2.1 69 = u.2.2.2.1 69 := (sw.2.2.2.1 69 (by decide)).trans (by rw [kl])
  refine ⟨?_, ?_, ?_, ?_, ?_, ?_, ?_, ?_, ?_, ?_⟩
  · rw [er.1, j19]
    show u17.1 36 + 1 - 1 = u.1 36
    rw [f36]
    apply Int32.toInt.inj
    have y1 : (u.1 36 + 1).toInt = (u.1 36).toInt + 1 := addc_t (by decide) (by omega) (by omega)
    have y2 : (u.1 36 + 1 - 1).toInt = (u.1 36 + 1).toInt - 1 := subc_t (by decide) (by omega) (by omega)
    omega
  · rw [← er.2, j19, e17]
    exact FrM_sI (FrM_sI (FrM_sA (FrM_sB (FrM_tr fr8 sw (by decide)) (by decide)) (by decide)) (by decide)) (by decide)
  · rw [← er.2, j19, e17]
    show w.1 37 = u.1 37
    exact (sw.1 37 (by decide)).trans k37
  · rw [← er.2, j19, e17]
    show w.2.1 66 = u.2.1 66
    exact (sw.2.1 66 (by decide)).trans k66
  · rw [← er.2, j19, e17]
    show w.2.1 67 = u.2.1 67
    exact (sw.2.1 67 (by decide)).trans k67
  · rw [← er.2, j19, e17]
    show vp_updL (w.2.2.2.1 69) (x4.toNatClampNeg * 8 + x1.toNatClampNeg) (w.2.2.2.1 69 (x4.toNatClampNeg * 8 + x1.toNatClampNeg) ||| bp (u.1 36)) = _
    rw [l69]
  · rw [← er.2, j19, e17]
    show upd (w.2.1 59) x4.toNatClampNeg 1 = _
    rw [sw.2.1 59 (by decide), k59]
  · rw [← er.2, j19, e17]
    show (if x4 < w.1 39 then x4 else w.1 39) = _
    rw [sw.1 39 (by decide), k39]
  · intro i x
    have e68 : u'.2.2.2.1 68 = w.2.2.2.1 68 := by
      rw [← er.2, j19, e17]
      rfl
    rw [e68, d1 i x, kl, k36, k37]
    constructor
    · rintro (g | ⟨g1, j, -, g3, g4, g5⟩)
      · exact Or.inl g
      · rw [g1] at g5
        exact Or.inr ⟨g1, j, g3, g4, (m1 j).mp g5⟩
    · rintro (g | ⟨g1, j, g3, g4, g5⟩)
      · exact Or.inl g
      · exact Or.inr ⟨g1, j, Nat.zero_le _, g3, g4, by rw [g1]; exact (m1 j).mpr g5⟩
  · intro x
    have eJ : u'.2.2.1 0 = w.2.2.1 0 := by
      rw [← er.2, j19, e17]
      rfl
    rw [eJ, d2 x, kl, k36, k37]
    constructor
    · rintro (g | ⟨j, -, g3, g4, g5⟩)
      · exact Or.inl g
      · exact Or.inr ⟨j, g3, (m1 j).mp g4, g5⟩
    · rintro (g | ⟨j, g3, g4, g5⟩)
      · exact Or.inl g
      · exact Or.inr ⟨j, Nat.zero_le _, g3, (m1 j).mpr g4, g5⟩
theorem addPaperX {x1 x2 x3 x4 r : Int32} {u u' : SX} (hI : IX u) (c : u.1 37 < 20) (a0 : 0 ≤ x1.toInt) (a9 : x1.toInt < 8) (d0 : 0 ≤ x4.toInt) (d9 : x4.toInt ≤ 120) (h : fX2_addPaper_11 x1 x2 x3 x4 u = some (r, u')) : r = u.1 37 ∧ FrM mdX11_print_0 u u' ∧ u'.1 37 = u.1 37 + 1 ∧ u'.2.1 66 = upd (u.2.1 66) (u.1 37).toNatClampNeg x2 ∧ u'.2.1 67 = upd (u.2.1 67) (u.1 37).toNatClampNeg x3 ∧ u'.2.2.2.1 69 = vp_updL (u.2.2.2.1 69) (x4.toNatClampNeg * 8 + x1.toNatClampNeg) (u.2.2.2.1 69 (x4.toNatClampNeg * 8 + x1.toNatClampNeg) ||| bp (40 + u.1 37)) ∧ u'.2.1 59 = upd (u.2.1 59) x4.toNatClampNeg 1 ∧ u'.1 39 = (if x4 < u.1 39 then x4 else u.1 39) ∧ (∀ i x : Nat, bt (u'.2.2.2.1 68 i) x ↔ (bt (u.2.2.2.1 68 i) x ∨ ((i : Int) < (u.1 36).toInt ∧ x = 40 + (u.1 37).toNatClampNeg ∧ 0 < (u.2.1 63 i).toInt ∧ (u.2.1 63 i).toInt ≤ x3.toInt ∧ x2.toInt ≤ (u.2.1 64 i).toInt))) ∧ ∀ x : Nat, bt (u'.2.2.1 0) x ↔ (bt (u.2.2.1 0) x ∨ ∃ i : Nat, (i : Int) < (u.1 36).toInt ∧ (0 < (u.2.1 63 i).toInt ∧ (u.2.1 63 i).toInt ≤ x3.toInt ∧ x2.toInt ≤ (u.2.1 64 i).toInt) ∧ (x = i ∨ x = 40 + (u.1 37).toNatClampNeg)) := by
  unfold fX2_addPaper_11 at h
  rw [if_pos c] at h
  have b37 : (0 : Int) ≤ (u.1 37).toInt := (hI.1 37).1
  have c37 : (u.1 37).toInt < (20 : Int) := ltI c
  have b36 : (u.1 36).toInt ≤ (40 : Int) := (hI.1 36).2
  obtain ⟨-, h⟩ := gd_some h
  obtain ⟨u2, e2, h⟩ := lt_some h
  obtain ⟨-, h⟩ := gd_some h
  obtain ⟨u5, e5, h⟩ := lt_some h
  have k36 : u5.1 36 = u.1 36 := by rw [e5, e2]; rfl
  have k37 : u5.1 37 = u.1 37 := by rw [e5, e2]; rfl
  have k39 : u5.1 39 = u.1 39 := by rw [e5, e2]; rfl
  have k66 : u5.2.1 66 = upd (u.2.1 66) (u.1 37).toNatClampNeg x2 := by rw [e5, e2]; rfl
  have k67 : u5.2.1 67 = upd (u.2.1 67) (u.1 37).toNatClampNeg x3 := by rw [e5, e2]; rfl
  have k63 : u5.2.1 63 = u.2.1 63 := by rw [e5, e2]; rfl
  have k64 : u5.2.1 64 = u.2.1 64 := by rw [e5, e2]; rfl
  have k59 : u5.2.1 59 = u.2.1 59 := by rw [e5, e2]; rfl
  have kl : u5.2.2 = u.2.2 := by rw [e5, e2]; rfl
  have fr8 : FrM mdX11_print_0 u u5 := by
    rw [e5, e2]
    exact FrM_sA (FrM_sA FrM_rf (by decide)) (by decide)
  obtain ⟨w, sw, bw, d1, d2⟩ := adq34 5000 0 u5 (by rw [k37]; exact b37) (by rw [k37]; exact c37) (by rw [k36]; exact b36) (by decide) h
  unfold GX2_addPaper_11_59 at bw
  have w37 : w.1 37 = u.1 37 := (sw.1 37 (by decide)).trans k37
  rw [w37] at bw
  have bw : ((fX2_tell_11 x1 (bp (40 + u.1 37)) x4 w).bind fun q => match q with | (r13, u14) => (lt (sI u14 37 ((u14.1 37) + 1)) fun u16 => (some ((u16.1 37) - 1, u16)))) = some (r, u') := bw
  obtain ⟨⟨r16, u17⟩, a16, bw⟩ := bd_some bw
  obtain ⟨u19, j19, bw⟩ := lt_some bw
  have e17 := tell_sp a0 a9 d0 d9 a16
  have er : r = (u19.1 37) - 1 ∧ u19 = u' := by cases bw; exact ⟨rfl, rfl⟩
  have f37 : u17.1 37 = u.1 37 := by rw [e17]; exact w37
  have m1 : ∀ i : Nat, mx2 u5 i (u.1 37).toNatClampNeg ↔ (0 < (u.2.1 63 i).toInt ∧ (u.2.1 63 i).toInt ≤ x3.toInt ∧ x2.toInt ≤ (u.2.1 64 i).toInt) := by
    intro i
    unfold mx2
    rw [k63, k64, k66, k67, upd_at, upd_at]
  have l69 : w.2.2.2.1 69 = u.2.2.2.1 69 := (sw.2.2.2.1 69 (by decide)).trans (by rw [kl])
  refine ⟨?_, ?_, ?_, ?_, ?_, ?_, ?_, ?_, ?_, ?_⟩
  · rw [er.1, j19]
    show u17.1 37 + 1 - 1 = u.1 37
    rw [f37]
    apply Int32.toInt.inj
    have y1 : (u.1 37 + 1).toInt = (u.1 37).toInt + 1 := addc_t (by decide) (by omega) (by omega)
    have y2 : (u.1 37 + 1 - 1).toInt = (u.1 37 + 1).toInt - 1 := subc_t (by decide) (by omega) (by omega)
    omega
  · rw [← er.2, j19, e17]
    exact FrM_sI (FrM_sI (FrM_sA (FrM_sB (FrM_tr fr8 sw (by decide)) (by decide)) (by decide)) (by decide)) (by decide)
  · rw [← er.2, j19]
    show u17.1 37 + 1 = u.1 37 + 1
    rw [f37]
  · rw [← er.2, j19, e17]
    show w.2.1 66 = _
    exact (sw.2.1 66 (by decide)).trans k66
  · rw [← er.2, j19, e17]
    show w.2.1 67 = _
    exact (sw.2.1 67 (by decide)).trans k67
  · rw [← er.2, j19, e17]
    show vp_updL (w.2.2.2.1 69) (x4.toNatClampNeg * 8 + x1.toNatClampNeg) (w.2.2.2.1 69 (x4.toNatClampNeg * 8 + x1.toNatClampNeg) ||| bp (40 + u.1 37)) = _
    rw [l69]
  · rw [← er.2, j19, e17]
    show upd (w.2.1 59) x4.toNatClampNeg 1 = _
    rw [sw.2.1 59 (by decide), k59]
  · rw [← er.2, j19, e17]
    show (if x4 < w.1 39 then x4 else w.1 39) = _
    rw [sw.1 39 (by decide), k39]
  · intro i x
    have e68 : u'.2.2.2.1 68 = w.2.2.2.1 68 := by
      rw [← er.2, j19, e17]
      rfl
    rw [e68, d1 i x, kl, k36, k37]
    constructor
    · rintro (g | ⟨-, g3, g4, g5⟩)
      · exact Or.inl g
      · exact Or.inr ⟨g3, g4, (m1 i).mp g5⟩
    · rintro (g | ⟨g3, g4, g5⟩)
      · exact Or.inl g
      · exact Or.inr ⟨Nat.zero_le _, g3, g4, (m1 i).mpr g5⟩
  · intro x
    have eJ : u'.2.2.1 0 = w.2.2.1 0 := by
      rw [← er.2, j19, e17]
      rfl
    rw [eJ, d2 x, kl, k36, k37]
    constructor
    · rintro (g | ⟨j, -, g3, g4, g5⟩)
      · exact Or.inl g
      · exact Or.inr ⟨j, g3, (m1 j).mp g4, g5⟩
    · rintro (g | ⟨j, g3, g4, g5⟩)
      · exact Or.inl g
      · exact Or.inr ⟨j, Nat.zero_le _, g3, (m1 j).mpr g4, g5⟩
