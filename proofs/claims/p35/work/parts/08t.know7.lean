/-! Whether a house knows one. -/
theorem KV_of {u v : SX} (hK : TieK u v) : HTL (TM v) (LK v) u ∧ ∀ d : Nat, d < (u.1 39).toNatClampNeg → KV (TM v) (LK v) u d := ⟨hK.1, hK.2.1⟩
theorem TieK_set {x1 r : Int32} {u u' v : SX} (hI : IX u) (hK : TieK u v) (h0 : 0 ≤ x1.toInt) (h9 : x1.toInt ≤ 120) (h : fX2_settle_11 x1 u = some (r, u')) : TieK u' v ∧ StX mdX2_settle_11 u u' ∧ x1.toInt < (u'.1 39).toInt ∧ ∀ d : Nat, d ≤ x1.toNatClampNeg → KV (TM v) (LK v) u' d := by
  obtain ⟨s, q1, q2, q3⟩ := settle_sp hI hK.1 hK.2.1 h0 h9 h
  refine ⟨⟨HTL_fr (s.2.1 38 (by decide)) (s.2.2.1 59 (by decide)) (s.2.2.1 60 (by decide)) (s.2.2.1 61 (by decide)) (s.2.2.1 62 (by decide)) (s.2.2.2.2.1 69 (by decide)) hK.1, q1, hK.2.2.1, ?_⟩, s, q2, q3⟩
  have k4 := hK.2.2.2
  unfold TieM at k4 ⊢
  rw [s.2.2.2.2.1 68 (by decide), s.2.2.2.1 0 (by decide), s.2.1 37 (by decide), s.2.2.1 66 (by decide), s.2.2.1 67 (by decide)]
  exact k4
theorem knows_X {z1 z3 z4 r : Int32} {T L : Nat → Nat → Nat → Prop} {u u' : SX} (a0 : 0 ≤ z1.toInt) (a9 : z1.toInt < 8) (d0 : 0 ≤ z4.toInt) (d9 : z4.toInt ≤ 120) (b0 : 0 ≤ z3.toInt) (b9 : z3.toInt < 64) (hV : KV T L u z4.toNatClampNeg) (h : GX11_knows_0_81 z1 z4 (bp z3) u = some (r, u')) : u' = u ∧ ((r = 1 ∧ Kn T L z4.toNatClampNeg z1.toNatClampNeg z3.toNatClampNeg) ∨ (r = 0 ∧ ¬ Kn T L z4.toNatClampNeg z1.toNatClampNeg z3.toNatClampNeg)) := by
  unfold GX11_knows_0_81 at h
  obtain ⟨⟨w, u1⟩, a1, h⟩ := bd_some h
  obtain ⟨e1, k1⟩ := kb_sp a0 a9 d9 a1
  rw [e1] at h
  have h : (if (lg_cmp (w &&& bp z3) 0) = 0 then some ((0 : Int32), u) else some (1, u)) = some (r, u') := h
  have ta := tn a0
  have ew : w = ro u z4.toNatClampNeg z1.toNatClampNeg := by
    rcases k1 with ⟨-, k⟩ | ⟨k, -⟩
    · exact k
    · omega
  have kv := hV z1.toNatClampNeg z3.toNatClampNeg (by omega)
  rw [← ew] at kv
  by_cases c : lg_cmp (w &&& bp z3) 0 = 0
  · rw [if_pos c] at h
    have n := (and_p b0 b9).mp (lgc0.mp c)
    cases h
    exact ⟨rfl, Or.inr ⟨rfl, fun g => n (kv.mpr g)⟩⟩
  · rw [if_neg c] at h
    cases h
    refine ⟨rfl, Or.inl ⟨rfl, kv.mp (Classical.byContradiction fun g => c ?_)⟩⟩
    rw [lgc0, and_p b0 b9]
    exact g
theorem knows_M {z1 z3 r : Int32} {T L : Nat → Nat → Nat → Prop} {v v' : SX} (a0 : 0 ≤ z1.toInt) (a9 : z1.toInt < (v.1 22).toInt) (c9 : (v.1 22).toInt ≤ 8) (b0 : 0 ≤ z3.toInt) (b9 : z3.toInt < 60) {d : Nat} (hW : KW T L v (d + 1)) (h : GX12_knows_0_103 z3 (60 * z1) v = some (r, v')) : v' = v ∧ ((r = 1 ∧ Kn T L d z1.toNatClampNeg z3.toNatClampNeg) ∨ (r = 0 ∧ ¬ Kn T L d z1.toNatClampNeg z3.toNatClampNeg)) := by
  unfold GX12_knows_0_103 at h
  obtain ⟨-, h⟩ := gd_some h
  rw [ix60 a0 (by omega) b0 b9] at h
  have ta := tn a0
  have tb := tn b0
  have kw := hW z1.toNatClampNeg z3.toNatClampNeg (by omega) (by omega)
  rw [show d + 1 - 1 = d from rfl] at kw
  unfold kn at kw
  by_cases c : v.2.1 42 (60 * z1.toNatClampNeg + z3.toNatClampNeg) = 0
  · rw [if_pos c] at h
    cases h
    exact ⟨rfl, Or.inr ⟨rfl, fun g => absurd c (kw.mpr ⟨by omega, g⟩)⟩⟩
  · rw [if_neg c] at h
    cases h
    exact ⟨rfl, Or.inl ⟨rfl, (kw.mp c).2⟩⟩
theorem knows_eq {x1 x2 x3 x4 r r' : Int32} {u u' v v' : SX} (hI : IX u) (hJ : IM v) (ht : Tie u v) (hK : TieK u v) (h1 : fX11_knows_0 x1 x2 x3 x4 u = some (r, u')) (h2 : fX12_knows_0 x1 x2 x3 x4 v = some (r', v')) : r = r' ∧ TieK u' v := by
  obtain ⟨t0, t1, t2, t3, t4, t5⟩ := ht
  unfold fX11_knows_0 at h1
  unfold fX12_knows_0 at h2
  obtain ⟨v1, e1, h2⟩ := lt_some h2
  have s1 : StM ([0], [], [], []) v v1 := by
    rw [e1]
    exact StM_sI (StM_rf hJ) (by decide) (by decide) (by decide)
  have J1 := s1.1
  have f0 : v1.1 1 = u.1 0 := by rw [e1, t0]; rfl
  have f1 : u.1 35 = v1.1 22 := by rw [e1]; exact t1
  have f2 : v1.1 23 = u.1 36 := by rw [e1]; exact t2.symm
  have f3 : v1.1 24 = u.1 37 := by rw [e1]; exact t3.symm
  have K1 : TieK u v1 := TieK_fr (mx := ([], [], [], [])) FrM_rf s1.2 (by decide) hK
  have eT : TM v1 = TM v := by
    rw [e1]
    rfl
  have eL : LK v1 = LK v := by
    rw [e1]
    rfl
  have b36 : (u.1 36).toInt ≤ (40 : Int) := (hI.1 36).2
  have b37 : (u.1 37).toInt ≤ (20 : Int) := (hI.1 37).2
  have b35 : (u.1 35).toInt ≤ (8 : Int) := (hI.1 35).2
  have bn : (u.1 0).toInt ≤ (120 : Int) := (hI.1 0).2
  have z36 : (0 : Int) ≤ (u.1 36).toInt := (hI.1 36).1
  have z37 : (0 : Int) ≤ (u.1 37).toInt := (hI.1 37).1
  have hd : ∀ (y0 xb : Int32) (sel : Bool), (if sel then x2 = 0 else ¬ x2 = 0) → xb = (if sel then x3 else 40 + x3) → y0 = (if sel then u.1 36 else u.1 37) → GX11_knows_0_21 x1 x2 x3 x4 y0 u = some (r, u') → ((fX12_isHouse_0 x1 v1).bind fun q => match q with | (r3, u4) => (if r3 = 0 then (some ((-1), u4)) else GX12_knows_0_30 x1 x2 x3 x4 y0 0 x3 u4)) = some (r', v') → r = r' ∧ TieK u' v := by
    intro y0 xb sel hsel hxb hy0 g1 g2
    unfold GX11_knows_0_21 at g1
    obtain ⟨⟨r1, u2⟩, a1, g1⟩ := bd_some g1
    obtain ⟨⟨r3, v4⟩, a3, g2⟩ := bd_some g2
    obtain ⟨i0, i1, i2, i3⟩ := has_eq f1 a1 a3
    rw [i0] at g1
    rw [i1, ← i2] at g2
    have g1 : (if r1 = 0 then _ else _) = some (r, u') := g1
    have g2 : (if r1 = 0 then _ else _) = some (r', v') := g2
    by_cases c1 : r1 = 0
    · rw [if_pos c1] at g1 g2
      cases g1
      cases g2
      exact ⟨rfl, hK⟩
    · rw [if_neg c1] at g1 g2
      obtain ⟨h10, h19⟩ := i3 c1
      unfold GX12_knows_0_30 at g2
      obtain ⟨r4, a4, g1⟩ := bd_some g1
      obtain ⟨r6, a6, g2⟩ := bd_some g2
      have e46 : r4 = r6 := Option.some.inj (a4.symm.trans (show fX11_within x3 0 (y0 - 1) = some r6 from a6))
      rw [← e46] at g2
      have hy9 : (y0 - 1).toInt = y0.toInt - 1 := by
        refine subc_t (by decide) ?_ ?_
        · rw [hy0]
          cases sel
          · show _ ≤ (u.1 37).toInt - 1
            omega
          · show _ ≤ (u.1 36).toInt - 1
            omega
        · rw [hy0]
          cases sel
          · show (u.1 37).toInt - 1 ≤ _
            omega
          · show (u.1 36).toInt - 1 ≤ _
            omega
      rcases win a4 with ⟨z4, w4⟩ | ⟨z4, w40, w49⟩
      · rw [if_pos z4] at g1 g2
        cases g1
        cases g2
        exact ⟨rfl, hK⟩
      · rw [if_neg (ne01 z4)] at g1 g2
        rw [hy9] at w49
        have w40 : (0 : Int) ≤ x3.toInt := w40
        obtain ⟨⟨r7, u8⟩, a7, g1⟩ := bd_some g1
        obtain ⟨r9, a9, g2⟩ := bd_some g2
        obtain ⟨e8, k7⟩ := isDayi a7
        rw [e8] at g1
        have g1 : (if r7 = 0 then _ else _) = some (r, u') := g1
        rw [f0] at a9
        rcases k7 with ⟨z7, k7⟩ | ⟨z7, k70, k79⟩
        · rw [if_pos z7] at g1
          rcases inn a9 with ⟨z9, -⟩ | ⟨z9, w9, w99⟩
          · rw [if_pos z9] at g2
            cases g1
            cases g2
            exact ⟨rfl, hK⟩
          · exact absurd ⟨w9, w99⟩ k7
        · rw [if_neg (ne01 z7)] at g1
          rcases inn a9 with ⟨z9, w9⟩ | ⟨z9, -⟩
          · exact absurd ⟨k70, k79⟩ w9
          · rw [if_neg (ne01 z9)] at g2
            have xb0 : 0 ≤ xb.toInt ∧ xb.toInt < 60 := by
              cases sel with
              | true =>
                have e : xb = x3 := hxb
                have ey : y0 = u.1 36 := hy0
                rw [ey] at w49
                rw [e]
                omega
              | false =>
                have e : xb = 40 + x3 := hxb
                have ey : y0 = u.1 37 := hy0
                rw [ey] at w49
                have e2 : (40 + x3).toInt = 40 + x3.toInt := by
                  have c : (40 : Int32).toInt = 40 := by decide
                  rw [add_t (by rw [c]; omega) (by rw [c]; omega), c]
                rw [e, e2]
                omega
            obtain ⟨⟨r10, u11⟩, a10, g1⟩ := bd_some g1
            obtain ⟨⟨r12, v13⟩, a12, g2⟩ := bd_some g2
            have g1 : (if x2 = 0 then ((fX2_printBit x3).bind fun r13 => (GX11_knows_0_81 x1 x4 r13 u11)) else ((fX2_paperBit x3).bind fun r19 => (GX11_knows_0_81 x1 x4 r19 u11))) = some (r, u') := g1
            obtain ⟨K11, s11, -, V11⟩ := TieK_set hI hK k70 (by omega) a10
            have g1 : GX11_knows_0_81 x1 x4 (bp xb) u11 = some (r, u') := by
              cases sel with
              | true =>
                have hs : x2 = 0 := hsel
                have e : xb = x3 := hxb
                rw [if_pos hs] at g1
                rw [e]
                exact g1
              | false =>
                have hs : ¬ x2 = 0 := hsel
                have e : xb = 40 + x3 := hxb
                rw [if_neg hs] at g1
                rw [e]
                exact g1
            obtain ⟨eu, kx⟩ := knows_X h10 (by omega) k70 (by omega) xb0.1 (by omega) (V11 _ (Nat.le_refl _)) g1
            obtain ⟨s13, W13⟩ := KW_0 (T := TM v) (L := LK v) J1 a12
            have s13' : StM mdX12_passes_0 v1 v13 := ⟨s13.1, FrM_tr FrM_rf s13.2 (by decide)⟩
            have e13 : v13.1 25 = v1.1 25 := s13.2.1 25 (by decide)
            have e25 : v1.1 25 = v.1 25 := by rw [e1]; rfl
            have t4 := tn k70
            obtain ⟨w, sw, Ww, bw⟩ := kno60 (n0 := (v.1 25).toInt) (T := TM v) (L := LK v) (by omega) 5000 0 v13 s13.1 (LHn_fr s13' (by have := K1.2.2.1; rw [e25] at this; exact this)) (by rw [e13, e25]) ((TM_fr s13').trans eT) ((LMn_fr s13').trans (by
              have := eL
              unfold LK at this
              rw [e25] at this
              exact this)) (by decide) (by show (0 : Int) ≤ _; omega) W13 g2
            have w22 : w.1 22 = v1.1 22 := (sw.2.1 22 (by decide)).trans (s13.2.1 22 (by decide))
            have bw : GX12_knows_0_103 xb (60 * x1) w = some (r', v') := by
              unfold GX12_knows_0_83 at bw
              cases sel with
              | true =>
                have hs : x2 = 0 := hsel
                have e : xb = x3 := hxb
                rw [if_pos hs] at bw
                rw [e]
                exact bw
              | false =>
                have hs : ¬ x2 = 0 := hsel
                have e : xb = 40 + x3 := hxb
                rw [if_neg hs] at bw
                rw [e]
                exact bw
            have eW : (x4.toInt + 1).toNat = x4.toNatClampNeg + 1 := by omega
            rw [eW] at Ww
            obtain ⟨-, km⟩ := knows_M h10 (by rw [w22, ← f1]; exact h19) (by rw [w22, ← f1]; exact b35) xb0.1 xb0.2 Ww bw
            refine ⟨?_, by rw [eu]; exact K11⟩
            rcases kx with ⟨p1, p2⟩ | ⟨p1, p2⟩
            · rcases km with ⟨q1, q2⟩ | ⟨q1, q2⟩
              · rw [p1, q1]
              · exact absurd p2 q2
            · rcases km with ⟨q1, q2⟩ | ⟨q1, q2⟩
              · exact absurd q2 p2
              · rw [p1, q1]
  by_cases c : x2 = 0
  · rw [if_pos c] at h1
    refine hd (u.1 36) x3 true (by rw [if_pos rfl]; exact c) rfl rfl h1 ?_
    obtain ⟨⟨r3, v4⟩, a3, h2⟩ := bd_some h2
    obtain ⟨⟨q1, q2⟩, a1⟩ : ∃ q, fX2_has_11 x1 u = some q := by
      unfold GX11_knows_0_21 at h1
      obtain ⟨q, a, -⟩ := bd_some h1
      exact ⟨q, a⟩
    obtain ⟨-, i1, -⟩ := has_eq f1 a1 a3
    rw [a3, i1]
    rw [i1] at h2
    have h2 : (if r3 = 0 then (some ((-1), v1)) else (if x2 = 0 then (GX12_knows_0_30 x1 x2 x3 x4 (v1.1 23) 0 x3 v1) else (GX12_knows_0_30 x1 x2 x3 x4 (v1.1 24) 0 x3 v1))) = some (r', v') := h2
    rw [if_pos c, f2] at h2
    exact h2
  · rw [if_neg c] at h1
    refine hd (u.1 37) (40 + x3) false (by rw [if_neg (by decide)]; exact c) rfl rfl h1 ?_
    obtain ⟨⟨r3, v4⟩, a3, h2⟩ := bd_some h2
    obtain ⟨⟨q1, q2⟩, a1⟩ : ∃ q, fX2_has_11 x1 u = some q := by
      unfold GX11_knows_0_21 at h1
      obtain ⟨q, a, -⟩ := bd_some h1
      exact ⟨q, a⟩
    obtain ⟨-, i1, -⟩ := has_eq f1 a1 a3
    rw [a3, i1]
    rw [i1] at h2
    have h2 : (if r3 = 0 then (some ((-1), v1)) else (if x2 = 0 then (GX12_knows_0_30 x1 x2 x3 x4 (v1.1 23) 0 x3 v1) else (GX12_knows_0_30 x1 x2 x3 x4 (v1.1 24) 0 x3 v1))) = some (r', v') := h2
    rw [if_neg c, f3] at h2
    exact h2
