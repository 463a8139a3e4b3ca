/-! Sooner, on both sides. -/
abbrev RM (v0 : SX) (lim : Int) (z2 z3 z4 z5 z6 : Int32) (d f t : Nat) : Prop := RS (PM (TM v0) (LK v0) v0) (v0.1 22).toInt lim (z2.toInt + 1) z3 z4 z5 z6 d f t
theorem so80 {v0 : SX} {lim : Int} {k193 : Int32 → Int32 → Int32 → Int32 → Int32 → Int32 → Int32 → Int32 → SX → Option (Int32 × SX)} {z1 z7 z8 r : Int32} {v' : SX} (hJ0 : IM v0) (hS : SpL v0) (hH : LHn v0 (v0.1 25).toInt) (hb : ∀ e : Nat, (e : Int) < lim → ¬ MetD (TM v0) (LK v0) v0 e) (d0 : 0 ≤ z7.toInt) (d9 : z7.toInt ≤ 120) (f0 : 0 ≤ z8.toInt) (f9 : z8.toInt < (v0.1 22).toInt) (hl9 : lim ≤ 121) : ∀ (n : Nat) (z2 z3 z4 z5 z6 z9 : Int32) (v : SX), VS v0 v → 0 ≤ z9.toInt → z9.toInt ≤ (v0.1 22).toInt → -1 ≤ z2.toInt → RM v0 lim z2 z3 z4 z5 z6 z7.toNatClampNeg z8.toNatClampNeg z9.toNatClampNeg → LX12_sooner_0_80 k193 n z1 z2 z3 z4 z5 z6 z7 z8 z9 v = some (r, v') → ∃ (y2 y3 y4 y5 y6 : Int32) (w : SX), VS v0 w ∧ -1 ≤ y2.toInt ∧ RM v0 lim y2 y3 y4 y5 y6 z7.toNatClampNeg (z8.toNatClampNeg + 1) 0 ∧ k193 z1 y2 y3 y4 y5 y6 z7 z8 w = some (r, v') := by
  intro n
  induction n with
  | zero => intro z2 z3 z4 z5 z6 z9 v _ _ _ _ _ h; cases h
  | succ n ih =>
    intro z2 z3 z4 z5 z6 z9 v hv h0 h9 hz hR h
    have c22 : (v0.1 22).toInt ≤ (8 : Int) := (hJ0.1 22).2
    have e22 : v.1 22 = v0.1 22 := hv.1.2.1 22 (by decide)
    have l2 : z2.toInt + 1 ≤ lim := hR.1
    have h : (if (v.1 22) ≤ z9 then (k193 z1 z2 z3 z4 z5 z6 z7 z8 v) else (if z8 = z9 then (LX12_sooner_0_80 k193 n z1 z2 z3 z4 z5 z6 z7 z8 (z9 + 1) v) else ((fX12_wasSent_0 z8 z9 z7 v).bind fun q => match q with | (r9, u10) => (if r9 = 0 then (gd (inb (u10.1 25) 61) (lt (sA u10 39 (upd (u10.2.1 39) (u10.1 25).toNatClampNeg z8)) fun u13 => (gd (inb (u13.1 25) 61) (lt (sA u13 40 (upd (u13.2.1 40) (u13.1 25).toNatClampNeg z9)) fun u16 => (gd (inb (u16.1 25) 61) (lt (sA u16 41 (upd (u16.2.1 41) (u16.1 25).toNatClampNeg z7)) fun u19 => ((fX12_metBy_0 ((u19.1 25) + 1) z2 u19).bind fun q => match q with | (r21, u22) => (if r21 = (-1) then (LX12_sooner_0_80 k193 n z1 z2 z3 z4 z5 z6 z7 z8 (z9 + 1) u22) else (lt (r21 - 1) fun v24 => (LX12_sooner_0_80 k193 n z1 v24 z8 z9 z7 r21 z7 z8 (z9 + 1) u22)))))))))) else (LX12_sooner_0_80 k193 n z1 z2 z3 z4 z5 z6 z7 z8 (z9 + 1) u10))))) = some (r, v') := h
    have t7 := tn d0
    have t8 := tn f0
    have t9 := tn h0
    by_cases c : v.1 22 ≤ z9
    · rw [if_pos c] at h
      have c9 := leI c
      rw [e22] at c9
      exact ⟨z2, z3, z4, z5, z6, v, hv, hz, RS_nf hR (by omega), h⟩
    · rw [if_neg c] at h
      have c9 := nleI c
      rw [e22] at c9
      have et : (z9 + 1).toInt = z9.toInt + 1 := addc_t (by decide) (by omega) (by omega)
      have en := ns1 h0 (show z9.toInt ≤ 5000 by omega)
      have skip : ∀ w : SX, VS v0 w → (¬ z8.toNatClampNeg = z9.toNatClampNeg → ∀ e : Nat, (e : Int) < z2.toInt + 1 → ¬ PM (TM v0) (LK v0) v0 z7.toNatClampNeg z8.toNatClampNeg z9.toNatClampNeg e) → LX12_sooner_0_80 k193 n z1 z2 z3 z4 z5 z6 z7 z8 (z9 + 1) w = some (r, v') → _ := fun w hw hn g => ih z2 z3 z4 z5 z6 (z9 + 1) w hw (by rw [et]; omega) (by rw [et]; omega) hz (by
        rw [en]
        exact RS_skip hR hn) g
      by_cases c2 : z8 = z9
      · rw [if_pos c2] at h
        exact skip v hv (fun g => absurd (by rw [c2]) g) h
      · rw [if_neg c2] at h
        have hne : ¬ z8.toNatClampNeg = z9.toNatClampNeg := fun g => c2 (Int32.toInt.inj (by omega))
        obtain ⟨⟨r9, u10⟩, a9, h⟩ := bd_some h
        unfold fX12_wasSent_0 at a9
        obtain ⟨e10, k9⟩ := sent3 hv.1.1 5000 0 (by decide) (fun i hi => absurd hi (Nat.not_lt_zero _)) a9
        rw [e10] at h
        have h : (if r9 = 0 then (gd (inb (v.1 25) 61) (lt (sA v 39 (upd (v.2.1 39) (v.1 25).toNatClampNeg z8)) fun u13 => (gd (inb (u13.1 25) 61) (lt (sA u13 40 (upd (u13.2.1 40) (u13.1 25).toNatClampNeg z9)) fun u16 => (gd (inb (u16.1 25) 61) (lt (sA u16 41 (upd (u16.2.1 41) (u16.1 25).toNatClampNeg z7)) fun u19 => ((fX12_metBy_0 ((u19.1 25) + 1) z2 u19).bind fun q => match q with | (r21, u22) => (if r21 = (-1) then (LX12_sooner_0_80 k193 n z1 z2 z3 z4 z5 z6 z7 z8 (z9 + 1) u22) else (lt (r21 - 1) fun v24 => (LX12_sooner_0_80 k193 n z1 v24 z8 z9 z7 r21 z7 z8 (z9 + 1) u22)))))))))) else (LX12_sooner_0_80 k193 n z1 z2 z3 z4 z5 z6 z7 z8 (z9 + 1) v)) = some (r, v') := h
        by_cases c3 : r9 = 0
        · rw [if_pos c3] at h
          obtain ⟨-, h⟩ := gd_some h
          obtain ⟨u13, j13, h⟩ := lt_some h
          obtain ⟨-, h⟩ := gd_some h
          obtain ⟨u16, j16, h⟩ := lt_some h
          obtain ⟨-, h⟩ := gd_some h
          obtain ⟨u19, j19, h⟩ := lt_some h
          have e19 : u19 = slot v z8 z9 z7 := by
            rw [j19, j16, j13]
            rfl
          rw [e19] at h
          obtain ⟨⟨r21, u22⟩, a21, h⟩ := bd_some h
          obtain ⟨v22, f21⟩ := slot_sp hJ0 hv hS hH f0 f9 h0 (by omega) d0 d9 (by omega) (show fX12_metBy_0 (v.1 25 + 1) z2 (slot v z8 z9 z7) = some (r21, u22) from a21)
          have h : (if r21 = (-1) then (LX12_sooner_0_80 k193 n z1 z2 z3 z4 z5 z6 z7 z8 (z9 + 1) u22) else (lt (r21 - 1) fun v24 => (LX12_sooner_0_80 k193 n z1 v24 z8 z9 z7 r21 z7 z8 (z9 + 1) u22))) = some (r, v') := h
          rcases f21 with ⟨p1, p2⟩ | ⟨p1, p2, p3, p4⟩
          · rw [if_pos p1] at h
            exact skip u22 v22 (fun _ e he => p2 e (by omega)) h
          · rw [if_neg (fun z => by
              rw [z] at p1
              exact absurd p1 (by decide))] at h
            obtain ⟨v24, j24, h⟩ := lt_some h
            have e24 : v24.toInt = r21.toInt - 1 := by
              rw [j24]
              exact subc_t (by decide) (by omega) (by omega)
            refine ih v24 z8 z9 z7 r21 (z9 + 1) u22 v22 (by rw [et]; omega) (by rw [et]; omega) (by omega) ?_ h
            rw [en]
            unfold RM
            rw [e24, show r21.toInt - 1 + 1 = r21.toInt by omega]
            exact RS_take hR t8.symm t9.symm t7.symm (by omega) (by omega) hne p1 (by omega) p3 p4
        · rw [if_neg c3] at h
          obtain ⟨i, hi, i1, i2, i3⟩ := k9 c3
          refine skip v hv (fun _ e he g => hb e (by omega) (MetD_mt (fun k x _ => LQ_no (fun hd gk => ?_) e k) g)) h
          have e25 : v.1 25 = v0.1 25 := hv.1.2.1 25 (by decide)
          rw [e25] at hi
          obtain ⟨q1, q2, q3⟩ := hv.2 i hi
          rw [q1] at i1
          rw [q2] at i2
          rw [q3] at i3
          obtain ⟨m, em⟩ : ∃ m, z7.toNatClampNeg = m + 1 := ⟨z7.toNatClampNeg - 1, by omega⟩
          rw [em] at gk ⊢
          exact Or.inr (Or.inr ⟨z8.toNatClampNeg, ⟨i, hi, by rw [i3]; omega, by rw [i1]; omega, by rw [i2]; omega⟩, gk⟩)
theorem so68 {v0 : SX} {lim : Int} {k199 : Int32 → Int32 → Int32 → Int32 → Int32 → Int32 → Int32 → SX → Option (Int32 × SX)} {z1 z7 r : Int32} {v' : SX} (hJ0 : IM v0) (hS : SpL v0) (hH : LHn v0 (v0.1 25).toInt) (hb : ∀ e : Nat, (e : Int) < lim → ¬ MetD (TM v0) (LK v0) v0 e) (d0 : 0 ≤ z7.toInt) (d9 : z7.toInt ≤ 120) (hl9 : lim ≤ 121) : ∀ (n : Nat) (z2 z3 z4 z5 z6 z8 : Int32) (v : SX), VS v0 v → 0 ≤ z8.toInt → z8.toInt ≤ (v0.1 22).toInt → -1 ≤ z2.toInt → RM v0 lim z2 z3 z4 z5 z6 z7.toNatClampNeg z8.toNatClampNeg 0 → LX12_sooner_0_68 k199 n z1 z2 z3 z4 z5 z6 z7 z8 v = some (r, v') → ∃ (y2 y3 y4 y5 y6 : Int32) (w : SX), VS v0 w ∧ -1 ≤ y2.toInt ∧ RM v0 lim y2 y3 y4 y5 y6 (z7.toNatClampNeg + 1) 0 0 ∧ k199 z1 y2 y3 y4 y5 y6 z7 w = some (r, v') := by
  intro n
  induction n with
  | zero => intro z2 z3 z4 z5 z6 z8 v _ _ _ _ _ h; cases h
  | succ n ih =>
    intro z2 z3 z4 z5 z6 z8 v hv h0 h9 hz hR h
    have c22 : (v0.1 22).toInt ≤ (8 : Int) := (hJ0.1 22).2
    have e22 : v.1 22 = v0.1 22 := hv.1.2.1 22 (by decide)
    have h : (if (v.1 22) ≤ z8 then (k199 z1 z2 z3 z4 z5 z6 z7 v) else (LX12_sooner_0_80 (GX12_sooner_0_193 (LX12_sooner_0_68 k199 n)) 5000 z1 z2 z3 z4 z5 z6 z7 z8 0 v)) = some (r, v') := h
    have t8 := tn h0
    by_cases c : v.1 22 ≤ z8
    · rw [if_pos c] at h
      have c9 := leI c
      rw [e22] at c9
      exact ⟨z2, z3, z4, z5, z6, v, hv, hz, RS_nd hR (by omega), h⟩
    · rw [if_neg c] at h
      have c9 := nleI c
      rw [e22] at c9
      have et : (z8 + 1).toInt = z8.toInt + 1 := addc_t (by decide) (by omega) (by omega)
      have en := ns1 h0 (show z8.toInt ≤ 5000 by omega)
      obtain ⟨y2, y3, y4, y5, y6, w, hw, hy, hR1, h⟩ := so80 hJ0 hS hH hb d0 d9 h0 (by omega) hl9 5000 z2 z3 z4 z5 z6 0 v hv (by decide) (Int.le_trans (by decide) (hJ0.1 22).1) hz hR h
      unfold GX12_sooner_0_193 at h
      exact ih y2 y3 y4 y5 y6 (z8 + 1) w hw (by rw [et]; omega) (by rw [et]; omega) hy (by rw [en]; exact hR1) h
theorem so59 {v0 : SX} {lim : Int} {k205 : Int32 → Int32 → Int32 → Int32 → Int32 → SX → Option (Int32 × SX)} {z1 r : Int32} {v' : SX} (hJ0 : IM v0) (hS : SpL v0) (hH : LHn v0 (v0.1 25).toInt) (hb : ∀ e : Nat, (e : Int) < lim → ¬ MetD (TM v0) (LK v0) v0 e) (hl9 : lim ≤ 121) : ∀ (n : Nat) (z2 z3 z4 z5 z6 z7 : Int32) (v : SX), VS v0 v → 0 ≤ z7.toInt → z7.toInt ≤ 121 → -1 ≤ z2.toInt → RM v0 lim z2 z3 z4 z5 z6 z7.toNatClampNeg 0 0 → LX12_sooner_0_59 k205 n z1 z2 z3 z4 z5 z6 z7 v = some (r, v') → ∃ (y3 y4 y5 y6 : Int32) (w : SX), VS v0 w ∧ RA (PM (TM v0) (LK v0) v0) (v0.1 22).toInt lim y3 y4 y5 y6 ∧ k205 z1 y3 y4 y5 y6 w = some (r, v') := by
  intro n
  induction n with
  | zero => intro z2 z3 z4 z5 z6 z7 v _ _ _ _ _ h; cases h
  | succ n ih =>
    intro z2 z3 z4 z5 z6 z7 v hv h0 h9 hz hR h
    have l2 : z2.toInt + 1 ≤ lim := hR.1
    have h : (if z2 < z7 then (k205 z1 z3 z4 z5 z6 v) else (LX12_sooner_0_68 (GX12_sooner_0_199 (LX12_sooner_0_59 k205 n)) 5000 z1 z2 z3 z4 z5 z6 z7 0 v)) = some (r, v') := h
    have t7 := tn h0
    by_cases c : z2 < z7
    · rw [if_pos c] at h
      have c9 := ltI c
      refine ⟨z3, z4, z5, z6, v, hv, RS_all hR (by omega) (fun d f t e hd he g => ?_), h⟩
      exact hb e (by omega) (MetD_mt (fun k x _ => (LQ_lt (by omega) k x).mp) g)
    · rw [if_neg c] at h
      have c9 := nltI c
      have et : (z7 + 1).toInt = z7.toInt + 1 := addc_t (by decide) (by omega) (by omega)
      have en := ns1 h0 (show z7.toInt ≤ 5000 by omega)
      obtain ⟨y2, y3, y4, y5, y6, w, hw, hy, hR1, h⟩ := so68 hJ0 hS hH hb h0 (by omega) hl9 5000 z2 z3 z4 z5 z6 0 v hv (by decide) (Int.le_trans (by decide) (hJ0.1 22).1) hz hR h
      unfold GX12_sooner_0_199 at h
      exact ih y2 y3 y4 y5 y6 (z7 + 1) w hw (by rw [et]; omega) (by rw [et]; omega) hy (by rw [en]; exact hR1) h
theorem SL_39 {u w : SX} {md : MD} (s : FrM md u w) (c : ((!md.1.contains 38) && ((!md.1.contains 0) && !md.2.1.contains 62)) = true) (h : SL u) : SL w := by
  simp only [Bool.and_eq_true] at c
  unfold SL at h ⊢
  rw [s.1 38 (not_b c.1), s.1 0 (not_b c.2.1), s.2.1 62 (not_b c.2.2)]
  exact h
theorem TieK_39 {u v w : SX} (s : VS v w) (hK : TieK u v) : TieK u w := by
  obtain ⟨k1, kb, kc, km⟩ := hK
  have e25 : w.1 25 = v.1 25 := s.1.2.1 25 (by decide)
  have eT := TM_39 s.1
  have eL : LK w = LK v := by
    funext d f h
    unfold LK
    rw [e25]
    exact propext (LMn_up s.2)
  refine ⟨by rw [eT, eL]; exact k1, by rw [eT, eL]; exact kb, ?_, ?_⟩
  · rw [e25]
    intro i hi
    rw [(s.2 i hi).1, s.1.2.1 22 (by decide)]
    exact kc i hi
  · unfold TieM MT at km ⊢
    rw [s.1.2.1 23 (by decide), s.1.2.1 24 (by decide), s.1.2.2.1 36 (by decide), s.1.2.2.1 37 (by decide)]
    exact km
theorem TieK_7 {u w v : SX} (s : StX md7 u w) (hK : TieK u v) : TieK w v := by
  obtain ⟨k1, kb, kc, km⟩ := hK
  refine ⟨HTL_fr (s.2.1 38 (by decide)) (s.2.2.1 59 (by decide)) (s.2.2.1 60 (by decide)) (s.2.2.1 61 (by decide)) (s.2.2.1 62 (by decide)) (s.2.2.2.2.1 69 (by decide)) k1, ?_, kc, TieM_fr (s.2.2.2.2.1 68 (by decide)) (s.2.2.2.1 0 (by decide)) (s.2.1 37 (by decide)) (s.2.2.1 66 (by decide)) (s.2.2.1 67 (by decide)) km⟩
  rw [s.2.1 39 (by decide)]
  intro d hd k x hk
  have := kb d hd k x hk
  unfold ro at this ⊢
  rw [s.2.2.2.2.1 70 (by decide)]
  exact this
theorem sooner_eq {x1 r r' : Int32} {u u' v v' : SX} (hI : IX u) (hJ : IM v) (ht : Tie u v) (hR : TieR u v) (hK : TieK u v) (hL : SL u) (h1 : fX11_sooner_0 x1 u = some (r, u')) (h2 : fX12_sooner_0 x1 v = some (r', v')) : r = r' ∧ TieK u' v' ∧ SL u' := by
  obtain ⟨t0, t1, t2, t3, t4, t5⟩ := id ht
  have bn : (0 : Int) ≤ (u.1 0).toInt := (hI.1 0).1
  have bn9 : (u.1 0).toInt ≤ (120 : Int) := (hI.1 0).2
  unfold fX11_sooner_0 at h1
  unfold fX12_sooner_0 at h2
  obtain ⟨v1, j1, h2⟩ := lt_some h2
  have sv : StM ([0], [], [], []) v v1 := by
    rw [j1]
    exact StM_sI (StM_rf hJ) (by decide) (by decide) (by decide)
  have K1 : TieK u v1 := TieK_fr (mx := ([], [], [], [])) FrM_rf sv.2 (by decide) hK
  have T1 : Tie u v1 := by
    rw [j1]
    exact ht
  have R1 : TieR u v1 := by
    rw [j1]
    exact hR
  have q1 : v1.1 1 = u.1 0 := T1.1.symm
  have J1 := sv.1
  have S1 := SpL_of T1 R1 K1.2.2.2
  clear j1 sv
  obtain ⟨s1, a1, h1⟩ := bd_some h1
  obtain ⟨s3, a3, h2⟩ := bd_some h2
  have e13 : s1 = s3 := Option.some.inj (a1.symm.trans (show fX11_within x1 0 3 = some s3 from a3))
  rw [← e13] at h2
  by_cases c1 : s1 = 0
  · rw [if_pos c1] at h1 h2
    cases h1
    cases h2
    exact ⟨rfl, K1, hL⟩
  rw [if_neg c1] at h1 h2
  obtain ⟨⟨r4, u5⟩, a4, h1⟩ := bd_some h1
  obtain ⟨K5, s5, -, V5⟩ := TieK_set hI K1 bn bn9 a4
  have L5 : SL u5 := SL_39 s5.2 (by decide) hL
  have w0 : u5.1 0 = u.1 0 := s5.2.1 0 (by decide)
  have w35 : u5.1 35 = u.1 35 := s5.2.1 35 (by decide)
  have w36 : u5.1 36 = u.1 36 := s5.2.1 36 (by decide)
  obtain ⟨⟨r7, u8⟩, a7, h1⟩ := bd_some h1
  unfold fX4_firstDay_12 at a7
  have tN := tn bn
  obtain ⟨e8, f1⟩ := fst2 s5.1 (w36.trans T1.2.2.1) (w35.trans T1.2.1) K5.2.2.2 K5.1 (by rw [w0]; exact bn9) (fun d hd => V5 d (by rw [w0] at hd; omega)) 5000 0 (by decide) (by decide) (fun d hd => absurd hd (Nat.not_lt_zero _)) a7
  rw [e8] at h1
  rw [w0] at f1
  have b25 : (0 : Int) ≤ (v1.1 25).toInt := (J1.1 25).1
  have c25 : (v1.1 25).toInt ≤ (60 : Int) := (J1.1 25).2
  obtain ⟨⟨r6, v7⟩, a6, h2⟩ := bd_some h2
  obtain ⟨s7, f2⟩ := metBy_sp (n0 := (v1.1 25).toInt) J1 S1 rfl b25 (by omega) (by rw [q1]; exact bn9) K1.2.2.1 a6
  have f2 : First (MetD (TM v1) (LK v1) v1) (v1.1 1).toInt r6 := f2
  rw [q1] at f2
  have e67 : r7 = r6 := First_uq f1 f2
  have V7 : VS v1 v7 := VS_ps (VS_rf J1) s7
  have X5 : XC (TM v1) (LK v1) v1 u5 := ⟨s5.1, K5.1, L5, K5.2.2.2, w36.trans T1.2.2.1, w35.trans T1.2.1, fun e he => V5 e (by rw [w0] at he; omega)⟩
  have main : ∀ (y0 y1 : Int32), y0.toInt = y1.toInt + 1 → -1 ≤ y1.toInt → y0.toInt ≤ (u.1 0).toInt + 1 → (∀ e : Nat, (e : Int) < y0.toInt → ¬ MetD (TM v1) (LK v1) v1 e) → GX11_sooner_0_53 x1 y0 u5 = some (r, u') → GX12_sooner_0_44 x1 y1 v7 = some (r', v') → r = r' ∧ TieK u' v' ∧ SL u' := by
    intro y0 y1 ey hy hy9 hb g1 g2
    unfold GX11_sooner_0_53 at g1
    obtain ⟨⟨r10, u11⟩, a10, g1⟩ := bd_some g1
    obtain ⟨s11, ra⟩ := search_sp X5 hb (by rw [w0]; exact hy9) a10
    unfold GX12_sooner_0_44 at g2
    obtain ⟨z3, z4, z5, z6, w, vw, rm, g2⟩ := so59 J1 S1 K1.2.2.1 hb (by omega) 5000 y1 (-1) (-1) (-1) (-1) 0 v7 V7 (by decide) (by decide) hy (by
      unfold RM
      rw [← ey]
      refine ⟨Int.le_refl _, fun d f t hl => ?_, Or.inl ⟨rfl, rfl, rfl, rfl, rfl⟩⟩
      have n0 : (0 : Int32).toNatClampNeg = 0 := rfl
      unfold Lx at hl
      omega) g2
    rw [w35, show u.1 35 = v1.1 22 from T1.2.1] at ra
    obtain ⟨p1, p2, p3, p4⟩ := RA_uq ra rm
    unfold GX12_sooner_0_205 at g2
    have g1 : (if x1 = 0 then (some (u11.1 40, u11)) else (if x1 = 1 then (some (u11.1 41, u11)) else (if x1 = 2 then (some (u11.1 42, u11)) else (some (u11.1 43, u11))))) = some (r, u') := g1
    rw [p1, p2, p3, p4] at g1
    have ev : v' = w ∧ u' = u11 ∧ r = r' := by
      by_cases d0 : x1 = 0
      · rw [if_pos d0] at g1 g2
        cases g1
        cases g2
        exact ⟨rfl, rfl, rfl⟩
      · rw [if_neg d0] at g1 g2
        by_cases d1 : x1 = 1
        · rw [if_pos d1] at g1 g2
          cases g1
          cases g2
          exact ⟨rfl, rfl, rfl⟩
        · rw [if_neg d1] at g1 g2
          by_cases d2 : x1 = 2
          · rw [if_pos d2] at g1 g2
            cases g1
            cases g2
            exact ⟨rfl, rfl, rfl⟩
          · rw [if_neg d2] at g1 g2
            cases g1
            cases g2
            exact ⟨rfl, rfl, rfl⟩
    rw [ev.1, ev.2.1]
    exact ⟨ev.2.2, TieK_39 vw (TieK_7 s11 K5), SL_39 s11.2 (by decide) L5⟩
  have h1 : (if r7 = (-1) then (GX11_sooner_0_53 x1 ((u5.1 0) + 1) u5) else (GX11_sooner_0_53 x1 r7 u5)) = some (r, u') := h1
  have h2 : (if r6 = (-1) then (GX12_sooner_0_44 x1 (v7.1 1) v7) else (GX12_sooner_0_44 x1 (r6 - 1) v7)) = some (r', v') := h2
  rw [← e67] at h2
  rcases f1 with ⟨p1, p2⟩ | ⟨p1, p2, p3, p4⟩
  · rw [if_pos p1] at h1 h2
    have ev : v7.1 1 = u.1 0 := (s7.2.1 1 (by decide)).trans q1
    rw [ev] at h2
    rw [w0] at h1
    have ea : (u.1 0 + 1).toInt = (u.1 0).toInt + 1 := addc_t (by decide) (by omega) (by omega)
    exact main (u.1 0 + 1) (u.1 0) ea (by omega) (by omega) (fun e he => p2 e (by omega)) h1 h2
  · have n1 : ¬ r7 = -1 := fun z => by
      rw [z] at p1
      exact absurd p1 (by decide)
    rw [if_neg n1] at h1 h2
    have es : (r7 - 1).toInt = r7.toInt - 1 := subc_t (by decide) (by omega) (by omega)
    exact main r7 (r7 - 1) (by omega) (by omega) (by omega) p4 h1 h2
