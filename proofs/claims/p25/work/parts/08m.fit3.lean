/-! Fits: the reference's side. -/
theorem nar01 : vp_nar .boolean (0 : Int32) = 0 ∧ vp_nar .boolean (1 : Int32) = 1 := by decide
theorem lf_58 {k126 : Int32 → Int32 → Int32 → SX → Option (Int32 × SX)} {z1 z2 z3 r : Int32} {u v' : SX} {S : Nat → Int32 × Int32} {Lz : Int32 × Int32} {P0 : Int32 → Prop} (hI : IX u) (g0 : 0 ≤ z1.toInt) (g1 : z1.toInt < (u.1 6).toInt) (r0 : 0 ≤ z3.toInt) (r1 : z3.toInt < (u.1 13).toInt) : ∀ (n : Nat) (z4 : Int32) (v : SX), MR u v → SPv u S v → (v.1 16, v.1 17) = Lz → 0 ≤ z4.toInt → (∀ a : Int32, 0 ≤ a.toInt → a.toInt ≤ 60 → (¬ v.2.1 34 a.toNatClampNeg = 0 ↔ (P0 a ∧ (a.toInt < z4.toInt → (Lz.1 ≤ gv u z1.toNatClampNeg (u.2.1 36 (6 * z3.toNatClampNeg + 5)) a ∧ gv u z1.toNatClampNeg (u.2.1 36 (6 * z3.toNatClampNeg + 5)) a ≤ Lz.2))))) → LX12_layFits_0_58 k126 n z1 z2 z3 z4 v = some (r, v') → ∃ w : SX, MR u w ∧ SPv u S w ∧ FrM mdX12_layFits_0 v w ∧ (∀ a : Int32, 0 ≤ a.toInt → a.toInt ≤ 60 → (¬ w.2.1 34 a.toNatClampNeg = 0 ↔ (P0 a ∧ (Lz.1 ≤ gv u z1.toNatClampNeg (u.2.1 36 (6 * z3.toNatClampNeg + 5)) a ∧ gv u z1.toNatClampNeg (u.2.1 36 (6 * z3.toNatClampNeg + 5)) a ≤ Lz.2)))) ∧ k126 z1 z2 z3 w = some (r, v') := by
  intro n
  induction n with
  | zero => intro z4 v _ _ _ _ _ h; cases h
  | succ n ih =>
    intro z4 v hM hS e16 h0 hp g
    have b13 : (u.1 13).toInt ≤ (80 : Int) := (hI.1 13).2
    have rn : z3.toNatClampNeg = z3.toInt.toNat := rfl
    have g : (if 61 ≤ z4 then (k126 z1 z2 z3 v) else ((fX12_aimOf_0 z3 5 v).bind fun q => match q with | (r11, u12) => ((fX12_guessWorth_0 z1 z4 r11 u12).bind fun q => match q with | (r14, u15) => (gd (inb z4 61) (if (u15.2.1 34 z4.toNatClampNeg) = 0 then (GX12_layFits_0_118 (LX12_layFits_0_58 k126 n) z1 z2 z3 z4 z4 u15) else (if r14 < (u15.1 16) then (GX12_layFits_0_118 (LX12_layFits_0_58 k126 n) z1 z2 z3 z4 z4 u15) else (if (u15.1 17) < r14 then (GX12_layFits_0_118 (LX12_layFits_0_58 k126 n) z1 z2 z3 z4 z4 u15) else (GX12_layFits_0_119 (LX12_layFits_0_58 k126 n) z1 z2 z3 z4 1 z4 u15)))))))) = some (r, v') := g
    by_cases c : 61 ≤ z4
    · rw [if_pos c] at g
      have c9 : (61 : Int) ≤ z4.toInt := leI c
      refine ⟨v, hM, hS, FrM_rf, fun a a0 a1 => (hp a a0 a1).trans ⟨fun q => ⟨q.1, q.2 (by omega)⟩, fun q => ⟨q.1, fun _ => q.2⟩⟩, g⟩
    · rw [if_neg c] at g
      have c9 : ¬ (61 : Int) ≤ z4.toInt := nleI c
      have et : (z4 + 1).toInt = z4.toInt + 1 := addc_t (by decide) (by omega) (by omega)
      obtain ⟨⟨r11, u12⟩, a11, g⟩ := bd_some g
      obtain ⟨-, -, -, d, a, hh, e, w, l, ⟨bd, ba, bh, be, bw, bl⟩, qa, qm⟩ := hM.2.2.2.2.1 z3.toNatClampNeg (by rw [rn]; omega)
      obtain ⟨-, -, -, -, -, m5⟩ := aimOfM (x := z3) rfl r0 (by omega) qm
      obtain ⟨e11, f12⟩ := m5 _ _ a11
      have el : u.2.1 36 (6 * z3.toNatClampNeg + 5) = l := qa.2.2.2.2.2
      rw [el] at hp ⊢
      rw [f12, e11] at g
      obtain ⟨⟨r14, u15⟩, a14, g⟩ := bd_some g
      obtain ⟨er, -, s15⟩ := guessM hI hM.1 hM.2.2.2.1 g0 g1 ⟨h0, by omega⟩ bl a14
      have M15 := MR_md s15.1 s15.2 (by decide) hM
      have S15 : SPv u S u15 := SPv_fr (s15.2.2.1 16 (by decide)) (s15.2.2.1 17 (by decide)) hS
      have e16' : (u15.1 16, u15.1 17) = Lz := by rw [s15.2.1 16 (by decide), s15.2.1 17 (by decide)]; exact e16
      have k16 : u15.1 16 = Lz.1 := congrArg Prod.fst e16'
      have k17 : u15.1 17 = Lz.2 := congrArg Prod.snd e16'
      have k34 : u15.2.1 34 = v.2.1 34 := s15.2.2.1 34 (by decide)
      obtain ⟨-, g⟩ := gd_some g
      rw [k34, k16, k17] at g
      have fin : ∀ y0 : Int32, (y0 = 0 ∨ y0 = 1) → (y0 = 1 ↔ (P0 z4 ∧ (Lz.1 ≤ r14 ∧ r14 ≤ Lz.2))) → GX12_layFits_0_119 (LX12_layFits_0_58 k126 n) z1 z2 z3 z4 y0 z4 u15 = some (r, v') → ∃ w : SX, MR u w ∧ SPv u S w ∧ FrM mdX12_layFits_0 v w ∧ (∀ a : Int32, 0 ≤ a.toInt → a.toInt ≤ 60 → (¬ w.2.1 34 a.toNatClampNeg = 0 ↔ (P0 a ∧ (Lz.1 ≤ gv u z1.toNatClampNeg l a ∧ gv u z1.toNatClampNeg l a ≤ Lz.2)))) ∧ k126 z1 z2 z3 w = some (r, v') := fun y0 hy01 hy k => by
        unfold GX12_layFits_0_119 at k
        obtain ⟨-, k⟩ := gd_some k
        obtain ⟨u19, i19, k⟩ := lt_some k
        have ny : vp_nar .boolean y0 = y0 := by
          rcases hy01 with z | z
          · rw [z]; exact nar01.1
          · rw [z]; exact nar01.2
        rw [ny] at i19
        have F19 : FrM ([], [34], [], []) u15 u19 := by
          rw [i19]
          exact FrM_sA FrM_rf (by decide)
        have J19 : IM u19 := by
          rw [i19]
          have w0 : rlM 34 ≤ y0.toInt ∧ y0.toInt ≤ rhM 34 := by
            rcases hy01 with z | z
            · rw [z]; decide
            · rw [z]; decide
          exact (StM_sA (md := ([], [34], [], [])) (StM_rf M15.1) (by decide) w0.1 w0.2 (by decide)).1
        have k19 : u19.2.1 34 = upd (v.2.1 34) z4.toNatClampNeg y0 := by
          rw [i19]
          show upd (u15.2.1 34) _ _ = _
          rw [k34]
        obtain ⟨w', q1, q2, q3, q4, q5⟩ := ih (z4 + 1) u19 (MR_md J19 F19 (by decide) M15) (SPv_fr (F19.2.1 16 (by decide)) (F19.2.1 17 (by decide)) S15) (by rw [F19.1 16 (by decide), F19.1 17 (by decide)]; exact e16') (by rw [et]; omega) (fun a a0 a1 => by
          rw [et, k19, el]
          by_cases ca : a = z4
          · rw [ca, upd_at]
            have y1 : ¬ y0 = 0 ↔ y0 = 1 := by
              rcases hy01 with z | z
              · rw [z]; exact ⟨fun h => absurd rfl h, fun h => absurd h (by decide)⟩
              · rw [z]; exact ⟨fun _ => rfl, fun _ => by decide⟩
            rw [y1, hy, er]
            exact ⟨fun q => ⟨q.1, fun _ => q.2⟩, fun q => ⟨q.1, q.2 (by omega)⟩⟩
          · have na : ¬ a.toInt = z4.toInt := neI ca
            rw [upd_ne (by show ¬ a.toInt.toNat = z4.toInt.toNat; omega)]
            refine (hp a a0 a1).trans ⟨fun q => ⟨q.1, fun h => q.2 (by omega)⟩, fun q => ⟨q.1, fun h => q.2 (by omega)⟩⟩) k
        rw [el] at q4
        exact ⟨w', q1, q2, FrM_tr (FrM_tr (FrM_tr FrM_rf s15.2 (by decide)) F19 (by decide)) q3 (by decide), q4, q5⟩
      have hz := hp z4 h0 (by omega)
      have hz : ¬ v.2.1 34 z4.toNatClampNeg = 0 ↔ P0 z4 := hz.trans ⟨fun q => q.1, fun q => ⟨q, fun h => by omega⟩⟩
      have no : (¬ (P0 z4 ∧ (Lz.1 ≤ r14 ∧ r14 ≤ Lz.2))) → ((0 : Int32) = 1 ↔ (P0 z4 ∧ (Lz.1 ≤ r14 ∧ r14 ≤ Lz.2))) := fun q => ⟨fun h => absurd h (by decide), fun h => absurd h q⟩
      by_cases c1 : v.2.1 34 z4.toNatClampNeg = 0
      · rw [if_pos c1] at g
        exact fin 0 (Or.inl rfl) (no (fun q => hz.mpr q.1 c1)) g
      · rw [if_neg c1] at g
        by_cases c2 : r14 < Lz.1
        · rw [if_pos c2] at g
          have c29 := ltI c2
          exact fin 0 (Or.inl rfl) (no (fun q => by have := leI q.2.1; omega)) g
        · rw [if_neg c2] at g
          have c29 := nltI c2
          by_cases c3 : Lz.2 < r14
          · rw [if_pos c3] at g
            have c39 := ltI c3
            exact fin 0 (Or.inl rfl) (no (fun q => by have := leI q.2.2; omega)) g
          · rw [if_neg c3] at g
            have c39 := nltI c3
            exact fin 1 (Or.inr rfl) ⟨fun _ => ⟨hz.mp c1, Int32.le_iff_toInt_le.mpr (by omega), Int32.le_iff_toInt_le.mpr (by omega)⟩, fun _ => rfl⟩ g
theorem lf_28 {q z1 kp kr r : Int32} {u v' : SX} {kc : Nat} (hI : IX u) (hPL : PL u) (hs13 : Srt (u.2.1 37) (u.1 13)) (hU : UpTo (u.2.1 25) q (u.1 8) kp) (hr : UpTo (u.2.1 37) q (u.1 13) kr) (b0 : 0 ≤ q.toInt) (b1 : q.toInt ≤ 120) (g0 : 0 ≤ z1.toInt) (g1 : z1.toInt < (u.1 6).toInt) : ∀ (n : Nat) (z3 : Int32) (v : SX), MR u v → SPv u (spX u kc) v → v.1 15 = u.1 13 → 0 ≤ z3.toInt → (∀ a : Int32, 0 ≤ a.toInt → a.toInt ≤ 60 → (¬ v.2.1 34 a.toNatClampNeg = 0 ↔ FOK u z1.toNatClampNeg (fun i => u.2.1 36 (6 * i + 5)) (lfX u kp.toNatClampNeg kc) (min z3.toNatClampNeg kr.toNatClampNeg) a)) → LX12_layFits_0_28 n z1 q z3 v = some (r, v') → MR u v' ∧ FrM mdX12_layFits_0 v v' ∧ ∀ a : Int32, 0 ≤ a.toInt → a.toInt ≤ 60 → (¬ v'.2.1 34 a.toNatClampNeg = 0 ↔ FOK u z1.toNatClampNeg (fun i => u.2.1 36 (6 * i + 5)) (lfX u kp.toNatClampNeg kc) kr.toNatClampNeg a) := by
  intro n
  induction n with
  | zero => intro z3 v _ _ _ _ _ h; cases h
  | succ n ih =>
    intro z3 v hM hS e15 h0 hp g
    have k0 := hr.1
    have k1 := hr.2.1
    have b13 : (u.1 13).toInt ≤ (80 : Int) := (hI.1 13).2
    have kn : kr.toNatClampNeg = kr.toInt.toNat := rfl
    have zn : z3.toNatClampNeg = z3.toInt.toNat := rfl
    have g : (if (v.1 15) ≤ z3 then (some (0, v)) else (gd (inb z3 80) (if (v.2.1 21 z3.toNatClampNeg) ≤ q then ((fX12_layLeft_0 z3 q v).bind fun p => match p with | (r8, u9) => (LX12_layFits_0_58 (GX12_layFits_0_126 (LX12_layFits_0_28 n)) 5000 z1 q z3 0 u9)) else (GX12_layFits_0_126 (LX12_layFits_0_28 n) z1 q z3 v)))) = some (r, v') := g
    rw [e15] at g
    by_cases c : u.1 13 ≤ z3
    · rw [if_pos c] at g
      have c9 := leI c
      have ev : v = v' := by cases g; rfl
      rw [Nat.min_eq_right (by rw [kn, zn]; omega)] at hp
      rw [← ev]
      exact ⟨hM, FrM_rf, hp⟩
    · rw [if_neg c] at g
      have c9 := nleI c
      obtain ⟨-, g⟩ := gd_some g
      have et : (z3 + 1).toInt = z3.toInt + 1 := addc_t (by decide) (by omega) (by omega)
      have en := ns1 h0 (show z3.toInt ≤ 5000 by omega)
      have hd := (hM.2.2.2.2.1 z3.toNatClampNeg (by rw [zn]; omega)).1
      rw [← hd] at g
      by_cases cd : u.2.1 37 z3.toNatClampNeg ≤ q
      · rw [if_pos cd] at g
        have hlt := UpTo_in hs13 hr (i := z3.toNatClampNeg) (by rw [zn]; omega) (leI cd)
        rw [zn] at hlt
        have m1 : min z3.toNatClampNeg kr.toNatClampNeg = z3.toNatClampNeg := Nat.min_eq_left (by rw [kn, zn]; omega)
        have m2 : min (z3 + 1).toNatClampNeg kr.toNatClampNeg = z3.toNatClampNeg + 1 := by rw [en]; exact Nat.min_eq_left (by rw [kn, zn]; omega)
        rw [m1] at hp
        obtain ⟨⟨r8, u9⟩, a8, g⟩ := bd_some g
        obtain ⟨M9, S9, F9, e9, -⟩ := layLeft_sp hI hPL hM hS hU b0 b1 h0 (by omega) a8
        have g : LX12_layFits_0_58 (GX12_layFits_0_126 (LX12_layFits_0_28 n)) 5000 z1 q z3 0 u9 = some (r, v') := g
        generalize (5000 : Nat) = N1 at g
        obtain ⟨w, Mw, Sw, Fw, pw, gw⟩ := lf_58 (P0 := fun a => FOK u z1.toNatClampNeg (fun i => u.2.1 36 (6 * i + 5)) (lfX u kp.toNatClampNeg kc) z3.toNatClampNeg a) hI g0 g1 h0 (by omega) N1 0 u9 M9 S9 e9 (by decide) (fun a a0 a1 => by
          rw [F9.2.1 34 (by decide)]
          exact (hp a a0 a1).trans ⟨fun p => ⟨p, fun h => by have h : a.toInt < 0 := h; omega⟩, fun p => p.1⟩) g
        have gw : LX12_layFits_0_28 n z1 q (z3 + 1) w = some (r, v') := gw
        have F9w : FrM mdX12_layFits_0 v w := FrM_tr (FrM_tr FrM_rf F9 (by decide)) Fw (by decide)
        obtain ⟨q1, q2, q3⟩ := ih (z3 + 1) w Mw Sw (by rw [F9w.1 15 (by decide)]; exact e15) (by rw [et]; omega) (fun a a0 a1 => by
          rw [m2]
          refine (pw a a0 a1).trans ⟨fun p i hi => ?_, fun p => ⟨fun i hi => p i (by omega), p z3.toNatClampNeg (by omega)⟩⟩
          by_cases ci : i = z3.toNatClampNeg
          · rw [ci]
            exact p.2
          · exact p.1 i (by omega)) gw
        exact ⟨q1, FrM_tr F9w q2 (by decide), q3⟩
      · rw [if_neg cd] at g
        have hge : kr.toInt ≤ z3.toInt := by
          rcases Int.lt_or_le z3.toInt kr.toInt with z | z
          · exact absurd (UpTo_dn hs13 hr (i := z3.toNatClampNeg) (by rw [zn]; omega)) (nleI cd)
          · exact z
        have m1 : min z3.toNatClampNeg kr.toNatClampNeg = kr.toNatClampNeg := Nat.min_eq_right (by rw [kn, zn]; omega)
        have m2 : min (z3 + 1).toNatClampNeg kr.toNatClampNeg = kr.toNatClampNeg := by rw [en]; exact Nat.min_eq_right (by rw [kn, zn]; omega)
        rw [m1] at hp
        have g : LX12_layFits_0_28 n z1 q (z3 + 1) v = some (r, v') := g
        exact ih (z3 + 1) v hM hS e15 (by rw [et]; omega) (by rw [m2]; exact hp) g
theorem lf_2 {k21 : Int32 → Int32 → SX → Option (Int32 × SX)} {z1 z2 r : Int32} {v' : SX} : ∀ (n : Nat) (z3 : Int32) (v : SX), IM v → 0 ≤ z3.toInt → (∀ i : Nat, i < 61 → (z3.toInt ≤ (i : Int) ∨ v.2.1 34 i = 1)) → LX12_layFits_0_2 k21 n z1 z2 z3 v = some (r, v') → ∃ w : SX, IM w ∧ FrM ([], [34], [], []) v w ∧ (∀ i : Nat, i < 61 → w.2.1 34 i = 1) ∧ k21 z1 z2 w = some (r, v') := by
  intro n
  induction n with
  | zero => intro z3 v _ _ _ h; cases h
  | succ n ih =>
    intro z3 v hJ h0 hq g
    have g : (if 61 ≤ z3 then (k21 z1 z2 v) else (gd (inb z3 61) (lt (sA v 34 (upd (v.2.1 34) z3.toNatClampNeg (vp_nar .boolean 1))) fun u2 => ((LX12_layFits_0_2 k21 n) z1 z2 (z3 + 1) u2)))) = some (r, v') := g
    by_cases c : 61 ≤ z3
    · rw [if_pos c] at g
      have c9 : (61 : Int) ≤ z3.toInt := leI c
      exact ⟨v, hJ, FrM_rf, fun i hi => (hq i hi).elim (fun z => by omega) id, g⟩
    · rw [if_neg c] at g
      have c9 : ¬ (61 : Int) ≤ z3.toInt := nleI c
      have et : (z3 + 1).toInt = z3.toInt + 1 := addc_t (by decide) (by omega) (by omega)
      obtain ⟨-, g⟩ := gd_some g
      obtain ⟨u2, i2, g⟩ := lt_some g
      rw [nar01.2] at i2
      have s2 : StM ([], [34], [], []) v u2 := by
        rw [i2]
        exact StM_sA (StM_rf hJ) (by decide) (by decide) (by decide) (by decide)
      have k2 : u2.2.1 34 = upd (v.2.1 34) z3.toNatClampNeg 1 := by rw [i2]; rfl
      obtain ⟨w, q1, q2, q3, q4⟩ := ih (z3 + 1) u2 s2.1 (by rw [et]; omega) (fun i hi => by
        rw [et, k2]
        by_cases ci : i = z3.toNatClampNeg
        · exact Or.inr (by rw [ci, upd_at])
        · rw [upd_ne ci]
          have ci : ¬ i = z3.toInt.toNat := ci
          rcases hq i hi with z | z
          · exact Or.inl (by omega)
          · exact Or.inr z) g
      exact ⟨w, q1, FrM_tr s2.2 q2 (by decide), q3, q4⟩
theorem layFits_sp {x1 q kp kr kc r : Int32} {u v v' : SX} (hI : IX u) (hPL : PL u) (hM : MR u v) (e15 : v.1 15 = u.1 13) (hU : UpTo (u.2.1 25) q (u.1 8) kp) (hc : UpTo (u.2.1 34) q (u.1 12) kc) (hr : UpTo (u.2.1 37) q (u.1 13) kr) (b0 : 0 ≤ q.toInt) (b1 : q.toInt ≤ 120) (g0 : 0 ≤ x1.toInt) (g1 : x1.toInt < (u.1 6).toInt) (h : fX12_layFits_0 x1 q v = some (r, v')) : MR u v' ∧ FrM mdX12_layFits_0 v v' ∧ ∀ a : Int32, 0 ≤ a.toInt → a.toInt ≤ 60 → (¬ v'.2.1 34 a.toNatClampNeg = 0 ↔ FOK u x1.toNatClampNeg (fun i => u.2.1 36 (6 * i + 5)) (lfX u kp.toNatClampNeg kc.toNatClampNeg) kr.toNatClampNeg a) := by
  unfold fX12_layFits_0 at h
  generalize (5000 : Nat) = N1 at h
  obtain ⟨w, Jw, Fw, pw, g⟩ := lf_2 N1 0 v hM.1 (by decide) (fun i _ => Or.inl (by show (0 : Int) ≤ _; omega)) h
  have Mw := MR_md Jw Fw (by decide) hM
  unfold GX12_layFits_0_21 at g
  obtain ⟨⟨r4, u5⟩, a4, g⟩ := bd_some g
  obtain ⟨M5, S5, f5, g5⟩ := layOf_SP Mw b0 b1 hc a4
  have s5 : StM mdX12_laySpansOf_0 w u5 := (Tot_at (tfX12_laySpansOf_0 q w Mw.1 ⟨b0, b1⟩) a4).1
  have g : LX12_layFits_0_28 5000 x1 q 0 u5 = some (r, v') := g
  generalize (5000 : Nat) = N2 at g
  obtain ⟨q1, q2, q3⟩ := lf_28 hI hPL hM.2.2.2.2.2 hU hr b0 b1 g0 g1 N2 0 u5 M5 S5 (by rw [f5, Fw.1 15 (by decide)]; exact e15) (by decide) (fun a a0 a1 => by
    rw [s5.2.2.1 34 (by decide), pw a.toNatClampNeg (by show a.toInt.toNat < 61; omega)]
    refine ⟨fun _ i hi => ?_, fun _ => by decide⟩
    have hi : i < min 0 kr.toNatClampNeg := hi
    rw [Nat.zero_min] at hi
    omega) g
  exact ⟨q1, FrM_tr (FrM_tr (FrM_tr FrM_rf Fw (by decide)) s5.2 (by decide)) q2 (by decide), q3⟩
/-- both count the fits alike -/
theorem fit_both {z1 z3 r r' : Int32} {u0 u' v v' : SX} {W : Nat → Int32} {L : Nat → Int32 × Int32} {K : Nat} (hx0 : 0 ≤ z1.toInt) (hWK : ∀ n, n < K → 1 ≤ (W n).toInt ∧ (W n).toInt ≤ 40) (hv : ∀ a : Int32, 0 ≤ a.toInt → a.toInt ≤ 60 → (¬ v.2.1 34 a.toNatClampNeg = 0 ↔ FOK u0 z1.toNatClampNeg W L K a)) : ∀ (n m : Nat) (z2 : Int32) (u : SX), IX u → LVG u → z1.toInt < (u.1 6).toInt → gv u = gv u0 → BW W L K u → 0 ≤ z2.toInt → (u.1 21).toInt ≤ z2.toInt → LX1_fit_8_21 n z1 z2 u = some (r, u') → LX12_fits_0_54 GX12_fits_0_102 m z3 (u.1 19) (u.1 20) (u.1 21) z2 v = some (r', v') → v' = v ∧ r' = if z3 = 0 then u'.1 19 else if z3 = 1 then u'.1 20 else u'.1 21 := by
  intro n
  induction n with
  | zero => intro m z2 u _ _ _ _ _ _ _ h; cases h
  | succ n ih =>
    intro m z2 u hI hL hx1 eg hB h0 h21 g k
    cases m with
    | zero => cases k
    | succ m =>
      have g : (if 60 < z2 then (some (0, u)) else ((fX1_suits_8 z1 z2 u).bind fun q => match q with | (r10, u11) => (if r10 = 0 then (GX1_fit_8_71 (LX1_fit_8_21 n) z1 z2 u11) else (if (u11.1 19) = (-1) then (GX1_fit_8_53 (LX1_fit_8_21 n) z1 z2 z2 u11) else (GX1_fit_8_53 (LX1_fit_8_21 n) z1 z2 (u11.1 19) u11))))) = some (r, u') := g
      have k : (if 61 ≤ z2 then (GX12_fits_0_102 z3 (u.1 19) (u.1 20) (u.1 21) v) else (gd (inb z2 61) (if (v.2.1 34 z2.toNatClampNeg) = 0 then (GX12_fits_0_96 (LX12_fits_0_54 GX12_fits_0_102 m) z3 (u.1 19) (u.1 20) (u.1 21) z2 v) else (if (u.1 19) = (-1) then (GX12_fits_0_87 (LX12_fits_0_54 GX12_fits_0_102 m) z3 (u.1 21) z2 z2 v) else (GX12_fits_0_87 (LX12_fits_0_54 GX12_fits_0_102 m) z3 (u.1 21) z2 (u.1 19) v))))) = some (r', v') := k
      by_cases c : 60 < z2
      · have c9 : (60 : Int) < z2.toInt := ltI c
        have c' : (61 : Int32) ≤ z2 := Int32.le_iff_toInt_le.mpr (by show (61 : Int) ≤ _; omega)
        rw [if_pos c] at g
        rw [if_pos c'] at k
        have e : u = u' := by cases g; rfl
        unfold GX12_fits_0_102 at k
        rw [← e]
        by_cases d : z3 = 0
        · rw [if_pos d] at k ⊢
          have q : u.1 19 = r' ∧ v = v' := by cases k; exact ⟨rfl, rfl⟩
          exact ⟨q.2.symm, q.1.symm⟩
        · rw [if_neg d] at k ⊢
          by_cases d2 : z3 = 1
          · rw [if_pos d2] at k ⊢
            have q : u.1 20 = r' ∧ v = v' := by cases k; exact ⟨rfl, rfl⟩
            exact ⟨q.2.symm, q.1.symm⟩
          · rw [if_neg d2] at k ⊢
            have q : u.1 21 = r' ∧ v = v' := by cases k; exact ⟨rfl, rfl⟩
            exact ⟨q.2.symm, q.1.symm⟩
      · have c9 : ¬ (60 : Int) < z2.toInt := nltI c
        have c' : ¬ (61 : Int32) ≤ z2 := fun z => by
          have z9 : (61 : Int) ≤ z2.toInt := leI z
          omega
        rw [if_neg c] at g
        rw [if_neg c'] at k
        have et : (z2 + 1).toInt = z2.toInt + 1 := addc_t (by decide) (by omega) (by omega)
        obtain ⟨⟨r10, u11⟩, a10, g⟩ := bd_some g
        obtain ⟨-, k⟩ := gd_some k
        have a10 : fX1_suits_8 z1 z2 u = some (r10, u11) := a10
        unfold fX1_suits_8 at a10
        generalize (5000 : Nat) = N1 at a10
        obtain ⟨s11, hs⟩ := suits_L (u0 := u0) hx0 ⟨h0, by omega⟩ hWK N1 1 u hI hL hx1 eg hB (by decide) (fun i hi hw => by
          have hw : (W i).toInt < 1 := hw
          have := hWK i hi
          omega) a10
        have f19 := s11.2.1 19 (by decide)
        have f20 := s11.2.1 20 (by decide)
        have f21 := s11.2.1 21 (by decide)
        have eg11 : gv u11 = gv u0 := (gv_fr s11.2.2.2.2.2).trans eg
        have B11 : BW W L K u11 := by
          unfold BW at hB ⊢
          rw [s11.2.2.1 43 (by decide), s11.2.2.1 44 (by decide), s11.2.2.1 45 (by decide)]
          exact hB
        have L11 := LVG_fr (s11.2.1 6 (by decide)) s11.2.2.2.2.2 hL
        have h34 := hv z2 h0 (by omega)
        have g : (if r10 = 0 then (GX1_fit_8_71 (LX1_fit_8_21 n) z1 z2 u11) else (if (u11.1 19) = (-1) then (GX1_fit_8_53 (LX1_fit_8_21 n) z1 z2 z2 u11) else (GX1_fit_8_53 (LX1_fit_8_21 n) z1 z2 (u11.1 19) u11))) = some (r, u') := g
        have b0 : (0 : Int) ≤ (u.1 21).toInt ∨ (u.1 21).toInt < 0 := by omega
        rcases hs with ⟨er, F⟩ | ⟨er, F⟩
        · rw [if_neg (ne01 er)] at g
          rw [if_neg (h34.mpr F)] at k
          have fin : ∀ y0 : Int32, (-1 : Int) ≤ y0.toInt → y0.toInt ≤ 60 → GX1_fit_8_53 (LX1_fit_8_21 n) z1 z2 y0 u11 = some (r, u') → LX12_fits_0_54 GX12_fits_0_102 m z3 y0 z2 (u.1 21 + 1) (z2 + 1) v = some (r', v') → v' = v ∧ r' = if z3 = 0 then u'.1 19 else if z3 = 1 then u'.1 20 else u'.1 21 := fun y0 y1 y2 g1 k1 => by
            unfold GX1_fit_8_53 at g1
            obtain ⟨u13, i13, g1⟩ := lt_some g1
            obtain ⟨u15, i15, g1⟩ := lt_some g1
            obtain ⟨u17, i17, g1⟩ := lt_some g1
            have g1 : LX1_fit_8_21 n z1 (z2 + 1) u17 = some (r, u') := g1
            have e21 : (u.1 21 + 1).toInt = (u.1 21).toInt + 1 := addc_t (by decide) (by have := Int32.le_toInt (u.1 21); omega) (by omega)
            have s17 : StX ([19, 20, 21], [], [], []) u11 u17 := by
              rw [i17, i15, i13]
              refine StX_sIf (StX_sI (StX_sI (StX_rf s11.1) (by decide) y1 y2) (by decide) (by show (-1 : Int) ≤ _; omega) (by show _ ≤ (60 : Int); omega)) (by decide) rfl rfl
            have w19 : u17.1 19 = y0 := by rw [i17, i15, i13]; rfl
            have w20 : u17.1 20 = z2 := by rw [i17, i15, i13]; rfl
            have w21 : u17.1 21 = u.1 21 + 1 := by
              rw [i17, i15, i13]
              show u11.1 21 + 1 = _
              rw [f21]
            rw [← w19, ← w20, ← w21] at k1
            refine ih m (z2 + 1) u17 s17.1 (LVG_fr (s17.2.1 6 (by decide)) s17.2.2.2.2.2 L11) (by rw [s17.2.1 6 (by decide), s11.2.1 6 (by decide)]; exact hx1) ((gv_fr s17.2.2.2.2.2).trans eg11) ?_ (by rw [et]; omega) (by rw [w21, e21, et]; omega) g1 (by rw [w20] at k1 ⊢; exact k1)
            unfold BW at B11 ⊢
            rw [s17.2.2.1 43 (by decide), s17.2.2.1 44 (by decide), s17.2.2.1 45 (by decide)]
            exact B11
          rw [f19] at g
          by_cases d : u.1 19 = -1
          · rw [if_pos d] at g k
            exact fin z2 (by omega) (by omega) g k
          · rw [if_neg d] at g k
            exact fin (u.1 19) (hI.1 19).1 (hI.1 19).2 g k
        · rw [if_pos er] at g
          have z34 : v.2.1 34 z2.toNatClampNeg = 0 := by
            by_cases z : v.2.1 34 z2.toNatClampNeg = 0
            · exact z
            · exact absurd (h34.mp z) F
          rw [if_pos z34] at k
          have g : LX1_fit_8_21 n z1 (z2 + 1) u11 = some (r, u') := g
          have k : LX12_fits_0_54 GX12_fits_0_102 m z3 (u.1 19) (u.1 20) (u.1 21) (z2 + 1) v = some (r', v') := k
          rw [← f19, ← f20, ← f21] at k
          exact ih m (z2 + 1) u11 s11.1 L11 (by rw [s11.2.1 6 (by decide)]; exact hx1) eg11 B11 (by rw [et]; omega) (by rw [f21, et]; omega) g k
