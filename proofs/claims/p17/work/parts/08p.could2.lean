/-! What a part could be: the reference tries all loudnesses. -/
theorem co_54 {k76 : Int32 → Int32 → Int32 → Int32 → Int32 → SX → Option (Int32 × SX)} {z1 z2 z3 z4 z5 r : Int32} {v' : SX} : ∀ (n : Nat) (z6 : Int32) (v : SX), IM v → 0 ≤ z6.toInt → (∀ i : Nat, i < 401 → (z6.toInt ≤ (i : Int) ∨ v.2.1 24 i = 1)) → LX12_could_0_54 k76 n z1 z2 z3 z4 z5 z6 v = some (r, v') → ∃ w : SX, IM w ∧ FrM ([], [24], [], []) v w ∧ (∀ i : Nat, i < 401 → w.2.1 24 i = 1) ∧ k76 z1 z2 z3 z4 z5 w = some (r, v') := by
  intro n
  induction n with
  | zero => intro z6 v _ _ _ h; cases h
  | succ n ih =>
    intro z6 v hJ h0 hq g
    have g : (if 400 < z6 then (k76 z1 z2 z3 z4 z5 v) else (gd (inb z6 401) (lt (sA v 24 (upd (v.2.1 24) z6.toNatClampNeg (vp_nar .boolean 1))) fun u17 => ((LX12_could_0_54 k76 n) z1 z2 z3 z4 z5 (z6 + 1) u17)))) = some (r, v') := g
    by_cases c : 400 < z6
    · rw [if_pos c] at g
      have c9 : (400 : Int) < z6.toInt := ltI c
      exact ⟨v, hJ, FrM_rf, fun i hi => (hq i hi).elim (fun z => by omega) id, g⟩
    · rw [if_neg c] at g
      have c9 : ¬ (400 : Int) < z6.toInt := nltI c
      have et : (z6 + 1).toInt = z6.toInt + 1 := addc_t (by decide) (by omega) (by omega)
      obtain ⟨-, g⟩ := gd_some g
      obtain ⟨u2, i2, g⟩ := lt_some g
      rw [nar01.2] at i2
      have s2 : StM ([], [24], [], []) v u2 := by
        rw [i2]
        exact StM_sA (StM_rf hJ) (by decide) (by decide) (by decide) (by decide)
      have k2 : u2.2.1 24 = upd (v.2.1 24) z6.toNatClampNeg 1 := by rw [i2]; rfl
      obtain ⟨w, q1, q2, q3, q4⟩ := ih (z6 + 1) u2 s2.1 (by rw [et]; omega) (fun i hi => by
        rw [et, k2]
        by_cases ci : i = z6.toNatClampNeg
        · exact Or.inr (by rw [ci, upd_at])
        · rw [upd_ne ci]
          have ci : ¬ i = z6.toInt.toNat := ci
          rcases hq i hi with z | z
          · exact Or.inl (by omega)
          · exact Or.inr z) g
      exact ⟨w, q1, FrM_tr s2.2 q2 (by decide), q3, q4⟩
theorem co_136 {k204 : Int32 → Int32 → Int32 → Int32 → Int32 → Int32 → SX → Option (Int32 × SX)} {z1 z2 z3 z4 z5 z6 z7 z8 r : Int32} {v' : SX} {W : Int32} {P0 : Int32 → Prop} : ∀ (n : Nat) (z9 : Int32) (v : SX), IM v → v.2.1 18 z1.toNatClampNeg = W → 0 ≤ z9.toInt → (∀ a : Int32, 0 ≤ a.toInt → a.toInt ≤ 400 → (¬ v.2.1 24 a.toNatClampNeg = 0 ↔ (P0 a ∧ (a.toInt < z9.toInt → FA z7 z8 W a)))) → LX12_could_0_136 k204 n z1 z2 z3 z4 z5 z6 z7 z8 z9 v = some (r, v') → ∃ w : SX, IM w ∧ FrM ([], [24], [], []) v w ∧ (∀ a : Int32, 0 ≤ a.toInt → a.toInt ≤ 400 → (¬ w.2.1 24 a.toNatClampNeg = 0 ↔ (P0 a ∧ FA z7 z8 W a))) ∧ k204 z1 z2 z3 z4 z5 z6 w = some (r, v') := by
  intro n
  induction n with
  | zero => intro z9 v _ _ _ _ h; cases h
  | succ n ih =>
    intro z9 v hJ hW h0 hp g
    have g : (if 400 < z9 then (k204 z1 z2 z3 z4 z5 z6 v) else (gd (inb z9 401) (if (v.2.1 24 z9.toNatClampNeg) = 0 then (GX12_could_0_196 (LX12_could_0_136 k204 n) z1 z2 z3 z4 z5 z6 z7 z8 z9 z9 v) else (gd (inb z1 12) ((fX12_shines z9 (v.2.1 18 z1.toNatClampNeg)).bind fun r38 => (if r38 < z7 then (GX12_could_0_196 (LX12_could_0_136 k204 n) z1 z2 z3 z4 z5 z6 z7 z8 z9 z9 v) else (gd (inb z1 12) ((fX12_shines z9 (v.2.1 18 z1.toNatClampNeg)).bind fun r42 => (if z8 < r42 then (GX12_could_0_196 (LX12_could_0_136 k204 n) z1 z2 z3 z4 z5 z6 z7 z8 z9 z9 v) else (GX12_could_0_197 (LX12_could_0_136 k204 n) z1 z2 z3 z4 z5 z6 z7 z8 z9 1 z9 v)))))))))) = some (r, v') := g
    rw [hW] at g
    by_cases c : 400 < z9
    · rw [if_pos c] at g
      have c9 : (400 : Int) < z9.toInt := ltI c
      exact ⟨v, hJ, FrM_rf, fun a a0 a1 => (hp a a0 a1).trans ⟨fun q => ⟨q.1, q.2 (by omega)⟩, fun q => ⟨q.1, fun _ => q.2⟩⟩, g⟩
    · rw [if_neg c] at g
      have c9 : ¬ (400 : Int) < z9.toInt := nltI c
      have et : (z9 + 1).toInt = z9.toInt + 1 := addc_t (by decide) (by omega) (by omega)
      obtain ⟨-, g⟩ := gd_some g
      have fin : ∀ y0 : Int32, (y0 = 0 ∨ y0 = 1) → (y0 = 1 ↔ (P0 z9 ∧ FA z7 z8 W z9)) → GX12_could_0_197 (LX12_could_0_136 k204 n) z1 z2 z3 z4 z5 z6 z7 z8 z9 y0 z9 v = some (r, v') → ∃ w : SX, IM w ∧ FrM ([], [24], [], []) v w ∧ (∀ a : Int32, 0 ≤ a.toInt → a.toInt ≤ 400 → (¬ w.2.1 24 a.toNatClampNeg = 0 ↔ (P0 a ∧ FA z7 z8 W a))) ∧ k204 z1 z2 z3 z4 z5 z6 w = some (r, v') := fun y0 hy01 hy k => by
        unfold GX12_could_0_197 at k
        obtain ⟨-, k⟩ := gd_some k
        obtain ⟨u19, i19, k⟩ := lt_some k
        have ny : vp_nar .boolean y0 = y0 := by
          rcases hy01 with z | z
          · rw [z]; exact nar01.1
          · rw [z]; exact nar01.2
        rw [ny] at i19
        have s19 : StM ([], [24], [], []) v u19 := by
          rw [i19]
          have w0 : rlM 24 ≤ y0.toInt ∧ y0.toInt ≤ rhM 24 := by
            rcases hy01 with z | z
            · rw [z]; decide
            · rw [z]; decide
          exact StM_sA (StM_rf hJ) (by decide) w0.1 w0.2 (by decide)
        have k19 : u19.2.1 24 = upd (v.2.1 24) z9.toNatClampNeg y0 := by rw [i19]; rfl
        obtain ⟨w', q1, q2, q3, q4⟩ := ih (z9 + 1) u19 s19.1 (by rw [s19.2.2.1 18 (by decide)]; exact hW) (by rw [et]; omega) (fun a a0 a1 => by
          rw [et, k19]
          by_cases ca : a = z9
          · rw [ca, upd_at]
            have y1 : ¬ y0 = 0 ↔ y0 = 1 := by
              rcases hy01 with z | z
              · rw [z]; exact ⟨fun h => absurd rfl h, fun h => absurd h (by decide)⟩
              · rw [z]; exact ⟨fun _ => rfl, fun _ => by decide⟩
            rw [y1, hy]
            exact ⟨fun q => ⟨q.1, fun _ => q.2⟩, fun q => ⟨q.1, q.2 (by omega)⟩⟩
          · have na : ¬ a.toInt = z9.toInt := neI ca
            rw [upd_ne (by show ¬ a.toInt.toNat = z9.toInt.toNat; omega)]
            refine (hp a a0 a1).trans ⟨fun q => ⟨q.1, fun h => q.2 (by omega)⟩, fun q => ⟨q.1, fun h => q.2 (by omega)⟩⟩) k
        exact ⟨w', q1, FrM_tr s19.2 q2 (by decide), q3, q4⟩
      have hz := hp z9 h0 (by omega)
      have hz : ¬ v.2.1 24 z9.toNatClampNeg = 0 ↔ P0 z9 := hz.trans ⟨fun q => q.1, fun q => ⟨q, fun h => by omega⟩⟩
      have no : (¬ (P0 z9 ∧ FA z7 z8 W z9)) → ((0 : Int32) = 1 ↔ (P0 z9 ∧ FA z7 z8 W z9)) := fun q => ⟨fun h => absurd h (by decide), fun h => absurd h q⟩
      by_cases c1 : v.2.1 24 z9.toNatClampNeg = 0
      · rw [if_pos c1] at g
        exact fin 0 (Or.inl rfl) (no (fun q => hz.mpr q.1 c1)) g
      · rw [if_neg c1] at g
        obtain ⟨-, g⟩ := gd_some g
        obtain ⟨r38, a38, g⟩ := bd_some g
        have s38 := shn_M a38
        by_cases c2 : r38 < z7
        · rw [if_pos c2] at g
          have c29 := ltI c2
          rw [s38] at c29
          exact fin 0 (Or.inl rfl) (no (fun q => by have := q.2.1; omega)) g
        · rw [if_neg c2] at g
          have c29 := nltI c2
          rw [s38] at c29
          obtain ⟨-, g⟩ := gd_some g
          obtain ⟨r42, a42, g⟩ := bd_some g
          have s42 := shn_M a42
          by_cases c3 : z8 < r42
          · rw [if_pos c3] at g
            have c39 := ltI c3
            rw [s42] at c39
            exact fin 0 (Or.inl rfl) (no (fun q => by have := q.2.2; omega)) g
          · rw [if_neg c3] at g
            have c39 := nltI c3
            rw [s42] at c39
            exact fin 1 (Or.inr rfl) ⟨fun _ => ⟨hz.mp c1, by omega, by omega⟩, fun _ => rfl⟩ g
theorem co_79 {k210 : Int32 → Int32 → Int32 → SX → Option (Int32 × SX)} {q z1 z3 z4 z5 kp kr r : Int32} {u v' : SX} {kc : Nat} {fl ce wl : Nat → Int32} (hI : IX u) (hPL : PL u) (hs13 : Srt (u.2.1 37) (u.1 13)) (hU : UpTo (u.2.1 25) q (u.1 8) kp) (hr : UpTo (u.2.1 37) q (u.1 13) kr) (b0 : 0 ≤ q.toInt) (b1 : q.toInt ≤ 120) (p0 : 0 ≤ z1.toInt) (p1 : z1.toInt < (u.1 8).toInt) (hd : ∀ i : Nat, (i : Int) < kr.toInt → wl i = ww u i z1.toNatClampNeg ∧ fl i = (lfX u kp.toNatClampNeg kc i).1 + mxS (wl i) (spX u kc z1.toNatClampNeg) ∧ ce i = (lfX u kp.toNatClampNeg kc i).2 + mnS (wl i) (spX u kc z1.toNatClampNeg)) : ∀ (n : Nat) (z6 : Int32) (v : SX), MR u v → SPv u (spX u kc) v → v.1 15 = u.1 13 → 0 ≤ z6.toInt → (∀ a : Int32, 0 ≤ a.toInt → a.toInt ≤ 400 → (¬ v.2.1 24 a.toNatClampNeg = 0 ↔ FC fl ce wl (min z6.toNatClampNeg kr.toNatClampNeg) a)) → LX12_could_0_79 k210 n z1 q z3 z4 z5 z6 v = some (r, v') → ∃ w : SX, (∀ a : Int32, 0 ≤ a.toInt → a.toInt ≤ 400 → (¬ w.2.1 24 a.toNatClampNeg = 0 ↔ FC fl ce wl kr.toNatClampNeg a)) ∧ k210 z3 z4 z5 w = some (r, v') := by
  intro n
  induction n with
  | zero => intro z6 v _ _ _ _ _ h; cases h
  | succ n ih =>
    intro z6 v hM hS e15 h0 hp g
    have k0 := hr.1
    have k1 := hr.2.1
    have b13 : (u.1 13).toInt ≤ (80 : Int) := (hI.1 13).2
    have kn : kr.toNatClampNeg = kr.toInt.toNat := rfl
    have zn : z6.toNatClampNeg = z6.toInt.toNat := rfl
    have hz1 : ((z1.toNatClampNeg : Nat) : Int) < (u.1 8).toInt := by
      show ((z1.toInt.toNat : Nat) : Int) < _
      omega
    have g : (if (v.1 15) ≤ z6 then (k210 z3 z4 z5 v) else (gd (inb z6 80) (if (v.2.1 21 z6.toNatClampNeg) ≤ q then ((fX12_layLeft_0 z6 q v).bind fun p => match p with | (r20, u21) => ((fX12_most_0 z1 u21).bind fun p => match p with | (r23, u24) => (lt ((u21.1 16) + r23) fun v26 => ((fX12_least_0 z1 u24).bind fun p => match p with | (r28, u29) => (lt ((u24.1 17) + r28) fun v31 => (LX12_could_0_136 (GX12_could_0_204 (LX12_could_0_79 k210 n)) 5000 z1 q z3 z4 z5 z6 v26 v31 0 u29)))))) else (GX12_could_0_204 (LX12_could_0_79 k210 n) z1 q z3 z4 z5 z6 v)))) = some (r, v') := g
    rw [e15] at g
    by_cases c : u.1 13 ≤ z6
    · rw [if_pos c] at g
      have c9 := leI c
      rw [Nat.min_eq_right (by rw [kn, zn]; omega)] at hp
      exact ⟨v, hp, g⟩
    · rw [if_neg c] at g
      have c9 := nleI c
      obtain ⟨-, g⟩ := gd_some g
      have et : (z6 + 1).toInt = z6.toInt + 1 := addc_t (by decide) (by omega) (by omega)
      have en := ns1 h0 (show z6.toInt ≤ 5000 by omega)
      have hd' := (hM.2.2.2.2.1 z6.toNatClampNeg (by rw [zn]; omega)).1
      rw [← hd'] at g
      by_cases cd : u.2.1 37 z6.toNatClampNeg ≤ q
      · rw [if_pos cd] at g
        have hlt := UpTo_in hs13 hr (i := z6.toNatClampNeg) (by rw [zn]; omega) (leI cd)
        obtain ⟨d1, d2, d3⟩ := hd z6.toNatClampNeg hlt
        rw [zn] at hlt
        have m1 : min z6.toNatClampNeg kr.toNatClampNeg = z6.toNatClampNeg := Nat.min_eq_left (by rw [kn, zn]; omega)
        have m2 : min (z6 + 1).toNatClampNeg kr.toNatClampNeg = z6.toNatClampNeg + 1 := by rw [en]; exact Nat.min_eq_left (by rw [kn, zn]; omega)
        rw [m1] at hp
        obtain ⟨⟨r20, u21⟩, a20, g⟩ := bd_some g
        obtain ⟨M9, S9, F9, e9, W9⟩ := layLeft_sp hI hPL hM hS hU b0 b1 h0 (by omega) a20
        obtain ⟨⟨r23, u24⟩, a23, g⟩ := bd_some g
        obtain ⟨f24, s23⟩ := mostM a23
        obtain ⟨v26, i26, g⟩ := lt_some g
        obtain ⟨⟨r28, u29⟩, a28, g⟩ := bd_some g
        rw [f24] at a28
        obtain ⟨f29, s28⟩ := leastM a28
        obtain ⟨v31, i31, g⟩ := lt_some g
        rw [f24] at i31
        rw [f29] at g
        have f16 : u21.1 16 = (lfX u kp.toNatClampNeg kc z6.toNatClampNeg).1 := congrArg Prod.fst e9
        have f17 : u21.1 17 = (lfX u kp.toNatClampNeg kc z6.toNatClampNeg).2 := congrArg Prod.snd e9
        have w18 : u21.2.1 18 z1.toNatClampNeg = wl z6.toNatClampNeg := (W9 _ hz1).trans d1.symm
        have e26 : v26 = fl z6.toNatClampNeg := by rw [i26, s23, f16, d2, w18, S9 _ hz1]
        have e31 : v31 = ce z6.toNatClampNeg := by rw [i31, s28, f17, d3, w18, S9 _ hz1]
        rw [e26, e31] at g
        have g : LX12_could_0_136 (GX12_could_0_204 (LX12_could_0_79 k210 n)) 5000 z1 q z3 z4 z5 z6 (fl z6.toNatClampNeg) (ce z6.toNatClampNeg) 0 u21 = some (r, v') := g
        generalize (5000 : Nat) = N1 at g
        obtain ⟨w, Jw, Fw, pw, gw⟩ := co_136 (W := wl z6.toNatClampNeg) (P0 := fun a => FC fl ce wl z6.toNatClampNeg a) N1 0 u21 M9.1 w18 (by decide) (fun a a0 a1 => by
          rw [F9.2.1 24 (by decide)]
          exact (hp a a0 a1).trans ⟨fun p => ⟨p, fun h => by have h : a.toInt < 0 := h; omega⟩, fun p => p.1⟩) g
        have gw : LX12_could_0_79 k210 n z1 q z3 z4 z5 (z6 + 1) w = some (r, v') := gw
        refine ih (z6 + 1) w (MR_md Jw Fw (by decide) M9) (SPv_fr (Fw.2.1 16 (by decide)) (Fw.2.1 17 (by decide)) S9) (by rw [Fw.1 15 (by decide), F9.1 15 (by decide)]; exact e15) (by rw [et]; omega) (fun a a0 a1 => ?_) gw
        rw [m2, FC_s]
        exact pw a a0 a1
      · rw [if_neg cd] at g
        have hge : kr.toInt ≤ z6.toInt := by
          rcases Int.lt_or_le z6.toInt kr.toInt with z | z
          · exact absurd (UpTo_dn hs13 hr (i := z6.toNatClampNeg) (by rw [zn]; omega)) (nleI cd)
          · exact z
        have m1 : min z6.toNatClampNeg kr.toNatClampNeg = kr.toNatClampNeg := Nat.min_eq_right (by rw [kn, zn]; omega)
        have m2 : min (z6 + 1).toNatClampNeg kr.toNatClampNeg = kr.toNatClampNeg := by rw [en]; exact Nat.min_eq_right (by rw [kn, zn]; omega)
        rw [m1] at hp
        have g : LX12_could_0_79 k210 n z1 q z3 z4 z5 (z6 + 1) v = some (r, v') := g
        exact ih (z6 + 1) v hM hS e15 (by rw [et]; omega) (by rw [m2]; exact hp) g
theorem dec_t {z : Int32} (h0 : 0 ≤ z.toInt) (h1 : z.toInt ≤ 400) : (z + (-1)).toInt = z.toInt - 1 := by
  have e1 : (z + (-1)).toInt = z.toInt + (-1) := addc_t (by decide) (by omega) (by omega)
  generalize (z + (-1)).toInt = y at e1 ⊢
  omega
theorem co_234 {z3 z4 r : Int32} {v v' : SX} {P : Int32 → Prop} {G : Int} (hp : ∀ a : Int32, 0 ≤ a.toInt → a.toInt ≤ 400 → (¬ v.2.1 24 a.toNatClampNeg = 0 ↔ P a)) : ∀ (n : Nat) (z5 : Int32), -1 ≤ z5.toInt → z5.toInt ≤ 400 → G ≤ z5.toInt → (0 ≤ G → ∀ a : Int32, a.toInt = G → P a) → (∀ a : Int32, 0 ≤ a.toInt → a.toInt ≤ 400 → P a → a.toInt ≤ G) → LX12_could_0_234 GX12_could_0_255 n z3 z4 z5 v = some (r, v') → -1 ≤ G → ∃ z : Int32, z.toInt = G ∧ GX12_could_0_255 z3 z4 z v = some (r, v') := by
  intro n
  induction n with
  | zero => intro z5 _ _ _ _ _ h; cases h
  | succ n ih =>
    intro z5 h0 h9 hG hP hle g hG1
    have g : (if z5 < 0 then (GX12_could_0_255 z3 z4 z5 v) else (gd (inb z5 401) (if (v.2.1 24 z5.toNatClampNeg) = 0 then ((LX12_could_0_234 GX12_could_0_255 n) z3 z4 (z5 + (-1)) v) else (GX12_could_0_255 z3 z4 z5 v)))) = some (r, v') := g
    by_cases c : z5 < 0
    · rw [if_pos c] at g
      have c9 : z5.toInt < (0 : Int) := ltI c
      exact ⟨z5, by omega, g⟩
    · rw [if_neg c] at g
      have c9 : ¬ z5.toInt < (0 : Int) := nltI c
      obtain ⟨-, g⟩ := gd_some g
      have hz := hp z5 (by omega) h9
      by_cases d : v.2.1 24 z5.toNatClampNeg = 0
      · rw [if_pos d] at g
        have nP : ¬ P z5 := fun q => hz.mpr q d
        have ne : ¬ G = z5.toInt := fun q => nP (hP (by omega) z5 q.symm)
        have em := dec_t (z := z5) (by omega) h9
        have g : LX12_could_0_234 GX12_could_0_255 n z3 z4 (z5 + (-1)) v = some (r, v') := g
        generalize z5 + (-1) = y at g em
        exact ih y (by omega) (by omega) (by omega) hP hle g hG1
      · rw [if_neg d] at g
        have q := hle z5 (by omega) h9 (hz.mp d)
        exact ⟨z5, by omega, g⟩
