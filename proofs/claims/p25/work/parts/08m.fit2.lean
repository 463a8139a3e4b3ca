/-! Fits: the class's side. -/
theorem fill_43 {x r : Int32} : ∀ (n : Nat) (z : Int32) (u u' : SX), 0 ≤ z.toInt → LJ7_fill_53178_a43_5 n x z 41 u = some (r, u') → ∀ i : Nat, i < 41 → (z.toInt ≤ (i : Int) ∨ u.2.1 43 i = x) → u'.2.1 43 i = x := by
  intro n
  induction n with
  | zero => intro z u u' _ h; cases h
  | succ n ih =>
    intro z u u' h0 g i hi hq
    have g : (if (41 : Int32) ≤ z then (some (0, u)) else (gd (inb z 41) (lt (sA u 43 (upd (u.2.1 43) z.toNatClampNeg x)) fun u2 => ((LJ7_fill_53178_a43_5 n) x (z + 1) 41 u2)))) = some (r, u') := g
    by_cases c : (41 : Int32) ≤ z
    · rw [if_pos c] at g
      have c9 : (41 : Int) ≤ z.toInt := leI c
      have e : u = u' := by cases g; rfl
      rw [← e]
      rcases hq with q | q
      · omega
      · exact q
    · rw [if_neg c] at g
      have c9 : ¬ (41 : Int) ≤ z.toInt := nleI c
      obtain ⟨-, g⟩ := gd_some g
      obtain ⟨u2, i2, g⟩ := lt_some g
      have et : (z + 1).toInt = z.toInt + 1 := addc_t (by decide) (by omega) (by omega)
      have k2 : u2.2.1 43 = upd (u.2.1 43) z.toNatClampNeg x := by rw [i2]; rfl
      refine ih (z + 1) u2 u' (by rw [et]; omega) g i hi ?_
      rw [et, k2]
      by_cases ci : i = z.toNatClampNeg
      · exact Or.inr (by rw [ci, upd_at])
      · rw [upd_ne ci]
        have ci : ¬ i = z.toInt.toNat := ci
        rcases hq with q | q
        · exact Or.inl (by omega)
        · exact Or.inr q
theorem fill43_sp {r : Int32} {u u' : SX} (h : fJ7_fill_53178_a43 0 u = some (r, u')) : ∀ i : Nat, i < 41 → u'.2.1 43 i = 0 := fun i hi => by
  unfold fJ7_fill_53178_a43 at h
  generalize (5000 : Nat) = N1 at h
  exact fill_43 N1 0 u u' (by decide) h i hi (Or.inl (by show (0 : Int) ≤ _; omega))
/-- what the waves of the first m readings bound together -/
def BW (W : Nat → Int32) (L : Nat → Int32 × Int32) (m : Nat) (u : SX) : Prop := ∀ w : Nat, w < 41 → 0 ≤ (u.2.1 43 w).toInt ∧ (u.2.1 43 w).toInt ≤ (m : Int) ∧ ((u.2.1 43 w = 0 ∧ ∀ n, n < m → ¬ (W n).toNatClampNeg = w) ∨ (¬ u.2.1 43 w = 0 ∧ ∀ x : Int32, (u.2.1 44 w ≤ x ∧ x ≤ u.2.1 45 w) ↔ ∀ n, n < m → (W n).toNatClampNeg = w → ((L n).1 ≤ x ∧ x ≤ (L n).2)))
theorem le_mx {a b x : Int32} : (if a < b then b else a) ≤ x ↔ (a ≤ x ∧ b ≤ x) := by
  rw [Int32.le_iff_toInt_le, Int32.le_iff_toInt_le, Int32.le_iff_toInt_le]
  by_cases c : a < b
  · have c9 := ltI c
    rw [if_pos c]
    omega
  · have c9 := nltI c
    rw [if_neg c]
    omega
theorem le_mn {a b x : Int32} : x ≤ (if b < a then b else a) ↔ (x ≤ a ∧ x ≤ b) := by
  rw [Int32.le_iff_toInt_le, Int32.le_iff_toInt_le, Int32.le_iff_toInt_le]
  by_cases c : b < a
  · have c9 := ltI c
    rw [if_pos c]
    omega
  · have c9 := nltI c
    rw [if_neg c]
    omega
theorem BW_step {W : Nat → Int32} {L : Nat → Int32 × Int32} {m : Nat} {u u' : SX} {y44 y45 : Int32} (hW : (W m).toNatClampNeg < 41) (hm : m < 80) (h : BW W L m u) (k43 : u'.2.1 43 = upd (u.2.1 43) (W m).toNatClampNeg (u.2.1 43 (W m).toNatClampNeg + 1)) (k44 : u'.2.1 44 = upd (u.2.1 44) (W m).toNatClampNeg y44) (k45 : u'.2.1 45 = upd (u.2.1 45) (W m).toNatClampNeg y45) (hy : (u.2.1 43 (W m).toNatClampNeg = 0 ∧ y44 = (L m).1 ∧ y45 = (L m).2) ∨ (¬ u.2.1 43 (W m).toNatClampNeg = 0 ∧ y44 = (if u.2.1 44 (W m).toNatClampNeg < (L m).1 then (L m).1 else u.2.1 44 (W m).toNatClampNeg) ∧ y45 = (if (L m).2 < u.2.1 45 (W m).toNatClampNeg then (L m).2 else u.2.1 45 (W m).toNatClampNeg))) : BW W L (m + 1) u' := fun w hw => by
  obtain ⟨h0, h1, h2⟩ := h w hw
  rw [k43, k44, k45]
  by_cases c : w = (W m).toNatClampNeg
  · rw [c, upd_at, upd_at, upd_at]
    rw [c] at h0 h1 h2
    have e1 : (u.2.1 43 (W m).toNatClampNeg + 1).toInt = (u.2.1 43 (W m).toNatClampNeg).toInt + 1 := addc_t (by decide) (by omega) (by omega)
    refine ⟨by rw [e1]; omega, by rw [e1]; omega, Or.inr ⟨fun z => ?_, fun x => ?_⟩⟩
    · have z9 : (u.2.1 43 (W m).toNatClampNeg + 1).toInt = (0 : Int) := eqI z
      rw [e1] at z9
      omega
    · rcases hy with ⟨z, e44, e45⟩ | ⟨z, e44, e45⟩
      · rw [e44, e45]
        rcases h2 with ⟨-, q⟩ | ⟨q, -⟩
        · constructor
          · intro p n hn hc
            by_cases cn : n = m
            · rw [cn]; exact p
            · exact absurd hc (q n (by omega))
          · intro p
            exact p m (by omega) rfl
        · exact absurd z q
      · rw [e44, e45, le_mx, le_mn]
        rcases h2 with ⟨q, -⟩ | ⟨-, q⟩
        · exact absurd q z
        · constructor
          · intro p n hn hc
            by_cases cn : n = m
            · rw [cn]; exact ⟨p.1.2, p.2.2⟩
            · exact (q x).mp ⟨p.1.1, p.2.1⟩ n (by omega) hc
          · intro p
            have p1 := (q x).mpr (fun n hn hc => p n (by omega) hc)
            have p2 := p m (by omega) rfl
            exact ⟨⟨p1.1, p2.1⟩, ⟨p1.2, p2.2⟩⟩
  · rw [upd_ne c, upd_ne c, upd_ne c]
    refine ⟨h0, by omega, ?_⟩
    rcases h2 with ⟨q, p⟩ | ⟨q, p⟩
    · refine Or.inl ⟨q, fun n hn hc => ?_⟩
      by_cases cn : n = m
      · rw [cn] at hc
        exact c hc.symm
      · exact p n (by omega) hc
    · refine Or.inr ⟨q, fun x => (p x).trans ⟨fun g n hn hc => ?_, fun g n hn hc => g n (by omega) hc⟩⟩
      by_cases cn : n = m
      · rw [cn] at hc
        exact absurd hc.symm c
      · exact g n (by omega) hc
theorem bw_L {r : Int32} {u' : SX} {W : Nat → Int32} {L : Nat → Int32 × Int32} : ∀ (n : Nat) (z1 : Int32) (u : SX), 0 ≤ z1.toInt → z1.toInt ≤ (u.1 14).toInt → (u.1 14).toInt ≤ 80 → (∀ i : Nat, (i : Int) < (u.1 14).toInt → W i = u.2.1 36 (6 * i + 5) ∧ (W i).toNatClampNeg < 41) → (∀ i : Nat, (i : Int) < (u.1 14).toInt → L i = (u.2.1 38 i, u.2.1 39 i)) → BW W L z1.toNatClampNeg u → LX1_boundWaves_8_10 n z1 u = some (r, u') → BW W L (u.1 14).toNatClampNeg u' ∧ FrM mdX1_boundWaves_8 u u' := by
  intro n
  induction n with
  | zero => intro z1 u _ _ _ _ _ _ h; cases h
  | succ n ih =>
    intro z1 u h0 h9 b14 hW hL hB g
    have g : (if (u.1 14) ≤ z1 then (some (0, u)) else (gd (inb (((z1 * 6) + 6) - 1) 480) (lt (u.2.1 36 (((z1 * 6) + 6) - 1).toNatClampNeg) fun v5 => (gd (inb v5 41) (if (u.2.1 43 v5.toNatClampNeg) = 0 then (GX1_boundWaves_8_53 (LX1_boundWaves_8_10 n) z1 v5 1 u) else (GX1_boundWaves_8_53 (LX1_boundWaves_8_10 n) z1 v5 0 u)))))) = some (r, u') := g
    by_cases c : u.1 14 ≤ z1
    · rw [if_pos c] at g
      have c9 := leI c
      have e : u = u' := by cases g; rfl
      have ez : (u.1 14).toNatClampNeg = z1.toNatClampNeg := by
        show (u.1 14).toInt.toNat = z1.toInt.toNat
        rw [show (u.1 14).toInt = z1.toInt by omega]
      rw [← e, ez]
      exact ⟨hB, FrM_rf⟩
    · rw [if_neg c] at g
      have c9 := nleI c
      have zn : z1.toNatClampNeg = z1.toInt.toNat := rfl
      obtain ⟨-, g⟩ := gd_some g
      obtain ⟨v5, i5, g⟩ := lt_some g
      obtain ⟨-, g⟩ := gd_some g
      have m6 : (z1 * 6).toInt = z1.toInt * 6 := mulc_t (by decide) (by omega) (by omega)
      have a6 : (z1 * 6 + 6).toInt = z1.toInt * 6 + 6 := by rw [addc_t (n := 6) (by decide) (by rw [m6]; omega) (by rw [m6]; omega), m6]
      have s6 : (z1 * 6 + 6 - 1).toInt = z1.toInt * 6 + 6 - 1 := by rw [subc_t (n := 1) (by decide) (by rw [a6]; omega) (by rw [a6]; omega), a6]
      have n6 : (z1 * 6 + 6 - 1).toNatClampNeg = 6 * z1.toNatClampNeg + 5 := by
        show (z1 * 6 + 6 - 1).toInt.toNat = 6 * z1.toInt.toNat + 5
        rw [s6]
        omega
      obtain ⟨w1, w2⟩ := hW z1.toNatClampNeg (by rw [zn]; omega)
      rw [n6, ← w1] at i5
      rw [i5] at g
      have hLz := hL z1.toNatClampNeg (by rw [zn]; omega)
      have et : (z1 + 1).toInt = z1.toInt + 1 := addc_t (by decide) (by omega) (by omega)
      have en := ns1 h0 (show z1.toInt ≤ 5000 by omega)
      have fin : ∀ w : SX, FrM mdX1_boundWaves_8 u w → BW W L (z1.toNatClampNeg + 1) w → LX1_boundWaves_8_10 n (z1 + 1) w = some (r, u') → BW W L (u.1 14).toNatClampNeg u' ∧ FrM mdX1_boundWaves_8 u u' := fun w Fw Bw k => by
        obtain ⟨q1, q2⟩ := ih (z1 + 1) w (by rw [et]; omega) (by rw [et, Fw.1 14 (by decide)]; omega) (by rw [Fw.1 14 (by decide)]; exact b14) (fun i hi => by
          rw [Fw.1 14 (by decide)] at hi
          rw [Fw.2.1 36 (by decide)]
          exact hW i hi) (fun i hi => by
          rw [Fw.1 14 (by decide)] at hi
          rw [Fw.2.1 38 (by decide), Fw.2.1 39 (by decide)]
          exact hL i hi) (by rw [en]; exact Bw) k
        rw [Fw.1 14 (by decide)] at q1
        exact ⟨q1, FrM_tr Fw q2 (by decide)⟩
      have g133 : ∀ (w : SX) (y44 y45 : Int32), w = sA u 44 (upd (u.2.1 44) (W z1.toNatClampNeg).toNatClampNeg y44) → ((u.2.1 43 (W z1.toNatClampNeg).toNatClampNeg = 0 ∧ y44 = (L z1.toNatClampNeg).1 ∧ y45 = (L z1.toNatClampNeg).2) ∨ (¬ u.2.1 43 (W z1.toNatClampNeg).toNatClampNeg = 0 ∧ y44 = (if u.2.1 44 (W z1.toNatClampNeg).toNatClampNeg < (L z1.toNatClampNeg).1 then (L z1.toNatClampNeg).1 else u.2.1 44 (W z1.toNatClampNeg).toNatClampNeg) ∧ y45 = (if (L z1.toNatClampNeg).2 < u.2.1 45 (W z1.toNatClampNeg).toNatClampNeg then (L z1.toNatClampNeg).2 else u.2.1 45 (W z1.toNatClampNeg).toNatClampNeg))) → GX1_boundWaves_8_133 (LX1_boundWaves_8_10 n) z1 (W z1.toNatClampNeg) y45 (W z1.toNatClampNeg) w = some (r, u') → BW W L (u.1 14).toNatClampNeg u' ∧ FrM mdX1_boundWaves_8 u u' := fun w y44 y45 ew hy k => by
        unfold GX1_boundWaves_8_133 at k
        obtain ⟨-, k⟩ := gd_some k
        obtain ⟨u16, i16, k⟩ := lt_some k
        obtain ⟨-, k⟩ := gd_some k
        obtain ⟨-, k⟩ := gd_some k
        obtain ⟨u20, i20, k⟩ := lt_some k
        refine fin u20 ?_ ?_ k
        · rw [i20, i16, ew]
          exact FrM_sA (FrM_sA (FrM_sA FrM_rf (by decide)) (by decide)) (by decide)
        · refine BW_step (u := u) (y44 := y44) (y45 := y45) w2 (by rw [zn]; omega) hB ?_ ?_ ?_ hy
          · rw [i20, i16, ew]; rfl
          · rw [i20, i16, ew]; rfl
          · rw [i20, i16, ew]; rfl
      have l38 : u.2.1 38 z1.toNatClampNeg = (L z1.toNatClampNeg).1 := by rw [hLz]
      have l39 : u.2.1 39 z1.toNatClampNeg = (L z1.toNatClampNeg).2 := by rw [hLz]
      by_cases cz : u.2.1 43 (W z1.toNatClampNeg).toNatClampNeg = 0
      · rw [if_pos cz] at g
        unfold GX1_boundWaves_8_53 at g
        rw [if_neg (by decide)] at g
        obtain ⟨-, g⟩ := gd_some g
        unfold GX1_boundWaves_8_93 at g
        obtain ⟨-, g⟩ := gd_some g
        obtain ⟨u11, i11, g⟩ := lt_some g
        rw [if_neg (by decide)] at g
        obtain ⟨-, g⟩ := gd_some g
        have e39 : u11.2.1 39 z1.toNatClampNeg = (L z1.toNatClampNeg).2 := by rw [i11]; exact l39
        rw [e39] at g
        rw [l38] at i11
        exact g133 u11 _ _ i11 (Or.inl ⟨cz, rfl, rfl⟩) g
      · rw [if_neg cz] at g
        unfold GX1_boundWaves_8_53 at g
        rw [if_pos rfl] at g
        obtain ⟨-, g⟩ := gd_some g
        obtain ⟨-, g⟩ := gd_some g
        unfold GX1_boundWaves_8_93 at g
        obtain ⟨-, g⟩ := gd_some g
        obtain ⟨u11, i11, g⟩ := lt_some g
        rw [if_pos rfl] at g
        obtain ⟨-, g⟩ := gd_some g
        obtain ⟨-, g⟩ := gd_some g
        have e39 : u11.2.1 39 z1.toNatClampNeg = (L z1.toNatClampNeg).2 := by rw [i11]; exact l39
        have e45 : u11.2.1 45 = u.2.1 45 := by rw [i11]; rfl
        rw [e39, e45] at g
        rw [l38] at i11
        exact g133 u11 _ _ i11 (Or.inr ⟨cz, rfl, rfl⟩) g
/-- a guess fits with a over the first K readings -/
def FOK (u : SX) (g : Nat) (W : Nat → Int32) (L : Nat → Int32 × Int32) (K : Nat) (a : Int32) : Prop := ∀ n, n < K → ((L n).1 ≤ gv u g (W n) a ∧ gv u g (W n) a ≤ (L n).2)
theorem suits_L {z1 z2 r : Int32} {u' u0 : SX} {W : Nat → Int32} {L : Nat → Int32 × Int32} {K : Nat} (hx0 : 0 ≤ z1.toInt) (ba : 0 ≤ z2.toInt ∧ z2.toInt ≤ 60) (hWK : ∀ n, n < K → 1 ≤ (W n).toInt ∧ (W n).toInt ≤ 40) : ∀ (n : Nat) (z3 : Int32) (u : SX), IX u → LVG u → z1.toInt < (u.1 6).toInt → gv u = gv u0 → BW W L K u → 1 ≤ z3.toInt → (∀ i, i < K → (W i).toInt < z3.toInt → ((L i).1 ≤ gv u0 z1.toNatClampNeg (W i) z2 ∧ gv u0 z1.toNatClampNeg (W i) z2 ≤ (L i).2)) → LX1_suits_8_2 n z1 z2 z3 u = some (r, u') → StX mdX1_suits_8 u u' ∧ ((r = 1 ∧ FOK u0 z1.toNatClampNeg W L K z2) ∨ (r = 0 ∧ ¬ FOK u0 z1.toNatClampNeg W L K z2)) := by
  intro n
  induction n with
  | zero => intro z3 u _ _ _ _ _ _ _ h; cases h
  | succ n ih =>
    intro z3 u hI hL hx1 eg hB h1 hp g
    have g : (if 40 < z3 then (gd (isB 1) (some (1, u))) else (gd (inb z3 41) (if (u.2.1 43 z3.toNatClampNeg) ≤ 0 then (GX1_suits_8_50 (LX1_suits_8_2 n) z1 z2 z3 u) else ((fX1_guessed_8 z1 z3 z2 u).bind fun q => match q with | (r3, u4) => (gd (inb z3 41) (if r3 < (u4.2.1 44 z3.toNatClampNeg) then (gd (isB 0) (some (0, u4))) else (gd (inb z3 41) (if r3 ≤ (u4.2.1 45 z3.toNatClampNeg) then (GX1_suits_8_50 (LX1_suits_8_2 n) z1 z2 z3 u4) else (gd (isB 0) (some (0, u4))))))))))) = some (r, u') := g
    by_cases c : 40 < z3
    · rw [if_pos c] at g
      have c9 : (40 : Int) < z3.toInt := ltI c
      have e : (1 : Int32) = r ∧ u = u' := by cases (gd_some g).2; exact ⟨rfl, rfl⟩
      rw [← e.2]
      refine ⟨StX_rf hI, Or.inl ⟨e.1.symm, fun i hi => hp i hi ?_⟩⟩
      have := (hWK i hi).2
      omega
    · rw [if_neg c] at g
      have c9 : ¬ (40 : Int) < z3.toInt := nltI c
      have et : (z3 + 1).toInt = z3.toInt + 1 := addc_t (by decide) (by omega) (by omega)
      have zn : z3.toNatClampNeg = z3.toInt.toNat := rfl
      obtain ⟨-, g⟩ := gd_some g
      obtain ⟨q0, -, q2⟩ := hB z3.toNatClampNeg (by rw [zn]; omega)
      have same : ∀ i, i < K → (W i).toNatClampNeg = z3.toNatClampNeg → W i = z3 := fun i hi hc => by
        have b := hWK i hi
        have hc : (W i).toInt.toNat = z3.toInt.toNat := hc
        exact Int32.toInt.inj (by omega)
      by_cases cm : u.2.1 43 z3.toNatClampNeg ≤ 0
      · rw [if_pos cm] at g
        have cm9 : (u.2.1 43 z3.toNatClampNeg).toInt ≤ (0 : Int) := leI cm
        have z0 : u.2.1 43 z3.toNatClampNeg = 0 := Int32.toInt.inj (by show _ = (0 : Int); omega)
        rcases q2 with ⟨-, q⟩ | ⟨q, -⟩
        · have g : LX1_suits_8_2 n z1 z2 (z3 + 1) u = some (r, u') := g
          exact ih (z3 + 1) u hI hL hx1 eg hB (by rw [et]; omega) (fun i hi hw => by
            rw [et] at hw
            have nq := q i hi
            refine hp i hi ?_
            have b := hWK i hi
            have nq : ¬ (W i).toInt.toNat = z3.toInt.toNat := nq
            omega) g
        · exact absurd z0 q
      · rw [if_neg cm] at g
        have cm9 : ¬ (u.2.1 43 z3.toNatClampNeg).toInt ≤ (0 : Int) := nleI cm
        have z0 : ¬ u.2.1 43 z3.toNatClampNeg = 0 := fun z => cm9 (by rw [z]; exact Int.le_refl _)
        rcases q2 with ⟨q, -⟩ | ⟨-, q⟩
        · exact absurd q z0
        · obtain ⟨⟨r3, u4⟩, a3, g⟩ := bd_some g
          obtain ⟨er, s4⟩ := guessX hI hL hx0 hx1 ⟨h1, by omega⟩ ba a3
          have s4' : StX mdX1_suits_8 u u4 := ⟨s4.1, FrM_tr FrM_rf s4.2 (by decide)⟩
          obtain ⟨-, g⟩ := gd_some g
          rw [s4.2.2.1 44 (by decide), s4.2.2.1 45 (by decide)] at g
          rw [eg] at er
          have q := q r3
          by_cases c1 : r3 < u.2.1 44 z3.toNatClampNeg
          · rw [if_pos c1] at g
            have c19 := ltI c1
            have e : (0 : Int32) = r ∧ u4 = u' := by cases (gd_some g).2; exact ⟨rfl, rfl⟩
            rw [← e.2]
            refine ⟨s4', Or.inr ⟨e.1.symm, fun F => ?_⟩⟩
            have p := q.mpr (fun i hi hc => by
              have := F i hi
              rw [same i hi hc, ← er] at this
              exact this)
            have p9 := leI p.1
            omega
          · rw [if_neg c1] at g
            have c19 := nltI c1
            obtain ⟨-, g⟩ := gd_some g
            by_cases c2 : r3 ≤ u.2.1 45 z3.toNatClampNeg
            · rw [if_pos c2] at g
              have g : LX1_suits_8_2 n z1 z2 (z3 + 1) u4 = some (r, u') := g
              have p := q.mp ⟨Int32.le_iff_toInt_le.mpr (by omega), c2⟩
              have eg4 : gv u4 = gv u0 := (gv_fr s4.2.2.2.2.2).trans eg
              have hB4 : BW W L K u4 := by
                unfold BW at hB ⊢
                rw [s4.2.2.1 43 (by decide), s4.2.2.1 44 (by decide), s4.2.2.1 45 (by decide)]
                exact hB
              obtain ⟨f1, f2⟩ := ih (z3 + 1) u4 s4.1 (LVG_fr (s4.2.1 6 (by decide)) s4.2.2.2.2.2 hL) (by rw [s4.2.1 6 (by decide)]; exact hx1) eg4 hB4 (by rw [et]; omega) (fun i hi hw => by
                rw [et] at hw
                by_cases cw : (W i).toNatClampNeg = z3.toNatClampNeg
                · have := p i hi cw
                  rw [same i hi cw, ← er]
                  exact this
                · refine hp i hi ?_
                  have b := hWK i hi
                  have cw : ¬ (W i).toInt.toNat = z3.toInt.toNat := cw
                  omega) g
              exact ⟨StX_tr s4' f1 (by decide), f2⟩
            · rw [if_neg c2] at g
              have e : (0 : Int32) = r ∧ u4 = u' := by cases (gd_some g).2; exact ⟨rfl, rfl⟩
              rw [← e.2]
              refine ⟨s4', Or.inr ⟨e.1.symm, fun F => ?_⟩⟩
              have p := q.mpr (fun i hi hc => by
                have := F i hi
                rw [same i hi hc, ← er] at this
                exact this)
              exact c2 p.2
