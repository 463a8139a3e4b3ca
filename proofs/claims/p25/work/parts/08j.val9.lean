/-! worth of a law, sum, heard. -/
def okL4 (n : Nat) : Option Int32 → Bool
  | none => true
  | some j => decide (j < 0) || (n == 100 && j == 0) || (n == 97 && j == 1) || (n == 104 && j == 2) || (n == 101 && j == 3) || (n == 119 && j == 4) || (n == 108 && j == 5)
set_option maxRecDepth 100000 in
theorem lt4 : ∀ n : Fin 256, okL4 n.val (fJ0_indexOf_0f7a4_s4 (Int32.ofNat n.val)) = true := by decide +kernel
theorem LetR_4 {ρ L : Nat → Int32} (h0 : ρ 0 = L 100) (h1 : ρ 1 = L 97) (h2 : ρ 2 = L 104) (h3 : ρ 3 = L 101) (h4 : ρ 4 = L 119) (h5 : ρ 5 = L 108) : LetR ρ L 6 5 := by
  intro c j c1 c2 j0
  refine ⟨fun _ ej => ?_, fun z => absurd z (by decide), fun z => absurd z (by decide)⟩
  obtain ⟨n, en⟩ := fin_of (c := c) (by omega) c2
  have hn := fin_in en
  have q := lt4 n
  rw [← en, ej] at q
  have cn : c.toNatClampNeg = n.val := by
    show c.toInt.toNat = n.val
    omega
  unfold okL4 at q
  simp only [Bool.or_eq_true, Bool.and_eq_true, decide_eq_true_eq, beq_iff_eq] at q
  rw [cn]
  rcases q with (((((z | ⟨z, y⟩) | ⟨z, y⟩) | ⟨z, y⟩) | ⟨z, y⟩) | ⟨z, y⟩) | ⟨z, y⟩
  · have z9 : j.toInt < (0 : Int) := ltI z
    omega
  · rw [z, y]; exact ⟨h0, by decide, by decide⟩
  · rw [z, y]; exact ⟨h1, by decide, by decide⟩
  · rw [z, y]; exact ⟨h2, by decide, by decide⟩
  · rw [z, y]; exact ⟨h3, by decide, by decide⟩
  · rw [z, y]; exact ⟨h4, by decide, by decide⟩
  · rw [z, y]; exact ⟨h5, by decide, by decide⟩
def AimX (u : SX) (d a h e w l : Int32) : Prop := u.2.1 16 0 = d ∧ u.2.1 16 1 = a ∧ u.2.1 16 2 = h ∧ u.2.1 16 3 = e ∧ u.2.1 16 4 = w ∧ u.2.1 16 5 = l
theorem setV {k : Nat} {x1 x2 r : Int32} {u u' : SX} (h0 : ¬ x1 < 0) (h6 : ¬ 6 ≤ x1) (hk : x1.toNatClampNeg = k) (h : fX8_set_3 x1 x2 u = some (r, u')) : u'.2.1 16 = upd (u.2.1 16) k x2 := by
  unfold fX8_set_3 at h
  rw [if_neg h0, if_neg h6] at h
  obtain ⟨-, h⟩ := gd_some h
  obtain ⟨u2, e2, h⟩ := lt_some h
  have e : u2 = u' := by cases h; rfl
  rw [← e, e2, ← hk]
  rfl
theorem aimV {d a h e w l r : Int32} {u u' : SX} (g : fX8_setAim_3 d a h e w l u = some (r, u')) : AimX u' d a h e w l := by
  unfold fX8_setAim_3 at g
  obtain ⟨⟨r1, u2⟩, a1, g⟩ := bd_some g
  obtain ⟨⟨r4, u5⟩, a4, g⟩ := bd_some g
  obtain ⟨⟨r7, u8⟩, a7, g⟩ := bd_some g
  obtain ⟨⟨r10, u11⟩, a10, g⟩ := bd_some g
  obtain ⟨⟨r13, u14⟩, a13, g⟩ := bd_some g
  obtain ⟨⟨r16, u17⟩, a16, g⟩ := bd_some g
  have eu : u17 = u' := by cases g; rfl
  have k1 := setV (k := 0) (by decide) (by decide) (by decide) a1
  have k4 := setV (k := 1) (by decide) (by decide) (by decide) a4
  have k7 := setV (k := 2) (by decide) (by decide) (by decide) a7
  have k10 := setV (k := 3) (by decide) (by decide) (by decide) a10
  have k13 := setV (k := 4) (by decide) (by decide) (by decide) a13
  have k16 := setV (k := 5) (by decide) (by decide) (by decide) a16
  unfold AimX
  rw [← eu, k16, k13, k10, k7, k4, k1]
  exact ⟨rfl, rfl, rfl, rfl, rfl, rfl⟩
theorem has3i {x r : Int32} {u u' : SX} (h : fX8_has_3 x u = some (r, u')) : u' = u ∧ ((r = 0 ∧ ¬ (0 ≤ x.toInt ∧ x.toInt < (u.1 5).toInt)) ∨ (r = 1 ∧ 0 ≤ x.toInt ∧ x.toInt < (u.1 5).toInt)) := by
  unfold fX8_has_3 at h
  by_cases c : x < 0
  · rw [if_pos c] at h
    have c9 : x.toInt < (0 : Int) := ltI c
    have e : (0 : Int32) = r ∧ u = u' := by cases (gd_some h).2; exact ⟨rfl, rfl⟩
    exact ⟨e.2.symm, Or.inl ⟨e.1.symm, by omega⟩⟩
  · rw [if_neg c] at h
    have c9 : ¬ x.toInt < (0 : Int) := nltI c
    by_cases d : u.1 5 ≤ x
    · rw [if_pos d] at h
      have d9 := leI d
      have e : (0 : Int32) = r ∧ u = u' := by cases (gd_some h).2; exact ⟨rfl, rfl⟩
      exact ⟨e.2.symm, Or.inl ⟨e.1.symm, by omega⟩⟩
    · rw [if_neg d] at h
      have d9 := nleI d
      have e : (1 : Int32) = r ∧ u = u' := by cases (gd_some h).2; exact ⟨rfl, rfl⟩
      exact ⟨e.2.symm, Or.inr ⟨e.1.symm, by omega, by omega⟩⟩
/-- a law's worth is alike -/
theorem ask3V {x1 d a h e w l r r' : Int32} {u u' v v' : SX} (hJ : IM v) (hV : TieV u v) (hx0 : 0 ≤ x1.toInt) (hx1 : x1.toInt < (u.1 5).toInt) (h12 : (u.1 5).toInt ≤ 12) (ha : AimX u d a h e w l) (h1 : fX8_ask_3 x1 u = some (r, u')) (h2 : fX12_lawWorth_0 x1 d a h e w l v = some (r', v')) : r = r' := by
  obtain ⟨p0, p1, p2, p3, p4, p5⟩ := ha
  have en : x1.toNatClampNeg = x1.toInt.toNat := rfl
  obtain ⟨k, t1, t2, t3⟩ := hV.1 x1.toNatClampNeg (by rw [en]; omega)
  unfold fX8_ask_3 at h1
  obtain ⟨⟨s1, u2⟩, a1, h1⟩ := bd_some h1
  obtain ⟨eu, hs⟩ := has3i a1
  have n1 : ¬ s1 = 0 := by
    rcases hs with ⟨-, z⟩ | ⟨z, -⟩
    · exact absurd ⟨hx0, hx1⟩ z
    · exact ne01 z
  rw [eu] at h1
  have h1 : (if s1 = 0 then (GX8_ask_3_18 u) else (gd (inb x1 12) (tcs (tQ u 15 x1.toNatClampNeg) (tN u) (GX8_ask_3_18 u) (fun k5 => (GX8_ask_3_18a k5 u))))) = some (r, u') := h1
  rw [if_neg n1] at h1
  obtain ⟨-, h1⟩ := gd_some h1
  obtain ⟨-, h1⟩ := tcs_s t1 h1
  unfold GX8_ask_3_18a at h1
  obtain ⟨-, h1⟩ := gd_some h1
  obtain ⟨⟨r7, u8⟩, a7, h1⟩ := bd_some h1
  have er : r7 = r := by cases h1; rfl
  unfold fX12_lawWorth_0 at h2
  obtain ⟨⟨q1, y2⟩, b1, h2⟩ := bd_some h2
  have fy : StM mdX12_noLetters_0 v y2 := (Tot_at (tfX12_noLetters_0 v hJ) b1).1
  obtain ⟨-, h2⟩ := gd_some h2
  obtain ⟨y5, i5, h2⟩ := lt_some h2
  obtain ⟨-, h2⟩ := gd_some h2
  obtain ⟨y8, i8, h2⟩ := lt_some h2
  obtain ⟨-, h2⟩ := gd_some h2
  obtain ⟨y11, i11, h2⟩ := lt_some h2
  obtain ⟨-, h2⟩ := gd_some h2
  obtain ⟨y14, i14, h2⟩ := lt_some h2
  obtain ⟨-, h2⟩ := gd_some h2
  obtain ⟨y17, i17, h2⟩ := lt_some h2
  obtain ⟨-, h2⟩ := gd_some h2
  obtain ⟨y20, i20, h2⟩ := lt_some h2
  obtain ⟨⟨q22, y23⟩, b22, h2⟩ := bd_some h2
  have e2 : q22 = r' := by cases h2; rfl
  unfold fX12_worthOf_0 at b22
  obtain ⟨P, iP, b22⟩ := lt_some b22
  obtain ⟨-, b22⟩ := gd_some b22
  obtain ⟨⟨q4, z5⟩, b4, b22⟩ := bd_some b22
  have e22 : z5.1 9 = q22 := by cases b22; rfl
  have r2 : y20.2.1 2 = v.2.1 2 := by
    rw [i20, i17, i14, i11, i8, i5]
    exact fy.2.2.1 2 (by decide)
  have r3 : y20.2.1 3 = v.2.1 3 := by
    rw [i20, i17, i14, i11, i8, i5]
    exact fy.2.2.1 3 (by decide)
  have r5 : y20.2.1 5 = upd (upd (upd (upd (upd (upd (y2.2.1 5) 100 d) 97 a) 104 h) 101 e) 119 w) 108 l := by
    rw [i20, i17, i14, i11, i8, i5]
    rfl
  have tP : P.toInt = x1.toInt := by
    rw [iP, cadd_t (n := 0) (by decide) (by omega) (by omega)]
    omega
  have nP : P.toNatClampNeg = 12 * 0 + x1.toNatClampNeg := by
    show P.toInt.toNat = 12 * 0 + x1.toInt.toNat
    omega
  have tB : (120 * P).toInt = 120 * P.toInt := cmul_t (by decide) (by omega) (by omega)
  have nB : (120 * P).toNatClampNeg = 120 * (12 * 0 + x1.toNatClampNeg) := by
    show (120 * P).toInt.toNat = 120 * (12 * 0 + x1.toInt.toNat)
    rw [tB, tP]
    omega
  have hL : LetR (u.2.1 16) (y20.2.1 5) 6 (srtT 0) := by
    refine LetR_4 ?_ ?_ ?_ ?_ ?_ ?_
    · rw [p0, r5]; rfl
    · rw [p1, r5]; rfl
    · rw [p2, r5]; rfl
    · rw [p3, r5]; rfl
    · rw [p4, r5]; rfl
    · rw [p5, r5]; rfl
  rw [nP, r3] at b4
  obtain ⟨g1, g2⟩ := t3 (u.2.1 16) (y20.2.1 5) 6 (120 * P) y20 z5 q4 hL rfl ⟨by rw [tB]; omega, by rw [tB]; omega⟩ (fun i _ => by rw [nB, r2]) b4
  have fin := worthV0 g1 (fun _ _ => rfl) g2 a7
  rw [← er, ← e2, ← e22]
  exact fin
/-- every part's law is one of the laws -/
def PL (u : SX) : Prop := ∀ i : Nat, (i : Int) < (u.1 8).toInt → 0 ≤ (u.2.1 24 i).toInt ∧ (u.2.1 24 i).toInt < (u.1 5).toInt
theorem PL_fr {u u' : SX} (h8 : u'.1 8 = u.1 8) (h5 : u'.1 5 = u.1 5) (h24 : u'.2.1 24 = u.2.1 24) (h : PL u) : PL u' := by
  unfold PL at h ⊢
  rw [h8, h5, h24]
  exact h
theorem PL_0 : PL uX := fun i hi => by
  have hi : (i : Int) < 0 := hi
  omega
theorem ct1 {k n : Nat} (h : Nat.beq k n = false) : [n].contains k = false := by
  have hne : ¬ k = n := fun z => by
    rw [z, Nat.beq_refl] at h
    cases h
  simp [hne]
/-- the same but for the stack -/
def XS (u ux : SX) : Prop := (∀ k, ux.1 k = u.1 k) ∧ (∀ k, Nat.beq k 17 = false → ux.2.1 k = u.2.1 k) ∧ ux.2.2.2.2 = u.2.2.2.2 ∧ IX ux
theorem XS_rf {u : SX} (h : IX u) : XS u u := ⟨fun _ => rfl, fun _ _ => rfl, rfl, h⟩
theorem XS_ask {x r : Int32} {u ux uy : SX} (h : XS u ux) (hx : 0 ≤ x.toInt ∧ x.toInt ≤ 11) (ha : fX8_ask_3 x ux = some (r, uy)) : XS u uy := by
  have st := (Tot_at (tfX8_ask_3 x ux h.2.2.2 hx) ha).1
  refine ⟨fun k => (st.2.1 k (by rfl)).trans (h.1 k), fun k hk => (st.2.2.1 k ?_).trans (h.2.1 k hk), st.2.2.2.2.2.trans h.2.2.1, st.1⟩
  exact ct1 hk
theorem XS_V {u ux v : SX} (h : XS u ux) (hV : TieV u v) : TieV ux v := TieV_fr (h.1 5) (h.1 6) (h.1 7) h.2.2.1 rfl rfl hV
theorem XS_A {u ux : SX} {d a h e w l : Int32} (hx : XS u ux) (ha : AimX u d a h e w l) : AimX ux d a h e w l := by
  unfold AimX at ha ⊢
  rw [hx.2.1 16 rfl]
  exact ha
def Bn (x : Int32) : Prop := 0 ≤ x.toInt ∧ x.toInt ≤ 40
/-- the laws' worths of all parts, as the reference lays them -/
theorem layW {d a h e w l : Int32} {u : SX} (h12 : (u.1 5).toInt ≤ 12) (bd : Bn d) (ba : Bn a) (bh : Bn h) (be : Bn e) (bw : Bn w) (bl : Bn l) (hA : AimX u d a h e w l) : ∀ (n : Nat) (z7 r' : Int32) (v v' : SX), IM v → TieV u v → (∀ i : Nat, (i : Int) < (v.1 12).toInt → 0 ≤ (v.2.1 6 i).toInt ∧ (v.2.1 6 i).toInt < (u.1 5).toInt) → 0 ≤ z7.toInt → z7.toInt ≤ 12 → LX12_layWorths_0_3 n d a h e w l z7 v = some (r', v') → IM v' ∧ v'.1 12 = v.1 12 ∧ (∀ j, Nat.beq j 5 = false → Nat.beq j 18 = false → v'.2.1 j = v.2.1 j) ∧ (∀ i : Nat, (i : Int) < z7.toInt → v'.2.1 18 i = v.2.1 18 i) ∧ ∀ i : Nat, z7.toInt ≤ (i : Int) → (i : Int) < (v.1 12).toInt → ∀ (ux ux' : SX) (r : Int32), XS u ux → fX8_ask_3 (v.2.1 6 i) ux = some (r, ux') → v'.2.1 18 i = r := by
  intro n
  induction n with
  | zero => intro z7 r' v v' _ _ _ _ _ h; cases h
  | succ n ih =>
    intro z7 r' v v' hJ hV hl h0 h1 g
    have b12 : (v.1 12).toInt ≤ (12 : Int) := (hJ.1 12).2
    have g : (if (v.1 12) ≤ z7 then (some (0, v)) else (gd (inb z7 12) ((fX12_lawWorth_0 (v.2.1 6 z7.toNatClampNeg) d a h e w l v).bind fun q => match q with | (r2, u3) => (gd (inb z7 12) (lt (sA u3 18 (upd (u3.2.1 18) z7.toNatClampNeg r2)) fun u6 => ((LX12_layWorths_0_3 n) d a h e w l (z7 + 1) u6)))))) = some (r', v') := g
    by_cases c : v.1 12 ≤ z7
    · rw [if_pos c] at g
      have c9 := leI c
      have ev : v = v' := by cases g; rfl
      rw [← ev]
      exact ⟨hJ, rfl, fun _ _ _ => rfl, fun _ _ => rfl, fun i h2 h3 => by omega⟩
    · rw [if_neg c] at g
      have c9 := nleI c
      have en : z7.toNatClampNeg = z7.toInt.toNat := rfl
      obtain ⟨-, g⟩ := gd_some g
      obtain ⟨⟨r2, v3⟩, a2, g⟩ := bd_some g
      obtain ⟨-, g⟩ := gd_some g
      obtain ⟨v6, i6, g⟩ := lt_some g
      have hl7 := hl z7.toNatClampNeg (by rw [en]; omega)
      have st : StM mdX12_lawWorth_0 v v3 := (Tot_at (tfX12_lawWorth_0 (v.2.1 6 z7.toNatClampNeg) d a h e w l v hJ ⟨hl7.1, by omega⟩ bd ba bh be bw bl) a2).1
      have J6 : IM v6 := by
        rw [i6]
        exact (StM_sAf (md := ([], [18], [], [])) (StM_rf st.1) (by decide) rfl rfl (by decide)).1
      have f12 : v6.1 12 = v.1 12 := by
        rw [i6]
        exact st.2.1 12 (by decide)
      have fr : ∀ j, Nat.beq j 5 = false → Nat.beq j 18 = false → v6.2.1 j = v.2.1 j := fun j j5 j18 => by
        rw [i6]
        show (bif Nat.beq j 18 then _ else v3.2.1 j) = _
        rw [j18]
        refine st.2.2.1 j ?_
        exact ct1 j5
      have k18 : v6.2.1 18 = upd (v.2.1 18) z7.toNatClampNeg r2 := by
        rw [i6]
        show upd (v3.2.1 18) z7.toNatClampNeg r2 = _
        rw [st.2.2.1 18 (by decide)]
      have V6 : TieV u v6 := TieV_fr rfl rfl rfl rfl (fr 2 rfl rfl) (fr 3 rfl rfl) hV
      have e1 : (z7 + 1).toInt = z7.toInt + 1 := addc_t (by decide) (by omega) (by omega)
      obtain ⟨q1, q2, q3, q4, q5⟩ := ih (z7 + 1) r' v6 v' J6 V6 (fun i hi => by
        rw [f12] at hi
        rw [fr 6 rfl rfl]
        exact hl i hi) (by rw [e1]; omega) (by rw [e1]; omega) g
      refine ⟨q1, q2.trans f12, fun j j5 j18 => (q3 j j5 j18).trans (fr j j5 j18), fun i hi => ?_, fun i h2 h3 ux ux' r hx hax => ?_⟩
      · rw [q4 i (by rw [e1]; omega), k18, upd_ne (by rw [en]; omega)]
      · by_cases ci : i = z7.toNatClampNeg
        · rw [q4 i (by rw [e1, ci, en]; omega), k18, ci, upd_at]
          rw [ci] at hax
          exact (ask3V hJ (XS_V hx hV) hl7.1 (by rw [hx.1 5]; exact hl7.2) (by rw [hx.1 5]; exact h12) (XS_A hx hA) hax a2).symm
        · have ci : ¬ i = z7.toInt.toNat := ci
          exact q5 i (by rw [e1]; omega) (by rw [f12]; exact h3) ux ux' r hx (by rw [fr 6 rfl rfl]; exact hax)
theorem trueS {u v : SX} (hp : u.1 8 = v.1 12) (b8 : (u.1 8).toInt ≤ 12) (hb : ∀ i : Nat, (i : Int) < (u.1 8).toInt → 0 ≤ (u.2.1 24 i).toInt ∧ (u.2.1 24 i).toInt ≤ 11) (ht : ∀ i : Nat, (i : Int) < (u.1 8).toInt → u.2.1 26 i = v.2.1 9 i) (hw : ∀ i : Nat, (i : Int) < (u.1 8).toInt → ∀ (ux ux' : SX) (r : Int32), XS u ux → fX8_ask_3 (u.2.1 24 i) ux = some (r, ux') → v.2.1 18 i = r) : ∀ (n m : Nat) (z1 z2 r r' : Int32) (ux ux' v' : SX), XS u ux → 0 ≤ z2.toInt → z2.toInt ≤ 12 → LX11_trueSum_0_4 n z1 z2 ux = some (r, ux') → LX12_trueSum_0_22 m z1 z2 v = some (r', v') → r = r' := by
  intro n
  induction n with
  | zero => intro m z1 z2 r r' ux ux' v' _ _ _ h; cases h
  | succ n ih =>
    intro m z1 z2 r r' ux ux' v' hx h0 h9 h1 h2
    cases m with
    | zero => cases h2
    | succ m =>
      have h1 : (if (ux.1 8) ≤ z2 then (some (z1, ux)) else (gd (inb z2 12) (gd (inb z2 12) ((fX8_ask_3 (ux.2.1 24 z2.toNatClampNeg) ux).bind fun q => match q with | (r3, u4) => ((fX11_shine (ux.2.1 26 z2.toNatClampNeg) r3).bind fun r6 => (lt (z1 + r6) fun v9 => ((LX11_trueSum_0_4 n) v9 (z2 + 1) u4))))))) = some (r, ux') := h1
      have h2 : (if (v.1 12) ≤ z2 then (some (z1, v)) else (gd (inb z2 12) (gd (inb z2 12) ((fX12_shines (v.2.1 9 z2.toNatClampNeg) (v.2.1 18 z2.toNatClampNeg)).bind fun r9 => (lt (z1 + r9) fun v12 => ((LX12_trueSum_0_22 m) v12 (z2 + 1) v)))))) = some (r', v') := h2
      rw [hx.1 8] at h1
      rw [← hp] at h2
      by_cases c : u.1 8 ≤ z2
      · rw [if_pos c] at h1 h2
        have e1 : z1 = r := by cases h1; rfl
        have e2 : z1 = r' := by cases h2; rfl
        rw [← e1, ← e2]
      · rw [if_neg c] at h1 h2
        have c9 := nleI c
        have en : z2.toNatClampNeg = z2.toInt.toNat := rfl
        have hi : ((z2.toNatClampNeg : Nat) : Int) < (u.1 8).toInt := by rw [en]; omega
        obtain ⟨-, h1⟩ := gd_some h1
        obtain ⟨-, h1⟩ := gd_some h1
        obtain ⟨-, h2⟩ := gd_some h2
        obtain ⟨-, h2⟩ := gd_some h2
        rw [hx.2.1 24 rfl, hx.2.1 26 rfl] at h1
        obtain ⟨⟨r3, u4⟩, a3, h1⟩ := bd_some h1
        have ew := hw z2.toNatClampNeg hi ux u4 r3 hx a3
        rw [ew, ← ht z2.toNatClampNeg hi] at h2
        obtain ⟨r6, a6, h1⟩ := bd_some h1
        obtain ⟨r9, b9, h2⟩ := bd_some h2
        have e69 : r6 = r9 := Option.some.inj (a6.symm.trans (show fX11_shine (u.2.1 26 z2.toNatClampNeg) r3 = some r9 from b9))
        obtain ⟨v9, i9, h1⟩ := lt_some h1
        obtain ⟨v12, i12, h2⟩ := lt_some h2
        have e912 : v12 = v9 := by rw [i12, i9, e69]
        rw [e912] at h2
        have ez : (z2 + 1).toInt = z2.toInt + 1 := addc_t (by decide) (by omega) (by omega)
        exact ih m v9 (z2 + 1) r r' u4 ux' v' (XS_ask hx (hb _ hi) a3) (by rw [ez]; omega) (by rw [ez]; omega) h1 h2
/-- what all truly shines, with the laws set to an aim -/
theorem trueSumV {x1 d a h e w l r r' : Int32} {u u0 u' v v' : SX} (hI0 : IX u0) (hJ : IM v) (hp : TieP u v) (hS : TieS u v) (hV : TieV u v) (hPL : PL u) (bx : 0 ≤ x1.toInt ∧ x1.toInt ≤ 120) (bd : Bn d) (ba : Bn a) (bh : Bn h) (bw : Bn w) (bl : Bn l) (hs : fX11_seasonOf x1 = some e) (st : StX mdX8_setAim_3 u u0) (hA : AimX u0 d a h e w l) (h1 : fX11_trueSum_0 u0 = some (r, u')) (h2 : fX12_trueSum_0 x1 d a h w l v = some (r', v')) : r = r' := by
  unfold fX12_trueSum_0 at h2
  obtain ⟨e', b1, h2⟩ := bd_some h2
  have ee : e = e' := Option.some.inj (hs.symm.trans (show fX11_seasonOf x1 = some e' from b1))
  rw [← ee] at h2
  have be0 := (Tot_at (tfX11_seasonOf x1 bx) hs).1
  have be : Bn e := ⟨be0.1, by have := be0.2; omega⟩
  obtain ⟨⟨r4, v5⟩, b4, h2⟩ := bd_some h2
  have h2 : LX12_trueSum_0_22 5000 0 0 v5 = some (r', v') := h2
  unfold fX12_layWorths_0 at b4
  unfold fX11_trueSum_0 at h1
  generalize (5000 : Nat) = N1 at h1
  generalize (5000 : Nat) = N2 at h2
  generalize (5000 : Nat) = N3 at b4
  have f5 : u0.1 5 = u.1 5 := st.2.1 5 (by decide)
  have f8 : u0.1 8 = u.1 8 := st.2.1 8 (by decide)
  have f6 : u0.1 6 = u.1 6 := st.2.1 6 (by decide)
  have f7 : u0.1 7 = u.1 7 := st.2.1 7 (by decide)
  have r24 : u0.2.1 24 = u.2.1 24 := st.2.2.1 24 (by decide)
  have r26 : u0.2.1 26 = u.2.1 26 := st.2.2.1 26 (by decide)
  have V0 : TieV u0 v := TieV_fr f5 f6 f7 st.2.2.2.2.2 rfl rfl hV
  have b5 : (u0.1 5).toInt ≤ (12 : Int) := (hI0.1 5).2
  have b8 : (u0.1 8).toInt ≤ (12 : Int) := (hI0.1 8).2
  have hl : ∀ i : Nat, (i : Int) < (v.1 12).toInt → 0 ≤ (v.2.1 6 i).toInt ∧ (v.2.1 6 i).toInt < (u0.1 5).toInt := fun i hi => by
    rw [← hp.1] at hi
    rw [← (hS.2.1 i hi).1, f5]
    exact hPL i hi
  obtain ⟨q1, q2, q3, -, q5⟩ := layW b5 bd ba bh be bw bl hA N3 0 r4 v v5 hJ V0 hl (by decide) (by decide) b4
  refine trueS (u := u0) (v := v5) (by rw [f8, q2]; exact hp.1) b8 (fun i hi => ?_) (fun i hi => ?_) (fun i hi ux ux' rr hx ha => ?_) N1 N2 0 0 r r' u0 u' v' (XS_rf hI0) (by decide) (by decide) h1 h2
  · rw [f8] at hi
    rw [r24]
    obtain ⟨x, y⟩ := hPL i hi
    rw [f5] at b5
    exact ⟨x, by omega⟩
  · rw [f8] at hi
    rw [r26, q3 9 rfl rfl]
    exact (hS.2.1 i hi).2.2.1
  · rw [f8] at hi
    refine q5 i (by show (0 : Int) ≤ _; omega) (by rw [← hp.1]; exact hi) ux ux' rr hx ?_
    rw [← (hS.2.1 i hi).1, ← r24]
    exact ha
theorem aimB {d a h w l q : Int32} (hq : fX11_isAim d a h w l = some q) (c : ¬ q = 0) : (0 ≤ d.toInt ∧ d.toInt ≤ 15) ∧ (0 ≤ a.toInt ∧ a.toInt ≤ 9) ∧ (0 ≤ h.toInt ∧ h.toInt ≤ 23) ∧ (0 ≤ w.toInt ∧ w.toInt ≤ 9) ∧ (1 ≤ l.toInt ∧ l.toInt ≤ 40) := by
  obtain ⟨z1, z2, z3, z4, z5, z6, z7, z8, z9, z10⟩ := (Tot_at (tfX11_isAim d a h w l) hq).2 (neI c)
  exact ⟨⟨z1, z2⟩, ⟨z3, z4⟩, ⟨z5, z6⟩, ⟨z7, z8⟩, ⟨z9, z10⟩⟩
theorem sum_eqV {x1 x2 x3 x4 x5 x6 r r' : Int32} {u u' v v' : SX} (hI : IX u) (hJ : IM v) (hp : TieP u v) (hS : TieS u v) (hV : TieV u v) (hPL : PL u) (h1 : fX11_sum_0 x1 x2 x3 x4 x5 x6 u = some (r, u')) (h2 : fX12_sum__0 x1 x2 x3 x4 x5 x6 v = some (r', v')) : r = r' := by
  unfold fX11_sum_0 at h1
  unfold fX12_sum__0 at h2
  obtain ⟨v1, e1, h2⟩ := lt_some h2
  have J1 : IM v1 := by rw [e1]; exact (StM_sI (md := ([0], [], [], [])) (StM_rf hJ) (by decide) (by decide) (by decide)).1
  have p1 : TieP u v1 := by rw [e1]; exact hp
  have S1 : TieS u v1 := by rw [e1]; exact TieS_of (fun _ _ => rfl) (fun _ _ => rfl) rfl (fun _ _ => rfl) hS
  have V1 : TieV u v1 := by rw [e1]; exact hV
  clear e1
  obtain ⟨s1, a1, h1⟩ := bd_some h1
  obtain ⟨s1', b1, h2⟩ := bd_some h2
  have es1 : s1 = s1' := Option.some.inj (a1.symm.trans (show fX11_within x1 0 120 = some s1' from b1))
  rw [← es1] at h2
  have same : ∀ {w1 w2 : SX}, some ((-100000000 : Int32), w1) = some (r, u') → some ((-100000000 : Int32), w2) = some (r', v') → r = r' := fun {w1 w2} g1 g2 => by
    have x1 : (-100000000 : Int32) = r := by cases g1; rfl
    have x2 : (-100000000 : Int32) = r' := by cases g2; rfl
    rw [← x1, ← x2]
  rcases win a1 with ⟨z, -⟩ | ⟨z, w0, w1⟩
  · rw [if_pos z] at h1 h2
    exact same h1 h2
  · rw [if_neg (ne01 z)] at h1 h2
    obtain ⟨s4, a4, h1⟩ := bd_some h1
    obtain ⟨s4', b4, h2⟩ := bd_some h2
    have es4 : s4 = s4' := Option.some.inj (a4.symm.trans (show fX11_isAim x2 x3 x4 x5 x6 = some s4' from b4))
    rw [← es4] at h2
    by_cases c4 : s4 = 0
    · rw [if_pos c4] at h1 h2
      exact same h1 h2
    · rw [if_neg c4] at h1 h2
      obtain ⟨z2, z3, z4, z5, z6⟩ := aimB a4 c4
      obtain ⟨e, a7, h1⟩ := bd_some h1
      obtain ⟨⟨r10, u11⟩, a10, h1⟩ := bd_some h1
      obtain ⟨⟨r13, u14⟩, a13, h1⟩ := bd_some h1
      obtain ⟨⟨r9, v10⟩, b9, h2⟩ := bd_some h2
      have er : r13 = r := by cases h1; rfl
      have er' : r9 = r' := by cases h2; rfl
      have w0 : (0 : Int) ≤ x1.toInt := w0
      have w1 : x1.toInt ≤ (120 : Int) := w1
      have be := (Tot_at (tfX11_seasonOf x1 ⟨w0, w1⟩) a7).1
      have st : StX mdX8_setAim_3 u u11 := (Tot_at (tfX8_setAim_3 x2 x3 x4 e x5 x6 u hI z2 z3 z4 be z5 z6) a10).1
      rw [← er, ← er']
      exact trueSumV st.1 J1 p1 S1 V1 hPL ⟨w0, w1⟩ ⟨z2.1, by omega⟩ ⟨z3.1, by omega⟩ ⟨z4.1, by omega⟩ ⟨z5.1, by omega⟩ ⟨by omega, z6.2⟩ a7 st (aimV a10) a13 b9
theorem heard_eqV {x1 x2 x3 x4 x5 x6 r r' : Int32} {x7 : Int64} {u u' v v' : SX} (hI : IX u) (hJ : IM v) (ht : Tie u v) (hp : TieP u v) (hS : TieS u v) (hV : TieV u v) (hPL : PL u) (h1 : fX11_heard_0 x1 x2 x3 x4 x5 x6 x7 u = some (r, u')) (h2 : fX12_heard_0 x1 x2 x3 x4 x5 x6 x7 v = some (r', v')) : r = r' := by
  unfold fX11_heard_0 at h1
  unfold fX12_heard_0 at h2
  obtain ⟨v1, e1, h2⟩ := lt_some h2
  have J1 : IM v1 := by rw [e1]; exact (StM_sI (md := ([0], [], [], [])) (StM_rf hJ) (by decide) (by decide) (by decide)).1
  have p1 : TieP u v1 := by rw [e1]; exact hp
  have S1 : TieS u v1 := by rw [e1]; exact TieS_of (fun _ _ => rfl) (fun _ _ => rfl) rfl (fun _ _ => rfl) hS
  have V1 : TieV u v1 := by rw [e1]; exact hV
  have t1 : v1.1 1 = u.1 0 := by rw [e1]; exact ht.1.symm
  clear e1
  rw [t1] at h2
  obtain ⟨s4, a4, h1⟩ := bd_some h1
  obtain ⟨s4', b4, h2⟩ := bd_some h2
  have es4 : s4 = s4' := Option.some.inj (a4.symm.trans (show fX11_isAim x1 x2 x3 x4 x5 = some s4' from b4))
  rw [← es4] at h2
  have same : ∀ {w1 w2 : SX}, some ((-100000000 : Int32), w1) = some (r, u') → some ((-100000000 : Int32), w2) = some (r', v') → r = r' := fun {w1 w2} g1 g2 => by
    have x1 : (-100000000 : Int32) = r := by cases g1; rfl
    have x2 : (-100000000 : Int32) = r' := by cases g2; rfl
    rw [← x1, ← x2]
  by_cases c4 : s4 = 0
  · rw [if_pos c4] at h1 h2
    exact same h1 h2
  · rw [if_neg c4] at h1 h2
    obtain ⟨z2, z3, z4, z5, z6⟩ := aimB a4 c4
    obtain ⟨s6, a6, h1⟩ := bd_some h1
    obtain ⟨s6', b6, h2⟩ := bd_some h2
    have es6 : s6 = s6' := Option.some.inj (a6.symm.trans (show fX11_within x6 0 50 = some s6' from b6))
    rw [← es6] at h2
    by_cases c6 : s6 = 0
    · rw [if_pos c6] at h1 h2
      exact same h1 h2
    · rw [if_neg c6] at h1 h2
      obtain ⟨e, a7, h1⟩ := bd_some h1
      obtain ⟨⟨r10, u11⟩, a10, h1⟩ := bd_some h1
      obtain ⟨v13, i13, h1⟩ := lt_some h1
      obtain ⟨⟨r15, u16⟩, a15, h1⟩ := bd_some h1
      obtain ⟨v9, i9, h2⟩ := lt_some h2
      obtain ⟨⟨r11, v12⟩, b11, h2⟩ := bd_some h2
      have bn : 0 ≤ (u.1 0).toInt ∧ (u.1 0).toInt ≤ 120 := hI.1 0
      have be := (Tot_at (tfX11_seasonOf (u.1 0) bn) a7).1
      have st : StX mdX8_setAim_3 u u11 := (Tot_at (tfX8_setAim_3 x1 x2 x3 e x4 x5 u hI z2 z3 z4 be z5 z6) a10).1
      have es : r15 = r11 := trueSumV st.1 J1 p1 S1 V1 hPL bn ⟨z2.1, by omega⟩ ⟨z3.1, by omega⟩ ⟨z4.1, by omega⟩ ⟨z5.1, by omega⟩ ⟨by omega, z6.2⟩ a7 st (aimV a10) a15 b11
      obtain ⟨-, h1⟩ := gd_some h1
      obtain ⟨-, h2⟩ := gd_some h2
      have er : (r15 + ((v13 - v13 / (((2 * x6) + 1).toInt64) * (((2 * x6) + 1).toInt64)).toInt32)) - x6 = r := by cases h1; rfl
      have er' : (r11 + ((((v9.toUInt64 >>> ((33 : Int32).toInt64.toUInt64 &&& Int64.toUInt64 63)).toInt64) - ((v9.toUInt64 >>> ((33 : Int32).toInt64.toUInt64 &&& Int64.toUInt64 63)).toInt64) / (((2 * x6) + 1).toInt64) * (((2 * x6) + 1).toInt64)).toInt32)) - x6 = r' := by cases h2; rfl
      rw [← er, ← er', i13, i9, es]
theorem PLpart {x1 x2 x3 x4 r : Int32} {u u' : SX} (hI : IX u) (hPL : PL u) (hx : FrM mdX11_part_0 u u') (h1 : fX11_part_0 x1 x2 x3 x4 u = some (r, u')) : PL u' := by
  have hh := h1
  rcases partX hI h1 with ⟨-, e⟩ | ⟨-, n9, -, k8, k24, -⟩
  · rw [e]
    exact hPL
  · have b0 : (0 : Int) ≤ (u.1 8).toInt := (hI.1 8).1
    have e8 : (u.1 8 + 1).toInt = (u.1 8).toInt + 1 := addc_t (by decide) (by omega) (by omega)
    have inr : 0 ≤ x1.toInt ∧ x1.toInt < (u.1 5).toInt := by
      unfold fX11_part_0 at hh
      obtain ⟨⟨s1, u2⟩, a1, hh⟩ := bd_some hh
      obtain ⟨eu, hs⟩ := has3i a1
      rcases hs with ⟨z, -⟩ | ⟨-, z⟩
      · have hh : (if s1 = 0 then (some ((-1), u2)) else _) = some (r, u') := hh
        rw [if_pos z] at hh
        have eu' : u2 = u' := by cases hh; rfl
        rw [← eu', eu] at k8
        have z9 : (u.1 8).toInt = (u.1 8 + 1).toInt := congrArg Int32.toInt k8
        rw [e8] at z9
        omega
      · exact z
    intro i hi
    rw [k8, e8] at hi
    rw [k24, hx.1 5 (by decide)]
    by_cases ci : i = (u.1 8).toNatClampNeg
    · rw [ci, upd_at]
      exact inr
    · rw [upd_ne ci]
      have ci : ¬ i = (u.1 8).toInt.toNat := ci
      exact hPL i (by omega)
theorem PLtext {u u' : SX} (h8 : u'.1 8 = u.1 8) (h24 : u'.2.1 24 = u.2.1 24) (h5 : (u.1 5).toInt ≤ (u'.1 5).toInt) (h : PL u) : PL u' := fun i hi => by
  rw [h8] at hi
  rw [h24]
  obtain ⟨x, y⟩ := h i hi
  exact ⟨x, by omega⟩
