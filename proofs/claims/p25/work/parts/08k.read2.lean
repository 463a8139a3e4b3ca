/-! Readings: aims, days, numbers alike. -/
def AimG (u : SX) (n : Nat) (d a h e w l : Int32) : Prop := u.2.1 36 (6 * n) = d ∧ u.2.1 36 (6 * n + 1) = a ∧ u.2.1 36 (6 * n + 2) = h ∧ u.2.1 36 (6 * n + 3) = e ∧ u.2.1 36 (6 * n + 4) = w ∧ u.2.1 36 (6 * n + 5) = l
def AimM (v : SX) (n : Nat) (d a h e w l : Int32) : Prop := v.2.1 19 (5 * n) = d ∧ v.2.1 19 (5 * n + 1) = a ∧ v.2.1 19 (5 * n + 2) = h ∧ fX12_season (v.2.1 21 n) = some e ∧ v.2.1 19 (5 * n + 3) = w ∧ v.2.1 19 (5 * n + 4) = l
def TGa (u v : SX) (n : Nat) : Prop := u.2.1 37 n = v.2.1 21 n ∧ u.2.1 40 n = v.2.1 20 n ∧ (u.2.1 37 n).toInt ≤ (u.1 0).toInt ∧ ∃ d a h e w l : Int32, (Bn d ∧ Bn a ∧ Bn h ∧ Bn e ∧ Bn w ∧ Bn l) ∧ AimG u n d a h e w l ∧ AimM v n d a h e w l
def TieG (u v : SX) : Prop := (∀ n : Nat, (n : Int) < (u.1 13).toInt → TGa u v n) ∧ Srt (u.2.1 37) (u.1 13)
def gxF : List Nat := [0, 13]
def gxR : List Nat := [36, 37, 40]
def gmR : List Nat := [19, 20, 21]
def tieGF (xf xr mr : List Nat) : Bool := gxF.all (fun k => !xf.contains k) && gxR.all (fun k => !xr.contains k) && gmR.all (fun k => !mr.contains k)
theorem TieG_of {u u' v v' : SX} (f : ∀ k, k ∈ gxF → u'.1 k = u.1 k) (g : ∀ k, k ∈ gxR → u'.2.1 k = u.2.1 k) (n : ∀ k, k ∈ gmR → v'.2.1 k = v.2.1 k) (h : TieG u v) : TieG u' v' := by
  unfold TieG TGa AimG AimM at h ⊢
  rw [f 0 (by decide), f 13 (by decide), g 36 (by decide), g 37 (by decide), g 40 (by decide), n 19 (by decide), n 20 (by decide), n 21 (by decide)]
  exact h
theorem TieG_fr {u u' v v' : SX} {xf xr mr : List Nat} (h1 : ∀ k, xf.contains k = false → u'.1 k = u.1 k) (h2 : ∀ k, xr.contains k = false → u'.2.1 k = u.2.1 k) (h4 : ∀ k, mr.contains k = false → v'.2.1 k = v.2.1 k) (c : tieGF xf xr mr = true) (h : TieG u v) : TieG u' v' := by
  unfold tieGF at c
  simp only [Bool.and_eq_true] at c
  obtain ⟨⟨c1, c2⟩, c4⟩ := c
  exact TieG_of (fun k hk => h1 k (not_b (List.all_eq_true.mp c1 k hk))) (fun k hk => h2 k (not_b (List.all_eq_true.mp c2 k hk))) (fun k hk => h4 k (not_b (List.all_eq_true.mp c4 k hk))) h
theorem TieG_0 : TieG uX uM := ⟨fun i hi => by
    have hi : (i : Int) < 0 := hi
    omega, fun i j _ hj => by
    have hj : (j : Int) < 0 := hj
    omega⟩
theorem cpy6 {f g : Nat → Int32} {d j : Nat} : va_cpy f g 0 d 6 j = if d ≤ j ∧ j < d + 6 then f (0 + (j - d)) else g j := rfl
theorem readX {x1 x2 x3 x4 x5 x6 r : Int32} {u u' : SX} (hI : IX u) (h1 : fX11_read_0 x1 x2 x3 x4 x5 x6 u = some (r, u')) : (r = -1 ∧ u' = u) ∨ (¬ r = -1 ∧ (u.1 13).toInt < 80 ∧ (Bn x1 ∧ Bn x2 ∧ Bn x3 ∧ Bn x4 ∧ Bn x5) ∧ ∃ e : Int32, Bn e ∧ fX11_seasonOf (u.1 0) = some e ∧ u'.1 13 = u.1 13 + 1 ∧ AimG u' (u.1 13).toNatClampNeg x1 x2 x3 e x4 x5 ∧ (∀ i, i < 6 * (u.1 13).toNatClampNeg → u'.2.1 36 i = u.2.1 36 i) ∧ u'.2.1 37 = upd (u.2.1 37) (u.1 13).toNatClampNeg (u.1 0) ∧ u'.2.1 40 = upd (u.2.1 40) (u.1 13).toNatClampNeg x6) := by
  have b0 : (0 : Int) ≤ (u.1 13).toInt := (hI.1 13).1
  unfold fX11_read_0 at h1
  have no : some ((-1 : Int32), u) = some (r, u') → r = -1 ∧ u' = u := fun g => by
    cases g
    exact ⟨rfl, rfl⟩
  obtain ⟨s1, a1, h1⟩ := bd_some h1
  by_cases c1 : s1 = 0
  · rw [if_pos c1] at h1
    exact Or.inl (no h1)
  · rw [if_neg c1] at h1
    obtain ⟨z1, z2, z3, z4, z5⟩ := aimB a1 c1
    obtain ⟨s4, a4, h1⟩ := bd_some h1
    by_cases c4 : s4 = 0
    · rw [if_pos c4] at h1
      exact Or.inl (no h1)
    · rw [if_neg c4] at h1
      by_cases n80 : u.1 13 < 80
      · rw [if_pos n80] at h1
        have n9 : (u.1 13).toInt < (80 : Int) := ltI n80
        obtain ⟨e, a7, h1⟩ := bd_some h1
        obtain ⟨⟨r10, u11⟩, a10, h1⟩ := bd_some h1
        obtain ⟨⟨r13, u14⟩, a13, h1⟩ := bd_some h1
        have e1 : r13 = r ∧ u14 = u' := by cases h1; exact ⟨rfl, rfl⟩
        have be := (Tot_at (tfX11_seasonOf (u.1 0) ⟨(hI.1 0).1, (hI.1 0).2⟩) a7).1
        have st : StX mdX8_setAim_3 u u11 := (Tot_at (tfX8_setAim_3 x1 x2 x3 e x4 x5 u hI z1 z2 z3 be z4 z5) a10).1
        obtain ⟨p0, p1, p2, p3, p4, p5⟩ := aimV a10
        have f13 : u11.1 13 = u.1 13 := st.2.1 13 (by decide)
        have f0 : u11.1 0 = u.1 0 := st.2.1 0 (by decide)
        have g36 : u11.2.1 36 = u.2.1 36 := st.2.2.1 36 (by decide)
        have g37 : u11.2.1 37 = u.2.1 37 := st.2.2.1 37 (by decide)
        have g40 : u11.2.1 40 = u.2.1 40 := st.2.2.1 40 (by decide)
        have a13 : fX7_add_7 x6 (u11.1 0) u11 = some (r13, u14) := a13
        unfold fX7_add_7 at a13
        rw [if_pos (by rw [f13]; exact n80)] at a13
        obtain ⟨-, a13⟩ := gd_some a13
        obtain ⟨w1, j1, a13⟩ := lt_some a13
        obtain ⟨-, a13⟩ := gd_some a13
        obtain ⟨w2, j2, a13⟩ := lt_some a13
        obtain ⟨-, a13⟩ := gd_some a13
        obtain ⟨w3, j3, a13⟩ := lt_some a13
        obtain ⟨w4, j4, a13⟩ := lt_some a13
        have e3 : w4.1 13 - 1 = r13 ∧ w4 = u14 := by cases a13; exact ⟨rfl, rfl⟩
        have k13 : w4.1 13 = u.1 13 + 1 := by
          rw [j4, j3, j2, j1]
          show u11.1 13 + 1 = _
          rw [f13]
        have k36 : w4.2.1 36 = va_cpy (u11.2.1 16) (u11.2.1 36) 0 ((u11.1 13) * 6).toNatClampNeg 6 := by
          rw [j4, j3, j2, j1]
          rfl
        have k40 : w4.2.1 40 = upd (u.2.1 40) (u.1 13).toNatClampNeg x6 := by
          rw [j4, j3, j2, j1]
          show upd (u11.2.1 40) (u11.1 13).toNatClampNeg x6 = _
          rw [f13, g40]
        have k37 : w4.2.1 37 = upd (u.2.1 37) (u.1 13).toNatClampNeg (u.1 0) := by
          rw [j4, j3, j2, j1]
          show upd (u11.2.1 37) (u11.1 13).toNatClampNeg (u11.1 0) = _
          rw [f13, f0, g37]
        have m6 : ((u11.1 13) * 6).toNatClampNeg = 6 * (u.1 13).toNatClampNeg := by
          rw [f13]
          show ((u.1 13) * 6).toInt.toNat = 6 * (u.1 13).toInt.toNat
          rw [mulc_t (n := 6) (by decide) (by omega) (by omega)]
          omega
        rw [m6, g36] at k36
        have e8 : (u.1 13 + 1).toInt = (u.1 13).toInt + 1 := addc_t (by decide) (by omega) (by omega)
        have e9 : (u.1 13 + 1 - 1).toInt = (u.1 13).toInt + 1 - 1 := by
          rw [subc_t (n := 1) (by decide) (by rw [e8]; omega) (by rw [e8]; omega), e8]
        refine Or.inr ⟨fun z => ?_, n9, ⟨⟨z1.1, by omega⟩, ⟨z2.1, by omega⟩, ⟨z3.1, by omega⟩, ⟨z4.1, by omega⟩, ⟨by omega, z5.2⟩⟩, e, ⟨be.1, by have := be.2; omega⟩, a7, ?_, ?_, fun i hi => ?_, ?_, ?_⟩
        · rw [← e1.1, ← e3.1, k13] at z
          have z9 : (u.1 13 + 1 - 1).toInt = (-1 : Int) := eqI z
          rw [e9] at z9
          omega
        · rw [← e1.2, ← e3.2]
          exact k13
        · rw [← e1.2, ← e3.2]
          unfold AimG
          rw [k36, cpy6, cpy6, cpy6, cpy6, cpy6, cpy6, if_pos ⟨by omega, by omega⟩, if_pos ⟨by omega, by omega⟩, if_pos ⟨by omega, by omega⟩, if_pos ⟨by omega, by omega⟩, if_pos ⟨by omega, by omega⟩, if_pos ⟨by omega, by omega⟩]
          refine ⟨?_, ?_, ?_, ?_, ?_, ?_⟩
          · rw [show 0 + (6 * (u.1 13).toNatClampNeg - 6 * (u.1 13).toNatClampNeg) = 0 by omega]; exact p0
          · rw [show 0 + (6 * (u.1 13).toNatClampNeg + 1 - 6 * (u.1 13).toNatClampNeg) = 1 by omega]; exact p1
          · rw [show 0 + (6 * (u.1 13).toNatClampNeg + 2 - 6 * (u.1 13).toNatClampNeg) = 2 by omega]; exact p2
          · rw [show 0 + (6 * (u.1 13).toNatClampNeg + 3 - 6 * (u.1 13).toNatClampNeg) = 3 by omega]; exact p3
          · rw [show 0 + (6 * (u.1 13).toNatClampNeg + 4 - 6 * (u.1 13).toNatClampNeg) = 4 by omega]; exact p4
          · rw [show 0 + (6 * (u.1 13).toNatClampNeg + 5 - 6 * (u.1 13).toNatClampNeg) = 5 by omega]; exact p5
        · rw [← e1.2, ← e3.2, k36, cpy6, if_neg (fun z => by omega)]
        · rw [← e1.2, ← e3.2]
          exact k37
        · rw [← e1.2, ← e3.2]
          exact k40
      · rw [if_neg n80] at h1
        exact Or.inl (no h1)
theorem readM {x1 x2 x3 x4 x5 x6 r : Int32} {v v' : SX} (hJ : IM v) (h2 : fX12_read_0 x1 x2 x3 x4 x5 x6 v = some (r, v')) : (r = -1 ∧ v' = sI v 0 0) ∨ (¬ r = -1 ∧ v'.2.1 21 = upd (v.2.1 21) (v.1 15).toNatClampNeg (v.1 1) ∧ v'.2.1 20 = upd (v.2.1 20) (v.1 15).toNatClampNeg x6 ∧ v'.2.1 19 = upd (upd (upd (upd (upd (v.2.1 19) (5 * (v.1 15).toNatClampNeg) x1) (5 * (v.1 15).toNatClampNeg + 1) x2) (5 * (v.1 15).toNatClampNeg + 2) x3) (5 * (v.1 15).toNatClampNeg + 3) x4) (5 * (v.1 15).toNatClampNeg + 4) x5) := by
  have b0 : (0 : Int) ≤ (v.1 15).toInt := (hJ.1 15).1
  have b9 : (v.1 15).toInt ≤ (80 : Int) := (hJ.1 15).2
  unfold fX12_read_0 at h2
  obtain ⟨v1, e1, h2⟩ := lt_some h2
  have no : some ((-1 : Int32), v1) = some (r, v') → r = -1 ∧ v' = sI v 0 0 := fun g => by
    have e : (-1 : Int32) = r ∧ v1 = v' := by cases g; exact ⟨rfl, rfl⟩
    exact ⟨e.1.symm, by rw [← e.2, e1]⟩
  by_cases c80 : v1.1 15 = 80
  · rw [if_pos c80] at h2
    exact Or.inl (no h2)
  · rw [if_neg c80] at h2
    obtain ⟨q3, b3, h2⟩ := bd_some h2
    by_cases c3 : q3 = 0
    · rw [if_pos c3] at h2
      exact Or.inl (no h2)
    · rw [if_neg c3] at h2
      obtain ⟨q6, b6, h2⟩ := bd_some h2
      by_cases c6 : q6 = 0
      · rw [if_pos c6] at h2
        exact Or.inl (no h2)
      · rw [if_neg c6] at h2
        obtain ⟨-, h2⟩ := gd_some h2
        obtain ⟨y1, i1, h2⟩ := lt_some h2
        obtain ⟨-, h2⟩ := gd_some h2
        obtain ⟨y2, i2, h2⟩ := lt_some h2
        obtain ⟨-, h2⟩ := gd_some h2
        obtain ⟨y3, i3, h2⟩ := lt_some h2
        obtain ⟨-, h2⟩ := gd_some h2
        obtain ⟨y4, i4, h2⟩ := lt_some h2
        obtain ⟨-, h2⟩ := gd_some h2
        obtain ⟨y5, i5, h2⟩ := lt_some h2
        obtain ⟨-, h2⟩ := gd_some h2
        obtain ⟨y6, i6, h2⟩ := lt_some h2
        obtain ⟨-, h2⟩ := gd_some h2
        obtain ⟨y7, i7, h2⟩ := lt_some h2
        obtain ⟨y8, i8, h2⟩ := lt_some h2
        have e2 : y8.1 15 - 1 = r ∧ y8 = v' := by cases h2; exact ⟨rfl, rfl⟩
        have k15 : y8.1 15 = v.1 15 + 1 := by rw [i8, i7, i6, i5, i4, i3, i2, i1, e1]; rfl
        have e8 : (v.1 15 + 1).toInt = (v.1 15).toInt + 1 := addc_t (by decide) (by omega) (by omega)
        have e9 : (v.1 15 + 1 - 1).toInt = (v.1 15).toInt + 1 - 1 := by
          rw [subc_t (n := 1) (by decide) (by rw [e8]; omega) (by rw [e8]; omega), e8]
        have m5 : (5 * v.1 15).toInt = 5 * (v.1 15).toInt := cmul_t (by decide) (by omega) (by omega)
        have n0 : (5 * v.1 15).toNatClampNeg = 5 * (v.1 15).toNatClampNeg := by
          show (5 * v.1 15).toInt.toNat = 5 * (v.1 15).toInt.toNat
          omega
        have nn : ∀ {c : Int32} {k : Nat}, c.toInt = (k : Int) → k ≤ 4 → (5 * v.1 15 + c).toNatClampNeg = 5 * (v.1 15).toNatClampNeg + k := fun {c k} hc hk => by
          show (5 * v.1 15 + c).toInt.toNat = 5 * (v.1 15).toInt.toNat + k
          rw [addc_t hc (by rw [m5]; omega) (by rw [m5]; omega), m5]
          omega
        refine Or.inr ⟨fun z => ?_, ?_, ?_, ?_⟩
        · rw [← e2.1, k15] at z
          have z9 : (v.1 15 + 1 - 1).toInt = (-1 : Int) := eqI z
          rw [e9] at z9
          omega
        · rw [← e2.2, i8, i7, i6, i5, i4, i3, i2, i1, e1]
          rfl
        · rw [← e2.2, i8, i7, i6, i5, i4, i3, i2, i1, e1]
          rfl
        · rw [← e2.2, i8, i7, i6, i5, i4, i3, i2, i1, e1]
          show upd (upd (upd (upd (upd (v.2.1 19) (5 * v.1 15).toNatClampNeg x1) (5 * v.1 15 + 1).toNatClampNeg x2) (5 * v.1 15 + 2).toNatClampNeg x3) (5 * v.1 15 + 3).toNatClampNeg x4) (5 * v.1 15 + 4).toNatClampNeg x5 = _
          rw [n0, nn (c := 1) (k := 1) (by decide) (by decide), nn (c := 2) (k := 2) (by decide) (by decide), nn (c := 3) (k := 3) (by decide) (by decide), nn (c := 4) (k := 4) (by decide) (by decide)]
theorem readG {x1 x2 x3 x4 x5 x6 r r' : Int32} {u u' v v' : SX} (hI : IX u) (hJ : IM v) (ht : Tie u v) (hG : TieG u v) (hx : FrM mdX11_read_0 u u') (hm : FrM mdX12_read_0 v v') (er : r = r') (h1 : fX11_read_0 x1 x2 x3 x4 x5 x6 u = some (r, u')) (h2 : fX12_read_0 x1 x2 x3 x4 x5 x6 v = some (r', v')) : TieG u' v' := by
  rcases readX hI h1 with ⟨z1, e1⟩ | ⟨z1, n9, ⟨y1, y2, y3, y4, y5⟩, e, ye, se, k13, ka, kb, k37, k40⟩
  · rcases readM hJ h2 with ⟨z2, e2⟩ | ⟨z2, -⟩
    · rw [e1, e2]
      exact TieG_of (fun _ _ => rfl) (fun _ _ => rfl) (fun _ _ => rfl) hG
    · exact absurd (er.symm.trans z1) z2
  · rcases readM hJ h2 with ⟨z2, -⟩ | ⟨z2, m21, m20, m19⟩
    · exact absurd (er.trans z2) z1
    · have b0 : (0 : Int) ≤ (u.1 13).toInt := (hI.1 13).1
      have e8 : (u.1 13 + 1).toInt = (u.1 13).toInt + 1 := addc_t (by decide) (by omega) (by omega)
      have t13 : u.1 13 = v.1 15 := ht.2.2.2.2.2
      have t0 : u.1 0 = v.1 1 := ht.1
      rw [← t13] at m21 m20 m19
      have x0 : u'.1 0 = u.1 0 := hx.1 0 (by decide)
      obtain ⟨g1, g2⟩ := hG
      have kn : (u.1 13).toNatClampNeg = (u.1 13).toInt.toNat := rfl
      refine ⟨fun n hn => ?_, ?_⟩
      · rw [k13, e8] at hn
        unfold TGa
        rw [k37, k40, m21, m20, x0]
        by_cases cn : n = (u.1 13).toNatClampNeg
        · rw [cn, upd_at, upd_at, upd_at, upd_at]
          refine ⟨t0, rfl, Int.le_refl _, x1, x2, x3, e, x4, x5, ⟨y1, y2, y3, ye, y4, y5⟩, ka, ?_⟩
          unfold AimM
          rw [m19, m21, upd_at, ← t0]
          refine ⟨?_, ?_, ?_, se, ?_, ?_⟩
          · rw [upd_ne (by omega), upd_ne (by omega), upd_ne (by omega), upd_ne (by omega), upd_at]
          · rw [upd_ne (by omega), upd_ne (by omega), upd_ne (by omega), upd_at]
          · rw [upd_ne (by omega), upd_ne (by omega), upd_at]
          · rw [upd_ne (by omega), upd_at]
          · rw [upd_at]
        · rw [upd_ne cn, upd_ne cn, upd_ne cn, upd_ne cn]
          rw [kn] at cn kb
          obtain ⟨q1, q2, q3, d, a, h, e', w, l, qb, qa, qm⟩ := g1 n (by omega)
          refine ⟨q1, q2, q3, d, a, h, e', w, l, qb, ?_, ?_⟩
          · unfold AimG at qa ⊢
            rw [kb _ (by omega), kb _ (by omega), kb _ (by omega), kb _ (by omega), kb _ (by omega), kb _ (by omega)]
            exact qa
          · unfold AimM at qm ⊢
            rw [m19, m21, kn]
            rw [upd_ne (i := n) (by omega)]
            obtain ⟨o1, o2, o3, o4, o5, o6⟩ := qm
            refine ⟨?_, ?_, ?_, o4, ?_, ?_⟩
            · rw [upd_ne (by omega), upd_ne (by omega), upd_ne (by omega), upd_ne (by omega), upd_ne (by omega)]; exact o1
            · rw [upd_ne (by omega), upd_ne (by omega), upd_ne (by omega), upd_ne (by omega), upd_ne (by omega)]; exact o2
            · rw [upd_ne (by omega), upd_ne (by omega), upd_ne (by omega), upd_ne (by omega), upd_ne (by omega)]; exact o3
            · rw [upd_ne (by omega), upd_ne (by omega), upd_ne (by omega), upd_ne (by omega), upd_ne (by omega)]; exact o5
            · rw [upd_ne (by omega), upd_ne (by omega), upd_ne (by omega), upd_ne (by omega), upd_ne (by omega)]; exact o6
      · rw [k37, k13]
        exact Srt_app b0 (by omega) g2 (fun i hi => (g1 i hi).2.2.1)
theorem daysG {x1 r : Int32} {u u' v v' : SX} (hI : IX u) (hG : TieG u v) (hx : FrM mdX11_days_0 u u') (hm : FrM mdX12_days_0 v v') (up : (u.1 0).toInt ≤ (u'.1 0).toInt) : TieG u' v' := by
  obtain ⟨g1, g2⟩ := hG
  refine ⟨fun n hn => ?_, ?_⟩
  · rw [hx.1 13 (by decide)] at hn
    obtain ⟨q1, q2, q3, q4⟩ := g1 n hn
    unfold TGa AimG AimM at *
    rw [hx.2.1 36 (by decide), hx.2.1 37 (by decide), hx.2.1 40 (by decide), hm.2.1 19 (by decide), hm.2.1 20 (by decide), hm.2.1 21 (by decide)]
    exact ⟨q1, q2, by omega, q4⟩
  · rw [hx.2.1 37 (by decide), hx.1 13 (by decide)]
    exact g2
