/-! Waves from 1 on; fits. -/
def WG (u : SX) : Prop := ∀ n : Nat, (n : Int) < (u.1 13).toInt → 1 ≤ (u.2.1 36 (6 * n + 5)).toInt ∧ (u.2.1 36 (6 * n)).toInt ≤ 15
theorem WG_fr {u u' : SX} (h13 : u'.1 13 = u.1 13) (h36 : u'.2.1 36 = u.2.1 36) (h : WG u) : WG u' := by
  unfold WG at h ⊢
  rw [h13, h36]
  exact h
theorem WG_md {u u' : SX} {mx : MD} (hx : FrM mx u u') (c1 : mx.1.contains 13 = false) (c2 : mx.2.1.contains 36 = false) (h : WG u) : WG u' := WG_fr (hx.1 13 c1) (hx.2.1 36 c2) h
theorem WG_0 : WG uX := fun n hn => by
  have hn : (n : Int) < 0 := hn
  omega
theorem readAim {x1 x2 x3 x4 x5 x6 r : Int32} {u u' : SX} (h1 : fX11_read_0 x1 x2 x3 x4 x5 x6 u = some (r, u')) (hr : ¬ r = -1) : 1 ≤ x5.toInt ∧ x1.toInt ≤ 15 := by
  unfold fX11_read_0 at h1
  obtain ⟨s1, a1, h1⟩ := bd_some h1
  by_cases c1 : s1 = 0
  · rw [if_pos c1] at h1
    have e : (-1 : Int32) = r := by cases h1; rfl
    exact absurd e.symm hr
  · obtain ⟨z1, -, -, -, z5⟩ := aimB a1 c1
    exact ⟨z5.1, z1.2⟩
theorem readWG {x1 x2 x3 x4 x5 x6 r : Int32} {u u' : SX} (hI : IX u) (hW : WG u) (h1 : fX11_read_0 x1 x2 x3 x4 x5 x6 u = some (r, u')) : WG u' := by
  rcases readX hI h1 with ⟨-, e⟩ | ⟨hr, n9, -, e, -, -, k13, qa, kb, -, -⟩
  · rw [e]
    exact hW
  · have b0 : (0 : Int) ≤ (u.1 13).toInt := (hI.1 13).1
    have e13 : (u.1 13 + 1).toInt = (u.1 13).toInt + 1 := addc_t (by decide) (by omega) (by omega)
    have kn : (u.1 13).toNatClampNeg = (u.1 13).toInt.toNat := rfl
    have w1 := readAim h1 hr
    intro n hn
    rw [k13, e13] at hn
    by_cases c : n = (u.1 13).toNatClampNeg
    · rw [c, qa.2.2.2.2.2, qa.1]
      exact w1
    · rw [kn] at c kb
      rw [kb _ (by omega), kb _ (by omega)]
      exact hW n (by omega)
theorem gvB {u v : SX} {g : Nat} {l a : Int32} (hI : IX u) (hJ : IM v) (hV : TieV u v) (hg : (g : Int) < (u.1 6).toInt) (bl : 0 ≤ l.toInt ∧ l.toInt ≤ 40) (ba : 0 ≤ a.toInt ∧ a.toInt ≤ 60) : Bw (gv u g l a) := by
  have b6 : (u.1 6).toInt ≤ (6 : Int) := (hI.1 6).2
  have eg : (Int32.ofNat g).toInt = (g : Int) := Int32.toInt_ofNat_of_lt (by omega)
  have en : (Int32.ofNat g).toNatClampNeg = g := by
    show (Int32.ofNat g).toInt.toNat = g
    rw [eg]
    rfl
  obtain ⟨⟨r', v'⟩, er, -⟩ := tfX12_guessWorth_0 (Int32.ofNat g) a l v hJ ⟨by omega, by omega⟩ bl
  have q := (guessM hI hJ hV (by omega) (by omega) ba bl er).1
  rw [en] at q
  rw [← q]
  exact gueB ⟨by omega, by omega⟩ ⟨by omega, by omega⟩ er
theorem isGui {x r : Int32} {u v v' : SX} (hI : IX u) (hC : TieC u v) (h : fX12_isGuess_0 x v = some (r, v')) : v' = v ∧ ((r = 0 ∧ ¬ (0 ≤ x.toInt ∧ x.toInt < (u.1 6).toInt)) ∨ (r = 1 ∧ 0 ≤ x.toInt ∧ x.toInt < (u.1 6).toInt)) := by
  have b0 : (0 : Int) ≤ (u.1 6).toInt := (hI.1 6).1
  have b6 : (u.1 6).toInt ≤ (6 : Int) := (hI.1 6).2
  unfold fX12_isGuess_0 at h
  obtain ⟨-, h⟩ := gd_some h
  obtain ⟨r2, a2, h⟩ := bd_some h
  obtain ⟨-, h⟩ := gd_some h
  have e : r2 = r ∧ v = v' := by cases h; exact ⟨rfl, rfl⟩
  have e1 : v.2.1 4 (1 : Int32).toNatClampNeg = u.1 6 := hC.2.1.symm
  rw [e1, e.1] at a2
  have es : (u.1 6 - 1).toInt = (u.1 6).toInt - 1 := subc_t (n := 1) (by decide) (by omega) (by omega)
  refine ⟨e.2.symm, ?_⟩
  rcases inn a2 with ⟨z, k⟩ | ⟨z, k1, k2⟩
  · rw [es] at k
    have k : ¬ ((0 : Int) ≤ x.toInt ∧ x.toInt ≤ (u.1 6).toInt - 1) := k
    clear es
    exact Or.inl ⟨z, fun q => k ⟨q.1, by omega⟩⟩
  · rw [es] at k2
    clear es
    exact Or.inr ⟨z, k1, by omega⟩
def OKt (u : SX) (x1 x2 x3 : Int32) : Prop := 0 ≤ x2.toInt ∧ x2.toInt ≤ (u.1 0).toInt ∧ 0 ≤ x1.toInt ∧ x1.toInt < (u.1 6).toInt ∧ 0 ≤ x3.toInt ∧ x3.toInt ≤ 2
theorem fitsX {x1 x2 x3 r : Int32} {u u' : SX} (h : fX11_fits_0 x1 x2 x3 u = some (r, u')) : (¬ OKt u x1 x2 x3 ∧ r = -1) ∨ (OKt u x1 x2 x3 ∧ ∃ (s t : Int32) (w : SX), fX7_recall_7 x2 u = some (s, w) ∧ fX1_fit_8 x1 w = some (t, u') ∧ r = if x3 = 0 then u'.1 19 else if x3 = 1 then u'.1 20 else u'.1 21) := by
  unfold fX11_fits_0 at h
  have no : some ((-1 : Int32), u) = some (r, u') → r = -1 := fun g => by cases g; rfl
  obtain ⟨⟨r1, u2⟩, a1, h⟩ := bd_some h
  obtain ⟨e1, k1⟩ := isDayi a1
  rw [e1] at h
  have h : (if r1 = 0 then (some ((-1), u)) else _) = some (r, u') := h
  rcases k1 with ⟨z, k1⟩ | ⟨z, k1, k1'⟩
  · rw [if_pos z] at h
    exact Or.inl ⟨fun q => k1 ⟨q.1, q.2.1⟩, no h⟩
  · rw [if_neg (ne01 z)] at h
    obtain ⟨⟨r4, u5⟩, a4, h⟩ := bd_some h
    obtain ⟨e4, k4⟩ := has4i a4
    rw [e4] at h
    have h : (if r4 = 0 then (some ((-1), u)) else _) = some (r, u') := h
    rcases k4 with ⟨z, k4⟩ | ⟨z, k4, k4'⟩
    · rw [if_pos z] at h
      exact Or.inl ⟨fun q => k4 ⟨q.2.2.1, q.2.2.2.1⟩, no h⟩
    · rw [if_neg (ne01 z)] at h
      obtain ⟨r7, a7, h⟩ := bd_some h
      rcases win a7 with ⟨z, k7⟩ | ⟨z, k7, k7'⟩
      · rw [if_pos z] at h
        exact Or.inl ⟨fun q => k7 ⟨q.2.2.2.2.1, q.2.2.2.2.2⟩, no h⟩
      · rw [if_neg (ne01 z)] at h
        obtain ⟨⟨r10, u11⟩, a10, h⟩ := bd_some h
        obtain ⟨⟨r13, u14⟩, a13, h⟩ := bd_some h
        have h : (if x3 = 2 then (some (u14.1 21, u14)) else (if x3 = 0 then (some (u14.1 19, u14)) else (some (u14.1 20, u14)))) = some (r, u') := h
        have k7 : (0 : Int) ≤ x3.toInt := k7
        have k7' : x3.toInt ≤ (2 : Int) := k7'
        have e : (if x3 = 0 then u14.1 19 else if x3 = 1 then u14.1 20 else u14.1 21) = r ∧ u14 = u' := by
          by_cases c : x3 = 2
          · rw [if_pos c] at h
            have c0 : ¬ x3 = 0 := by rw [c]; decide
            have c1 : ¬ x3 = 1 := by rw [c]; decide
            rw [if_neg c0, if_neg c1]
            cases h
            exact ⟨rfl, rfl⟩
          · rw [if_neg c] at h
            by_cases d : x3 = 0
            · rw [if_pos d] at h ⊢
              cases h
              exact ⟨rfl, rfl⟩
            · rw [if_neg d] at h ⊢
              have c9 : ¬ x3.toInt = (2 : Int) := neI c
              have d9 : ¬ x3.toInt = (0 : Int) := neI d
              have c1 : x3 = 1 := Int32.toInt.inj (by show x3.toInt = (1 : Int); omega)
              rw [if_pos c1]
              cases h
              exact ⟨rfl, rfl⟩
        rw [e.2] at a13 e
        exact Or.inr ⟨⟨k1, k1', k4, k4', k7, k7'⟩, r10, r13, u11, a10, a13, e.1.symm⟩
theorem fitsM {x1 x2 x3 r : Int32} {u v v' : SX} (hI : IX u) (e1 : v.1 1 = u.1 0) (hC : TieC u v) (h : fX12_fits_0 x1 x2 x3 v = some (r, v')) : (¬ OKt u x1 x2 x3 ∧ r = -1) ∨ (OKt u x1 x2 x3 ∧ ∃ (s : Int32) (w : SX), fX12_layFits_0 x1 x2 (sI v 0 0) = some (s, w) ∧ LX12_fits_0_54 GX12_fits_0_102 5000 x3 (-1) (-1) 0 0 w = some (r, v')) := by
  unfold fX12_fits_0 at h
  obtain ⟨v1, i1, h⟩ := lt_some h
  rw [← i1]
  have f1 : v1.1 1 = u.1 0 := by rw [i1]; exact e1
  have C1 : TieC u v1 := by rw [i1]; exact hC
  clear i1
  have no : ∀ w : SX, some ((-1 : Int32), w) = some (r, v') → r = -1 := fun w g => by cases g; rfl
  obtain ⟨⟨r3, u4⟩, a3, h⟩ := bd_some h
  obtain ⟨e3, k3⟩ := isGui hI C1 a3
  rw [e3] at h
  have h : (if r3 = 0 then (some ((-1), v1)) else ((fX12_isIn x2 0 (v1.1 1)).bind fun r6 => (if r6 = 0 then (some ((-1), v1)) else ((fX12_isIn x3 0 2).bind fun r9 => (if r9 = 0 then (some ((-1), v1)) else ((fX12_layFits_0 x1 x2 v1).bind fun q => match q with | (r12, u13) => (LX12_fits_0_54 GX12_fits_0_102 5000 x3 (-1) (-1) 0 0 u13))))))) = some (r, v') := h
  rcases k3 with ⟨z, k3⟩ | ⟨z, k3, k3'⟩
  · rw [if_pos z] at h
    exact Or.inl ⟨fun q => k3 ⟨q.2.2.1, q.2.2.2.1⟩, no _ h⟩
  · rw [if_neg (ne01 z)] at h
    obtain ⟨r6, a6, h⟩ := bd_some h
    rw [f1] at a6
    rcases inn a6 with ⟨z, k6⟩ | ⟨z, k6, k6'⟩
    · rw [if_pos z] at h
      exact Or.inl ⟨fun q => k6 ⟨q.1, q.2.1⟩, no _ h⟩
    · rw [if_neg (ne01 z)] at h
      obtain ⟨r9, a9, h⟩ := bd_some h
      rcases inn a9 with ⟨z, k9⟩ | ⟨z, k9, k9'⟩
      · rw [if_pos z] at h
        exact Or.inl ⟨fun q => k9 ⟨q.2.2.2.2.1, q.2.2.2.2.2⟩, no _ h⟩
      · rw [if_neg (ne01 z)] at h
        obtain ⟨⟨r12, u13⟩, a12, h⟩ := bd_some h
        exact Or.inr ⟨⟨k6, k6', k3, k3', k9, k9'⟩, r12, u13, a12, h⟩
/-- one guess's fits, both sides: w the class behind its recall, v the reference behind layFits -/
theorem fit_sp {x1 x3 t r' : Int32} {u0 w u' v v' : SX} {W : Nat → Int32} {L : Nat → Int32 × Int32} {K : Nat} (hI : IX w) (hL : LVG w) (hx0 : 0 ≤ x1.toInt) (hx1 : x1.toInt < (w.1 6).toInt) (eg : gv w = gv u0) (hW : ∀ i : Nat, (i : Int) < (w.1 14).toInt → W i = w.2.1 36 (6 * i + 5)) (hWK : ∀ n, n < K → 1 ≤ (W n).toInt ∧ (W n).toInt ≤ 40) (hLr : ∀ i : Nat, (i : Int) < (w.1 14).toInt → L i = (w.2.1 38 i, w.2.1 39 i)) (hK : K = (w.1 14).toNatClampNeg) (hv : ∀ a : Int32, 0 ≤ a.toInt → a.toInt ≤ 60 → (¬ v.2.1 34 a.toNatClampNeg = 0 ↔ FOK u0 x1.toNatClampNeg W L K a)) (h1 : fX1_fit_8 x1 w = some (t, u')) (h2 : LX12_fits_0_54 GX12_fits_0_102 5000 x3 (-1) (-1) 0 0 v = some (r', v')) : v' = v ∧ r' = if x3 = 0 then u'.1 19 else if x3 = 1 then u'.1 20 else u'.1 21 := by
  have b0 : (0 : Int) ≤ (w.1 14).toInt := (hI.1 14).1
  have b14 : (w.1 14).toInt ≤ (80 : Int) := (hI.1 14).2
  unfold fX1_fit_8 at h1
  obtain ⟨u1, i1, h1⟩ := lt_some h1
  obtain ⟨u3, i3, h1⟩ := lt_some h1
  obtain ⟨u5, i5, h1⟩ := lt_some h1
  have s5 : StX ([19, 20, 21], [], [], []) w u5 := by
    rw [i5, i3, i1]
    exact StX_sIf (StX_sI (StX_sI (StX_rf hI) (by decide) (by decide) (by decide)) (by decide) (by decide) (by decide)) (by decide) rfl rfl
  have g19 : u5.1 19 = -1 := by rw [i5, i3, i1]; rfl
  have g20 : u5.1 20 = -1 := by rw [i5, i3, i1]; rfl
  have g21 : u5.1 21 = 0 := by rw [i5, i3, i1]; rfl
  obtain ⟨⟨r7, u8⟩, a7, h1⟩ := bd_some h1
  have s8 : StX mdX1_boundWaves_8 u5 u8 := (Tot_at (tfX1_boundWaves_8 u5 s5.1) a7).1
  have h1 : LX1_fit_8_21 5000 x1 0 u8 = some (t, u') := h1
  unfold fX1_boundWaves_8 at a7
  obtain ⟨⟨r1, u2⟩, a1, a7⟩ := bd_some a7
  have z43 := fill43_sp a1
  have s2 : StX mdJ7_fill_53178_a43 u5 u2 := (Tot_at (tfJ7_fill_53178_a43 0 u5 s5.1 (by decide)) a1).1
  have a7 : LX1_boundWaves_8_10 5000 0 u2 = some (r7, u8) := a7
  have q14 : u2.1 14 = w.1 14 := (s2.2.1 14 (by decide)).trans (s5.2.1 14 (by decide))
  have q36 : u2.2.1 36 = w.2.1 36 := (s2.2.2.1 36 (by decide)).trans (s5.2.2.1 36 (by decide))
  have q38 : u2.2.1 38 = w.2.1 38 := (s2.2.2.1 38 (by decide)).trans (s5.2.2.1 38 (by decide))
  have q39 : u2.2.1 39 = w.2.1 39 := (s2.2.2.1 39 (by decide)).trans (s5.2.2.1 39 (by decide))
  generalize (5000 : Nat) = N1 at a7
  obtain ⟨B8, -⟩ := bw_L (W := W) (L := L) N1 0 u2 (by decide) (by rw [q14]; show (0 : Int) ≤ _; exact b0) (by rw [q14]; exact b14) (fun i hi => by
    rw [q14] at hi
    rw [q36]
    refine ⟨hW i hi, ?_⟩
    have := hWK i (by rw [hK]; show i < (w.1 14).toInt.toNat; omega)
    show (W i).toInt.toNat < 41
    omega) (fun i hi => by
    rw [q14] at hi
    rw [q38, q39]
    exact hLr i hi) (fun j hj => by
    rw [z43 j hj]
    exact ⟨by decide, by show (0 : Int) ≤ ((0 : Int32).toInt.toNat : Nat); omega, Or.inl ⟨rfl, fun n hn => by
      have hn : n < 0 := hn
      omega⟩⟩) a7
  rw [q14, ← hK] at B8
  have f19 : u8.1 19 = -1 := (s8.2.1 19 (by decide)).trans g19
  have f20 : u8.1 20 = -1 := (s8.2.1 20 (by decide)).trans g20
  have f21 : u8.1 21 = 0 := (s8.2.1 21 (by decide)).trans g21
  have f6 : u8.1 6 = w.1 6 := (s8.2.1 6 (by decide)).trans (s5.2.1 6 (by decide))
  have fT : u8.2.2.2.2 = w.2.2.2.2 := s8.2.2.2.2.2.trans s5.2.2.2.2.2
  have h2 : LX12_fits_0_54 GX12_fits_0_102 5000 x3 (u8.1 19) (u8.1 20) (u8.1 21) 0 v = some (r', v') := by
    rw [f19, f20, f21]
    exact h2
  generalize (5000 : Nat) = N2 at h1 h2
  exact fit_both hx0 hWK hv N2 N2 0 u8 s8.1 (LVG_fr f6 fT hL) (by rw [f6]; exact hx1) ((gv_fr fT).trans eg) B8 (by decide) (by rw [f21]; decide) h1 h2
theorem fits_eq {x1 x2 x3 r r' : Int32} {u u' v v' : SX} (hK : RK u) (hWG : WG u) (ht : Tie u v) (hC : TieC u v) (hM : MR u v) (h1 : fX11_fits_0 x1 x2 x3 u = some (r, u')) (h2 : fX12_fits_0 x1 x2 x3 v = some (r', v')) : r = r' := by
  have b120 : (u.1 0).toInt ≤ (120 : Int) := (hK.1.1.1 0).2
  have hI := hK.1.1
  have hG := hM.2.2.2.2
  rcases fitsX h1 with ⟨n1, g1⟩ | ⟨o1, s, t, w, a1, a2, g1⟩
  · rcases fitsM hI ht.1.symm hC h2 with ⟨-, g2⟩ | ⟨o2, -⟩
    · rw [g1, g2]
    · exact absurd o2 n1
  · rcases fitsM hI ht.1.symm hC h2 with ⟨n2, -⟩ | ⟨-, s', w', a3, a4⟩
    · exact absurd o1 n2
    · obtain ⟨q1, q2, q3, q4, q5, q6⟩ := o1
      obtain ⟨Rw, Kw, Fw, k15, k16, U10, U11, U14⟩ := recall7_sp hK.1 hK.2 q1 (by omega) a1
      obtain ⟨-, -, pv⟩ := layFits_sp hI hK.1.2.2.1 (MR_0 hM) (show (sI v 0 0).1 15 = u.1 13 from ht.2.2.2.2.2.symm) U10 U11 U14 q1 (by omega) q3 q4 a3
      have el : lfX w = lfX u := lfX_md Fw (by decide)
      have k0 := U14.1
      have k1 := U14.2.1
      have kn : (w.1 14).toNatClampNeg = (w.1 14).toInt.toNat := rfl
      have fin := fit_sp (u0 := u) (W := fun i => u.2.1 36 (6 * i + 5)) (L := lfX u (w.1 10).toNatClampNeg (w.1 11).toNatClampNeg) (K := (w.1 14).toNatClampNeg) Rw.1 (LVG_fr (Fw.1 6 (by decide)) Fw.2.2.2.2 (LVG_of hI hM.1 hM.2.2.2.1)) q3 (by rw [Fw.1 6 (by decide)]; exact q4) (gv_fr Fw.2.2.2.2) (fun i _ => by rw [Fw.2.1 36 (by decide)]) (fun n hn => ⟨(hWG n (by rw [kn] at hn; omega)).1, (hI.2.1 36 _).2⟩) (fun i hi => by
        have := Kw.2.2.2 i hi
        rw [k15, k16, el] at this
        exact this.symm) rfl pv a2 a4
      rw [g1, fin.2]
