/-! What is left over of a reading: the reference's side. -/
def mrR : List Nat := [2, 3, 6, 7, 8, 9, 10, 11, 12, 13, 14, 15, 19, 20, 21, 29, 30, 31, 32, 33]
def mrM (mm : MD) : Bool := ([12, 13, 14, 21].all fun k => !mm.1.contains k) && (mrR.all fun k => !mm.2.1.contains k)
/-- the reference's rows beside a fixed state of the class -/
def MR (u v : SX) : Prop := IM v ∧ TieP u v ∧ TieS u v ∧ TieV u v ∧ TieG u v
theorem MR_md {u v v' : SX} {mm : MD} (hJ : IM v') (hm : FrM mm v v') (c : mrM mm = true) (h : MR u v) : MR u v' := by
  obtain ⟨-, hp, hS, hV, hG⟩ := h
  unfold mrM at c
  simp only [Bool.and_eq_true] at c
  have f : ∀ k, k ∈ [12, 13, 14, 21] → v'.1 k = v.1 k := fun k hk => hm.1 k (not_b (List.all_eq_true.mp c.1 k hk))
  have g : ∀ k, k ∈ mrR → v'.2.1 k = v.2.1 k := fun k hk => hm.2.1 k (not_b (List.all_eq_true.mp c.2 k hk))
  have s1 : ∀ k, k ∈ smR → k ∈ mrR := by decide
  have s2 : ∀ k, k ∈ gmR → k ∈ mrR := by decide
  exact ⟨hJ, TieP_fr rfl rfl rfl rfl rfl (f 12 (by decide)) (f 21 (by decide)) (f 14 (by decide)) (g 33 (by decide)) hp, TieS_of (fun _ _ => rfl) (fun _ _ => rfl) (f 13 (by decide)) (fun k hk => g k (s1 k hk)) hS, TieV_fr rfl rfl rfl rfl (g 2 (by decide)) (g 3 (by decide)) hV, TieG_of (fun _ _ => rfl) (fun _ _ => rfl) (fun k hk => g k (s2 k hk)) hG⟩
theorem MR_u {u u' v : SX} {mx : MD} (hx : FrM mx u u') (c1 : ([0, 5, 6, 7, 8, 9, 12, 13, 29].all fun k => !mx.1.contains k) = true) (c2 : ([24, 25, 26, 29, 30, 31, 32, 33, 34, 35, 36, 37, 40, 48, 49, 50, 51, 52, 53, 54, 55, 56].all fun k => !mx.2.1.contains k) = true) (h : MR u v) : MR u' v := by
  obtain ⟨hJ, hp, hS, hV, hG⟩ := h
  have f : ∀ k, k ∈ [0, 5, 6, 7, 8, 9, 12, 13, 29] → u'.1 k = u.1 k := fun k hk => hx.1 k (not_b (List.all_eq_true.mp c1 k hk))
  have g : ∀ k, k ∈ [24, 25, 26, 29, 30, 31, 32, 33, 34, 35, 36, 37, 40, 48, 49, 50, 51, 52, 53, 54, 55, 56] → u'.2.1 k = u.2.1 k := fun k hk => hx.2.1 k (not_b (List.all_eq_true.mp c2 k hk))
  have s1 : ∀ k, k ∈ sxF → k ∈ [0, 5, 6, 7, 8, 9, 12, 13, 29] := by decide
  have s2 : ∀ k, k ∈ sxR → k ∈ [24, 25, 26, 29, 30, 31, 32, 33, 34, 35, 36, 37, 40, 48, 49, 50, 51, 52, 53, 54, 55, 56] := by decide
  have s3 : ∀ k, k ∈ gxF → k ∈ [0, 5, 6, 7, 8, 9, 12, 13, 29] := by decide
  have s4 : ∀ k, k ∈ gxR → k ∈ [24, 25, 26, 29, 30, 31, 32, 33, 34, 35, 36, 37, 40, 48, 49, 50, 51, 52, 53, 54, 55, 56] := by decide
  exact ⟨hJ, TieP_fr (f 8 (by decide)) (f 29 (by decide)) (f 9 (by decide)) (f 0 (by decide)) (g 52 (by decide)) rfl rfl rfl rfl hp, TieS_of (fun k hk => f k (s1 k hk)) (fun k hk => g k (s2 k hk)) rfl (fun _ _ => rfl) hS, TieV_fr (f 5 (by decide)) (f 6 (by decide)) (f 7 (by decide)) hx.2.2.2.2 rfl rfl hV, TieG_of (fun k hk => f k (s3 k hk)) (fun k hk => g k (s4 k hk)) (fun _ _ => rfl) hG⟩
def SPv (u : SX) (S : Nat → Int32 × Int32) (v : SX) : Prop := ∀ i : Nat, (i : Int) < (u.1 8).toInt → (v.2.1 16 i, v.2.1 17 i) = S i
theorem SPv_fr {u v v' : SX} {S : Nat → Int32 × Int32} (h16 : v'.2.1 16 = v.2.1 16) (h17 : v'.2.1 17 = v.2.1 17) (h : SPv u S v) : SPv u S v' := by
  unfold SPv at h ⊢
  rw [h16, h17]
  exact h
theorem UpTo_dn {d : Nat → Int32} {q n r : Int32} (hs : Srt d n) (h : UpTo d q n r) {i : Nat} (hi : (i : Int) < r.toInt) : (d i).toInt ≤ q.toInt := by
  obtain ⟨a1, a2, a3, a4⟩ := h
  have e := a4 (r.toInt.toNat - 1) (by omega)
  have g := hs i (r.toInt.toNat - 1) (by omega) (by omega)
  omega
theorem layOf_SP {q r : Int32} {u v v' : SX} {kc : Int32} (hM : MR u v) (b0 : 0 ≤ q.toInt) (b1 : q.toInt ≤ 120) (hc : UpTo (u.2.1 34) q (u.1 12) kc) (h : fX12_laySpansOf_0 q v = some (r, v')) : MR u v' ∧ SPv u (spX u kc.toNatClampNeg) v' ∧ v'.1 = v.1 ∧ ∀ j, Nat.beq j 16 = false → Nat.beq j 17 = false → v'.2.1 j = v.2.1 j := by
  have hM9 := hM
  obtain ⟨hJ, hp, hS, hV, hG⟩ := hM9
  have st : StM mdX12_laySpansOf_0 v v' := (Tot_at (tfX12_laySpansOf_0 q v hJ ⟨b0, b1⟩) h).1
  obtain ⟨z, hU, e1, e2, e3⟩ := layOf_sp hJ (TieS_ho hS) (TieS_hp hp hS) h
  have e12 : u.1 12 = v.1 13 := hS.1
  have ec : UpTo (u.2.1 34) q (u.1 12) z := by
    rw [← e12] at hU
    exact UpTo_cg (fun i hi => (hS.2.2.1 i hi).2.2.2.1.symm) hU
  have ez : z = kc := UpTo_uq hS.2.2.2.2.1 ec hc
  refine ⟨MR_md st.1 st.2 (by decide) hM, fun i hi => ?_, e1, e2⟩
  have hi' : (i : Int) < (v.1 12).toInt := by rw [← hp.1]; exact hi
  rw [e3 i hi', ez]
  exact (spn_eq hS (k := kc.toNatClampNeg) (by
    have a0 := hc.1
    have a1 := hc.2.1
    show ((kc.toInt.toNat : Nat) : Int) ≤ _
    omega) hi).symm
theorem mostM {x r : Int32} {v v' : SX} (h : fX12_most_0 x v = some (r, v')) : v' = v ∧ r = mxS (v.2.1 18 x.toNatClampNeg) (v.2.1 16 x.toNatClampNeg, v.2.1 17 x.toNatClampNeg) := by
  unfold fX12_most_0 at h
  obtain ⟨-, h⟩ := gd_some h
  obtain ⟨-, h⟩ := gd_some h
  obtain ⟨r3, a3, h⟩ := bd_some h
  obtain ⟨-, h⟩ := gd_some h
  obtain ⟨-, h⟩ := gd_some h
  obtain ⟨r8, a8, h⟩ := bd_some h
  have e : (if r3 < r8 then r8 else r3) = r ∧ v = v' := by cases h; exact ⟨rfl, rfl⟩
  refine ⟨e.2.symm, ?_⟩
  rw [← e.1, shn_M a3, shn_M a8]
  rfl
theorem leastM {x r : Int32} {v v' : SX} (h : fX12_least_0 x v = some (r, v')) : v' = v ∧ r = mnS (v.2.1 18 x.toNatClampNeg) (v.2.1 16 x.toNatClampNeg, v.2.1 17 x.toNatClampNeg) := by
  unfold fX12_least_0 at h
  obtain ⟨-, h⟩ := gd_some h
  obtain ⟨-, h⟩ := gd_some h
  obtain ⟨r3, a3, h⟩ := bd_some h
  obtain ⟨-, h⟩ := gd_some h
  obtain ⟨-, h⟩ := gd_some h
  obtain ⟨r8, a8, h⟩ := bd_some h
  have e : (if r8 < r3 then r8 else r3) = r ∧ v = v' := by cases h; exact ⟨rfl, rfl⟩
  refine ⟨e.2.symm, ?_⟩
  rw [← e.1, shn_M a3, shn_M a8]
  rfl
def mxV (v : SX) (i : Nat) : Int32 := mxS (v.2.1 18 i) (v.2.1 16 i, v.2.1 17 i)
def mnV (v : SX) (i : Nat) : Int32 := mnS (v.2.1 18 i) (v.2.1 16 i, v.2.1 17 i)
theorem left_L {q kp : Int32} {x y : Int32} {r : Int32} {v' : SX} : ∀ (n : Nat) (z3 : Int32) (v : SX), IM v → Srt (v.2.1 10) (v.1 12) → UpTo (v.2.1 10) q (v.1 12) kp → 0 ≤ z3.toInt → v.1 16 = x - sumW (mxV v) (min z3.toNatClampNeg kp.toNatClampNeg) → v.1 17 = y - sumW (mnV v) (min z3.toNatClampNeg kp.toNatClampNeg) → LX12_layLeft_0_27 n q z3 v = some (r, v') → v'.1 16 = x - sumW (mxV v) kp.toNatClampNeg ∧ v'.1 17 = y - sumW (mnV v) kp.toNatClampNeg ∧ v'.2 = v.2 := by
  intro n
  induction n with
  | zero => intro z3 v _ _ _ _ _ _ h; cases h
  | succ n ih =>
    intro z3 v hJ hs hU h0 e16 e17 g
    have b12 : (v.1 12).toInt ≤ (12 : Int) := (hJ.1 12).2
    have k0 := hU.1
    have k1 := hU.2.1
    have kn : kp.toNatClampNeg = kp.toInt.toNat := rfl
    have zn : z3.toNatClampNeg = z3.toInt.toNat := rfl
    have g : (if (v.1 12) ≤ z3 then (some (0, v)) else (gd (inb z3 12) (if (v.2.1 10 z3.toNatClampNeg) ≤ q then ((fX12_most_0 z3 v).bind fun p => match p with | (r11, u12) => (lt (sI u12 16 ((v.1 16) - r11)) fun u14 => ((fX12_least_0 z3 u14).bind fun p => match p with | (r16, u17) => (lt (sI u17 17 ((u14.1 17) - r16)) fun u19 => (GX12_layLeft_0_76 (LX12_layLeft_0_27 n) q z3 u19))))) else (GX12_layLeft_0_76 (LX12_layLeft_0_27 n) q z3 v)))) = some (r, v') := g
    by_cases c : v.1 12 ≤ z3
    · rw [if_pos c] at g
      have c9 := leI c
      have ev : v = v' := by cases g; rfl
      rw [Nat.min_eq_right (by rw [kn, zn]; omega)] at e16 e17
      rw [← ev]
      exact ⟨e16, e17, rfl⟩
    · rw [if_neg c] at g
      have c9 := nleI c
      obtain ⟨-, g⟩ := gd_some g
      have et : (z3 + 1).toInt = z3.toInt + 1 := addc_t (by decide) (by omega) (by omega)
      have en := ns1 h0 (show z3.toInt ≤ 5000 by omega)
      by_cases cd : v.2.1 10 z3.toNatClampNeg ≤ q
      · rw [if_pos cd] at g
        have hlt := UpTo_in hs hU (i := z3.toNatClampNeg) (by rw [zn]; omega) (leI cd)
        rw [zn] at hlt
        obtain ⟨⟨r11, u12⟩, a11, g⟩ := bd_some g
        obtain ⟨f12, s11⟩ := mostM a11
        obtain ⟨u14, i14, g⟩ := lt_some g
        obtain ⟨⟨r16, u17⟩, a16, g⟩ := bd_some g
        obtain ⟨f17, s16⟩ := leastM a16
        obtain ⟨u19, i19, g⟩ := lt_some g
        have g : LX12_layLeft_0_27 n q (z3 + 1) u19 = some (r, v') := g
        rw [f12] at i14
        rw [f17] at i19
        have w2 : u19.2 = v.2 := by rw [i19, i14]; rfl
        have w16 : u19.1 16 = v.1 16 - r11 := by rw [i19, i14]; rfl
        have w17 : u19.1 17 = v.1 17 - r16 := by rw [i19, i14]; rfl
        have w12 : u19.1 12 = v.1 12 := by rw [i19, i14]; rfl
        have J19 : IM u19 := by
          rw [i19, i14]
          exact (StM_sIf (md := ([16, 17], [], [], [])) (StM_sIf (StM_rf hJ) (by decide) rfl rfl) (by decide) rfl rfl).1
        have s16 : r16 = mnV v z3.toNatClampNeg := by
          rw [s16]
          show mnS (u14.2.1 18 _) (u14.2.1 16 _, u14.2.1 17 _) = _
          rw [i14]
          rfl
        have s11 : r11 = mxV v z3.toNatClampNeg := s11
        have mv : mxV u19 = mxV v ∧ mnV u19 = mnV v := by
          refine ⟨?_, ?_⟩
          · funext i
            unfold mxV
            rw [w2]
          · funext i
            unfold mnV
            rw [w2]
        obtain ⟨q1, q2, q3⟩ := ih (z3 + 1) u19 J19 (by rw [w2, w12]; exact hs) (by rw [w2, w12]; exact hU) (by rw [et]; omega) (by
          rw [w16, e16, s11, mv.1, en, Nat.min_eq_left (by rw [kn, zn]; omega), Nat.min_eq_left (by rw [kn, zn]; omega), Int32.sub_sub]
          rfl) (by
          rw [w17, e17, s16, mv.2, en, Nat.min_eq_left (by rw [kn, zn]; omega), Nat.min_eq_left (by rw [kn, zn]; omega), Int32.sub_sub]
          rfl) g
        rw [mv.1] at q1
        rw [mv.2] at q2
        exact ⟨q1, q2, q3.trans w2⟩
      · rw [if_neg cd] at g
        have hge : kp.toInt ≤ z3.toInt := by
          rcases Int.lt_or_le z3.toInt kp.toInt with z | z
          · exact absurd (UpTo_dn hs hU (i := z3.toNatClampNeg) (by rw [zn]; omega)) (nleI cd)
          · exact z
        have g : LX12_layLeft_0_27 n q (z3 + 1) v = some (r, v') := g
        rw [Nat.min_eq_right (by rw [kn, zn]; omega)] at e16 e17
        exact ih (z3 + 1) v hJ hs hU (by rw [et]; omega) (by rw [en, Nat.min_eq_right (by rw [kn, zn]; omega)]; exact e16) (by rw [en, Nat.min_eq_right (by rw [kn, zn]; omega)]; exact e17) g
theorem layLeft_sp {x1 q r kp : Int32} {S : Nat → Int32 × Int32} {u v v' : SX} (hI : IX u) (hPL : PL u) (hM : MR u v) (hs : SPv u S v) (hU : UpTo (u.2.1 25) q (u.1 8) kp) (b0 : 0 ≤ q.toInt) (b1 : q.toInt ≤ 120) (a0 : 0 ≤ x1.toInt) (a1 : x1.toInt < (u.1 13).toInt) (h : fX12_layLeft_0 x1 q v = some (r, v')) : MR u v' ∧ SPv u S v' ∧ FrM mdX12_layLeft_0 v v' ∧ (v'.1 16, v'.1 17) = lfS u S kp.toNatClampNeg x1.toNatClampNeg ∧ ∀ i : Nat, (i : Int) < (u.1 8).toInt → v'.2.1 18 i = ww u x1.toNatClampNeg i := by
  have hM9 := hM
  obtain ⟨hJ, hp, hS, hV, hG⟩ := hM9
  have n1 : x1.toNatClampNeg = x1.toInt.toNat := rfl
  have b13 : (u.1 13).toInt ≤ (80 : Int) := (hI.1 13).2
  have st : StM mdX12_layLeft_0 v v' := (Tot_at (tfX12_layLeft_0 x1 q v hJ ⟨a0, by omega⟩ ⟨b0, b1⟩) h).1
  unfold fX12_layLeft_0 at h
  obtain ⟨⟨r1, v2⟩, a2, h⟩ := bd_some h
  obtain ⟨J2, f2, g2, w2⟩ := layOfS hI hJ hp hS hV hPL hG a0 a1 a2
  obtain ⟨-, h⟩ := gd_some h
  obtain ⟨v5, i5, h⟩ := lt_some h
  obtain ⟨-, h⟩ := gd_some h
  obtain ⟨v8, i8, h⟩ := lt_some h
  generalize (5000 : Nat) = N1 at h
  have e8 : v8.2 = v2.2 := by rw [i8, i5]; rfl
  have e16 : v8.1 16 = v2.2.1 20 x1.toNatClampNeg := by rw [i8, i5]; rfl
  have e17 : v8.1 17 = v2.2.1 20 x1.toNatClampNeg := by rw [i8, i5]; rfl
  have e12 : v8.1 12 = v2.1 12 := by rw [i8, i5]; rfl
  have J8 : IM v8 := by
    rw [i8, i5]
    exact (StM_sIf (md := ([16, 17], [], [], [])) (StM_sIf (StM_rf J2) (by decide) rfl rfl) (by decide) rfl rfl).1
  have e10 : ∀ i : Nat, (i : Int) < (u.1 8).toInt → u.2.1 25 i = v8.2.1 10 i := fun i hi => by
    rw [e8, g2 10 rfl rfl]
    exact (hS.2.1 i hi).2.1
  have e812 : v8.1 12 = u.1 8 := by rw [e12, f2]; exact hp.1.symm
  have s8 : Srt (v8.2.1 10) (v8.1 12) := fun i j hij hj => by
    rw [e812] at hj
    rw [← e10 i (by omega), ← e10 j hj]
    exact hS.2.2.2.2.2 i j hij hj
  have U8 : UpTo (v8.2.1 10) q (v8.1 12) kp := by
    rw [e812]
    exact UpTo_cg e10 hU
  obtain ⟨q1, q2, q3⟩ := left_L (x := v2.2.1 20 x1.toNatClampNeg) (y := v2.2.1 20 x1.toNatClampNeg) N1 0 v8 J8 s8 U8 (by decide) (by
    rw [e16]
    show _ = _ - sumW _ (min 0 _)
    rw [Nat.zero_min]
    show _ = _ - 0
    exact (Int32.sub_zero _).symm) (by
    rw [e17]
    show _ = _ - sumW _ (min 0 _)
    rw [Nat.zero_min]
    show _ = _ - 0
    exact (Int32.sub_zero _).symm) h
  have M' := MR_md st.1 st.2 (by decide) hM
  have S' : SPv u S v' := SPv_fr (st.2.2.1 16 (by decide)) (st.2.2.1 17 (by decide)) hs
  have W' : ∀ i : Nat, (i : Int) < (u.1 8).toInt → v'.2.1 18 i = ww u x1.toNatClampNeg i := fun i hi => by
    have q3' : v'.2.1 = v8.2.1 := by rw [q3]
    rw [q3', e8]
    exact (wv_eq hI (w2 i hi)).symm
  refine ⟨M', S', st.2, ?_, W'⟩
  have e20 : v2.2.1 20 x1.toNatClampNeg = u.2.1 40 x1.toNatClampNeg := by
    rw [g2 20 rfl rfl]
    exact (hG.1 x1.toNatClampNeg (by rw [n1]; omega)).2.1.symm
  have kb : kp.toInt ≤ (u.1 8).toInt := hU.2.1
  have k0 := hU.1
  have m1 : ∀ i, i < kp.toNatClampNeg → mxV v8 i = mxS (ww u x1.toNatClampNeg i) (S i) ∧ mnV v8 i = mnS (ww u x1.toNatClampNeg i) (S i) := fun i hi => by
    have hi : i < kp.toInt.toNat := hi
    have hi8 : (i : Int) < (u.1 8).toInt := by omega
    have x1 := W' i hi8
    have x2 := S' i hi8
    rw [q3] at x1 x2
    unfold mxV mnV
    rw [x1, x2]
    exact ⟨rfl, rfl⟩
  rw [q1, q2, e20, sumW_cg _ (fun i hi => (m1 i hi).1), sumW_cg _ (fun i hi => (m1 i hi).2)]
  rfl
