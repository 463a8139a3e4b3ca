/-! How wide what is left over is; narrows. -/
theorem tdv {x : Int} (h0 : -2147483648 ≤ x) (h1 : x ≤ 2147483647) : -21474836 ≤ x.tdiv 100 ∧ x.tdiv 100 ≤ 21474836 := by
  rcases Int.lt_or_le x 0 with c | c
  · have e : x.tdiv 100 = -((-x).tdiv 100) := by rw [Int.neg_tdiv, Int.neg_neg]
    rw [e, Int.tdiv_eq_ediv_of_nonneg (by omega)]
    omega
  · rw [Int.tdiv_eq_ediv_of_nonneg c]
    omega
theorem shn_b (a w : Int32) : -21474836 ≤ (shn a w).toInt ∧ (shn a w).toInt ≤ 21474836 := by
  unfold shn
  generalize a * w = y
  have h := tdv (Int32.le_toInt y) (Int32.toInt_le y)
  rw [Int32.toInt_div, show (100 : Int32).toInt = 100 by decide, bm_t (by omega) (by omega)]
  exact h
def spr (w : Int32) (p : Int32 × Int32) : Int32 := if 0 ≤ (shn p.2 w - shn p.1 w) then (shn p.2 w - shn p.1 w) else 0 - (shn p.2 w - shn p.1 w)
theorem spread_X {x0 x1 x2 r : Int32} (h : fX11_spread x0 x1 x2 = some r) : r = spr x2 (x0, x1) := by
  unfold fX11_spread at h
  obtain ⟨r1, a1, h⟩ := bd_some h
  obtain ⟨r4, a4, h⟩ := bd_some h
  have e : (if 0 ≤ (r1 - r4) then (r1 - r4) else 0 - (r1 - r4)) = r := by cases h; rfl
  rw [← e, shn_X a1, shn_X a4]
  rfl
theorem spr_eq (w : Int32) (p : Int32 × Int32) : spr w p = mxS w p - mnS w p := by
  unfold spr mxS mnS
  obtain ⟨a0, a1⟩ := shn_b p.1 w
  obtain ⟨b0, b1⟩ := shn_b p.2 w
  generalize shn p.1 w = A at *
  generalize shn p.2 w = B at *
  have e : (B - A).toInt = B.toInt - A.toInt := sub_t (by omega) (by omega)
  by_cases c : A < B
  · have c9 := ltI c
    have n1 : ¬ B < A := fun z => by have z9 := ltI z; omega
    have n2 : 0 ≤ B - A := Int32.le_iff_toInt_le.mpr (by show (0 : Int) ≤ _; omega)
    rw [if_pos c, if_neg n1, if_pos n2]
  · have c9 := nltI c
    rw [if_neg c]
    by_cases d : B < A
    · have d9 := ltI d
      have n3 : ¬ 0 ≤ B - A := fun z => by
        have z9 : (0 : Int) ≤ (B - A).toInt := leI z
        omega
      rw [if_pos d, if_neg n3]
      refine Int32.toInt.inj ?_
      have e2 : (A - B).toInt = A.toInt - B.toInt := sub_t (by omega) (by omega)
      rw [csub_t (n := 0) (by decide) (by rw [e]; omega) (by rw [e]; omega), e, e2]
      omega
    · have d9 := nltI d
      have f : A = B := Int32.toInt.inj (by omega)
      rw [if_neg d, f, Int32.sub_self, if_pos (by decide)]
theorem g_ac1 (a b c d : Int32) : (a + b) - (c + d) = (a - c) + (b - d) := by
  rw [Int32.sub_eq_add_neg (a + b) (c + d), Int32.neg_add, Int32.sub_eq_add_neg (-c) d, Int32.sub_eq_add_neg a c, Int32.sub_eq_add_neg b d]
  ac_rfl
theorem g_sub (n a b : Int32) : (n - b) - (n - a) = a - b := by
  rw [Int32.sub_eq_add_neg (n - b) (n - a), Int32.neg_sub, Int32.sub_eq_add_neg n b, Int32.sub_eq_add_neg a n, Int32.sub_eq_add_neg a b]
  have e : n + -b + (a + -n) = (a + -b) + (-n + n) := by ac_rfl
  rw [e, Int32.add_left_neg, Int32.add_zero]
theorem g_one (a x y : Int32) : a + x = a + y + (x - y) := by
  rw [Int32.sub_eq_add_neg x y]
  have e : a + y + (x + -y) = (a + x) + (-y + y) := by ac_rfl
  rw [e, Int32.add_left_neg, Int32.add_zero]
theorem sumW_sub {f g : Nat → Int32} : ∀ k : Nat, sumW f k - sumW g k = sumW (fun i => f i - g i) k := by
  intro k
  induction k with
  | zero => exact Int32.sub_self 0
  | succ k ih =>
    show (sumW f k + f k) - (sumW g k + g k) = sumW (fun i => f i - g i) k + (f k - g k)
    rw [← ih, g_ac1]
theorem sumW_one {f g : Nat → Int32} {p : Nat} : ∀ k : Nat, p < k → (∀ i, i < k → ¬ i = p → f i = g i) → sumW f k = sumW g k + (f p - g p) := by
  intro k
  induction k with
  | zero => intro h; omega
  | succ k ih =>
    intro hp h
    show sumW f k + f k = sumW g k + g k + (f p - g p)
    by_cases c : p = k
    · rw [sumW_cg k (fun i hi => h i (by omega) (by omega)), ← c]
      exact g_one _ _ _
    · rw [ih (by omega) (fun i hi => h i (by omega)), h k (by omega) (fun z => c z.symm)]
      ac_rfl
noncomputable def wdS (u : SX) (S : Nat → Int32 × Int32) (kp n : Nat) : Int32 := sumW (fun i => spr (ww u n i) (S i)) kp
theorem lfS_wd {u : SX} {S : Nat → Int32 × Int32} {kp n : Nat} : (lfS u S kp n).2 - (lfS u S kp n).1 = wdS u S kp n := by
  unfold lfS wdS
  show (u.2.1 40 n - sumW (fun i => mnS (ww u n i) (S i)) kp) - (u.2.1 40 n - sumW (fun i => mxS (ww u n i) (S i)) kp) = _
  rw [g_sub, sumW_sub]
  exact sumW_cg _ (fun i _ => (spr_eq _ _).symm)
theorem wdS_cg {u : SX} {S S' : Nat → Int32 × Int32} {kp n : Nat} (h : ∀ i, i < kp → S i = S' i) : wdS u S kp n = wdS u S' kp n := by
  unfold wdS
  exact sumW_cg _ (fun i hi => by rw [h i hi])
theorem UpTo_now {u v : SX} (hI : IX u) (hS : TieS u v) : UpTo (u.2.1 25) (u.1 0) (u.1 8) (u.1 8) := ⟨(hI.1 8).1, Int.le_refl _, fun h => by omega, fun i hi => (hS.2.1 i (by omega)).2.2.2.2.2.2⟩
theorem UpTo_nowC {u v : SX} (hI : IX u) (hS : TieS u v) : UpTo (u.2.1 34) (u.1 0) (u.1 12) (u.1 12) := ⟨(hI.1 12).1, Int.le_refl _, fun h => by omega, fun i hi => (hS.2.2.1 i (by omega)).2.2.2.2.2.2⟩
theorem wide_sp {x1 r : Int32} {S : Nat → Int32 × Int32} {u v v' : SX} (hI : IX u) (hPL : PL u) (hM : MR u v) (hs : SPv u S v) (e1 : v.1 1 = u.1 0) (a0 : 0 ≤ x1.toInt) (a1 : x1.toInt < (u.1 13).toInt) (h : fX12_wide_0 x1 v = some (r, v')) : MR u v' ∧ v'.1 1 = u.1 0 ∧ r = wdS u S (u.1 8).toNatClampNeg x1.toNatClampNeg := by
  unfold fX12_wide_0 at h
  obtain ⟨⟨r1, v2⟩, b1, h⟩ := bd_some h
  rw [e1] at b1
  obtain ⟨M2, -, F2, e, -⟩ := layLeft_sp hI hPL hM hs (UpTo_now hI hM.2.2.1) (hI.1 0).1 (hI.1 0).2 a0 a1 b1
  have q : (v2.1 17) - (v2.1 16) = r ∧ v2 = v' := by cases h; exact ⟨rfl, rfl⟩
  have f1 : v2.1 16 = (lfS u S (u.1 8).toNatClampNeg x1.toNatClampNeg).1 := congrArg Prod.fst e
  have f2 : v2.1 17 = (lfS u S (u.1 8).toNatClampNeg x1.toNatClampNeg).2 := congrArg Prod.snd e
  rw [← q.2, ← q.1, f1, f2, lfS_wd]
  exact ⟨M2, (F2.1 1 (by decide)).trans e1, rfl⟩
theorem laySp_SP {x3 r : Int32} {u v v' : SX} (hM : MR u v) (c0 : 0 ≤ x3.toInt) (c1 : x3.toInt ≤ (u.1 12).toInt) (h : fX12_laySpans_0 x3 v = some (r, v')) : MR u v' ∧ SPv u (spX u x3.toNatClampNeg) v' ∧ v'.1 = v.1 := by
  have hM9 := hM
  obtain ⟨hJ, hp, hS, hV, hG⟩ := hM9
  have e12 : u.1 12 = v.1 13 := hS.1
  have b30 : (v.1 13).toInt ≤ (30 : Int) := (hJ.1 13).2
  rw [e12] at c1
  have st : StM mdX12_laySpans_0 v v' := (Tot_at (tfX12_laySpans_0 x3 v hJ ⟨c0, by omega⟩) h).1
  obtain ⟨e1, -, e3⟩ := lay_sp hJ c0 (by omega) (fun j hj => TieS_ho hS j (by omega)) (TieS_hp hp hS) h
  refine ⟨MR_md st.1 st.2 (by decide) hM, fun i hi => ?_, e1⟩
  have hi' : (i : Int) < (v.1 12).toInt := by rw [← hp.1]; exact hi
  rw [e3 i hi']
  exact (spn_eq hS (k := x3.toNatClampNeg) (by
    show ((x3.toInt.toNat : Nat) : Int) ≤ _
    rw [e12]
    omega) hi).symm
theorem wideBy_sp {x1 x2 x3 r : Int32} {u v v' : SX} (hI : IX u) (hPL : PL u) (hM : MR u v) (e1 : v.1 1 = u.1 0) (a0 : 0 ≤ x1.toInt) (a1 : x1.toInt < (u.1 13).toInt) (p0 : 0 ≤ x2.toInt) (p1 : x2.toInt < (u.1 8).toInt) (c0 : 0 ≤ x3.toInt) (c1 : x3.toInt ≤ (u.1 12).toInt) (h : fX12_wideBy_0 x1 x2 x3 v = some (r, v')) : MR u v' ∧ v'.1 1 = u.1 0 ∧ r = wdS u (fun i => if i = x2.toNatClampNeg then spX u x3.toNatClampNeg i else spX u (u.1 12).toNatClampNeg i) (u.1 8).toNatClampNeg x1.toNatClampNeg := by
  unfold fX12_wideBy_0 at h
  obtain ⟨⟨r1, v2⟩, b1, h⟩ := bd_some h
  obtain ⟨M2, S2, f2⟩ := laySp_SP hM c0 c1 b1
  obtain ⟨-, h⟩ := gd_some h
  obtain ⟨v5, i5, h⟩ := lt_some h
  obtain ⟨-, h⟩ := gd_some h
  obtain ⟨v8, i8, h⟩ := lt_some h
  obtain ⟨⟨r10, v11⟩, b10, h⟩ := bd_some h
  have e13 : v2.1 13 = u.1 12 := M2.2.2.1.1.symm
  rw [e13] at b10
  obtain ⟨M11, S11, f11⟩ := laySp_SP M2 (hI.1 12).1 (Int.le_refl _) b10
  obtain ⟨-, h⟩ := gd_some h
  obtain ⟨v14, i14, h⟩ := lt_some h
  obtain ⟨-, h⟩ := gd_some h
  obtain ⟨v17, i17, h⟩ := lt_some h
  obtain ⟨⟨r19, v20⟩, b19, h⟩ := bd_some h
  have q : r19 = r ∧ v20 = v' := by cases h; exact ⟨rfl, rfl⟩
  have e2n : ((x2.toNatClampNeg : Nat) : Int) < (u.1 8).toInt := by show ((x2.toInt.toNat : Nat) : Int) < _; omega
  have s2 := S2 _ e2n
  rw [← i5, ← i8] at s2
  have k16 : v17.2.1 16 = upd (v11.2.1 16) x2.toNatClampNeg v5 := by rw [i17, i14]; rfl
  have k17 : v17.2.1 17 = upd (v11.2.1 17) x2.toNatClampNeg v8 := by rw [i17, i14]; rfl
  have F17 : FrM ([], [16, 17], [], []) v11 v17 := by
    rw [i17, i14]
    exact FrM_sA (FrM_sA FrM_rf (by decide)) (by decide)
  have b8 : (u.1 8).toInt ≤ (12 : Int) := (hI.1 8).2
  have J17 : IM v17 := by
    rw [i17, i14]
    have w5 : rlM 16 ≤ v5.toInt ∧ v5.toInt ≤ rhM 16 := by rw [i5]; exact M2.1.2.1 16 _
    have w8 : rlM 17 ≤ v8.toInt ∧ v8.toInt ≤ rhM 17 := by rw [i8]; exact M2.1.2.1 17 _
    exact (StM_sA (md := ([], [16, 17], [], [])) (StM_sA (StM_rf M11.1) (by decide) w5.1 w5.2 (by decide)) (by decide) w8.1 w8.2 (by decide)).1
  have M17 : MR u v17 := MR_md J17 F17 (by decide) M11
  have S17 : SPv u (fun i => if i = x2.toNatClampNeg then spX u x3.toNatClampNeg i else spX u (u.1 12).toNatClampNeg i) v17 := fun i hi => by
    show _ = if i = x2.toNatClampNeg then spX u x3.toNatClampNeg i else spX u (u.1 12).toNatClampNeg i
    rw [k16, k17]
    by_cases c : i = x2.toNatClampNeg
    · rw [if_pos c, c, upd_at, upd_at]
      exact s2
    · rw [if_neg c, upd_ne c, upd_ne c]
      exact S11 i hi
  have e17 : v17.1 1 = u.1 0 := by
    rw [F17.1 1 (by decide), f11, f2]
    exact e1
  obtain ⟨M20, e20, er⟩ := wide_sp hI hPL M17 S17 e17 a0 a1 b19
  rw [← q.1, ← q.2]
  exact ⟨M20, e20, er⟩
theorem gain_sp {x1 x2 r : Int32} {u u' : SX} (hR : RW u) (a0 : 0 ≤ x2.toInt) (a1 : x2.toInt < (u.1 13).toInt) (p0 : 0 ≤ (u.2.1 48 x1.toNatClampNeg).toInt) (p1 : (u.2.1 48 x1.toNatClampNeg).toInt < (u.1 8).toInt) (h : fX3_gain_10 x1 x2 u = some (r, u')) : RW u' ∧ FrM mdX7_leanOf_7 u u' ∧ r = spr (ww u x2.toNatClampNeg (u.2.1 48 x1.toNatClampNeg).toNatClampNeg) (u.2.1 53 x1.toNatClampNeg, u.2.1 54 x1.toNatClampNeg) - spr (ww u x2.toNatClampNeg (u.2.1 48 x1.toNatClampNeg).toNatClampNeg) (u.2.1 55 x1.toNatClampNeg, u.2.1 56 x1.toNatClampNeg) := by
  unfold fX3_gain_10 at h
  obtain ⟨-, h⟩ := gd_some h
  obtain ⟨⟨r2, u3⟩, b2, h⟩ := bd_some h
  obtain ⟨ew, R3, F3⟩ := leanX hR a0 a1 p0 p1 b2
  obtain ⟨-, h⟩ := gd_some h
  obtain ⟨-, h⟩ := gd_some h
  obtain ⟨r7, b7, h⟩ := bd_some h
  obtain ⟨-, h⟩ := gd_some h
  obtain ⟨-, h⟩ := gd_some h
  obtain ⟨r12, b12, h⟩ := bd_some h
  have q : r7 - r12 = r ∧ u3 = u' := by cases h; exact ⟨rfl, rfl⟩
  have s7 := spread_X b7
  have s12 := spread_X b12
  rw [F3.2.1 53 (by decide), F3.2.1 54 (by decide), ew] at s7
  rw [F3.2.1 55 (by decide), F3.2.1 56 (by decide), ew] at s12
  rw [← q.1, ← q.2, s7, s12]
  exact ⟨R3, F3, rfl⟩
theorem isDoi {x r : Int32} {u u' : SX} (h : fX3_isDone_10 x u = some (r, u')) : u' = u ∧ ((r = 0 ∧ u.2.1 52 x.toNatClampNeg = -1) ∨ (r = 1 ∧ ¬ u.2.1 52 x.toNatClampNeg = -1)) := by
  unfold fX3_isDone_10 at h
  obtain ⟨-, h⟩ := gd_some h
  by_cases c : u.2.1 52 x.toNatClampNeg = -1
  · rw [if_pos c] at h
    have e : (0 : Int32) = r ∧ u = u' := by cases (gd_some h).2; exact ⟨rfl, rfl⟩
    exact ⟨e.2.symm, Or.inl ⟨e.1.symm, c⟩⟩
  · rw [if_neg c] at h
    have e : (1 : Int32) = r ∧ u = u' := by cases (gd_some h).2; exact ⟨rfl, rfl⟩
    exact ⟨e.2.symm, Or.inr ⟨e.1.symm, c⟩⟩
def OKn (u : SX) (x1 x2 : Int32) : Prop := 0 ≤ x1.toInt ∧ x1.toInt < (u.1 29).toInt ∧ ¬ u.2.1 52 x1.toNatClampNeg = -1 ∧ 0 ≤ x2.toInt ∧ x2.toInt < (u.1 13).toInt
theorem narrX {x1 x2 r : Int32} {u u' : SX} (h : fX11_narrows_0 x1 x2 u = some (r, u')) : (¬ OKn u x1 x2 ∧ r = -100000000 ∧ u' = u) ∨ (OKn u x1 x2 ∧ fX3_gain_10 x1 x2 u = some (r, u')) := by
  unfold fX11_narrows_0 at h
  have no : some ((-100000000 : Int32), u) = some (r, u') → r = -100000000 ∧ u' = u := fun g => by
    have e : (-100000000 : Int32) = r ∧ u = u' := by cases g; exact ⟨rfl, rfl⟩
    exact ⟨e.1.symm, e.2.symm⟩
  obtain ⟨⟨r1, u2⟩, a1, h⟩ := bd_some h
  obtain ⟨e1, k1⟩ := hasLi a1
  rw [e1] at h
  have h : (if r1 = 0 then (some ((-100000000), u)) else _) = some (r, u') := h
  rcases k1 with ⟨z, k1⟩ | ⟨z, k1, k1'⟩
  · rw [if_pos z] at h
    exact Or.inl ⟨fun q => k1 ⟨q.1, q.2.1⟩, no h⟩
  · rw [if_neg (ne01 z)] at h
    obtain ⟨⟨r4, u5⟩, a4, h⟩ := bd_some h
    obtain ⟨e4, k4⟩ := isDoi a4
    rw [e4] at h
    have h : (if r4 = 0 then (some ((-100000000), u)) else _) = some (r, u') := h
    rcases k4 with ⟨z, k4⟩ | ⟨z, k4⟩
    · rw [if_pos z] at h
      exact Or.inl ⟨fun q => q.2.2.1 k4, no h⟩
    · rw [if_neg (ne01 z)] at h
      obtain ⟨⟨r7, u8⟩, a7, h⟩ := bd_some h
      obtain ⟨e7, k7⟩ := has7i a7
      rw [e7] at h
      have h : (if r7 = 0 then (some ((-100000000), u)) else ((fX3_gain_10 x1 x2 u).bind fun q => match q with | (r10, u11) => (some (r10, u11)))) = some (r, u') := h
      rcases k7 with ⟨z, k7⟩ | ⟨z, k7, k7'⟩
      · rw [if_pos z] at h
        exact Or.inl ⟨fun q => k7 ⟨q.2.2.2.1, q.2.2.2.2⟩, no h⟩
      · rw [if_neg (ne01 z)] at h
        obtain ⟨⟨r10, u11⟩, a10, h⟩ := bd_some h
        have e : r10 = r ∧ u11 = u' := by cases h; exact ⟨rfl, rfl⟩
        rw [e.1, e.2] at a10
        exact Or.inr ⟨⟨k1, k1', k4, k7, k7'⟩, a10⟩
def OKo (v : SX) (x1 x2 : Int32) : Prop := 0 ≤ x1.toInt ∧ x1.toInt < (v.1 21).toInt ∧ ¬ v.2.1 33 x1.toNatClampNeg = -1 ∧ 0 ≤ x2.toInt ∧ x2.toInt < (v.1 15).toInt
theorem narrM {x1 x2 r : Int32} {v v' : SX} (h : fX12_narrows_0 x1 x2 v = some (r, v')) : (¬ OKo v x1 x2 ∧ r = -100000000) ∨ (OKo v x1 x2 ∧ ∃ (s t : Int32) (w : SX), fX12_wideBy_0 x2 (v.2.1 29 x1.toNatClampNeg) (v.2.1 33 x1.toNatClampNeg) (sI v 0 0) = some (s, w) ∧ fX12_wideBy_0 x2 (w.2.1 29 x1.toNatClampNeg) ((w.2.1 33 x1.toNatClampNeg) + 1) w = some (t, v') ∧ r = s - t) := by
  unfold fX12_narrows_0 at h
  obtain ⟨v1, e1, h⟩ := lt_some h
  rw [← e1]
  have f15 : v1.1 15 = v.1 15 := by rw [e1]; rfl
  have f21 : v1.1 21 = v.1 21 := by rw [e1]; rfl
  have f33 : v1.2.1 33 = v.2.1 33 := by rw [e1]; rfl
  have f29 : v1.2.1 29 = v.2.1 29 := by rw [e1]; rfl
  clear e1
  unfold OKo
  rw [← f15, ← f21, ← f33, ← f29]
  have no : ∀ w : SX, some ((-100000000 : Int32), w) = some (r, v') → r = -100000000 := fun w g => by
    cases g; rfl
  obtain ⟨⟨r3, u4⟩, a3, h⟩ := bd_some h
  obtain ⟨e3, k3⟩ := isLi a3
  rw [e3] at h
  have h : (if r3 = 0 then (some ((-100000000), v1)) else _) = some (r, v') := h
  rcases k3 with ⟨z, k3⟩ | ⟨z, k3, k3'⟩
  · rw [if_pos z] at h
    exact Or.inl ⟨fun q => k3 ⟨q.1, q.2.1⟩, no _ h⟩
  · rw [if_neg (ne01 z)] at h
    obtain ⟨⟨r6, u7⟩, a6, h⟩ := bd_some h
    obtain ⟨e6, k6⟩ := isRi a6
    rw [e6] at h
    have h : (if r6 = 0 then (some ((-100000000), v1)) else (gd (inb x1 10) (if (v1.2.1 33 x1.toNatClampNeg) = (-1) then (some ((-100000000), v1)) else (gd (inb x1 10) (gd (inb x1 10) ((fX12_wideBy_0 x2 (v1.2.1 29 x1.toNatClampNeg) (v1.2.1 33 x1.toNatClampNeg) v1).bind fun q => match q with | (r12, u13) => (gd (inb x1 10) (gd (inb x1 10) ((fX12_wideBy_0 x2 (u13.2.1 29 x1.toNatClampNeg) ((u13.2.1 33 x1.toNatClampNeg) + 1) u13).bind fun q => match q with | (r17, u18) => (some (r12 - r17, u18)))))))))))  = some (r, v') := h
    rcases k6 with ⟨z, k6⟩ | ⟨z, k6, k6'⟩
    · rw [if_pos z] at h
      exact Or.inl ⟨fun q => k6 ⟨q.2.2.2.1, q.2.2.2.2⟩, no _ h⟩
    · rw [if_neg (ne01 z)] at h
      obtain ⟨-, h⟩ := gd_some h
      by_cases c : v1.2.1 33 x1.toNatClampNeg = -1
      · rw [if_pos c] at h
        exact Or.inl ⟨fun q => q.2.2.1 c, no _ h⟩
      · rw [if_neg c] at h
        obtain ⟨-, h⟩ := gd_some h
        obtain ⟨-, h⟩ := gd_some h
        obtain ⟨⟨r12, u13⟩, a12, h⟩ := bd_some h
        obtain ⟨-, h⟩ := gd_some h
        obtain ⟨-, h⟩ := gd_some h
        obtain ⟨⟨r17, u18⟩, a17, h⟩ := bd_some h
        have e : r12 - r17 = r ∧ u18 = v' := by cases h; exact ⟨rfl, rfl⟩
        rw [e.2] at a17
        exact Or.inr ⟨⟨k3, k3', c, k6, k6'⟩, r12, r17, u13, a12, a17, e.1.symm⟩
theorem narrows_eq {x1 x2 r r' : Int32} {u u' v v' : SX} (hR : RW u) (hK : CK u) (ht : Tie u v) (hM : MR u v) (h1 : fX11_narrows_0 x1 x2 u = some (r, u')) (h2 : fX12_narrows_0 x1 x2 v = some (r', v')) : r = r' ∧ RW u' ∧ CK u' := by
  have hp := hM.2.1
  have hS := hM.2.2.1
  have hI := hR.1
  have ok : OKn u x1 x2 ↔ OKo v x1 x2 := by
    unfold OKn OKo
    rw [← ht.2.2.2.2.2, ← hp.2.1]
    constructor
    · rintro ⟨q1, q2, q3, q4⟩
      exact ⟨q1, q2, fun z => q3 ((hp.2.2.2 x1.toNatClampNeg (by show ((x1.toInt.toNat : Nat) : Int) < _; omega)).1.mpr z), q4⟩
    · rintro ⟨q1, q2, q3, q4⟩
      exact ⟨q1, q2, fun z => q3 ((hp.2.2.2 x1.toNatClampNeg (by show ((x1.toInt.toNat : Nat) : Int) < _; omega)).1.mp z), q4⟩
  rcases narrX h1 with ⟨n1, g1, g2⟩ | ⟨o1, a1⟩
  · rcases narrM h2 with ⟨n2, g3⟩ | ⟨o2, -⟩
    · rw [g1, g3, g2]
      exact ⟨rfl, hR, hK⟩
    · exact absurd (ok.mpr o2) n1
  · rcases narrM h2 with ⟨n2, -⟩ | ⟨o2, s, t, w, a2, a3, g3⟩
    · exact absurd (ok.mp o1) n2
    · obtain ⟨q1, q2, q3, q4, q5⟩ := o1
      obtain ⟨-, -, d3, -⟩ := o2
      obtain ⟨l1, -, -, -, -, l6, l7, l8⟩ := hS.2.2.2.1 x1.toNatClampNeg (by show ((x1.toInt.toNat : Nat) : Int) < _; omega)
      obtain ⟨z0, z1, z2, z3, -⟩ := l8 d3
      obtain ⟨R', F', er⟩ := gain_sp hR q4 q5 l6 l7 a1
      refine ⟨?_, R', CK_md F' (by decide) (by decide) hK⟩
      have b12 : (u.1 12).toInt ≤ (30 : Int) := (hI.1 12).2
      rw [← l1] at a2
      obtain ⟨Mw, ew, es⟩ := wideBy_sp hI hR.2.2.1 (MR_0 hM) (show (sI v 0 0).1 1 = u.1 0 from ht.1.symm) q4 q5 l6 l7 z0 (by omega) a2
      have et : (v.2.1 33 x1.toNatClampNeg + 1).toInt = (v.2.1 33 x1.toNatClampNeg).toInt + 1 := addc_t (by decide) (by omega) (by omega)
      have n1 : (v.2.1 33 x1.toNatClampNeg + 1).toNatClampNeg = (v.2.1 33 x1.toNatClampNeg).toNatClampNeg + 1 := ns1 z0 (by omega)
      have hw := Mw.2.2.1.2.2.2.1 x1.toNatClampNeg (by show ((x1.toInt.toNat : Nat) : Int) < _; omega)
      have Fw : FrM mdX12_wideBy_0 (sI v 0 0) w := (Tot_at (tfX12_wideBy_0 x2 (u.2.1 48 x1.toNatClampNeg) (v.2.1 33 x1.toNatClampNeg) (sI v 0 0) (MR_0 hM).1 ⟨q4, by have := (hI.1 13).2; have : (u.1 13).toInt ≤ (80 : Int) := this; omega⟩ ⟨l6, by have := (hI.1 8).2; have : (u.1 8).toInt ≤ (12 : Int) := this; omega⟩ ⟨z0, by omega⟩) a2).1.2
      have w33 : w.2.1 33 = v.2.1 33 := Fw.2.1 33 (by decide)
      rw [← hw.1, w33] at a3
      obtain ⟨-, -, et2⟩ := wideBy_sp hI hR.2.2.1 Mw ew q4 q5 l6 l7 (by rw [et]; omega) (by rw [et]; omega) a3
      rw [n1] at et2
      rw [g3, er, z2, z3, es, et2]
      have hk : (u.2.1 48 x1.toNatClampNeg).toNatClampNeg < (u.1 8).toNatClampNeg := by
        show (u.2.1 48 x1.toNatClampNeg).toInt.toNat < (u.1 8).toInt.toNat
        omega
      unfold wdS
      rw [sumW_one (p := (u.2.1 48 x1.toNatClampNeg).toNatClampNeg) (u.1 8).toNatClampNeg hk (f := fun i => spr (ww u x2.toNatClampNeg i) (if i = (u.2.1 48 x1.toNatClampNeg).toNatClampNeg then spX u (v.2.1 33 x1.toNatClampNeg).toNatClampNeg i else spX u (u.1 12).toNatClampNeg i)) (g := fun i => spr (ww u x2.toNatClampNeg i) (if i = (u.2.1 48 x1.toNatClampNeg).toNatClampNeg then spX u ((v.2.1 33 x1.toNatClampNeg).toNatClampNeg + 1) i else spX u (u.1 12).toNatClampNeg i)) (fun i _ hn => by
        show spr _ (if i = _ then _ else _) = spr _ (if i = _ then _ else _)
        rw [if_neg hn, if_neg hn]), Int32.add_comm, Int32.add_sub_cancel]
      show _ = spr _ (if _ = _ then _ else _) - spr _ (if _ = _ then _ else _)
      rw [if_pos rfl, if_pos rfl]
