/-! How many looks were done up to a day, on both sides. -/
def cntL (d : Nat → Int32) (q : Int) : Nat → Nat
  | 0 => 0
  | k + 1 => cntL d q k + (if d k = -1 then 0 else if q < (d k).toInt then 0 else 1)
def cntE (e d : Nat → Int32) (q : Int) : Nat → Nat
  | 0 => 0
  | k + 1 => cntE e d q k + (if e k = -1 then 0 else if q < (d k).toInt then 0 else 1)
theorem cntL_s {d : Nat → Int32} {q : Int} (k : Nat) : cntL d q (k + 1) = cntL d q k + (if d k = -1 then 0 else if q < (d k).toInt then 0 else 1) := rfl
theorem cntE_s {e d : Nat → Int32} {q : Int} (k : Nat) : cntE e d q (k + 1) = cntE e d q k + (if e k = -1 then 0 else if q < (d k).toInt then 0 else 1) := rfl
theorem cntL_cg {d d' : Nat → Int32} {q : Int} : ∀ k : Nat, (∀ i, i < k → d i = d' i) → cntL d q k = cntL d' q k := by
  intro k
  induction k with
  | zero => intro _; rfl
  | succ k ih =>
    intro h
    rw [cntL_s, cntL_s, ih (fun i hi => h i (by omega)), h k (by omega)]
theorem cntE_cg {e e' d d' : Nat → Int32} {q : Int} : ∀ k : Nat, (∀ i, i < k → e i = e' i) → (∀ i, i < k → d i = d' i) → cntE e d q k = cntE e' d' q k := by
  intro k
  induction k with
  | zero => intro _ _; rfl
  | succ k ih =>
    intro h g
    rw [cntE_s, cntE_s, ih (fun i hi => h i (by omega)) (fun i hi => g i (by omega)), h k (by omega), g k (by omega)]
theorem cntL_le {d : Nat → Int32} {q : Int} : ∀ k : Nat, cntL d q k ≤ k := by
  intro k
  induction k with
  | zero => exact Nat.le_refl _
  | succ k ih =>
    rw [cntL_s]
    by_cases c : d k = -1
    · rw [if_pos c]
      omega
    · rw [if_neg c]
      by_cases g : q < (d k).toInt
      · rw [if_pos g]
        omega
      · rw [if_neg g]
        omega
theorem cntE_le {e d : Nat → Int32} {q : Int} : ∀ k : Nat, cntE e d q k ≤ k := by
  intro k
  induction k with
  | zero => exact Nat.le_refl _
  | succ k ih =>
    rw [cntE_s]
    by_cases c : e k = -1
    · rw [if_pos c]
      omega
    · rw [if_neg c]
      by_cases g : q < (d k).toInt
      · rw [if_pos g]
        omega
      · rw [if_neg g]
        omega
theorem cntL_upd {d : Nat → Int32} {q : Int} {m : Nat} {y : Int32} (k : Nat) (h : k ≤ m) : cntL (upd d m y) q k = cntL d q k := cntL_cg k (fun i hi => upd_ne (by omega))
theorem cntE_upd {e d : Nat → Int32} {q : Int} {m : Nat} {x y : Int32} (k : Nat) (h : k ≤ m) : cntE (upd e m x) (upd d m y) q k = cntE e d q k := cntE_cg k (fun i hi => upd_ne (by omega)) (fun i hi => upd_ne (by omega))
theorem cntL_set {d : Nat → Int32} {q : Int} {x : Nat} {y : Int32} (hx : d x = -1) (hy : ¬ y = -1) : ∀ k : Nat, x < k → cntL (upd d x y) q k = cntL d q k + (if q < y.toInt then 0 else 1) := by
  intro k
  induction k with
  | zero => intro h; omega
  | succ k ih =>
    intro h
    rw [cntL_s, cntL_s]
    by_cases c : k = x
    · rw [cntL_upd k (Nat.le_of_eq c), c, upd_at, if_neg hy, if_pos hx, Nat.add_zero]
    · rw [upd_ne c, ih (by omega)]
      exact Nat.add_right_comm _ _ _
/-- looks done and their events are as many up to each day -/
def TieD (u v : SX) : Prop := ∀ q : Int, cntL (u.2.1 52) q (u.1 29).toNatClampNeg = cntE (v.2.1 11) (v.2.1 15) q (v.1 13).toNatClampNeg
theorem TieD_fr {u u' v v' : SX} (h29 : u'.1 29 = u.1 29) (h52 : u'.2.1 52 = u.2.1 52) (m13 : v'.1 13 = v.1 13) (m11 : v'.2.1 11 = v.2.1 11) (m15 : v'.2.1 15 = v.2.1 15) (h : TieD u v) : TieD u' v' := by
  unfold TieD at h ⊢
  rw [h29, h52, m13, m11, m15]
  exact h
theorem TieD_0 : TieD uX uM := fun q => rfl
theorem look52 {x1 x2 x3 x4 r : Int32} {u u' : SX} (h1 : fX11_look_0 x1 x2 x3 x4 u = some (r, u')) : u' = u ∨ (u'.1 29 = u.1 29 + 1 ∧ u'.2.1 52 = upd (u.2.1 52) (u.1 29).toNatClampNeg (-1) ∧ (u.1 29).toInt < 10) := by
  unfold fX11_look_0 at h1
  have no : some ((-1 : Int32), u) = some (r, u') → u' = u := fun g => by
    cases g
    rfl
  have g34 : GX11_look_0_34 x1 x2 x3 x4 u = some ((-1), u) := by
    unfold GX11_look_0_34 GX11_look_0_35
    rw [if_pos rfl]
  obtain ⟨⟨s1, u2⟩, a1, h1⟩ := bd_some h1
  obtain ⟨es, k1⟩ := hasPi a1
  rw [es] at h1
  have h1 : (if s1 = 0 then (GX11_look_0_34 x1 x2 x3 x4 u) else _) = some (r, u') := h1
  rcases k1 with ⟨z, -⟩ | ⟨z, p0, p1⟩
  · rw [if_pos z, g34] at h1
    exact Or.inl (no h1)
  · rw [if_neg (ne01 z)] at h1
    obtain ⟨s4, a4, h1⟩ := bd_some h1
    by_cases c4 : s4 = 0
    · rw [if_pos c4, g34] at h1
      exact Or.inl (no h1)
    · rw [if_neg c4] at h1
      obtain ⟨s7, a7, h1⟩ := bd_some h1
      by_cases c7 : s7 = 0
      · rw [if_pos c7, g34] at h1
        exact Or.inl (no h1)
      · rw [if_neg c7] at h1
        unfold GX11_look_0_35 at h1
        rw [if_neg (by decide)] at h1
        by_cases n10 : u.1 29 < 10
        · rw [if_pos n10] at h1
          have n9 : (u.1 29).toInt < (10 : Int) := ltI n10
          obtain ⟨⟨s10, u11⟩, a10, h1⟩ := bd_some h1
          have e1 : u11 = u' := by cases h1; rfl
          unfold fX3_add_10 at a10
          rw [if_pos n10] at a10
          obtain ⟨-, a10⟩ := gd_some a10
          obtain ⟨w1, j1, a10⟩ := lt_some a10
          obtain ⟨-, a10⟩ := gd_some a10
          obtain ⟨w2, j2, a10⟩ := lt_some a10
          obtain ⟨-, a10⟩ := gd_some a10
          obtain ⟨w3, j3, a10⟩ := lt_some a10
          obtain ⟨-, a10⟩ := gd_some a10
          obtain ⟨w4, j4, a10⟩ := lt_some a10
          obtain ⟨-, a10⟩ := gd_some a10
          obtain ⟨w5, j5, a10⟩ := lt_some a10
          obtain ⟨w6, j6, a10⟩ := lt_some a10
          have e3 : w6 = u11 := by cases a10; rfl
          refine Or.inr ⟨?_, ?_, n9⟩
          · rw [← e1, ← e3, j6, j5, j4, j3, j2, j1]
            rfl
          · rw [← e1, ← e3, j6, j5, j4, j3, j2, j1]
            rfl
        · rw [if_neg n10] at h1
          exact Or.inl (no h1)
theorem lookD {x1 x2 x3 x4 r : Int32} {u u' v v' : SX} (hI : IX u) (hm : FrM mdX12_look__0 v v') (hD : TieD u v) (h1 : fX11_look_0 x1 x2 x3 x4 u = some (r, u')) : TieD u' v' := by
  have m13 := hm.1 13 (by decide)
  have m11 := hm.2.1 11 (by decide)
  have m15 := hm.2.1 15 (by decide)
  rcases look52 h1 with e | ⟨k29, k52, n9⟩
  · rw [e]
    exact TieD_fr rfl rfl m13 m11 m15 hD
  · have b0 : (0 : Int) ≤ (u.1 29).toInt := (hI.1 29).1
    have en := ns1 b0 (show (u.1 29).toInt ≤ 5000 by omega)
    intro q
    rw [k29, k52, m13, m11, m15, en, cntL_s, upd_at, if_pos rfl, cntL_upd _ (Nat.le_refl _), Nat.add_zero]
    exact hD q
theorem carry52 {x1 r : Int32} {u u' : SX} (hI : IX u) (h0 : 0 ≤ x1.toInt) (h9 : x1.toInt < (u.1 29).toInt) (h : fX3_carryOut_10 x1 (u.1 0) u = some (r, u')) : u'.2.1 52 = upd (u.2.1 52) x1.toNatClampNeg (u.1 0) := by
  have bn : 0 ≤ (u.1 0).toInt ∧ (u.1 0).toInt ≤ 120 := hI.1 0
  unfold fX3_carryOut_10 at h
  obtain ⟨-, h⟩ := gd_some h
  obtain ⟨v2, e2, h⟩ := lt_some h
  obtain ⟨⟨r4, u5⟩, a4, h⟩ := bd_some h
  have s5 : StX mdX6_recall_6 u u5 := (Tot_at (tfX6_recall_6 (u.1 0) u hI bn) a4).1
  obtain ⟨-, h⟩ := gd_some h
  obtain ⟨-, h⟩ := gd_some h
  obtain ⟨u9, j9, h⟩ := lt_some h
  obtain ⟨-, h⟩ := gd_some h
  obtain ⟨-, h⟩ := gd_some h
  obtain ⟨u13, j13, h⟩ := lt_some h
  obtain ⟨-, h⟩ := gd_some h
  obtain ⟨-, h⟩ := gd_some h
  obtain ⟨⟨r17, u18⟩, a17, h⟩ := bd_some h
  have I9 : IX u9 := by
    rw [j9]
    exact (StX_sA (md := ([], [53], [], [])) (StX_rf s5.1) (by decide) (Int.le_trans (by decide) (s5.1.2.1 27 _).1) (Int.le_trans (s5.1.2.1 27 _).2 (by decide)) rfl).1
  have I13 : IX u13 := by
    rw [j13]
    exact (StX_sA (md := ([], [54], [], [])) (StX_rf I9) (by decide) (Int.le_trans (by decide) (I9.2.1 28 _).1) (Int.le_trans (I9.2.1 28 _).2 (by decide)) rfl).1
  have bv : 0 ≤ v2.toInt ∧ v2.toInt ≤ 11 := by rw [e2]; exact ⟨(hI.2.1 48 _).1, (hI.2.1 48 _).2⟩
  have s18 : StX mdX6_change_6 u13 u18 := (Tot_at (tfX6_change_6 v2 _ _ (u.1 0) 0 u13 I13 bv ⟨(I13.2.1 49 _).1, (I13.2.1 49 _).2⟩ ⟨(I13.2.1 50 _).1, (I13.2.1 50 _).2⟩ bn (by decide)) a17).1
  have t52 : u13.2.1 52 = u.2.1 52 := by
    rw [j13, j9]
    exact s5.2.2.1 52 (by decide)
  obtain ⟨⟨r20, u21⟩, a20, h⟩ := bd_some h
  have s21 : StX mdX6_recall_6 u18 u21 := (Tot_at (tfX6_recall_6 (u.1 0) u18 s18.1 bn) a20).1
  obtain ⟨-, h⟩ := gd_some h
  obtain ⟨-, h⟩ := gd_some h
  obtain ⟨u25, j25, h⟩ := lt_some h
  obtain ⟨-, h⟩ := gd_some h
  obtain ⟨-, h⟩ := gd_some h
  obtain ⟨u29, j29, h⟩ := lt_some h
  obtain ⟨-, h⟩ := gd_some h
  obtain ⟨u32, j32, h⟩ := lt_some h
  have e : u32 = u' := by cases h; rfl
  have k29 : u29.2.1 52 = u.2.1 52 := by
    rw [j29, j25]
    show u21.2.1 52 = _
    rw [s21.2.2.1 52 (by decide), s18.2.2.1 52 (by decide), t52]
  rw [← e, j32]
  show upd (u29.2.1 52) x1.toNatClampNeg (u.1 0) = _
  rw [k29]
theorem doneD {x1 r r' : Int32} {u u' v v' : SX} (hI : IX u) (hJ : IM v) (ht : Tie u v) (hp : TieP u v) (hD : TieD u v) (hx : FrM mdX11_done_0 u u') (er : r = r') (h1 : fX11_done_0 x1 u = some (r, u')) (h2 : fX12_done_0 x1 v = some (r', v')) : TieD u' v' := by
  rcases doneX h1 with ⟨z1, e1⟩ | ⟨z1, a0, a1, s, h⟩
  · rcases doneM h2 with ⟨z2, e2⟩ | ⟨z2, -⟩
    · rw [e1, e2]
      exact TieD_fr rfl rfl rfl rfl rfl hD
    · exact absurd (z1.symm.trans (er.trans z2)) (by decide)
  · rcases doneM h2 with ⟨z2, -⟩ | ⟨-, -, -, n33, s', w, w13, w1, wr, -, b⟩
    · exact absurd (z1.symm.trans (er.trans z2)) (by decide)
    · have b13 : (0 : Int) ≤ (v.1 13).toInt := (hJ.1 13).1
      have bn : (0 : Int) ≤ (u.1 0).toInt := (hI.1 0).1
      obtain ⟨m30, k13, k11, -, -, -, k15⟩ := hapM b
      rw [w13] at m30 k13 k11 k15
      rw [wr 11 rfl] at k11
      rw [wr 15 rfl, w1] at k15
      have en := ns1 b13 (show (v.1 13).toInt ≤ 5000 by omega)
      have hn : ((x1.toNatClampNeg : Nat) : Int) < (u.1 29).toInt := by
        show ((x1.toInt.toNat : Nat) : Int) < _
        omega
      have o52 : u.2.1 52 x1.toNatClampNeg = -1 := (hp.2.2.2 _ hn).1.mpr n33
      have k52 := carry52 hI a0 a1 h
      have nx : ¬ x1 = -1 := fun z => by
        rw [z] at a0
        exact absurd a0 (by decide)
      have nn : ¬ u.1 0 = -1 := fun z => by
        rw [z] at bn
        exact absurd bn (by decide)
      have hlt : x1.toNatClampNeg < (u.1 29).toNatClampNeg := by
        show x1.toInt.toNat < (u.1 29).toInt.toNat
        omega
      intro q
      rw [hx.1 29 (by decide), k52, k13, k11, k15, en, cntE_s, upd_at, upd_at, if_neg nx, cntL_set o52 nn _ hlt, cntE_upd _ (Nat.le_refl _), hD q, ht.1]
theorem cleanD {x1 x2 x3 x4 r r' : Int32} {u u' v v' : SX} (hJ : IM v) (hD : TieD u v) (hx : FrM mdX11_clean_0 u u') (h2 : fX12_clean_0 x1 x2 x3 x4 v = some (r', v')) : TieD u' v' := by
  have x29 := hx.1 29 (by decide)
  have x52 := hx.2.1 52 (by decide)
  rcases cleanM h2 with ⟨-, e2⟩ | ⟨-, s', w, b, q13, qr, -⟩
  · rw [e2]
    exact TieD_fr x29 x52 rfl rfl rfl hD
  · have b13 : (0 : Int) ≤ (v.1 13).toInt := (hJ.1 13).1
    obtain ⟨m30, k13, k11, -, -, -, k15⟩ := hapM b
    have m30 : (v.1 13).toInt < 30 := m30
    have k13 : w.1 13 = v.1 13 + 1 := k13
    have k11 : w.2.1 11 = upd (v.2.1 11) (v.1 13).toNatClampNeg (-1) := k11
    have k15 : w.2.1 15 = upd (v.2.1 15) (v.1 13).toNatClampNeg (v.1 1) := k15
    have en := ns1 b13 (show (v.1 13).toInt ≤ 5000 by omega)
    intro q
    rw [x29, x52, q13, k13, qr 11 rfl, qr 15 rfl, k11, k15, en, cntE_s, upd_at, if_pos rfl, cntE_upd _ (Nat.le_refl _), Nat.add_zero]
    exact hD q
/-- the class counts the looks done up to a day -/
theorem dut_L {x1 r : Int32} {u' : SX} {u : SX} (hI : IX u) : ∀ (n : Nat) (z2 z3 : Int32), 0 ≤ z3.toInt → z3.toInt ≤ (u.1 29).toInt → z2.toInt = (cntL (u.2.1 52) x1.toInt z3.toNatClampNeg : Nat) → LX3_doneUpTo_10_4 n x1 z2 z3 u = some (r, u') → u' = u ∧ r.toInt = (cntL (u.2.1 52) x1.toInt (u.1 29).toNatClampNeg : Nat) := by
  intro n
  induction n with
  | zero => intro z2 z3 _ _ _ h; cases h
  | succ n ih =>
    intro z2 z3 h0 h9 e2 h
    have b29 : (u.1 29).toInt ≤ (10 : Int) := (hI.1 29).2
    have h : (if (u.1 29) ≤ z3 then (some (z2, u)) else ((fX3_isDone_10 z3 u).bind fun q => match q with | (r1, u2) => (if r1 = 0 then (GX3_doneUpTo_10_33 (LX3_doneUpTo_10_4 n) x1 z2 z3 u2) else (gd (inb z3 10) (if x1 < (u2.2.1 52 z3.toNatClampNeg) then (GX3_doneUpTo_10_33 (LX3_doneUpTo_10_4 n) x1 z2 z3 u2) else (GX3_doneUpTo_10_33 (LX3_doneUpTo_10_4 n) x1 (z2 + 1) z3 u2)))))) = some (r, u') := h
    by_cases c : u.1 29 ≤ z3
    · rw [if_pos c] at h
      have c9 := leI c
      have e : z2 = r ∧ u = u' := by cases h; exact ⟨rfl, rfl⟩
      have ez : (u.1 29).toNatClampNeg = z3.toNatClampNeg := by
        show (u.1 29).toInt.toNat = z3.toInt.toNat
        rw [show (u.1 29).toInt = z3.toInt by omega]
      rw [← e.1, ← e.2, ez]
      exact ⟨rfl, e2⟩
    · rw [if_neg c] at h
      have c9 := nleI c
      have et : (z3 + 1).toInt = z3.toInt + 1 := addc_t (by decide) (by omega) (by omega)
      have en := ns1 h0 (show z3.toInt ≤ 5000 by omega)
      obtain ⟨⟨r1, u2⟩, a1, h⟩ := bd_some h
      obtain ⟨eu, k1⟩ := isDoi a1
      rw [eu] at h
      have h : (if r1 = 0 then (LX3_doneUpTo_10_4 n x1 z2 (z3 + 1) u) else (gd (inb z3 10) (if x1 < (u.2.1 52 z3.toNatClampNeg) then (LX3_doneUpTo_10_4 n x1 z2 (z3 + 1) u) else (LX3_doneUpTo_10_4 n x1 (z2 + 1) (z3 + 1) u)))) = some (r, u') := h
      have same : (cntL (u.2.1 52) x1.toInt (z3 + 1).toNatClampNeg = cntL (u.2.1 52) x1.toInt z3.toNatClampNeg) → LX3_doneUpTo_10_4 n x1 z2 (z3 + 1) u = some (r, u') → u' = u ∧ r.toInt = (cntL (u.2.1 52) x1.toInt (u.1 29).toNatClampNeg : Nat) := fun ec g => ih z2 (z3 + 1) (by rw [et]; omega) (by rw [et]; omega) (by rw [ec]; exact e2) g
      rcases k1 with ⟨z, k1⟩ | ⟨z, k1⟩
      · rw [if_pos z] at h
        refine same ?_ h
        rw [en, cntL_s, if_pos k1, Nat.add_zero]
      · rw [if_neg (ne01 z)] at h
        obtain ⟨-, h⟩ := gd_some h
        by_cases d : x1 < u.2.1 52 z3.toNatClampNeg
        · rw [if_pos d] at h
          refine same ?_ h
          rw [en, cntL_s, if_neg k1, if_pos (ltI d), Nat.add_zero]
        · rw [if_neg d] at h
          have hl := cntL_le (d := u.2.1 52) (q := x1.toInt) z3.toNatClampNeg
          have hl : cntL (u.2.1 52) x1.toInt z3.toNatClampNeg ≤ z3.toInt.toNat := hl
          have e2' : (z2 + 1).toInt = z2.toInt + 1 := addc_t (by decide) (by omega) (by omega)
          refine ih (z2 + 1) (z3 + 1) (by rw [et]; omega) (by rw [et]; omega) ?_ h
          rw [e2', e2, en, cntL_s, if_neg k1, if_neg (nltI d)]
          try rfl
/-- the reference counts the events of looks up to a day -/
theorem say68 {k115 : Int32 → Int32 → Int32 → Int32 → SX → Option (Int32 × SX)} {z1 z2 z3 r : Int32} {v v' : SX} (hJ : IM v) : ∀ (n : Nat) (z4 z5 : Int32), 0 ≤ z5.toInt → z5.toInt ≤ (v.1 13).toInt → z4.toInt = (cntE (v.2.1 11) (v.2.1 15) z2.toInt z5.toNatClampNeg : Nat) → LX12_say_0_68 k115 n z1 z2 z3 z4 z5 v = some (r, v') → ∃ c : Int32, c.toInt = (cntE (v.2.1 11) (v.2.1 15) z2.toInt (v.1 13).toNatClampNeg : Nat) ∧ k115 z1 z2 z3 c v = some (r, v') := by
  intro n
  induction n with
  | zero => intro z4 z5 _ _ _ h; cases h
  | succ n ih =>
    intro z4 z5 h0 h9 e4 h
    have b13 : (v.1 13).toInt ≤ (30 : Int) := (hJ.1 13).2
    have h : (if (v.1 13) ≤ z5 then (k115 z1 z2 z3 z4 v) else (gd (inb z5 30) (if (v.2.1 11 z5.toNatClampNeg) = (-1) then (GX12_say_0_105 (LX12_say_0_68 k115 n) z1 z2 z3 z5 z4 v) else (gd (inb z5 30) (if z2 < (v.2.1 15 z5.toNatClampNeg) then (GX12_say_0_105 (LX12_say_0_68 k115 n) z1 z2 z3 z5 z4 v) else (GX12_say_0_106 (LX12_say_0_68 k115 n) z1 z2 z3 z5 1 z4 v)))))) = some (r, v') := h
    by_cases c : v.1 13 ≤ z5
    · rw [if_pos c] at h
      have c9 := leI c
      have ez : (v.1 13).toNatClampNeg = z5.toNatClampNeg := by
        show (v.1 13).toInt.toNat = z5.toInt.toNat
        rw [show (v.1 13).toInt = z5.toInt by omega]
      rw [ez]
      exact ⟨z4, e4, h⟩
    · rw [if_neg c] at h
      have c9 := nleI c
      have et : (z5 + 1).toInt = z5.toInt + 1 := addc_t (by decide) (by omega) (by omega)
      have en := ns1 h0 (show z5.toInt ≤ 5000 by omega)
      have hl := cntE_le (e := v.2.1 11) (d := v.2.1 15) (q := z2.toInt) z5.toNatClampNeg
      have hl : cntE (v.2.1 11) (v.2.1 15) z2.toInt z5.toNatClampNeg ≤ z5.toInt.toNat := hl
      obtain ⟨-, h⟩ := gd_some h
      have nx : ∀ (y0 : Int32) (m : Nat), y0.toInt = (m : Int) → m ≤ 1 → cntE (v.2.1 11) (v.2.1 15) z2.toInt (z5 + 1).toNatClampNeg = cntE (v.2.1 11) (v.2.1 15) z2.toInt z5.toNatClampNeg + m → GX12_say_0_106 (LX12_say_0_68 k115 n) z1 z2 z3 z5 y0 z4 v = some (r, v') → ∃ c : Int32, c.toInt = (cntE (v.2.1 11) (v.2.1 15) z2.toInt (v.1 13).toNatClampNeg : Nat) ∧ k115 z1 z2 z3 c v = some (r, v') := fun y0 m ey hm ec g => by
        unfold GX12_say_0_106 at g
        obtain ⟨v11, i11, g⟩ := lt_some g
        refine ih v11 (z5 + 1) (by rw [et]; omega) (by rw [et]; omega) ?_ g
        rw [i11, add_t (by omega) (by omega), ec, e4, ey]
        omega
      by_cases d1 : v.2.1 11 z5.toNatClampNeg = -1
      · rw [if_pos d1] at h
        refine nx 0 0 (by decide) (by decide) ?_ h
        rw [en, cntE_s, if_pos d1]
      · rw [if_neg d1] at h
        obtain ⟨-, h⟩ := gd_some h
        by_cases d2 : z2 < v.2.1 15 z5.toNatClampNeg
        · rw [if_pos d2] at h
          refine nx 0 0 (by decide) (by decide) ?_ h
          rw [en, cntE_s, if_neg d1, if_pos (ltI d2)]
        · rw [if_neg d2] at h
          refine nx 1 1 (by decide) (by decide) ?_ h
          rw [en, cntE_s, if_neg d1, if_neg (nltI d2)]
