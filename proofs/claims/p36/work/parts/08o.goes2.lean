/-! The greatest mean less the least; goes, even. -/
theorem bm_l {x : Int} (h1 : -9223372036854775808 ≤ x) (h2 : x ≤ 9223372036854775807) : x.bmod (2 ^ 64) = x := Int.bmod_eq_of_le (by show -(18446744073709551616 / 2) ≤ x; omega) (by show x < (18446744073709551616 + 1) / 2; omega)
theorem i64_32 {x : Int64} (h1 : -2147483648 ≤ x.toInt) (h2 : x.toInt ≤ 2147483647) : x.toInt32.toInt = x.toInt := by
  rw [Int64.toInt_toInt32]
  exact bm_t h1 h2
theorem tdiv_q {s c : Int} {M : Int} (hc : 0 < c) (hM : 0 ≤ M) (h0 : -(c * M) ≤ s) (h1 : s ≤ c * M) : -M ≤ s.tdiv c ∧ s.tdiv c ≤ M := by
  rcases Int.lt_or_le s 0 with d | d
  · have e : s.tdiv c = -((-s).tdiv c) := by rw [Int.neg_tdiv, Int.neg_neg]
    rw [e, Int.tdiv_eq_ediv_of_nonneg (by omega)]
    have a0 : 0 ≤ (-s) / c := Int.ediv_nonneg (by omega) (by omega)
    have a1 : (-s) / c ≤ M := by
      have q : (-s) / c ≤ (c * M) / c := Int.ediv_le_ediv hc (by omega)
      rw [Int.mul_ediv_cancel_left _ (by omega)] at q
      exact q
    omega
  · rw [Int.tdiv_eq_ediv_of_nonneg d]
    have a0 : 0 ≤ s / c := Int.ediv_nonneg d (by omega)
    have a1 : s / c ≤ M := by
      have q : s / c ≤ (c * M) / c := Int.ediv_le_ediv hc h1
      rw [Int.mul_ediv_cancel_left _ (by omega)] at q
      exact q
    omega
theorem midB {p : Int32 × Int32} (h1 : Lb p.1) (h2 : Lb p.2) : -48100000 ≤ (mid p).toInt ∧ (mid p).toInt ≤ 48100000 := by
  obtain ⟨a0, a1⟩ := h1
  obtain ⟨b0, b1⟩ := h2
  have e : (p.1 + p.2).toInt = p.1.toInt + p.2.toInt := add_t (by omega) (by omega)
  unfold mid
  rw [Int32.toInt_div, e, show (2 : Int32).toInt = 2 by decide]
  obtain ⟨c0, c1⟩ := tdiv_q (s := p.1.toInt + p.2.toInt) (c := 2) (M := 48100000) (by omega) (by omega) (by omega) (by omega)
  rw [bm_t (by omega) (by omega)]
  exact ⟨c0, c1⟩
/-- the sums lie within their counts times the bound -/
theorem msS_b {V : Nat → Int32} {L : Nat → Int32 × Int32} : ∀ (m i : Nat), m ≤ 80 → (∀ n, n < m → Lb (L n).1 ∧ Lb (L n).2) → -((msC V m i).toInt * 48100000) ≤ (msS V L m i).toInt ∧ (msS V L m i).toInt ≤ (msC V m i).toInt * 48100000 := by
  intro m
  induction m with
  | zero =>
    intro i _ _
    exact ⟨by show -((0 : Int32).toInt * 48100000) ≤ (0 : Int64).toInt; decide, by show (0 : Int64).toInt ≤ (0 : Int32).toInt * 48100000; decide⟩
  | succ m ih =>
    intro i hm hL
    obtain ⟨a, b⟩ := ih i (by omega) (fun n hn => hL n (by omega))
    obtain ⟨l1, l2⟩ := hL m (by omega)
    obtain ⟨c, d⟩ := midB l1 l2
    obtain ⟨e, f⟩ := msC_b (V := V) m i (by omega)
    rw [msS_s, msC_s]
    by_cases g : i = (V m).toNatClampNeg
    · rw [if_pos g, if_pos g]
      have e1 : (msC V m i + 1).toInt = (msC V m i).toInt + 1 := addc_t (by decide) (by omega) (by omega)
      have e2 : (mid (L m)).toInt64.toInt = (mid (L m)).toInt := Int32.toInt_toInt64 _
      have e3 : (msS V L m i + (mid (L m)).toInt64).toInt = (msS V L m i).toInt + (mid (L m)).toInt := by
        rw [Int64.toInt_add, e2]
        exact bm_l (by omega) (by omega)
      rw [e1, e3]
      omega
    · rw [if_neg g, if_neg g]
      exact ⟨a, b⟩
/-- a mean -/
def mnL64 (s : Int64) (c : Int32) : Int64 := s / c.toInt64
theorem mean_t {s : Int64} {c : Int32} (hc : 0 < c.toInt) (h0 : -(c.toInt * 48100000) ≤ s.toInt) (h1 : s.toInt ≤ c.toInt * 48100000) : (mnL64 s c).toInt = s.toInt.tdiv c.toInt ∧ -48100000 ≤ (mnL64 s c).toInt ∧ (mnL64 s c).toInt ≤ 48100000 := by
  have ec : c.toInt64.toInt = c.toInt := Int32.toInt_toInt64 c
  have q := tdiv_q (M := 48100000) hc (by omega) h0 h1
  have e : (mnL64 s c).toInt = s.toInt.tdiv c.toInt := by
    unfold mnL64
    rw [Int64.toInt_div, ec]
    exact bm_l (by omega) (by omega)
  rw [e]
  exact ⟨rfl, q⟩
/-- both sides' rows of means: sums and counts of 41 values -/
def MN (f : Nat → Int64) (g : Nat → Int32) : Prop := ∀ i : Nat, i < 41 → (0 ≤ (g i).toInt ∧ -((g i).toInt * 48100000) ≤ (f i).toInt ∧ (f i).toInt ≤ (g i).toInt * 48100000)
theorem MN_of {V : Nat → Int32} {L : Nat → Int32 × Int32} {K : Nat} {f : Nat → Int64} {g : Nat → Int32} (hK : K ≤ 80) (hL : ∀ n, n < K → Lb (L n).1 ∧ Lb (L n).2) (h : ∀ i : Nat, i < 41 → f i = msS V L K i ∧ g i = msC V K i) : MN f g := fun i hi => by
  obtain ⟨e1, e2⟩ := h i hi
  rw [e1, e2]
  exact ⟨(msC_b K i hK).1, msS_b K i hK hL⟩
/-- the class's distance beside the reference's apart: z1 least, z3 greatest in long; y1 most, y2 least in int -/
theorem dist_L {r r' : Int32} {u u' v v' : SX} (hm : MN (u.2.2.2.1 42) (u.2.1 43)) (e22 : ∀ i : Nat, i < 41 → v.2.2.2.1 22 i = u.2.2.2.1 42 i ∧ v.2.1 23 i = u.2.1 43 i) : ∀ (n m : Nat) (z1 z3 : Int64) (z5 z6 y1 y2 : Int32), 0 ≤ z6.toInt → ((z5 = 0 ∧ y1 = -100000000 ∧ y2 = 100000000 ∧ ∀ i : Nat, (i : Int) < z6.toInt → u.2.1 43 i = 0) ∨ (z5 = 1 ∧ z1.toInt = y2.toInt ∧ z3.toInt = y1.toInt ∧ (-48100000 ≤ y1.toInt ∧ y1.toInt ≤ 48100000) ∧ (-48100000 ≤ y2.toInt ∧ y2.toInt ≤ 48100000))) → (∃ i : Nat, i < 41 ∧ ¬ u.2.1 43 i = 0) → LX1_distance_8_10 n z1 z3 z5 z6 u = some (r, u') → LX12_apart_0_10 m y1 y2 z6 v = some (r', v') → r = r' := by
  intro n
  induction n with
  | zero => intro m z1 z3 z5 z6 y1 y2 _ _ _ h; cases h
  | succ n ih =>
    intro m z1 z3 z5 z6 y1 y2 h0 hz hex g k
    cases m with
    | zero => cases k
    | succ m =>
      have g : (if 41 ≤ z6 then (some ((z3 - z1).toInt32, u)) else (gd (inb z6 41) (if (u.2.1 43 z6.toNatClampNeg) ≤ 0 then (GX1_distance_8_82 (LX1_distance_8_10 n) z1 z3 z5 z6 u) else (gd (inb z6 41) (gd (inb z6 41) (gd (nzL ((u.2.1 43 z6.toNatClampNeg).toInt64)) (lt ((u.2.2.2.1 42 z6.toNatClampNeg) / ((u.2.1 43 z6.toNatClampNeg).toInt64)) fun v5 => (if z5 = 0 then (GX1_distance_8_61 (LX1_distance_8_10 n) z3 z5 z6 v5 v5 u) else (GX1_distance_8_61 (LX1_distance_8_10 n) z3 z5 z6 v5 (if v5 < z1 then v5 else z1) u))))))))) = some (r, u') := g
      have k : (if 41 ≤ z6 then (some (y1 - y2, v)) else (gd (inb z6 41) (if (v.2.1 23 z6.toNatClampNeg) = 0 then (GX12_apart_0_48 (LX12_apart_0_10 m) y1 y2 z6 v) else ((fX12_mean_0 z6 v).bind fun q => match q with | (r2, u3) => (lt (if y1 < r2 then r2 else y1) fun v5 => ((fX12_mean_0 z6 u3).bind fun q => match q with | (r7, u8) => (lt (if r7 < y2 then r7 else y2) fun v10 => (GX12_apart_0_48 (LX12_apart_0_10 m) v5 v10 z6 u8)))))))) = some (r', v') := k
      by_cases c : 41 ≤ z6
      · rw [if_pos c] at g k
        have c9 : (41 : Int) ≤ z6.toInt := leI c
        have e : (z3 - z1).toInt32 = r := by cases g; rfl
        have e' : y1 - y2 = r' := by cases k; rfl
        rcases hz with ⟨-, -, -, q⟩ | ⟨-, q1, q2, q3, q4⟩
        · obtain ⟨i, i1, i2⟩ := hex
          exact absurd (q i (by omega)) i2
        · rw [← e, ← e']
          refine Int32.toInt.inj ?_
          have es : (z3 - z1).toInt = z3.toInt - z1.toInt := by
            rw [Int64.toInt_sub]
            exact bm_l (by omega) (by omega)
          rw [i64_32 (by rw [es]; omega) (by rw [es]; omega), es, sub_t (by omega) (by omega), q1, q2]
      · rw [if_neg c] at g k
        have c9 : ¬ (41 : Int) ≤ z6.toInt := nleI c
        have et : (z6 + 1).toInt = z6.toInt + 1 := addc_t (by decide) (by omega) (by omega)
        have zn : z6.toNatClampNeg = z6.toInt.toNat := rfl
        obtain ⟨-, g⟩ := gd_some g
        obtain ⟨-, k⟩ := gd_some k
        obtain ⟨p22, p23⟩ := e22 z6.toNatClampNeg (by rw [zn]; omega)
        obtain ⟨n0, n1, n2⟩ := hm z6.toNatClampNeg (by rw [zn]; omega)
        rw [p23] at k
        by_cases d : u.2.1 43 z6.toNatClampNeg ≤ 0
        · have d9 : (u.2.1 43 z6.toNatClampNeg).toInt ≤ (0 : Int) := leI d
          have d0 : u.2.1 43 z6.toNatClampNeg = 0 := Int32.toInt.inj (by show _ = (0 : Int); omega)
          rw [if_pos d] at g
          rw [if_pos d0] at k
          have g : LX1_distance_8_10 n z1 z3 z5 (z6 + 1) u = some (r, u') := g
          have k : LX12_apart_0_10 m y1 y2 (z6 + 1) v = some (r', v') := k
          refine ih m z1 z3 z5 (z6 + 1) y1 y2 (by rw [et]; omega) ?_ hex g k
          rcases hz with ⟨a1, a2, a3, q⟩ | q
          · refine Or.inl ⟨a1, a2, a3, fun i hi => ?_⟩
            rw [et] at hi
            by_cases ci : i = z6.toNatClampNeg
            · rw [ci]
              exact d0
            · rw [zn] at ci
              exact q i (by omega)
          · exact Or.inr q
        · have d9 : ¬ (u.2.1 43 z6.toNatClampNeg).toInt ≤ (0 : Int) := nleI d
          have d0 : ¬ u.2.1 43 z6.toNatClampNeg = 0 := fun z => d9 (by rw [z]; decide)
          rw [if_neg d] at g
          rw [if_neg d0] at k
          obtain ⟨-, g⟩ := gd_some g
          obtain ⟨-, g⟩ := gd_some g
          obtain ⟨-, g⟩ := gd_some g
          obtain ⟨v5, i5, g⟩ := lt_some g
          obtain ⟨w0, w1, w2⟩ := mean_t (by omega) n1 n2
          have i5 : v5 = mnL64 (u.2.2.2.1 42 z6.toNatClampNeg) (u.2.1 43 z6.toNatClampNeg) := i5
          rw [← i5] at w0 w1 w2
          have mean : ∀ (r1 : Int32) (w : SX), fX12_mean_0 z6 v = some (r1, w) → r1.toInt = v5.toInt ∧ w = v := fun r1 w q => by
            unfold fX12_mean_0 at q
            obtain ⟨-, q⟩ := gd_some q
            obtain ⟨-, q⟩ := gd_some q
            obtain ⟨-, q⟩ := gd_some q
            have e : (v.2.2.2.1 22 z6.toNatClampNeg / (v.2.1 23 z6.toNatClampNeg).toInt64).toInt32 = r1 ∧ v = w := by cases q; exact ⟨rfl, rfl⟩
            rw [p22, p23] at e
            have e1 : v5.toInt32 = r1 := by rw [i5]; exact e.1
            rw [← e1]
            exact ⟨i64_32 (by omega) (by omega), e.2.symm⟩
          obtain ⟨⟨r2, u3⟩, a2, k⟩ := bd_some k
          obtain ⟨f2, g3⟩ := mean _ _ a2
          obtain ⟨x5, j5, k⟩ := lt_some k
          rw [g3] at k
          obtain ⟨⟨r7, u8⟩, a7, k⟩ := bd_some k
          obtain ⟨f7, g8⟩ := mean _ _ a7
          obtain ⟨x10, j10, k⟩ := lt_some k
          rw [g8] at k
          have k : LX12_apart_0_10 m x5 x10 (z6 + 1) v = some (r', v') := k
          have fin : ∀ a b : Int64, a.toInt = x10.toInt → b.toInt = x5.toInt → (-48100000 ≤ x5.toInt ∧ x5.toInt ≤ 48100000) → (-48100000 ≤ x10.toInt ∧ x10.toInt ≤ 48100000) → LX1_distance_8_10 n a b 1 (z6 + 1) u = some (r, u') → r = r' := fun a b ea eb b5 b10 q => ih m a b 1 (z6 + 1) x5 x10 (by rw [et]; omega) (Or.inr ⟨rfl, ea, eb, b5, b10⟩) hex q k
          rcases hz with ⟨a1, a2', a3, -⟩ | ⟨a1, q1, q2, q3, q4⟩
          · rw [if_pos a1] at g
            unfold GX1_distance_8_61 at g
            rw [if_pos a1] at g
            have g : LX1_distance_8_10 n v5 v5 1 (z6 + 1) u = some (r, u') := g
            have h5 : x5 = r2 := by
              rw [j5, a2']
              refine if_pos (Int32.lt_iff_toInt_lt.mpr ?_)
              show (-100000000 : Int) < r2.toInt
              omega
            have h10 : x10 = r7 := by
              rw [j10, a3]
              refine if_pos (Int32.lt_iff_toInt_lt.mpr ?_)
              show r7.toInt < (100000000 : Int)
              omega
            refine fin v5 v5 (by rw [h10, f7]) (by rw [h5, f2]) ?_ ?_ g
            · rw [h5, f2]
              exact ⟨w1, w2⟩
            · rw [h10, f7]
              exact ⟨w1, w2⟩
          · rw [if_neg (ne01 a1)] at g
            unfold GX1_distance_8_61 at g
            rw [if_neg (ne01 a1)] at g
            have g : LX1_distance_8_10 n (if v5 < z1 then v5 else z1) (if v5 < z3 then z3 else v5) 1 (z6 + 1) u = some (r, u') := g
            refine fin _ _ ?_ ?_ ?_ ?_ g
            · rw [j10]
              by_cases e : v5 < z1
              · have e9 : v5.toInt < z1.toInt := Int64.lt_iff_toInt_lt.mp e
                have e' : r7 < y2 := Int32.lt_iff_toInt_lt.mpr (by omega)
                rw [if_pos e, if_pos e']
                exact f7.symm
              · have e9 : ¬ v5.toInt < z1.toInt := fun z => e (Int64.lt_iff_toInt_lt.mpr z)
                have e' : ¬ r7 < y2 := fun z => by
                  have z9 := ltI z
                  omega
                rw [if_neg e, if_neg e']
                exact q1
            · rw [j5]
              by_cases e : v5 < z3
              · have e9 : v5.toInt < z3.toInt := Int64.lt_iff_toInt_lt.mp e
                have e' : ¬ y1 < r2 := fun z => by
                  have z9 := ltI z
                  omega
                rw [if_pos e, if_neg e']
                exact q2
              · have e9 : ¬ v5.toInt < z3.toInt := fun z => e (Int64.lt_iff_toInt_lt.mpr z)
                by_cases e' : y1 < r2
                · rw [if_neg e, if_pos e']
                  exact f2.symm
                · have z9 := nltI e'
                  rw [if_neg e, if_neg e']
                  omega
            · rw [j5]
              by_cases e' : y1 < r2
              · rw [if_pos e', f2]
                exact ⟨w1, w2⟩
              · rw [if_neg e']
                exact q3
            · rw [j10]
              by_cases e' : r7 < y2
              · rw [if_pos e', f7]
                exact ⟨w1, w2⟩
              · rw [if_neg e']
                exact q4
theorem dist_eq {r r' : Int32} {u u' v v' : SX} (hm : MN (u.2.2.2.1 42) (u.2.1 43)) (e22 : ∀ i : Nat, i < 41 → v.2.2.2.1 22 i = u.2.2.2.1 42 i ∧ v.2.1 23 i = u.2.1 43 i) (hex : ∃ i : Nat, i < 41 ∧ ¬ u.2.1 43 i = 0) (h1 : fX1_distance_8 u = some (r, u')) (h2 : fX12_apart_0 v = some (r', v')) : r = r' := by
  unfold fX1_distance_8 at h1
  unfold fX12_apart_0 at h2
  generalize (5000 : Nat) = N at h1 h2
  exact dist_L hm e22 N N 0 0 0 0 (-100000000) 100000000 (by decide) (Or.inl ⟨rfl, rfl, rfl, fun i hi => by
    have hi : (i : Int) < 0 := hi
    omega⟩) hex h1 h2
/-- the letter of a reading's aim, the same on both sides -/
theorem aimV_of {x : Int32} {u : SX} (l0 : 0 ≤ x.toInt) (l5 : x.toInt ≤ 5) (z : Int32) (w : SX) (hI : IX u) (hM : MR u w) (z0 : 0 ≤ z.toInt) (z1 : z.toInt < (u.1 13).toInt) (r1 : Int32) (w1 : SX) (h : fX12_aimOf_0 z x w = some (r1, w1)) : r1 = u.2.1 36 (6 * z.toNatClampNeg + x.toNatClampNeg) ∧ w1 = w := by
  have b13 : (u.1 13).toInt ≤ (80 : Int) := (hI.1 13).2
  have zn : z.toNatClampNeg = z.toInt.toNat := rfl
  obtain ⟨-, -, -, d, a, hh, e, ww', l, -, ⟨p0, p1, p2, p3, p4, p5⟩, qm⟩ := hM.2.2.2.2.1 z.toNatClampNeg (by rw [zn]; omega)
  obtain ⟨m0, m1, m2, m3, m4, m5⟩ := aimOfM (x := z) rfl z0 (by omega) qm
  have xn : x.toNatClampNeg = x.toInt.toNat := rfl
  have all : x.toInt = 0 ∨ x.toInt = 1 ∨ x.toInt = 2 ∨ x.toInt = 3 ∨ x.toInt = 4 ∨ x.toInt = 5 := by omega
  have go : ∀ {c : Int32} {k : Nat} {y : Int32}, c.toInt = x.toInt → c.toNatClampNeg = k → u.2.1 36 (6 * z.toNatClampNeg + k) = y → (∀ r v', fX12_aimOf_0 z c w = some (r, v') → r = y ∧ v' = w) → r1 = u.2.1 36 (6 * z.toNatClampNeg + x.toNatClampNeg) ∧ w1 = w := fun {c k y} hc hk hy hm => by
    have ex : x = c := Int32.toInt.inj hc.symm
    rw [ex] at h ⊢
    obtain ⟨q1, q2⟩ := hm _ _ h
    rw [hk, hy]
    exact ⟨q1, q2⟩
  rcases all with q | q | q | q | q | q
  · exact go (c := 0) (k := 0) (by rw [q]; decide) (by decide) p0 m0
  · exact go (c := 1) (k := 1) (by rw [q]; decide) (by decide) p1 m1
  · exact go (c := 2) (k := 2) (by rw [q]; decide) (by decide) p2 m2
  · exact go (c := 3) (k := 3) (by rw [q]; decide) (by decide) p3 m3
  · exact go (c := 4) (k := 4) (by rw [q]; decide) (by decide) p4 m4
  · exact go (c := 5) (k := 5) (by rw [q]; decide) (by decide) p5 m5
/-- both sides' means as known in a day -/
theorem means_both {q x s t s' : Int32} {u w w2 v v' : SX} (hK : RK u) (hM : MR u v) (e15 : v.1 15 = u.1 13) (b0 : 0 ≤ q.toInt) (b1 : q.toInt ≤ 120) (l0 : 0 ≤ x.toInt) (l5 : x.toInt ≤ 5) (a1 : fX7_recall_7 q u = some (s, w)) (a2 : fX1_meansBy_8 x w = some (t, w2)) (a3 : fX12_layMeans_0 q x v = some (s', v')) : UpTo (u.2.1 37) q (u.1 13) (w.1 14) ∧ MN (w2.2.2.2.1 42) (w2.2.1 43) ∧ (∀ i : Nat, i < 41 → v'.2.2.2.1 22 i = w2.2.2.2.1 42 i ∧ v'.2.1 23 i = w2.2.1 43 i) ∧ t.toInt = (cntN (w2.2.1 43) 41 : Nat) ∧ ((w.1 14).toInt = 0 → t.toInt = 0) ∧ (¬ (w.1 14).toInt = 0 → ∃ i : Nat, i < 41 ∧ ¬ w2.2.1 43 i = 0) ∧ ∀ i : Nat, i < 41 → w2.2.1 43 i = msC (fun i => u.2.1 36 (6 * i + x.toNatClampNeg)) (w.1 14).toNatClampNeg i := by
  have hI := hK.1.1
  obtain ⟨Rw, Kw, Fw, k15, k16, U10, U11, U14⟩ := recall7_sp hK.1 hK.2 b0 b1 a1
  have el : lfX w = lfX u := lfX_md Fw (by decide)
  have k0 := U14.1
  have k1 := U14.2.1
  have b13 : (u.1 13).toInt ≤ (80 : Int) := (hI.1 13).2
  have kn : (w.1 14).toNatClampNeg = (w.1 14).toInt.toNat := rfl
  have Lr : ∀ i : Nat, (i : Int) < (w.1 14).toInt → lfX u (w.1 10).toNatClampNeg (w.1 11).toNatClampNeg i = (w.2.1 38 i, w.2.1 39 i) := fun i hi => by
    have := Kw.2.2.2 i hi
    rw [k15, k16, el] at this
    exact this.symm
  obtain ⟨s2, p2, pt⟩ := means_sp (V := fun i => u.2.1 36 (6 * i + x.toNatClampNeg)) (L := lfX u (w.1 10).toNatClampNeg (w.1 11).toNatClampNeg) Rw.1 l0 l5 (fun i _ => by rw [Fw.2.1 36 (by decide)]) Lr a2
  have pv := layMeans_sp (V := fun i => u.2.1 36 (6 * i + x.toNatClampNeg)) hI hK.1.2.2.1 hM e15 U10 U11 U14 b0 b1 (fun z w1 Mw z0 z1 r1 w2 h => aimV_of l0 l5 z w1 hI Mw z0 z1 r1 w2 h) a3
  have hL : ∀ n, n < (w.1 14).toNatClampNeg → Lb (lfX u (w.1 10).toNatClampNeg (w.1 11).toNatClampNeg n).1 ∧ Lb (lfX u (w.1 10).toNatClampNeg (w.1 11).toNatClampNeg n).2 := fun n hn => by
    refine lfXB hI hM hK.1.2.2.1 ?_ (by rw [kn] at hn; omega)
    have c0 := U10.1
    have c1 := U10.2.1
    show (((w.1 10).toInt.toNat : Nat) : Int) ≤ _
    omega
  have ecnt : cntN (w2.2.1 43) 41 = cntN (msC (fun i => u.2.1 36 (6 * i + x.toNatClampNeg)) (w.1 14).toNatClampNeg) 41 := cntN_cg 41 (fun i hi => by rw [(p2 i hi).2])
  refine ⟨U14, MN_of (by rw [kn]; omega) hL p2, fun i hi => ⟨(pv i hi).1.trans (p2 i hi).1.symm, (pv i hi).2.trans (p2 i hi).2.symm⟩, by rw [ecnt]; exact pt, fun z => ?_, fun z => ?_, fun i hi => (p2 i hi).2⟩
  · have z0 : (w.1 14).toNatClampNeg = 0 := by rw [kn, z]; rfl
    rw [z0] at pt
    have c0 : cntN (msC (fun i => u.2.1 36 (6 * i + x.toNatClampNeg)) 0) 41 = 0 := cntN_0 41 (fun _ _ => rfl)
    rw [c0] at pt
    exact pt
  · obtain ⟨m, hm⟩ : ∃ m : Nat, (w.1 14).toNatClampNeg = m + 1 := ⟨(w.1 14).toNatClampNeg - 1, by rw [kn]; omega⟩
    have a : (0 : Int) ≤ (u.2.1 36 (6 * m + x.toNatClampNeg)).toInt := (hI.2.1 36 _).1
    have b : (u.2.1 36 (6 * m + x.toNatClampNeg)).toInt ≤ (40 : Int) := (hI.2.1 36 _).2
    have hlt : (u.2.1 36 (6 * m + x.toNatClampNeg)).toNatClampNeg < 41 := by
      show (u.2.1 36 (6 * m + x.toNatClampNeg)).toInt.toNat < 41
      omega
    refine ⟨_, hlt, fun q => ?_⟩
    rw [(p2 _ hlt).2, hm, msC_s, if_pos rfl] at q
    obtain ⟨c0, c1⟩ := msC_b (V := fun i => u.2.1 36 (6 * i + x.toNatClampNeg)) m (u.2.1 36 (6 * m + x.toNatClampNeg)).toNatClampNeg (by omega)
    have q9 : (msC (fun i => u.2.1 36 (6 * i + x.toNatClampNeg)) m (u.2.1 36 (6 * m + x.toNatClampNeg)).toNatClampNeg + 1).toInt = (0 : Int) := eqI q
    rw [addc_t (n := 1) (by decide) (by omega) (by omega)] at q9
    omega
