/-! Middles sorted by a letter, on both sides. -/
theorem updL_at {d : Nat → Int64} {n : Nat} {x : Int64} : vp_updL d n x n = x := by
  show (if n = n then x else d n) = x
  rw [if_pos rfl]
theorem updL_ne {d : Nat → Int64} {n i : Nat} {x : Int64} (h : ¬ i = n) : vp_updL d n x i = d i := by
  show (if i = n then x else d i) = d i
  rw [if_neg h]
def mid (p : Int32 × Int32) : Int32 := (p.1 + p.2) / 2
def msS (V : Nat → Int32) (L : Nat → Int32 × Int32) : Nat → Nat → Int64
  | 0, _ => 0
  | m + 1, i => if i = (V m).toNatClampNeg then msS V L m i + (mid (L m)).toInt64 else msS V L m i
def msC (V : Nat → Int32) : Nat → Nat → Int32
  | 0, _ => 0
  | m + 1, i => if i = (V m).toNatClampNeg then msC V m i + 1 else msC V m i
theorem msS_s {V : Nat → Int32} {L : Nat → Int32 × Int32} (m i : Nat) : msS V L (m + 1) i = if i = (V m).toNatClampNeg then msS V L m i + (mid (L m)).toInt64 else msS V L m i := rfl
theorem msC_s {V : Nat → Int32} (m i : Nat) : msC V (m + 1) i = if i = (V m).toNatClampNeg then msC V m i + 1 else msC V m i := rfl
theorem msC_b {V : Nat → Int32} : ∀ (m i : Nat), m ≤ 80 → 0 ≤ (msC V m i).toInt ∧ (msC V m i).toInt ≤ (m : Int) := by
  intro m
  induction m with
  | zero =>
    intro i _
    exact ⟨by show (0 : Int) ≤ (0 : Int32).toInt; decide, by show (0 : Int32).toInt ≤ ((0 : Nat) : Int); decide⟩
  | succ m ih =>
    intro i hm
    obtain ⟨a, b⟩ := ih i (by omega)
    rw [msC_s]
    by_cases c : i = (V m).toNatClampNeg
    · rw [if_pos c]
      have e : (msC V m i + 1).toInt = (msC V m i).toInt + 1 := addc_t (by decide) (by omega) (by omega)
      rw [e]
      omega
    · rw [if_neg c]
      omega
/-- how many of the first n are not 0 -/
def cntN (g : Nat → Int32) : Nat → Nat
  | 0 => 0
  | k + 1 => cntN g k + (if g k = 0 then 0 else 1)
theorem cntN_s {g : Nat → Int32} (k : Nat) : cntN g (k + 1) = cntN g k + (if g k = 0 then 0 else 1) := rfl
theorem cntN_cg {g g' : Nat → Int32} : ∀ k : Nat, (∀ i, i < k → (g i = 0 ↔ g' i = 0)) → cntN g k = cntN g' k := by
  intro k
  induction k with
  | zero => intro _; rfl
  | succ k ih =>
    intro h
    rw [cntN_s, cntN_s, ih (fun i hi => h i (by omega))]
    have q := h k (by omega)
    by_cases c : g k = 0
    · rw [if_pos c, if_pos (q.mp c)]
    · rw [if_neg c, if_neg (fun z => c (q.mpr z))]
theorem cntN_le {g : Nat → Int32} : ∀ k : Nat, cntN g k ≤ k := by
  intro k
  induction k with
  | zero => exact Nat.le_refl _
  | succ k ih =>
    rw [cntN_s]
    by_cases c : g k = 0
    · rw [if_pos c]
      omega
    · rw [if_neg c]
      omega
theorem cntN_new {g g' : Nat → Int32} {x : Nat} (h0 : g x = 0) (h1 : ¬ g' x = 0) (hne : ∀ i, ¬ i = x → (g i = 0 ↔ g' i = 0)) : ∀ k : Nat, x < k → cntN g' k = cntN g k + 1 := by
  intro k
  induction k with
  | zero => intro h; omega
  | succ k ih =>
    intro h
    rw [cntN_s, cntN_s]
    by_cases c : k = x
    · rw [cntN_cg (g := g') (g' := g) k (fun i hi => (hne i (by omega)).symm), c, if_neg h1, if_pos h0]
    · rw [ih (by omega)]
      have q := hne k c
      by_cases d : g k = 0
      · rw [if_pos d, if_pos (q.mp d)]
      · rw [if_neg d, if_neg (fun z => d (q.mpr z))]
theorem cntN_0 {g : Nat → Int32} : ∀ k : Nat, (∀ i, i < k → g i = 0) → cntN g k = 0 := by
  intro k
  induction k with
  | zero => intro _; rfl
  | succ k ih =>
    intro h
    rw [cntN_s, ih (fun i hi => h i (by omega)), if_pos (h k (by omega))]
theorem cntN_pos {g : Nat → Int32} {x : Nat} (h1 : ¬ g x = 0) : ∀ k : Nat, x < k → 1 ≤ cntN g k := by
  intro k
  induction k with
  | zero => intro h; omega
  | succ k ih =>
    intro h
    rw [cntN_s]
    by_cases c : k = x
    · rw [c, if_neg h1]
      omega
    · have := ih (by omega)
      omega
theorem fill_42 {x : Int64} {r : Int32} : ∀ (n : Nat) (z : Int32) (u u' : SX), 0 ≤ z.toInt → LJ7_fill_d0a16_a42_6 n x z 41 u = some (r, u') → ∀ i : Nat, i < 41 → (z.toInt ≤ (i : Int) ∨ u.2.2.2.1 42 i = x) → u'.2.2.2.1 42 i = x := by
  intro n
  induction n with
  | zero => intro z u u' _ h; cases h
  | succ n ih =>
    intro z u u' h0 g i hi hq
    have g : (if (41 : Int32) ≤ z then (some (0, u)) else (gd (inb z 41) (lt (sB u 42 (vp_updL (u.2.2.2.1 42) z.toNatClampNeg x)) fun u2 => ((LJ7_fill_d0a16_a42_6 n) x (z + 1) 41 u2)))) = some (r, u') := g
    by_cases c : (41 : Int32) ≤ z
    · rw [if_pos c] at g
      have c9 : (41 : Int) ≤ z.toInt := leI c
      have e : u = u' := by cases g; rfl
      rw [← e]
      rcases hq with q | q
      · omega
      · exact q
    · rw [if_neg c] at g
      have c9 : ¬ (41 : Int) ≤ z.toInt := nleI c
      obtain ⟨-, g⟩ := gd_some g
      obtain ⟨u2, i2, g⟩ := lt_some g
      have et : (z + 1).toInt = z.toInt + 1 := addc_t (by decide) (by omega) (by omega)
      have k2 : u2.2.2.2.1 42 = vp_updL (u.2.2.2.1 42) z.toNatClampNeg x := by rw [i2]; rfl
      refine ih (z + 1) u2 u' (by rw [et]; omega) g i hi ?_
      rw [et, k2]
      by_cases ci : i = z.toNatClampNeg
      · exact Or.inr (by rw [ci, updL_at])
      · rw [updL_ne ci]
        have ci : ¬ i = z.toInt.toNat := ci
        rcases hq with q | q
        · exact Or.inl (by omega)
        · exact Or.inr q
theorem fill42_sp {r : Int32} {u u' : SX} (h : fJ7_fill_d0a16_a42 0 u = some (r, u')) : ∀ i : Nat, i < 41 → u'.2.2.2.1 42 i = 0 := fun i hi => by
  unfold fJ7_fill_d0a16_a42 at h
  generalize (5000 : Nat) = N1 at h
  exact fill_42 N1 0 u u' (by decide) h i hi (Or.inl (by show (0 : Int) ≤ _; omega))
theorem mb_L {z1 r : Int32} {u' : SX} {V : Nat → Int32} {L : Nat → Int32 × Int32} (l0 : 0 ≤ z1.toInt) (l5 : z1.toInt ≤ 5) : ∀ (n : Nat) (z2 z3 : Int32) (u : SX), 0 ≤ z3.toInt → z3.toInt ≤ (u.1 14).toInt → (u.1 14).toInt ≤ 80 → (∀ i : Nat, (i : Int) < (u.1 14).toInt → V i = u.2.1 36 (6 * i + z1.toNatClampNeg) ∧ (V i).toNatClampNeg < 41) → (∀ i : Nat, (i : Int) < (u.1 14).toInt → L i = (u.2.1 38 i, u.2.1 39 i)) → (∀ i : Nat, i < 41 → u.2.2.2.1 42 i = msS V L z3.toNatClampNeg i ∧ u.2.1 43 i = msC V z3.toNatClampNeg i) → z2.toInt = (cntN (msC V z3.toNatClampNeg) 41 : Nat) → LX1_meansBy_8_20 n z1 z2 z3 u = some (r, u') → FrM mdX1_meansBy_8 u u' ∧ (∀ i : Nat, i < 41 → u'.2.2.2.1 42 i = msS V L (u.1 14).toNatClampNeg i ∧ u'.2.1 43 i = msC V (u.1 14).toNatClampNeg i) ∧ r.toInt = (cntN (msC V (u.1 14).toNatClampNeg) 41 : Nat) := by
  intro n
  induction n with
  | zero => intro z2 z3 u _ _ _ _ _ _ _ h; cases h
  | succ n ih =>
    intro z2 z3 u h0 h9 b14 hV hL hB h2 g
    have g : (if (u.1 14) ≤ z3 then (some (z2, u)) else (gd (inb ((z3 * 6) + z1) 480) (lt (u.2.1 36 ((z3 * 6) + z1).toNatClampNeg) fun v8 => (gd (inb v8 41) (if (u.2.1 43 v8.toNatClampNeg) = 0 then (GX1_meansBy_8_60 (LX1_meansBy_8_20 n) z1 (z2 + 1) z3 v8 u) else (GX1_meansBy_8_60 (LX1_meansBy_8_20 n) z1 z2 z3 v8 u)))))) = some (r, u') := g
    by_cases c : u.1 14 ≤ z3
    · rw [if_pos c] at g
      have c9 := leI c
      have e : z2 = r ∧ u = u' := by cases g; exact ⟨rfl, rfl⟩
      have ez : (u.1 14).toNatClampNeg = z3.toNatClampNeg := by
        show (u.1 14).toInt.toNat = z3.toInt.toNat
        rw [show (u.1 14).toInt = z3.toInt by omega]
      rw [← e.1, ← e.2, ez]
      exact ⟨FrM_rf, hB, h2⟩
    · rw [if_neg c] at g
      have c9 := nleI c
      have zn : z3.toNatClampNeg = z3.toInt.toNat := rfl
      obtain ⟨-, g⟩ := gd_some g
      obtain ⟨v8, i8, g⟩ := lt_some g
      obtain ⟨-, g⟩ := gd_some g
      have m6 : (z3 * 6).toInt = z3.toInt * 6 := mulc_t (by decide) (by omega) (by omega)
      have a6 : (z3 * 6 + z1).toInt = z3.toInt * 6 + z1.toInt := by rw [add_t (by rw [m6]; omega) (by rw [m6]; omega), m6]
      have n6 : (z3 * 6 + z1).toNatClampNeg = 6 * z3.toNatClampNeg + z1.toNatClampNeg := by
        show (z3 * 6 + z1).toInt.toNat = 6 * z3.toInt.toNat + z1.toInt.toNat
        rw [a6]
        omega
      obtain ⟨w1, w2⟩ := hV z3.toNatClampNeg (by rw [zn]; omega)
      rw [n6, ← w1] at i8
      rw [i8] at g
      have hLz := hL z3.toNatClampNeg (by rw [zn]; omega)
      have et : (z3 + 1).toInt = z3.toInt + 1 := addc_t (by decide) (by omega) (by omega)
      have en := ns1 h0 (show z3.toInt ≤ 5000 by omega)
      have b8 := msC_b (V := V) z3.toNatClampNeg (V z3.toNatClampNeg).toNatClampNeg (by rw [zn]; omega)
      have c8 : ((z3.toNatClampNeg : Nat) : Int) ≤ 80 := by rw [zn]; omega
      have e8 : (msC V z3.toNatClampNeg (V z3.toNatClampNeg).toNatClampNeg + 1).toInt = (msC V z3.toNatClampNeg (V z3.toNatClampNeg).toNatClampNeg).toInt + 1 := addc_t (by decide) (by omega) (by omega)
      have nz : ¬ msC V (z3.toNatClampNeg + 1) (V z3.toNatClampNeg).toNatClampNeg = 0 := fun z => by
        rw [msC_s, if_pos rfl] at z
        have z9 : (msC V z3.toNatClampNeg (V z3.toNatClampNeg).toNatClampNeg + 1).toInt = (0 : Int) := eqI z
        rw [e8] at z9
        omega
      have ne : ∀ i, ¬ i = (V z3.toNatClampNeg).toNatClampNeg → (msC V z3.toNatClampNeg i = 0 ↔ msC V (z3.toNatClampNeg + 1) i = 0) := fun i hi => by
        rw [msC_s, if_neg hi]
      clear e8
      have fin : ∀ y2 : Int32, y2.toInt = (cntN (msC V (z3.toNatClampNeg + 1)) 41 : Nat) → GX1_meansBy_8_60 (LX1_meansBy_8_20 n) z1 y2 z3 (V z3.toNatClampNeg) u = some (r, u') → FrM mdX1_meansBy_8 u u' ∧ (∀ i : Nat, i < 41 → u'.2.2.2.1 42 i = msS V L (u.1 14).toNatClampNeg i ∧ u'.2.1 43 i = msC V (u.1 14).toNatClampNeg i) ∧ r.toInt = (cntN (msC V (u.1 14).toNatClampNeg) 41 : Nat) := fun y2 hy k => by
        unfold GX1_meansBy_8_60 at k
        obtain ⟨-, k⟩ := gd_some k
        obtain ⟨-, k⟩ := gd_some k
        obtain ⟨-, k⟩ := gd_some k
        obtain ⟨-, k⟩ := gd_some k
        obtain ⟨-, k⟩ := gd_some k
        obtain ⟨u16, i16, k⟩ := lt_some k
        obtain ⟨-, k⟩ := gd_some k
        obtain ⟨-, k⟩ := gd_some k
        obtain ⟨u20, i20, k⟩ := lt_some k
        have F20 : FrM mdX1_meansBy_8 u u20 := by
          rw [i20, i16]
          exact FrM_sA (FrM_sB FrM_rf (by decide)) (by decide)
        have k42 : u20.2.2.2.1 42 = vp_updL (u.2.2.2.1 42) (V z3.toNatClampNeg).toNatClampNeg (u.2.2.2.1 42 (V z3.toNatClampNeg).toNatClampNeg + ((u.2.1 38 z3.toNatClampNeg + u.2.1 39 z3.toNatClampNeg) / 2).toInt64) := by
          rw [i20, i16]
          rfl
        have k43 : u20.2.1 43 = upd (u.2.1 43) (V z3.toNatClampNeg).toNatClampNeg (u.2.1 43 (V z3.toNatClampNeg).toNatClampNeg + 1) := by
          rw [i20, i16]
          rfl
        have f14 := F20.1 14 (by decide)
        obtain ⟨q1, q2, q3⟩ := ih y2 (z3 + 1) u20 (by rw [et]; omega) (by rw [et, f14]; omega) (by rw [f14]; exact b14) (fun i hi => by
          rw [f14] at hi
          rw [F20.2.1 36 (by decide)]
          exact hV i hi) (fun i hi => by
          rw [f14] at hi
          rw [F20.2.1 38 (by decide), F20.2.1 39 (by decide)]
          exact hL i hi) (fun i hi => by
          obtain ⟨p1, p2⟩ := hB i hi
          rw [en, msS_s, msC_s, k42, k43]
          by_cases ci : i = (V z3.toNatClampNeg).toNatClampNeg
          · rw [if_pos ci, if_pos ci, ← ci, updL_at, upd_at, p1, p2, hLz]
            exact ⟨rfl, rfl⟩
          · rw [if_neg ci, if_neg ci, updL_ne ci, upd_ne ci]
            exact ⟨p1, p2⟩) (by rw [en]; exact hy) k
        rw [f14] at q2 q3
        exact ⟨FrM_tr F20 q1 (by decide), q2, q3⟩
      rw [(hB _ w2).2] at g
      have hle := cntN_le (g := msC V z3.toNatClampNeg) 41
      by_cases d : msC V z3.toNatClampNeg (V z3.toNatClampNeg).toNatClampNeg = 0
      · rw [if_pos d] at g
        refine fin (z2 + 1) ?_ g
        rw [cntN_new d nz ne 41 w2, addc_t (n := 1) (by decide) (by omega) (by omega), h2]
        try omega
      · rw [if_neg d] at g
        refine fin z2 ?_ g
        rw [h2, cntN_cg (g := msC V z3.toNatClampNeg) (g' := msC V (z3.toNatClampNeg + 1)) 41 (fun i hi => by
          by_cases ci : i = (V z3.toNatClampNeg).toNatClampNeg
          · rw [ci]
            exact ⟨fun z => absurd z d, fun z => absurd z nz⟩
          · exact ne i ci)]
/-- the class sorts the middles as last recalled -/
theorem means_sp {x1 r : Int32} {u u' : SX} {V : Nat → Int32} {L : Nat → Int32 × Int32} (hI : IX u) (l0 : 0 ≤ x1.toInt) (l5 : x1.toInt ≤ 5) (hV : ∀ i : Nat, (i : Int) < (u.1 14).toInt → V i = u.2.1 36 (6 * i + x1.toNatClampNeg)) (hL : ∀ i : Nat, (i : Int) < (u.1 14).toInt → L i = (u.2.1 38 i, u.2.1 39 i)) (h : fX1_meansBy_8 x1 u = some (r, u')) : StX mdX1_meansBy_8 u u' ∧ (∀ i : Nat, i < 41 → u'.2.2.2.1 42 i = msS V L (u.1 14).toNatClampNeg i ∧ u'.2.1 43 i = msC V (u.1 14).toNatClampNeg i) ∧ r.toInt = (cntN (msC V (u.1 14).toNatClampNeg) 41 : Nat) := by
  have b0 : (0 : Int) ≤ (u.1 14).toInt := (hI.1 14).1
  have b14 : (u.1 14).toInt ≤ (80 : Int) := (hI.1 14).2
  have st : StX mdX1_meansBy_8 u u' := (Tot_at (tfX1_meansBy_8 x1 u hI ⟨l0, l5⟩) h).1
  refine ⟨st, ?_⟩
  unfold fX1_meansBy_8 at h
  obtain ⟨⟨r1, u2⟩, a1, h⟩ := bd_some h
  have z42 := fill42_sp a1
  have s2 : StX mdJ7_fill_d0a16_a42 u u2 := (Tot_at (tfJ7_fill_d0a16_a42 0 u hI) a1).1
  obtain ⟨⟨r4, u5⟩, a4, h⟩ := bd_some h
  have z43 := fill43_sp a4
  have s5 : StX mdJ7_fill_53178_a43 u2 u5 := (Tot_at (tfJ7_fill_53178_a43 0 u2 s2.1 (by decide)) a4).1
  have h : LX1_meansBy_8_20 5000 x1 0 0 u5 = some (r, u') := h
  generalize (5000 : Nat) = N at h
  have q14 : u5.1 14 = u.1 14 := (s5.2.1 14 (by decide)).trans (s2.2.1 14 (by decide))
  have q36 : u5.2.1 36 = u.2.1 36 := (s5.2.2.1 36 (by decide)).trans (s2.2.2.1 36 (by decide))
  have q38 : u5.2.1 38 = u.2.1 38 := (s5.2.2.1 38 (by decide)).trans (s2.2.2.1 38 (by decide))
  have q39 : u5.2.1 39 = u.2.1 39 := (s5.2.2.1 39 (by decide)).trans (s2.2.2.1 39 (by decide))
  have q42 : u5.2.2.2.1 42 = u2.2.2.2.1 42 := s5.2.2.2.2.1 42 (by decide)
  have b36 : ∀ j, (u.2.1 36 j).toNatClampNeg < 41 := fun j => by
    have a : (0 : Int) ≤ (u.2.1 36 j).toInt := (hI.2.1 36 j).1
    have b : (u.2.1 36 j).toInt ≤ (40 : Int) := (hI.2.1 36 j).2
    show (u.2.1 36 j).toInt.toNat < 41
    omega
  obtain ⟨-, p2, p3⟩ := mb_L (V := V) (L := L) l0 l5 N 0 0 u5 (by decide) (by rw [q14]; show (0 : Int) ≤ _; exact b0) (by rw [q14]; exact b14) (fun i hi => by
    rw [q14] at hi
    rw [q36]
    refine ⟨hV i hi, ?_⟩
    rw [hV i hi]
    exact b36 _) (fun i hi => by
    rw [q14] at hi
    rw [q38, q39]
    exact hL i hi) (fun i hi => by
    rw [q42, z42 i hi, z43 i hi]
    exact ⟨rfl, rfl⟩) (by
    have e : cntN (msC V (0 : Int32).toNatClampNeg) 41 = 0 := cntN_0 41 (fun _ _ => rfl)
    rw [e] <;> decide) h
  rw [q14] at p2 p3
  exact ⟨p2, p3⟩
/-- the reference's zeros -/
theorem lm_2 {k28 : Int32 → Int32 → SX → Option (Int32 × SX)} {z1 z2 r : Int32} {v' : SX} : ∀ (n : Nat) (z3 : Int32) (v : SX), IM v → 0 ≤ z3.toInt → (∀ i : Nat, i < 41 → (z3.toInt ≤ (i : Int) ∨ (v.2.2.2.1 22 i = 0 ∧ v.2.1 23 i = 0))) → LX12_layMeans_0_2 k28 n z1 z2 z3 v = some (r, v') → ∃ w : SX, IM w ∧ FrM ([], [23], [], [22]) v w ∧ (∀ i : Nat, i < 41 → w.2.2.2.1 22 i = 0 ∧ w.2.1 23 i = 0) ∧ k28 z1 z2 w = some (r, v') := by
  intro n
  induction n with
  | zero => intro z3 v _ _ _ h; cases h
  | succ n ih =>
    intro z3 v hJ h0 hq g
    have g : (if 41 ≤ z3 then (k28 z1 z2 v) else (gd (inb z3 41) (lt (sB v 22 (vp_updL (v.2.2.2.1 22) z3.toNatClampNeg 0)) fun u2 => (gd (inb z3 41) (lt (sA u2 23 (upd (u2.2.1 23) z3.toNatClampNeg 0)) fun u5 => ((LX12_layMeans_0_2 k28 n) z1 z2 (z3 + 1) u5)))))) = some (r, v') := g
    by_cases c : 41 ≤ z3
    · rw [if_pos c] at g
      have c9 : (41 : Int) ≤ z3.toInt := leI c
      exact ⟨v, hJ, FrM_rf, fun i hi => (hq i hi).elim (fun z => by omega) id, g⟩
    · rw [if_neg c] at g
      have c9 : ¬ (41 : Int) ≤ z3.toInt := nleI c
      have et : (z3 + 1).toInt = z3.toInt + 1 := addc_t (by decide) (by omega) (by omega)
      obtain ⟨-, g⟩ := gd_some g
      obtain ⟨u2, i2, g⟩ := lt_some g
      obtain ⟨-, g⟩ := gd_some g
      obtain ⟨u5, i5, g⟩ := lt_some g
      have s5 : StM ([], [23], [], [22]) v u5 := by
        rw [i5, i2]
        exact StM_sA (StM_sB (StM_rf hJ) (by decide)) (by decide) (by decide) (by decide) (by decide)
      have k22 : u5.2.2.2.1 22 = vp_updL (v.2.2.2.1 22) z3.toNatClampNeg 0 := by rw [i5, i2]; rfl
      have k23 : u5.2.1 23 = upd (v.2.1 23) z3.toNatClampNeg 0 := by rw [i5, i2]; rfl
      obtain ⟨w, q1, q2, q3, q4⟩ := ih (z3 + 1) u5 s5.1 (by rw [et]; omega) (fun i hi => by
        rw [et, k22, k23]
        by_cases ci : i = z3.toNatClampNeg
        · exact Or.inr (by rw [ci, updL_at, upd_at]; exact ⟨rfl, rfl⟩)
        · rw [updL_ne ci, upd_ne ci]
          have ci : ¬ i = z3.toInt.toNat := ci
          rcases hq i hi with z | z
          · exact Or.inl (by omega)
          · exact Or.inr z) g
      exact ⟨w, q1, FrM_tr s5.2 q2 (by decide), q3, q4⟩
/-- the reference sorts the middles -/
theorem lm_35 {q x2 kp kr r : Int32} {u v' : SX} {kc : Nat} {V : Nat → Int32} (hI : IX u) (hPL : PL u) (hs13 : Srt (u.2.1 37) (u.1 13)) (hU : UpTo (u.2.1 25) q (u.1 8) kp) (hr : UpTo (u.2.1 37) q (u.1 13) kr) (b0 : 0 ≤ q.toInt) (b1 : q.toInt ≤ 120) (hV : ∀ (z : Int32) (w : SX), MR u w → 0 ≤ z.toInt → z.toInt < (u.1 13).toInt → ∀ r1 w1, fX12_aimOf_0 z x2 w = some (r1, w1) → r1 = V z.toNatClampNeg ∧ w1 = w) : ∀ (n : Nat) (z3 : Int32) (v : SX), MR u v → SPv u (spX u kc) v → v.1 15 = u.1 13 → 0 ≤ z3.toInt → (∀ i : Nat, i < 41 → v.2.2.2.1 22 i = msS V (lfX u kp.toNatClampNeg kc) (min z3.toNatClampNeg kr.toNatClampNeg) i ∧ v.2.1 23 i = msC V (min z3.toNatClampNeg kr.toNatClampNeg) i) → LX12_layMeans_0_35 n q x2 z3 v = some (r, v') → ∀ i : Nat, i < 41 → v'.2.2.2.1 22 i = msS V (lfX u kp.toNatClampNeg kc) kr.toNatClampNeg i ∧ v'.2.1 23 i = msC V kr.toNatClampNeg i := by
  intro n
  induction n with
  | zero => intro z3 v _ _ _ _ _ h; cases h
  | succ n ih =>
    intro z3 v hM hS e15 h0 hp g
    have k0 := hr.1
    have k1 := hr.2.1
    have b13 : (u.1 13).toInt ≤ (80 : Int) := (hI.1 13).2
    have kn : kr.toNatClampNeg = kr.toInt.toNat := rfl
    have zn : z3.toNatClampNeg = z3.toInt.toNat := rfl
    have g : (if (v.1 15) ≤ z3 then (some (0, v)) else (gd (inb z3 80) (if (v.2.1 21 z3.toNatClampNeg) ≤ q then ((fX12_layLeft_0 z3 q v).bind fun p => match p with | (r11, u12) => ((fX12_aimOf_0 z3 x2 u12).bind fun p => match p with | (r14, u15) => (gd (inb r14 41) (gd (nz 2) (gd (inb r14 41) (lt (sB u15 22 (vp_updL (u15.2.2.2.1 22) r14.toNatClampNeg ((u15.2.2.2.1 22 r14.toNatClampNeg) + ((((u15.1 16) + (u15.1 17)) / 2).toInt64)))) fun u20 => (gd (inb r14 41) (gd (inb r14 41) (lt (sA u20 23 (upd (u20.2.1 23) r14.toNatClampNeg ((u20.2.1 23 r14.toNatClampNeg) + 1))) fun u24 => (GX12_layMeans_0_103 (LX12_layMeans_0_35 n) q x2 z3 u24)))))))))) else (GX12_layMeans_0_103 (LX12_layMeans_0_35 n) q x2 z3 v)))) = some (r, v') := g
    rw [e15] at g
    by_cases c : u.1 13 ≤ z3
    · rw [if_pos c] at g
      have c9 := leI c
      have ev : v = v' := by cases g; rfl
      rw [Nat.min_eq_right (by rw [kn, zn]; omega)] at hp
      rw [← ev]
      exact hp
    · rw [if_neg c] at g
      have c9 := nleI c
      obtain ⟨-, g⟩ := gd_some g
      have et : (z3 + 1).toInt = z3.toInt + 1 := addc_t (by decide) (by omega) (by omega)
      have en := ns1 h0 (show z3.toInt ≤ 5000 by omega)
      have hd := (hM.2.2.2.2.1 z3.toNatClampNeg (by rw [zn]; omega)).1
      rw [← hd] at g
      by_cases cd : u.2.1 37 z3.toNatClampNeg ≤ q
      · rw [if_pos cd] at g
        have hlt := UpTo_in hs13 hr (i := z3.toNatClampNeg) (by rw [zn]; omega) (leI cd)
        rw [zn] at hlt
        have m1 : min z3.toNatClampNeg kr.toNatClampNeg = z3.toNatClampNeg := Nat.min_eq_left (by rw [kn, zn]; omega)
        have m2 : min (z3 + 1).toNatClampNeg kr.toNatClampNeg = z3.toNatClampNeg + 1 := by rw [en]; exact Nat.min_eq_left (by rw [kn, zn]; omega)
        rw [m1] at hp
        obtain ⟨⟨r8, u9⟩, a8, g⟩ := bd_some g
        obtain ⟨M9, S9, F9, e9, -⟩ := layLeft_sp hI hPL hM hS hU b0 b1 h0 (by omega) a8
        obtain ⟨⟨r14, u15⟩, a14, g⟩ := bd_some g
        obtain ⟨ev, ew⟩ := hV z3 u9 M9 h0 (by omega) _ _ a14
        rw [ew, ev] at g
        obtain ⟨-, g⟩ := gd_some g
        obtain ⟨-, g⟩ := gd_some g
        obtain ⟨-, g⟩ := gd_some g
        obtain ⟨u20, i20, g⟩ := lt_some g
        obtain ⟨-, g⟩ := gd_some g
        obtain ⟨-, g⟩ := gd_some g
        obtain ⟨u24, i24, g⟩ := lt_some g
        have g : LX12_layMeans_0_35 n q x2 (z3 + 1) u24 = some (r, v') := g
        have s24 : StM ([], [23], [], [22]) u9 u24 := by
          rw [i24, i20]
          exact StM_sAf (StM_sB (StM_rf M9.1) (by decide)) (by decide) rfl rfl (by decide)
        have f16 : u9.1 16 = (lfX u kp.toNatClampNeg kc z3.toNatClampNeg).1 := congrArg Prod.fst e9
        have f17 : u9.1 17 = (lfX u kp.toNatClampNeg kc z3.toNatClampNeg).2 := congrArg Prod.snd e9
        have k22 : u24.2.2.2.1 22 = vp_updL (v.2.2.2.1 22) (V z3.toNatClampNeg).toNatClampNeg (v.2.2.2.1 22 (V z3.toNatClampNeg).toNatClampNeg + (mid (lfX u kp.toNatClampNeg kc z3.toNatClampNeg)).toInt64) := by
          rw [i24, i20]
          show vp_updL (u9.2.2.2.1 22) _ (u9.2.2.2.1 22 _ + ((u9.1 16 + u9.1 17) / 2).toInt64) = _
          rw [F9.2.2.2.1 22 (by decide), f16, f17]
          rfl
        have k23 : u24.2.1 23 = upd (v.2.1 23) (V z3.toNatClampNeg).toNatClampNeg (v.2.1 23 (V z3.toNatClampNeg).toNatClampNeg + 1) := by
          rw [i24, i20]
          show upd (u9.2.1 23) _ (u9.2.1 23 _ + 1) = _
          rw [F9.2.1 23 (by decide)]
        refine ih (z3 + 1) u24 (MR_md s24.1 s24.2 (by decide) M9) (SPv_fr (s24.2.2.1 16 (by decide)) (s24.2.2.1 17 (by decide)) S9) (by rw [s24.2.1 15 (by decide), F9.1 15 (by decide)]; exact e15) (by rw [et]; omega) (fun i hi => ?_) g
        obtain ⟨p1, p2⟩ := hp i hi
        rw [m2, msS_s, msC_s, k22, k23]
        by_cases ci : i = (V z3.toNatClampNeg).toNatClampNeg
        · rw [if_pos ci, if_pos ci, ← ci, updL_at, upd_at, p1, p2]
          exact ⟨rfl, rfl⟩
        · rw [if_neg ci, if_neg ci, updL_ne ci, upd_ne ci]
          exact ⟨p1, p2⟩
      · rw [if_neg cd] at g
        have hge : kr.toInt ≤ z3.toInt := by
          rcases Int.lt_or_le z3.toInt kr.toInt with z | z
          · exact absurd (UpTo_dn hs13 hr (i := z3.toNatClampNeg) (by rw [zn]; omega)) (nleI cd)
          · exact z
        have m1 : min z3.toNatClampNeg kr.toNatClampNeg = kr.toNatClampNeg := Nat.min_eq_right (by rw [kn, zn]; omega)
        have m2 : min (z3 + 1).toNatClampNeg kr.toNatClampNeg = kr.toNatClampNeg := by rw [en]; exact Nat.min_eq_right (by rw [kn, zn]; omega)
        rw [m1] at hp
        have g : LX12_layMeans_0_35 n q x2 (z3 + 1) v = some (r, v') := g
        exact ih (z3 + 1) v hM hS e15 (by rw [et]; omega) (by rw [m2]; exact hp) g
theorem layMeans_sp {q x2 kp kr kc r : Int32} {u v v' : SX} {V : Nat → Int32} (hI : IX u) (hPL : PL u) (hM : MR u v) (e15 : v.1 15 = u.1 13) (hU : UpTo (u.2.1 25) q (u.1 8) kp) (hc : UpTo (u.2.1 34) q (u.1 12) kc) (hr : UpTo (u.2.1 37) q (u.1 13) kr) (b0 : 0 ≤ q.toInt) (b1 : q.toInt ≤ 120) (hV : ∀ (z : Int32) (w : SX), MR u w → 0 ≤ z.toInt → z.toInt < (u.1 13).toInt → ∀ r1 w1, fX12_aimOf_0 z x2 w = some (r1, w1) → r1 = V z.toNatClampNeg ∧ w1 = w) (h : fX12_layMeans_0 q x2 v = some (r, v')) : ∀ i : Nat, i < 41 → v'.2.2.2.1 22 i = msS V (lfX u kp.toNatClampNeg kc.toNatClampNeg) kr.toNatClampNeg i ∧ v'.2.1 23 i = msC V kr.toNatClampNeg i := by
  unfold fX12_layMeans_0 at h
  generalize (5000 : Nat) = N1 at h
  obtain ⟨w, Jw, Fw, pw, g⟩ := lm_2 N1 0 v hM.1 (by decide) (fun i _ => Or.inl (by show (0 : Int) ≤ _; omega)) h
  have Mw := MR_md Jw Fw (by decide) hM
  unfold GX12_layMeans_0_28 at g
  obtain ⟨⟨r7, u8⟩, a7, g⟩ := bd_some g
  obtain ⟨M8, S8, f8, g8⟩ := layOf_SP Mw b0 b1 hc a7
  have s8 : StM mdX12_laySpansOf_0 w u8 := (Tot_at (tfX12_laySpansOf_0 q w Mw.1 ⟨b0, b1⟩) a7).1
  have g : LX12_layMeans_0_35 5000 q x2 0 u8 = some (r, v') := g
  generalize (5000 : Nat) = N2 at g
  refine lm_35 hI hPL hM.2.2.2.2.2 hU hr b0 b1 hV N2 0 u8 M8 S8 (by rw [f8, Fw.1 15 (by decide)]; exact e15) (by decide) (fun i hi => ?_) g
  rw [s8.2.2.2.2.1 22 (by decide), s8.2.2.1 23 (by decide), (pw i hi).1, (pw i hi).2]
  have m0 : min (0 : Int32).toNatClampNeg kr.toNatClampNeg = 0 := by
    show min 0 kr.toNatClampNeg = 0
    exact Nat.zero_min _
  rw [m0]
  exact ⟨rfl, rfl⟩
