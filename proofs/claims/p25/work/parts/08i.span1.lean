/-! Spans: events played again, on both sides. -/
def UpTo (d : Nat → Int32) (q n r : Int32) : Prop := 0 ≤ r.toInt ∧ r.toInt ≤ n.toInt ∧ (r.toInt < n.toInt → q.toInt < (d r.toNatClampNeg).toInt) ∧ ∀ i : Nat, (i : Int) + 1 = r.toInt → (d i).toInt ≤ q.toInt
def Srt (d : Nat → Int32) (n : Int32) : Prop := ∀ i j : Nat, i ≤ j → (j : Int) < n.toInt → (d i).toInt ≤ (d j).toInt
theorem UpTo_le {d : Nat → Int32} {q n r r' : Int32} (hs : Srt d n) (h : UpTo d q n r) (h' : UpTo d q n r') : ¬ r.toInt < r'.toInt := by
  obtain ⟨a1, a2, a3, a4⟩ := h
  obtain ⟨b1, b2, b3, b4⟩ := h'
  intro c
  have e := a3 (by omega)
  have f := b4 (r'.toInt.toNat - 1) (by omega)
  have g := hs r.toNatClampNeg (r'.toInt.toNat - 1) (by show r.toInt.toNat ≤ _; omega) (by omega)
  omega
theorem UpTo_uq {d : Nat → Int32} {q n r r' : Int32} (hs : Srt d n) (h : UpTo d q n r) (h' : UpTo d q n r') : r = r' := by
  have a := UpTo_le hs h h'
  have b := UpTo_le hs h' h
  exact Int32.toInt.inj (by omega)
theorem UpTo_cg {d d' : Nat → Int32} {q n r : Int32} (e : ∀ i : Nat, (i : Int) < n.toInt → d i = d' i) (h : UpTo d q n r) : UpTo d' q n r := by
  obtain ⟨a1, a2, a3, a4⟩ := h
  refine ⟨a1, a2, fun c => ?_, fun i hi => ?_⟩
  · rw [← e r.toNatClampNeg (by show ((r.toInt.toNat : Nat) : Int) < _; omega)]
    exact a3 c
  · rw [← e i (by omega)]
    exact a4 i hi
/-- where the row's day is not later it is among the rows up to that day -/
theorem UpTo_in {d : Nat → Int32} {q n r : Int32} (hs : Srt d n) (h : UpTo d q n r) {i : Nat} (hi : (i : Int) < n.toInt) (hd : (d i).toInt ≤ q.toInt) : (i : Int) < r.toInt := by
  obtain ⟨a1, a2, a3, a4⟩ := h
  rcases Int.lt_or_le (i : Int) r.toInt with c | c
  · exact c
  · have e := a3 (by omega)
    have g := hs r.toNatClampNeg i (by show r.toInt.toNat ≤ _; omega) hi
    omega
def stepS (c a b : Int32) (p : Int32 × Int32) : Int32 × Int32 := if c = 0 then (if p.2 < a then (a, b) else if p.1 ≤ b then ((if p.1 < a then a else p.1), (if b < p.2 then b else p.2)) else (a, b)) else (a, b)
def rpS (F T P A B C : Nat → Int32) : Nat → Nat → Int32 × Int32
  | 0, i => (F i, T i)
  | k + 1, i => if (P k).toNatClampNeg = i then stepS (C k) (A k) (B k) (rpS F T P A B C k i) else rpS F T P A B C k i
theorem stepS_c {c c' a b : Int32} {p : Int32 × Int32} (h : c = 0 ↔ c' = 0) : stepS c a b p = stepS c' a b p := by
  unfold stepS
  by_cases z : c = 0
  · rw [if_pos z, if_pos (h.mp z)]
  · rw [if_neg z, if_neg (fun y => z (h.mpr y))]
theorem rpS_cg {F T P A B C F' T' P' A' B' C' : Nat → Int32} {i : Nat} (hF : F i = F' i) (hT : T i = T' i) : ∀ k : Nat, (∀ j : Nat, j < k → P j = P' j ∧ A j = A' j ∧ B j = B' j ∧ (C j = 0 ↔ C' j = 0)) → rpS F T P A B C k i = rpS F' T' P' A' B' C' k i := by
  intro k
  induction k with
  | zero =>
    intro _
    show (F i, T i) = (F' i, T' i)
    rw [hF, hT]
  | succ k ih =>
    intro h
    have ih := ih (fun j hj => h j (by omega))
    obtain ⟨p, a, b, c⟩ := h k (by omega)
    show (if (P k).toNatClampNeg = i then stepS (C k) (A k) (B k) (rpS F T P A B C k i) else rpS F T P A B C k i) = (if (P' k).toNatClampNeg = i then stepS (C' k) (A' k) (B' k) (rpS F' T' P' A' B' C' k i) else rpS F' T' P' A' B' C' k i)
    rw [ih, p, a, b, stepS_c c]
theorem stepS_le {c a b : Int32} {p : Int32 × Int32} (hp : p.1.toInt ≤ p.2.toInt) (hab : a.toInt ≤ b.toInt) : (stepS c a b p).1.toInt ≤ (stepS c a b p).2.toInt := by
  unfold stepS
  by_cases z : c = 0
  · rw [if_pos z]
    by_cases c1 : p.2 < a
    · rw [if_pos c1]
      exact hab
    · rw [if_neg c1]
      have d1 := nltI c1
      by_cases c2 : p.1 ≤ b
      · rw [if_pos c2]
        have d2 := leI c2
        show (if p.1 < a then a else p.1).toInt ≤ (if b < p.2 then b else p.2).toInt
        by_cases c3 : p.1 < a
        · rw [if_pos c3]
          by_cases c4 : b < p.2
          · rw [if_pos c4]
            exact hab
          · rw [if_neg c4]
            omega
        · rw [if_neg c3]
          by_cases c4 : b < p.2
          · rw [if_pos c4]
            exact d2
          · rw [if_neg c4]
            exact hp
      · rw [if_neg c2]
        exact hab
  · rw [if_neg z]
    exact hab
theorem rpS_le {F T P A B C : Nat → Int32} {i : Nat} (hF : (F i).toInt ≤ (T i).toInt) : ∀ k : Nat, (∀ j : Nat, j < k → (A j).toInt ≤ (B j).toInt) → (rpS F T P A B C k i).1.toInt ≤ (rpS F T P A B C k i).2.toInt := by
  intro k
  induction k with
  | zero =>
    intro _
    exact hF
  | succ k ih =>
    intro h
    have ih := ih (fun j hj => h j (by omega))
    show (if (P k).toNatClampNeg = i then stepS (C k) (A k) (B k) (rpS F T P A B C k i) else rpS F T P A B C k i).1.toInt ≤ (if (P k).toNatClampNeg = i then stepS (C k) (A k) (B k) (rpS F T P A B C k i) else rpS F T P A B C k i).2.toInt
    by_cases c : (P k).toNatClampNeg = i
    · rw [if_pos c]
      exact stepS_le ih (h k (by omega))
    · rw [if_neg c]
      exact ih
def spX (u : SX) : Nat → Nat → Int32 × Int32 := rpS (u.2.1 29) (u.2.1 30) (u.2.1 31) (u.2.1 32) (u.2.1 33) (u.2.1 35)
def onC (x : Int32) : Int32 := if x = -1 then 1 else 0
def spM (v : SX) : Nat → Nat → Int32 × Int32 := rpS (v.2.1 7) (v.2.1 8) (v.2.1 12) (v.2.1 13) (v.2.1 14) (fun i => onC (v.2.1 11 i))
/-! The class's side. -/
theorem sp_fin {a b : Nat} {u u' : SX} {p : Nat} {y w : Int32} (hab : Nat.beq a b = false) (f : Int32 × Int32 → Int32 × Int32) (e : u' = sA (sA u a (upd (u.2.1 a) p y)) b (upd (u.2.1 b) p w)) (hs : (y, w) = f (u.2.1 a p, u.2.1 b p)) : u'.1 = u.1 ∧ (∀ j, Nat.beq j a = false → Nat.beq j b = false → u'.2.1 j = u.2.1 j) ∧ ∀ i, (u'.2.1 a i, u'.2.1 b i) = if p = i then f (u.2.1 a i, u.2.1 b i) else (u.2.1 a i, u.2.1 b i) := by
  subst e
  have ea : Nat.beq a a = true := Nat.beq_refl a
  have eb : Nat.beq b b = true := Nat.beq_refl b
  refine ⟨rfl, fun j h1 h2 => ?_, fun i => ?_⟩
  · show (bif Nat.beq j b then upd (u.2.1 b) p w else (bif Nat.beq j a then upd (u.2.1 a) p y else u.2.1 j)) = u.2.1 j
    rw [h1, h2]
    rfl
  · show ((bif Nat.beq a b then upd (u.2.1 b) p w else (bif Nat.beq a a then upd (u.2.1 a) p y else u.2.1 a)) i, (bif Nat.beq b b then upd (u.2.1 b) p w else (bif Nat.beq b a then upd (u.2.1 a) p y else u.2.1 b)) i) = _
    rw [hab, ea, eb]
    show ((if i = p then y else u.2.1 a i), (if i = p then w else u.2.1 b i)) = _
    by_cases c : p = i
    · rw [if_pos c, if_pos c.symm, if_pos c.symm, ← c]
      exact hs
    · rw [if_neg c, if_neg (fun z => c z.symm), if_neg (fun z => c z.symm)]
theorem app83 {z2 z4 z5 y0 r : Int32} {u u' : SX} (h : GX6_apply_6_83 z2 z4 z5 y0 z2 u = some (r, u')) : u' = sA (sA u 27 (upd (u.2.1 27) z2.toNatClampNeg y0)) 28 (upd (u.2.1 28) z2.toNatClampNeg (if z5 = 0 then (if z4 < u.2.1 28 z2.toNatClampNeg then z4 else u.2.1 28 z2.toNatClampNeg) else z4)) := by
  unfold GX6_apply_6_83 at h
  obtain ⟨-, h⟩ := gd_some h
  obtain ⟨u13, e13, h⟩ := lt_some h
  by_cases c : z5 = 0
  · rw [if_pos c] at h
    obtain ⟨-, h⟩ := gd_some h
    obtain ⟨-, h⟩ := gd_some h
    obtain ⟨u17, e17, h⟩ := lt_some h
    have e : u17 = u' := by cases h; rfl
    rw [← e, e17, e13, if_pos c]
    rfl
  · rw [if_neg c] at h
    obtain ⟨-, h⟩ := gd_some h
    obtain ⟨u20, e20, h⟩ := lt_some h
    have e : u20 = u' := by cases h; rfl
    rw [← e, e20, e13, if_neg c]
    rfl
theorem apply_sp {x1 r : Int32} {u u' : SX} (h : fX6_apply_6 x1 u = some (r, u')) : u'.1 = u.1 ∧ (∀ j, Nat.beq j 27 = false → Nat.beq j 28 = false → u'.2.1 j = u.2.1 j) ∧ ∀ i, (u'.2.1 27 i, u'.2.1 28 i) = if (u.2.1 31 x1.toNatClampNeg).toNatClampNeg = i then stepS (u.2.1 35 x1.toNatClampNeg) (u.2.1 32 x1.toNatClampNeg) (u.2.1 33 x1.toNatClampNeg) (u.2.1 27 i, u.2.1 28 i) else (u.2.1 27 i, u.2.1 28 i) := by
  unfold fX6_apply_6 at h
  obtain ⟨-, h⟩ := gd_some h
  obtain ⟨v2, e2, h⟩ := lt_some h
  obtain ⟨-, h⟩ := gd_some h
  obtain ⟨v5, e5, h⟩ := lt_some h
  obtain ⟨-, h⟩ := gd_some h
  obtain ⟨v8, e8, h⟩ := lt_some h
  obtain ⟨-, h⟩ := gd_some h
  rw [← e2, ← e5, ← e8]
  clear e2 e5 e8
  have one : GX6_apply_6_52 v2 v5 v8 u = some (r, u') → u' = sA (sA u 27 (upd (u.2.1 27) v2.toNatClampNeg v5)) 28 (upd (u.2.1 28) v2.toNatClampNeg v8) := fun g => by
    unfold GX6_apply_6_52 GX6_apply_6_57 at g
    rw [if_neg (by decide)] at g
    have e := app83 g
    rw [if_neg (by decide)] at e
    exact e
  by_cases c35 : u.2.1 35 x1.toNatClampNeg = 0
  · rw [if_pos c35] at h
    obtain ⟨-, h⟩ := gd_some h
    obtain ⟨-, h⟩ := gd_some h
    obtain ⟨r24, a24, h⟩ := bd_some h
    unfold fX6_apart at a24
    by_cases c1 : u.2.1 28 v2.toNatClampNeg < v5
    · rw [if_pos c1] at a24
      have e : (1 : Int32) = r24 := by cases (gd_some a24).2; rfl
      rw [if_neg (by rw [← e]; decide)] at h
      refine sp_fin rfl _ (one h) ?_
      unfold stepS
      rw [if_pos c35, if_pos c1]
    · rw [if_neg c1] at a24
      by_cases c2 : u.2.1 27 v2.toNatClampNeg ≤ v8
      · rw [if_pos c2] at a24
        have e : (0 : Int32) = r24 := by cases (gd_some a24).2; rfl
        rw [if_pos e.symm] at h
        unfold GX6_apply_6_57 at h
        rw [if_pos rfl] at h
        obtain ⟨-, h⟩ := gd_some h
        have q := app83 h
        rw [if_pos rfl] at q
        refine sp_fin rfl _ q ?_
        unfold stepS
        rw [if_pos c35, if_neg c1, if_pos c2]
      · rw [if_neg c2] at a24
        have e : (1 : Int32) = r24 := by cases (gd_some a24).2; rfl
        rw [if_neg (by rw [← e]; decide)] at h
        refine sp_fin rfl _ (one h) ?_
        unfold stepS
        rw [if_pos c35, if_neg c1, if_neg c2]
  · rw [if_neg c35] at h
    refine sp_fin rfl _ (one h) ?_
    unfold stepS
    rw [if_neg c35]
theorem rec110 : ∀ (n : Nat) (z4 : Int32) (u u' : SX) (r : Int32), 0 ≤ z4.toInt → z4.toInt ≤ (u.1 11).toInt → (u.1 11).toInt ≤ 30 → LX6_recall_6_110 n z4 u = some (r, u') → u'.1 = u.1 ∧ (∀ j, Nat.beq j 27 = false → Nat.beq j 28 = false → u'.2.1 j = u.2.1 j) ∧ ∀ i, (u.2.1 27 i, u.2.1 28 i) = spX u z4.toNatClampNeg i → (u'.2.1 27 i, u'.2.1 28 i) = spX u (u.1 11).toNatClampNeg i := by
  intro n
  induction n with
  | zero => intro z4 u u' r _ _ _ h; cases h
  | succ n ih =>
    intro z4 u u' r h0 h1 h9 h
    have h : (if (u.1 11) ≤ z4 then (some (0, u)) else ((fX6_apply_6 z4 u).bind _)) = some (r, u') := h
    by_cases c : u.1 11 ≤ z4
    · rw [if_pos c] at h
      have c9 := leI c
      have e : u = u' := by cases h; rfl
      have ez : z4 = u.1 11 := Int32.toInt.inj (by omega)
      rw [← e, ← ez]
      exact ⟨rfl, fun _ _ _ => rfl, fun _ z => z⟩
    · rw [if_neg c] at h
      have c9 : ¬ (u.1 11).toInt ≤ z4.toInt := nleI c
      obtain ⟨⟨r19, u20⟩, a19, h⟩ := bd_some h
      have h : LX6_recall_6_110 n (z4 + 1) u20 = some (r, u') := h
      obtain ⟨f1, f2, f3⟩ := apply_sp a19
      have e3 : (z4 + 1).toInt = z4.toInt + 1 := addc_t (by decide) (by omega) (by omega)
      have en : (z4 + 1).toNatClampNeg = z4.toNatClampNeg + 1 := by
        show (z4 + 1).toInt.toNat = z4.toInt.toNat + 1
        rw [e3]
        omega
      obtain ⟨g1, g2, g3⟩ := ih (z4 + 1) u20 u' r (by rw [e3]; omega) (by rw [e3, f1]; omega) (by rw [f1]; exact h9) h
      have es : spX u20 = spX u := by
        unfold spX
        rw [f2 29 rfl rfl, f2 30 rfl rfl, f2 31 rfl rfl, f2 32 rfl rfl, f2 33 rfl rfl, f2 35 rfl rfl]
      refine ⟨g1.trans f1, fun j j1 j2 => (g2 j j1 j2).trans (f2 j j1 j2), fun i hi => ?_⟩
      have q := g3 i (by
        rw [f3 i, hi, es, en]
        rfl)
      rw [es, f1] at q
      exact q
theorem rec64 {k107 : SX → Option (Int32 × SX)} : ∀ (n : Nat) (z4 : Int32) (u u' : SX) (r : Int32), 0 ≤ z4.toInt → z4.toInt ≤ 12 → (u.1 10).toInt ≤ 12 → LX6_recall_6_64 k107 n z4 u = some (r, u') → ∃ w : SX, w.1 = u.1 ∧ (∀ j, Nat.beq j 27 = false → Nat.beq j 28 = false → w.2.1 j = u.2.1 j) ∧ (∀ i : Nat, (i : Int) < (u.1 10).toInt → (z4.toInt ≤ (i : Int) ∨ (u.2.1 27 i = u.2.1 29 i ∧ u.2.1 28 i = u.2.1 30 i)) → (w.2.1 27 i = u.2.1 29 i ∧ w.2.1 28 i = u.2.1 30 i)) ∧ k107 w = some (r, u') := by
  intro n
  induction n with
  | zero => intro z4 u u' r _ _ _ h; cases h
  | succ n ih =>
    intro z4 u u' r h0 h1 h9 h
    have h : (if (u.1 10) ≤ z4 then (k107 u) else _) = some (r, u') := h
    by_cases c : u.1 10 ≤ z4
    · rw [if_pos c] at h
      have c9 := leI c
      refine ⟨u, rfl, fun _ _ _ => rfl, fun i hi hj => ?_, h⟩
      rcases hj with hj | hj
      · exact absurd hj (by omega)
      · exact hj
    · rw [if_neg c] at h
      have c9 : ¬ (u.1 10).toInt ≤ z4.toInt := nleI c
      obtain ⟨-, h⟩ := gd_some h
      obtain ⟨-, h⟩ := gd_some h
      obtain ⟨u13, e13, h⟩ := lt_some h
      obtain ⟨-, h⟩ := gd_some h
      obtain ⟨-, h⟩ := gd_some h
      obtain ⟨u17, e17, h⟩ := lt_some h
      have h : LX6_recall_6_64 k107 n (z4 + 1) u17 = some (r, u') := h
      have e : u17 = sA (sA u 27 (upd (u.2.1 27) z4.toNatClampNeg (u.2.1 29 z4.toNatClampNeg))) 28 (upd (u.2.1 28) z4.toNatClampNeg (u.2.1 30 z4.toNatClampNeg)) := by
        rw [e17, e13]
        rfl
      clear e13 e17
      obtain ⟨f1, f2, f3⟩ := sp_fin rfl (fun _ => (u.2.1 29 z4.toNatClampNeg, u.2.1 30 z4.toNatClampNeg)) e rfl
      have e3 : (z4 + 1).toInt = z4.toInt + 1 := addc_t (by decide) (by omega) (by omega)
      obtain ⟨w, g1, g2, g3, g4⟩ := ih (z4 + 1) u17 u' r (by rw [e3]; omega) (by rw [e3]; omega) (by rw [f1]; exact h9) h
      refine ⟨w, g1.trans f1, fun j j1 j2 => (g2 j j1 j2).trans (f2 j j1 j2), fun i hi hj => ?_, g4⟩
      have q := g3 i (by rw [f1]; exact hi)
      rw [f2 29 rfl rfl, f2 30 rfl rfl, e3] at q
      refine q ?_
      have q3 := f3 i
      by_cases ci : z4.toNatClampNeg = i
      · rw [if_pos ci, ci] at q3
        have q4 : u17.2.1 27 i = u.2.1 29 i ∧ u17.2.1 28 i = u.2.1 30 i := ⟨congrArg Prod.fst q3, congrArg Prod.snd q3⟩
        exact Or.inr q4
      · rw [if_neg ci] at q3
        have q4 : u17.2.1 27 i = u.2.1 27 i ∧ u17.2.1 28 i = u.2.1 28 i := ⟨congrArg Prod.fst q3, congrArg Prod.snd q3⟩
        have ci : ¬ z4.toInt.toNat = i := ci
        rcases hj with hj | hj
        · exact Or.inl (by omega)
        · rw [q4.1, q4.2]
          exact Or.inr hj
