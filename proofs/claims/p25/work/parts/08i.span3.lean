/-! The reference's side. -/
def cutM (a b : Int32) (p : Int32 × Int32) : Int32 × Int32 := if (if b < p.2 then b else p.2) < (if p.1 < a then a else p.1) then (a, b) else ((if p.1 < a then a else p.1), (if b < p.2 then b else p.2))
theorem cutM_eq {a b : Int32} {p : Int32 × Int32} (hp : p.1.toInt ≤ p.2.toInt) (hab : a.toInt ≤ b.toInt) : cutM a b p = stepS 0 a b p := by
  unfold cutM stepS
  rw [if_pos (rfl : (0 : Int32) = 0)]
  by_cases c1 : p.2 < a
  · have d1 := ltI c1
    rw [if_pos c1]
    refine if_pos ?_
    rw [if_pos (show p.1 < a from Int32.lt_iff_toInt_lt.mpr (by omega))]
    by_cases c4 : b < p.2
    · have d4 := ltI c4
      exact absurd d4 (by omega)
    · rw [if_neg c4]
      exact c1
  · have d1 := nltI c1
    rw [if_neg c1]
    by_cases c2 : p.1 ≤ b
    · have d2 := leI c2
      rw [if_pos c2]
      refine if_neg (fun z => ?_)
      have z := ltI z
      by_cases c3 : p.1 < a
      · rw [if_pos c3] at z
        by_cases c4 : b < p.2
        · rw [if_pos c4] at z
          omega
        · rw [if_neg c4] at z
          omega
      · rw [if_neg c3] at z
        by_cases c4 : b < p.2
        · rw [if_pos c4] at z
          omega
        · rw [if_neg c4] at z
          omega
    · have d2 := nleI c2
      rw [if_neg c2]
      refine if_pos ?_
      rw [if_pos (show b < p.2 from Int32.lt_iff_toInt_lt.mpr (by omega)), if_neg (fun z => by have := ltI z; omega)]
      exact Int32.lt_iff_toInt_lt.mpr (by omega)
theorem cut54 {z1 z3 z4 y0 r : Int32} {u u' : SX} (h : GX12_cutDown_0_54 z1 z3 z4 y0 z1 u = some (r, u')) : u' = sA (sA u 16 (upd (u.2.1 16) z1.toNatClampNeg y0)) 17 (upd (u.2.1 17) z1.toNatClampNeg (if z4 = 0 then z3 else (if z3 < u.2.1 17 z1.toNatClampNeg then z3 else u.2.1 17 z1.toNatClampNeg))) := by
  unfold GX12_cutDown_0_54 at h
  obtain ⟨-, h⟩ := gd_some h
  obtain ⟨u4, e4, h⟩ := lt_some h
  by_cases c : z4 = 0
  · rw [if_pos c] at h
    obtain ⟨-, h⟩ := gd_some h
    obtain ⟨u7, e7, h⟩ := lt_some h
    have e : u7 = u' := by cases h; rfl
    rw [← e, e7, e4, if_pos c]
    rfl
  · rw [if_neg c] at h
    obtain ⟨-, h⟩ := gd_some h
    obtain ⟨-, h⟩ := gd_some h
    obtain ⟨u11, e11, h⟩ := lt_some h
    have e : u11 = u' := by cases h; rfl
    rw [← e, e11, e4, if_neg c]
    rfl
theorem cut_sp {x1 x2 x3 r : Int32} {u u' : SX} (h : fX12_cutDown_0 x1 x2 x3 u = some (r, u')) : u'.1 = u.1 ∧ (∀ j, Nat.beq j 16 = false → Nat.beq j 17 = false → u'.2.1 j = u.2.1 j) ∧ ∀ i, (u'.2.1 16 i, u'.2.1 17 i) = if x1.toNatClampNeg = i then cutM x2 x3 (u.2.1 16 i, u.2.1 17 i) else (u.2.1 16 i, u.2.1 17 i) := by
  unfold fX12_cutDown_0 at h
  obtain ⟨-, h⟩ := gd_some h
  obtain ⟨-, h⟩ := gd_some h
  by_cases c : (if x3 < (u.2.1 17 x1.toNatClampNeg) then x3 else (u.2.1 17 x1.toNatClampNeg)) < (if (u.2.1 16 x1.toNatClampNeg) < x2 then x2 else (u.2.1 16 x1.toNatClampNeg))
  · rw [if_pos c] at h
    unfold GX12_cutDown_0_28 at h
    rw [if_pos rfl] at h
    have e := cut54 h
    rw [if_pos rfl] at e
    refine sp_fin rfl _ e ?_
    unfold cutM
    exact (if_pos c).symm
  · rw [if_neg c] at h
    unfold GX12_cutDown_0_28 at h
    rw [if_neg (by decide)] at h
    obtain ⟨-, h⟩ := gd_some h
    have e := cut54 h
    rw [if_neg (show ¬ (1 : Int32) = 0 by decide)] at e
    refine sp_fin rfl _ e ?_
    unfold cutM
    exact (if_neg c).symm
theorem lay42 : ∀ (n : Nat) (z1 z2 : Int32) (u u' : SX) (r : Int32), 0 ≤ z2.toInt → z2.toInt ≤ z1.toInt → z1.toInt ≤ 30 → (∀ j : Nat, (j : Int) < z1.toInt → (u.2.1 13 j).toInt ≤ (u.2.1 14 j).toInt) → LX12_laySpans_0_42 n z1 z2 u = some (r, u') → u'.1 = u.1 ∧ (∀ j, Nat.beq j 16 = false → Nat.beq j 17 = false → u'.2.1 j = u.2.1 j) ∧ ∀ i, (u.2.1 7 i).toInt ≤ (u.2.1 8 i).toInt → (u.2.1 16 i, u.2.1 17 i) = spM u z2.toNatClampNeg i → (u'.2.1 16 i, u'.2.1 17 i) = spM u z1.toNatClampNeg i := by
  intro n
  induction n with
  | zero => intro z1 z2 u u' r _ _ _ _ h; cases h
  | succ n ih =>
    intro z1 z2 u u' r h0 h1 h9 ho h
    have h : (if z1 ≤ z2 then (some (0, u)) else _) = some (r, u') := h
    by_cases c : z1 ≤ z2
    · rw [if_pos c] at h
      have c9 := leI c
      have e : u = u' := by cases h; rfl
      have ez : z2 = z1 := Int32.toInt.inj (by omega)
      rw [← e, ← ez]
      exact ⟨rfl, fun _ _ _ => rfl, fun _ _ z => z⟩
    · rw [if_neg c] at h
      have c9 := nleI c
      have e3 : (z2 + 1).toInt = z2.toInt + 1 := addc_t (by decide) (by omega) (by omega)
      have en : (z2 + 1).toNatClampNeg = z2.toNatClampNeg + 1 := by
        show (z2 + 1).toInt.toNat = z2.toInt.toNat + 1
        rw [e3]
        omega
      have hz : ((z2.toNatClampNeg : Nat) : Int) < z1.toInt := by
        show ((z2.toInt.toNat : Nat) : Int) < _
        omega
      obtain ⟨-, h⟩ := gd_some h
      obtain ⟨v10, e10, h⟩ := lt_some h
      obtain ⟨-, h⟩ := gd_some h
      -- what is left to do, once one event is played
      have go : ∀ w : SX, LX12_laySpans_0_42 n z1 (z2 + 1) w = some (r, u') → w.1 = u.1 → (∀ j, Nat.beq j 16 = false → Nat.beq j 17 = false → w.2.1 j = u.2.1 j) → (∀ i, (u.2.1 7 i).toInt ≤ (u.2.1 8 i).toInt → (u.2.1 16 i, u.2.1 17 i) = spM u z2.toNatClampNeg i → (w.2.1 16 i, w.2.1 17 i) = if v10.toNatClampNeg = i then stepS (onC (u.2.1 11 z2.toNatClampNeg)) (u.2.1 13 z2.toNatClampNeg) (u.2.1 14 z2.toNatClampNeg) (u.2.1 16 i, u.2.1 17 i) else (u.2.1 16 i, u.2.1 17 i)) → u'.1 = u.1 ∧ (∀ j, Nat.beq j 16 = false → Nat.beq j 17 = false → u'.2.1 j = u.2.1 j) ∧ ∀ i, (u.2.1 7 i).toInt ≤ (u.2.1 8 i).toInt → (u.2.1 16 i, u.2.1 17 i) = spM u z2.toNatClampNeg i → (u'.2.1 16 i, u'.2.1 17 i) = spM u z1.toNatClampNeg i := fun w g f1 f2 f3 => by
        have es : spM w = spM u := by
          unfold spM
          rw [f2 7 rfl rfl, f2 8 rfl rfl, f2 11 rfl rfl, f2 12 rfl rfl, f2 13 rfl rfl, f2 14 rfl rfl]
        obtain ⟨g1, g2, g3⟩ := ih z1 (z2 + 1) w u' r (by rw [e3]; omega) (by rw [e3]; omega) h9 (fun j hj => by rw [f2 13 rfl rfl, f2 14 rfl rfl]; exact ho j hj) g
        refine ⟨g1.trans f1, fun j j1 j2 => (g2 j j1 j2).trans (f2 j j1 j2), fun i hl hi => ?_⟩
        have q := g3 i (by rw [f2 7 rfl rfl, f2 8 rfl rfl]; exact hl) (by
          rw [f3 i hl hi, hi, es, en, e10]
          rfl)
        rw [es] at q
        exact q
      by_cases d : u.2.1 11 z2.toNatClampNeg = -1
      · rw [if_pos d] at h
        obtain ⟨-, h⟩ := gd_some h
        obtain ⟨-, h⟩ := gd_some h
        obtain ⟨u20, e20, h⟩ := lt_some h
        obtain ⟨-, h⟩ := gd_some h
        obtain ⟨-, h⟩ := gd_some h
        obtain ⟨u24, e24, h⟩ := lt_some h
        unfold GX12_laySpans_0_108 at h
        have e : u24 = sA (sA u 16 (upd (u.2.1 16) v10.toNatClampNeg (u.2.1 13 z2.toNatClampNeg))) 17 (upd (u.2.1 17) v10.toNatClampNeg (u.2.1 14 z2.toNatClampNeg)) := by
          rw [e24, e20]
          rfl
        obtain ⟨f1, f2, f3⟩ := sp_fin rfl (fun _ => (u.2.1 13 z2.toNatClampNeg, u.2.1 14 z2.toNatClampNeg)) e rfl
        refine go u24 h f1 f2 (fun i _ _ => ?_)
        rw [f3 i]
        have s : stepS (onC (u.2.1 11 z2.toNatClampNeg)) (u.2.1 13 z2.toNatClampNeg) (u.2.1 14 z2.toNatClampNeg) (u.2.1 16 i, u.2.1 17 i) = (u.2.1 13 z2.toNatClampNeg, u.2.1 14 z2.toNatClampNeg) := by
          unfold stepS onC
          rw [if_pos d, if_neg (by decide)]
        rw [s]
      · rw [if_neg d] at h
        obtain ⟨-, h⟩ := gd_some h
        obtain ⟨-, h⟩ := gd_some h
        obtain ⟨⟨r15, u16⟩, a15, h⟩ := bd_some h
        have h : GX12_laySpans_0_108 (LX12_laySpans_0_42 n) z1 z2 u16 = some (r, u') := h
        unfold GX12_laySpans_0_108 at h
        obtain ⟨f1, f2, f3⟩ := cut_sp a15
        refine go u16 h f1 f2 (fun i hl hi => ?_)
        rw [f3 i]
        have le : (spM u z2.toNatClampNeg i).1.toInt ≤ (spM u z2.toNatClampNeg i).2.toInt := rpS_le hl _ (fun j hj => ho j (by omega))
        have s : cutM (u.2.1 13 z2.toNatClampNeg) (u.2.1 14 z2.toNatClampNeg) (u.2.1 16 i, u.2.1 17 i) = stepS (onC (u.2.1 11 z2.toNatClampNeg)) (u.2.1 13 z2.toNatClampNeg) (u.2.1 14 z2.toNatClampNeg) (u.2.1 16 i, u.2.1 17 i) := by
          rw [cutM_eq (by rw [hi]; exact le) (ho _ hz)]
          refine stepS_c ⟨fun _ => ?_, fun _ => rfl⟩
          unfold onC
          rw [if_neg d]
        rw [s]
theorem lay2 {k40 : Int32 → SX → Option (Int32 × SX)} : ∀ (n : Nat) (z1 z2 : Int32) (u u' : SX) (r : Int32), 0 ≤ z2.toInt → z2.toInt ≤ 12 → (u.1 12).toInt ≤ 12 → LX12_laySpans_0_2 k40 n z1 z2 u = some (r, u') → ∃ w : SX, w.1 = u.1 ∧ (∀ j, Nat.beq j 16 = false → Nat.beq j 17 = false → w.2.1 j = u.2.1 j) ∧ (∀ i : Nat, (i : Int) < (u.1 12).toInt → (z2.toInt ≤ (i : Int) ∨ (u.2.1 16 i = u.2.1 7 i ∧ u.2.1 17 i = u.2.1 8 i)) → (w.2.1 16 i = u.2.1 7 i ∧ w.2.1 17 i = u.2.1 8 i)) ∧ k40 z1 w = some (r, u') := by
  intro n
  induction n with
  | zero => intro z1 z2 u u' r _ _ _ h; cases h
  | succ n ih =>
    intro z1 z2 u u' r h0 h1 h9 h
    have h : (if (u.1 12) ≤ z2 then (k40 z1 u) else _) = some (r, u') := h
    by_cases c : u.1 12 ≤ z2
    · rw [if_pos c] at h
      have c9 := leI c
      refine ⟨u, rfl, fun _ _ _ => rfl, fun i hi hj => ?_, h⟩
      rcases hj with hj | hj
      · exact absurd hj (by omega)
      · exact hj
    · rw [if_neg c] at h
      have c9 := nleI c
      obtain ⟨-, h⟩ := gd_some h
      obtain ⟨-, h⟩ := gd_some h
      obtain ⟨u3, e3', h⟩ := lt_some h
      obtain ⟨-, h⟩ := gd_some h
      obtain ⟨-, h⟩ := gd_some h
      obtain ⟨u7, e7, h⟩ := lt_some h
      have h : LX12_laySpans_0_2 k40 n z1 (z2 + 1) u7 = some (r, u') := h
      have e : u7 = sA (sA u 16 (upd (u.2.1 16) z2.toNatClampNeg (u.2.1 7 z2.toNatClampNeg))) 17 (upd (u.2.1 17) z2.toNatClampNeg (u.2.1 8 z2.toNatClampNeg)) := by
        rw [e7, e3']
        rfl
      clear e3' e7
      obtain ⟨f1, f2, f3⟩ := sp_fin rfl (fun _ => (u.2.1 7 z2.toNatClampNeg, u.2.1 8 z2.toNatClampNeg)) e rfl
      have e3 : (z2 + 1).toInt = z2.toInt + 1 := addc_t (by decide) (by omega) (by omega)
      obtain ⟨w, g1, g2, g3, g4⟩ := ih z1 (z2 + 1) u7 u' r (by rw [e3]; omega) (by rw [e3]; omega) (by rw [f1]; exact h9) h
      refine ⟨w, g1.trans f1, fun j j1 j2 => (g2 j j1 j2).trans (f2 j j1 j2), fun i hi hj => ?_, g4⟩
      have q := g3 i (by rw [f1]; exact hi)
      rw [f2 7 rfl rfl, f2 8 rfl rfl, e3] at q
      refine q ?_
      have q3 := f3 i
      by_cases ci : z2.toNatClampNeg = i
      · rw [if_pos ci, ci] at q3
        have q4 : u7.2.1 16 i = u.2.1 7 i ∧ u7.2.1 17 i = u.2.1 8 i := ⟨congrArg Prod.fst q3, congrArg Prod.snd q3⟩
        exact Or.inr q4
      · rw [if_neg ci] at q3
        have q4 : u7.2.1 16 i = u.2.1 16 i ∧ u7.2.1 17 i = u.2.1 17 i := ⟨congrArg Prod.fst q3, congrArg Prod.snd q3⟩
        have ci : ¬ z2.toInt.toNat = i := ci
        rcases hj with hj | hj
        · exact Or.inl (by omega)
        · rw [q4.1, q4.2]
          exact Or.inr hj
/-- what laySpans lays: for each part the events below x1 played over what it was told -/
theorem lay_sp {x1 r : Int32} {u u' : SX} (hJ : IM u) (h0 : 0 ≤ x1.toInt) (h9 : x1.toInt ≤ 30) (ho : ∀ j : Nat, (j : Int) < x1.toInt → (u.2.1 13 j).toInt ≤ (u.2.1 14 j).toInt) (hp : ∀ i : Nat, (i : Int) < (u.1 12).toInt → (u.2.1 7 i).toInt ≤ (u.2.1 8 i).toInt) (h : fX12_laySpans_0 x1 u = some (r, u')) : u'.1 = u.1 ∧ (∀ j, Nat.beq j 16 = false → Nat.beq j 17 = false → u'.2.1 j = u.2.1 j) ∧ ∀ i : Nat, (i : Int) < (u.1 12).toInt → (u'.2.1 16 i, u'.2.1 17 i) = spM u x1.toNatClampNeg i := by
  have b12 : 0 ≤ (u.1 12).toInt ∧ (u.1 12).toInt ≤ 12 := hJ.1 12
  unfold fX12_laySpans_0 at h
  obtain ⟨w, w1, w2, w3, g⟩ := lay2 5000 x1 0 u u' r (by decide) (by decide) b12.2 h
  unfold GX12_laySpans_0_40 at g
  obtain ⟨g1, g2, g3⟩ := lay42 5000 x1 0 w u' r (by decide) h0 h9 (fun j hj => by rw [w2 13 rfl rfl, w2 14 rfl rfl]; exact ho j hj) g
  have es : spM w = spM u := by
    unfold spM
    rw [w2 7 rfl rfl, w2 8 rfl rfl, w2 11 rfl rfl, w2 12 rfl rfl, w2 13 rfl rfl, w2 14 rfl rfl]
  refine ⟨g1.trans w1, fun j j1 j2 => (g2 j j1 j2).trans (w2 j j1 j2), fun i hi => ?_⟩
  obtain ⟨y1, y2⟩ := w3 i hi (Or.inl (by show (0 : Int) ≤ _; omega))
  have q := g3 i (by rw [w2 7 rfl rfl, w2 8 rfl rfl]; exact hp i hi) (by
    show (w.2.1 16 i, w.2.1 17 i) = (w.2.1 7 i, w.2.1 8 i)
    rw [y1, y2, w2 7 rfl rfl, w2 8 rfl rfl])
  rw [es] at q
  exact q
theorem layOf2 {k26 : Int32 → SX → Option (Int32 × SX)} : ∀ (n : Nat) (z1 z2 : Int32) (u u' : SX) (r : Int32), 0 ≤ z2.toInt → z2.toInt ≤ (u.1 13).toInt → (u.1 13).toInt ≤ 30 → (∀ i : Nat, (i : Int) < z2.toInt → (u.2.1 15 i).toInt ≤ z1.toInt) → LX12_laySpansOf_0_2 k26 n z1 z2 u = some (r, u') → ∃ z : Int32, UpTo (u.2.1 15) z1 (u.1 13) z ∧ k26 z u = some (r, u') := by
  intro n
  induction n with
  | zero => intro z1 z2 u u' r _ _ _ _ h; cases h
  | succ n ih =>
    intro z1 z2 u u' r h0 h1 h9 hb h
    have h : (if (u.1 13) ≤ z2 then (k26 z2 u) else (gd (inb z2 30) (if z1 < (u.2.1 15 z2.toNatClampNeg) then (k26 z2 u) else (LX12_laySpansOf_0_2 k26 n z1 (z2 + 1) u)))) = some (r, u') := h
    by_cases c : u.1 13 ≤ z2
    · rw [if_pos c] at h
      have c9 := leI c
      exact ⟨z2, ⟨h0, h1, fun z => absurd z (by omega), fun i hi => hb i (by omega)⟩, h⟩
    · rw [if_neg c] at h
      have c9 := nleI c
      obtain ⟨-, h⟩ := gd_some h
      by_cases d : z1 < u.2.1 15 z2.toNatClampNeg
      · rw [if_pos d] at h
        exact ⟨z2, ⟨h0, h1, fun _ => ltI d, fun i hi => hb i (by omega)⟩, h⟩
      · rw [if_neg d] at h
        have d9 := nltI d
        have e3 : (z2 + 1).toInt = z2.toInt + 1 := addc_t (by decide) (by omega) (by omega)
        refine ih z1 (z2 + 1) u u' r (by rw [e3]; omega) (by rw [e3]; omega) h9 (fun i hi => ?_) h
        rw [e3] at hi
        by_cases ci : (i : Int) < z2.toInt
        · exact hb i ci
        · have ei : i = z2.toNatClampNeg := by
            show i = z2.toInt.toNat
            omega
          rw [ei]
          omega
theorem layOf_sp {x1 r : Int32} {u u' : SX} (hJ : IM u) (ho : ∀ j : Nat, (j : Int) < (u.1 13).toInt → (u.2.1 13 j).toInt ≤ (u.2.1 14 j).toInt) (hp : ∀ i : Nat, (i : Int) < (u.1 12).toInt → (u.2.1 7 i).toInt ≤ (u.2.1 8 i).toInt) (h : fX12_laySpansOf_0 x1 u = some (r, u')) : ∃ z : Int32, UpTo (u.2.1 15) x1 (u.1 13) z ∧ u'.1 = u.1 ∧ (∀ j, Nat.beq j 16 = false → Nat.beq j 17 = false → u'.2.1 j = u.2.1 j) ∧ ∀ i : Nat, (i : Int) < (u.1 12).toInt → (u'.2.1 16 i, u'.2.1 17 i) = spM u z.toNatClampNeg i := by
  have b13 : 0 ≤ (u.1 13).toInt ∧ (u.1 13).toInt ≤ 30 := hJ.1 13
  unfold fX12_laySpansOf_0 at h
  obtain ⟨z, hz, h⟩ := layOf2 5000 x1 0 u u' r (by decide) b13.1 b13.2 (fun i hi => absurd hi (by show ¬ (i : Int) < (0 : Int); omega)) h
  unfold GX12_laySpansOf_0_26 at h
  obtain ⟨⟨r2, u3⟩, a2, h⟩ := bd_some h
  have e : u3 = u' := by cases h; rfl
  rw [e] at a2
  have z1 := hz.1
  have z2 := hz.2.1
  exact ⟨z, hz, lay_sp hJ z1 (by omega) (fun j hj => ho j (by omega)) hp a2⟩
