/-! fault and text. -/
def TieC (u v : SX) : Prop := u.1 5 = v.2.1 4 0 ∧ u.1 6 = v.2.1 4 1 ∧ u.1 7 = v.2.1 4 2
theorem TieT_fr {u u' v v' : SX} (h1 : u'.1 1 = u.1 1) (h2 : u'.2.1 13 = u.2.1 13) (k1 : v'.1 3 = v.1 3) (k2 : v'.2.1 1 = v.2.1 1) (h : TieT u v) : TieT u' v' := by
  refine ⟨by rw [h1, k1]; exact h.1, fun i hi => ?_⟩
  rw [h1] at hi
  rw [h2, k2]
  exact h.2 i hi
theorem TieC_fr {u u' v v' : SX} (h1 : u'.1 5 = u.1 5) (h2 : u'.1 6 = u.1 6) (h3 : u'.1 7 = u.1 7) (k : v'.2.1 4 = v.2.1 4) (h : TieC u v) : TieC u' v' := ⟨by rw [h1, k]; exact h.1, by rw [h2, k]; exact h.2.1, by rw [h3, k]; exact h.2.2⟩
theorem TieT_0 : TieT uX uM := ⟨rfl, fun i hi => by
  have hi : (i : Int) < 0 := hi
  omega⟩
theorem isIn_no {x : Int32} (h0 : ¬ x = 0) (h1 : ¬ x = 1) (h2 : ¬ x = 2) {r : Int32} (h : fX12_isIn x 0 2 = some r) : r = 0 := by
  unfold fX12_isIn at h
  by_cases c0 : x < 0
  · rw [if_pos c0] at h
    obtain ⟨-, h⟩ := gd_some h
    cases h
    rfl
  · rw [if_neg c0] at h
    have z0 : ¬ x.toInt < (0 : Int) := nltI c0
    have z1 : ¬ x.toInt = (0 : Int) := neI h0
    have z2 : ¬ x.toInt = (1 : Int) := neI h1
    have z3 : ¬ x.toInt = (2 : Int) := neI h2
    rw [if_pos (by exact Int32.lt_iff_toInt_lt.mpr (show (2 : Int) < x.toInt by omega))] at h
    obtain ⟨-, h⟩ := gd_some h
    cases h
    rfl
theorem text_cp : ∀ (n : Nat) (z1 z2 z3 r : Int32) (u v' : SX), LX12_text_0_74 GX12_text_0_105 n z1 z2 z3 u = some (r, v') → ∃ w, GX12_text_0_105 z1 z2 w = some (r, v') ∧ w.1 = u.1 ∧ ∀ k, ¬ k = 2 → w.2.1 k = u.2.1 k := by
  intro n
  induction n with
  | zero => intro z1 z2 z3 r u v' h; cases h
  | succ n ih =>
    intro z1 z2 z3 r u v' h
    have h : (if (u.1 3) ≤ z3 then (GX12_text_0_105 z1 z2 u) else _) = some (r, v') := h
    by_cases c : u.1 3 ≤ z3
    · rw [if_pos c] at h
      exact ⟨u, h, rfl, fun _ _ => rfl⟩
    · rw [if_neg c] at h
      obtain ⟨-, h⟩ := gd_some h
      obtain ⟨-, h⟩ := gd_some h
      obtain ⟨u2, e2, h⟩ := lt_some h
      obtain ⟨w, q1, q2, q3⟩ := ih z1 z2 (z3 + 1) r u2 v' h
      refine ⟨w, q1, by rw [q2, e2]; rfl, fun k hk => ?_⟩
      rw [q3 k hk, e2]
      show (bif Nat.beq k 2 then _ else u.2.1 k) = _
      cases z : Nat.beq k 2 with
      | false => rfl
      | true => exact absurd (Nat.eq_of_beq_eq_true z) hk
/-- what text has come to on X's side -/
def TextX (x1 : Int32) (u : SX) (r : Int32) (uA : SX) : Prop := (fX11_textK (fun _ _ => none) x1 u = some (r, uA)) ∨ (∃ (w : SX) (N : Nat) (g : Nat → Int32), fX11_textK (fun k w => if k = 3 then some (7, w) else none) x1 u = some (7, w) ∧ r = w.1 5 + 1 - 1 ∧ uA = sI (sT (uNew w N g) 15 (w.1 5).toNatClampNeg (tN w)) 5 (w.1 5 + 1)) ∨ (∃ (w : SX) (N : Nat) (g : Nat → Int32), fX11_textK (fun k w => if k = 4 then some (7, w) else none) x1 u = some (7, w) ∧ r = w.1 6 + 1 - 1 ∧ uA = sI (sT (uNew w N g) 18 (w.1 6).toNatClampNeg (tN w)) 6 (w.1 6 + 1)) ∨ (∃ (w : SX) (N : Nat) (g : Nat → Int32), fX11_textK (fun k w => if k = 5 then some (7, w) else none) x1 u = some (7, w) ∧ r = w.1 7 + 1 - 1 ∧ uA = sI (sT (uNew w N g) 21 (w.1 7).toNatClampNeg (tN w)) 7 (w.1 7 + 1))
theorem text_no {x1 : Int32} (h0 : ¬ x1 = 0) (h1 : ¬ x1 = 1) (h2 : ¬ x1 = 2) (u : SX) (kT : Nat → SX → Option (Int32 × SX)) : fX11_textK kT x1 u = some (-1, u) := by
  have e : fX11_shelfOf_0 x1 u = some (0, u) := by
    show (if x1 = 0 then _ else (if x1 = 1 then _ else (if x1 = 2 then _ else _))) = _
    rw [if_neg h0, if_neg h1, if_neg h2]
  show (fX11_shelfOf_0 x1 u).bind _ = _
  rw [e]
  rfl
theorem textK0 (u : SX) (kT : Nat → SX → Option (Int32 × SX)) : fX11_textK kT 0 u = (fX8_isFull_3 u).bind fun q => match q with | (r4, u5) => (if r4 = 0 then ((fX5_faultBy_2_as0 u5).bind fun q => match q with | (r7, u8) => (if r7 = (-1) then (lt (sI u8 1 0) fun u10 => (kT 3 u10)) else (some ((-1), u8)))) else (some ((-1), u5))) := by
  show (fX11_shelfOf_0 0 u).bind _ = _
  rw [shelf0]
  rfl
theorem textF0 {u : SX} (c : ¬ u.1 5 < 12) (kT : Nat → SX → Option (Int32 × SX)) : fX11_textK kT 0 u = some (-1, u) := by
  have e : fX8_isFull_3 u = some (1, u) := by
    show (if u.1 5 < 12 then _ else _) = _
    rw [if_neg c]
    rfl
  rw [textK0, e]
  rfl
theorem textN0 {u wf : SX} {rf : Int32} (c : u.1 5 < 12) (hf : fX5_faultBy_2_as0 u = some (rf, wf)) (kT : Nat → SX → Option (Int32 × SX)) : fX11_textK kT 0 u = (if rf = (-1) then kT 3 (sI wf 1 0) else some ((-1), wf)) := by
  have e : fX8_isFull_3 u = some (0, u) := by
    show (if u.1 5 < 12 then _ else _) = _
    rw [if_pos c]
    rfl
  rw [textK0, e]
  show ((fX5_faultBy_2_as0 u).bind _) = _
  rw [hf]
  rfl
set_option maxHeartbeats 1000000 in
theorem text0_eq {u uA v v' : SX} {r r' : Int32} (hI : IX u) (hJ : IM v) (hT : TieT u v) (hC : TieC u v) (h1 : TextX 0 u r uA) (h2 : fX12_text_0 0 v = some (r', v')) : r = r' ∧ TieT uA v' ∧ TieC uA v' := by
  have b1 : (u.1 5).toInt ≤ (12 : Int) := (hI.1 5).2
  have l0 : (0 : Int) ≤ (u.1 1).toInt := (hI.1 1).1
  have l1 : (u.1 1).toInt ≤ (120 : Int) := (hI.1 1).2
  unfold fX12_text_0 at h2
  obtain ⟨v1, e1, h2⟩ := lt_some h2
  have hT1 : TieT u v1 := by rw [e1]; exact hT
  have hC1 : TieC u v1 := by rw [e1]; exact hC
  have hJ1 : IM v1 := by rw [e1]; exact (StM_sI (md := ([0], [], [], [])) (StM_rf hJ) (by decide) (by decide) (by decide)).1
  clear e1 hT hC hJ
  obtain ⟨r3, a3, h2⟩ := bd_some h2
  have e3 : r3 = 1 := by
    have : fX12_isIn 0 0 2 = some 1 := by decide +kernel
    exact Option.some.inj (a3.symm.trans this)
  rw [if_neg (by rw [e3]; decide)] at h2
  obtain ⟨-, h2⟩ := gd_some h2
  have h2 : GX12_text_0_31 0 12 (v1.2.1 4 0) v1 = some (r', v') := by
    rw [if_pos rfl] at h2
    exact h2
  unfold GX12_text_0_31 at h2
  have hc : v1.2.1 4 0 = u.1 5 := by
    obtain ⟨q0, q1, q2⟩ := hC1
    exact q0.symm
  rw [hc] at h2
  have ref : r = -1 ∧ uA = u → some ((-1 : Int32), v1) = some (r', v') → r = r' ∧ TieT uA v' ∧ TieC uA v' := fun g1 g2 => by
    have e2 : (-1 : Int32) = r' ∧ v1 = v' := by cases g2; exact ⟨rfl, rfl⟩
    rw [g1.1, g1.2, ← e2.1, ← e2.2]
    exact ⟨rfl, hT1, hC1⟩
  by_cases cf : u.1 5 < 12
  · have cf9 : (u.1 5).toInt < (12 : Int) := ltI cf
    rw [if_neg (fun z => by have z9 : (u.1 5).toInt = (12 : Int) := eqI z; omega)] at h2
    obtain ⟨⟨r7, v8⟩, a7, h2⟩ := bd_some h2
    obtain ⟨⟨rf, wf⟩, hf, hq⟩ := tfX5_faultBy_2_as0 u hI
    have hs : StX mdX5_faultBy_2_as0 u wf := hq.1
    have lv0 : (0 : Int) ≤ (v1.1 3).toInt := (hJ1.1 3).1
    have lv1 : (v1.1 3).toInt ≤ (120 : Int) := (hJ1.1 3).2
    have hm : StM mdX12_goThrough_0_a1 v1 v8 := (Tot_at (tfX12_goThrough_0_a1 0 (v1.1 3) 0 v1 hJ1 (by decide) ⟨lv0, lv1⟩ (by decide)) a7).1
    have ef : rf = v8.1 7 := fb0_eq l0 l1 hT1 hf a7
    have w1 : wf.1 1 = u.1 1 := hs.2.1 1 (by decide)
    have w5 : wf.1 5 = u.1 5 := hs.2.1 5 (by decide)
    have w6 : wf.1 6 = u.1 6 := hs.2.1 6 (by decide)
    have w7 : wf.1 7 = u.1 7 := hs.2.1 7 (by decide)
    have w13 : wf.2.1 13 = u.2.1 13 := hs.2.2.1 13 (by decide)
    have y3 : v8.1 3 = v1.1 3 := hm.2.1 3 (by decide)
    have y1 : v8.2.1 1 = v1.2.1 1 := hm.2.2.1 1 (by decide)
    have y4 : v8.2.1 4 = v1.2.1 4 := hm.2.2.1 4 (by decide)
    have h2 : (if (v8.1 7) = (-1) then (gd (inb 0 3) (lt ((12 * 0) + (v8.2.1 4 0)) fun v11 => (LX12_text_0_74 GX12_text_0_105 5000 0 v11 0 v8))) else (some ((-1), v8))) = some (r', v') := h2
    rw [← ef] at h2
    by_cases cr : rf = -1
    · rw [if_pos cr] at h2
      obtain ⟨-, h2⟩ := gd_some h2
      obtain ⟨v11, e11, h2⟩ := lt_some h2
      obtain ⟨w, g105, gw, gr⟩ := text_cp 5000 0 v11 0 r' v8 v' h2
      unfold GX12_text_0_105 at g105
      obtain ⟨-, g105⟩ := gd_some g105
      obtain ⟨x1, i1, g105⟩ := lt_some g105
      obtain ⟨x2, i2, g105⟩ := lt_some g105
      obtain ⟨-, g105⟩ := gd_some g105
      obtain ⟨-, g105⟩ := gd_some g105
      obtain ⟨x3, i3, g105⟩ := lt_some g105
      obtain ⟨-, g105⟩ := gd_some g105
      have e2 : (x3.2.1 4 0) - 1 = r' ∧ x3 = v' := by cases g105; exact ⟨rfl, rfl⟩
      have k3 : x3.1 3 = 0 := by rw [i3, i2]; rfl
      have k4 : x3.2.1 4 = upd (w.2.1 4) 0 (w.2.1 4 0 + 1) := by rw [i3, i2, i1]; rfl
      have w4 : w.2.1 4 = v1.2.1 4 := (gr 4 (by decide)).trans y4
      have made : ∃ (N : Nat) (g : Nat → Int32), r = u.1 5 + 1 - 1 ∧ uA = sI (sT (uNew (sI wf 1 0) N g) 15 (u.1 5).toNatClampNeg (tN wf)) 5 (u.1 5 + 1) := by
        rcases h1 with h | h | h | h
        · rw [textN0 cf hf, if_pos cr] at h
          cases h
        · obtain ⟨w9, N, g, h, er, eA⟩ := h
          rw [textN0 cf hf, if_pos cr] at h
          have h : some ((7 : Int32), sI wf 1 0) = some (7, w9) := h
          have ew : sI wf 1 0 = w9 := by cases h; rfl
          rw [← ew] at er eA
          have ef2 : (sI wf 1 0).1 5 = u.1 5 := w5
          rw [ef2] at er
          exact ⟨N, g, er, by rw [eA, ef2]; rfl⟩
        · obtain ⟨w9, N, g, h, -⟩ := h
          rw [textN0 cf hf, if_pos cr] at h
          have h : (none : Option (Int32 × SX)) = some (7, w9) := h
          cases h
        · obtain ⟨w9, N, g, h, -⟩ := h
          rw [textN0 cf hf, if_pos cr] at h
          have h : (none : Option (Int32 × SX)) = some (7, w9) := h
          cases h
      obtain ⟨N, g, er, eA⟩ := made
      have c6 : uA.1 6 = u.1 6 := by rw [eA]; exact w6
      have c7 : uA.1 7 = u.1 7 := by rw [eA]; exact w7
      have c5 : uA.1 5 = u.1 5 + 1 := by rw [eA]; rfl
      have c1 : uA.1 1 = 0 := by rw [eA]; rfl
      rw [← e2.1, ← e2.2]
      refine ⟨?_, ⟨by rw [c1, k3], fun i hi => ?_⟩, ?_⟩
      · rw [er, k4, w4]
        show _ = (if (0 : Nat) = 0 then v1.2.1 4 0 + 1 else _) - 1
        rw [if_pos rfl, hc]
      · rw [c1] at hi
        have hi : (i : Int) < 0 := hi
        omega
      · obtain ⟨q0, q1, q2⟩ := hC1
        refine ⟨?_, ?_, ?_⟩
        · rw [c5, k4, w4]
          show _ = (if (0 : Nat) = 0 then v1.2.1 4 0 + 1 else _)
          rw [if_pos rfl, hc]
        · rw [c6, k4, w4]
          show _ = (if (1 : Nat) = 0 then _ else v1.2.1 4 1)
          rw [if_neg (by decide)]
          exact q1
        · rw [c7, k4, w4]
          show _ = (if (2 : Nat) = 0 then _ else v1.2.1 4 2)
          rw [if_neg (by decide)]
          exact q2
    · rw [if_neg cr] at h2
      have e2 : (-1 : Int32) = r' ∧ v8 = v' := by cases h2; exact ⟨rfl, rfl⟩
      have refd : r = -1 ∧ uA = wf := by
        have all : ∀ (kT : Nat → SX → Option (Int32 × SX)), fX11_textK kT 0 u = some (-1, wf) := fun kT => by
          rw [textN0 cf hf, if_neg cr]
        rcases h1 with h | ⟨w, N, g, h, -⟩ | ⟨w, N, g, h, -⟩ | ⟨w, N, g, h, -⟩
        · rw [all] at h
          cases h
          exact ⟨rfl, rfl⟩
        all_goals (rw [all] at h; exact absurd (show (-1 : Int32) = 7 from congrArg Prod.fst (Option.some.inj h)) (by decide))
      rw [refd.1, refd.2, ← e2.1, ← e2.2]
      refine ⟨rfl, ⟨by rw [w1, y3]; exact hT1.1, fun i hi => ?_⟩, ?_⟩
      · rw [w1] at hi
        rw [w13, y1]
        exact hT1.2 i hi
      · obtain ⟨q0, q1, q2⟩ := hC1
        exact ⟨by rw [w5, y4]; exact q0, by rw [w6, y4]; exact q1, by rw [w7, y4]; exact q2⟩
  · have cf9 : ¬ (u.1 5).toInt < (12 : Int) := nltI cf
    have en : u.1 5 = 12 := Int32.toInt.inj ((show (u.1 5).toInt = (12 : Int) by omega).trans (by decide))
    rw [if_pos en] at h2
    refine ref ?_ h2
    rcases h1 with h | ⟨w, N, g, h, -⟩ | ⟨w, N, g, h, -⟩ | ⟨w, N, g, h, -⟩
    · rw [textF0 cf] at h
      cases h
      exact ⟨rfl, rfl⟩
    all_goals (rw [textF0 cf] at h; exact absurd (show (-1 : Int32) = 7 from congrArg Prod.fst (Option.some.inj h)) (by decide))
theorem textK1 (u : SX) (kT : Nat → SX → Option (Int32 × SX)) : fX11_textK kT 1 u = (fX8_isFull_4 u).bind fun q => match q with | (r4, u5) => (if r4 = 0 then ((fX5_faultBy_2_as1 u5).bind fun q => match q with | (r7, u8) => (if r7 = (-1) then (lt (sI u8 1 0) fun u10 => (kT 4 u10)) else (some ((-1), u8)))) else (some ((-1), u5))) := by
  show (fX11_shelfOf_0 1 u).bind _ = _
  rw [shelf1]
  rfl
theorem textF1 {u : SX} (c : ¬ u.1 6 < 6) (kT : Nat → SX → Option (Int32 × SX)) : fX11_textK kT 1 u = some (-1, u) := by
  have e : fX8_isFull_4 u = some (1, u) := by
    show (if u.1 6 < 6 then _ else _) = _
    rw [if_neg c]
    rfl
  rw [textK1, e]
  rfl
theorem textN1 {u wf : SX} {rf : Int32} (c : u.1 6 < 6) (hf : fX5_faultBy_2_as1 u = some (rf, wf)) (kT : Nat → SX → Option (Int32 × SX)) : fX11_textK kT 1 u = (if rf = (-1) then kT 4 (sI wf 1 0) else some ((-1), wf)) := by
  have e : fX8_isFull_4 u = some (0, u) := by
    show (if u.1 6 < 6 then _ else _) = _
    rw [if_pos c]
    rfl
  rw [textK1, e]
  show ((fX5_faultBy_2_as1 u).bind _) = _
  rw [hf]
  rfl
set_option maxHeartbeats 1000000 in
theorem text1_eq {u uA v v' : SX} {r r' : Int32} (hI : IX u) (hJ : IM v) (hT : TieT u v) (hC : TieC u v) (h1 : TextX 1 u r uA) (h2 : fX12_text_0 1 v = some (r', v')) : r = r' ∧ TieT uA v' ∧ TieC uA v' := by
  have b1 : (u.1 6).toInt ≤ (6 : Int) := (hI.1 6).2
  have l0 : (0 : Int) ≤ (u.1 1).toInt := (hI.1 1).1
  have l1 : (u.1 1).toInt ≤ (120 : Int) := (hI.1 1).2
  unfold fX12_text_0 at h2
  obtain ⟨v1, e1, h2⟩ := lt_some h2
  have hT1 : TieT u v1 := by rw [e1]; exact hT
  have hC1 : TieC u v1 := by rw [e1]; exact hC
  have hJ1 : IM v1 := by rw [e1]; exact (StM_sI (md := ([0], [], [], [])) (StM_rf hJ) (by decide) (by decide) (by decide)).1
  clear e1 hT hC hJ
  obtain ⟨r3, a3, h2⟩ := bd_some h2
  have e3 : r3 = 1 := by
    have : fX12_isIn 1 0 2 = some 1 := by decide +kernel
    exact Option.some.inj (a3.symm.trans this)
  rw [if_neg (by rw [e3]; decide)] at h2
  obtain ⟨-, h2⟩ := gd_some h2
  have h2 : GX12_text_0_31 1 6 (v1.2.1 4 1) v1 = some (r', v') := by
    rw [if_neg (by decide)] at h2
    exact h2
  unfold GX12_text_0_31 at h2
  have hc : v1.2.1 4 1 = u.1 6 := by
    obtain ⟨q0, q1, q2⟩ := hC1
    exact q1.symm
  rw [hc] at h2
  have ref : r = -1 ∧ uA = u → some ((-1 : Int32), v1) = some (r', v') → r = r' ∧ TieT uA v' ∧ TieC uA v' := fun g1 g2 => by
    have e2 : (-1 : Int32) = r' ∧ v1 = v' := by cases g2; exact ⟨rfl, rfl⟩
    rw [g1.1, g1.2, ← e2.1, ← e2.2]
    exact ⟨rfl, hT1, hC1⟩
  by_cases cf : u.1 6 < 6
  · have cf9 : (u.1 6).toInt < (6 : Int) := ltI cf
    rw [if_neg (fun z => by have z9 : (u.1 6).toInt = (6 : Int) := eqI z; omega)] at h2
    obtain ⟨⟨r7, v8⟩, a7, h2⟩ := bd_some h2
    obtain ⟨⟨rf, wf⟩, hf, hq⟩ := tfX5_faultBy_2_as1 u hI
    have hs : StX mdX5_faultBy_2_as1 u wf := hq.1
    have lv0 : (0 : Int) ≤ (v1.1 3).toInt := (hJ1.1 3).1
    have lv1 : (v1.1 3).toInt ≤ (120 : Int) := (hJ1.1 3).2
    have hm : StM mdX12_goThrough_0_a1 v1 v8 := (Tot_at (tfX12_goThrough_0_a1 0 (v1.1 3) 1 v1 hJ1 (by decide) ⟨lv0, lv1⟩ (by decide)) a7).1
    have ef : rf = v8.1 7 := fb1_eq l0 l1 hT1 hf a7
    have w1 : wf.1 1 = u.1 1 := hs.2.1 1 (by decide)
    have w5 : wf.1 5 = u.1 5 := hs.2.1 5 (by decide)
    have w6 : wf.1 6 = u.1 6 := hs.2.1 6 (by decide)
    have w7 : wf.1 7 = u.1 7 := hs.2.1 7 (by decide)
    have w13 : wf.2.1 13 = u.2.1 13 := hs.2.2.1 13 (by decide)
    have y3 : v8.1 3 = v1.1 3 := hm.2.1 3 (by decide)
    have y1 : v8.2.1 1 = v1.2.1 1 := hm.2.2.1 1 (by decide)
    have y4 : v8.2.1 4 = v1.2.1 4 := hm.2.2.1 4 (by decide)
    have h2 : (if (v8.1 7) = (-1) then (gd (inb 1 3) (lt ((12 * 1) + (v8.2.1 4 1)) fun v11 => (LX12_text_0_74 GX12_text_0_105 5000 1 v11 0 v8))) else (some ((-1), v8))) = some (r', v') := h2
    rw [← ef] at h2
    by_cases cr : rf = -1
    · rw [if_pos cr] at h2
      obtain ⟨-, h2⟩ := gd_some h2
      obtain ⟨v11, e11, h2⟩ := lt_some h2
      obtain ⟨w, g105, gw, gr⟩ := text_cp 5000 1 v11 0 r' v8 v' h2
      unfold GX12_text_0_105 at g105
      obtain ⟨-, g105⟩ := gd_some g105
      obtain ⟨x1, i1, g105⟩ := lt_some g105
      obtain ⟨x2, i2, g105⟩ := lt_some g105
      obtain ⟨-, g105⟩ := gd_some g105
      obtain ⟨-, g105⟩ := gd_some g105
      obtain ⟨x3, i3, g105⟩ := lt_some g105
      obtain ⟨-, g105⟩ := gd_some g105
      have e2 : (x3.2.1 4 1) - 1 = r' ∧ x3 = v' := by cases g105; exact ⟨rfl, rfl⟩
      have k3 : x3.1 3 = 0 := by rw [i3, i2]; rfl
      have k4 : x3.2.1 4 = upd (w.2.1 4) 1 (w.2.1 4 1 + 1) := by rw [i3, i2, i1]; rfl
      have w4 : w.2.1 4 = v1.2.1 4 := (gr 4 (by decide)).trans y4
      have made : ∃ (N : Nat) (g : Nat → Int32), r = u.1 6 + 1 - 1 ∧ uA = sI (sT (uNew (sI wf 1 0) N g) 18 (u.1 6).toNatClampNeg (tN wf)) 6 (u.1 6 + 1) := by
        rcases h1 with h | h | h | h
        · rw [textN1 cf hf, if_pos cr] at h
          cases h
        · obtain ⟨w9, N, g, h, -⟩ := h
          rw [textN1 cf hf, if_pos cr] at h
          have h : (none : Option (Int32 × SX)) = some (7, w9) := h
          cases h
        · obtain ⟨w9, N, g, h, er, eA⟩ := h
          rw [textN1 cf hf, if_pos cr] at h
          have h : some ((7 : Int32), sI wf 1 0) = some (7, w9) := h
          have ew : sI wf 1 0 = w9 := by cases h; rfl
          rw [← ew] at er eA
          have ef2 : (sI wf 1 0).1 6 = u.1 6 := w6
          rw [ef2] at er
          exact ⟨N, g, er, by rw [eA, ef2]; rfl⟩
        · obtain ⟨w9, N, g, h, -⟩ := h
          rw [textN1 cf hf, if_pos cr] at h
          have h : (none : Option (Int32 × SX)) = some (7, w9) := h
          cases h
      obtain ⟨N, g, er, eA⟩ := made
      have c5 : uA.1 5 = u.1 5 := by rw [eA]; exact w5
      have c7 : uA.1 7 = u.1 7 := by rw [eA]; exact w7
      have c6 : uA.1 6 = u.1 6 + 1 := by rw [eA]; rfl
      have c1 : uA.1 1 = 0 := by rw [eA]; rfl
      rw [← e2.1, ← e2.2]
      refine ⟨?_, ⟨by rw [c1, k3], fun i hi => ?_⟩, ?_⟩
      · rw [er, k4, w4]
        show _ = (if (1 : Nat) = 1 then v1.2.1 4 1 + 1 else _) - 1
        rw [if_pos rfl, hc]
      · rw [c1] at hi
        have hi : (i : Int) < 0 := hi
        omega
      · obtain ⟨q0, q1, q2⟩ := hC1
        refine ⟨?_, ?_, ?_⟩
        · rw [c5, k4, w4]
          show _ = (if (0 : Nat) = 1 then _ else v1.2.1 4 0)
          rw [if_neg (by decide)]
          exact q0
        · rw [c6, k4, w4]
          show _ = (if (1 : Nat) = 1 then v1.2.1 4 1 + 1 else _)
          rw [if_pos rfl, hc]
        · rw [c7, k4, w4]
          show _ = (if (2 : Nat) = 1 then _ else v1.2.1 4 2)
          rw [if_neg (by decide)]
          exact q2
    · rw [if_neg cr] at h2
      have e2 : (-1 : Int32) = r' ∧ v8 = v' := by cases h2; exact ⟨rfl, rfl⟩
      have refd : r = -1 ∧ uA = wf := by
        have all : ∀ (kT : Nat → SX → Option (Int32 × SX)), fX11_textK kT 1 u = some (-1, wf) := fun kT => by
          rw [textN1 cf hf, if_neg cr]
        rcases h1 with h | ⟨w, N, g, h, -⟩ | ⟨w, N, g, h, -⟩ | ⟨w, N, g, h, -⟩
        · rw [all] at h
          cases h
          exact ⟨rfl, rfl⟩
        all_goals (rw [all] at h; exact absurd (show (-1 : Int32) = 7 from congrArg Prod.fst (Option.some.inj h)) (by decide))
      rw [refd.1, refd.2, ← e2.1, ← e2.2]
      refine ⟨rfl, ⟨by rw [w1, y3]; exact hT1.1, fun i hi => ?_⟩, ?_⟩
      · rw [w1] at hi
        rw [w13, y1]
        exact hT1.2 i hi
      · obtain ⟨q0, q1, q2⟩ := hC1
        exact ⟨by rw [w5, y4]; exact q0, by rw [w6, y4]; exact q1, by rw [w7, y4]; exact q2⟩
  · have cf9 : ¬ (u.1 6).toInt < (6 : Int) := nltI cf
    have en : u.1 6 = 6 := Int32.toInt.inj ((show (u.1 6).toInt = (6 : Int) by omega).trans (by decide))
    rw [if_pos en] at h2
    refine ref ?_ h2
    rcases h1 with h | ⟨w, N, g, h, -⟩ | ⟨w, N, g, h, -⟩ | ⟨w, N, g, h, -⟩
    · rw [textF1 cf] at h
      cases h
      exact ⟨rfl, rfl⟩
    all_goals (rw [textF1 cf] at h; exact absurd (show (-1 : Int32) = 7 from congrArg Prod.fst (Option.some.inj h)) (by decide))
theorem textK2 (u : SX) (kT : Nat → SX → Option (Int32 × SX)) : fX11_textK kT 2 u = (fX8_isFull_5 u).bind fun q => match q with | (r4, u5) => (if r4 = 0 then ((fX5_faultBy_2_as2 u5).bind fun q => match q with | (r7, u8) => (if r7 = (-1) then (lt (sI u8 1 0) fun u10 => (kT 5 u10)) else (some ((-1), u8)))) else (some ((-1), u5))) := by
  show (fX11_shelfOf_0 2 u).bind _ = _
  rw [shelf2]
  rfl
theorem textF2 {u : SX} (c : ¬ u.1 7 < 6) (kT : Nat → SX → Option (Int32 × SX)) : fX11_textK kT 2 u = some (-1, u) := by
  have e : fX8_isFull_5 u = some (1, u) := by
    show (if u.1 7 < 6 then _ else _) = _
    rw [if_neg c]
    rfl
  rw [textK2, e]
  rfl
theorem textN2 {u wf : SX} {rf : Int32} (c : u.1 7 < 6) (hf : fX5_faultBy_2_as2 u = some (rf, wf)) (kT : Nat → SX → Option (Int32 × SX)) : fX11_textK kT 2 u = (if rf = (-1) then kT 5 (sI wf 1 0) else some ((-1), wf)) := by
  have e : fX8_isFull_5 u = some (0, u) := by
    show (if u.1 7 < 6 then _ else _) = _
    rw [if_pos c]
    rfl
  rw [textK2, e]
  show ((fX5_faultBy_2_as2 u).bind _) = _
  rw [hf]
  rfl
set_option maxHeartbeats 1000000 in
theorem text2_eq {u uA v v' : SX} {r r' : Int32} (hI : IX u) (hJ : IM v) (hT : TieT u v) (hC : TieC u v) (h1 : TextX 2 u r uA) (h2 : fX12_text_0 2 v = some (r', v')) : r = r' ∧ TieT uA v' ∧ TieC uA v' := by
  have b1 : (u.1 7).toInt ≤ (6 : Int) := (hI.1 7).2
  have l0 : (0 : Int) ≤ (u.1 1).toInt := (hI.1 1).1
  have l1 : (u.1 1).toInt ≤ (120 : Int) := (hI.1 1).2
  unfold fX12_text_0 at h2
  obtain ⟨v1, e1, h2⟩ := lt_some h2
  have hT1 : TieT u v1 := by rw [e1]; exact hT
  have hC1 : TieC u v1 := by rw [e1]; exact hC
  have hJ1 : IM v1 := by rw [e1]; exact (StM_sI (md := ([0], [], [], [])) (StM_rf hJ) (by decide) (by decide) (by decide)).1
  clear e1 hT hC hJ
  obtain ⟨r3, a3, h2⟩ := bd_some h2
  have e3 : r3 = 1 := by
    have : fX12_isIn 2 0 2 = some 1 := by decide +kernel
    exact Option.some.inj (a3.symm.trans this)
  rw [if_neg (by rw [e3]; decide)] at h2
  obtain ⟨-, h2⟩ := gd_some h2
  have h2 : GX12_text_0_31 2 6 (v1.2.1 4 2) v1 = some (r', v') := by
    rw [if_neg (by decide)] at h2
    exact h2
  unfold GX12_text_0_31 at h2
  have hc : v1.2.1 4 2 = u.1 7 := by
    obtain ⟨q0, q1, q2⟩ := hC1
    exact q2.symm
  rw [hc] at h2
  have ref : r = -1 ∧ uA = u → some ((-1 : Int32), v1) = some (r', v') → r = r' ∧ TieT uA v' ∧ TieC uA v' := fun g1 g2 => by
    have e2 : (-1 : Int32) = r' ∧ v1 = v' := by cases g2; exact ⟨rfl, rfl⟩
    rw [g1.1, g1.2, ← e2.1, ← e2.2]
    exact ⟨rfl, hT1, hC1⟩
  by_cases cf : u.1 7 < 6
  · have cf9 : (u.1 7).toInt < (6 : Int) := ltI cf
    rw [if_neg (fun z => by have z9 : (u.1 7).toInt = (6 : Int) := eqI z; omega)] at h2
    obtain ⟨⟨r7, v8⟩, a7, h2⟩ := bd_some h2
    obtain ⟨⟨rf, wf⟩, hf, hq⟩ := tfX5_faultBy_2_as2 u hI
    have hs : StX mdX5_faultBy_2_as2 u wf := hq.1
    have lv0 : (0 : Int) ≤ (v1.1 3).toInt := (hJ1.1 3).1
    have lv1 : (v1.1 3).toInt ≤ (120 : Int) := (hJ1.1 3).2
    have hm : StM mdX12_goThrough_0_a1 v1 v8 := (Tot_at (tfX12_goThrough_0_a1 0 (v1.1 3) 2 v1 hJ1 (by decide) ⟨lv0, lv1⟩ (by decide)) a7).1
    have ef : rf = v8.1 7 := fb2_eq l0 l1 hT1 hf a7
    have w1 : wf.1 1 = u.1 1 := hs.2.1 1 (by decide)
    have w5 : wf.1 5 = u.1 5 := hs.2.1 5 (by decide)
    have w6 : wf.1 6 = u.1 6 := hs.2.1 6 (by decide)
    have w7 : wf.1 7 = u.1 7 := hs.2.1 7 (by decide)
    have w13 : wf.2.1 13 = u.2.1 13 := hs.2.2.1 13 (by decide)
    have y3 : v8.1 3 = v1.1 3 := hm.2.1 3 (by decide)
    have y1 : v8.2.1 1 = v1.2.1 1 := hm.2.2.1 1 (by decide)
    have y4 : v8.2.1 4 = v1.2.1 4 := hm.2.2.1 4 (by decide)
    have h2 : (if (v8.1 7) = (-1) then (gd (inb 2 3) (lt ((12 * 2) + (v8.2.1 4 2)) fun v11 => (LX12_text_0_74 GX12_text_0_105 5000 2 v11 0 v8))) else (some ((-1), v8))) = some (r', v') := h2
    rw [← ef] at h2
    by_cases cr : rf = -1
    · rw [if_pos cr] at h2
      obtain ⟨-, h2⟩ := gd_some h2
      obtain ⟨v11, e11, h2⟩ := lt_some h2
      obtain ⟨w, g105, gw, gr⟩ := text_cp 5000 2 v11 0 r' v8 v' h2
      unfold GX12_text_0_105 at g105
      obtain ⟨-, g105⟩ := gd_some g105
      obtain ⟨x1, i1, g105⟩ := lt_some g105
      obtain ⟨x2, i2, g105⟩ := lt_some g105
      obtain ⟨-, g105⟩ := gd_some g105
      obtain ⟨-, g105⟩ := gd_some g105
      obtain ⟨x3, i3, g105⟩ := lt_some g105
      obtain ⟨-, g105⟩ := gd_some g105
      have e2 : (x3.2.1 4 2) - 1 = r' ∧ x3 = v' := by cases g105; exact ⟨rfl, rfl⟩
      have k3 : x3.1 3 = 0 := by rw [i3, i2]; rfl
      have k4 : x3.2.1 4 = upd (w.2.1 4) 2 (w.2.1 4 2 + 1) := by rw [i3, i2, i1]; rfl
      have w4 : w.2.1 4 = v1.2.1 4 := (gr 4 (by decide)).trans y4
      have made : ∃ (N : Nat) (g : Nat → Int32), r = u.1 7 + 1 - 1 ∧ uA = sI (sT (uNew (sI wf 1 0) N g) 21 (u.1 7).toNatClampNeg (tN wf)) 7 (u.1 7 + 1) := by
        rcases h1 with h | h | h | h
        · rw [textN2 cf hf, if_pos cr] at h
          cases h
        · obtain ⟨w9, N, g, h, -⟩ := h
          rw [textN2 cf hf, if_pos cr] at h
          have h : (none : Option (Int32 × SX)) = some (7, w9) := h
          cases h
        · obtain ⟨w9, N, g, h, -⟩ := h
          rw [textN2 cf hf, if_pos cr] at h
          have h : (none : Option (Int32 × SX)) = some (7, w9) := h
          cases h
        · obtain ⟨w9, N, g, h, er, eA⟩ := h
          rw [textN2 cf hf, if_pos cr] at h
          have h : some ((7 : Int32), sI wf 1 0) = some (7, w9) := h
          have ew : sI wf 1 0 = w9 := by cases h; rfl
          rw [← ew] at er eA
          have ef2 : (sI wf 1 0).1 7 = u.1 7 := w7
          rw [ef2] at er
          exact ⟨N, g, er, by rw [eA, ef2]; rfl⟩
      obtain ⟨N, g, er, eA⟩ := made
      have c5 : uA.1 5 = u.1 5 := by rw [eA]; exact w5
      have c6 : uA.1 6 = u.1 6 := by rw [eA]; exact w6
      have c7 : uA.1 7 = u.1 7 + 1 := by rw [eA]; rfl
      have c1 : uA.1 1 = 0 := by rw [eA]; rfl
      rw [← e2.1, ← e2.2]
      refine ⟨?_, ⟨by rw [c1, k3], fun i hi => ?_⟩, ?_⟩
      · rw [er, k4, w4]
        show _ = (if (2 : Nat) = 2 then v1.2.1 4 2 + 1 else _) - 1
        rw [if_pos rfl, hc]
      · rw [c1] at hi
        have hi : (i : Int) < 0 := hi
        omega
      · obtain ⟨q0, q1, q2⟩ := hC1
        refine ⟨?_, ?_, ?_⟩
        · rw [c5, k4, w4]
          show _ = (if (0 : Nat) = 2 then _ else v1.2.1 4 0)
          rw [if_neg (by decide)]
          exact q0
        · rw [c6, k4, w4]
          show _ = (if (1 : Nat) = 2 then _ else v1.2.1 4 1)
          rw [if_neg (by decide)]
          exact q1
        · rw [c7, k4, w4]
          show _ = (if (2 : Nat) = 2 then v1.2.1 4 2 + 1 else _)
          rw [if_pos rfl, hc]
    · rw [if_neg cr] at h2
      have e2 : (-1 : Int32) = r' ∧ v8 = v' := by cases h2; exact ⟨rfl, rfl⟩
      have refd : r = -1 ∧ uA = wf := by
        have all : ∀ (kT : Nat → SX → Option (Int32 × SX)), fX11_textK kT 2 u = some (-1, wf) := fun kT => by
          rw [textN2 cf hf, if_neg cr]
        rcases h1 with h | ⟨w, N, g, h, -⟩ | ⟨w, N, g, h, -⟩ | ⟨w, N, g, h, -⟩
        · rw [all] at h
          cases h
          exact ⟨rfl, rfl⟩
        all_goals (rw [all] at h; exact absurd (show (-1 : Int32) = 7 from congrArg Prod.fst (Option.some.inj h)) (by decide))
      rw [refd.1, refd.2, ← e2.1, ← e2.2]
      refine ⟨rfl, ⟨by rw [w1, y3]; exact hT1.1, fun i hi => ?_⟩, ?_⟩
      · rw [w1] at hi
        rw [w13, y1]
        exact hT1.2 i hi
      · obtain ⟨q0, q1, q2⟩ := hC1
        exact ⟨by rw [w5, y4]; exact q0, by rw [w6, y4]; exact q1, by rw [w7, y4]; exact q2⟩
  · have cf9 : ¬ (u.1 7).toInt < (6 : Int) := nltI cf
    have en : u.1 7 = 6 := Int32.toInt.inj ((show (u.1 7).toInt = (6 : Int) by omega).trans (by decide))
    rw [if_pos en] at h2
    refine ref ?_ h2
    rcases h1 with h | ⟨w, N, g, h, -⟩ | ⟨w, N, g, h, -⟩ | ⟨w, N, g, h, -⟩
    · rw [textF2 cf] at h
      cases h
      exact ⟨rfl, rfl⟩
    all_goals (rw [textF2 cf] at h; exact absurd (show (-1 : Int32) = 7 from congrArg Prod.fst (Option.some.inj h)) (by decide))
theorem text_eq {x1 r r' : Int32} {u uA v v' : SX} (hI : IX u) (hJ : IM v) (hT : TieT u v) (hC : TieC u v) (h1 : TextX x1 u r uA) (h2 : fX12_text_0 x1 v = some (r', v')) : r = r' ∧ TieT uA v' ∧ TieC uA v' := by
  by_cases c0 : x1 = 0
  · subst c0
    exact text0_eq hI hJ hT hC h1 h2
  · by_cases c1 : x1 = 1
    · subst c1
      exact text1_eq hI hJ hT hC h1 h2
    · by_cases c2 : x1 = 2
      · subst c2
        exact text2_eq hI hJ hT hC h1 h2
      · unfold fX12_text_0 at h2
        obtain ⟨v1, e1, h2⟩ := lt_some h2
        obtain ⟨r3, a3, h2⟩ := bd_some h2
        rw [if_pos (isIn_no c0 c1 c2 a3)] at h2
        have e2 : (-1 : Int32) = r' ∧ v1 = v' := by cases h2; exact ⟨rfl, rfl⟩
        have refd : r = -1 ∧ uA = u := by
          rcases h1 with h | ⟨w, N, g, h, -⟩ | ⟨w, N, g, h, -⟩ | ⟨w, N, g, h, -⟩
          · rw [text_no c0 c1 c2] at h
            cases h
            exact ⟨rfl, rfl⟩
          all_goals (rw [text_no c0 c1 c2] at h; exact absurd (show (-1 : Int32) = 7 from congrArg Prod.fst (Option.some.inj h)) (by decide))
        rw [refd.1, refd.2, ← e2.1, ← e2.2, e1]
        exact ⟨rfl, hT, hC⟩
theorem fault_eq {x1 r r' : Int32} {u u' v v' : SX} (hI : IX u) (hT : TieT u v) (h1 : fX11_fault_0 x1 u = some (r, u')) (h2 : fX12_fault_0 x1 v = some (r', v')) : r = r' := by
  have l0 : (0 : Int) ≤ (u.1 1).toInt := (hI.1 1).1
  have l1 : (u.1 1).toInt ≤ (120 : Int) := (hI.1 1).2
  unfold fX11_fault_0 at h1
  unfold fX12_fault_0 at h2
  obtain ⟨v1, e1, h2⟩ := lt_some h2
  have hT1 : TieT u v1 := by rw [e1]; exact hT
  obtain ⟨r3, a3, h2⟩ := bd_some h2
  by_cases c0 : x1 = 0
  · rw [c0, shelf0] at h1
    have h1 : ((fX5_faultBy_2_as0 u).bind _) = some (r, u') := h1
    obtain ⟨⟨r4, u5⟩, a4, h1⟩ := bd_some h1
    have er : r4 = r := by cases h1; rfl
    rw [c0] at a3 h2
    have e3 : r3 = 1 := by
      have : fX12_isIn 0 0 2 = some 1 := by decide +kernel
      exact Option.some.inj (a3.symm.trans this)
    rw [if_neg (by rw [e3]; decide)] at h2
    obtain ⟨⟨r6, v7⟩, a6, h2⟩ := bd_some h2
    have er2 : v7.1 7 = r' := by cases h2; rfl
    rw [← er, ← er2]
    exact fb0_eq l0 l1 hT1 a4 a6

  · skip
    by_cases c1 : x1 = 1
    · rw [c1, shelf1] at h1
      have h1 : ((fX5_faultBy_2_as1 u).bind _) = some (r, u') := h1
      obtain ⟨⟨r4, u5⟩, a4, h1⟩ := bd_some h1
      have er : r4 = r := by cases h1; rfl
      rw [c1] at a3 h2
      have e3 : r3 = 1 := by
        have : fX12_isIn 1 0 2 = some 1 := by decide +kernel
        exact Option.some.inj (a3.symm.trans this)
      rw [if_neg (by rw [e3]; decide)] at h2
      obtain ⟨⟨r6, v7⟩, a6, h2⟩ := bd_some h2
      have er2 : v7.1 7 = r' := by cases h2; rfl
      rw [← er, ← er2]
      exact fb1_eq l0 l1 hT1 a4 a6

    · skip
      by_cases c2 : x1 = 2
      · rw [c2, shelf2] at h1
        have h1 : ((fX5_faultBy_2_as2 u).bind _) = some (r, u') := h1
        obtain ⟨⟨r4, u5⟩, a4, h1⟩ := bd_some h1
        have er : r4 = r := by cases h1; rfl
        rw [c2] at a3 h2
        have e3 : r3 = 1 := by
          have : fX12_isIn 2 0 2 = some 1 := by decide +kernel
          exact Option.some.inj (a3.symm.trans this)
        rw [if_neg (by rw [e3]; decide)] at h2
        obtain ⟨⟨r6, v7⟩, a6, h2⟩ := bd_some h2
        have er2 : v7.1 7 = r' := by cases h2; rfl
        rw [← er, ← er2]
        exact fb2_eq l0 l1 hT1 a4 a6

      · skip
        rw [if_pos (isIn_no c0 c1 c2 a3)] at h2
        have es : fX11_shelfOf_0 x1 u = some (0, u) := by
          show (if x1 = 0 then _ else (if x1 = 1 then _ else (if x1 = 2 then _ else _))) = _
          rw [if_neg c0, if_neg c1, if_neg c2]
        rw [es] at h1
        have e2 : (-2 : Int32) = r' := by cases h2; rfl
        have e1 : (-2 : Int32) = r := by
          have h1 : some ((-2 : Int32), u) = some (r, u') := h1
          cases h1
          rfl
        rw [← e1, ← e2]
