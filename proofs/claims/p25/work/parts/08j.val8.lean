/-! What a text says: kept for every text. -/
/-- what text has come to on the class's side, with the code that was copied -/
def TextY (x1 : Int32) (u : SX) (r : Int32) (uA : SX) : Prop := (fX11_textK (fun _ _ => none) x1 u = some (r, uA)) ∨ (∃ (w : SX) (g : Nat → Int32), fX11_textK (fun k w => if k = 3 then some (7, w) else none) x1 u = some (7, w) ∧ r = w.1 5 + 1 - 1 ∧ uA = sI (sT (uNew w (w.1 2).toNatClampNeg g) 15 (w.1 5).toNatClampNeg (tN w)) 5 (w.1 5 + 1) ∧ CpG (w.2.1 14) (w.1 2).toNatClampNeg g) ∨ (∃ (w : SX) (g : Nat → Int32), fX11_textK (fun k w => if k = 4 then some (7, w) else none) x1 u = some (7, w) ∧ r = w.1 6 + 1 - 1 ∧ uA = sI (sT (uNew w (w.1 2).toNatClampNeg g) 18 (w.1 6).toNatClampNeg (tN w)) 6 (w.1 6 + 1) ∧ CpG (w.2.1 14) (w.1 2).toNatClampNeg g) ∨ (∃ (w : SX) (g : Nat → Int32), fX11_textK (fun k w => if k = 5 then some (7, w) else none) x1 u = some (7, w) ∧ r = w.1 7 + 1 - 1 ∧ uA = sI (sT (uNew w (w.1 2).toNatClampNeg g) 21 (w.1 7).toNatClampNeg (tN w)) 7 (w.1 7 + 1) ∧ CpG (w.2.1 14) (w.1 2).toNatClampNeg g)
theorem TextY_X {x1 r : Int32} {u uA : SX} (h : TextY x1 u r uA) : TextX x1 u r uA := by
  rcases h with h | ⟨w, g, h, er, eA, -⟩ | ⟨w, g, h, er, eA, -⟩ | ⟨w, g, h, er, eA, -⟩
  · exact Or.inl h
  · exact Or.inr (Or.inl ⟨w, _, g, h, er, eA⟩)
  · exact Or.inr (Or.inr (Or.inl ⟨w, _, g, h, er, eA⟩))
  · exact Or.inr (Or.inr (Or.inr ⟨w, _, g, h, er, eA⟩))
theorem SEM_cg {s len : Int32} {f f' code code' : Nat → Int32} {size : Nat} (hf : ∀ i : Nat, (i : Int) < len.toInt → f' i = f i) (hc : ∀ i : Nat, i < size → code' i = code i) (h : SEM s len f code size) : SEM s len f' code' size := by
  intro ρ L N B v v' r' hL hv hB hrow hM
  obtain ⟨q1, q2⟩ := h ρ L N B v v' r' hL hv hB (fun i hi => (hrow i hi).trans (hf i hi)) hM
  exact ⟨SAY_cg hc q1, q2⟩
def TVa (R : Nat) (s : Int32) (P i : Nat) (u v : SX) : Prop := ∃ k, tQ u R i = some k ∧ k < tN u ∧ SEM s (v.2.1 3 P) (fun j => v.2.1 2 (120 * P + j)) (tC u k) (tL u k)
def TV (F R : Nat) (s : Int32) (S : Nat) (u v : SX) : Prop := ∀ i : Nat, (i : Int) < (u.1 F).toInt → TVa R s (12 * S + i) i u v
def TieV (u v : SX) : Prop := TV 5 15 0 0 u v ∧ TV 6 18 1 1 u v ∧ TV 7 21 2 2 u v
theorem TieV_fr {u u' v v' : SX} (h5 : u'.1 5 = u.1 5) (h6 : u'.1 6 = u.1 6) (h7 : u'.1 7 = u.1 7) (hx : u'.2.2.2.2 = u.2.2.2.2) (m2 : v'.2.1 2 = v.2.1 2) (m3 : v'.2.1 3 = v.2.1 3) (h : TieV u v) : TieV u' v' := by
  unfold TieV TV TVa tQ tN tC tL at h ⊢
  rw [h5, h6, h7, hx, m2, m3]
  exact h
theorem TieV_0 : TieV uX uM := ⟨fun i hi => by
    have hi : (i : Int) < 0 := hi
    omega, fun i hi => by
    have hi : (i : Int) < 0 := hi
    omega, fun i hi => by
    have hi : (i : Int) < 0 := hi
    omega⟩
theorem nar_id {x : Int32} (h0 : -128 ≤ x.toInt) (h1 : x.toInt ≤ 127) : vp_nar .byte x = x := by
  apply Int32.toInt.inj
  show x.toInt8.toInt32.toInt = x.toInt
  rw [Int8.toInt_toInt32, Int32.toInt_toInt8]
  exact Int.bmod_eq_of_le (by show -(256 / 2) ≤ x.toInt; omega) (by show x.toInt < (256 + 1) / 2; omega)
theorem text_cpV : ∀ (n : Nat) (z1 z2 z3 r : Int32) (u v' : SX), (∀ i, -128 ≤ (u.2.1 1 i).toInt ∧ (u.2.1 1 i).toInt ≤ 127) → (0 ≤ z2.toInt ∧ z2.toInt ≤ 35) → 0 ≤ z3.toInt → z3.toInt ≤ 120 → (u.1 3).toInt ≤ 120 → LX12_text_0_74 GX12_text_0_105 n z1 z2 z3 u = some (r, v') → ∃ w, GX12_text_0_105 z1 z2 w = some (r, v') ∧ w.1 = u.1 ∧ (∀ k, ¬ k = 2 → w.2.1 k = u.2.1 k) ∧ (∀ j : Nat, (j : Int) < (u.1 3).toInt → (z3.toInt ≤ (j : Int) ∨ u.2.1 2 (120 * z2.toNatClampNeg + j) = u.2.1 1 j) → w.2.1 2 (120 * z2.toNatClampNeg + j) = u.2.1 1 j) ∧ (∀ q : Nat, (∀ j : Nat, j < 120 → ¬ q = 120 * z2.toNatClampNeg + j) → w.2.1 2 q = u.2.1 2 q) := by
  intro n
  induction n with
  | zero => intro z1 z2 z3 r u v' _ _ _ _ _ h; cases h
  | succ n ih =>
    intro z1 z2 z3 r u v' hb h2 h30 h31 hl h
    have h : (if (u.1 3) ≤ z3 then (GX12_text_0_105 z1 z2 u) else (gd (inb z3 120) (gd (inb ((120 * z2) + z3) 4320) (lt (sA u 2 (upd (u.2.1 2) ((120 * z2) + z3).toNatClampNeg (vp_nar .byte (u.2.1 1 z3.toNatClampNeg)))) fun u15 => ((LX12_text_0_74 GX12_text_0_105 n) z1 z2 (z3 + 1) u15))))) = some (r, v') := h
    by_cases c : u.1 3 ≤ z3
    · rw [if_pos c] at h
      have c9 := leI c
      refine ⟨u, h, rfl, fun _ _ => rfl, fun j hj hq => ?_, fun _ _ => rfl⟩
      rcases hq with hq | hq
      · omega
      · exact hq
    · rw [if_neg c] at h
      have c9 := nleI c
      obtain ⟨-, h⟩ := gd_some h
      obtain ⟨-, h⟩ := gd_some h
      obtain ⟨u2, e2, h⟩ := lt_some h
      have e3 : (z3 + 1).toInt = z3.toInt + 1 := addc_t (by decide) (by omega) (by omega)
      have m120 : (120 * z2).toInt = 120 * z2.toInt := cmul_t (by decide) (by omega) (by omega)
      have ei : ((120 * z2) + z3).toNatClampNeg = 120 * z2.toNatClampNeg + z3.toNatClampNeg := by
        show ((120 * z2) + z3).toInt.toNat = 120 * z2.toInt.toNat + z3.toInt.toNat
        rw [add_t (by rw [m120]; omega) (by rw [m120]; omega), m120]
        omega
      rw [ei, nar_id (hb _).1 (hb _).2] at e2
      have f1 : u2.1 = u.1 := by rw [e2]; rfl
      have f2 : ∀ k, ¬ k = 2 → u2.2.1 k = u.2.1 k := fun k hk => by
        rw [e2]
        show (bif Nat.beq k 2 then _ else u.2.1 k) = _
        cases z : Nat.beq k 2 with
        | false => rfl
        | true => exact absurd (Nat.eq_of_beq_eq_true z) hk
      have k2 : u2.2.1 2 = upd (u.2.1 2) (120 * z2.toNatClampNeg + z3.toNatClampNeg) (u.2.1 1 z3.toNatClampNeg) := by rw [e2]; rfl
      have k1 : u2.2.1 1 = u.2.1 1 := f2 1 (by decide)
      obtain ⟨w, q1, q2, q3, q4, q5⟩ := ih z1 z2 (z3 + 1) r u2 v' (by rw [k1]; exact hb) h2 (by rw [e3]; omega) (by rw [e3]; omega) (by rw [f1]; exact hl) h
      refine ⟨w, q1, q2.trans f1, fun k hk => (q3 k hk).trans (f2 k hk), fun j hj hq => ?_, fun q hq => ?_⟩
      · have q := q4 j (by rw [f1]; exact hj)
        rw [k1, e3] at q
        refine q ?_
        rw [k2]
        by_cases cj : j = z3.toNatClampNeg
        · rw [cj, upd_at]
          exact Or.inr rfl
        · rw [upd_ne (by omega)]
          have cj : ¬ j = z3.toInt.toNat := cj
          rcases hq with hq | hq
          · exact Or.inl (by omega)
          · exact Or.inr hq
      · rw [q5 q hq, k2, upd_ne]
        have hz : z3.toNatClampNeg < 120 := by
          show z3.toInt.toNat < 120
          omega
        exact hq _ hz
/-- a text that was there is not touched by a new one at place P -/
theorem TVa_old {R i p P : Nat} {s : Int32} {u uA v v' : SX} (hJ : IM v) (hp : ¬ p = P) (eN : tN uA = tN u + 1) (eQ : tQ uA R i = tQ u R i) (eL : ∀ k, k < tN u → tL uA k = tL u k) (eC : ∀ k, k < tN u → tC uA k = tC u k) (m3 : ∀ q, ¬ q = P → v'.2.1 3 q = v.2.1 3 q) (m2 : ∀ q : Nat, (∀ j : Nat, j < 120 → ¬ q = 120 * P + j) → v'.2.1 2 q = v.2.1 2 q) (h : TVa R s p i u v) : TVa R s p i uA v' := by
  obtain ⟨k, h1, h2, h3⟩ := h
  refine ⟨k, by rw [eQ]; exact h1, by rw [eN]; omega, ?_⟩
  rw [m3 p hp, eL k h2, eC k h2]
  have hl : (v.2.1 3 p).toInt ≤ (120 : Int) := (hJ.2.1 3 p).2
  exact SEM_cg (fun j hj => m2 _ (fun j' hj' z => hp (by omega))) (fun _ _ => rfl) h3
set_option maxHeartbeats 1000000 in
theorem textV0 {u uA v v' : SX} {r r' : Int32} (hI : IX u) (hJ : IM v) (hT : TieT u v) (hC : TieC u v) (hV : TieV u v) (h1 : TextY 0 u r uA) (h2 : fX12_text_0 0 v = some (r', v')) : TieV uA v' ∧ (u.1 5).toInt ≤ (uA.1 5).toInt := by
  have b5 : 0 ≤ (u.1 5).toInt ∧ (u.1 5).toInt ≤ 12 := hI.1 5
  have b6 : 0 ≤ (u.1 6).toInt ∧ (u.1 6).toInt ≤ 6 := hI.1 6
  have b7 : 0 ≤ (u.1 7).toInt ∧ (u.1 7).toInt ≤ 6 := hI.1 7
  have l0 : (0 : Int) ≤ (u.1 1).toInt := (hI.1 1).1
  have l1 : (u.1 1).toInt ≤ (120 : Int) := (hI.1 1).2
  unfold fX12_text_0 at h2
  obtain ⟨v1, e1, h2⟩ := lt_some h2
  have hT1 : TieT u v1 := by rw [e1]; exact hT
  have hC1 : TieC u v1 := by rw [e1]; exact hC
  have hV1 : TieV u v1 := by rw [e1]; exact hV
  have hJ1 : IM v1 := by rw [e1]; exact (StM_sI (md := ([0], [], [], [])) (StM_rf hJ) (by decide) (by decide) (by decide)).1
  clear e1 hT hC hJ hV
  obtain ⟨r3, a3, h2⟩ := bd_some h2
  have e3 : r3 = 1 := by
    have : fX12_isIn 0 0 2 = some 1 := by decide +kernel
    exact Option.some.inj (a3.symm.trans this)
  rw [if_neg (by rw [e3]; decide)] at h2
  obtain ⟨-, h2⟩ := gd_some h2
  have h2 : GX12_text_0_31 0 12 (v1.2.1 4 0) v1 = some (r', v') := by
    rw [if_pos rfl] at h2
    exact h2
  unfold GX12_text_0_31 at h2
  have hc : v1.2.1 4 0 = u.1 5 := by
    obtain ⟨q0, q1, q2⟩ := hC1
    exact q0.symm
  rw [hc] at h2
  by_cases cf : u.1 5 < 12
  · have cf9 : (u.1 5).toInt < (12 : Int) := ltI cf
    rw [if_neg (fun z => by have z9 : (u.1 5).toInt = (12 : Int) := eqI z; omega)] at h2
    obtain ⟨⟨r7, v8⟩, a7, h2⟩ := bd_some h2
    obtain ⟨⟨rf, wf⟩, hf, hq⟩ := tfX5_faultBy_2_as0 u hI
    have hs : StX mdX5_faultBy_2_as0 u wf := hq.1
    have lv0 : (0 : Int) ≤ (v1.1 3).toInt := (hJ1.1 3).1
    have lv1 : (v1.1 3).toInt ≤ (120 : Int) := (hJ1.1 3).2
    have hm : StM mdX12_goThrough_0_a1 v1 v8 := (Tot_at (tfX12_goThrough_0_a1 0 (v1.1 3) 0 v1 hJ1 (by decide) ⟨lv0, lv1⟩ (by decide)) a7).1
    have ef : rf = v8.1 7 := fb0_eq l0 l1 hT1 hf a7
    have w5 : wf.1 5 = u.1 5 := hs.2.1 5 (by decide)
    have w6 : wf.1 6 = u.1 6 := hs.2.1 6 (by decide)
    have w7 : wf.1 7 = u.1 7 := hs.2.1 7 (by decide)
    have wX : wf.2.2.2.2 = u.2.2.2.2 := hs.2.2.2.2.2
    have y3 : v8.1 3 = v1.1 3 := hm.2.1 3 (by decide)
    have y1 : v8.2.1 1 = v1.2.1 1 := hm.2.2.1 1 (by decide)
    have y2 : v8.2.1 2 = v1.2.1 2 := hm.2.2.1 2 (by decide)
    have y3' : v8.2.1 3 = v1.2.1 3 := hm.2.2.1 3 (by decide)
    have y4 : v8.2.1 4 = v1.2.1 4 := hm.2.2.1 4 (by decide)
    have h2 : (if (v8.1 7) = (-1) then (gd (inb 0 3) (lt ((12 * 0) + (v8.2.1 4 0)) fun v11 => (LX12_text_0_74 GX12_text_0_105 5000 0 v11 0 v8))) else (some ((-1), v8))) = some (r', v') := h2
    rw [← ef] at h2
    by_cases cr : rf = -1
    · rw [if_pos cr] at h2
      obtain ⟨-, h2⟩ := gd_some h2
      obtain ⟨v11, e11, h2⟩ := lt_some h2
      have t11 : v11.toInt = (0 : Int) + (u.1 5).toInt := by
        rw [e11, y4, hc]
        exact cadd_t (by decide) (by omega) (by omega)
      have n11 : v11.toNatClampNeg = 12 * 0 + (u.1 5).toNatClampNeg := by
        show v11.toInt.toNat = 12 * 0 + (u.1 5).toInt.toNat
        omega
      obtain ⟨w, g105, gw, gr, gA, gB⟩ := text_cpV 5000 0 v11 0 r' v8 v' (by rw [y1]; exact fun i => ⟨(hJ1.2.1 1 i).1, (hJ1.2.1 1 i).2⟩) ⟨by omega, by omega⟩ (by decide) (by decide) (by rw [y3]; exact lv1) h2
      unfold GX12_text_0_105 at g105
      obtain ⟨-, g105⟩ := gd_some g105
      obtain ⟨x1, i1, g105⟩ := lt_some g105
      obtain ⟨x2, i2, g105⟩ := lt_some g105
      obtain ⟨-, g105⟩ := gd_some g105
      obtain ⟨-, g105⟩ := gd_some g105
      obtain ⟨x3, i3, g105⟩ := lt_some g105
      obtain ⟨-, g105⟩ := gd_some g105
      have e2 : x3 = v' := by cases g105; rfl
      have k2 : v'.2.1 2 = w.2.1 2 := by rw [← e2, i3, i2, i1]; rfl
      have k3 : v'.2.1 3 = upd (v1.2.1 3) v11.toNatClampNeg (v1.1 3) := by
        rw [← e2, i3, i2, i1]
        show upd (w.2.1 3) v11.toNatClampNeg (w.1 3) = _
        rw [gr 3 (by decide), y3', gw, y3]
      have made : ∃ (g : Nat → Int32), uA = sI (sT (uNew (sI wf 1 0) (wf.1 2).toNatClampNeg g) 15 (u.1 5).toNatClampNeg (tN wf)) 5 (u.1 5 + 1) ∧ CpG (wf.2.1 14) (wf.1 2).toNatClampNeg g := by
        have all : ∀ (kT : Nat → SX → Option (Int32 × SX)), fX11_textK kT 0 u = kT 3 (sI wf 1 0) := fun kT => by
          rw [textN0 cf hf, if_pos cr]
        rcases h1 with h | h | h | h
        · rw [all] at h
          cases h
        · obtain ⟨w9, g, h, er, eA, hg⟩ := h
          rw [all] at h
          have h : some ((7 : Int32), sI wf 1 0) = some (7, w9) := h
          have ew : sI wf 1 0 = w9 := by cases h; rfl
          rw [← ew] at eA hg
          have ef2 : (sI wf 1 0).1 5 = u.1 5 := w5
          rw [ef2] at eA
          exact ⟨g, eA, hg⟩
        · obtain ⟨w9, g, h, er, eA, hg⟩ := h
          rw [all] at h
          have h : (none : Option (Int32 × SX)) = some (7, w9) := h
          cases h
        · obtain ⟨w9, g, h, er, eA, hg⟩ := h
          rw [all] at h
          have h : (none : Option (Int32 × SX)) = some (7, w9) := h
          cases h
      obtain ⟨g, eA, hg⟩ := made
      have c5 : uA.1 5 = u.1 5 + 1 := by rw [eA]; rfl
      have c6 : uA.1 6 = u.1 6 := by rw [eA]; exact w6
      have c7 : uA.1 7 = u.1 7 := by rw [eA]; exact w7
      have eN : tN uA = tN u + 1 := by
        rw [eA]
        show wf.2.2.2.2.1 + 1 = u.2.2.2.2.1 + 1
        rw [wX]
      have eQ : ∀ (c j : Nat), tQ uA c j = (bif Nat.beq c 15 then (if j = (u.1 5).toNatClampNeg then some (tN u) else tQ u c j) else tQ u c j) := fun c j => by
        rw [eA]
        show (bif Nat.beq c 15 then (if j = (u.1 5).toNatClampNeg then some wf.2.2.2.2.1 else wf.2.2.2.2.2.1 c j) else wf.2.2.2.2.2.1 c j) = _
        rw [wX]
      have eL : ∀ k, tL uA k = (if k = tN u then (wf.1 2).toNatClampNeg else tL u k) := fun k => by
        rw [eA]
        show (if k = wf.2.2.2.2.1 then (wf.1 2).toNatClampNeg else wf.2.2.2.2.2.2.1 k) = _
        rw [wX]
      have eC : ∀ k, tC uA k = (if k = tN u then g else tC u k) := fun k => by
        rw [eA]
        show (if k = wf.2.2.2.2.1 then g else wf.2.2.2.2.2.2.2 k) = _
        rw [wX]
      have eL' : ∀ k, k < tN u → tL uA k = tL u k := fun k hk => by
        rw [eL k, if_neg (by omega)]
      have eC' : ∀ k, k < tN u → tC uA k = tC u k := fun k hk => by
        rw [eC k, if_neg (by omega)]
      have m3 : ∀ q, ¬ q = 12 * 0 + (u.1 5).toNatClampNeg → v'.2.1 3 q = v1.2.1 3 q := fun q hq => by
        rw [k3, n11, upd_ne hq]
      have m2 : ∀ q : Nat, (∀ j : Nat, j < 120 → ¬ q = 120 * (12 * 0 + (u.1 5).toNatClampNeg) + j) → v'.2.1 2 q = v1.2.1 2 q := fun q hq => by
        rw [k2, gB q (by rw [n11]; exact hq), y2]
      -- the new text
      have new : TVa 15 0 (12 * 0 + (u.1 5).toNatClampNeg) (u.1 5).toNatClampNeg uA v' := by
        refine ⟨tN u, ?_, by rw [eN]; omega, ?_⟩
        · rw [eQ]
          show (if (u.1 5).toNatClampNeg = (u.1 5).toNatClampNeg then some (tN u) else _) = _
          rw [if_pos rfl]
        · have hsem := sem0 (u' := wf) (f2 := v1.2.1 1) hI (fun i hi => hT1.2 i hi) (by rw [hf, cr])
          rw [k3, n11, upd_at, eL, if_pos rfl, eC, if_pos rfl, ← hT1.1]
          refine SEM_cg (fun j hj => ?_) (fun i hi => (hg i).1 hi) hsem
          show v'.2.1 2 (120 * (12 * 0 + (u.1 5).toNatClampNeg) + j) = v1.2.1 1 j
          have q := gA j (by rw [y3, ← hT1.1]; exact hj) (Or.inl (by show (0 : Int) ≤ _; omega))
          rw [n11, y1] at q
          rw [k2]
          exact q
      obtain ⟨t5, t6, t7⟩ := hV1
      have k5 : (u.1 5).toNatClampNeg = (u.1 5).toInt.toNat := rfl
      have k6 : (u.1 6).toNatClampNeg = (u.1 6).toInt.toNat := rfl
      have k7 : (u.1 7).toNatClampNeg = (u.1 7).toInt.toNat := rfl
      have e1 : (u.1 5 + 1).toInt = (u.1 5).toInt + 1 := addc_t (by decide) (by omega) (by omega)
      refine ⟨⟨fun i hi => ?_, fun i hi => ?_, fun i hi => ?_⟩, ?_⟩
      · rw [c5, e1] at hi
        by_cases ci : i = (u.1 5).toNatClampNeg
        · rw [ci]
          exact new
        · refine TVa_old hJ1 (by omega) eN ?_ eL' eC' m3 m2 (t5 i (by omega))
          rw [eQ]
          show (if i = (u.1 5).toNatClampNeg then _ else tQ u 15 i) = _
          rw [if_neg ci]
      · rw [c6] at hi
        exact TVa_old hJ1 (by omega) eN (eQ 18 i) eL' eC' m3 m2 (t6 i hi)
      · rw [c7] at hi
        exact TVa_old hJ1 (by omega) eN (eQ 21 i) eL' eC' m3 m2 (t7 i hi)
      · rw [c5, e1]
        omega
    · rw [if_neg cr] at h2
      have e2 : v8 = v' := by cases h2; rfl
      have refd : uA = wf := by
        have all : ∀ (kT : Nat → SX → Option (Int32 × SX)), fX11_textK kT 0 u = some (-1, wf) := fun kT => by
          rw [textN0 cf hf, if_neg cr]
        rcases h1 with h | ⟨w, g, h, -⟩ | ⟨w, g, h, -⟩ | ⟨w, g, h, -⟩
        · rw [all] at h
          cases h
          rfl
        all_goals (rw [all] at h; exact absurd (show (-1 : Int32) = 7 from congrArg Prod.fst (Option.some.inj h)) (by decide))
      rw [refd, ← e2]
      exact ⟨TieV_fr w5 w6 w7 wX y2 y3' hV1, by rw [w5]; exact Int.le_refl _⟩
  · have cf9 : ¬ (u.1 5).toInt < (12 : Int) := nltI cf
    have en : u.1 5 = 12 := Int32.toInt.inj ((show (u.1 5).toInt = (12 : Int) by omega).trans (by decide))
    rw [if_pos en] at h2
    have e2 : v1 = v' := by cases h2; rfl
    have refd : uA = u := by
      rcases h1 with h | ⟨w, g, h, -⟩ | ⟨w, g, h, -⟩ | ⟨w, g, h, -⟩
      · rw [textF0 cf] at h
        cases h
        rfl
      all_goals (rw [textF0 cf] at h; exact absurd (show (-1 : Int32) = 7 from congrArg Prod.fst (Option.some.inj h)) (by decide))
    rw [refd, ← e2]
    exact ⟨hV1, Int.le_refl _⟩
set_option maxHeartbeats 1000000 in
theorem textV1 {u uA v v' : SX} {r r' : Int32} (hI : IX u) (hJ : IM v) (hT : TieT u v) (hC : TieC u v) (hV : TieV u v) (h1 : TextY 1 u r uA) (h2 : fX12_text_0 1 v = some (r', v')) : TieV uA v' ∧ (u.1 5).toInt ≤ (uA.1 5).toInt := by
  have b5 : 0 ≤ (u.1 5).toInt ∧ (u.1 5).toInt ≤ 12 := hI.1 5
  have b6 : 0 ≤ (u.1 6).toInt ∧ (u.1 6).toInt ≤ 6 := hI.1 6
  have b7 : 0 ≤ (u.1 7).toInt ∧ (u.1 7).toInt ≤ 6 := hI.1 7
  have l0 : (0 : Int) ≤ (u.1 1).toInt := (hI.1 1).1
  have l1 : (u.1 1).toInt ≤ (120 : Int) := (hI.1 1).2
  unfold fX12_text_0 at h2
  obtain ⟨v1, e1, h2⟩ := lt_some h2
  have hT1 : TieT u v1 := by rw [e1]; exact hT
  have hC1 : TieC u v1 := by rw [e1]; exact hC
  have hV1 : TieV u v1 := by rw [e1]; exact hV
  have hJ1 : IM v1 := by rw [e1]; exact (StM_sI (md := ([0], [], [], [])) (StM_rf hJ) (by decide) (by decide) (by decide)).1
  clear e1 hT hC hJ hV
  obtain ⟨r3, a3, h2⟩ := bd_some h2
  have e3 : r3 = 1 := by
    have : fX12_isIn 1 0 2 = some 1 := by decide +kernel
    exact Option.some.inj (a3.symm.trans this)
  rw [if_neg (by rw [e3]; decide)] at h2
  obtain ⟨-, h2⟩ := gd_some h2
  have h2 : GX12_text_0_31 1 6 (v1.2.1 4 1) v1 = some (r', v') := by
    rw [if_neg (by decide)] at h2
    exact h2
  unfold GX12_text_0_31 at h2
  have hc : v1.2.1 4 1 = u.1 6 := by
    obtain ⟨q0, q1, q2⟩ := hC1
    exact q1.symm
  rw [hc] at h2
  by_cases cf : u.1 6 < 6
  · have cf9 : (u.1 6).toInt < (6 : Int) := ltI cf
    rw [if_neg (fun z => by have z9 : (u.1 6).toInt = (6 : Int) := eqI z; omega)] at h2
    obtain ⟨⟨r7, v8⟩, a7, h2⟩ := bd_some h2
    obtain ⟨⟨rf, wf⟩, hf, hq⟩ := tfX5_faultBy_2_as1 u hI
    have hs : StX mdX5_faultBy_2_as1 u wf := hq.1
    have lv0 : (0 : Int) ≤ (v1.1 3).toInt := (hJ1.1 3).1
    have lv1 : (v1.1 3).toInt ≤ (120 : Int) := (hJ1.1 3).2
    have hm : StM mdX12_goThrough_0_a1 v1 v8 := (Tot_at (tfX12_goThrough_0_a1 0 (v1.1 3) 1 v1 hJ1 (by decide) ⟨lv0, lv1⟩ (by decide)) a7).1
    have ef : rf = v8.1 7 := fb1_eq l0 l1 hT1 hf a7
    have w5 : wf.1 5 = u.1 5 := hs.2.1 5 (by decide)
    have w6 : wf.1 6 = u.1 6 := hs.2.1 6 (by decide)
    have w7 : wf.1 7 = u.1 7 := hs.2.1 7 (by decide)
    have wX : wf.2.2.2.2 = u.2.2.2.2 := hs.2.2.2.2.2
    have y3 : v8.1 3 = v1.1 3 := hm.2.1 3 (by decide)
    have y1 : v8.2.1 1 = v1.2.1 1 := hm.2.2.1 1 (by decide)
    have y2 : v8.2.1 2 = v1.2.1 2 := hm.2.2.1 2 (by decide)
    have y3' : v8.2.1 3 = v1.2.1 3 := hm.2.2.1 3 (by decide)
    have y4 : v8.2.1 4 = v1.2.1 4 := hm.2.2.1 4 (by decide)
    have h2 : (if (v8.1 7) = (-1) then (gd (inb 1 3) (lt ((12 * 1) + (v8.2.1 4 1)) fun v11 => (LX12_text_0_74 GX12_text_0_105 5000 1 v11 0 v8))) else (some ((-1), v8))) = some (r', v') := h2
    rw [← ef] at h2
    by_cases cr : rf = -1
    · rw [if_pos cr] at h2
      obtain ⟨-, h2⟩ := gd_some h2
      obtain ⟨v11, e11, h2⟩ := lt_some h2
      have t11 : v11.toInt = (12 : Int) + (u.1 6).toInt := by
        rw [e11, y4, hc]
        exact cadd_t (by decide) (by omega) (by omega)
      have n11 : v11.toNatClampNeg = 12 * 1 + (u.1 6).toNatClampNeg := by
        show v11.toInt.toNat = 12 * 1 + (u.1 6).toInt.toNat
        omega
      obtain ⟨w, g105, gw, gr, gA, gB⟩ := text_cpV 5000 1 v11 0 r' v8 v' (by rw [y1]; exact fun i => ⟨(hJ1.2.1 1 i).1, (hJ1.2.1 1 i).2⟩) ⟨by omega, by omega⟩ (by decide) (by decide) (by rw [y3]; exact lv1) h2
      unfold GX12_text_0_105 at g105
      obtain ⟨-, g105⟩ := gd_some g105
      obtain ⟨x1, i1, g105⟩ := lt_some g105
      obtain ⟨x2, i2, g105⟩ := lt_some g105
      obtain ⟨-, g105⟩ := gd_some g105
      obtain ⟨-, g105⟩ := gd_some g105
      obtain ⟨x3, i3, g105⟩ := lt_some g105
      obtain ⟨-, g105⟩ := gd_some g105
      have e2 : x3 = v' := by cases g105; rfl
      have k2 : v'.2.1 2 = w.2.1 2 := by rw [← e2, i3, i2, i1]; rfl
      have k3 : v'.2.1 3 = upd (v1.2.1 3) v11.toNatClampNeg (v1.1 3) := by
        rw [← e2, i3, i2, i1]
        show upd (w.2.1 3) v11.toNatClampNeg (w.1 3) = _
        rw [gr 3 (by decide), y3', gw, y3]
      have made : ∃ (g : Nat → Int32), uA = sI (sT (uNew (sI wf 1 0) (wf.1 2).toNatClampNeg g) 18 (u.1 6).toNatClampNeg (tN wf)) 6 (u.1 6 + 1) ∧ CpG (wf.2.1 14) (wf.1 2).toNatClampNeg g := by
        have all : ∀ (kT : Nat → SX → Option (Int32 × SX)), fX11_textK kT 1 u = kT 4 (sI wf 1 0) := fun kT => by
          rw [textN1 cf hf, if_pos cr]
        rcases h1 with h | h | h | h
        · rw [all] at h
          cases h
        · obtain ⟨w9, g, h, er, eA, hg⟩ := h
          rw [all] at h
          have h : (none : Option (Int32 × SX)) = some (7, w9) := h
          cases h
        · obtain ⟨w9, g, h, er, eA, hg⟩ := h
          rw [all] at h
          have h : some ((7 : Int32), sI wf 1 0) = some (7, w9) := h
          have ew : sI wf 1 0 = w9 := by cases h; rfl
          rw [← ew] at eA hg
          have ef2 : (sI wf 1 0).1 6 = u.1 6 := w6
          rw [ef2] at eA
          exact ⟨g, eA, hg⟩
        · obtain ⟨w9, g, h, er, eA, hg⟩ := h
          rw [all] at h
          have h : (none : Option (Int32 × SX)) = some (7, w9) := h
          cases h
      obtain ⟨g, eA, hg⟩ := made
      have c5 : uA.1 5 = u.1 5 := by rw [eA]; exact w5
      have c6 : uA.1 6 = u.1 6 + 1 := by rw [eA]; rfl
      have c7 : uA.1 7 = u.1 7 := by rw [eA]; exact w7
      have eN : tN uA = tN u + 1 := by
        rw [eA]
        show wf.2.2.2.2.1 + 1 = u.2.2.2.2.1 + 1
        rw [wX]
      have eQ : ∀ (c j : Nat), tQ uA c j = (bif Nat.beq c 18 then (if j = (u.1 6).toNatClampNeg then some (tN u) else tQ u c j) else tQ u c j) := fun c j => by
        rw [eA]
        show (bif Nat.beq c 18 then (if j = (u.1 6).toNatClampNeg then some wf.2.2.2.2.1 else wf.2.2.2.2.2.1 c j) else wf.2.2.2.2.2.1 c j) = _
        rw [wX]
      have eL : ∀ k, tL uA k = (if k = tN u then (wf.1 2).toNatClampNeg else tL u k) := fun k => by
        rw [eA]
        show (if k = wf.2.2.2.2.1 then (wf.1 2).toNatClampNeg else wf.2.2.2.2.2.2.1 k) = _
        rw [wX]
      have eC : ∀ k, tC uA k = (if k = tN u then g else tC u k) := fun k => by
        rw [eA]
        show (if k = wf.2.2.2.2.1 then g else wf.2.2.2.2.2.2.2 k) = _
        rw [wX]
      have eL' : ∀ k, k < tN u → tL uA k = tL u k := fun k hk => by
        rw [eL k, if_neg (by omega)]
      have eC' : ∀ k, k < tN u → tC uA k = tC u k := fun k hk => by
        rw [eC k, if_neg (by omega)]
      have m3 : ∀ q, ¬ q = 12 * 1 + (u.1 6).toNatClampNeg → v'.2.1 3 q = v1.2.1 3 q := fun q hq => by
        rw [k3, n11, upd_ne hq]
      have m2 : ∀ q : Nat, (∀ j : Nat, j < 120 → ¬ q = 120 * (12 * 1 + (u.1 6).toNatClampNeg) + j) → v'.2.1 2 q = v1.2.1 2 q := fun q hq => by
        rw [k2, gB q (by rw [n11]; exact hq), y2]
      -- the new text
      have new : TVa 18 1 (12 * 1 + (u.1 6).toNatClampNeg) (u.1 6).toNatClampNeg uA v' := by
        refine ⟨tN u, ?_, by rw [eN]; omega, ?_⟩
        · rw [eQ]
          show (if (u.1 6).toNatClampNeg = (u.1 6).toNatClampNeg then some (tN u) else _) = _
          rw [if_pos rfl]
        · have hsem := sem1 (u' := wf) (f2 := v1.2.1 1) hI (fun i hi => hT1.2 i hi) (by rw [hf, cr])
          rw [k3, n11, upd_at, eL, if_pos rfl, eC, if_pos rfl, ← hT1.1]
          refine SEM_cg (fun j hj => ?_) (fun i hi => (hg i).1 hi) hsem
          show v'.2.1 2 (120 * (12 * 1 + (u.1 6).toNatClampNeg) + j) = v1.2.1 1 j
          have q := gA j (by rw [y3, ← hT1.1]; exact hj) (Or.inl (by show (0 : Int) ≤ _; omega))
          rw [n11, y1] at q
          rw [k2]
          exact q
      obtain ⟨t5, t6, t7⟩ := hV1
      have k5 : (u.1 5).toNatClampNeg = (u.1 5).toInt.toNat := rfl
      have k6 : (u.1 6).toNatClampNeg = (u.1 6).toInt.toNat := rfl
      have k7 : (u.1 7).toNatClampNeg = (u.1 7).toInt.toNat := rfl
      have e1 : (u.1 6 + 1).toInt = (u.1 6).toInt + 1 := addc_t (by decide) (by omega) (by omega)
      refine ⟨⟨fun i hi => ?_, fun i hi => ?_, fun i hi => ?_⟩, ?_⟩
      · rw [c5] at hi
        exact TVa_old hJ1 (by omega) eN (eQ 15 i) eL' eC' m3 m2 (t5 i hi)
      · rw [c6, e1] at hi
        by_cases ci : i = (u.1 6).toNatClampNeg
        · rw [ci]
          exact new
        · refine TVa_old hJ1 (by omega) eN ?_ eL' eC' m3 m2 (t6 i (by omega))
          rw [eQ]
          show (if i = (u.1 6).toNatClampNeg then _ else tQ u 18 i) = _
          rw [if_neg ci]
      · rw [c7] at hi
        exact TVa_old hJ1 (by omega) eN (eQ 21 i) eL' eC' m3 m2 (t7 i hi)
      · rw [c5]
        exact Int.le_refl _
    · rw [if_neg cr] at h2
      have e2 : v8 = v' := by cases h2; rfl
      have refd : uA = wf := by
        have all : ∀ (kT : Nat → SX → Option (Int32 × SX)), fX11_textK kT 1 u = some (-1, wf) := fun kT => by
          rw [textN1 cf hf, if_neg cr]
        rcases h1 with h | ⟨w, g, h, -⟩ | ⟨w, g, h, -⟩ | ⟨w, g, h, -⟩
        · rw [all] at h
          cases h
          rfl
        all_goals (rw [all] at h; exact absurd (show (-1 : Int32) = 7 from congrArg Prod.fst (Option.some.inj h)) (by decide))
      rw [refd, ← e2]
      exact ⟨TieV_fr w5 w6 w7 wX y2 y3' hV1, by rw [w5]; exact Int.le_refl _⟩
  · have cf9 : ¬ (u.1 6).toInt < (6 : Int) := nltI cf
    have en : u.1 6 = 6 := Int32.toInt.inj ((show (u.1 6).toInt = (6 : Int) by omega).trans (by decide))
    rw [if_pos en] at h2
    have e2 : v1 = v' := by cases h2; rfl
    have refd : uA = u := by
      rcases h1 with h | ⟨w, g, h, -⟩ | ⟨w, g, h, -⟩ | ⟨w, g, h, -⟩
      · rw [textF1 cf] at h
        cases h
        rfl
      all_goals (rw [textF1 cf] at h; exact absurd (show (-1 : Int32) = 7 from congrArg Prod.fst (Option.some.inj h)) (by decide))
    rw [refd, ← e2]
    exact ⟨hV1, Int.le_refl _⟩
set_option maxHeartbeats 1000000 in
theorem textV2 {u uA v v' : SX} {r r' : Int32} (hI : IX u) (hJ : IM v) (hT : TieT u v) (hC : TieC u v) (hV : TieV u v) (h1 : TextY 2 u r uA) (h2 : fX12_text_0 2 v = some (r', v')) : TieV uA v' ∧ (u.1 5).toInt ≤ (uA.1 5).toInt := by
  have b5 : 0 ≤ (u.1 5).toInt ∧ (u.1 5).toInt ≤ 12 := hI.1 5
  have b6 : 0 ≤ (u.1 6).toInt ∧ (u.1 6).toInt ≤ 6 := hI.1 6
  have b7 : 0 ≤ (u.1 7).toInt ∧ (u.1 7).toInt ≤ 6 := hI.1 7
  have l0 : (0 : Int) ≤ (u.1 1).toInt := (hI.1 1).1
  have l1 : (u.1 1).toInt ≤ (120 : Int) := (hI.1 1).2
  unfold fX12_text_0 at h2
  obtain ⟨v1, e1, h2⟩ := lt_some h2
  have hT1 : TieT u v1 := by rw [e1]; exact hT
  have hC1 : TieC u v1 := by rw [e1]; exact hC
  have hV1 : TieV u v1 := by rw [e1]; exact hV
  have hJ1 : IM v1 := by rw [e1]; exact (StM_sI (md := ([0], [], [], [])) (StM_rf hJ) (by decide) (by decide) (by decide)).1
  clear e1 hT hC hJ hV
  obtain ⟨r3, a3, h2⟩ := bd_some h2
  have e3 : r3 = 1 := by
    have : fX12_isIn 2 0 2 = some 1 := by decide +kernel
    exact Option.some.inj (a3.symm.trans this)
  rw [if_neg (by rw [e3]; decide)] at h2
  obtain ⟨-, h2⟩ := gd_some h2
  have h2 : GX12_text_0_31 2 6 (v1.2.1 4 2) v1 = some (r', v') := by
    rw [if_neg (by decide)] at h2
    exact h2
  unfold GX12_text_0_31 at h2
  have hc : v1.2.1 4 2 = u.1 7 := by
    obtain ⟨q0, q1, q2⟩ := hC1
    exact q2.symm
  rw [hc] at h2
  by_cases cf : u.1 7 < 6
  · have cf9 : (u.1 7).toInt < (6 : Int) := ltI cf
    rw [if_neg (fun z => by have z9 : (u.1 7).toInt = (6 : Int) := eqI z; omega)] at h2
    obtain ⟨⟨r7, v8⟩, a7, h2⟩ := bd_some h2
    obtain ⟨⟨rf, wf⟩, hf, hq⟩ := tfX5_faultBy_2_as2 u hI
    have hs : StX mdX5_faultBy_2_as2 u wf := hq.1
    have lv0 : (0 : Int) ≤ (v1.1 3).toInt := (hJ1.1 3).1
    have lv1 : (v1.1 3).toInt ≤ (120 : Int) := (hJ1.1 3).2
    have hm : StM mdX12_goThrough_0_a1 v1 v8 := (Tot_at (tfX12_goThrough_0_a1 0 (v1.1 3) 2 v1 hJ1 (by decide) ⟨lv0, lv1⟩ (by decide)) a7).1
    have ef : rf = v8.1 7 := fb2_eq l0 l1 hT1 hf a7
    have w5 : wf.1 5 = u.1 5 := hs.2.1 5 (by decide)
    have w6 : wf.1 6 = u.1 6 := hs.2.1 6 (by decide)
    have w7 : wf.1 7 = u.1 7 := hs.2.1 7 (by decide)
    have wX : wf.2.2.2.2 = u.2.2.2.2 := hs.2.2.2.2.2
    have y3 : v8.1 3 = v1.1 3 := hm.2.1 3 (by decide)
    have y1 : v8.2.1 1 = v1.2.1 1 := hm.2.2.1 1 (by decide)
    have y2 : v8.2.1 2 = v1.2.1 2 := hm.2.2.1 2 (by decide)
    have y3' : v8.2.1 3 = v1.2.1 3 := hm.2.2.1 3 (by decide)
    have y4 : v8.2.1 4 = v1.2.1 4 := hm.2.2.1 4 (by decide)
    have h2 : (if (v8.1 7) = (-1) then (gd (inb 2 3) (lt ((12 * 2) + (v8.2.1 4 2)) fun v11 => (LX12_text_0_74 GX12_text_0_105 5000 2 v11 0 v8))) else (some ((-1), v8))) = some (r', v') := h2
    rw [← ef] at h2
    by_cases cr : rf = -1
    · rw [if_pos cr] at h2
      obtain ⟨-, h2⟩ := gd_some h2
      obtain ⟨v11, e11, h2⟩ := lt_some h2
      have t11 : v11.toInt = (24 : Int) + (u.1 7).toInt := by
        rw [e11, y4, hc]
        exact cadd_t (by decide) (by omega) (by omega)
      have n11 : v11.toNatClampNeg = 12 * 2 + (u.1 7).toNatClampNeg := by
        show v11.toInt.toNat = 12 * 2 + (u.1 7).toInt.toNat
        omega
      obtain ⟨w, g105, gw, gr, gA, gB⟩ := text_cpV 5000 2 v11 0 r' v8 v' (by rw [y1]; exact fun i => ⟨(hJ1.2.1 1 i).1, (hJ1.2.1 1 i).2⟩) ⟨by omega, by omega⟩ (by decide) (by decide) (by rw [y3]; exact lv1) h2
      unfold GX12_text_0_105 at g105
      obtain ⟨-, g105⟩ := gd_some g105
      obtain ⟨x1, i1, g105⟩ := lt_some g105
      obtain ⟨x2, i2, g105⟩ := lt_some g105
      obtain ⟨-, g105⟩ := gd_some g105
      obtain ⟨-, g105⟩ := gd_some g105
      obtain ⟨x3, i3, g105⟩ := lt_some g105
      obtain ⟨-, g105⟩ := gd_some g105
      have e2 : x3 = v' := by cases g105; rfl
      have k2 : v'.2.1 2 = w.2.1 2 := by rw [← e2, i3, i2, i1]; rfl
      have k3 : v'.2.1 3 = upd (v1.2.1 3) v11.toNatClampNeg (v1.1 3) := by
        rw [← e2, i3, i2, i1]
        show upd (w.2.1 3) v11.toNatClampNeg (w.1 3) = _
        rw [gr 3 (by decide), y3', gw, y3]
      have made : ∃ (g : Nat → Int32), uA = sI (sT (uNew (sI wf 1 0) (wf.1 2).toNatClampNeg g) 21 (u.1 7).toNatClampNeg (tN wf)) 7 (u.1 7 + 1) ∧ CpG (wf.2.1 14) (wf.1 2).toNatClampNeg g := by
        have all : ∀ (kT : Nat → SX → Option (Int32 × SX)), fX11_textK kT 2 u = kT 5 (sI wf 1 0) := fun kT => by
          rw [textN2 cf hf, if_pos cr]
        rcases h1 with h | h | h | h
        · rw [all] at h
          cases h
        · obtain ⟨w9, g, h, er, eA, hg⟩ := h
          rw [all] at h
          have h : (none : Option (Int32 × SX)) = some (7, w9) := h
          cases h
        · obtain ⟨w9, g, h, er, eA, hg⟩ := h
          rw [all] at h
          have h : (none : Option (Int32 × SX)) = some (7, w9) := h
          cases h
        · obtain ⟨w9, g, h, er, eA, hg⟩ := h
          rw [all] at h
          have h : some ((7 : Int32), sI wf 1 0) = some (7, w9) := h
          have ew : sI wf 1 0 = w9 := by cases h; rfl
          rw [← ew] at eA hg
          have ef2 : (sI wf 1 0).1 7 = u.1 7 := w7
          rw [ef2] at eA
          exact ⟨g, eA, hg⟩
      obtain ⟨g, eA, hg⟩ := made
      have c5 : uA.1 5 = u.1 5 := by rw [eA]; exact w5
      have c6 : uA.1 6 = u.1 6 := by rw [eA]; exact w6
      have c7 : uA.1 7 = u.1 7 + 1 := by rw [eA]; rfl
      have eN : tN uA = tN u + 1 := by
        rw [eA]
        show wf.2.2.2.2.1 + 1 = u.2.2.2.2.1 + 1
        rw [wX]
      have eQ : ∀ (c j : Nat), tQ uA c j = (bif Nat.beq c 21 then (if j = (u.1 7).toNatClampNeg then some (tN u) else tQ u c j) else tQ u c j) := fun c j => by
        rw [eA]
        show (bif Nat.beq c 21 then (if j = (u.1 7).toNatClampNeg then some wf.2.2.2.2.1 else wf.2.2.2.2.2.1 c j) else wf.2.2.2.2.2.1 c j) = _
        rw [wX]
      have eL : ∀ k, tL uA k = (if k = tN u then (wf.1 2).toNatClampNeg else tL u k) := fun k => by
        rw [eA]
        show (if k = wf.2.2.2.2.1 then (wf.1 2).toNatClampNeg else wf.2.2.2.2.2.2.1 k) = _
        rw [wX]
      have eC : ∀ k, tC uA k = (if k = tN u then g else tC u k) := fun k => by
        rw [eA]
        show (if k = wf.2.2.2.2.1 then g else wf.2.2.2.2.2.2.2 k) = _
        rw [wX]
      have eL' : ∀ k, k < tN u → tL uA k = tL u k := fun k hk => by
        rw [eL k, if_neg (by omega)]
      have eC' : ∀ k, k < tN u → tC uA k = tC u k := fun k hk => by
        rw [eC k, if_neg (by omega)]
      have m3 : ∀ q, ¬ q = 12 * 2 + (u.1 7).toNatClampNeg → v'.2.1 3 q = v1.2.1 3 q := fun q hq => by
        rw [k3, n11, upd_ne hq]
      have m2 : ∀ q : Nat, (∀ j : Nat, j < 120 → ¬ q = 120 * (12 * 2 + (u.1 7).toNatClampNeg) + j) → v'.2.1 2 q = v1.2.1 2 q := fun q hq => by
        rw [k2, gB q (by rw [n11]; exact hq), y2]
      -- the new text
      have new : TVa 21 2 (12 * 2 + (u.1 7).toNatClampNeg) (u.1 7).toNatClampNeg uA v' := by
        refine ⟨tN u, ?_, by rw [eN]; omega, ?_⟩
        · rw [eQ]
          show (if (u.1 7).toNatClampNeg = (u.1 7).toNatClampNeg then some (tN u) else _) = _
          rw [if_pos rfl]
        · have hsem := sem2 (u' := wf) (f2 := v1.2.1 1) hI (fun i hi => hT1.2 i hi) (by rw [hf, cr])
          rw [k3, n11, upd_at, eL, if_pos rfl, eC, if_pos rfl, ← hT1.1]
          refine SEM_cg (fun j hj => ?_) (fun i hi => (hg i).1 hi) hsem
          show v'.2.1 2 (120 * (12 * 2 + (u.1 7).toNatClampNeg) + j) = v1.2.1 1 j
          have q := gA j (by rw [y3, ← hT1.1]; exact hj) (Or.inl (by show (0 : Int) ≤ _; omega))
          rw [n11, y1] at q
          rw [k2]
          exact q
      obtain ⟨t5, t6, t7⟩ := hV1
      have k5 : (u.1 5).toNatClampNeg = (u.1 5).toInt.toNat := rfl
      have k6 : (u.1 6).toNatClampNeg = (u.1 6).toInt.toNat := rfl
      have k7 : (u.1 7).toNatClampNeg = (u.1 7).toInt.toNat := rfl
      have e1 : (u.1 7 + 1).toInt = (u.1 7).toInt + 1 := addc_t (by decide) (by omega) (by omega)
      refine ⟨⟨fun i hi => ?_, fun i hi => ?_, fun i hi => ?_⟩, ?_⟩
      · rw [c5] at hi
        exact TVa_old hJ1 (by omega) eN (eQ 15 i) eL' eC' m3 m2 (t5 i hi)
      · rw [c6] at hi
        exact TVa_old hJ1 (by omega) eN (eQ 18 i) eL' eC' m3 m2 (t6 i hi)
      · rw [c7, e1] at hi
        by_cases ci : i = (u.1 7).toNatClampNeg
        · rw [ci]
          exact new
        · refine TVa_old hJ1 (by omega) eN ?_ eL' eC' m3 m2 (t7 i (by omega))
          rw [eQ]
          show (if i = (u.1 7).toNatClampNeg then _ else tQ u 21 i) = _
          rw [if_neg ci]
      · rw [c5]
        exact Int.le_refl _
    · rw [if_neg cr] at h2
      have e2 : v8 = v' := by cases h2; rfl
      have refd : uA = wf := by
        have all : ∀ (kT : Nat → SX → Option (Int32 × SX)), fX11_textK kT 2 u = some (-1, wf) := fun kT => by
          rw [textN2 cf hf, if_neg cr]
        rcases h1 with h | ⟨w, g, h, -⟩ | ⟨w, g, h, -⟩ | ⟨w, g, h, -⟩
        · rw [all] at h
          cases h
          rfl
        all_goals (rw [all] at h; exact absurd (show (-1 : Int32) = 7 from congrArg Prod.fst (Option.some.inj h)) (by decide))
      rw [refd, ← e2]
      exact ⟨TieV_fr w5 w6 w7 wX y2 y3' hV1, by rw [w5]; exact Int.le_refl _⟩
  · have cf9 : ¬ (u.1 7).toInt < (6 : Int) := nltI cf
    have en : u.1 7 = 6 := Int32.toInt.inj ((show (u.1 7).toInt = (6 : Int) by omega).trans (by decide))
    rw [if_pos en] at h2
    have e2 : v1 = v' := by cases h2; rfl
    have refd : uA = u := by
      rcases h1 with h | ⟨w, g, h, -⟩ | ⟨w, g, h, -⟩ | ⟨w, g, h, -⟩
      · rw [textF2 cf] at h
        cases h
        rfl
      all_goals (rw [textF2 cf] at h; exact absurd (show (-1 : Int32) = 7 from congrArg Prod.fst (Option.some.inj h)) (by decide))
    rw [refd, ← e2]
    exact ⟨hV1, Int.le_refl _⟩
theorem textV {x1 r r' : Int32} {u uA v v' : SX} (hI : IX u) (hJ : IM v) (hT : TieT u v) (hC : TieC u v) (hV : TieV u v) (h1 : TextY x1 u r uA) (h2 : fX12_text_0 x1 v = some (r', v')) : TieV uA v' ∧ (u.1 5).toInt ≤ (uA.1 5).toInt := by
  by_cases c0 : x1 = 0
  · rw [c0] at h1 h2
    exact textV0 hI hJ hT hC hV h1 h2
  · by_cases c1 : x1 = 1
    · rw [c1] at h1 h2
      exact textV1 hI hJ hT hC hV h1 h2
    · by_cases c2 : x1 = 2
      · rw [c2] at h1 h2
        exact textV2 hI hJ hT hC hV h1 h2
      · have eA : uA = u := by
          rcases h1 with h | ⟨w, g, h, -⟩ | ⟨w, g, h, -⟩ | ⟨w, g, h, -⟩
          · rw [text_no c0 c1 c2] at h
            cases h
            rfl
          all_goals (rw [text_no c0 c1 c2] at h; exact absurd (show (-1 : Int32) = 7 from congrArg Prod.fst (Option.some.inj h)) (by decide))
        unfold fX12_text_0 at h2
        obtain ⟨v1, e1, h2⟩ := lt_some h2
        obtain ⟨r3, a3, h2⟩ := bd_some h2
        rw [if_pos (isIn_no c0 c1 c2 a3)] at h2
        have e2 : v1 = v' := by cases h2; rfl
        rw [eA, ← e2, e1]
        exact ⟨hV, Int.le_refl _⟩
