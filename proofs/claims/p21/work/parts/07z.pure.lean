/-! What a text, a worth, the events and the houses come to. -/
theorem Tot_at {α : Type} {o : Option α} {Q : α → Prop} {a : α} (h : Tot o Q) (e : o = some a) : Q a := by
  obtain ⟨b, eb, hb⟩ := h
  cases Option.some.inj (eb.symm.trans e)
  exact hb
theorem TXok_add {w : SX} {N : Nat} {g : Nat → Int32} (hI : IX w) (hN : N ≤ 121) (hg : ∀ i, g i = w.2.1 14 i ∨ g i = 0) (c i : Nat) : TXok (sT (uNew w N g) c i (tN w)).2.2.2.2 := by
  obtain ⟨-, -, hc, hT1, hT2, hT3⟩ := hI
  refine ⟨fun c' j k h => ?_, fun k => ?_, fun k j => ?_⟩
  · have h : (bif Nat.beq c' c then (if j = i then some (tN w) else tQ w c' j) else tQ w c' j) = some k := h
    show k < tN w + 1
    cases z : Nat.beq c' c with
    | false => rw [z] at h; exact Nat.lt_succ_of_lt (hT1 c' j k h)
    | true =>
      rw [z] at h
      have h : (if j = i then some (tN w) else tQ w c' j) = some k := h
      by_cases y : j = i
      · rw [if_pos y] at h; cases h; exact Nat.lt_succ_self _
      · rw [if_neg y] at h; exact Nat.lt_succ_of_lt (hT1 c' j k h)
  · show (if k = tN w then N else tL w k) ≤ 121
    by_cases y : k = tN w
    · rw [if_pos y]; exact hN
    · rw [if_neg y]; exact hT2 k
  · show okC ((if k = tN w then g else tC w k) j)
    by_cases y : k = tN w
    · rw [if_pos y]
      rcases hg j with h | h
      · rw [h]; exact hc j
      · rw [h]; intro z; exact absurd z (by decide)
    · rw [if_neg y]; exact hT3 k j
theorem isFull3 (u : SX) : (fX8_isFull_3 u = some (0, u) ∧ (u.1 5).toInt < 12) ∨ fX8_isFull_3 u = some (1, u) := by
  by_cases h : u.1 5 < 12
  · exact Or.inl ⟨by show (if u.1 5 < 12 then _ else _) = _; rw [if_pos h]; rfl, ltI h⟩
  · exact Or.inr (by show (if u.1 5 < 12 then _ else _) = _; rw [if_neg h]; rfl)
theorem add3_eq (w : SX) (h0 : 0 ≤ (w.1 5).toInt) (h5 : (w.1 5).toInt < 12) (N : Nat) (g : Nat → Int32) : fX8_add_3_aT (tN w) (uNew w N g) = some (w.1 5 + 1 - 1, sI (sT (uNew w N g) 15 (w.1 5).toNatClampNeg (tN w)) 5 (w.1 5 + 1)) := by
  have ef : fX8_isFull_3 (uNew w N g) = some (0, uNew w N g) := by
    rcases isFull3 (uNew w N g) with z | z
    · exact z.1
    · exfalso
      have c : w.1 5 < 12 := Int32.lt_iff_toInt_lt.mpr h5
      have e : fX8_isFull_3 (uNew w N g) = some (0, uNew w N g) := by show (if w.1 5 < 12 then _ else _) = _; rw [if_pos c]; rfl
      rw [e] at z
      cases z
  show (fX8_isFull_3 (uNew w N g)).bind _ = _
  rw [ef]
  show (gd (inb (w.1 5) 12) (gd (decide (tN w < tN w + 1)) _)) = _
  rw [inb_t h0 (show _ < ((12 : Nat) : Int) from h5), decide_eq_true (Nat.lt_succ_self _)]
  rfl
theorem add3_I (w : SX) (hI : IX w) (h5 : (w.1 5).toInt < 12) (N : Nat) (hN : N ≤ 121) (g : Nat → Int32) (hg : ∀ i, g i = w.2.1 14 i ∨ g i = 0) : IX (sI (sT (uNew w N g) 15 (w.1 5).toNatClampNeg (tN w)) 5 (w.1 5 + 1)) := by
  have h0 : (0 : Int) ≤ (w.1 5).toInt := (hI.1 5).1
  have h1 : IX (sT (uNew w N g) 15 (w.1 5).toNatClampNeg (tN w)) := ⟨hI.1, hI.2.1, hI.2.2.1, TXok_add hI hN hg _ _⟩
  have e : (w.1 5 + 1).toInt = (w.1 5).toInt + 1 := addc_t (by decide) (by omega) (by omega)
  exact (StX_sI (md := ([5], [], [], [])) (StX_rf h1) (by decide) (by rw [e]; show (0 : Int) ≤ _; omega) (by rw [e]; show _ ≤ (12 : Int); omega)).1
theorem isFull4 (u : SX) : (fX8_isFull_4 u = some (0, u) ∧ (u.1 6).toInt < 6) ∨ fX8_isFull_4 u = some (1, u) := by
  by_cases h : u.1 6 < 6
  · exact Or.inl ⟨by show (if u.1 6 < 6 then _ else _) = _; rw [if_pos h]; rfl, ltI h⟩
  · exact Or.inr (by show (if u.1 6 < 6 then _ else _) = _; rw [if_neg h]; rfl)
theorem add4_eq (w : SX) (h0 : 0 ≤ (w.1 6).toInt) (h5 : (w.1 6).toInt < 6) (N : Nat) (g : Nat → Int32) : fX8_add_4_aT (tN w) (uNew w N g) = some (w.1 6 + 1 - 1, sI (sT (uNew w N g) 18 (w.1 6).toNatClampNeg (tN w)) 6 (w.1 6 + 1)) := by
  have ef : fX8_isFull_4 (uNew w N g) = some (0, uNew w N g) := by
    rcases isFull4 (uNew w N g) with z | z
    · exact z.1
    · exfalso
      have c : w.1 6 < 6 := Int32.lt_iff_toInt_lt.mpr h5
      have e : fX8_isFull_4 (uNew w N g) = some (0, uNew w N g) := by show (if w.1 6 < 6 then _ else _) = _; rw [if_pos c]; rfl
      rw [e] at z
      cases z
  show (fX8_isFull_4 (uNew w N g)).bind _ = _
  rw [ef]
  show (gd (inb (w.1 6) 6) (gd (decide (tN w < tN w + 1)) _)) = _
  rw [inb_t h0 (show _ < ((6 : Nat) : Int) from h5), decide_eq_true (Nat.lt_succ_self _)]
  rfl
theorem add4_I (w : SX) (hI : IX w) (h5 : (w.1 6).toInt < 6) (N : Nat) (hN : N ≤ 121) (g : Nat → Int32) (hg : ∀ i, g i = w.2.1 14 i ∨ g i = 0) : IX (sI (sT (uNew w N g) 18 (w.1 6).toNatClampNeg (tN w)) 6 (w.1 6 + 1)) := by
  have h0 : (0 : Int) ≤ (w.1 6).toInt := (hI.1 6).1
  have h1 : IX (sT (uNew w N g) 18 (w.1 6).toNatClampNeg (tN w)) := ⟨hI.1, hI.2.1, hI.2.2.1, TXok_add hI hN hg _ _⟩
  have e : (w.1 6 + 1).toInt = (w.1 6).toInt + 1 := addc_t (by decide) (by omega) (by omega)
  exact (StX_sI (md := ([6], [], [], [])) (StX_rf h1) (by decide) (by rw [e]; show (0 : Int) ≤ _; omega) (by rw [e]; show _ ≤ (6 : Int); omega)).1
theorem isFull5 (u : SX) : (fX8_isFull_5 u = some (0, u) ∧ (u.1 7).toInt < 6) ∨ fX8_isFull_5 u = some (1, u) := by
  by_cases h : u.1 7 < 6
  · exact Or.inl ⟨by show (if u.1 7 < 6 then _ else _) = _; rw [if_pos h]; rfl, ltI h⟩
  · exact Or.inr (by show (if u.1 7 < 6 then _ else _) = _; rw [if_neg h]; rfl)
theorem add5_eq (w : SX) (h0 : 0 ≤ (w.1 7).toInt) (h5 : (w.1 7).toInt < 6) (N : Nat) (g : Nat → Int32) : fX8_add_5_aT (tN w) (uNew w N g) = some (w.1 7 + 1 - 1, sI (sT (uNew w N g) 21 (w.1 7).toNatClampNeg (tN w)) 7 (w.1 7 + 1)) := by
  have ef : fX8_isFull_5 (uNew w N g) = some (0, uNew w N g) := by
    rcases isFull5 (uNew w N g) with z | z
    · exact z.1
    · exfalso
      have c : w.1 7 < 6 := Int32.lt_iff_toInt_lt.mpr h5
      have e : fX8_isFull_5 (uNew w N g) = some (0, uNew w N g) := by show (if w.1 7 < 6 then _ else _) = _; rw [if_pos c]; rfl
      rw [e] at z
      cases z
  show (fX8_isFull_5 (uNew w N g)).bind _ = _
  rw [ef]
  show (gd (inb (w.1 7) 6) (gd (decide (tN w < tN w + 1)) _)) = _
  rw [inb_t h0 (show _ < ((6 : Nat) : Int) from h5), decide_eq_true (Nat.lt_succ_self _)]
  rfl
theorem add5_I (w : SX) (hI : IX w) (h5 : (w.1 7).toInt < 6) (N : Nat) (hN : N ≤ 121) (g : Nat → Int32) (hg : ∀ i, g i = w.2.1 14 i ∨ g i = 0) : IX (sI (sT (uNew w N g) 21 (w.1 7).toNatClampNeg (tN w)) 7 (w.1 7 + 1)) := by
  have h0 : (0 : Int) ≤ (w.1 7).toInt := (hI.1 7).1
  have h1 : IX (sT (uNew w N g) 21 (w.1 7).toNatClampNeg (tN w)) := ⟨hI.1, hI.2.1, hI.2.2.1, TXok_add hI hN hg _ _⟩
  have e : (w.1 7 + 1).toInt = (w.1 7).toInt + 1 := addc_t (by decide) (by omega) (by omega)
  exact (StX_sI (md := ([7], [], [], [])) (StX_rf h1) (by decide) (by rw [e]; show (0 : Int) ≤ _; omega) (by rw [e]; show _ ≤ (6 : Int); omega)).1
theorem shelf0 (u : SX) : fX11_shelfOf_0 0 u = some (4, u) := rfl
theorem shelf1 (u : SX) : fX11_shelfOf_0 1 u = some (5, u) := rfl
theorem shelf2 (u : SX) : fX11_shelfOf_0 2 u = some (6, u) := rfl
/-- what text changes -/
def mdT : MD := ([1, 2, 3, 4, 5, 6, 7], [14], [], [])
def FrT (u u' : SX) : Prop := (∀ k, mdT.1.contains k = false → u'.1 k = u.1 k) ∧ ∀ k, mdT.2.1.contains k = false → u'.2.1 k = u.2.1 k
theorem FrT_add {u w : SX} {N c i n fld : Nat} {g : Nat → Int32} {x : Int32} (h : FrM mdT u w) (hm : mdT.1.contains fld = true) : FrT u (sI (sT (uNew w N g) c i n) fld x) :=
  ⟨fun k hk => by show (bif Nat.beq k fld then x else w.1 k) = _; rw [beq_no hm hk]; exact h.1 k hk, fun k hk => h.2.1 k hk⟩
set_option maxHeartbeats 1000000 in
/-- text: refused, or made for one of the three shelves -/
theorem text_tot (x1 : Int32) (u : SX) (hI : IX u) : (∃ r u', fX11_textK (fun _ _ => none) x1 u = some (r, u') ∧ IX u' ∧ FrM mdT u u') ∨ (∃ w, fX11_textK (fun k w => if k = 3 then some (7, w) else none) x1 u = some (7, w) ∧ IX w ∧ FrM mdT u w ∧ (w.1 5).toInt < 12) ∨ (∃ w, fX11_textK (fun k w => if k = 4 then some (7, w) else none) x1 u = some (7, w) ∧ IX w ∧ FrM mdT u w ∧ (w.1 6).toInt < 6) ∨ (∃ w, fX11_textK (fun k w => if k = 5 then some (7, w) else none) x1 u = some (7, w) ∧ IX w ∧ FrM mdT u w ∧ (w.1 7).toInt < 6) := by
  by_cases c0 : x1 = 0
  · have e0 : ∀ kT : Nat → SX → Option (Int32 × SX), fX11_textK kT x1 u = (fX8_isFull_3 u).bind fun q => match q with | (r4, u5) => (if r4 = 0 then ((fX5_faultBy_2_as0 u5).bind fun q => match q with | (r7, u8) => (if r7 = (-1) then (lt (sI u8 1 0) fun u10 => (kT 3 u10)) else (some ((-1), u8)))) else (some ((-1), u5))) := fun kT => by
      show (fX11_shelfOf_0 x1 u).bind _ = _
      rw [c0, shelf0]
      rfl
    rcases isFull3 u with ⟨ef, h5⟩ | ef
    · obtain ⟨⟨r, w⟩, eb, hq⟩ := tfX5_faultBy_2_as0 u hI
      have hs : StX mdX5_faultBy_2_as0 u w := hq.1
      by_cases cr : r = -1
      · refine Or.inr (Or.inl ⟨sI w 1 0, ?_, ?_, ?_, ?_⟩)
        · rw [e0, ef]
          show ((fX5_faultBy_2_as0 u).bind _) = _
          rw [eb]
          show (if r = -1 then _ else _) = _
          rw [if_pos cr]
          rfl
        · exact (StX_sI (md := ([1], [], [], [])) (StX_rf hs.1) (by decide) (by decide) (by decide)).1
        · exact FrM_sI (FrM_tr FrM_rf hs.2 (by decide)) (by decide)
        · show (w.1 5).toInt < 12
          rw [hs.2.1 5 (by decide)]
          exact h5
      · refine Or.inl ⟨-1, w, ?_, hs.1, FrM_tr FrM_rf hs.2 (by decide)⟩
        rw [e0, ef]
        show ((fX5_faultBy_2_as0 u).bind _) = _
        rw [eb]
        show (if r = -1 then _ else _) = _
        rw [if_neg cr]
    · refine Or.inl ⟨-1, u, ?_, hI, FrM_rf⟩
      rw [e0, ef]
      rfl
  by_cases c1 : x1 = 1
  · have e0 : ∀ kT : Nat → SX → Option (Int32 × SX), fX11_textK kT x1 u = (fX8_isFull_4 u).bind fun q => match q with | (r4, u5) => (if r4 = 0 then ((fX5_faultBy_2_as1 u5).bind fun q => match q with | (r7, u8) => (if r7 = (-1) then (lt (sI u8 1 0) fun u10 => (kT 4 u10)) else (some ((-1), u8)))) else (some ((-1), u5))) := fun kT => by
      show (fX11_shelfOf_0 x1 u).bind _ = _
      rw [c1, shelf1]
      rfl
    rcases isFull4 u with ⟨ef, h5⟩ | ef
    · obtain ⟨⟨r, w⟩, eb, hq⟩ := tfX5_faultBy_2_as1 u hI
      have hs : StX mdX5_faultBy_2_as1 u w := hq.1
      by_cases cr : r = -1
      · refine Or.inr (Or.inr (Or.inl ⟨sI w 1 0, ?_, ?_, ?_, ?_⟩))
        · rw [e0, ef]
          show ((fX5_faultBy_2_as1 u).bind _) = _
          rw [eb]
          show (if r = -1 then _ else _) = _
          rw [if_pos cr]
          rfl
        · exact (StX_sI (md := ([1], [], [], [])) (StX_rf hs.1) (by decide) (by decide) (by decide)).1
        · exact FrM_sI (FrM_tr FrM_rf hs.2 (by decide)) (by decide)
        · show (w.1 6).toInt < 6
          rw [hs.2.1 6 (by decide)]
          exact h5
      · refine Or.inl ⟨-1, w, ?_, hs.1, FrM_tr FrM_rf hs.2 (by decide)⟩
        rw [e0, ef]
        show ((fX5_faultBy_2_as1 u).bind _) = _
        rw [eb]
        show (if r = -1 then _ else _) = _
        rw [if_neg cr]
    · refine Or.inl ⟨-1, u, ?_, hI, FrM_rf⟩
      rw [e0, ef]
      rfl
  by_cases c2 : x1 = 2
  · have e0 : ∀ kT : Nat → SX → Option (Int32 × SX), fX11_textK kT x1 u = (fX8_isFull_5 u).bind fun q => match q with | (r4, u5) => (if r4 = 0 then ((fX5_faultBy_2_as2 u5).bind fun q => match q with | (r7, u8) => (if r7 = (-1) then (lt (sI u8 1 0) fun u10 => (kT 5 u10)) else (some ((-1), u8)))) else (some ((-1), u5))) := fun kT => by
      show (fX11_shelfOf_0 x1 u).bind _ = _
      rw [c2, shelf2]
      rfl
    rcases isFull5 u with ⟨ef, h5⟩ | ef
    · obtain ⟨⟨r, w⟩, eb, hq⟩ := tfX5_faultBy_2_as2 u hI
      have hs : StX mdX5_faultBy_2_as2 u w := hq.1
      by_cases cr : r = -1
      · refine Or.inr (Or.inr (Or.inr ⟨sI w 1 0, ?_, ?_, ?_, ?_⟩))
        · rw [e0, ef]
          show ((fX5_faultBy_2_as2 u).bind _) = _
          rw [eb]
          show (if r = -1 then _ else _) = _
          rw [if_pos cr]
          rfl
        · exact (StX_sI (md := ([1], [], [], [])) (StX_rf hs.1) (by decide) (by decide) (by decide)).1
        · exact FrM_sI (FrM_tr FrM_rf hs.2 (by decide)) (by decide)
        · show (w.1 7).toInt < 6
          rw [hs.2.1 7 (by decide)]
          exact h5
      · refine Or.inl ⟨-1, w, ?_, hs.1, FrM_tr FrM_rf hs.2 (by decide)⟩
        rw [e0, ef]
        show ((fX5_faultBy_2_as2 u).bind _) = _
        rw [eb]
        show (if r = -1 then _ else _) = _
        rw [if_neg cr]
    · refine Or.inl ⟨-1, u, ?_, hI, FrM_rf⟩
      rw [e0, ef]
      rfl
  refine Or.inl ⟨-1, u, ?_, hI, FrM_rf⟩
  have e : fX11_shelfOf_0 x1 u = some (0, u) := by
    show (if x1 = 0 then _ else (if x1 = 1 then _ else (if x1 = 2 then _ else _))) = _
    rw [if_neg c0, if_neg c1, if_neg c2]
  show (fX11_shelfOf_0 x1 u).bind _ = _
  rw [e]
  rfl
def mdW : MD := ([], [16, 17], [], [])
theorem worth_tot (x1 x2 x3 x4 x5 x6 x7 : Int32) (u : SX) (hI : IX u) : Tot (fX11_worthK (fun w => some (0, w)) x1 x2 x3 x4 x5 x6 x7 u) (fun q => StX mdW u q.2) := by
  unfold fX11_worthK
  refine Tot_bind (tfX8_has_3 x1 u hI) (fun q hq => ?_)
  obtain ⟨r1, u2⟩ := q
  have s2 : StX mdW u u2 := StX_tr (StX_rf hI) hq.1 (by decide)
  have b1 : r1.toInt ≠ 0 → ((0 : Int) ≤ x1.toInt ∧ x1.toInt < (u.1 5).toInt) := hq.2.2
  refine Tot_ite (fun _ => Tot_some s2) (fun d1 => ?_)
  refine Tot_bind (tfX11_isAim x2 x3 x4 x6 x7) (fun r4 h4 => ?_)
  refine Tot_ite (fun _ => Tot_some s2) (fun d4 => ?_)
  refine Tot_bind (tfX11_within x5 0 3) (fun r7 h7 => ?_)
  refine Tot_ite (fun _ => Tot_some s2) (fun d7 => ?_)
  obtain ⟨a1, a2⟩ := b1 (neI d1)
  obtain ⟨e1, e2, e3, e4, e5, e6, e7, e8, e9, e10⟩ := h4.2 (neI d4)
  obtain ⟨f1, f2⟩ : (0 : Int) ≤ x5.toInt ∧ x5.toInt ≤ (3 : Int) := h7.2 (neI d7)
  have b5 : (u.1 5).toInt ≤ (12 : Int) := (hI.1 5).2
  refine Tot_bind (tfX8_setAim_3 x2 x3 x4 x5 x6 x7 u2 s2.1 ⟨e1, e2⟩ ⟨e3, e4⟩ ⟨e5, e6⟩ ⟨f1, f2⟩ ⟨e7, e8⟩ ⟨e9, e10⟩) (fun q hq3 => ?_)
  obtain ⟨r10, u11⟩ := q
  have s11 : StX mdW u u11 := StX_tr s2 hq3.1 (by decide)
  refine Tot_bind (tfX8_ask_3 x1 u11 s11.1 ⟨a1, by omega⟩) (fun q hq4 => ?_)
  obtain ⟨r13, u14⟩ := q
  exact Tot_some (StX_tr s11 hq4.1 (by decide) : StX mdW u u14)
/-! Events: cleanings and looks done. -/
def cntD (f : Nat → Int32) : Nat → Nat
  | 0 => 0
  | n + 1 => cntD f n + (if f n = -1 then 0 else 1)
theorem cntD_le (f : Nat → Int32) : ∀ n, cntD f n ≤ n := by
  intro n
  induction n with
  | zero => exact Nat.le_refl _
  | succ n ih =>
    show cntD f n + (if f n = -1 then 0 else 1) ≤ n + 1
    by_cases z : f n = -1
    · rw [if_pos z]; omega
    · rw [if_neg z]; omega
theorem cntD_lt (f : Nat → Int32) (k : Nat) (hk : f k = -1) : ∀ n, k < n → cntD f n < n := by
  intro n
  induction n with
  | zero => intro h; omega
  | succ n ih =>
    intro h
    show cntD f n + (if f n = -1 then 0 else 1) < n + 1
    have h9 := cntD_le f n
    by_cases z : f n = -1
    · rw [if_pos z]; omega
    · rw [if_neg z]
      have : k ≠ n := fun e => z (by rw [← e]; exact hk)
      have := ih (by omega)
      omega
theorem cntD_ge (f : Nat → Int32) (i : Nat) (v : Int32) : ∀ n, n ≤ i → cntD (upd f i v) n = cntD f n := by
  intro n
  induction n with
  | zero => intro _; rfl
  | succ n ih =>
    intro h
    show cntD (upd f i v) n + (if (if n = i then v else f n) = -1 then 0 else 1) = cntD f n + (if f n = -1 then 0 else 1)
    rw [ih (by omega), if_neg (show ¬ n = i by omega)]
theorem cntD_up (f : Nat → Int32) (i : Nat) (v : Int32) (hf : f i = -1) (hv : ¬ v = -1) : ∀ n, i < n → cntD (upd f i v) n = cntD f n + 1 := by
  intro n
  induction n with
  | zero => intro h; omega
  | succ n ih =>
    intro h
    show cntD (upd f i v) n + (if (if n = i then v else f n) = -1 then 0 else 1) = cntD f n + (if f n = -1 then 0 else 1) + 1
    by_cases z : n = i
    · subst z
      rw [if_pos rfl, if_neg hv, cntD_ge f n v n (Nat.le_refl _), if_pos hf]
    · rw [if_neg z, ih (by omega)]
      omega
def EvM (v : SX) : Prop := (v.1 13).toInt = (v.1 14).toInt + (cntD (v.2.1 33) (v.1 21).toNatClampNeg : Int)
theorem EvM_fr {u v : SX} (h1 : v.1 13 = u.1 13) (h2 : v.1 14 = u.1 14) (h3 : v.1 21 = u.1 21) (h4 : v.2.1 33 = u.2.1 33) (h : EvM u) : EvM v := by
  unfold EvM
  rw [h1, h2, h3, h4]
  exact h
theorem ev_pd {x1 : Int32} {v : SX} (hI : IM v) (hE : EvM v) : (0 ≤ x1.toInt ∧ x1.toInt < (v.1 21).toInt ∧ (v.2.1 33 x1.toNatClampNeg).toInt = -1) → (v.1 13).toInt < 30 := fun ⟨h1, h2, h3⟩ => by
  have b1 : (v.1 14).toInt ≤ (20 : Int) := (hI.1 14).2
  have b2 : (v.1 21).toInt ≤ (10 : Int) := (hI.1 21).2
  have e : v.2.1 33 x1.toNatClampNeg = -1 := Int32.toInt.inj (h3.trans (by decide))
  have k : cntD (v.2.1 33) (v.1 21).toNatClampNeg < (v.1 21).toNatClampNeg := cntD_lt _ _ e _ (by show x1.toInt.toNat < (v.1 21).toInt.toNat; omega)
  have k2 : (v.1 21).toNatClampNeg = (v.1 21).toInt.toNat := rfl
  have hE : (v.1 13).toInt = (v.1 14).toInt + (cntD (v.2.1 33) (v.1 21).toNatClampNeg : Int) := hE
  omega
theorem ev_pc {v : SX} (hI : IM v) (hE : EvM v) : (v.1 14).toInt < 20 → (v.1 13).toInt < 30 := fun h => by
  have b2 : (v.1 21).toInt ≤ (10 : Int) := (hI.1 21).2
  have k := cntD_le (v.2.1 33) (v.1 21).toNatClampNeg
  have k2 : (v.1 21).toNatClampNeg = (v.1 21).toInt.toNat := rfl
  have hE : (v.1 13).toInt = (v.1 14).toInt + (cntD (v.2.1 33) (v.1 21).toNatClampNeg : Int) := hE
  omega
theorem hap_eq {x1 x2 x3 x4 : Int32} {u u' : SX} {r : Int32} (h : fX12_happens_0 x1 x2 x3 x4 u = some (r, u')) : u'.1 13 = u.1 13 + 1 ∧ u'.1 14 = u.1 14 ∧ u'.1 21 = u.1 21 ∧ u'.2.1 33 = u.2.1 33 := by
  unfold fX12_happens_0 at h
  obtain ⟨-, h⟩ := gd_some h
  obtain ⟨u2, e2, h⟩ := lt_some h
  obtain ⟨-, h⟩ := gd_some h
  obtain ⟨u5, e5, h⟩ := lt_some h
  obtain ⟨-, h⟩ := gd_some h
  obtain ⟨u8, e8, h⟩ := lt_some h
  obtain ⟨-, h⟩ := gd_some h
  obtain ⟨u11, e11, h⟩ := lt_some h
  obtain ⟨-, h⟩ := gd_some h
  obtain ⟨u14, e14, h⟩ := lt_some h
  obtain ⟨u16, e16, h⟩ := lt_some h
  cases h
  subst e16 e14 e11 e8 e5 e2
  exact ⟨rfl, rfl, rfl, rfl⟩
theorem lok_eq {x1 : Int32} {u u' : SX} {r : Int32} (h : fX12_isLook_0 x1 u = some (r, u')) : u' = u ∧ (¬ r = 0 → ¬ x1 < 0 ∧ ¬ u.1 21 ≤ x1) := by
  unfold fX12_isLook_0 at h
  by_cases c1 : x1 < 0
  · rw [if_pos c1] at h
    obtain ⟨-, h⟩ := gd_some h
    cases h
    exact ⟨rfl, fun z => absurd rfl z⟩
  · rw [if_neg c1] at h
    by_cases c2 : u.1 21 ≤ x1
    · rw [if_pos c2] at h
      obtain ⟨-, h⟩ := gd_some h
      cases h
      exact ⟨rfl, fun z => absurd rfl z⟩
    · rw [if_neg c2] at h
      obtain ⟨-, h⟩ := gd_some h
      cases h
      exact ⟨rfl, fun _ => ⟨c1, c2⟩⟩
theorem ev_done {x1 : Int32} {v v' : SX} {r : Int32} (hI : IM v) (hE : EvM v) (h : fX12_done_0 x1 v = some (r, v')) : EvM v' := by
  unfold fX12_done_0 at h
  obtain ⟨u1, e1, h⟩ := lt_some h
  obtain ⟨⟨r3, u4⟩, e3, h⟩ := bd_some h
  have hE1 : EvM u1 := by rw [e1]; exact EvM_fr (u := v) rfl rfl rfl rfl hE
  have f13 : u1.1 13 = v.1 13 := by rw [e1]; rfl
  have f21 : u1.1 21 = v.1 21 := by rw [e1]; rfl
  obtain ⟨e4, hr⟩ := lok_eq e3
  rw [e4] at h
  have h : (if r3 = 0 then _ else _) = some (r, v') := h
  by_cases c3 : r3 = 0
  · rw [if_pos c3] at h
    obtain ⟨-, h⟩ := gd_some h
    cases h
    exact hE1
  · rw [if_neg c3] at h
    obtain ⟨d1, d2⟩ := hr c3
    obtain ⟨-, h⟩ := gd_some h
    by_cases c4 : u1.2.1 33 x1.toNatClampNeg = -1
    · rw [if_pos c4] at h
      obtain ⟨-, h⟩ := gd_some h
      obtain ⟨u9, e9, h⟩ := lt_some h
      obtain ⟨-, h⟩ := gd_some h
      obtain ⟨-, h⟩ := gd_some h
      obtain ⟨-, h⟩ := gd_some h
      obtain ⟨⟨r14, u15⟩, e15, h⟩ := bd_some h
      obtain ⟨-, h⟩ := gd_some h
      cases h
      obtain ⟨g1, g2, g3, g4⟩ := hap_eq e15
      have b0 : (0 : Int) ≤ (v.1 13).toInt := (hI.1 13).1
      have b1 : (v.1 13).toInt ≤ (30 : Int) := (hI.1 13).2
      have k1 : u9.2.1 33 = upd (u1.2.1 33) x1.toNatClampNeg (u1.1 13) := by rw [e9]; rfl
      have k2 : u9.1 13 = u1.1 13 := by rw [e9]; rfl
      have k3 : u9.1 14 = u1.1 14 := by rw [e9]; rfl
      have k4 : u9.1 21 = u1.1 21 := by rw [e9]; rfl
      have n1 : ¬ u1.1 13 = -1 := fun z => by
        have := eqI z
        rw [f13] at this
        have e : (-1 : Int32).toInt = -1 := by decide
        rw [e] at this
        omega
      have z1 : ¬ x1.toInt < (0 : Int) := nltI d1
      have z2 : ¬ (u1.1 21).toInt ≤ x1.toInt := nleI d2
      have q1 := cntD_up (u1.2.1 33) x1.toNatClampNeg (u1.1 13) c4 n1 (u1.1 21).toNatClampNeg (by show x1.toInt.toNat < (u1.1 21).toInt.toNat; omega)
      have e13 : (u1.1 13 + 1).toInt = (u1.1 13).toInt + 1 := addc_t (by decide) (by rw [f13]; omega) (by rw [f13]; omega)
      have hE1 : (u1.1 13).toInt = (u1.1 14).toInt + (cntD (u1.2.1 33) (u1.1 21).toNatClampNeg : Int) := hE1
      unfold EvM
      rw [g1, g2, g3, g4, k1, k2, k3, k4, q1, e13, hE1]
      omega
    · rw [if_neg c4] at h
      obtain ⟨-, h⟩ := gd_some h
      cases h
      exact hE1
theorem ev_clean {x1 x2 x3 x4 : Int32} {v v' : SX} {r : Int32} (hI : IM v) (hE : EvM v) (h : fX12_clean_0 x1 x2 x3 x4 v = some (r, v')) : EvM v' := by
  unfold fX12_clean_0 at h
  obtain ⟨u1, e1, h⟩ := lt_some h
  have hE1 : EvM u1 := by rw [e1]; exact EvM_fr (u := v) rfl rfl rfl rfl hE
  have f13 : u1.1 13 = v.1 13 := by rw [e1]; rfl
  have f14 : u1.1 14 = v.1 14 := by rw [e1]; rfl
  have hI1 : IM u1 := by rw [e1]; exact (StM_sI (md := ([0], [], [], [])) (StM_rf hI) (by decide) (by decide) (by decide)).1
  by_cases c0 : u1.1 14 = 20
  · rw [if_pos c0] at h
    obtain ⟨-, h⟩ := gd_some h
    cases h
    exact hE1
  · rw [if_neg c0] at h
    obtain ⟨⟨r4, u5⟩, e5, h⟩ := bd_some h
    have hs := Tot_at (tfX12_isPart_0 x1 u1 hI1) e5
    have hE5 : EvM u5 := EvM_fr (hs.1.2.1 13 (by decide)) (hs.1.2.1 14 (by decide)) (hs.1.2.1 21 (by decide)) (hs.1.2.2.1 33 (by decide)) hE1
    have m13 : u5.1 13 = u1.1 13 := hs.1.2.1 13 (by decide)
    have m14 : u5.1 14 = u1.1 14 := hs.1.2.1 14 (by decide)
    clear hs
    have h : (if r4 = 0 then _ else _) = some (r, v') := h
    by_cases c4 : r4 = 0
    · rw [if_pos c4] at h
      obtain ⟨-, h⟩ := gd_some h
      cases h
      exact hE5
    · rw [if_neg c4] at h
      obtain ⟨r8, e8, h⟩ := bd_some h
      by_cases c8 : r8 = 0
      · rw [if_pos c8] at h
        obtain ⟨-, h⟩ := gd_some h
        cases h
        exact hE5
      · rw [if_neg c8] at h
        obtain ⟨r12, e12, h⟩ := bd_some h
        by_cases c12 : r12 = 0
        · rw [if_pos c12] at h
          obtain ⟨-, h⟩ := gd_some h
          cases h
          exact hE5
        · rw [if_neg c12] at h
          obtain ⟨⟨r15, u16⟩, e16, h⟩ := bd_some h
          obtain ⟨-, h⟩ := gd_some h
          obtain ⟨u19, e19, h⟩ := lt_some h
          obtain ⟨u21, e21, h⟩ := lt_some h
          obtain ⟨-, h⟩ := gd_some h
          cases h
          obtain ⟨g1, g2, g3, g4⟩ := hap_eq e16
          have b0 : (0 : Int) ≤ (v.1 13).toInt := (hI.1 13).1
          have b1 : (v.1 13).toInt ≤ (30 : Int) := (hI.1 13).2
          have b2 : (0 : Int) ≤ (v.1 14).toInt := (hI.1 14).1
          have b3 : (v.1 14).toInt ≤ (20 : Int) := (hI.1 14).2
          have k1 : v'.2.1 33 = u16.2.1 33 := by rw [e21, e19]; rfl
          have k2 : v'.1 13 = u16.1 13 := by rw [e21, e19]; rfl
          have k3 : v'.1 14 = u16.1 14 + 1 := by rw [e21, e19]; rfl
          have k4 : v'.1 21 = u16.1 21 := by rw [e21, e19]; rfl
          have e13 : (u5.1 13 + 1).toInt = (u5.1 13).toInt + 1 := addc_t (by decide) (by rw [m13, f13]; omega) (by rw [m13, f13]; omega)
          have e14 : (u5.1 14 + 1).toInt = (u5.1 14).toInt + 1 := addc_t (by decide) (by rw [m14, f14]; omega) (by rw [m14, f14]; omega)
          have hE5 : (u5.1 13).toInt = (u5.1 14).toInt + (cntD (u5.2.1 33) (u5.1 21).toNatClampNeg : Int) := hE5
          unfold EvM
          rw [k1, k2, k3, k4, g1, g2, g3, g4, e13, e14, hE5]
          omega
theorem ev_look {x1 x2 x3 x4 : Int32} {v v' : SX} {r : Int32} (hI : IM v) (hE : EvM v) (h : fX12_look__0 x1 x2 x3 x4 v = some (r, v')) : EvM v' := by
  unfold fX12_look__0 at h
  obtain ⟨u1, e1, h⟩ := lt_some h
  have hE1 : EvM u1 := by rw [e1]; exact EvM_fr (u := v) rfl rfl rfl rfl hE
  have f21 : u1.1 21 = v.1 21 := by rw [e1]; rfl
  have hI1 : IM u1 := by rw [e1]; exact (StM_sI (md := ([0], [], [], [])) (StM_rf hI) (by decide) (by decide) (by decide)).1
  by_cases c0 : u1.1 21 = 10
  · rw [if_pos c0] at h
    cases h
    exact hE1
  · rw [if_neg c0] at h
    obtain ⟨⟨r4, u5⟩, e5, h⟩ := bd_some h
    have hs := Tot_at (tfX12_isPart_0 x1 u1 hI1) e5
    have hE5 : EvM u5 := EvM_fr (hs.1.2.1 13 (by decide)) (hs.1.2.1 14 (by decide)) (hs.1.2.1 21 (by decide)) (hs.1.2.2.1 33 (by decide)) hE1
    have m21 : u5.1 21 = u1.1 21 := hs.1.2.1 21 (by decide)
    clear hs
    have h : (if r4 = 0 then _ else _) = some (r, v') := h
    by_cases c4 : r4 = 0
    · rw [if_pos c4] at h
      cases h
      exact hE5
    · rw [if_neg c4] at h
      obtain ⟨r8, e8, h⟩ := bd_some h
      by_cases c8 : r8 = 0
      · rw [if_pos c8] at h
        cases h
        exact hE5
      · rw [if_neg c8] at h
        obtain ⟨r12, e12, h⟩ := bd_some h
        by_cases c12 : r12 = 0
        · rw [if_pos c12] at h
          cases h
          exact hE5
        · rw [if_neg c12] at h
          obtain ⟨-, h⟩ := gd_some h
          obtain ⟨w1, j1, h⟩ := lt_some h
          obtain ⟨-, h⟩ := gd_some h
          obtain ⟨w2, j2, h⟩ := lt_some h
          obtain ⟨-, h⟩ := gd_some h
          obtain ⟨w3, j3, h⟩ := lt_some h
          obtain ⟨-, h⟩ := gd_some h
          obtain ⟨w4, j4, h⟩ := lt_some h
          obtain ⟨-, h⟩ := gd_some h
          obtain ⟨w5, j5, h⟩ := lt_some h
          obtain ⟨w6, j6, h⟩ := lt_some h
          cases h
          have b0 : (0 : Int) ≤ (v.1 21).toInt := (hI.1 21).1
          have b1 : (v.1 21).toInt ≤ (10 : Int) := (hI.1 21).2
          have k1 : v'.2.1 33 = upd (u5.2.1 33) (u5.1 21).toNatClampNeg (-1) := by rw [j6, j5, j4, j3, j2, j1]; rfl
          have k2 : v'.1 13 = u5.1 13 := by rw [j6, j5, j4, j3, j2, j1]; rfl
          have k3 : v'.1 14 = u5.1 14 := by rw [j6, j5, j4, j3, j2, j1]; rfl
          have k4 : v'.1 21 = u5.1 21 + 1 := by rw [j6, j5, j4, j3, j2, j1]; rfl
          have e21 : (u5.1 21 + 1).toInt = (u5.1 21).toInt + 1 := addc_t (by decide) (by rw [m21, f21]; omega) (by rw [m21, f21]; omega)
          have e22 : (u5.1 21 + 1).toNatClampNeg = (u5.1 21).toNatClampNeg + 1 := by
            show (u5.1 21 + 1).toInt.toNat = (u5.1 21).toInt.toNat + 1
            rw [e21, m21, f21]
            omega
          have q1 : cntD (upd (u5.2.1 33) (u5.1 21).toNatClampNeg (-1)) ((u5.1 21).toNatClampNeg + 1) = cntD (u5.2.1 33) (u5.1 21).toNatClampNeg := by
            show cntD (upd (u5.2.1 33) (u5.1 21).toNatClampNeg (-1)) (u5.1 21).toNatClampNeg + (if (if (u5.1 21).toNatClampNeg = (u5.1 21).toNatClampNeg then (-1 : Int32) else _) = -1 then 0 else 1) = _
            rw [if_pos rfl, if_pos rfl, cntD_ge _ _ _ _ (Nat.le_refl _)]
            rfl
          unfold EvM
          rw [k1, k2, k3, k4, e22, q1]
          exact hE5
