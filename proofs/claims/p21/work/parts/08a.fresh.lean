/-- a new object: its numbers -/
def uX : SX := (fun k => bif Nat.beq k 3 then 3 else 0, fun a => bif Nat.beq a 41 then uF.2.1 0 else fun _ => 0, fun _ => 0, fun _ _ => 0, 0, fun _ _ => none, fun _ => 0, fun _ _ => 0)
def adX (q : List Nat) (z : Nat) : Nat → Nat := fun k => bif Nat.blt k 73 then List.getD q k 0 else z + k
set_option maxHeartbeats 8000000 in
set_option maxRecDepth 100000 in
theorem atX11_V (cy : Nat → ClassId) (st : Nat → Nat) (h0 : Nat) (q : Nat × Nat × Nat × Nat × Nat × Nat × Nat × Nat × Nat × Nat × Nat × Nat × Nat × Nat × Nat × Nat × Nat × Nat × Nat × Nat × Nat × Nat × Nat × Nat × Nat × Nat × Nat × Nat × Nat × Nat × Nat × Nat × Nat × Nat × Nat × Nat × Nat × Nat × Nat × Nat × Nat × Nat × Nat × Nat × Nat × Nat × Nat × Nat × Nat × Nat × Nat × Nat × Nat × Nat × Nat × Nat × Nat × Nat × Nat × Nat × Nat × Nat × Nat × Nat × Nat × Nat × Nat × Nat × Nat × Nat × Nat × Nat) : ∃ l : List Nat, List.getD l 0 0 = h0 ∧ (∀ (D : va_G) (H : Heap), va_P D vwCl (atX11 cy st h0 q) H → va_P D vwCl (VX cy (adX l 0) st uX) H) ∧ ∀ A : Nat → Prop, va_D A (atX11 cy st h0 q) → va_D A (VX cy (adX l 0) st uX) := by
  obtain ⟨h1, q2, h3, q4, h5, q6, q7, q8, h9, q10, q11, q12, h13, q14, q15, q16, h17, q18, q19, q20, q21, q22, q23, q24, q25, q26, q27, q28, q29, h30, q31, q32, q33, q34, q35, q36, h37, q38, q39, q40, q41, h42, q43, q44, h45, q46, q47, q48, q49, q50, q51, q52, q53, q54, q55, q56, h57, q58, q59, q60, q61, q62, q63, q64, q65, q66, q67, q68, q69, h70, q71, q72⟩ := q
  refine ⟨[h0, h1, h3, h5, h9, h13, h17, h30, h37, h42, h45, h57, h70, q2, q4, q7, q8, q6, q11, q12, q10, q15, q16, q14, q18, q19, q20, q21, q22, q23, q24, q25, q26, q27, q28, q29, q31, q32, q33, q34, q35, q36, q38, q39, q40, q41, q43, q44, q46, q47, q48, q49, q50, q51, q52, q53, q54, q55, q56, q58, q59, q60, q61, q62, q63, q64, q65, q66, q67, q68, q69, q71, q72], rfl, fun D H h => h.sub [0, 1, 3, 5, 9, 13, 17, 30, 37, 42, 45, 57, 70, 2, 4, 7, 8, 6, 11, 12, 10, 15, 16, 14, 18, 19, 20, 21, 22, 23, 24, 25, 26, 27, 28, 29, 31, 32, 33, 34, 35, 36, 38, 39, 40, 41, 43, 44, 46, 47, 48, 49, 50, 51, 52, 53, 54, 55, 56, 58, 59, 60, 61, 62, 63, 64, 65, 66, 67, 68, 69, 71, 72] rfl, fun A h => h.sub [0, 1, 3, 5, 9, 13, 17, 30, 37, 42, 45, 57, 70, 2, 4, 7, 8, 6, 11, 12, 10, 15, 16, 14, 18, 19, 20, 21, 22, 23, 24, 25, 26, 27, 28, 29, 31, 32, 33, 34, 35, 36, 38, 39, 40, 41, 43, 44, 46, 47, 48, 49, 50, 51, 52, 53, 54, 55, 56, 58, 59, 60, 61, 62, 63, 64, 65, 66, 67, 68, 69, 71, 72] (by decide) rfl⟩
/-- a new object: its numbers -/
def uM : SX := (fun k => bif Nat.beq k 10 then 5 else bif Nat.beq k 2 then 2 else 0, fun a => fun _ => 0, fun _ => 0, fun _ _ => 0, 0, fun _ _ => none, fun _ => 0, fun _ _ => 0)
def adM (q : List Nat) (z : Nat) : Nat → Nat := fun k => bif Nat.blt k 44 then List.getD q k 0 else z + k
set_option maxHeartbeats 8000000 in
set_option maxRecDepth 100000 in
theorem atX12_V (cy : Nat → ClassId) (st : Nat → Nat) (h0 : Nat) (q : Nat × Nat × Nat × Nat × Nat × Nat × Nat × Nat × Nat × Nat × Nat × Nat × Nat × Nat × Nat × Nat × Nat × Nat × Nat × Nat × Nat × Nat × Nat × Nat × Nat × Nat × Nat × Nat × Nat × Nat × Nat × Nat × Nat × Nat × Nat × Nat × Nat × Nat × Nat × Nat × Nat × Nat × Nat) : ∃ l : List Nat, List.getD l 0 0 = h0 ∧ (∀ (D : va_G) (H : Heap), va_P D vwCl (atX12 cy st h0 q) H → va_P D vwCl (VM cy (adM l 0) st uM) H) ∧ ∀ A : Nat → Prop, va_D A (atX12 cy st h0 q) → va_D A (VM cy (adM l 0) st uM) := by
  obtain ⟨q1, q2, q3, q4, q5, q6, q7, q8, q9, q10, q11, q12, q13, q14, q15, q16, q17, q18, q19, q20, q21, q22, q23, q24, q25, q26, q27, q28, q29, q30, q31, q32, q33, q34, q35, q36, q37, q38, q39, q40, q41, q42, q43⟩ := q
  refine ⟨[h0, q1, q2, q3, q4, q5, q6, q7, q8, q9, q10, q11, q12, q13, q14, q15, q16, q17, q18, q19, q20, q21, q22, q23, q24, q25, q26, q27, q28, q29, q30, q31, q32, q33, q34, q35, q36, q37, q38, q39, q40, q41, q42, q43], rfl, fun D H h => h.sub [0, 1, 2, 3, 4, 5, 6, 7, 8, 9, 10, 11, 12, 13, 14, 15, 16, 17, 18, 19, 20, 21, 22, 23, 24, 25, 26, 27, 28, 29, 30, 31, 32, 33, 34, 35, 36, 37, 38, 39, 40, 41, 42, 43] rfl, fun A h => h.sub [0, 1, 2, 3, 4, 5, 6, 7, 8, 9, 10, 11, 12, 13, 14, 15, 16, 17, 18, 19, 20, 21, 22, 23, 24, 25, 26, 27, 28, 29, 30, 31, 32, 33, 34, 35, 36, 37, 38, 39, 40, 41, 42, 43] (by decide) rfl⟩
theorem VX_lk {cy : Nat → ClassId} {ad st : Nat → Nat} {u : SX} {k : Nat} (hk : k < 73 + 2 * tN u) : ∃ e, (VX cy ad st u)[k]? = some (ad k, e) := by
  obtain ⟨x, hx⟩ : ∃ x, (VX cy ad st u)[k]? = some x := ⟨_, List.getElem?_eq_getElem (by rw [VX_len]; exact hk)⟩
  obtain ⟨q1, q2⟩ := x
  have e : q1 = ad k := (VX_adr hx).1
  rw [e] at hx
  exact ⟨q2, hx⟩
theorem VM_lk {cy : Nat → ClassId} {ad st : Nat → Nat} {u : SX} {k : Nat} (hk : k < 44) : ∃ e, (VM cy ad st u)[k]? = some (ad k, e) := by
  have h1 : ((VM cy ad st u).map (fun q => q.1))[k]? = some (ad k) := by
    show ((VM0 cy ad st u).map (fun q => q.1))[k]? = some (ad k)
    rw [VM0_ad, List.getElem?_map, List.getElem?_range hk]; rfl
  rw [List.getElem?_map] at h1
  cases hq : (VM cy ad st u)[k]? with
  | none => rw [hq] at h1; cases h1
  | some q =>
    rw [hq] at h1
    obtain ⟨q1, q2⟩ := q
    cases h1
    exact ⟨q2, rfl⟩
theorem VM_mem {cy : Nat → ClassId} {ad st : Nat → Nat} {u : SX} {k : Nat} {q : Nat × va_E} (h : (VM cy ad st u)[k]? = some q) : AM ad q.1 := by
  have h1 : ((VM0 cy ad st u).map (fun q => q.1))[k]? = some q.1 := by
    have h : (VM0 cy ad st u)[k]? = some q := h
    rw [List.getElem?_map, h]; rfl
  rw [VM0_ad, List.getElem?_map] at h1
  rcases Nat.lt_or_ge k 44 with z | z
  · rw [List.getElem?_range z] at h1
    exact ⟨k, z, (Option.some.inj h1).symm⟩
  · rw [List.getElem?_eq_none (by simpa using z)] at h1
    cases h1
theorem VM_in {A : Nat → Prop} {cy : Nat → ClassId} {ad st : Nat → Nat} {u : SX} (h : va_D A (VM cy ad st u)) : ∀ q, AM ad q → A q := fun q ⟨k, hk, e⟩ => by
  obtain ⟨e1, h1⟩ := VM_lk (cy := cy) (ad := ad) (st := st) (u := u) hk
  rw [e]
  exact h.2 k _ h1
theorem VM_J {A : Nat → Prop} {cy : Nat → ClassId} {ad st : Nat → Nat} {u : SX} (h : va_D A (VM cy ad st u)) (hA : ∀ q, A q → st 100 ≤ q) : JM ad st := ⟨fun i j hi hj e => by
  obtain ⟨e1, h1⟩ := VM_lk (cy := cy) (ad := ad) (st := st) (u := u) hi
  obtain ⟨e2, h2⟩ := VM_lk (cy := cy) (ad := ad) (st := st) (u := u) hj
  exact h.1 i j _ _ h1 h2 e, fun i hi => hA _ (VM_in h _ ⟨i, hi, rfl⟩)⟩
/-- X's cells as they are made -/
def AXi (ad : Nat → Nat) : Nat → Prop := fun q => ∃ k, k < 73 ∧ q = ad k
theorem VX_inI {A : Nat → Prop} {cy : Nat → ClassId} {ad st : Nat → Nat} (h : va_D A (VX cy ad st uX)) : ∀ q, AXi ad q → A q := fun q ⟨k, hk, e⟩ => by
  obtain ⟨e1, h1⟩ := VX_lk (cy := cy) (ad := ad) (st := st) (u := uX) (k := k) (by show k < 73 + 2 * 0; omega)
  rw [e]
  exact h.2 k _ h1
theorem VX_memI {cy : Nat → ClassId} {ad st : Nat → Nat} {k : Nat} {q : Nat × va_E} (h : (VX cy ad st uX)[k]? = some q) : AXi ad q.1 := by
  obtain ⟨e, hk⟩ := VX_adr h
  have hk : k < 73 + 2 * 0 := hk
  exact ⟨k, by omega, e⟩
theorem adX_lt {q : List Nat} {z k : Nat} (h : k < 73) : adX q z k = List.getD q k 0 := by
  have e : Nat.blt k 73 = true := by simp [Nat.blt_eq]; exact h
  show (bif Nat.blt k 73 then _ else _) = _
  rw [e]; rfl
theorem adX_ge {q : List Nat} {z k : Nat} (h : 73 ≤ k) : adX q z k = z + k := by
  have e : Nat.blt k 73 = false := by
    cases b : Nat.blt k 73 with
    | false => rfl
    | true => have := Nat.blt_eq.mp b; omega
  show (bif Nat.blt k 73 then _ else _) = _
  rw [e]; rfl
theorem VX_z {cy : Nat → ClassId} {st : Nat → Nat} {q : List Nat} {z : Nat} : VX cy (adX q z) st uX = VX cy (adX q 0) st uX := by
  show VX0 cy (adX q z) st uX ++ [] = VX0 cy (adX q 0) st uX ++ []
  rw [VX0_cg (ad := adX q 0) (ad' := adX q z) (u := uX) (u' := uX) (fun k hk => (adX_lt hk).trans (adX_lt hk).symm) rfl rfl rfl rfl (fun c i => rfl)]
/-- all addresses: those made, and what may be made later -/
theorem adX_J {A : Nat → Prop} {cy : Nat → ClassId} {st : Nat → Nat} {q : List Nat} {z : Nat} (hD : va_D A (VX cy (adX q 0) st uX)) (hA : ∀ q, A q → st 100 ≤ q) (hz : st 100 ≤ z) (hlt : ∀ a, AXi (adX q 0) a → a < z) : JX (adX q z) st := by
  have key : ∀ k, (k < 73 ∧ adX q z k = adX q 0 k ∧ adX q 0 k < z ∧ st 100 ≤ adX q 0 k) ∨ (73 ≤ k ∧ adX q z k = z + k) := fun k => by
    rcases Nat.lt_or_ge k 73 with h | h
    · exact Or.inl ⟨h, (adX_lt h).trans (adX_lt h).symm, hlt _ ⟨k, h, rfl⟩, hA _ (VX_inI hD _ ⟨k, h, rfl⟩)⟩
    · exact Or.inr ⟨h, adX_ge h⟩
  refine ⟨fun i j e => ?_, fun i => ?_⟩
  · rcases key i with ⟨a1, a2, a3, a4⟩ | ⟨a1, a2⟩ <;> rcases key j with ⟨b1, b2, b3, b4⟩ | ⟨b1, b2⟩ <;> rw [a2, b2] at e
    · obtain ⟨e1, h1⟩ := VX_lk (cy := cy) (ad := adX q 0) (st := st) (u := uX) (k := i) (by show i < 73 + 2 * 0; omega)
      obtain ⟨e2, h2⟩ := VX_lk (cy := cy) (ad := adX q 0) (st := st) (u := uX) (k := j) (by show j < 73 + 2 * 0; omega)
      exact hD.1 i j _ _ h1 h2 e
    all_goals omega
  · rcases key i with ⟨a1, a2, a3, a4⟩ | ⟨a1, a2⟩ <;> rw [a2]
    · exact a4
    · omega
theorem adX_A {q : List Nat} {z a : Nat} (h : AX (adX q z) a) : AXi (adX q 0) a ∨ z ≤ a := by
  obtain ⟨k, e⟩ := h
  rcases Nat.lt_or_ge k 73 with h | h
  · exact Or.inl ⟨k, h, e.trans ((adX_lt h).trans (adX_lt h).symm)⟩
  · exact Or.inr (by rw [e, adX_ge h]; omega)
theorem okC_0 : okC 0 := fun h => absurd h (by decide)
theorem TX_0 : TXok ((0, fun _ _ => none, fun _ => 0, fun _ _ => 0) : TX) := ⟨fun _ _ _ h => (by cases h), fun _ => Nat.zero_le _, fun _ _ => okC_0⟩
theorem loX_0 (k : Nat) : loX k ≤ 0 ∧ 0 ≤ hiX k := by
  constructor
  · unfold loX; split <;> decide
  · unfold hiX; split <;> decide
theorem rlX_0 (k : Nat) : rlX k ≤ 0 ∧ 0 ≤ rhX k := by
  constructor
  · unfold rlX; split <;> decide
  · unfold rhX; split <;> decide
theorem IX_new : IX uX := by
  refine ⟨fun k => ?_, fun k i => ?_, fun i => okC_0, TX_0⟩
  · show loX k ≤ (bif Nat.beq k 3 then (3 : Int32) else 0).toInt ∧ (bif Nat.beq k 3 then (3 : Int32) else 0).toInt ≤ hiX k
    cases z : Nat.beq k 3 with
    | true => rw [Nat.eq_of_beq_eq_true z]; decide
    | false => exact loX_0 k
  · show rlX k ≤ ((bif Nat.beq k 41 then uF.2.1 0 else fun _ => 0) i).toInt ∧ ((bif Nat.beq k 41 then uF.2.1 0 else fun _ => 0) i).toInt ≤ rhX k
    cases z : Nat.beq k 41 with
    | true => rw [Nat.eq_of_beq_eq_true z]; exact ⟨Int32.le_toInt _, Int32.toInt_le _⟩
    | false => exact rlX_0 k
theorem loM_0 (k : Nat) (h2 : ¬ k = 2) (h10 : ¬ k = 10) : loM k ≤ 0 ∧ 0 ≤ hiM k := by
  constructor
  · unfold loM; split <;> first | decide | exact absurd rfl h2 | exact absurd rfl h10
  · unfold hiM; split <;> decide
theorem rlM_0 (k : Nat) : rlM k ≤ 0 ∧ 0 ≤ rhM k := by
  constructor
  · unfold rlM; split <;> decide
  · unfold rhM; split <;> decide
theorem IM_new : IM uM := by
  refine ⟨fun k => ?_, fun k i => rlM_0 k, fun i _ => by show (0 : Int32).toInt ≤ 6; decide, TX_0⟩
  show loM k ≤ (bif Nat.beq k 10 then (5 : Int32) else bif Nat.beq k 2 then 2 else 0).toInt ∧ (bif Nat.beq k 10 then (5 : Int32) else bif Nat.beq k 2 then 2 else 0).toInt ≤ hiM k
  cases z : Nat.beq k 10 with
  | true => rw [Nat.eq_of_beq_eq_true z]; decide
  | false =>
    cases y : Nat.beq k 2 with
    | true => rw [Nat.eq_of_beq_eq_true y]; decide
    | false => exact loM_0 k (fun e => by rw [e] at y; cases y) (fun e => by rw [e] at z; cases z)
theorem EvM_new : EvM uM := by
  show (0 : Int32).toInt = (0 : Int32).toInt + ((cntD (uM.2.1 33) (0 : Int32).toNatClampNeg : Nat) : Int)
  decide
