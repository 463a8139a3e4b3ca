/-- a new object: its numbers -/
def uX : SX := (fun k => bif Nat.beq k 3 then 3 else 0, fun a => bif Nat.beq a 41 then uF.2.1 0 else fun _ => 0, fun _ => 0, fun _ _ => 0)
set_option maxHeartbeats 8000000 in
set_option maxRecDepth 100000 in
theorem atX11_V (cy : Nat → ClassId) (st : Nat → Nat) (h0 : Nat) (q : Nat × Nat × Nat × Nat × Nat × Nat × Nat × Nat × Nat × Nat × Nat × Nat × Nat × Nat × Nat × Nat × Nat × Nat × Nat × Nat × Nat × Nat × Nat × Nat × Nat × Nat × Nat × Nat × Nat × Nat × Nat × Nat × Nat × Nat × Nat × Nat × Nat × Nat × Nat × Nat × Nat × Nat × Nat × Nat × Nat × Nat × Nat × Nat × Nat × Nat × Nat × Nat × Nat × Nat × Nat × Nat × Nat × Nat × Nat × Nat × Nat × Nat × Nat × Nat × Nat × Nat × Nat × Nat × Nat × Nat × Nat × Nat) : ∃ ad : Nat → Nat, ad 0 = h0 ∧ (∀ (D : va_G) (H : Heap), va_P D vwCl (atX11 cy st h0 q) H → va_P D vwCl (VX cy ad st uX) H) ∧ ∀ A : Nat → Prop, va_D A (atX11 cy st h0 q) → va_D A (VX cy ad st uX) := by
  obtain ⟨h1, q2, h3, q4, h5, q6, q7, q8, h9, q10, q11, q12, h13, q14, q15, q16, h17, q18, q19, q20, q21, q22, q23, q24, q25, q26, q27, q28, q29, h30, q31, q32, q33, q34, q35, q36, h37, q38, q39, q40, q41, h42, q43, q44, h45, q46, q47, q48, q49, q50, q51, q52, q53, q54, q55, q56, h57, q58, q59, q60, q61, q62, q63, q64, q65, q66, q67, q68, q69, h70, q71, q72⟩ := q
  refine ⟨fun k => List.getD [h0, h1, h3, h5, h9, h13, h17, h30, h37, h42, h45, h57, h70, q2, q4, q7, q8, q6, q11, q12, q10, q15, q16, q14, q18, q19, q20, q21, q22, q23, q24, q25, q26, q27, q28, q29, q31, q32, q33, q34, q35, q36, q38, q39, q40, q41, q43, q44, q46, q47, q48, q49, q50, q51, q52, q53, q54, q55, q56, q58, q59, q60, q61, q62, q63, q64, q65, q66, q67, q68, q69, q71, q72] k 0, rfl, fun D H h => h.sub [0, 1, 3, 5, 9, 13, 17, 30, 37, 42, 45, 57, 70, 2, 4, 7, 8, 6, 11, 12, 10, 15, 16, 14, 18, 19, 20, 21, 22, 23, 24, 25, 26, 27, 28, 29, 31, 32, 33, 34, 35, 36, 38, 39, 40, 41, 43, 44, 46, 47, 48, 49, 50, 51, 52, 53, 54, 55, 56, 58, 59, 60, 61, 62, 63, 64, 65, 66, 67, 68, 69, 71, 72] rfl, fun A h => h.sub [0, 1, 3, 5, 9, 13, 17, 30, 37, 42, 45, 57, 70, 2, 4, 7, 8, 6, 11, 12, 10, 15, 16, 14, 18, 19, 20, 21, 22, 23, 24, 25, 26, 27, 28, 29, 31, 32, 33, 34, 35, 36, 38, 39, 40, 41, 43, 44, 46, 47, 48, 49, 50, 51, 52, 53, 54, 55, 56, 58, 59, 60, 61, 62, 63, 64, 65, 66, 67, 68, 69, 71, 72] (by decide) rfl⟩
theorem VX_at {cy : Nat → ClassId} {ad st : Nat → Nat} {u : SX} {k : Nat} (hk : k < 73) : ∃ e, (VX cy ad st u)[k]? = some (ad k, e) := by
  have h1 : ((VX cy ad st u).map (fun q => q.1))[k]? = some (ad k) := by
    rw [VX_ad, List.getElem?_map, List.getElem?_range hk]; rfl
  rw [List.getElem?_map] at h1
  cases hq : (VX cy ad st u)[k]? with
  | none => rw [hq] at h1; cases h1
  | some q =>
    rw [hq] at h1
    obtain ⟨q1, q2⟩ := q
    cases h1
    exact ⟨q2, rfl⟩
theorem VX_J {A : Nat → Prop} {cy : Nat → ClassId} {ad st : Nat → Nat} {u : SX} (h : va_D A (VX cy ad st u)) : JX ad := fun i j hi hj e => by
  obtain ⟨e1, h1⟩ := VX_at (cy := cy) (ad := ad) (st := st) (u := u) hi
  obtain ⟨e2, h2⟩ := VX_at (cy := cy) (ad := ad) (st := st) (u := u) hj
  exact h.1 i j _ _ h1 h2 e
theorem VX_in {A : Nat → Prop} {cy : Nat → ClassId} {ad st : Nat → Nat} {u : SX} (h : va_D A (VX cy ad st u)) : ∀ q, AX ad q → A q := fun q ⟨k, hk, e⟩ => by
  obtain ⟨e1, h1⟩ := VX_at (cy := cy) (ad := ad) (st := st) (u := u) hk
  rw [e]
  exact h.2 k _ h1
theorem VX_mem {cy : Nat → ClassId} {ad st : Nat → Nat} {u : SX} {k : Nat} {q : Nat × va_E} (h : (VX cy ad st u)[k]? = some q) : AX ad q.1 := by
  have h1 : ((VX cy ad st u).map (fun q => q.1))[k]? = some q.1 := by rw [List.getElem?_map, h]; rfl
  rw [VX_ad, List.getElem?_map] at h1
  rcases Nat.lt_or_ge k 73 with z | z
  · rw [List.getElem?_range z] at h1
    exact ⟨k, z, (Option.some.inj h1).symm⟩
  · rw [List.getElem?_eq_none (by simpa using z)] at h1
    cases h1
/-- a new object: its numbers -/
def uM : SX := (fun k => bif Nat.beq k 10 then 5 else bif Nat.beq k 2 then 2 else 0, fun a => fun _ => 0, fun _ => 0, fun _ _ => 0)
set_option maxHeartbeats 8000000 in
set_option maxRecDepth 100000 in
theorem atX12_V (cy : Nat → ClassId) (st : Nat → Nat) (h0 : Nat) (q : Nat × Nat × Nat × Nat × Nat × Nat × Nat × Nat × Nat × Nat × Nat × Nat × Nat × Nat × Nat × Nat × Nat × Nat × Nat × Nat × Nat × Nat × Nat × Nat × Nat × Nat × Nat × Nat × Nat × Nat × Nat × Nat × Nat × Nat × Nat × Nat × Nat × Nat × Nat × Nat × Nat × Nat × Nat) : ∃ ad : Nat → Nat, ad 0 = h0 ∧ (∀ (D : va_G) (H : Heap), va_P D vwCl (atX12 cy st h0 q) H → va_P D vwCl (VM cy ad st uM) H) ∧ ∀ A : Nat → Prop, va_D A (atX12 cy st h0 q) → va_D A (VM cy ad st uM) := by
  obtain ⟨q1, q2, q3, q4, q5, q6, q7, q8, q9, q10, q11, q12, q13, q14, q15, q16, q17, q18, q19, q20, q21, q22, q23, q24, q25, q26, q27, q28, q29, q30, q31, q32, q33, q34, q35, q36, q37, q38, q39, q40, q41, q42, q43⟩ := q
  refine ⟨fun k => List.getD [h0, q1, q2, q3, q4, q5, q6, q7, q8, q9, q10, q11, q12, q13, q14, q15, q16, q17, q18, q19, q20, q21, q22, q23, q24, q25, q26, q27, q28, q29, q30, q31, q32, q33, q34, q35, q36, q37, q38, q39, q40, q41, q42, q43] k 0, rfl, fun D H h => h.sub [0, 1, 2, 3, 4, 5, 6, 7, 8, 9, 10, 11, 12, 13, 14, 15, 16, 17, 18, 19, 20, 21, 22, 23, 24, 25, 26, 27, 28, 29, 30, 31, 32, 33, 34, 35, 36, 37, 38, 39, 40, 41, 42, 43] rfl, fun A h => h.sub [0, 1, 2, 3, 4, 5, 6, 7, 8, 9, 10, 11, 12, 13, 14, 15, 16, 17, 18, 19, 20, 21, 22, 23, 24, 25, 26, 27, 28, 29, 30, 31, 32, 33, 34, 35, 36, 37, 38, 39, 40, 41, 42, 43] (by decide) rfl⟩
theorem VM_at {cy : Nat → ClassId} {ad st : Nat → Nat} {u : SX} {k : Nat} (hk : k < 44) : ∃ e, (VM cy ad st u)[k]? = some (ad k, e) := by
  have h1 : ((VM cy ad st u).map (fun q => q.1))[k]? = some (ad k) := by
    rw [VM_ad, List.getElem?_map, List.getElem?_range hk]; rfl
  rw [List.getElem?_map] at h1
  cases hq : (VM cy ad st u)[k]? with
  | none => rw [hq] at h1; cases h1
  | some q =>
    rw [hq] at h1
    obtain ⟨q1, q2⟩ := q
    cases h1
    exact ⟨q2, rfl⟩
theorem VM_J {A : Nat → Prop} {cy : Nat → ClassId} {ad st : Nat → Nat} {u : SX} (h : va_D A (VM cy ad st u)) : JM ad := fun i j hi hj e => by
  obtain ⟨e1, h1⟩ := VM_at (cy := cy) (ad := ad) (st := st) (u := u) hi
  obtain ⟨e2, h2⟩ := VM_at (cy := cy) (ad := ad) (st := st) (u := u) hj
  exact h.1 i j _ _ h1 h2 e
theorem VM_in {A : Nat → Prop} {cy : Nat → ClassId} {ad st : Nat → Nat} {u : SX} (h : va_D A (VM cy ad st u)) : ∀ q, AM ad q → A q := fun q ⟨k, hk, e⟩ => by
  obtain ⟨e1, h1⟩ := VM_at (cy := cy) (ad := ad) (st := st) (u := u) hk
  rw [e]
  exact h.2 k _ h1
theorem VM_mem {cy : Nat → ClassId} {ad st : Nat → Nat} {u : SX} {k : Nat} {q : Nat × va_E} (h : (VM cy ad st u)[k]? = some q) : AM ad q.1 := by
  have h1 : ((VM cy ad st u).map (fun q => q.1))[k]? = some q.1 := by rw [List.getElem?_map, h]; rfl
  rw [VM_ad, List.getElem?_map] at h1
  rcases Nat.lt_or_ge k 44 with z | z
  · rw [List.getElem?_range z] at h1
    exact ⟨k, z, (Option.some.inj h1).symm⟩
  · rw [List.getElem?_eq_none (by simpa using z)] at h1
    cases h1
