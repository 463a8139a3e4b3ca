/-! A text more. -/
def uNew (w : SX) (N : Nat) (g : Nat → Int32) : SX := (w.1, w.2.1, w.2.2.1, w.2.2.2.1, w.2.2.2.2.1 + 1, w.2.2.2.2.2.1, (fun k => if k = w.2.2.2.2.1 then N else w.2.2.2.2.2.2.1 k), (fun k => if k = w.2.2.2.2.1 then g else w.2.2.2.2.2.2.2 k))
def adNew (ad : Nat → Nat) (n q1 q2 sz : Nat) : Nat → Nat := fun j => if j < 73 + 2 * n then ad j else if j = 73 + 2 * n then q1 else if j = 73 + 2 * n + 1 then q2 else sz + j
theorem adNew_lt {ad : Nat → Nat} {n q1 q2 sz j : Nat} (h : j < 73 + 2 * n) : adNew ad n q1 q2 sz j = ad j := if_pos h
theorem adNew_A {ad : Nat → Nat} {n q1 q2 sz : Nat} : adNew ad n q1 q2 sz (tA n) = q1 := by
  show (if 73 + 2 * n < 73 + 2 * n then _ else if 73 + 2 * n = 73 + 2 * n then q1 else _) = q1
  rw [if_neg (Nat.lt_irrefl _), if_pos rfl]
theorem adNew_B {ad : Nat → Nat} {n q1 q2 sz : Nat} : adNew ad n q1 q2 sz (tB n) = q2 := by
  show (if 73 + 2 * n + 1 < 73 + 2 * n then _ else if 73 + 2 * n + 1 = 73 + 2 * n then _ else if 73 + 2 * n + 1 = 73 + 2 * n + 1 then q2 else _) = q2
  rw [if_neg (by omega), if_neg (by omega), if_pos rfl]
set_option maxHeartbeats 4000000 in
set_option maxRecDepth 100000 in
theorem VX0_cg {cy : Nat → ClassId} {ad ad' st : Nat → Nat} {u u' : SX} (h : ∀ k, k < 73 → ad' k = ad k) (h1 : u'.1 = u.1) (h2 : u'.2.1 = u.2.1) (h3 : u'.2.2.1 = u.2.2.1) (h4 : u'.2.2.2.1 = u.2.2.2.1) (hQ : ∀ c i, ((tQ u' c i).map fun k => ad' (tA k)) = ((tQ u c i).map fun k => ad (tA k))) : VX0 cy ad' st u' = VX0 cy ad st u := by
  simp only [VX0, h1, h2, h3, h4, hQ, h 0 (by decide), h 1 (by decide), h 2 (by decide), h 3 (by decide), h 4 (by decide), h 5 (by decide), h 6 (by decide), h 7 (by decide), h 8 (by decide), h 9 (by decide), h 10 (by decide), h 11 (by decide), h 12 (by decide), h 13 (by decide), h 14 (by decide), h 15 (by decide), h 16 (by decide), h 17 (by decide), h 18 (by decide), h 19 (by decide), h 20 (by decide), h 21 (by decide), h 22 (by decide), h 23 (by decide), h 24 (by decide), h 25 (by decide), h 26 (by decide), h 27 (by decide), h 28 (by decide), h 29 (by decide), h 30 (by decide), h 31 (by decide), h 32 (by decide), h 33 (by decide), h 34 (by decide), h 35 (by decide), h 36 (by decide), h 37 (by decide), h 38 (by decide), h 39 (by decide), h 40 (by decide), h 41 (by decide), h 42 (by decide), h 43 (by decide), h 44 (by decide), h 45 (by decide), h 46 (by decide), h 47 (by decide), h 48 (by decide), h 49 (by decide), h 50 (by decide), h 51 (by decide), h 52 (by decide), h 53 (by decide), h 54 (by decide), h 55 (by decide), h 56 (by decide), h 57 (by decide), h 58 (by decide), h 59 (by decide), h 60 (by decide), h 61 (by decide), h 62 (by decide), h 63 (by decide), h 64 (by decide), h 65 (by decide), h 66 (by decide), h 67 (by decide), h 68 (by decide), h 69 (by decide), h 70 (by decide), h 71 (by decide), h 72 (by decide)]
theorem txW_cg2 {cy : Nat → ClassId} {ad ad' : Nat → Nat} {t t' : TX} : ∀ (n k : Nat), (∀ j, k ≤ j → j < k + n → ad' (tA j) = ad (tA j) ∧ ad' (tB j) = ad (tB j) ∧ t'.2.2.1 j = t.2.2.1 j ∧ t'.2.2.2 j = t.2.2.2 j) → txW cy ad' t' n k = txW cy ad t n k := by
  intro n
  induction n with
  | zero => intro k _; rfl
  | succ n ih =>
    intro k h
    obtain ⟨a1, a2, a3, a4⟩ := h k (Nat.le_refl _) (by omega)
    rw [txW, txW, a1, a2, a3, a4, ih (k + 1) (fun j h1 h2 => h j (by omega) (by omega))]
theorem txW_snoc {cy : Nat → ClassId} {ad : Nat → Nat} {t : TX} : ∀ (n k : Nat), txW cy ad t (n + 1) k = txW cy ad t n k ++ [(ad (tA (k + n)), .inr (10, [.ref (ad (tB (k + n)))])), (ad (tB (k + n)), .inl (cy 0, t.2.2.1 (k + n), .inl (t.2.2.2 (k + n))))] := by
  intro n
  induction n with
  | zero => intro k; rfl
  | succ n ih =>
    intro k
    rw [txW, ih (k + 1), txW, show k + 1 + n = k + (n + 1) from by omega]
    rfl
theorem VX_new {cy : Nat → ClassId} {ad st : Nat → Nat} {w : SX} {N q1 q2 sz : Nat} {g : Nat → Int32} (hT : TXok w.2.2.2.2) : VX cy (adNew ad (tN w) q1 q2 sz) st (uNew w N g) = VX cy ad st w ++ [(q1, .inr (10, [.ref q2])), (q2, .inl (cy 0, N, .inl g))] := by
  have e0 : VX0 cy (adNew ad (tN w) q1 q2 sz) st (uNew w N g) = VX0 cy ad st w := VX0_cg (fun k hk => adNew_lt (by omega)) rfl rfl rfl rfl (fun c i => by
    show ((tQ w c i).map fun k => adNew ad (tN w) q1 q2 sz (tA k)) = _
    cases hz : tQ w c i with
    | none => rfl
    | some k =>
      have hk : k < tN w := hT.1 c i k hz
      show some (adNew ad (tN w) q1 q2 sz (tA k)) = some (ad (tA k))
      rw [adNew_lt (by show 73 + 2 * k < 73 + 2 * tN w; omega)])
  have e1 : txW cy (adNew ad (tN w) q1 q2 sz) (uNew w N g).2.2.2.2 (tN w + 1) 0 = txW cy ad w.2.2.2.2 (tN w) 0 ++ [(q1, .inr (10, [.ref q2])), (q2, .inl (cy 0, N, .inl g))] := by
    rw [txW_snoc, Nat.zero_add, adNew_A, adNew_B]
    rw [txW_cg2 (ad := ad) (t := w.2.2.2.2) (tN w) 0 (fun j _ hj => ⟨adNew_lt (by show 73 + 2 * j < 73 + 2 * tN w; omega), adNew_lt (by show 73 + 2 * j + 1 < 73 + 2 * tN w; omega), if_neg (by show ¬ j = tN w; omega), if_neg (by show ¬ j = tN w; omega)⟩)]
    have f1 : (uNew w N g).2.2.2.2.2.2.1 (tN w) = N := if_pos rfl
    have f2 : (uNew w N g).2.2.2.2.2.2.2 (tN w) = g := if_pos rfl
    rw [f1, f2]
  show VX0 cy (adNew ad (tN w) q1 q2 sz) st (uNew w N g) ++ txW cy (adNew ad (tN w) q1 q2 sz) (uNew w N g).2.2.2.2 (tN w + 1) 0 = (VX0 cy ad st w ++ txW cy ad w.2.2.2.2 (tN w) 0) ++ _
  rw [e0, e1, List.append_assoc]
/-- the addresses stay apart -/
theorem adNew_J {D : va_G} {cy : Nat → ClassId} {ad st : Nat → Nat} {w : SX} {q1 q2 sz0 : Nat} {H H1 : Heap} (hJ : JX ad st) (hP : va_P D vwCl (VX cy ad st w) H) (hz : H.size ≤ sz0) (h1 : sz0 ≤ q1) (h2 : sz0 ≤ q2) (hne : q1 ≠ q2) (h3 : q1 < H1.size) (h4 : q2 < H1.size) (hst : st 100 ≤ sz0) : JX (adNew ad (tN w) q1 q2 H1.size) st := by
  have hlt : ∀ j, j < 73 + 2 * tN w → ad j < sz0 := fun j hj => by
    obtain ⟨x, hx⟩ : ∃ x, (VX cy ad st w)[j]? = some x := ⟨_, List.getElem?_eq_getElem (by rw [VX_len]; exact hj)⟩
    have := (hP j x hx).lt
    rw [(VX_adr hx).1] at this
    omega
  have key : ∀ j, (j < 73 + 2 * tN w ∧ adNew ad (tN w) q1 q2 H1.size j = ad j ∧ ad j < sz0) ∨ (j = 73 + 2 * tN w ∧ adNew ad (tN w) q1 q2 H1.size j = q1) ∨ (j = 73 + 2 * tN w + 1 ∧ adNew ad (tN w) q1 q2 H1.size j = q2) ∨ (73 + 2 * tN w + 1 < j ∧ adNew ad (tN w) q1 q2 H1.size j = H1.size + j) := fun j => by
    by_cases a : j < 73 + 2 * tN w
    · exact Or.inl ⟨a, adNew_lt a, hlt j a⟩
    · by_cases b : j = 73 + 2 * tN w
      · exact Or.inr (Or.inl ⟨b, by rw [b]; exact adNew_A⟩)
      · by_cases c : j = 73 + 2 * tN w + 1
        · exact Or.inr (Or.inr (Or.inl ⟨c, by rw [c]; exact adNew_B⟩))
        · refine Or.inr (Or.inr (Or.inr ⟨by omega, ?_⟩))
          show (if j < 73 + 2 * tN w then _ else if j = 73 + 2 * tN w then _ else if j = 73 + 2 * tN w + 1 then _ else H1.size + j) = _
          rw [if_neg a, if_neg b, if_neg c]
  refine ⟨fun i j e => ?_, fun i => ?_⟩
  · rcases key i with ⟨a1, a2, a3⟩ | ⟨a1, a2⟩ | ⟨a1, a2⟩ | ⟨a1, a2⟩ <;> rcases key j with ⟨b1, b2, b3⟩ | ⟨b1, b2⟩ | ⟨b1, b2⟩ | ⟨b1, b2⟩ <;> rw [a2, b2] at e
    · exact hJ.1 i j e
    all_goals omega
  · rcases key i with ⟨a1, a2, a3⟩ | ⟨a1, a2⟩ | ⟨a1, a2⟩ | ⟨a1, a2⟩ <;> rw [a2]
    · exact hJ.2 i
    all_goals omega
