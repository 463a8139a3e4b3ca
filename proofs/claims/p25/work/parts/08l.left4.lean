/-! left. -/
def OKf (u : SX) (x1 x2 x3 : Int32) : Prop := 0 ≤ x2.toInt ∧ x2.toInt ≤ (u.1 0).toInt ∧ 0 ≤ x3.toInt ∧ x3.toInt ≤ 1 ∧ 0 ≤ x1.toInt ∧ x1.toInt < (u.1 13).toInt ∧ (u.2.1 37 x1.toNatClampNeg).toInt ≤ x2.toInt
theorem leftX {x1 x2 x3 r : Int32} {u u' : SX} (h : fX11_left_0 x1 x2 x3 u = some (r, u')) : (¬ OKf u x1 x2 x3 ∧ r = -100000000 ∧ u' = u) ∨ (OKf u x1 x2 x3 ∧ ∃ s : Int32, fX7_recall_7 x2 u = some (s, u') ∧ r = if x3 = 0 then u'.2.1 38 x1.toNatClampNeg else u'.2.1 39 x1.toNatClampNeg) := by
  unfold fX11_left_0 at h
  have no : some ((-100000000 : Int32), u) = some (r, u') → ¬ OKf u x1 x2 x3 → (¬ OKf u x1 x2 x3 ∧ r = -100000000 ∧ u' = u) ∨ (OKf u x1 x2 x3 ∧ ∃ s : Int32, fX7_recall_7 x2 u = some (s, u') ∧ r = if x3 = 0 then u'.2.1 38 x1.toNatClampNeg else u'.2.1 39 x1.toNatClampNeg) := fun g z => by
    have e : (-100000000 : Int32) = r ∧ u = u' := by cases g; exact ⟨rfl, rfl⟩
    exact Or.inl ⟨z, e.1.symm, e.2.symm⟩
  obtain ⟨⟨r1, u2⟩, a1, h⟩ := bd_some h
  obtain ⟨e1, k1⟩ := isDayi a1
  rw [e1] at h
  have h : (if r1 = 0 then (some ((-100000000), u)) else _) = some (r, u') := h
  rcases k1 with ⟨z, k1⟩ | ⟨z, k1, k1'⟩
  · rw [if_pos z] at h
    exact no h (fun q => k1 ⟨q.1, q.2.1⟩)
  · rw [if_neg (ne01 z)] at h
    obtain ⟨r4, a4, h⟩ := bd_some h
    rcases eith a4 with ⟨z, k4⟩ | ⟨z, k4, k4'⟩
    · rw [if_pos z] at h
      exact no h (fun q => k4 ⟨q.2.2.1, q.2.2.2.1⟩)
    · rw [if_neg (ne01 z)] at h
      obtain ⟨⟨r7, u8⟩, a7, h⟩ := bd_some h
      obtain ⟨e7, k7⟩ := has7i a7
      rw [e7] at h
      have h : (if r7 = 0 then (some ((-100000000), u)) else (gd (inb x1 80) _)) = some (r, u') := h
      rcases k7 with ⟨z, k7⟩ | ⟨z, k7, k7'⟩
      · rw [if_pos z] at h
        exact no h (fun q => k7 ⟨q.2.2.2.2.1, q.2.2.2.2.2.1⟩)
      · rw [if_neg (ne01 z)] at h
        obtain ⟨-, h⟩ := gd_some h
        by_cases c : u.2.1 37 x1.toNatClampNeg ≤ x2
        · rw [if_pos c] at h
          have c9 := leI c
          obtain ⟨⟨r11, u12⟩, a11, h⟩ := bd_some h
          refine Or.inr ⟨⟨k1, k1', k4, k4', k7, k7', c9⟩, r11, ?_⟩
          have h : (if x3 = 0 then (gd (inb x1 80) (some (u12.2.1 38 x1.toNatClampNeg, u12))) else (gd (inb x1 80) (some (u12.2.1 39 x1.toNatClampNeg, u12)))) = some (r, u') := h
          by_cases d : x3 = 0
          · rw [if_pos d] at h ⊢
            have e : u12.2.1 38 x1.toNatClampNeg = r ∧ u12 = u' := by cases (gd_some h).2; exact ⟨rfl, rfl⟩
            rw [← e.1, ← e.2]
            exact ⟨a11, rfl⟩
          · rw [if_neg d] at h ⊢
            have e : u12.2.1 39 x1.toNatClampNeg = r ∧ u12 = u' := by cases (gd_some h).2; exact ⟨rfl, rfl⟩
            rw [← e.1, ← e.2]
            exact ⟨a11, rfl⟩
        · rw [if_neg c] at h
          have c9 := nleI c
          exact no h (fun q => c9 q.2.2.2.2.2.2)
def OKg (v : SX) (x1 x2 x3 : Int32) : Prop := 0 ≤ x2.toInt ∧ x2.toInt ≤ (v.1 1).toInt ∧ 0 ≤ x3.toInt ∧ x3.toInt ≤ 1 ∧ 0 ≤ x1.toInt ∧ x1.toInt < (v.1 15).toInt ∧ (v.2.1 21 x1.toNatClampNeg).toInt ≤ x2.toInt
theorem leftM {x1 x2 x3 r : Int32} {v v' : SX} (h : fX12_left_0 x1 x2 x3 v = some (r, v')) : (¬ OKg v x1 x2 x3 ∧ r = -100000000) ∨ (OKg v x1 x2 x3 ∧ ∃ (s t : Int32) (w : SX), fX12_laySpansOf_0 x2 (sI v 0 0) = some (s, w) ∧ fX12_layLeft_0 x1 x2 w = some (t, v') ∧ r = if x3 = 0 then v'.1 16 else v'.1 17) := by
  unfold fX12_left_0 at h
  obtain ⟨v1, e1, h⟩ := lt_some h
  rw [← e1]
  have f1 : v1.1 1 = v.1 1 := by rw [e1]; rfl
  have f15 : v1.1 15 = v.1 15 := by rw [e1]; rfl
  have f21 : v1.2.1 21 = v.2.1 21 := by rw [e1]; rfl
  clear e1
  unfold OKg
  rw [← f1, ← f15, ← f21]
  have no : ∀ w : SX, some ((-100000000 : Int32), w) = some (r, v') → r = -100000000 := fun w g => by
    cases g; rfl
  obtain ⟨⟨r3, u4⟩, a3, h⟩ := bd_some h
  obtain ⟨e3, k3⟩ := isRi a3
  rw [e3] at h
  have h : (if r3 = 0 then (some ((-100000000), v1)) else (gd (inb x1 80) _)) = some (r, v') := h
  rcases k3 with ⟨z, k3⟩ | ⟨z, k3, k3'⟩
  · rw [if_pos z] at h
    exact Or.inl ⟨fun q => k3 ⟨q.2.2.2.2.1, q.2.2.2.2.2.1⟩, no _ h⟩
  · rw [if_neg (ne01 z)] at h
    obtain ⟨-, h⟩ := gd_some h
    obtain ⟨⟨r7, u8⟩, a7, h⟩ := bd_some h
    obtain ⟨e7, k7⟩ := isKni a7
    rw [e7] at h
    have h : (if r7 = 0 then (some ((-100000000), v1)) else _) = some (r, v') := h
    rcases k7 with ⟨z, k7⟩ | ⟨z, k7, k7', k7''⟩
    · rw [if_pos z] at h
      exact Or.inl ⟨fun q => k7 ⟨q.1, q.2.1, q.2.2.2.2.2.2⟩, no _ h⟩
    · rw [if_neg (ne01 z)] at h
      obtain ⟨r10, a10, h⟩ := bd_some h
      rcases inn a10 with ⟨z, k10⟩ | ⟨z, k10, k10'⟩
      · rw [if_pos z] at h
        exact Or.inl ⟨fun q => k10 ⟨q.2.2.1, q.2.2.2.1⟩, no _ h⟩
      · rw [if_neg (ne01 z)] at h
        obtain ⟨⟨r13, u14⟩, a13, h⟩ := bd_some h
        obtain ⟨⟨r16, u17⟩, a16, h⟩ := bd_some h
        have h : (if x3 = 0 then (some (u17.1 16, u17)) else (some (u17.1 17, u17))) = some (r, v') := h
        refine Or.inr ⟨⟨k7, k7', k10, k10', k3, k3', k7''⟩, r13, r16, u14, a13, ?_⟩
        by_cases d : x3 = 0
        · rw [if_pos d] at h ⊢
          have e : u17.1 16 = r ∧ u17 = v' := by cases h; exact ⟨rfl, rfl⟩
          rw [← e.1, ← e.2]
          exact ⟨a16, rfl⟩
        · rw [if_neg d] at h ⊢
          have e : u17.1 17 = r ∧ u17 = v' := by cases h; exact ⟨rfl, rfl⟩
          rw [← e.1, ← e.2]
          exact ⟨a16, rfl⟩
theorem MR_0 {u v : SX} (h : MR u v) : MR u (sI v 0 0) := MR_md (mm := ([0], [], [], [])) (StM_sI (md := ([0], [], [], [])) (StM_rf h.1) (by decide) (by decide) (by decide)).1 (FrM_sI FrM_rf (by decide)) (by decide) h
theorem left_eq {x1 x2 x3 r r' : Int32} {u u' v v' : SX} (hR : RW u) (hK : CK u) (ht : Tie u v) (hM : MR u v) (h1 : fX11_left_0 x1 x2 x3 u = some (r, u')) (h2 : fX12_left_0 x1 x2 x3 v = some (r', v')) : r = r' ∧ RW u' ∧ CK u' := by
  have hG := hM.2.2.2.2
  have hS := hM.2.2.1
  have b0 : (u.1 0).toInt ≤ (120 : Int) := (hR.1.1 0).2
  have ok : OKf u x1 x2 x3 ↔ OKg v x1 x2 x3 := by
    unfold OKf OKg
    rw [← ht.1, ← ht.2.2.2.2.2]
    constructor
    · rintro ⟨q1, q2, q3, q4, q5, q6, q7⟩
      obtain ⟨a, -⟩ := hG.1 x1.toNatClampNeg (by show ((x1.toInt.toNat : Nat) : Int) < _; omega)
      rw [← a]
      exact ⟨q1, q2, q3, q4, q5, q6, q7⟩
    · rintro ⟨q1, q2, q3, q4, q5, q6, q7⟩
      obtain ⟨a, -⟩ := hG.1 x1.toNatClampNeg (by show ((x1.toInt.toNat : Nat) : Int) < _; omega)
      rw [a]
      exact ⟨q1, q2, q3, q4, q5, q6, q7⟩
  rcases leftX h1 with ⟨n1, g1, g2⟩ | ⟨o1, s1, a1, g1⟩
  · rcases leftM h2 with ⟨n2, g3⟩ | ⟨o2, -⟩
    · rw [g1, g3, g2]
      exact ⟨rfl, hR, hK⟩
    · exact absurd (ok.mpr o2) n1
  · rcases leftM h2 with ⟨n2, -⟩ | ⟨o2, s2, t2, w, a2, a3, g3⟩
    · exact absurd (ok.mp o1) n2
    · obtain ⟨q1, q2, q3, q4, q5, q6, q7⟩ := o1
      obtain ⟨R', K', F', k15, k16, U10, U11, U14⟩ := recall7_sp hR hK q1 (by omega) a1
      refine ⟨?_, R', K'⟩
      obtain ⟨M1, S1, -, -⟩ := layOf_SP (MR_0 hM) q1 (by omega) U11 a2
      obtain ⟨-, -, -, e, -⟩ := layLeft_sp hR.1 hR.2.2.1 M1 S1 U10 q1 (by omega) q5 q6 a3
      have hn : ((x1.toNatClampNeg : Nat) : Int) < (u.1 13).toInt := by
        show ((x1.toInt.toNat : Nat) : Int) < _
        omega
      have hk : ((x1.toNatClampNeg : Nat) : Int) < (u'.1 14).toInt := UpTo_in hG.2 U14 hn q7
      have e1 := K'.2.2.2 _ hk
      rw [k15, k16, lfX_md F' (by decide)] at e1
      have e2 : (u'.2.1 38 x1.toNatClampNeg, u'.2.1 39 x1.toNatClampNeg) = (v'.1 16, v'.1 17) := e1.trans e.symm
      have f1 : u'.2.1 38 x1.toNatClampNeg = v'.1 16 := congrArg Prod.fst e2
      have f2 : u'.2.1 39 x1.toNatClampNeg = v'.1 17 := congrArg Prod.snd e2
      rw [g1, g3, f1, f2]
