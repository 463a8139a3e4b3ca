/-! The reference lets a day pass, as a whole. -/
theorem pas54 {k132 : SX → Option (Int32 × SX)} {z1 z2 r : Int32} {v' : SX} (hz9 : z2.toInt ≤ 61) : ∀ (n : Nat) (z3 : Int32) (v : SX), IM v → 0 ≤ z3.toInt → z3.toInt ≤ z2.toInt → LX12_passes_0_54 k132 n z1 z2 z3 v = some (r, v') → ∃ w : SX, StM md43 v w ∧ k132 w = some (r, v') ∧ ∀ h x : Nat, x < 60 → (cp w h x ↔ (cp v h x ∨ ∃ i : Nat, z3.toNatClampNeg ≤ i ∧ (i : Int) < z2.toInt ∧ (v.2.1 41 i).toInt = z1.toInt ∧ (v.2.1 40 i).toInt = (h : Int) ∧ kn v (v.2.1 39 i).toNatClampNeg x)) := by
  intro n
  induction n with
  | zero => intro z3 v _ _ _ h; cases h
  | succ n ih =>
    intro z3 v hJ h0 h9 h
    have h : (if z2 ≤ z3 then (k132 v) else (gd (inb z3 61) (if (v.2.1 41 z3.toNatClampNeg) = z1 then (LX12_passes_0_75 (GX12_passes_0_126 (LX12_passes_0_54 k132 n)) 5000 z1 z2 z3 0 v) else (LX12_passes_0_54 k132 n z1 z2 (z3 + 1) v)))) = some (r, v') := h
    have t3 := tn h0
    by_cases c : z2 ≤ z3
    · rw [if_pos c] at h
      have c9 := leI c
      exact ⟨v, StM_rf hJ, h, fun k x hx => ⟨Or.inl, fun g => g.elim id (fun ⟨i, g1, g2, _⟩ => by omega)⟩⟩
    · rw [if_neg c] at h
      have c9 := nleI c
      have et : (z3 + 1).toInt = z3.toInt + 1 := addc_t (by decide) (by omega) (by omega)
      have en := ns1 h0 (show z3.toInt ≤ 5000 by omega)
      have n0 : (0 : Int32).toNatClampNeg = 0 := rfl
      obtain ⟨-, h⟩ := gd_some h
      by_cases cd : v.2.1 41 z3.toNatClampNeg = z1
      · rw [if_pos cd] at h
        obtain ⟨w, sw, bw, qw⟩ := pas75 h0 5000 0 v hJ (by decide) (by decide) h
        unfold GX12_passes_0_126 at bw
        obtain ⟨y, sy, by', qy⟩ := ih (z3 + 1) w sw.1 (by rw [et]; omega) (by rw [et]; omega) bw
        have w39 : w.2.1 39 = v.2.1 39 := sw.2.2.1 39 (by decide)
        have w40 : w.2.1 40 = v.2.1 40 := sw.2.2.1 40 (by decide)
        have w41 : w.2.1 41 = v.2.1 41 := sw.2.2.1 41 (by decide)
        refine ⟨y, StM_tr sw sy (by decide), by', fun k x hx => ?_⟩
        rw [qy k x hx, qw k x hx, en, w39, w40, w41]
        have o0 : (0 : Int) ≤ (v.2.1 40 z3.toNatClampNeg).toInt := (hJ.2.1 40 _).1
        have to := tn o0
        constructor
        · rintro ((g | ⟨-, g2, g3⟩) | ⟨i, g1, g2, g3, g4, g5⟩)
          · exact Or.inl g
          · exact Or.inr ⟨z3.toNatClampNeg, Nat.le_refl _, by omega, by rw [cd], by omega, g3⟩
          · exact Or.inr ⟨i, by omega, g2, g3, g4, (kn_fr sw).mp g5⟩
        · rintro (g | ⟨i, g1, g2, g3, g4, g5⟩)
          · exact Or.inl (Or.inl g)
          · by_cases ci : i = z3.toNatClampNeg
            · rw [ci] at g4 g5
              exact Or.inl (Or.inr ⟨by omega, by omega, g5⟩)
            · exact Or.inr ⟨i, by omega, g2, g3, g4, (kn_fr sw).mpr g5⟩
      · rw [if_neg cd] at h
        obtain ⟨y, sy, by', qy⟩ := ih (z3 + 1) v hJ (by rw [et]; omega) (by rw [et]; omega) h
        refine ⟨y, sy, by', fun k x hx => ?_⟩
        rw [qy k x hx, en]
        constructor
        · rintro (g | ⟨i, g1, g2⟩)
          · exact Or.inl g
          · exact Or.inr ⟨i, by omega, g2⟩
        · rintro (g | ⟨i, g1, g2, g3, g4⟩)
          · exact Or.inl g
          · refine Or.inr ⟨i, ?_, g2, g3, g4⟩
            by_cases ci : i = z3.toNatClampNeg
            · rw [ci] at g3
              exact absurd (Int32.toInt.inj g3) cd
            · omega
abbrev md42 : MD := ([], [42], [], [])
theorem pas134 {r : Int32} {v' : SX} : ∀ (n : Nat) (z3 : Int32) (v : SX), IM v → 0 ≤ z3.toInt → z3.toInt ≤ 480 → LX12_passes_0_134 n z3 v = some (r, v') → StM md42 v v' ∧ (∀ j : Nat, j < z3.toNatClampNeg → v'.2.1 42 j = v.2.1 42 j) ∧ ∀ j : Nat, z3.toNatClampNeg ≤ j → j < 480 → v'.2.1 42 j = v.2.1 43 j := by
  intro n
  induction n with
  | zero => intro z3 v _ _ _ h; cases h
  | succ n ih =>
    intro z3 v hJ h0 h9 h
    have h : (if 480 ≤ z3 then (some (0, v)) else (gd (inb z3 480) (gd (inb z3 480) (lt (sA v 42 (upd (v.2.1 42) z3.toNatClampNeg (vp_nar .boolean (v.2.1 43 z3.toNatClampNeg)))) fun u16 => ((LX12_passes_0_134 n) (z3 + 1) u16))))) = some (r, v') := h
    have t3 := tn h0
    by_cases c : 480 ≤ z3
    · rw [if_pos c] at h
      have c9 : (480 : Int) ≤ z3.toInt := leI c
      have e : v = v' := by cases h; rfl
      rw [← e]
      exact ⟨StM_rf hJ, fun _ _ => rfl, fun j g1 g2 => by omega⟩
    · rw [if_neg c] at h
      have c9 : ¬ (480 : Int) ≤ z3.toInt := nleI c
      have et : (z3 + 1).toInt = z3.toInt + 1 := addc_t (by decide) (by omega) (by omega)
      have en := ns1 h0 (show z3.toInt ≤ 5000 by omega)
      obtain ⟨-, h⟩ := gd_some h
      obtain ⟨-, h⟩ := gd_some h
      obtain ⟨u16, j16, h⟩ := lt_some h
      have b0 : (0 : Int) ≤ (v.2.1 43 z3.toNatClampNeg).toInt := (hJ.2.1 43 _).1
      have b9 : (v.2.1 43 z3.toNatClampNeg).toInt ≤ (1 : Int) := (hJ.2.1 43 _).2
      rw [narB b0 b9] at j16
      have s16 : StM md42 v u16 := by
        rw [j16]
        exact StM_sA (StM_rf hJ) (by decide) b0 b9 (by decide)
      have c16 : ∀ j : Nat, u16.2.1 42 j = if j = z3.toNatClampNeg then v.2.1 43 z3.toNatClampNeg else v.2.1 42 j := by
        intro j
        rw [j16]
        rfl
      obtain ⟨s1, p1, q1⟩ := ih (z3 + 1) u16 s16.1 (by rw [et]; omega) (by rw [et]; omega) h
      refine ⟨StM_tr s16 s1 (by decide), ?_, ?_⟩
      · intro j hj
        rw [p1 j (by omega), c16, if_neg (by omega)]
      · intro j g1 g2
        by_cases cj : j = z3.toNatClampNeg
        · rw [p1 j (by omega), c16, if_pos cj, cj]
        · rw [q1 j (by omega) g2, show u16.2.1 43 = v.2.1 43 from s16.2.2.1 43 (by decide)]
theorem passes_sp {x1 x2 r : Int32} {v v' : SX} (hJ : IM v) (d0 : 0 ≤ x1.toInt) (d9 : x1.toInt ≤ 120) (n0 : 0 ≤ x2.toInt) (n9 : x2.toInt ≤ 61) (h : fX12_passes_0 x1 x2 v = some (r, v')) : StM mdX12_passes_0 v v' ∧ ∀ k x : Nat, (k : Int) < (v.1 22).toInt → x < 60 → (kn v' k x ↔ (kn v k x ∨ TN v x1.toNatClampNeg k x ∨ ∃ i : Nat, (i : Int) < x2.toInt ∧ (v.2.1 41 i).toInt = x1.toInt ∧ (v.2.1 40 i).toInt = (k : Int) ∧ kn v (v.2.1 39 i).toNatClampNeg x)) := by
  have hs : StM mdX12_passes_0 v v' := (Tot_at (tfX12_passes_0 x1 x2 v hJ ⟨d0, d9⟩ ⟨n0, n9⟩) h).1
  refine ⟨hs, ?_⟩
  unfold fX12_passes_0 at h
  have b22 : (0 : Int) ≤ (v.1 22).toInt := (hJ.1 22).1
  have c22 : (v.1 22).toInt ≤ (8 : Int) := (hJ.1 22).2
  have z0 : (0 : Int32).toNatClampNeg = 0 := rfl
  obtain ⟨w, sw, bw, -, qw⟩ := pas2 d0 5000 0 v hJ (by decide) b22 h
  unfold GX12_passes_0_52 at bw
  obtain ⟨y, sy, by', qy⟩ := pas54 n9 5000 0 w sw.1 (by decide) n0 bw
  unfold GX12_passes_0_132 at by'
  obtain ⟨-, -, q3⟩ := pas134 5000 0 y sy.1 (by decide) (by decide) by'
  intro k x hk hx
  have w39 : w.2.1 39 = v.2.1 39 := sw.2.2.1 39 (by decide)
  have w40 : w.2.1 40 = v.2.1 40 := sw.2.2.1 40 (by decide)
  have w41 : w.2.1 41 = v.2.1 41 := sw.2.2.1 41 (by decide)
  have e : kn v' k x ↔ cp y k x := by
    unfold kn cp
    rw [q3 _ (by omega) (by omega)]
  rw [e, qy k x hx, qw k x (by omega) hk hx, w39, w40, w41]
  constructor
  · rintro ((g | g) | ⟨i, -, g2, g3, g4, g5⟩)
    · exact Or.inl g
    · exact Or.inr (Or.inl g)
    · exact Or.inr (Or.inr ⟨i, g2, g3, g4, (kn_fr sw).mp g5⟩)
  · rintro (g | g | ⟨i, g2, g3, g4, g5⟩)
    · exact Or.inl (Or.inl g)
    · exact Or.inl (Or.inr g)
    · exact Or.inr ⟨i, by omega, g2, g3, g4, (kn_fr sw).mpr g5⟩
theorem nobody_sp {r : Int32} {v' : SX} : ∀ (n : Nat) (z1 : Int32) (v : SX), IM v → 0 ≤ z1.toInt → z1.toInt ≤ 480 → LX12_nobodyKnows_0_2 n z1 v = some (r, v') → StM md42 v v' ∧ (∀ j : Nat, j < z1.toNatClampNeg → v'.2.1 42 j = v.2.1 42 j) ∧ ∀ j : Nat, z1.toNatClampNeg ≤ j → j < 480 → v'.2.1 42 j = 0 := by
  intro n
  induction n with
  | zero => intro z1 v _ _ _ h; cases h
  | succ n ih =>
    intro z1 v hJ h0 h9 h
    have h : (if 480 ≤ z1 then (some (0, v)) else (gd (inb z1 480) (lt (sA v 42 (upd (v.2.1 42) z1.toNatClampNeg (vp_nar .boolean 0))) fun u2 => ((LX12_nobodyKnows_0_2 n) (z1 + 1) u2)))) = some (r, v') := h
    have t3 := tn h0
    by_cases c : 480 ≤ z1
    · rw [if_pos c] at h
      have c9 : (480 : Int) ≤ z1.toInt := leI c
      have e : v = v' := by cases h; rfl
      rw [← e]
      exact ⟨StM_rf hJ, fun _ _ => rfl, fun j g1 g2 => by omega⟩
    · rw [if_neg c] at h
      have c9 : ¬ (480 : Int) ≤ z1.toInt := nleI c
      have et : (z1 + 1).toInt = z1.toInt + 1 := addc_t (by decide) (by omega) (by omega)
      have en := ns1 h0 (show z1.toInt ≤ 5000 by omega)
      obtain ⟨-, h⟩ := gd_some h
      obtain ⟨u16, j16, h⟩ := lt_some h
      rw [nar01.1] at j16
      have s16 : StM md42 v u16 := by
        rw [j16]
        exact StM_sA (StM_rf hJ) (by decide) (by decide) (by decide) (by decide)
      have c16 : ∀ j : Nat, u16.2.1 42 j = if j = z1.toNatClampNeg then 0 else v.2.1 42 j := by
        intro j
        rw [j16]
        rfl
      obtain ⟨s1, p1, q1⟩ := ih (z1 + 1) u16 s16.1 (by rw [et]; omega) (by rw [et]; omega) h
      refine ⟨StM_tr s16 s1 (by decide), ?_, ?_⟩
      · intro j hj
        rw [p1 j (by omega), c16, if_neg (by omega)]
      · intro j g1 g2
        by_cases cj : j = z1.toNatClampNeg
        · rw [p1 j (by omega), c16, if_pos cj]
        · exact q1 j (by omega) g2
/-! What the reference's tables say: told by a house on a day, sent on a day (the first n letters). -/
def TM (v : SX) (d h x : Nat) : Prop := thM v x ∧ x < 60 ∧ (v.2.1 35 x).toInt = (h : Int) ∧ (v.2.1 38 x).toInt = (d : Int)
def LMn (v : SX) (n : Int) (d f h : Nat) : Prop := ∃ i : Nat, (i : Int) < n ∧ (v.2.1 41 i).toInt = (d : Int) ∧ (v.2.1 39 i).toInt = (f : Int) ∧ (v.2.1 40 i).toInt = (h : Int)
/-- the first n letters are from houses that are there -/
def LHn (v : SX) (n : Int) : Prop := ∀ i : Nat, (i : Int) < n → (v.2.1 39 i).toInt < (v.1 22).toInt
theorem TM_fr {v w : SX} (s : StM mdX12_passes_0 v w) : TM w = TM v := by
  have e23 : w.1 23 = v.1 23 := s.2.1 23 (by decide)
  have e24 : w.1 24 = v.1 24 := s.2.1 24 (by decide)
  have e35 : w.2.1 35 = v.2.1 35 := s.2.2.1 35 (by decide)
  have e38 : w.2.1 38 = v.2.1 38 := s.2.2.1 38 (by decide)
  unfold TM thM
  rw [e23, e24, e35, e38]
theorem LMn_fr {v w : SX} {n : Int} (s : StM mdX12_passes_0 v w) : LMn w n = LMn v n := by
  have e39 : w.2.1 39 = v.2.1 39 := s.2.2.1 39 (by decide)
  have e40 : w.2.1 40 = v.2.1 40 := s.2.2.1 40 (by decide)
  have e41 : w.2.1 41 = v.2.1 41 := s.2.2.1 41 (by decide)
  unfold LMn
  rw [e39, e40, e41]
theorem LHn_fr {v w : SX} {n : Int} (s : StM mdX12_passes_0 v w) (h : LHn v n) : LHn w n := by
  have e39 : w.2.1 39 = v.2.1 39 := s.2.2.1 39 (by decide)
  have e22 : w.1 22 = v.1 22 := s.2.1 22 (by decide)
  unfold LHn at h ⊢
  rw [e39, e22]
  exact h
/-- the reference's knowledge ahead of a day -/
def KW (T L : Nat → Nat → Nat → Prop) (v : SX) (d : Nat) : Prop := ∀ k x : Nat, (k : Int) < (v.1 22).toInt → x < 60 → (kn v k x ↔ (0 < d ∧ Kn T L (d - 1) k x))
theorem TN_T {v : SX} {d k x : Nat} (hJ : IM v) (hx : x < 60) : TN v d k x ↔ (TM v d k x ∨ (0 < d ∧ TN v (d - 1) k x)) := by
  unfold TN TM
  constructor
  · rintro ⟨a, b, c⟩
    by_cases e : (v.2.1 38 x).toInt = (d : Int)
    · exact Or.inl ⟨a, hx, b, e⟩
    · by_cases z : 0 < d
      · exact Or.inr ⟨z, a, b, by omega⟩
      · have b0 : (0 : Int) ≤ (v.2.1 38 x).toInt := (hJ.2.1 38 _).1
        exact absurd (show (v.2.1 38 x).toInt = (d : Int) by omega) e
  · rintro (⟨a, -, b, c⟩ | ⟨z, a, b, c⟩)
    · exact ⟨a, b, by omega⟩
    · exact ⟨a, b, by omega⟩
