/-! The reference's search. -/
abbrev md39 : MD := ([], [39, 40, 41, 42, 43], [], [])
/-- the same letters sent, all else alike -/
def VS (v0 v : SX) : Prop := StM md39 v0 v ∧ ∀ i : Nat, (i : Int) < (v0.1 25).toInt → v.2.1 39 i = v0.2.1 39 i ∧ v.2.1 40 i = v0.2.1 40 i ∧ v.2.1 41 i = v0.2.1 41 i
theorem VS_rf {v : SX} (hJ : IM v) : VS v v := ⟨StM_rf hJ, fun _ _ => ⟨rfl, rfl, rfl⟩⟩
theorem VS_ps {v0 v w : SX} (h : VS v0 v) (s : StM mdX12_passes_0 v w) : VS v0 w := ⟨StM_tr h.1 s (by decide), fun i hi => by
  rw [s.2.2.1 39 (by decide), s.2.2.1 40 (by decide), s.2.2.1 41 (by decide)]
  exact h.2 i hi⟩
theorem LMn_up {a b : SX} {n : Int} (h : ∀ i : Nat, (i : Int) < n → b.2.1 39 i = a.2.1 39 i ∧ b.2.1 40 i = a.2.1 40 i ∧ b.2.1 41 i = a.2.1 41 i) {d f k : Nat} : LMn b n d f k ↔ LMn a n d f k := by
  constructor
  · rintro ⟨i, g, g1, g2, g3⟩
    obtain ⟨e1, e2, e3⟩ := h i g
    rw [e1] at g2
    rw [e2] at g3
    rw [e3] at g1
    exact ⟨i, g, g1, g2, g3⟩
  · rintro ⟨i, g, g1, g2, g3⟩
    obtain ⟨e1, e2, e3⟩ := h i g
    exact ⟨i, g, by rw [e3]; exact g1, by rw [e1]; exact g2, by rw [e2]; exact g3⟩
theorem TM_39 {v w : SX} (s : StM md39 v w) : TM w = TM v := by
  unfold TM thM
  rw [s.2.1 23 (by decide), s.2.1 24 (by decide), s.2.2.1 35 (by decide), s.2.2.1 38 (by decide)]
theorem MetD_39 {T L : Nat → Nat → Nat → Prop} {v w : SX} (s : StM md39 v w) {e : Nat} : MetD T L w e ↔ MetD T L v e := by
  unfold MetD MetS MT
  rw [s.2.1 22 (by decide), s.2.1 23 (by decide), s.2.1 24 (by decide), s.2.2.1 36 (by decide), s.2.2.1 37 (by decide)]
theorem MetD_cg {T L T' L' : Nat → Nat → Nat → Prop} {v : SX} {e : Nat} (h : ∀ k x, Kn T L e k x ↔ Kn T' L' e k x) : MetD T L v e ↔ MetD T' L' v e := ⟨MetD_mt (fun k x _ => (h k x).mp), MetD_mt (fun k x _ => (h k x).mpr)⟩
theorem First_cg {P Q : Nat → Prop} {z : Int} {r : Int32} (h : ∀ e, P e ↔ Q e) (f : First P z r) : First Q z r := by
  rcases f with ⟨a, b⟩ | ⟨a, b, c, d⟩
  · exact Or.inl ⟨a, fun e he g => b e he ((h e).mpr g)⟩
  · exact Or.inr ⟨a, b, (h _).mp c, fun e he g => d e he ((h e).mpr g)⟩
theorem sent3 {z1 z2 z3 r : Int32} {v v' : SX} (hJ : IM v) : ∀ (n : Nat) (z4 : Int32), 0 ≤ z4.toInt → (∀ i : Nat, i < z4.toNatClampNeg → ¬ (v.2.1 39 i = z1 ∧ v.2.1 40 i = z2 ∧ v.2.1 41 i = z3)) → LX12_wasSent_0_3 n z1 z2 z3 z4 v = some (r, v') → v' = v ∧ (¬ r = 0 → ∃ i : Nat, (i : Int) < (v.1 25).toInt ∧ v.2.1 39 i = z1 ∧ v.2.1 40 i = z2 ∧ v.2.1 41 i = z3) := by
  intro n
  induction n with
  | zero => intro z4 _ _ h; cases h
  | succ n ih =>
    intro z4 h0 hb h
    have b25 : (v.1 25).toInt ≤ (60 : Int) := (hJ.1 25).2
    have h : (if (v.1 25) ≤ z4 then (gd (isB 0) (some (0, v))) else (gd (inb z4 61) (if (v.2.1 39 z4.toNatClampNeg) = z1 then (gd (inb z4 61) (if (v.2.1 40 z4.toNatClampNeg) = z2 then (gd (inb z4 61) (if (v.2.1 41 z4.toNatClampNeg) = z3 then (gd (isB 1) (some (1, v))) else (LX12_wasSent_0_3 n z1 z2 z3 (z4 + 1) v))) else (LX12_wasSent_0_3 n z1 z2 z3 (z4 + 1) v))) else (LX12_wasSent_0_3 n z1 z2 z3 (z4 + 1) v)))) = some (r, v') := h
    have t4 := tn h0
    by_cases c : v.1 25 ≤ z4
    · rw [if_pos c] at h
      obtain ⟨-, h⟩ := gd_some h
      cases h
      exact ⟨rfl, fun z => absurd rfl z⟩
    · rw [if_neg c] at h
      have c9 := nleI c
      have et : (z4 + 1).toInt = z4.toInt + 1 := addc_t (by decide) (by omega) (by omega)
      have en := ns1 h0 (show z4.toInt ≤ 5000 by omega)
      obtain ⟨-, h⟩ := gd_some h
      have nx : ¬ (v.2.1 39 z4.toNatClampNeg = z1 ∧ v.2.1 40 z4.toNatClampNeg = z2 ∧ v.2.1 41 z4.toNatClampNeg = z3) → LX12_wasSent_0_3 n z1 z2 z3 (z4 + 1) v = some (r, v') → _ := fun q g => ih (z4 + 1) (by rw [et]; omega) (fun i hi => by
        by_cases ci : i = z4.toNatClampNeg
        · rw [ci]
          exact q
        · exact hb i (by omega)) g
      by_cases c1 : v.2.1 39 z4.toNatClampNeg = z1
      · rw [if_pos c1] at h
        obtain ⟨-, h⟩ := gd_some h
        by_cases c2 : v.2.1 40 z4.toNatClampNeg = z2
        · rw [if_pos c2] at h
          obtain ⟨-, h⟩ := gd_some h
          by_cases c3 : v.2.1 41 z4.toNatClampNeg = z3
          · rw [if_pos c3] at h
            obtain ⟨-, h⟩ := gd_some h
            cases h
            exact ⟨rfl, fun _ => ⟨z4.toNatClampNeg, by omega, c1, c2, c3⟩⟩
          · rw [if_neg c3] at h
            exact nx (fun g => c3 g.2.2) h
        · rw [if_neg c2] at h
          exact nx (fun g => c2 g.2.1) h
      · rw [if_neg c1] at h
        exact nx (fun g => c1 g.1) h
/-- the slot behind the letters sent -/
def slot (v : SX) (f t d : Int32) : SX := sA (sA (sA v 39 (upd (v.2.1 39) (v.1 25).toNatClampNeg f)) 40 (upd (v.2.1 40) (v.1 25).toNatClampNeg t)) 41 (upd (v.2.1 41) (v.1 25).toNatClampNeg d)
theorem slot_sp {v0 v v' : SX} {f t d z2 r : Int32} (hJ0 : IM v0) (hv : VS v0 v) (hS : SpL v0) (hH : LHn v0 (v0.1 25).toInt) (f0 : 0 ≤ f.toInt) (f9 : f.toInt < (v0.1 22).toInt) (t0 : 0 ≤ t.toInt) (t9 : t.toInt < (v0.1 22).toInt) (d0 : 0 ≤ d.toInt) (d9 : d.toInt ≤ 120) (hz9 : z2.toInt ≤ 120) (h : fX12_metBy_0 (v.1 25 + 1) z2 (slot v f t d) = some (r, v')) : VS v0 v' ∧ First (PM (TM v0) (LK v0) v0 d.toNatClampNeg f.toNatClampNeg t.toNatClampNeg) z2.toInt r := by
  have b25 : (0 : Int) ≤ (v0.1 25).toInt := (hJ0.1 25).1
  have c25 : (v0.1 25).toInt ≤ (60 : Int) := (hJ0.1 25).2
  have c22 : (v0.1 22).toInt ≤ (8 : Int) := (hJ0.1 22).2
  have e25 : v.1 25 = v0.1 25 := hv.1.2.1 25 (by decide)
  have tc := tn b25
  have tf := tn f0
  have tt := tn t0
  have td := tn d0
  have ss : StM md39 v (slot v f t d) := by
    unfold slot
    refine StM_sA (StM_sA (StM_sA (StM_rf hv.1.1) (by decide) ?_ ?_ (by decide)) (by decide) ?_ ?_ (by decide)) (by decide) ?_ ?_ (by decide)
    · exact f0
    · show _ ≤ (7 : Int)
      omega
    · exact t0
    · show _ ≤ (7 : Int)
      omega
    · exact d0
    · exact d9
  have s0 : StM md39 v0 (slot v f t d) := StM_tr hv.1 ss (by decide)
  have r39 : (slot v f t d).2.1 39 = upd (v.2.1 39) (v0.1 25).toNatClampNeg f := by
    rw [← e25]
    rfl
  have r40 : (slot v f t d).2.1 40 = upd (v.2.1 40) (v0.1 25).toNatClampNeg t := by
    rw [← e25]
    rfl
  have r41 : (slot v f t d).2.1 41 = upd (v.2.1 41) (v0.1 25).toNatClampNeg d := by
    rw [← e25]
    rfl
  have hvs : VS v0 (slot v f t d) := ⟨s0, fun i hi => by
    rw [r39, r40, r41, upd_ne (by omega), upd_ne (by omega), upd_ne (by omega)]
    exact hv.2 i hi⟩
  have en : (v.1 25 + 1).toInt = (v0.1 25).toInt + 1 := by
    rw [e25]
    exact addc_t (by decide) (by omega) (by omega)
  have S1 : SpL (slot v f t d) := by
    unfold SpL at hS ⊢
    rw [s0.2.1 23 (by decide), s0.2.1 24 (by decide), s0.2.2.1 36 (by decide), s0.2.2.1 37 (by decide)]
    exact hS
  have H1 : LHn (slot v f t d) ((v0.1 25).toInt + 1) := by
    intro i hi
    rw [r39, s0.2.1 22 (by decide)]
    by_cases ci : i = (v0.1 25).toNatClampNeg
    · rw [ci, upd_at]
      exact f9
    · rw [upd_ne ci, (hv.2 i (by omega)).1]
      exact hH i (by omega)
  obtain ⟨s1, f1⟩ := metBy_sp (n0 := (v0.1 25).toInt + 1) s0.1 S1 en (by omega) (by omega) hz9 H1 h
  refine ⟨VS_ps hvs s1, First_cg (fun e => ?_) f1⟩
  rw [MetD_39 s0, TM_39 s0]
  refine MetD_cg (Kn_cg e (fun _ _ _ _ => Iff.rfl) (fun e' _ a b => ?_))
  unfold LMn
  rw [r39, r40, r41, ← tc, snoc3, tc]
  have e1 : (∃ i : Nat, (i : Int) < (v0.1 25).toInt ∧ (v.2.1 41 i).toInt = (e' : Int) ∧ (v.2.1 39 i).toInt = (a : Int) ∧ (v.2.1 40 i).toInt = (b : Int)) ↔ LK v0 e' a b := LMn_up hv.2
  rw [e1]
  unfold LQ
  constructor
  · rintro (g | ⟨g1, g2, g3⟩)
    · exact Or.inl g
    · exact Or.inr ⟨by omega, by omega, by omega⟩
  · rintro (g | ⟨g1, g2, g3⟩)
    · exact Or.inl g
    · exact Or.inr ⟨by omega, by omega, by omega⟩
