/-! What both sides know alike. -/
theorem Kn_TN {v : SX} {L : Nat → Nat → Nat → Prop} (hJ : IM v) {k x : Nat} (hx : x < 60) : ∀ d : Nat, TN v d k x → Kn (TM v) L d k x := by
  intro d
  induction d with
  | zero =>
    intro h
    rcases (TN_T hJ hx).mp h with g | ⟨g, -⟩
    · exact g
    · exact absurd g (by omega)
  | succ d ih =>
    intro h
    rcases (TN_T hJ hx).mp h with g | ⟨-, g⟩
    · exact Or.inr (Or.inl g)
    · exact Or.inl (ih g)
theorem KW_step {n : Int} {x1 x2 r : Int32} {v v' : SX} (hJ : IM v) (hH : LHn v n) (hn : x2.toInt = n) (d0 : 0 ≤ x1.toInt) (d9 : x1.toInt ≤ 120) (n0 : 0 ≤ x2.toInt) (n9 : x2.toInt ≤ 61) (hW : KW (TM v) (LMn v n) v x1.toNatClampNeg) (h : fX12_passes_0 x1 x2 v = some (r, v')) : StM mdX12_passes_0 v v' ∧ KW (TM v) (LMn v n) v' (x1.toNatClampNeg + 1) := by
  obtain ⟨hs, hp⟩ := passes_sp hJ d0 d9 n0 n9 h
  refine ⟨hs, ?_⟩
  have td := tn d0
  have e22 : v'.1 22 = v.1 22 := hs.2.1 22 (by decide)
  intro k x hk hx
  rw [e22] at hk
  rw [hp k x hk hx, hW k x hk hx]
  rw [show x1.toNatClampNeg + 1 - 1 = x1.toNatClampNeg from rfl]
  have fr : ∀ i : Nat, (i : Int) < x2.toInt → (((v.2.1 39 i).toNatClampNeg : Nat) : Int) < (v.1 22).toInt := by
    intro i hi
    have z0 : (0 : Int) ≤ (v.2.1 39 i).toInt := (hJ.2.1 39 _).1
    rw [tn z0]
    exact hH i (by omega)
  cases e : x1.toNatClampNeg with
  | zero =>
    rw [e] at hW
    constructor
    · rintro (⟨g, -⟩ | g | ⟨i, g2, -, -, g5⟩)
      · exact absurd g (by omega)
      · exact ⟨by omega, Kn_TN hJ hx 0 g⟩
      · exact absurd ((hW _ x (fr i g2) hx).mp g5).1 (by omega)
    · rintro ⟨-, g⟩
      have g : TM v 0 k x := g
      exact Or.inr (Or.inl ((TN_T hJ hx).mpr (Or.inl g)))
  | succ m =>
    rw [e] at hW
    rw [show m + 1 - 1 = m from rfl]
    constructor
    · rintro (⟨-, g⟩ | g | ⟨i, g2, g3, g4, g5⟩)
      · exact ⟨by omega, Or.inl g⟩
      · exact ⟨by omega, Kn_TN hJ hx (m + 1) g⟩
      · have z0 : (0 : Int) ≤ (v.2.1 39 i).toInt := (hJ.2.1 39 _).1
        have tf := tn z0
        exact ⟨by omega, Or.inr (Or.inr ⟨(v.2.1 39 i).toNatClampNeg, ⟨i, by omega, by omega, by omega, g4⟩, ((hW _ x (fr i g2) hx).mp g5).2⟩)⟩
    · rintro ⟨-, g⟩
      rcases Kn_s.mp g with g | g | ⟨f, ⟨i, g2, g3, g4, g5⟩, gk⟩
      · exact Or.inl ⟨by omega, g⟩
      · exact Or.inr (Or.inl ((TN_T hJ hx).mpr (Or.inl g)))
      · have z0 : (0 : Int) ≤ (v.2.1 39 i).toInt := (hJ.2.1 39 _).1
        have tf := tn z0
        have ef : (v.2.1 39 i).toNatClampNeg = f := by omega
        refine Or.inr (Or.inr ⟨i, by omega, by omega, g5, ?_⟩)
        exact (hW _ x (fr i (by omega)) hx).mpr ⟨by omega, by rw [ef]; exact gk⟩
theorem KW_0 {T L : Nat → Nat → Nat → Prop} {r : Int32} {v v' : SX} (hJ : IM v) (h : fX12_nobodyKnows_0 v = some (r, v')) : StM md42 v v' ∧ KW T L v' 0 := by
  unfold fX12_nobodyKnows_0 at h
  obtain ⟨s, -, q⟩ := nobody_sp 5000 0 v hJ (by decide) (by decide) h
  have b22 : (v'.1 22).toInt ≤ (8 : Int) := (s.1.1 22).2
  have z0 : (0 : Int32).toNatClampNeg = 0 := rfl
  refine ⟨s, fun k x hk hx => ?_⟩
  unfold kn
  rw [q _ (by omega) (by omega)]
  exact ⟨fun g => absurd rfl g, fun g => absurd g.1 (by omega)⟩
theorem kno60 {n0 : Int} {k83 : Int32 → Int32 → Int32 → SX → Option (Int32 × SX)} {z1 z2 z3 z4 r : Int32} {T L : Nat → Nat → Nat → Prop} {v' : SX} (hz9 : z4.toInt ≤ 120) : ∀ (n : Nat) (z5 : Int32) (v : SX), IM v → LHn v n0 → (v.1 25).toInt = n0 → TM v = T → LMn v n0 = L → 0 ≤ z5.toInt → z5.toInt ≤ z4.toInt + 1 → KW T L v z5.toNatClampNeg → LX12_knows_0_60 k83 n z1 z2 z3 z4 z5 v = some (r, v') → ∃ w : SX, StM mdX12_passes_0 v w ∧ KW T L w (z4.toInt + 1).toNat ∧ k83 z1 z2 z3 w = some (r, v') := by
  intro n
  induction n with
  | zero => intro z5 v _ _ _ _ _ _ _ _ h; cases h
  | succ n ih =>
    intro z5 v hJ hH hn eT eL h0 h9 hW h
    have h : (if z4 < z5 then (k83 z1 z2 z3 v) else ((fX12_passes_0 z5 (v.1 25) v).bind fun q => match q with | (r15, u16) => ((LX12_knows_0_60 k83 n) z1 z2 z3 z4 (z5 + 1) u16))) = some (r, v') := h
    have t5 := tn h0
    by_cases c : z4 < z5
    · rw [if_pos c] at h
      have c9 := ltI c
      refine ⟨v, StM_rf hJ, ?_, h⟩
      rw [show (z4.toInt + 1).toNat = z5.toNatClampNeg by omega]
      exact hW
    · rw [if_neg c] at h
      have c9 := nltI c
      have et : (z5 + 1).toInt = z5.toInt + 1 := addc_t (by decide) (by omega) (by omega)
      have en := ns1 h0 (show z5.toInt ≤ 5000 by omega)
      obtain ⟨⟨r15, u16⟩, a15, h⟩ := bd_some h
      have b25 : (0 : Int) ≤ (v.1 25).toInt := (hJ.1 25).1
      have c25 : (v.1 25).toInt ≤ (60 : Int) := (hJ.1 25).2
      rw [← eT, ← eL] at hW
      obtain ⟨s16, W16⟩ := KW_step hJ hH hn h0 (by omega) b25 (by omega) hW a15
      rw [eT, eL] at W16
      obtain ⟨w, sw, Ww, bw⟩ := ih (z5 + 1) u16 s16.1 (LHn_fr s16 hH) (by rw [s16.2.1 25 (by decide)]; exact hn) ((TM_fr s16).trans eT) ((LMn_fr s16).trans eL) (by rw [et]; omega) (by rw [et]; omega) (by rw [en]; exact W16) h
      exact ⟨w, StM_tr s16 sw (by decide), Ww, bw⟩
/-- the letters sent -/
def LK (v : SX) : Nat → Nat → Nat → Prop := LMn v (v.1 25).toInt
/-- matches of prints and papers -/
def MT (v : SX) (i x : Nat) : Prop := (i : Int) < (v.1 23).toInt ∧ 40 ≤ x ∧ (x : Int) - 40 < (v.1 24).toInt ∧ 0 < (v.2.1 36 i).toInt ∧ (v.2.1 36 i).toInt ≤ (v.2.1 37 x).toInt ∧ (v.2.1 36 x).toInt ≤ (v.2.1 37 i).toInt
def TieM (u v : SX) : Prop := (∀ i x : Nat, i < 40 → (bt (u.2.2.2.1 68 i) x ↔ MT v i x)) ∧ (∀ x : Nat, bt (u.2.2.1 0) x ↔ ((∃ y, MT v x y) ∨ ∃ i, MT v i x)) ∧ (∀ j : Nat, (j : Int) < (u.1 37).toInt → u.2.1 66 j = v.2.1 36 (40 + j) ∧ u.2.1 67 j = v.2.1 37 (40 + j) ∧ (u.2.1 66 j).toInt ≤ (u.2.1 67 j).toInt)
/-- what both sides have alike of houses -/
def TieK (u v : SX) : Prop := HTL (TM v) (LK v) u ∧ (∀ d : Nat, d < (u.1 39).toNatClampNeg → KV (TM v) (LK v) u d) ∧ LHn v (v.1 25).toInt ∧ TieM u v
def mxK : List Nat := [59, 60, 61, 62, 63, 64, 65, 66, 67]
theorem TieK_fr {u u' v v' : SX} {mx mm : MD} (hx : FrM mx u u') (hm : FrM mm v v') (c : (([35, 36, 37, 38, 39].all (fun k => !mx.1.contains k)) && (([59, 60, 61, 62, 63, 64, 65, 66, 67].all (fun k => !mx.2.1.contains k)) && ((!mx.2.2.1.contains 0) && (([68, 69, 70].all (fun k => !mx.2.2.2.contains k)) && (([22, 23, 24, 25].all (fun k => !mm.1.contains k)) && [35, 36, 37, 38, 39, 40, 41].all (fun k => !mm.2.1.contains k)))))) = true) (h : TieK u v) : TieK u' v' := by
  simp only [Bool.and_eq_true] at c
  obtain ⟨c1, c2, c3, c4, c5, c6⟩ := c
  have x1 : ∀ k, k ∈ [35, 36, 37, 38, 39] → u'.1 k = u.1 k := fun k hk => hx.1 k (not_b (List.all_eq_true.mp c1 k hk))
  have x2 : ∀ k, k ∈ [59, 60, 61, 62, 63, 64, 65, 66, 67] → u'.2.1 k = u.2.1 k := fun k hk => hx.2.1 k (not_b (List.all_eq_true.mp c2 k hk))
  have x3 : u'.2.2.1 0 = u.2.2.1 0 := hx.2.2.1 0 (not_b c3)
  have x4 : ∀ k, k ∈ [68, 69, 70] → u'.2.2.2.1 k = u.2.2.2.1 k := fun k hk => hx.2.2.2.1 k (not_b (List.all_eq_true.mp c4 k hk))
  have m1 : ∀ k, k ∈ [22, 23, 24, 25] → v'.1 k = v.1 k := fun k hk => hm.1 k (not_b (List.all_eq_true.mp c5 k hk))
  have m2 : ∀ k, k ∈ [35, 36, 37, 38, 39, 40, 41] → v'.2.1 k = v.2.1 k := fun k hk => hm.2.1 k (not_b (List.all_eq_true.mp c6 k hk))
  have eT : TM v' = TM v := by
    unfold TM thM
    rw [m1 23 (by decide), m1 24 (by decide), m2 35 (by decide), m2 38 (by decide)]
  have eL : LK v' = LK v := by
    unfold LK LMn
    rw [m1 25 (by decide), m2 39 (by decide), m2 40 (by decide), m2 41 (by decide)]
  have eM : MT v' = MT v := by
    unfold MT
    rw [m1 23 (by decide), m1 24 (by decide), m2 36 (by decide), m2 37 (by decide)]
  obtain ⟨k1, k2, k3, k4⟩ := h
  refine ⟨?_, ?_, ?_, ?_⟩
  · rw [eT, eL]
    exact HTL_fr (x1 38 (by decide)) (x2 59 (by decide)) (x2 60 (by decide)) (x2 61 (by decide)) (x2 62 (by decide)) (x4 69 (by decide)) k1
  · rw [eT, eL, x1 39 (by decide)]
    intro d hd k x hk
    have := k2 d hd k x hk
    unfold ro at this ⊢
    rw [x4 70 (by decide)]
    exact this
  · unfold LHn at k3 ⊢
    rw [m1 25 (by decide), m1 22 (by decide), m2 39 (by decide)]
    exact k3
  · unfold TieM at k4 ⊢
    rw [eM, x4 68 (by decide), x3, x1 37 (by decide), x2 66 (by decide), x2 67 (by decide), m2 36 (by decide), m2 37 (by decide)]
    exact k4
theorem TieK_0 : TieK uX uM := by
  have nT : ∀ d h x, ¬ TM uM d h x := by
    rintro d h x ⟨g, -⟩
    rcases g with ⟨-, g⟩ | ⟨g1, g2⟩
    · have g : (x : Int) < 0 := g
      omega
    · have g2 : (x : Int) - 40 < 0 := g2
      omega
  have nL : ∀ d f h, ¬ LK uM d f h := by
    rintro d f h ⟨i, g, -⟩
    have g : (i : Int) < 0 := g
    omega
  have nM : ∀ i x, ¬ MT uM i x := by
    rintro i x ⟨g, -⟩
    have g : (i : Int) < 0 := g
    omega
  refine ⟨⟨?_, ?_, ?_⟩, ?_, ?_, ?_, ?_, ?_⟩
  · intro d h x _ _
    exact ⟨fun g => absurd g bt_0, fun g => absurd g (nT d h x)⟩
  · intro d f h
    refine ⟨fun g => absurd g (nL d f h), ?_⟩
    rintro ⟨i, g, -⟩
    have g : (i : Int) < 0 := g
    omega
  · intro d _ _
    exact ⟨nT d, nL d⟩
  · intro d hd
    have hd : d < 0 := hd
    omega
  · intro i hi
    have hi : (i : Int) < 0 := hi
    omega
  · intro i x _
    exact ⟨fun g => absurd g bt_0, fun g => absurd g (nM i x)⟩
  · intro x
    exact ⟨fun g => absurd g bt_0, fun g => g.elim (fun ⟨y, g⟩ => absurd g (nM x y)) (fun ⟨i, g⟩ => absurd g (nM i x))⟩
  · intro j hj
    have hj : (j : Int) < 0 := hj
    omega
