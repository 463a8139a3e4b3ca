/-! could. -/
theorem co_210 {k234 : Int32 → Int32 → Int32 → SX → Option (Int32 × SX)} {z3 z5 r : Int32} {v v' : SX} {P : Int32 → Prop} {L : Int} (hp : ∀ a : Int32, 0 ≤ a.toInt → a.toInt ≤ 400 → (¬ v.2.1 24 a.toNatClampNeg = 0 ↔ P a)) (hL : L ≤ 401) (hP : L ≤ 400 → ∀ a : Int32, a.toInt = L → P a) (hle : ∀ a : Int32, 0 ≤ a.toInt → a.toInt ≤ 400 → P a → L ≤ a.toInt) : ∀ (n : Nat) (z4 : Int32), 0 ≤ z4.toInt → z4.toInt ≤ L → LX12_could_0_210 k234 n z3 z4 z5 v = some (r, v') → ∃ z : Int32, z.toInt = L ∧ k234 z3 z z5 v = some (r, v') := by
  intro n
  induction n with
  | zero => intro z4 _ _ h; cases h
  | succ n ih =>
    intro z4 h0 h9 g
    have g : (if 400 < z4 then (k234 z3 z4 z5 v) else (gd (inb z4 401) (if (v.2.1 24 z4.toNatClampNeg) = 0 then ((LX12_could_0_210 k234 n) z3 (z4 + 1) z5 v) else (k234 z3 z4 z5 v)))) = some (r, v') := g
    by_cases c : 400 < z4
    · rw [if_pos c] at g
      have c9 : (400 : Int) < z4.toInt := ltI c
      exact ⟨z4, by omega, g⟩
    · rw [if_neg c] at g
      have c9 : ¬ (400 : Int) < z4.toInt := nltI c
      obtain ⟨-, g⟩ := gd_some g
      have hz := hp z4 h0 (by omega)
      by_cases d : v.2.1 24 z4.toNatClampNeg = 0
      · rw [if_pos d] at g
        have nP : ¬ P z4 := fun q => hz.mpr q d
        have ne : ¬ L = z4.toInt := fun q => nP (hP (by omega) z4 q.symm)
        have et : (z4 + 1).toInt = z4.toInt + 1 := addc_t (by decide) (by omega) (by omega)
        exact ih (z4 + 1) (by rw [et]; omega) (by rw [et]; omega) g
      · rw [if_neg d] at g
        have q := hle z4 h0 (by omega) (hz.mp d)
        exact ⟨z4, by omega, g⟩
def OKd (v : SX) (x1 x2 x3 : Int32) : Prop := 0 ≤ x2.toInt ∧ x2.toInt ≤ (v.1 1).toInt ∧ 0 ≤ x3.toInt ∧ x3.toInt ≤ 1 ∧ 0 ≤ x1.toInt ∧ x1.toInt < (v.1 12).toInt ∧ (v.2.1 10 x1.toNatClampNeg).toInt ≤ x2.toInt
theorem couldM {x1 x2 x3 r : Int32} {u v v' : SX} (hp : u.1 8 = v.1 12) (h : fX12_could_0 x1 x2 x3 v = some (r, v')) : (¬ OKd v x1 x2 x3 ∧ r = -1) ∨ (OKd v x1 x2 x3 ∧ ∃ (s : Int32) (w : SX), fX12_laySpansOf_0 x2 (sI v 0 0) = some (s, w) ∧ LX12_could_0_54 GX12_could_0_76 5000 x1 x2 x3 0 400 0 w = some (r, v')) := by
  unfold fX12_could_0 at h
  obtain ⟨v1, e1, h⟩ := lt_some h
  rw [← e1]
  have f1 : v1.1 1 = v.1 1 := by rw [e1]; rfl
  have f12 : v1.1 12 = v.1 12 := by rw [e1]; rfl
  have f10 : v1.2.1 10 = v.2.1 10 := by rw [e1]; rfl
  clear e1
  unfold OKd
  rw [← f1, ← f12, ← f10]
  have no : ∀ w : SX, some ((-1 : Int32), w) = some (r, v') → r = -1 := fun w g => by cases g; rfl
  obtain ⟨⟨r3, u4⟩, a3, h⟩ := bd_some h
  obtain ⟨e3, k3⟩ := isPi a3
  rw [e3] at h
  have h : (if r3 = 0 then (some ((-1), v1)) else (gd (inb x1 12) ((fX12_isKnown_0 (v1.2.1 10 x1.toNatClampNeg) x2 v1).bind fun q => match q with | (r7, u8) => (if r7 = 0 then (some ((-1), u8)) else ((fX12_isIn x3 0 1).bind fun r10 => (if r10 = 0 then (some ((-1), u8)) else ((fX12_laySpansOf_0 x2 u8).bind fun q => match q with | (r13, u14) => (LX12_could_0_54 GX12_could_0_76 5000 x1 x2 x3 0 400 0 u14)))))))) = some (r, v') := h
  rcases k3 with ⟨z, k3⟩ | ⟨z, k3, k3'⟩
  · rw [if_pos z] at h
    exact Or.inl ⟨fun q => k3 ⟨q.2.2.2.2.1, q.2.2.2.2.2.1⟩, no _ h⟩
  · rw [if_neg (ne01 z)] at h
    obtain ⟨-, h⟩ := gd_some h
    obtain ⟨⟨r7, u8⟩, a7, h⟩ := bd_some h
    obtain ⟨e7, k7⟩ := isKni a7
    rw [e7] at h
    have h : (if r7 = 0 then (some ((-1), v1)) else ((fX12_isIn x3 0 1).bind fun r10 => (if r10 = 0 then (some ((-1), v1)) else ((fX12_laySpansOf_0 x2 v1).bind fun q => match q with | (r13, u14) => (LX12_could_0_54 GX12_could_0_76 5000 x1 x2 x3 0 400 0 u14))))) = some (r, v') := h
    rcases k7 with ⟨z, k7⟩ | ⟨z, k7, k7', k7''⟩
    · rw [if_pos z] at h
      exact Or.inl ⟨fun q => k7 ⟨q.1, q.2.1, q.2.2.2.2.2.2⟩, no _ h⟩
    · rw [if_neg (ne01 z)] at h
      obtain ⟨r10, a10, h⟩ := bd_some h
      rcases inn a10 with ⟨z, k10⟩ | ⟨z, k10, k10'⟩
      · rw [if_pos z] at h
        exact Or.inl ⟨fun q => k10 ⟨q.2.2.1, q.2.2.2.1⟩, no _ h⟩
      · rw [if_neg (ne01 z)] at h
        obtain ⟨⟨r13, u14⟩, a13, h⟩ := bd_some h
        exact Or.inr ⟨⟨k7, k7', k10, k10', k3, k3', k7''⟩, r13, u14, a13, h⟩
theorem could_eq {x1 x2 x3 r r' : Int32} {u u' v v' : SX} (hK : RK u) (ht : Tie u v) (hM : MR u v) (h1 : fX11_could_0 x1 x2 x3 u = some (r, u')) (h2 : fX12_could_0 x1 x2 x3 v = some (r', v')) : r = r' := by
  have b120 : (u.1 0).toInt ≤ (120 : Int) := (hK.1.1.1 0).2
  have hI := hK.1.1
  have hp8 : u.1 8 = v.1 12 := hM.2.1.1
  have b8 : (u.1 8).toInt ≤ (12 : Int) := (hI.1 8).2
  have hS := hM.2.2.1
  have ok : OKc u x1 x2 x3 ↔ OKd v x1 x2 x3 := by
    unfold OKc OKd
    rw [← ht.1, ← hp8]
    constructor
    · rintro ⟨q1, q2, q3, q4, q5, q6, q7⟩
      obtain ⟨-, a, -⟩ := hS.2.1 x1.toNatClampNeg (by show ((x1.toInt.toNat : Nat) : Int) < _; omega)
      rw [← a]
      exact ⟨q1, q2, q3, q4, q5, q6, q7⟩
    · rintro ⟨q1, q2, q3, q4, q5, q6, q7⟩
      obtain ⟨-, a, -⟩ := hS.2.1 x1.toNatClampNeg (by show ((x1.toInt.toNat : Nat) : Int) < _; omega)
      rw [a]
      exact ⟨q1, q2, q3, q4, q5, q6, q7⟩
  rcases couldX h1 with ⟨n1, g1, -⟩ | ⟨o1, s, t, w, a1, a2, g1⟩
  · rcases couldM hp8 h2 with ⟨-, g2⟩ | ⟨o2, -⟩
    · rw [g1, g2]
    · exact absurd (ok.mpr o2) n1
  · rcases couldM hp8 h2 with ⟨n2, -⟩ | ⟨-, s2, y, a3, g2⟩
    · exact absurd (ok.mp o1) n2
    · obtain ⟨q1, q2, q3, q4, q5, q6, q7⟩ := o1
      obtain ⟨Rw, Kw, Fw, k15, k16, U10, U11, U14⟩ := recall7_sp hK.1 hK.2 q1 (by omega) a1
      have el : lfX w = lfX u := lfX_md Fw (by decide)
      have k0 := U14.1
      have k1 := U14.2.1
      have kn : (w.1 14).toNatClampNeg = (w.1 14).toInt.toNat := rfl
      have Lr : ∀ i : Nat, (i : Int) < (w.1 14).toInt → lfX u (w.1 10).toNatClampNeg (w.1 11).toNatClampNeg i = (w.2.1 38 i, w.2.1 39 i) := fun i hi => by
        have := Kw.2.2.2 i hi
        rw [k15, k16, el] at this
        exact this.symm
      have ewu : ww w = ww u := ww_fr (Fw.2.1 24 (by decide)) (Fw.2.1 36 (by decide)) Fw.2.2.2.2
      have es : spX w = spX u := by
        unfold spX
        rw [Fw.2.1 29 (by decide), Fw.2.1 30 (by decide), Fw.2.1 31 (by decide), Fw.2.1 32 (by decide), Fw.2.1 33 (by decide), Fw.2.1 35 (by decide)]
      have hx10 : ((x1.toNatClampNeg : Nat) : Int) < (w.1 10).toInt := UpTo_in hS.2.2.2.2.2 U10 (by show ((x1.toInt.toNat : Nat) : Int) < _; omega) q7
      have sp27 : (w.2.1 27 x1.toNatClampNeg, w.2.1 28 x1.toNatClampNeg) = spX u (w.1 11).toNatClampNeg x1.toNatClampNeg := by
        have := Rw.2.1.2.2 _ hx10
        rw [es] at this
        exact this
      have hx8 : ((x1.toNatClampNeg : Nat) : Int) < (u.1 8).toInt := by
        show ((x1.toInt.toNat : Nat) : Int) < _
        omega
      obtain ⟨F, bnd, fin⟩ := narrow_sp (wl := fun i => ww u i x1.toNatClampNeg) (fl := fun i => (lfX u (w.1 10).toNatClampNeg (w.1 11).toNatClampNeg i).1 + mxS (ww u i x1.toNatClampNeg) (spX u (w.1 11).toNatClampNeg x1.toNatClampNeg)) (ce := fun i => (lfX u (w.1 10).toNatClampNeg (w.1 11).toNatClampNeg i).2 + mnS (ww u i x1.toNatClampNeg) (spX u (w.1 11).toNatClampNeg x1.toNatClampNeg)) Rw Kw.1 q5 (by rw [Fw.1 8 (by decide)]; exact q6) (fun i hi => by
        refine ⟨by rw [ewu], wwB hI hM.1 hM.2.2.2.1 hM.2.2.2.2 hK.1.2.2.1 (by omega) hx8, ?_, ?_⟩
        · show (lfX u (w.1 10).toNatClampNeg (w.1 11).toNatClampNeg i).1 + _ = _
          rw [Lr i hi, sp27]
        · show (lfX u (w.1 10).toNatClampNeg (w.1 11).toNatClampNeg i).2 + _ = _
          rw [Lr i hi, sp27]) a2
      -- the reference
      obtain ⟨M1, S1, f1, g1'⟩ := layOf_SP (MR_0 hM) q1 (by omega) U11 a3
      generalize (5000 : Nat) = N1 at g2
      obtain ⟨w3, J3, F3, p3, g3⟩ := co_54 N1 0 y M1.1 (by decide) (fun i _ => Or.inl (by show (0 : Int) ≤ _; omega)) g2
      unfold GX12_could_0_76 at g3
      generalize (5000 : Nat) = N2 at g3
      obtain ⟨w4, p4, g4⟩ := co_79 (wl := fun i => ww u i x1.toNatClampNeg) (fl := fun i => (lfX u (w.1 10).toNatClampNeg (w.1 11).toNatClampNeg i).1 + mxS (ww u i x1.toNatClampNeg) (spX u (w.1 11).toNatClampNeg x1.toNatClampNeg)) (ce := fun i => (lfX u (w.1 10).toNatClampNeg (w.1 11).toNatClampNeg i).2 + mnS (ww u i x1.toNatClampNeg) (spX u (w.1 11).toNatClampNeg x1.toNatClampNeg)) hI hK.1.2.2.1 hM.2.2.2.2.2 U10 U14 q1 (by omega) q5 q6 (fun i _ => ⟨rfl, rfl, rfl⟩) N2 0 w3 (MR_md J3 F3 (by decide) M1) (SPv_fr (F3.2.1 16 (by decide)) (F3.2.1 17 (by decide)) S1) (by rw [F3.1 15 (by decide), f1]; exact ht.2.2.2.2.2.symm) (by decide) (fun a a0 a1 => by
        rw [p3 a.toNatClampNeg (by show a.toInt.toNat < 401; omega)]
        refine ⟨fun _ i hi => ?_, fun _ => by decide⟩
        have hi : i < min 0 (w.1 14).toNatClampNeg := hi
        rw [Nat.zero_min] at hi
        omega) g3
      have p5 : ∀ a : Int32, 0 ≤ a.toInt → a.toInt ≤ 400 → (¬ w4.2.1 24 a.toNatClampNeg = 0 ↔ ((u'.1 24).toInt ≤ a.toInt ∧ a.toInt ≤ (u'.1 25).toInt)) := fun a a0 a1 => (p4 a a0 a1).trans (F a a0 a1)
      rcases fin with ⟨z, c9⟩ | ⟨z, c9⟩
      · obtain ⟨z4, e4, g4⟩ := co_210 (P := fun a : Int32 => (u'.1 24).toInt ≤ a.toInt ∧ a.toInt ≤ (u'.1 25).toInt) (L := 401) p5 (by omega) (fun h => absurd h (by decide)) (fun a a0 a1 p => by
          have p : (u'.1 24).toInt ≤ a.toInt ∧ a.toInt ≤ (u'.1 25).toInt := p
          omega) N2 0 (by decide) (by decide) g4
        obtain ⟨z5, e5, g4⟩ := co_234 (P := fun a : Int32 => (u'.1 24).toInt ≤ a.toInt ∧ a.toInt ≤ (u'.1 25).toInt) (G := -1) p5 N2 400 (by decide) (by decide) (by decide) (fun h => absurd h (by decide)) (fun a a0 a1 p => by
          have p : (u'.1 24).toInt ≤ a.toInt ∧ a.toInt ≤ (u'.1 25).toInt := p
          omega) g4 (by omega)
        unfold GX12_could_0_255 at g4
        have n4 : ¬ z4 ≤ 400 := fun q => by
          have q9 : z4.toInt ≤ (400 : Int) := leI q
          omega
        rw [if_neg n4] at g4
        have e : (-1 : Int32) = r' := by cases g4; rfl
        rw [g1, if_pos z, ← e]
      · obtain ⟨b0, b1⟩ := bnd
        obtain ⟨z4, e4, g4⟩ := co_210 (P := fun a : Int32 => (u'.1 24).toInt ≤ a.toInt ∧ a.toInt ≤ (u'.1 25).toInt) (L := (u'.1 24).toInt) p5 (by omega) (fun h a ea => by
          show (u'.1 24).toInt ≤ a.toInt ∧ a.toInt ≤ (u'.1 25).toInt
          omega) (fun a a0 a1 p => by
          have p : (u'.1 24).toInt ≤ a.toInt ∧ a.toInt ≤ (u'.1 25).toInt := p
          omega) N2 0 (by decide) (by show (0 : Int) ≤ _; exact b0) g4
        obtain ⟨z5, e5, g4⟩ := co_234 (P := fun a : Int32 => (u'.1 24).toInt ≤ a.toInt ∧ a.toInt ≤ (u'.1 25).toInt) (G := (u'.1 25).toInt) p5 N2 400 (by decide) (by decide) (by show _ ≤ (400 : Int); exact b1) (fun h a ea => by
          show (u'.1 24).toInt ≤ a.toInt ∧ a.toInt ≤ (u'.1 25).toInt
          omega) (fun a a0 a1 p => by
          have p : (u'.1 24).toInt ≤ a.toInt ∧ a.toInt ≤ (u'.1 25).toInt := p
          omega) g4 (by omega)
        unfold GX12_could_0_255 at g4
        have n4 : z4 ≤ 400 := Int32.le_iff_toInt_le.mpr (by show z4.toInt ≤ (400 : Int); omega)
        rw [if_pos n4] at g4
        rw [g1, if_neg (ne01 z)]
        by_cases d : x3 = 0
        · rw [if_pos d] at g4 ⊢
          have e : z4 = r' := by cases g4; rfl
          rw [← e]
          exact Int32.toInt.inj e4.symm
        · rw [if_neg d] at g4 ⊢
          have e : z5 = r' := by cases g4; rfl
          rw [← e]
          exact Int32.toInt.inj e5.symm
