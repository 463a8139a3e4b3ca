/-! The class tries letters. -/
theorem bt_not {w : Int64} {x : Nat} (h : x < 64) : bt (w ^^^ (-1)) x ↔ ¬ bt w x := by
  unfold bt
  rw [Int64.toBitVec_xor, BitVec.getLsbD_xor]
  have e : ((-1 : Int64).toBitVec).getLsbD x = true := by
    rw [show (-1 : Int64).toBitVec = BitVec.allOnes 64 from by decide, BitVec.getLsbD_allOnes]
    simp [h]
  rw [e]
  cases w.toBitVec.getLsbD x <;> decide
theorem rup11 {k31 : Int32 → Int32 → SX → Option (Int32 × SX)} {z0 z2 r : Int32} {u u' : SX} (hz : z2 = u.1 38) (b38 : (u.1 38).toInt ≤ 60) : ∀ (n : Nat) (z4 : Int32), 0 ≤ z4.toInt → z4.toInt ≤ z2.toInt → (∀ i : Nat, i < z4.toNatClampNeg → (u.2.1 62 i).toInt ≤ z0.toInt) → LX11_rowsUpTo_a62_11 k31 n z0 z2 z4 u = some (r, u') → ∃ z : Int32, 0 ≤ z.toInt ∧ z.toInt ≤ z2.toInt ∧ (∀ i : Nat, i < z.toNatClampNeg → (u.2.1 62 i).toInt ≤ z0.toInt) ∧ (z.toInt < z2.toInt → z0.toInt < (u.2.1 62 z.toNatClampNeg).toInt) ∧ k31 z0 z u = some (r, u') := by
  intro n
  induction n with
  | zero => intro z4 _ _ _ h; cases h
  | succ n ih =>
    intro z4 h0 h9 hb h
    have h : (if z2 ≤ z4 then (k31 z0 z4 u) else (gd (inb z4 60) (if z0 < (u.2.1 62 z4.toNatClampNeg) then (k31 z0 z4 u) else ((LX11_rowsUpTo_a62_11 k31 n) z0 z2 (z4 + 1) u)))) = some (r, u') := h
    have t4 := tn h0
    by_cases c : z2 ≤ z4
    · rw [if_pos c] at h
      have c9 := leI c
      exact ⟨z4, h0, h9, hb, fun g => by omega, h⟩
    · rw [if_neg c] at h
      have c9 := nleI c
      rw [hz] at c9
      have et : (z4 + 1).toInt = z4.toInt + 1 := addc_t (by decide) (by omega) (by omega)
      have en := ns1 h0 (show z4.toInt ≤ 5000 by omega)
      obtain ⟨-, h⟩ := gd_some h
      by_cases d : z0 < u.2.1 62 z4.toNatClampNeg
      · rw [if_pos d] at h
        exact ⟨z4, h0, h9, hb, fun _ => ltI d, h⟩
      · rw [if_neg d] at h
        have d9 := nltI d
        refine ih (z4 + 1) (by rw [et]; omega) (by rw [et, hz]; omega) (fun i hi => ?_) h
        by_cases ci : i = z4.toNatClampNeg
        · rw [ci]
          omega
        · exact hb i (by omega)
theorem rup_sp {z0 r : Int32} {u u' : SX} (hI : IX u) (hL : SL u) (h : fX11_rowsUpTo_a62 z0 (u.1 38) 0 u = some (r, u')) : u' = u ∧ PT u r.toInt (z0.toInt + 1) := by
  have b38 : (0 : Int) ≤ (u.1 38).toInt := (hI.1 38).1
  have c38 : (u.1 38).toInt ≤ (60 : Int) := (hI.1 38).2
  unfold fX11_rowsUpTo_a62 at h
  obtain ⟨v1, e1, h⟩ := lt_some h
  have ev : v1 = 0 := by
    have c : ¬ u.1 38 < 0 := fun z => by
      have z : (u.1 38).toInt < (0 : Int) := ltI z
      omega
    rw [e1, if_neg c, if_neg (by decide)]
  rw [ev] at h
  obtain ⟨z, z0', z9, p1, p2, h⟩ := rup11 rfl c38 5000 0 (by decide) b38 (fun i hi => absurd hi (Nat.not_lt_zero _)) h
  have tz := tn z0'
  have h : (if z ≤ 0 then (some (z, u)) else (gd (inb (z - 1) 60) (if (u.2.1 62 (z - 1).toNatClampNeg) ≤ z0 then (some (z, u)) else (LX11_rowsUpTo_a62_31 4999 z0 (z + (-1)) u)))) = some (r, u') := h
  have fin : z = r ∧ u = u' := by
    by_cases c : z ≤ 0
    · rw [if_pos c] at h
      cases h
      exact ⟨rfl, rfl⟩
    · rw [if_neg c] at h
      have c9 : ¬ z.toInt ≤ (0 : Int) := nleI c
      obtain ⟨-, h⟩ := gd_some h
      have es : (z - 1).toInt = z.toInt - 1 := subc_t (by decide) (by omega) (by omega)
      have en : (z - 1).toNatClampNeg = z.toNatClampNeg - 1 := by
        show (z - 1).toInt.toNat = z.toInt.toNat - 1
        omega
      have g := p1 (z.toNatClampNeg - 1) (by omega)
      rw [en, if_pos (Int32.le_iff_toInt_le.mpr g)] at h
      cases h
      exact ⟨rfl, rfl⟩
  refine ⟨fin.2.symm, ?_⟩
  rw [← fin.1]
  refine ⟨z0', z9, fun i hi => ⟨fun g => ?_, fun g => Classical.byContradiction fun g2 => ?_⟩⟩
  · have := p1 i (by omega)
    omega
  · have q := p2 (by omega)
    by_cases e : i = z.toNatClampNeg
    · rw [e] at g
      omega
    · have := hL.1 z.toNatClampNeg i (by omega) hi
      omega
/-- all of the class that a search leaves -/
abbrev md7 : MD := ([40, 41, 42, 43], [], [], [71, 72])
def XC (T L : Nat → Nat → Nat → Prop) (v u : SX) : Prop := IX u ∧ HTL T L u ∧ SL u ∧ TieM u v ∧ u.1 36 = v.1 23 ∧ u.1 35 = v.1 22 ∧ ∀ e : Nat, (e : Int) ≤ (u.1 0).toInt → KV T L u e
theorem XC_fr {T L : Nat → Nat → Nat → Prop} {v u w : SX} (s : StX md7 u w) (h : XC T L v u) : XC T L v w := by
  obtain ⟨-, h2, h3, h4, h5, h6, h7⟩ := h
  refine ⟨s.1, HTL_fr (s.2.1 38 (by decide)) (s.2.2.1 59 (by decide)) (s.2.2.1 60 (by decide)) (s.2.2.1 61 (by decide)) (s.2.2.1 62 (by decide)) (s.2.2.2.2.1 69 (by decide)) h2, ?_, TieM_fr (s.2.2.2.2.1 68 (by decide)) (s.2.2.2.1 0 (by decide)) (s.2.1 37 (by decide)) (s.2.2.1 66 (by decide)) (s.2.2.1 67 (by decide)) h4, (s.2.1 36 (by decide)).trans h5, (s.2.1 35 (by decide)).trans h6, ?_⟩
  · unfold SL at h3 ⊢
    rw [s.2.1 38 (by decide), s.2.1 0 (by decide), s.2.2.1 62 (by decide)]
    exact h3
  · rw [s.2.1 0 (by decide)]
    intro e he k x hk
    have := h7 e he k x hk
    unfold ro at this ⊢
    rw [s.2.2.2.2.1 70 (by decide)]
    exact this
theorem to7 {u w : SX} (s : StX md712 u w) : StX md7 u w := ⟨s.1, FrM_tr FrM_rf s.2 (by decide)⟩
def SIM (T L' : Nat → Nat → Nat → Prop) (v u : SX) (e : Nat) : Prop := ∀ k x : Nat, k < 8 → mt v x → (bt (r72 u k) x ↔ Kn T L' e k x)
theorem mb87 {T L : Nat → Nat → Nat → Prop} {v : SX} {d f t : Nat} {z5 r : Int32} {u' : SX} (hz9 : z5.toInt ≤ 121) (hd5 : (d : Int) ≤ z5.toInt) : ∀ (n : Nat) (z6 z7 : Int32) (u : SX), XC T L v u → (d : Int) < z7.toInt → z7.toInt ≤ z5.toInt + 1 → PT u z6.toInt z7.toInt → SIM T (LQ L d f t) v u (z7.toNatClampNeg - 1) → (∀ e : Nat, (e : Int) < z7.toInt → ¬ PM T L v d f t e) → LX4_meetingBy_12_87 n z5 z6 z7 u = some (r, u') → StX md712 u u' ∧ (d : Int) ≤ r.toInt ∧ r.toInt ≤ z5.toInt ∧ (∀ e : Nat, (e : Int) < r.toInt → ¬ PM T L v d f t e) ∧ (r.toInt < z5.toInt → PM T L v d f t r.toNatClampNeg) := by
  intro n
  induction n with
  | zero => intro z6 z7 u _ _ _ _ _ _ h; cases h
  | succ n ih =>
    intro z6 z7 u hX hd hle hp hs hn h
    have h : (if z5 ≤ z7 then (some (z5, u)) else (gd (inb z7 121) (if (u.2.1 59 z7.toNatClampNeg) = 0 then (LX4_meetingBy_12_87 n z5 z6 (z7 + 1) u) else ((fX4_passDay_12 z7 z6 u).bind fun q => match q with | (r21, u22) => ((fX4_anyMet_12 u22).bind fun q => match q with | (r24, u25) => (if r24 = 0 then (LX4_meetingBy_12_87 n z5 r21 (z7 + 1) u25) else (some (z7, u25)))))))) = some (r, u') := h
    obtain ⟨hI, hT, hL, hM, e36, e35, hV⟩ := id hX
    have t7 := tn (a := z7) (by omega)
    by_cases c : z5 ≤ z7
    · rw [if_pos c] at h
      have c9 := leI c
      have e : z5 = r ∧ u = u' := by cases h; exact ⟨rfl, rfl⟩
      rw [← e.1, ← e.2]
      exact ⟨StX_rf hI, by omega, Int.le_refl _, fun e he => hn e (by omega), fun g => by omega⟩
    · rw [if_neg c] at h
      have c9 := nleI c
      have et : (z7 + 1).toInt = z7.toInt + 1 := addc_t (by decide) (by omega) (by omega)
      have en := ns1 (z := z7) (by omega) (show z7.toInt ≤ 5000 by omega)
      obtain ⟨-, h⟩ := gd_some h
      obtain ⟨m, em⟩ : ∃ m, z7.toNatClampNeg = m + 1 := ⟨z7.toNatClampNeg - 1, by omega⟩
      have lq : ∀ a b : Nat, LQ L d f t (m + 1) a b ↔ L (m + 1) a b := fun a b => ⟨fun g => g.elim id (fun g => by omega), Or.inl⟩
      rw [show z7.toNatClampNeg - 1 = m by omega] at hs
      by_cases c0 : u.2.1 59 z7.toNatClampNeg = 0
      · rw [if_pos c0] at h
        obtain ⟨nT, nL⟩ := hT.2.2 z7.toNatClampNeg (by omega) c0
        rw [em] at nT nL
        obtain ⟨s1, q1, q2, q3, q4⟩ := ih z6 (z7 + 1) u hX (by rw [et]; omega) (by rw [et]; omega) (by
          refine ⟨hp.1, hp.2.1, fun i hi => ?_⟩
          rw [hp.2.2 i hi, et]
          have z0 : (0 : Int) ≤ (u.2.1 62 i).toInt := (hI.2.1 62 _).1
          have ne : ¬ (u.2.1 62 i).toInt = z7.toInt := fun z => by
            have f0 : (0 : Int) ≤ (u.2.1 60 i).toInt := (hI.2.1 60 _).1
            have o0 : (0 : Int) ≤ (u.2.1 61 i).toInt := (hI.2.1 61 _).1
            exact nL (u.2.1 60 i).toNatClampNeg (u.2.1 61 i).toNatClampNeg ((hT.2.1 _ _ _).mpr ⟨i, hi, by omega, (tn f0).symm, (tn o0).symm⟩)
          omega) (by
          rw [en, show z7.toNatClampNeg + 1 - 1 = m + 1 by omega]
          intro k x hk hx
          rw [hs k x hk hx]
          constructor
          · intro g
            exact Or.inl g
          · rintro (g | g | ⟨a, g, -⟩)
            · exact g
            · exact absurd g (nT k x)
            · exact absurd ((lq a k).mp g) (nL a k)) (by
          intro e he
          rw [et] at he
          by_cases ce : e = m + 1
          · rw [ce]
            exact idle nT (fun a b g => nL a b ((lq a b).mp g)) (fun e' he' => hn e' (by omega))
          · exact hn e (by omega)) h
        exact ⟨s1, by omega, q2, q3, q4⟩
      · rw [if_neg c0] at h
        obtain ⟨⟨r21, u22⟩, a21, h⟩ := bd_some h
        obtain ⟨s22, p22, x71, x72⟩ := passX hI hL (by omega) (by omega) hp a21
        obtain ⟨⟨r24, u25⟩, a24, h⟩ := bd_some h
        have X22 := XC_fr (to7 s22) hX
        unfold fX4_anyMet_12 at a24
        obtain ⟨e25, k24⟩ := any2 X22.1 X22.2.2.2.2.1 X22.2.2.2.1 5000 0 (by decide) (fun k hk => absurd hk (Nat.not_lt_zero _)) a24
        rw [e25] at h
        have h : (if r24 = 0 then (LX4_meetingBy_12_87 n z5 r21 (z7 + 1) u22) else (some (z7, u22))) = some (r, u') := h
        have b35 : (u.1 35).toInt ≤ (8 : Int) := (hI.1 35).2
        have w35 : u22.1 35 = u.1 35 := s22.2.1 35 (by decide)
        have s22' : SIM T (LQ L d f t) v u22 (m + 1) := by
          intro k x hk hx
          rw [x72 k x hk, hs k x hk hx, hT.1 _ k x (by omega) hk, em]
          constructor
          · rintro (g | g | ⟨i, g1, g2, g3, g4⟩)
            · exact Or.inl g
            · exact Or.inr (Or.inl g)
            · have f0 : (0 : Int) ≤ (u.2.1 60 i).toInt := (hI.2.1 60 _).1
              have f9 : (u.2.1 60 i).toInt ≤ (7 : Int) := (hI.2.1 60 _).2
              have tf := tn f0
              exact Or.inr (Or.inr ⟨(u.2.1 60 i).toNatClampNeg, (lq _ _).mpr ((hT.2.1 _ _ _).mpr ⟨i, g1, by omega, by omega, g3⟩), (hs _ x (by omega) hx).mp g4⟩)
          · rintro (g | g | ⟨a, g, gk⟩)
            · exact Or.inl g
            · exact Or.inr (Or.inl g)
            · obtain ⟨i, g1, g2, g3, g4⟩ := (hT.2.1 _ _ _).mp ((lq a k).mp g)
              have f0 : (0 : Int) ≤ (u.2.1 60 i).toInt := (hI.2.1 60 _).1
              have f9 : (u.2.1 60 i).toInt ≤ (7 : Int) := (hI.2.1 60 _).2
              have tf := tn f0
              refine Or.inr (Or.inr ⟨i, g1, by omega, g4, ?_⟩)
              rw [show (u.2.1 60 i).toNatClampNeg = a by omega]
              exact (hs a x (by omega) hx).mpr gk
        rcases k24 with ⟨z, k, hk, g⟩ | ⟨z, g⟩
        · rw [if_neg (ne01 z)] at h
          have e : z7 = r ∧ u22 = u' := by cases h; exact ⟨rfl, rfl⟩
          rw [← e.1, ← e.2]
          rw [w35] at hk
          refine ⟨s22, by omega, by omega, hn, fun _ => ?_⟩
          rw [em]
          exact ⟨k, by rw [← e35]; exact hk, MetS_mt (fun x hx => (s22' k x (by omega) hx).mp) g⟩
        · rw [if_pos z] at h
          obtain ⟨s1, q1, q2, q3, q4⟩ := ih r21 (z7 + 1) u22 X22 (by rw [et]; omega) (by rw [et]; omega) (by
            rw [et]
            obtain ⟨y1, y2, y3⟩ := p22
            refine ⟨y1, by rw [s22.2.1 38 (by decide)]; exact y2, ?_⟩
            rw [s22.2.1 38 (by decide), s22.2.2.1 62 (by decide)]
            exact y3) (by
            rw [en, show z7.toNatClampNeg + 1 - 1 = m + 1 by omega]
            exact s22') (by
            intro e he
            rw [et] at he
            by_cases ce : e = m + 1
            · rw [ce]
              rintro ⟨k, hk, gm⟩
              rw [← e35] at hk
              have k8 : k < 8 := by omega
              have gm' : MetS v (bt (r72 u22 k)) := MetS_mt (fun x hx => (s22' k x k8 hx).mpr) gm
              rcases g k (by rw [w35]; exact hk) with g | g
              · rw [g, x71 k k8] at gm'
                exact hn m (by omega) ⟨k, by rw [← e35]; exact hk, MetS_mt (fun x hx => (hs k x k8 hx).mp) gm'⟩
              · exact g gm'
            · exact hn e (by omega)) h
          exact ⟨StX_tr s22 s1 (by decide), by omega, q2, q3, q4⟩
theorem mb3 {k33 : Int32 → Int32 → Int64 → Int32 → SX → Option (Int32 × SX)} {z1 z2 z5 r : Int32} {z3 : Int64} {u' : SX} (d0 : 0 ≤ z1.toInt) (d9 : z1.toInt ≤ 120) : ∀ (n : Nat) (z6 : Int32) (u : SX), IX u → 0 ≤ z6.toInt → LX4_meetingBy_12_3 k33 n z1 z2 z3 z5 z6 u = some (r, u') → ∃ w : SX, StX md712 u w ∧ k33 z1 z2 z3 z5 w = some (r, u') ∧ (∀ k : Nat, k < z6.toNatClampNeg → r72 w k = r72 u k) ∧ ∀ k : Nat, z6.toNatClampNeg ≤ k → k < 8 → r72 w k = ro u z1.toNatClampNeg k := by
  intro n
  induction n with
  | zero => intro z6 u _ _ h; cases h
  | succ n ih =>
    intro z6 u hI h0 h
    have h : (if 8 ≤ z6 then (k33 z1 z2 z3 z5 u) else ((fX2_knownBy_11 z6 z1 u).bind fun q => match q with | (r1, u2) => (gd (inb z6 8) (lt (sB u2 72 (vp_updL (u2.2.2.2.1 72) z6.toNatClampNeg r1)) fun u5 => ((LX4_meetingBy_12_3 k33 n) z1 z2 z3 z5 (z6 + 1) u5))))) = some (r, u') := h
    have t6 := tn h0
    by_cases c : 8 ≤ z6
    · rw [if_pos c] at h
      have c9 : (8 : Int) ≤ z6.toInt := leI c
      exact ⟨u, StX_rf hI, h, fun _ _ => rfl, fun k g1 g2 => by omega⟩
    · rw [if_neg c] at h
      have c9 : ¬ (8 : Int) ≤ z6.toInt := nleI c
      have et : (z6 + 1).toInt = z6.toInt + 1 := addc_t (by decide) (by omega) (by omega)
      have en := ns1 h0 (show z6.toInt ≤ 5000 by omega)
      obtain ⟨⟨r1, u2⟩, a1, h⟩ := bd_some h
      obtain ⟨e2, k2⟩ := kb_sp h0 (by omega) d9 a1
      rw [e2] at h
      have er : r1 = ro u z1.toNatClampNeg z6.toNatClampNeg := by
        rcases k2 with ⟨-, k⟩ | ⟨k, -⟩
        · exact k
        · omega
      obtain ⟨-, h⟩ := gd_some h
      obtain ⟨u5, j5, h⟩ := lt_some h
      have s5 : StX md712 u u5 := by
        rw [j5]
        exact StX_sB (StX_rf hI) (by decide)
      have e72 : ∀ k : Nat, r72 u5 k = if k = z6.toNatClampNeg then r1 else r72 u k := by
        intro k
        rw [j5]
        rfl
      obtain ⟨w, sw, bw, p1, q1⟩ := ih (z6 + 1) u5 s5.1 (by rw [et]; omega) h
      refine ⟨w, StX_tr s5 sw (by decide), bw, ?_, ?_⟩
      · intro k hk
        rw [p1 k (by omega), e72, if_neg (by omega)]
      · intro k g1 g2
        by_cases ck : k = z6.toNatClampNeg
        · rw [p1 k (by omega), e72, if_pos ck, er, ck]
        · rw [q1 k (by omega) g2]
          unfold ro
          rw [s5.2.2.2.2.1 70 (by decide)]
theorem mby_sp {T L : Nat → Nat → Nat → Prop} {v : SX} {f : Nat} {z1 z2 z5 r : Int32} {z3 : Int64} {u u' : SX} (hX : XC T L v u) (d0 : 1 ≤ z1.toInt) (d9 : z1.toInt ≤ (u.1 0).toInt) (o0 : 0 ≤ z2.toInt) (o9 : z2.toInt < (u.1 35).toInt) (hz : z1.toInt ≤ z5.toInt) (hz9 : z5.toInt ≤ 121) (hb : ∀ e : Nat, (e : Int) ≤ z1.toInt → ¬ MetD T L v e) (hg : ∀ x, mt v x → (bt z3 x ↔ Kn T L (z1.toNatClampNeg - 1) f x)) (h : fX4_meetingBy_12 z1 z2 z3 z5 u = some (r, u')) : StX md712 u u' ∧ z1.toInt ≤ r.toInt ∧ r.toInt ≤ z5.toInt ∧ (∀ e : Nat, (e : Int) < r.toInt → ¬ PM T L v z1.toNatClampNeg f z2.toNatClampNeg e) ∧ (r.toInt < z5.toInt → PM T L v z1.toNatClampNeg f z2.toNatClampNeg r.toNatClampNeg) := by
  obtain ⟨hI, hT, hL, hM, e36, e35, hV⟩ := id hX
  have bn9 : (u.1 0).toInt ≤ (120 : Int) := (hI.1 0).2
  have b35 : (u.1 35).toInt ≤ (8 : Int) := (hI.1 35).2
  have t1 := tn (a := z1) (by omega)
  have t2 := tn o0
  unfold fX4_meetingBy_12 at h
  obtain ⟨w, sw, bw, -, q1⟩ := mb3 (by omega) (by omega) 5000 0 u hI (by decide) h
  have n0 : (0 : Int32).toNatClampNeg = 0 := rfl
  unfold GX4_meetingBy_12_33 at bw
  obtain ⟨-, bw⟩ := gd_some bw
  obtain ⟨-, bw⟩ := gd_some bw
  obtain ⟨u9, j9, bw⟩ := lt_some bw
  have s9 : StX md712 w u9 := by
    rw [j9]
    exact StX_sB (StX_rf sw.1) (by decide)
  have su9 : StX md712 u u9 := StX_tr sw s9 (by decide)
  have X9 := XC_fr (to7 su9) hX
  obtain ⟨-, bw⟩ := gd_some bw
  obtain ⟨⟨r12, u13⟩, a12, bw⟩ := bd_some bw
  obtain ⟨e13, k12⟩ := are_sp X9.1 X9.2.2.2.2.1 X9.2.2.2.1 a12
  rw [e13] at bw
  obtain ⟨m, em⟩ : ∃ m, z1.toNatClampNeg = m + 1 := ⟨z1.toNatClampNeg - 1, by omega⟩
  rw [show z1.toNatClampNeg - 1 = m by omega] at hg
  have e72 : ∀ k : Nat, k < 8 → r72 u9 k = if k = z2.toNatClampNeg then (ro u z1.toNatClampNeg k ||| z3) else ro u z1.toNatClampNeg k := by
    intro k hk
    rw [j9]
    show (if k = z2.toNatClampNeg then (w.2.2.2.1 72 z2.toNatClampNeg ||| z3) else w.2.2.2.1 72 k) = _
    have e := q1 k (by omega) hk
    by_cases ck : k = z2.toNatClampNeg
    · rw [if_pos ck, if_pos ck, ← e, ck]
      rfl
    · rw [if_neg ck, if_neg ck, ← e]
      rfl
  have kv := hV z1.toNatClampNeg (by omega)
  have sim : SIM T (LQ L z1.toNatClampNeg f z2.toNatClampNeg) v u9 (m + 1) := by
    intro k x hk hx
    rw [e72 k hk]
    by_cases ck : k = z2.toNatClampNeg
    · rw [if_pos ck, bt_or, kv k x hk, hg x hx, em, ck]
      constructor
      · rintro (g | g)
        · exact LQ_sup _ _ _ g
        · exact Or.inr (Or.inr ⟨f, Or.inr ⟨rfl, rfl, rfl⟩, LQ_sup _ _ _ g⟩)
      · rintro (g | g | ⟨a, g | ⟨-, g, -⟩, g2⟩)
        · exact Or.inl (Or.inl ((LQ_lt (Nat.lt_succ_self m) _ _).mp g))
        · exact Or.inl (Or.inr (Or.inl g))
        · exact Or.inl (Or.inr (Or.inr ⟨a, g, (LQ_lt (Nat.lt_succ_self m) _ _).mp g2⟩))
        · rw [g] at g2
          exact Or.inr ((LQ_lt (Nat.lt_succ_self m) _ _).mp g2)
    · rw [if_neg ck, kv k x hk, em]
      constructor
      · exact LQ_sup _ _ _
      · rintro (g | g | ⟨a, g | ⟨-, -, g⟩, g2⟩)
        · exact Or.inl ((LQ_lt (Nat.lt_succ_self m) _ _).mp g)
        · exact Or.inr (Or.inl g)
        · exact Or.inr (Or.inr ⟨a, g, (LQ_lt (Nat.lt_succ_self m) _ _).mp g2⟩)
        · exact absurd g ck
  have lo : ∀ e : Nat, (e : Int) < z1.toInt → ¬ PM T L v z1.toNatClampNeg f z2.toNatClampNeg e := by
    intro e he g
    exact hb e (by omega) (MetD_mt (fun k x _ => (LQ_lt (by omega) k x).mp) g)
  rcases k12 with ⟨z, g⟩ | ⟨z, g⟩
  · have bw : (if r12 = 0 then _ else some (z1, u9)) = some (r, u') := bw
    rw [if_neg (ne01 z)] at bw
    have e : z1 = r ∧ u9 = u' := by cases bw; exact ⟨rfl, rfl⟩
    rw [← e.1, ← e.2]
    refine ⟨su9, by omega, by omega, lo, fun _ => ⟨z2.toNatClampNeg, by rw [← e35]; omega, ?_⟩⟩
    rw [em] at sim ⊢
    exact MetS_mt (fun x hx => (sim _ x (by omega) hx).mp) g
  · have bw : (if r12 = 0 then ((fX11_rowsUpTo_a62 z1 (u9.1 38) 0 u9).bind fun q => match q with | (r15, u16) => (lt (z1 + 1) fun v18 => (LX4_meetingBy_12_87 5000 z5 r15 v18 u16))) else some (z1, u9)) = some (r, u') := bw
    rw [if_pos z] at bw
    obtain ⟨⟨r15, u16⟩, a15, bw⟩ := bd_some bw
    obtain ⟨e16, p16⟩ := rup_sp X9.1 X9.2.2.1 a15
    rw [e16] at bw
    obtain ⟨v18, e18, bw⟩ := lt_some bw
    have et : (z1 + 1).toInt = z1.toInt + 1 := addc_t (by decide) (by omega) (by omega)
    have en := ns1 (z := z1) (by omega) (show z1.toInt ≤ 5000 by omega)
    obtain ⟨s1, y1, y2, y3, y4⟩ := mb87 (d := z1.toNatClampNeg) (f := f) (t := z2.toNatClampNeg) hz9 (by omega) 5000 r15 v18 u9 X9 (by rw [e18, et]; omega) (by rw [e18, et]; omega) (by rw [e18, et]; exact p16) (by rw [e18, en, show z1.toNatClampNeg + 1 - 1 = m + 1 by omega]; exact sim) (by
      rw [e18, et]
      intro e he
      by_cases ce : e = z1.toNatClampNeg
      · rintro ⟨k, hk, gm⟩
        rw [ce] at gm
        by_cases ck : k = z2.toNatClampNeg
        · refine g (MetS_mt (fun x hx => ?_) gm)
          rw [ck, em]
          rw [em] at sim
          exact (sim _ x (by omega) hx).mpr
        · refine hb z1.toNatClampNeg (by omega) ⟨k, hk, MetS_mt (fun x hx => ?_) gm⟩
          rw [← e35] at hk
          have k8 : k < 8 := by omega
          intro q
          rw [em] at sim q
          have q := (sim k x k8 hx).mpr q
          rw [e72 k k8, if_neg ck, kv k x k8] at q
          exact q
      · exact lo e (by omega)) bw
    exact ⟨StX_tr su9 s1 (by decide), by omega, y2, y3, y4⟩
