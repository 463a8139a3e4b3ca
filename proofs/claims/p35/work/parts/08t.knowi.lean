/-! The class's search, as a whole. -/
theorem RS_skipall {P : Nat → Nat → Nat → Nat → Prop} {H lim b : Int} {a1 a2 a3 a4 : Int32} {d f : Nat} (h : RS P H lim b a1 a2 a3 a4 d f 0) (hn : ∀ t : Nat, (t : Int) < H → ¬ f = t → ∀ e : Nat, (e : Int) < b → ¬ P d f t e) : RS P H lim b a1 a2 a3 a4 d (f + 1) 0 := by
  have all : ∀ t : Nat, (t : Int) ≤ H → RS P H lim b a1 a2 a3 a4 d f t := by
    intro t
    induction t with
    | zero => intro _; exact h
    | succ t ih => intro ht; exact RS_skip (ih (by omega)) (hn t (by omega))
  by_cases c : 0 ≤ H
  · exact RS_nf (all H.toNat (by omega)) (by omega)
  · exact RS_nf h (by omega)
theorem sea32 {T L : Nat → Nat → Nat → Prop} {v : SX} {lim : Int} {k109 : Int32 → Int32 → SX → Option (Int32 × SX)} {z3 r : Int32} {u' : SX} (d0 : 1 ≤ z3.toInt) (hb : ∀ e : Nat, (e : Int) < lim → ¬ MetD T L v e) (hd : z3.toInt < lim) (hl9 : lim ≤ 121) : ∀ (n : Nat) (z2 z4 : Int32) (u : SX), XC T L v u → z3.toInt ≤ (u.1 0).toInt → z3.toInt ≤ z2.toInt → 0 ≤ z4.toInt → z4.toInt ≤ (u.1 35).toInt → RX T L v lim u z2.toInt z3.toNatClampNeg z4.toNatClampNeg 0 → LX4_search_12_32 k109 n z2 z3 z4 u = some (r, u') → ∃ (w : SX) (y : Int32), StX md7 u w ∧ z3.toInt ≤ y.toInt ∧ RX T L v lim w y.toInt (z3.toNatClampNeg + 1) 0 0 ∧ k109 y z3 w = some (r, u') := by
  intro n
  induction n with
  | zero => intro z2 z4 u _ _ _ _ _ _ h; cases h
  | succ n ih =>
    intro z2 z4 u hX dn hz h0 h9 hR h
    obtain ⟨hI, hT, hL, hM, e36, e35, hV⟩ := id hX
    have b35 : (u.1 35).toInt ≤ (8 : Int) := (hI.1 35).2
    have bn9 : (u.1 0).toInt ≤ (120 : Int) := (hI.1 0).2
    have l2 : z2.toInt ≤ lim := hR.1
    have h : (if (u.1 35) ≤ z4 then (k109 z2 z3 u) else ((fX2_knownBy_11 z4 (z3 - 1) u).bind fun q => match q with | (r9, u10) => (lt (r9 &&& (u10.2.2.1 0)) fun v12 => ((fX2_knownBy_11 z4 (z3 - 2) u10).bind fun q => match q with | (r14, u15) => (if (lg_cmp v12 (r14 &&& (u15.2.2.1 0))) = 0 then (LX4_search_12_32 k109 n z2 z3 (z4 + 1) u15) else ((fX4_tryAll_12 z3 z4 v12 z2 u15).bind fun q => match q with | (r17, u18) => (LX4_search_12_32 k109 n r17 z3 (z4 + 1) u18))))))) = some (r, u') := h
    have t3 := tn (a := z3) (by omega)
    have t4 := tn h0
    by_cases c : u.1 35 ≤ z4
    · rw [if_pos c] at h
      have c9 := leI c
      exact ⟨u, z2, StX_rf hI, hz, RS_nd hR (by omega), h⟩
    · rw [if_neg c] at h
      have c9 := nleI c
      have et : (z4 + 1).toInt = z4.toInt + 1 := addc_t (by decide) (by omega) (by omega)
      have en := ns1 h0 (show z4.toInt ≤ 5000 by omega)
      obtain ⟨⟨r9, u10⟩, a9, h⟩ := bd_some h
      have k9 := fun x => kb_bt (x := x) h0 (by omega) (by omega) (by omega) a9
      rw [(k9 0).1] at h
      obtain ⟨v12, e12, h⟩ := lt_some h
      obtain ⟨⟨r14, u15⟩, a14, h⟩ := bd_some h
      have es : (z3 - 2).toInt = z3.toInt - 2 := subc_t (by decide) (by omega) (by omega)
      obtain ⟨e15, k14⟩ := kb_sp h0 (by omega) (by omega) a14
      rw [e15] at h
      have h : (if (lg_cmp v12 (r14 &&& (u.2.2.1 0))) = 0 then (LX4_search_12_32 k109 n z2 z3 (z4 + 1) u) else ((fX4_tryAll_12 z3 z4 v12 z2 u).bind fun q => match q with | (r17, u18) => (LX4_search_12_32 k109 n r17 z3 (z4 + 1) u18))) = some (r, u') := h
      have b12 : ∀ x, bt v12 x ↔ (mt v x ∧ Kn T L (z3.toNatClampNeg - 1) z4.toNatClampNeg x) := by
        intro x
        rw [e12, bt_and, (k9 x).2, hM.2.1 x, hV (z3.toNatClampNeg - 1) (by omega) _ x (by omega)]
        exact ⟨fun g => ⟨g.2, g.1.2⟩, fun g => ⟨⟨by omega, g.2⟩, g.1⟩⟩
      by_cases c1 : lg_cmp v12 (r14 &&& (u.2.2.1 0)) = 0
      · rw [if_pos c1] at h
        have q := lgc0.mp c1
        refine ih z2 (z4 + 1) u hX dn hz (by rw [et]; omega) (by rw [et]; omega) ?_ h
        rw [en]
        refine RS_skipall hR (fun t ht hne e he => ?_)
        obtain ⟨m, em⟩ : ∃ m, z3.toNatClampNeg = m + 1 := ⟨z3.toNatClampNeg - 1, by omega⟩
        rw [em] at b12 ⊢
        rw [show m + 1 - 1 = m from rfl] at b12
        cases m with
        | zero =>
          have r0 : r14 = 0 := by
            rcases k14 with ⟨k, -⟩ | ⟨-, k⟩
            · omega
            · exact k
          intro g
          refine hb e (by omega) (MetD_mt (fun k x hx => LQ_one (fun gk => ?_) e k) g)
          have g1 := (b12 x).mpr ⟨hx, gk⟩
          rw [q, bt_and, r0] at g1
          exact bt_0 g1.1
        | succ m =>
          have r0 : r14 = ro u m z4.toNatClampNeg := by
            rcases k14 with ⟨-, k⟩ | ⟨k, -⟩
            · have en2 : (z3 - 2).toNatClampNeg = m := by
                show (z3 - 2).toInt.toNat = m
                omega
              rw [k, en2]
            · omega
          intro g
          have hp := hR.2.1 (m + 1) z4.toNatClampNeg t (Or.inl (by omega)) (by omega) ht hne e he
          refine hp (MetD_mt (fun k x hx => LQ_pre (fun gk => ?_) e k) g)
          have g1 := (b12 x).mpr ⟨hx, gk⟩
          rw [q, bt_and, r0] at g1
          exact (hV m (by omega) _ x (by omega)).mp g1.1
      · rw [if_neg c1] at h
        obtain ⟨⟨r17, u18⟩, a17, h⟩ := bd_some h
        unfold fX4_tryAll_12 at a17
        obtain ⟨s18, y1, t, y2, y3⟩ := try7 d0 h0 hb (fun e he => hb e (by omega)) hl9 b12 5000 z2 0 u hX dn (by omega) hz (by decide) (Int.le_trans (by decide) (hI.1 35).1) hR a17
        have w35 : u18.1 35 = u.1 35 := s18.2.1 35 (by decide)
        have w0 : u18.1 0 = u.1 0 := s18.2.1 0 (by decide)
        obtain ⟨w, y, sw, q1, q2, q3⟩ := ih r17 (z4 + 1) u18 (XC_fr s18 hX) (by rw [w0]; exact dn) y1 (by rw [et]; omega) (by rw [et, w35]; omega) (by
          rw [en]
          exact RS_nf y3 (by rw [w35]; exact y2)) h
        exact ⟨w, y, StX_tr s18 sw (by decide), q1, q2, q3⟩
theorem sea24 {T L : Nat → Nat → Nat → Prop} {v : SX} {lim : Int} {r : Int32} {u' : SX} (hb : ∀ e : Nat, (e : Int) < lim → ¬ MetD T L v e) (hl9 : lim ≤ 121) : ∀ (n : Nat) (z2 z3 : Int32) (u : SX), XC T L v u → lim ≤ (u.1 0).toInt + 1 → 1 ≤ z3.toInt → z3.toInt ≤ 121 → RX T L v lim u z2.toInt z3.toNatClampNeg 0 0 → LX4_search_12_24 n z2 z3 u = some (r, u') → StX md7 u u' ∧ RA (PM T L v) (u.1 35).toInt lim (u'.1 40) (u'.1 41) (u'.1 42) (u'.1 43) := by
  intro n
  induction n with
  | zero => intro z2 z3 u _ _ _ _ _ h; cases h
  | succ n ih =>
    intro z2 z3 u hX hl d0 d9 hR h
    obtain ⟨hI, hT, hL, hM, e36, e35, hV⟩ := id hX
    have l2 : z2.toInt ≤ lim := hR.1
    have h : (if z2 ≤ z3 then (some (0, u)) else (LX4_search_12_32 (GX4_search_12_109 (LX4_search_12_24 n)) 5000 z2 z3 0 u)) = some (r, u') := h
    have t3 := tn (a := z3) (by omega)
    by_cases c : z2 ≤ z3
    · rw [if_pos c] at h
      have c9 := leI c
      have e : u = u' := by cases h; rfl
      rw [← e]
      refine ⟨StX_rf hI, RS_all hR (by omega) (fun d f t e hd he g => ?_)⟩
      exact hb e (by omega) (MetD_mt (fun k x _ => (LQ_lt (by omega) k x).mp) g)
    · rw [if_neg c] at h
      have c9 := nleI c
      have et : (z3 + 1).toInt = z3.toInt + 1 := addc_t (by decide) (by omega) (by omega)
      have en := ns1 (z := z3) (by omega) (show z3.toInt ≤ 5000 by omega)
      obtain ⟨w, y, sw, y1, y2, h⟩ := sea32 d0 hb (by omega) hl9 5000 z2 0 u hX (by omega) (by omega) (by decide) (Int.le_trans (by decide) (hI.1 35).1) hR h
      unfold GX4_search_12_109 at h
      have w35 : w.1 35 = u.1 35 := sw.2.1 35 (by decide)
      have w0 : w.1 0 = u.1 0 := sw.2.1 0 (by decide)
      obtain ⟨s1, q1⟩ := ih y (z3 + 1) w (XC_fr sw hX) (by rw [w0]; exact hl) (by rw [et]; omega) (by rw [et]; omega) (by rw [en]; exact y2) h
      rw [w35] at q1
      exact ⟨StX_tr sw s1 (by decide), q1⟩
theorem search_sp {T L : Nat → Nat → Nat → Prop} {v : SX} {x1 r : Int32} {u u' : SX} (hX : XC T L v u) (hb : ∀ e : Nat, (e : Int) < x1.toInt → ¬ MetD T L v e) (hl : x1.toInt ≤ (u.1 0).toInt + 1) (h : fX4_search_12 x1 u = some (r, u')) : StX md7 u u' ∧ RA (PM T L v) (u.1 35).toInt x1.toInt (u'.1 40) (u'.1 41) (u'.1 42) (u'.1 43) := by
  have bn9 : (u.1 0).toInt ≤ (120 : Int) := (hX.1.1 0).2
  unfold fX4_search_12 at h
  obtain ⟨u1, j1, h⟩ := lt_some h
  obtain ⟨u3, j3, h⟩ := lt_some h
  obtain ⟨u5, j5, h⟩ := lt_some h
  obtain ⟨u7, j7, h⟩ := lt_some h
  have s7 : StX md7 u u7 := by
    rw [j7, j5, j3, j1]
    exact StX_sI (StX_sI (StX_sI (StX_sI (StX_rf hX.1) (by decide) (by decide) (by decide)) (by decide) (by decide) (by decide)) (by decide) (by decide) (by decide)) (by decide) (by decide) (by decide)
  have x40 : u7.1 40 = -1 := by rw [j7, j5, j3, j1]; rfl
  have x41 : u7.1 41 = -1 := by rw [j7, j5, j3]; rfl
  have x42 : u7.1 42 = -1 := by rw [j7, j5]; rfl
  have x43 : u7.1 43 = -1 := by rw [j7]; rfl
  have w35 : u7.1 35 = u.1 35 := s7.2.1 35 (by decide)
  have w0 : u7.1 0 = u.1 0 := s7.2.1 0 (by decide)
  obtain ⟨s1, q⟩ := sea24 hb (by omega) 5000 x1 1 u7 (XC_fr s7 hX) (by rw [w0]; exact hl) (by decide) (by decide) (by
    refine ⟨Int.le_refl _, fun d f t hl' hf ht hne e he g => ?_, Or.inl ⟨x40, x41, x42, x43, rfl⟩⟩
    have n1 : (1 : Int32).toNatClampNeg = 1 := rfl
    have d0 : d = 0 := by
      unfold Lx at hl'
      omega
    rw [d0] at g
    exact hb e he (MetD_mt (fun k x _ => LQ_no (fun z => absurd z (Nat.lt_irrefl 0)) e k) g)) h
  rw [w35] at q
  exact ⟨StX_tr s7 s1 (by decide), q⟩
