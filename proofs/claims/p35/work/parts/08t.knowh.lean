/-! The class's search. -/
/-- the best letter so far, as the class has it -/
def RX (T L : Nat → Nat → Nat → Prop) (v : SX) (lim : Int) (u : SX) (b : Int) (d f t : Nat) : Prop := RS (PM T L v) (u.1 35).toInt lim b (u.1 40) (u.1 41) (u.1 42) (u.1 43) d f t
theorem RX_712 {T L : Nat → Nat → Nat → Prop} {v : SX} {lim : Int} {u w : SX} (s : StX md712 u w) {b : Int} {d f t : Nat} (h : RX T L v lim u b d f t) : RX T L v lim w b d f t := by
  unfold RX at h ⊢
  rw [s.2.1 35 (by decide), s.2.1 40 (by decide), s.2.1 41 (by decide), s.2.1 42 (by decide), s.2.1 43 (by decide)]
  exact h
theorem try7 {T L : Nat → Nat → Nat → Prop} {v : SX} {lim : Int} {z1 z2 r : Int32} {z3 : Int64} {u' : SX} (d0 : 1 ≤ z1.toInt) (f0 : 0 ≤ z2.toInt) (hb : ∀ e : Nat, (e : Int) < lim → ¬ MetD T L v e) (hbd : ∀ e : Nat, (e : Int) ≤ z1.toInt → ¬ MetD T L v e) (hl9 : lim ≤ 121) (hg : ∀ x, bt z3 x ↔ (mt v x ∧ Kn T L (z1.toNatClampNeg - 1) z2.toNatClampNeg x)) : ∀ (n : Nat) (z6 z7 : Int32) (u : SX), XC T L v u → z1.toInt ≤ (u.1 0).toInt → z2.toInt < (u.1 35).toInt → z1.toInt ≤ z6.toInt → 0 ≤ z7.toInt → z7.toInt ≤ (u.1 35).toInt → RX T L v lim u z6.toInt z1.toNatClampNeg z2.toNatClampNeg z7.toNatClampNeg → LX4_tryAll_12_7 n z1 z2 z3 z6 z7 u = some (r, u') → StX md7 u u' ∧ z1.toInt ≤ r.toInt ∧ ∃ t : Nat, (u.1 35).toInt ≤ (t : Int) ∧ RX T L v lim u' r.toInt z1.toNatClampNeg z2.toNatClampNeg t := by
  intro n
  induction n with
  | zero => intro z6 z7 u _ _ _ _ _ _ _ h; cases h
  | succ n ih =>
    intro z6 z7 u hX dn fn hz h0 h9 hR h
    obtain ⟨hI, hT, hL, hM, e36, e35, hV⟩ := id hX
    have b35 : (u.1 35).toInt ≤ (8 : Int) := (hI.1 35).2
    have bn9 : (u.1 0).toInt ≤ (120 : Int) := (hI.1 0).2
    have l6 : z6.toInt ≤ lim := hR.1
    have h : (if (u.1 35) ≤ z7 then (some (z6, u)) else (if z7 = z2 then (LX4_tryAll_12_7 n z1 z2 z3 z6 (z7 + 1) u) else ((fX2_knownBy_11 z7 z1 u).bind fun q => match q with | (r1, u2) => (if (lg_cmp (z3 &&& (r1 ^^^ (-1))) 0) = 0 then (LX4_tryAll_12_7 n z1 z2 z3 z6 (z7 + 1) u2) else ((fX4_meetingBy_12 z1 z7 z3 z6 u2).bind fun q => match q with | (r4, u5) => (if z6 ≤ r4 then (LX4_tryAll_12_7 n z1 z2 z3 z6 (z7 + 1) u5) else (lt (sI u5 40 z2) fun u7 => (lt (sI u7 41 z7) fun u9 => (lt (sI u9 42 z1) fun u11 => (lt (sI u11 43 r4) fun u13 => (LX4_tryAll_12_7 n z1 z2 z3 r4 (z7 + 1) u13))))))))))) = some (r, u') := h
    have t1 := tn (a := z1) (by omega)
    have t2 := tn f0
    have t7 := tn h0
    by_cases c : u.1 35 ≤ z7
    · rw [if_pos c] at h
      have c9 := leI c
      have e : z6 = r ∧ u = u' := by cases h; exact ⟨rfl, rfl⟩
      rw [← e.1, ← e.2]
      exact ⟨StX_rf hI, by omega, z7.toNatClampNeg, by omega, hR⟩
    · rw [if_neg c] at h
      have c9 := nleI c
      have et : (z7 + 1).toInt = z7.toInt + 1 := addc_t (by decide) (by omega) (by omega)
      have en := ns1 h0 (show z7.toInt ≤ 5000 by omega)
      have skip : ∀ w : SX, StX md712 u w → (¬ z2.toNatClampNeg = z7.toNatClampNeg → ∀ e : Nat, (e : Int) < z6.toInt → ¬ PM T L v z1.toNatClampNeg z2.toNatClampNeg z7.toNatClampNeg e) → LX4_tryAll_12_7 n z1 z2 z3 z6 (z7 + 1) w = some (r, u') → StX md7 u u' ∧ z1.toInt ≤ r.toInt ∧ ∃ t : Nat, (u.1 35).toInt ≤ (t : Int) ∧ RX T L v lim u' r.toInt z1.toNatClampNeg z2.toNatClampNeg t := by
        intro w sw hn g
        have w35 : w.1 35 = u.1 35 := sw.2.1 35 (by decide)
        have w0 : w.1 0 = u.1 0 := sw.2.1 0 (by decide)
        obtain ⟨s1, q1, t, q2, q3⟩ := ih z6 (z7 + 1) w (XC_fr (to7 sw) hX) (by rw [w0]; exact dn) (by rw [w35]; exact fn) hz (by rw [et]; omega) (by rw [et, w35]; omega) (by
          rw [en]
          exact RX_712 sw (RS_skip hR hn)) g
        rw [w35] at q2
        exact ⟨StX_tr (to7 sw) s1 (by decide), q1, t, q2, q3⟩
      by_cases c2 : z7 = z2
      · rw [if_pos c2] at h
        exact skip u (StX_rf hI) (fun g => absurd (by rw [c2]) g) h
      · rw [if_neg c2] at h
        have hne : ¬ z2.toNatClampNeg = z7.toNatClampNeg := fun g => c2 (Int32.toInt.inj (by omega))
        obtain ⟨⟨r1, u2⟩, a1, h⟩ := bd_some h
        obtain ⟨e2, k2⟩ := kb_sp h0 (by omega) (by omega) a1
        rw [e2] at h
        have er : r1 = ro u z1.toNatClampNeg z7.toNatClampNeg := by
          rcases k2 with ⟨-, k⟩ | ⟨k, -⟩
          · exact k
          · omega
        have h : (if (lg_cmp (z3 &&& (r1 ^^^ (-1))) 0) = 0 then (LX4_tryAll_12_7 n z1 z2 z3 z6 (z7 + 1) u) else ((fX4_meetingBy_12 z1 z7 z3 z6 u).bind fun q => match q with | (r4, u5) => (if z6 ≤ r4 then (LX4_tryAll_12_7 n z1 z2 z3 z6 (z7 + 1) u5) else (lt (sI u5 40 z2) fun u7 => (lt (sI u7 41 z7) fun u9 => (lt (sI u9 42 z1) fun u11 => (lt (sI u11 43 r4) fun u13 => (LX4_tryAll_12_7 n z1 z2 z3 r4 (z7 + 1) u13)))))))) = some (r, u') := h
        by_cases c3 : lg_cmp (z3 &&& (r1 ^^^ (-1))) 0 = 0
        · rw [if_pos c3] at h
          have q := and_0.mp (lgc0.mp c3)
          refine skip u (StX_rf hI) (fun _ e he g => hb e (by omega) ?_) h
          refine MetD_mt (fun k x hx => LQ_no (fun _ gk => ?_) e k) g
          have b3 := (hg x).mpr ⟨hx, gk⟩
          have n3 := q x b3
          rw [bt_not (bt_64 b3), er] at n3
          exact (hV z1.toNatClampNeg (by omega) _ x (by omega)).mp (Classical.byContradiction n3)
        · rw [if_neg c3] at h
          obtain ⟨⟨r4, u5⟩, a4, h⟩ := bd_some h
          obtain ⟨s5, yd, y9, y1, y2⟩ := mby_sp (f := z2.toNatClampNeg) hX d0 dn h0 (by omega) hz (by omega) hbd (fun x hx => (hg x).trans ⟨fun g => g.2, fun g => ⟨hx, g⟩⟩) a4
          have y0 : 0 ≤ r4.toInt := by omega
          have h : (if z6 ≤ r4 then (LX4_tryAll_12_7 n z1 z2 z3 z6 (z7 + 1) u5) else (lt (sI u5 40 z2) fun u7 => (lt (sI u7 41 z7) fun u9 => (lt (sI u9 42 z1) fun u11 => (lt (sI u11 43 r4) fun u13 => (LX4_tryAll_12_7 n z1 z2 z3 r4 (z7 + 1) u13)))))) = some (r, u') := h
          by_cases c4 : z6 ≤ r4
          · rw [if_pos c4] at h
            have c49 := leI c4
            exact skip u5 s5 (fun _ e he => y1 e (by omega)) h
          · rw [if_neg c4] at h
            have c49 := nleI c4
            obtain ⟨u7, j7, h⟩ := lt_some h
            obtain ⟨u9, j9, h⟩ := lt_some h
            obtain ⟨u11, j11, h⟩ := lt_some h
            obtain ⟨u13, j13, h⟩ := lt_some h
            have s13 : StX md7 u u13 := by
              rw [j13, j11, j9, j7]
              refine StX_sI (StX_sI (StX_sI (StX_sI (to7 s5) (by decide) ?_ ?_) (by decide) ?_ ?_) (by decide) ?_ ?_) (by decide) ?_ ?_
              · show (-1 : Int) ≤ _
                omega
              · show _ ≤ (7 : Int)
                omega
              · show (-1 : Int) ≤ _
                omega
              · show _ ≤ (7 : Int)
                omega
              · show (-1 : Int) ≤ _
                omega
              · show _ ≤ (120 : Int)
                omega
              · show (-1 : Int) ≤ _
                omega
              · show _ ≤ (120 : Int)
                omega
            have w35 : u13.1 35 = u.1 35 := s13.2.1 35 (by decide)
            have w0 : u13.1 0 = u.1 0 := s13.2.1 0 (by decide)
            have x40 : u13.1 40 = z2 := by rw [j13, j11, j9, j7]; rfl
            have x41 : u13.1 41 = z7 := by rw [j13, j11, j9]; rfl
            have x42 : u13.1 42 = z1 := by rw [j13, j11]; rfl
            have x43 : u13.1 43 = r4 := by rw [j13]; rfl
            obtain ⟨s1, q1, t, q2, q3⟩ := ih r4 (z7 + 1) u13 (XC_fr s13 hX) (by rw [w0]; exact dn) (by rw [w35]; exact fn) yd (by rw [et]; omega) (by rw [et, w35]; omega) (by
              rw [en]
              unfold RX
              rw [w35, x40, x41, x42, x43]
              exact RS_take hR t2.symm t7.symm t1.symm (by omega) (by omega) hne y0 (by omega) (y2 (by omega)) y1) h
            rw [w35] at q2
            exact ⟨StX_tr s13 s1 (by decide), q1, t, q2, q3⟩
