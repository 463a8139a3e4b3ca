/-! next. -/
theorem abs_t {x y : Int32} (hx : Bw x) (hy : Bw y) : 0 ≤ (if 0 ≤ (x - y) then (x - y) else 0 - (x - y)).toInt := by
  obtain ⟨a0, a1⟩ := hx
  obtain ⟨b0, b1⟩ := hy
  have e : (x - y).toInt = x.toInt - y.toInt := sub_t (by omega) (by omega)
  by_cases c : 0 ≤ (x - y)
  · have c9 : (0 : Int) ≤ (x - y).toInt := leI c
    rw [if_pos c]
    exact c9
  · have c9 : ¬ (0 : Int) ≤ (x - y).toInt := nleI c
    rw [if_neg c, csub_t (n := 0) (by decide) (by rw [e]; omega) (by rw [e]; omega), e]
    rw [e] at c9
    omega
theorem tell_L {x1 x2 a b z4 r r' : Int32} {u0 u' v' : SX} (hI0 : IX u0) (g10 : 0 ≤ x1.toInt) (g11 : x1.toInt < (u0.1 6).toInt) (g20 : 0 ≤ x2.toInt) (g21 : x2.toInt < (u0.1 6).toInt) (ba : 0 ≤ a.toInt ∧ a.toInt ≤ 60) (bb : 0 ≤ b.toInt ∧ b.toInt ≤ 60) : ∀ (n m : Nat) (z5 z7 : Int32) (u v : SX), IX u → LVG u → gv u = gv u0 → u.1 6 = u0.1 6 → MR u0 v → 1 ≤ z5.toInt → (z7 = u.1 22 ∨ (z5 = 1 ∧ u.1 23 = -1)) → LX1_tellApart_8_8 n x1 a x2 b z5 u = some (r, u') → LX12_next_0_86 GX12_next_0_141 m x1 x2 z4 a b z7 (u.1 23) z5 v = some (r', v') → r' = if z4 = 0 then u'.1 22 else u'.1 23 := by
  intro n
  induction n with
  | zero => intro m z5 z7 u v _ _ _ _ _ _ _ h; cases h
  | succ n ih =>
    intro m z5 z7 u v hI hL eg e6 hM h1 hz g k
    cases m with
    | zero => cases k
    | succ m =>
      have g : (if 40 < z5 then (some (0, u)) else ((fX1_guessed_8 x1 z5 a u).bind fun q => match q with | (r3, u4) => ((fX1_guessed_8 x2 z5 b u4).bind fun q => match q with | (r6, u7) => (lt (if 0 ≤ (r3 - r6) then (r3 - r6) else 0 - (r3 - r6)) fun v9 => (if v9 ≤ (u7.1 23) then (GX1_tellApart_8_59 (LX1_tellApart_8_8 n) x1 a x2 b z5 u7) else (lt (sI u7 23 v9) fun u11 => (lt (sI u11 22 z5) fun u13 => (GX1_tellApart_8_59 (LX1_tellApart_8_8 n) x1 a x2 b z5 u13)))))))) = some (r, u') := g
      have k : (if 40 < z5 then (GX12_next_0_141 z4 z7 (u.1 23) v) else ((fX12_guessWorth_0 x1 a z5 v).bind fun q => match q with | (r21, u22) => ((fX12_guessWorth_0 x2 b z5 u22).bind fun q => match q with | (r24, u25) => (lt (if 0 ≤ (r21 - r24) then (r21 - r24) else 0 - (r21 - r24)) fun v27 => (if (u.1 23) < v27 then (GX12_next_0_135 (LX12_next_0_86 GX12_next_0_141 m) x1 x2 z4 a b z5 v27 z5 u25) else (GX12_next_0_135 (LX12_next_0_86 GX12_next_0_141 m) x1 x2 z4 a b z7 (u.1 23) z5 u25)))))) = some (r', v') := k
      by_cases c : 40 < z5
      · rw [if_pos c] at g k
        have c9 : (40 : Int) < z5.toInt := ltI c
        have e : u = u' := by cases g; rfl
        have e7 : z7 = u.1 22 := by
          rcases hz with z | ⟨z, -⟩
          · exact z
          · rw [z] at c9
            exact absurd c9 (by decide)
        unfold GX12_next_0_141 at k
        rw [← e, ← e7]
        by_cases d : z4 = 0
        · rw [if_pos d] at k ⊢
          cases k
          rfl
        · rw [if_neg d] at k ⊢
          cases k
          rfl
      · rw [if_neg c] at g k
        have c9 : ¬ (40 : Int) < z5.toInt := nltI c
        have et : (z5 + 1).toInt = z5.toInt + 1 := addc_t (by decide) (by omega) (by omega)
        obtain ⟨⟨r3, u4⟩, a3, g⟩ := bd_some g
        obtain ⟨q3, s4⟩ := guessX hI hL g10 (by rw [e6]; exact g11) ⟨h1, by omega⟩ ba a3
        obtain ⟨⟨r6, u7⟩, a6, g⟩ := bd_some g
        have L4 := LVG_fr (s4.2.1 6 (by decide)) s4.2.2.2.2.2 hL
        have eg4 : gv u4 = gv u0 := (gv_fr s4.2.2.2.2.2).trans eg
        have e64 : u4.1 6 = u0.1 6 := (s4.2.1 6 (by decide)).trans e6
        obtain ⟨q6, s7⟩ := guessX s4.1 L4 g20 (by rw [e64]; exact g21) ⟨h1, by omega⟩ bb a6
        have L7 := LVG_fr (s7.2.1 6 (by decide)) s7.2.2.2.2.2 L4
        have eg7 : gv u7 = gv u0 := (gv_fr s7.2.2.2.2.2).trans eg4
        have e67 : u7.1 6 = u0.1 6 := (s7.2.1 6 (by decide)).trans e64
        have f23 : u7.1 23 = u.1 23 := (s7.2.1 23 (by decide)).trans (s4.2.1 23 (by decide))
        have f22 : u7.1 22 = u.1 22 := (s7.2.1 22 (by decide)).trans (s4.2.1 22 (by decide))
        rw [eg] at q3
        rw [eg4] at q6
        obtain ⟨⟨r21, v22⟩, b21, k⟩ := bd_some k
        obtain ⟨p21, -, t22⟩ := guessM hI0 hM.1 hM.2.2.2.1 g10 g11 ba ⟨by omega, by omega⟩ b21
        have M22 := MR_md t22.1 t22.2 (by decide) hM
        obtain ⟨⟨r24, v25⟩, b24, k⟩ := bd_some k
        obtain ⟨p24, -, t25⟩ := guessM hI0 M22.1 M22.2.2.2.1 g20 g21 bb ⟨by omega, by omega⟩ b24
        have M25 := MR_md t25.1 t25.2 (by decide) M22
        have B3 : Bw r3 := by
          rw [q3]
          exact gvB hI0 hM.1 hM.2.2.2.1 (by show ((x1.toInt.toNat : Nat) : Int) < _; omega) ⟨by omega, by omega⟩ ba
        have B6 : Bw r6 := by
          rw [q6]
          exact gvB hI0 hM.1 hM.2.2.2.1 (by show ((x2.toInt.toNat : Nat) : Int) < _; omega) ⟨by omega, by omega⟩ bb
        have pos := abs_t B3 B6
        have e21 : r21 = r3 := p21.trans q3.symm
        have e24 : r24 = r6 := p24.trans q6.symm
        obtain ⟨v9, i9, g⟩ := lt_some g
        obtain ⟨v27, i27, k⟩ := lt_some k
        rw [e21, e24, ← i9] at i27
        rw [← i9] at pos
        rw [i27] at k
        by_cases d : v9 ≤ u7.1 23
        · have d' : ¬ u.1 23 < v9 := by
            rw [f23] at d
            have d9 := leI d
            exact fun z => by have z9 := ltI z; omega
          rw [if_pos d] at g
          rw [if_neg d'] at k
          have g : LX1_tellApart_8_8 n x1 a x2 b (z5 + 1) u7 = some (r, u') := g
          have k : LX12_next_0_86 GX12_next_0_141 m x1 x2 z4 a b z7 (u.1 23) (z5 + 1) v25 = some (r', v') := k
          rw [← f23] at k
          refine ih m (z5 + 1) z7 u7 v25 s7.1 L7 eg7 e67 M25 (by rw [et]; omega) (Or.inl ?_) g k
          rw [f22]
          rcases hz with z | ⟨-, z⟩
          · exact z
          · rw [f23, z] at d
            have d9 : v9.toInt ≤ (-1 : Int) := leI d
            omega
        · have d' : u.1 23 < v9 := by
            rw [f23] at d
            have d9 := nleI d
            exact Int32.lt_iff_toInt_lt.mpr (by omega)
          rw [if_neg d] at g
          rw [if_pos d'] at k
          obtain ⟨u11, i11, g⟩ := lt_some g
          obtain ⟨u13, i13, g⟩ := lt_some g
          have g : LX1_tellApart_8_8 n x1 a x2 b (z5 + 1) u13 = some (r, u') := g
          have k : LX12_next_0_86 GX12_next_0_141 m x1 x2 z4 a b z5 v9 (z5 + 1) v25 = some (r', v') := k
          have s13 : StX ([22, 23], [], [], []) u7 u13 := by
            rw [i13, i11]
            exact StX_sI (StX_sIf (StX_rf s7.1) (by decide) rfl rfl) (by decide) (by show (0 : Int) ≤ _; omega) (by show _ ≤ (40 : Int); omega)
          have w23 : u13.1 23 = v9 := by rw [i13, i11]; rfl
          have w22 : u13.1 22 = z5 := by rw [i13]; rfl
          rw [← w23] at k
          exact ih m (z5 + 1) z5 u13 v25 s13.1 (LVG_fr (s13.2.1 6 (by decide)) s13.2.2.2.2.2 L7) ((gv_fr s13.2.2.2.2.2).trans eg7) ((s13.2.1 6 (by decide)).trans e67) M25 (by rw [et]; omega) (Or.inl w22.symm) g k
def OKx (u : SX) (x1 x2 x3 x4 : Int32) : Prop := 0 ≤ x3.toInt ∧ x3.toInt ≤ (u.1 0).toInt ∧ 0 ≤ x1.toInt ∧ x1.toInt < (u.1 6).toInt ∧ 0 ≤ x2.toInt ∧ x2.toInt < (u.1 6).toInt ∧ 0 ≤ x4.toInt ∧ x4.toInt ≤ 1
theorem nextX {x1 x2 x3 x4 r : Int32} {u u' : SX} (h : fX11_next_0 x1 x2 x3 x4 u = some (r, u')) : (¬ OKx u x1 x2 x3 x4 ∧ r = -1) ∨ (OKx u x1 x2 x3 x4 ∧ ∃ (s t1 t2 : Int32) (w w1 w2 : SX), fX7_recall_7 x3 u = some (s, w) ∧ fX1_fit_8 x1 w = some (t1, w1) ∧ fX1_fit_8 x2 w1 = some (t2, w2) ∧ ((w1.1 19 = -1 ∧ r = -1) ∨ (¬ w1.1 19 = -1 ∧ w2.1 19 = -1 ∧ r = -1) ∨ (¬ w1.1 19 = -1 ∧ ¬ w2.1 19 = -1 ∧ ∃ t3 : Int32, fX1_tellApart_8 x1 (w1.1 19) x2 (w2.1 19) w2 = some (t3, u') ∧ r = if x4 = 0 then u'.1 22 else u'.1 23))) := by
  unfold fX11_next_0 at h
  have no : ∀ w : SX, some ((-1 : Int32), w) = some (r, u') → r = -1 := fun w g => by cases g; rfl
  obtain ⟨⟨r1, u2⟩, a1, h⟩ := bd_some h
  obtain ⟨e1, k1⟩ := isDayi a1
  rw [e1] at h
  have h : (if r1 = 0 then (some ((-1), u)) else _) = some (r, u') := h
  rcases k1 with ⟨z, k1⟩ | ⟨z, k1, k1'⟩
  · rw [if_pos z] at h
    exact Or.inl ⟨fun q => k1 ⟨q.1, q.2.1⟩, no _ h⟩
  · rw [if_neg (ne01 z)] at h
    obtain ⟨⟨r4, u5⟩, a4, h⟩ := bd_some h
    obtain ⟨e4, k4⟩ := has4i a4
    rw [e4] at h
    have h : (if r4 = 0 then (some ((-1), u)) else _) = some (r, u') := h
    rcases k4 with ⟨z, k4⟩ | ⟨z, k4, k4'⟩
    · rw [if_pos z] at h
      exact Or.inl ⟨fun q => k4 ⟨q.2.2.1, q.2.2.2.1⟩, no _ h⟩
    · rw [if_neg (ne01 z)] at h
      obtain ⟨⟨r7, u8⟩, a7, h⟩ := bd_some h
      obtain ⟨e7, k7⟩ := has4i a7
      rw [e7] at h
      have h : (if r7 = 0 then (some ((-1), u)) else _) = some (r, u') := h
      rcases k7 with ⟨z, k7⟩ | ⟨z, k7, k7'⟩
      · rw [if_pos z] at h
        exact Or.inl ⟨fun q => k7 ⟨q.2.2.2.2.1, q.2.2.2.2.2.1⟩, no _ h⟩
      · rw [if_neg (ne01 z)] at h
        obtain ⟨r10, a10, h⟩ := bd_some h
        rcases eith a10 with ⟨z, k10⟩ | ⟨z, k10, k10'⟩
        · rw [if_pos z] at h
          exact Or.inl ⟨fun q => k10 ⟨q.2.2.2.2.2.2.1, q.2.2.2.2.2.2.2⟩, no _ h⟩
        · rw [if_neg (ne01 z)] at h
          obtain ⟨⟨r13, u14⟩, a13, h⟩ := bd_some h
          obtain ⟨⟨r16, u17⟩, a16, h⟩ := bd_some h
          obtain ⟨v19, i19, h⟩ := lt_some h
          obtain ⟨⟨r21, u22⟩, a21, h⟩ := bd_some h
          obtain ⟨v24, i24, h⟩ := lt_some h
          refine Or.inr ⟨⟨k1, k1', k4, k4', k7, k7', k10, k10'⟩, r13, r16, r21, u14, u17, u22, a13, a16, a21, ?_⟩
          have i19 : v19 = u17.1 19 := i19
          have i24 : v24 = u22.1 19 := i24
          rw [← i19, ← i24]
          by_cases c1 : v19 = -1
          · rw [if_pos c1] at h
            exact Or.inl ⟨c1, no _ h⟩
          · rw [if_neg c1] at h
            by_cases c2 : v24 = -1
            · rw [if_pos c2] at h
              exact Or.inr (Or.inl ⟨c1, c2, no _ h⟩)
            · rw [if_neg c2] at h
              obtain ⟨⟨r26, u27⟩, a26, h⟩ := bd_some h
              have h : (if x4 = 0 then (some (u27.1 22, u27)) else (some (u27.1 23, u27))) = some (r, u') := h
              have e : (if x4 = 0 then u27.1 22 else u27.1 23) = r ∧ u27 = u' := by
                by_cases d : x4 = 0
                · rw [if_pos d] at h ⊢
                  cases h
                  exact ⟨rfl, rfl⟩
                · rw [if_neg d] at h ⊢
                  cases h
                  exact ⟨rfl, rfl⟩
              rw [e.2] at a26 e
              exact Or.inr (Or.inr ⟨c1, c2, r26, a26, e.1.symm⟩)
theorem nextM {x1 x2 x3 x4 r : Int32} {u v v' : SX} (hI : IX u) (e1 : v.1 1 = u.1 0) (hC : TieC u v) (h : fX12_next_0 x1 x2 x3 x4 v = some (r, v')) : (¬ OKx u x1 x2 x3 x4 ∧ r = -1) ∨ (OKx u x1 x2 x3 x4 ∧ ∃ (f1 f2 : Int32) (w1 w2 : SX), fX12_fits_0 x1 x3 0 (sI v 0 0) = some (f1, w1) ∧ fX12_fits_0 x2 x3 0 w1 = some (f2, w2) ∧ ((f1 = -1 ∧ r = -1) ∨ (¬ f1 = -1 ∧ f2 = -1 ∧ r = -1) ∨ (¬ f1 = -1 ∧ ¬ f2 = -1 ∧ LX12_next_0_86 GX12_next_0_141 5000 x1 x2 x4 f1 f2 0 (-1) 1 w2 = some (r, v')))) := by
  unfold fX12_next_0 at h
  obtain ⟨v1, i1, h⟩ := lt_some h
  rw [← i1]
  have f1 : v1.1 1 = u.1 0 := by rw [i1]; exact e1
  have C1 : TieC u v1 := by rw [i1]; exact hC
  clear i1
  have no : ∀ w : SX, some ((-1 : Int32), w) = some (r, v') → r = -1 := fun w g => by cases g; rfl
  obtain ⟨⟨r3, u4⟩, a3, h⟩ := bd_some h
  obtain ⟨e3, k3⟩ := isGui hI C1 a3
  rw [e3] at h
  have h : (if r3 = 0 then (some ((-1), v1)) else _) = some (r, v') := h
  rcases k3 with ⟨z, k3⟩ | ⟨z, k3, k3'⟩
  · rw [if_pos z] at h
    exact Or.inl ⟨fun q => k3 ⟨q.2.2.1, q.2.2.2.1⟩, no _ h⟩
  · rw [if_neg (ne01 z)] at h
    obtain ⟨⟨r6, u7⟩, a6, h⟩ := bd_some h
    obtain ⟨e6, k6⟩ := isGui hI C1 a6
    rw [e6] at h
    have h : (if r6 = 0 then (some ((-1), v1)) else ((fX12_isIn x3 0 (v1.1 1)).bind fun r9 => (if r9 = 0 then (some ((-1), v1)) else ((fX12_isIn x4 0 1).bind fun r12 => (if r12 = 0 then (some ((-1), v1)) else ((fX12_fits_0 x1 x3 0 v1).bind fun q => match q with | (r15, u16) => ((fX12_fits_0 x2 x3 0 u16).bind fun q => match q with | (r18, u19) => (if r15 = (-1) then (some ((-1), u19)) else (if r18 = (-1) then (some ((-1), u19)) else (LX12_next_0_86 GX12_next_0_141 5000 x1 x2 x4 r15 r18 0 (-1) 1 u19)))))))))) = some (r, v') := h
    rcases k6 with ⟨z, k6⟩ | ⟨z, k6, k6'⟩
    · rw [if_pos z] at h
      exact Or.inl ⟨fun q => k6 ⟨q.2.2.2.2.1, q.2.2.2.2.2.1⟩, no _ h⟩
    · rw [if_neg (ne01 z)] at h
      obtain ⟨r9, a9, h⟩ := bd_some h
      rw [f1] at a9
      rcases inn a9 with ⟨z, k9⟩ | ⟨z, k9, k9'⟩
      · rw [if_pos z] at h
        exact Or.inl ⟨fun q => k9 ⟨q.1, q.2.1⟩, no _ h⟩
      · rw [if_neg (ne01 z)] at h
        obtain ⟨r12, a12, h⟩ := bd_some h
        rcases inn a12 with ⟨z, k12⟩ | ⟨z, k12, k12'⟩
        · rw [if_pos z] at h
          exact Or.inl ⟨fun q => k12 ⟨q.2.2.2.2.2.2.1, q.2.2.2.2.2.2.2⟩, no _ h⟩
        · rw [if_neg (ne01 z)] at h
          obtain ⟨⟨r15, u16⟩, a15, h⟩ := bd_some h
          obtain ⟨⟨r18, u19⟩, a18, h⟩ := bd_some h
          refine Or.inr ⟨⟨k9, k9', k3, k3', k6, k6', k12, k12'⟩, r15, r18, u16, u19, a15, a18, ?_⟩
          have h : (if r15 = (-1) then (some ((-1), u19)) else (if r18 = (-1) then (some ((-1), u19)) else (LX12_next_0_86 GX12_next_0_141 5000 x1 x2 x4 r15 r18 0 (-1) 1 u19))) = some (r, v') := h
          by_cases c1 : r15 = -1
          · rw [if_pos c1] at h
            exact Or.inl ⟨c1, no _ h⟩
          · rw [if_neg c1] at h
            by_cases c2 : r18 = -1
            · rw [if_pos c2] at h
              exact Or.inr (Or.inl ⟨c1, c2, no _ h⟩)
            · rw [if_neg c2] at h
              exact Or.inr (Or.inr ⟨c1, c2, h⟩)
theorem next_eq {x1 x2 x3 x4 r r' : Int32} {u u' v v' : SX} (hK : RK u) (hWG : WG u) (ht : Tie u v) (hC : TieC u v) (hM : MR u v) (h1 : fX11_next_0 x1 x2 x3 x4 u = some (r, u')) (h2 : fX12_next_0 x1 x2 x3 x4 v = some (r', v')) : r = r' := by
  have b120 : (u.1 0).toInt ≤ (120 : Int) := (hK.1.1.1 0).2
  have b6 : (u.1 6).toInt ≤ (6 : Int) := (hK.1.1.1 6).2
  have hI := hK.1.1
  rcases nextX h1 with ⟨n1, g1⟩ | ⟨o1, s, t1, t2, w, w1, w2, a1, a2, a3, g1⟩
  · rcases nextM hI ht.1.symm hC h2 with ⟨-, g2⟩ | ⟨o2, -⟩
    · rw [g1, g2]
    · exact absurd o2 n1
  · rcases nextM hI ht.1.symm hC h2 with ⟨n2, -⟩ | ⟨-, f1, f2, v1, v2, b1, b2, g2⟩
    · exact absurd o1 n2
    · obtain ⟨q1, q2, q3, q4, q5, q6, q7, q8⟩ := o1
      obtain ⟨Rw, Kw, Fw, k15, k16, U10, U11, U14⟩ := recall7_sp hK.1 hK.2 q1 (by omega) a1
      have el : lfX w = lfX u := lfX_md Fw (by decide)
      have k1 := U14.2.1
      have kn : (w.1 14).toNatClampNeg = (w.1 14).toInt.toNat := rfl
      have x15 : v.1 15 = u.1 13 := ht.2.2.2.2.2.symm
      have L0 : LVG u := LVG_of hI hM.1 hM.2.2.2.1
      have WK : ∀ n, n < (w.1 14).toNatClampNeg → 1 ≤ (u.2.1 36 (6 * n + 5)).toInt ∧ (u.2.1 36 (6 * n + 5)).toInt ≤ 40 := fun n hn => ⟨(hWG n (by rw [kn] at hn; omega)).1, (hI.2.1 36 _).2⟩
      have Lr : ∀ i : Nat, (i : Int) < (w.1 14).toInt → lfX u (w.1 10).toNatClampNeg (w.1 11).toNatClampNeg i = (w.2.1 38 i, w.2.1 39 i) := fun i hi => by
        have := Kw.2.2.2 i hi
        rw [k15, k16, el] at this
        exact this.symm
      -- the first guess
      rcases fitsM hI (show (sI v 0 0).1 1 = u.1 0 from ht.1.symm) (show TieC u (sI v 0 0) from hC) b1 with ⟨n3, -⟩ | ⟨-, s3, y1, c3, c4⟩
      · exact absurd ⟨q1, q2, q3, q4, by decide, by decide⟩ n3
      · have M1 : MR u (sI (sI v 0 0) 0 0) := MR_0 (MR_0 hM)
        obtain ⟨My, Fy, pv⟩ := layFits_sp hI hK.1.2.2.1 M1 (show (sI (sI v 0 0) 0 0).1 15 = u.1 13 from x15) U10 U11 U14 q1 (by omega) q3 q4 c3
        have fin1 := fit_sp (u0 := u) (W := fun i => u.2.1 36 (6 * i + 5)) (L := lfX u (w.1 10).toNatClampNeg (w.1 11).toNatClampNeg) (K := (w.1 14).toNatClampNeg) Rw.1 (LVG_fr (Fw.1 6 (by decide)) Fw.2.2.2.2 L0) q3 (by rw [Fw.1 6 (by decide)]; exact q4) (gv_fr Fw.2.2.2.2) (fun i _ => by rw [Fw.2.1 36 (by decide)]) WK Lr rfl pv a2 c4
        obtain ⟨ev1, ef1⟩ := fin1
        rw [if_pos rfl] at ef1
        have s1 : StX mdX1_fit_8 w w1 := (Tot_at (tfX1_fit_8 x1 w Rw.1 ⟨q3, by omega⟩) a2).1
        rw [ev1] at b2
        have y15 : y1.1 15 = u.1 13 := (Fy.1 15 (by decide)).trans x15
        have y01 : y1.1 1 = u.1 0 := (Fy.1 1 (by decide)).trans ht.1.symm
        have yC : TieC u y1 := by
          have e4 : y1.2.1 4 = v.2.1 4 := Fy.2.1 4 (by decide)
          unfold TieC at hC ⊢
          rw [e4]
          exact hC
        -- the second
        rcases fitsM hI y01 yC b2 with ⟨n3, -⟩ | ⟨-, s4, y2, c5, c6⟩
        · exact absurd ⟨q1, q2, q5, q6, by decide, by decide⟩ n3
        · obtain ⟨My2, -, pv2⟩ := layFits_sp hI hK.1.2.2.1 (MR_0 My) (show (sI y1 0 0).1 15 = u.1 13 from y15) U10 U11 U14 q1 (by omega) q5 q6 c5
          have f14 : w1.1 14 = w.1 14 := s1.2.1 14 (by decide)
          have f6 : w1.1 6 = u.1 6 := (s1.2.1 6 (by decide)).trans (Fw.1 6 (by decide))
          have fT : w1.2.2.2.2 = u.2.2.2.2 := s1.2.2.2.2.2.trans Fw.2.2.2.2
          have fin2 := fit_sp (u0 := u) (W := fun i => u.2.1 36 (6 * i + 5)) (L := lfX u (w.1 10).toNatClampNeg (w.1 11).toNatClampNeg) (K := (w.1 14).toNatClampNeg) s1.1 (LVG_fr f6 fT L0) q5 (by rw [f6]; exact q6) (gv_fr fT) (fun i _ => by rw [s1.2.2.1 36 (by decide), Fw.2.1 36 (by decide)]) WK (fun i hi => by
            rw [f14] at hi
            rw [s1.2.2.1 38 (by decide), s1.2.2.1 39 (by decide)]
            exact Lr i hi) (by rw [f14]) pv2 a3 c6
          obtain ⟨ev2, ef2⟩ := fin2
          rw [if_pos rfl] at ef2
          rw [ev2] at g2
          rw [ef1, ef2] at g2
          rcases g1 with ⟨d1, e1⟩ | ⟨d1, d2, e1⟩ | ⟨d1, d2, t3, a4, e1⟩
          · rcases g2 with ⟨-, e2⟩ | ⟨d3, -, -⟩ | ⟨d3, -, -⟩
            · rw [e1, e2]
            · exact absurd d1 d3
            · exact absurd d1 d3
          · rcases g2 with ⟨d3, -⟩ | ⟨-, -, e2⟩ | ⟨-, d3, -⟩
            · exact absurd d3 d1
            · rw [e1, e2]
            · exact absurd d2 d3
          · rcases g2 with ⟨d3, -⟩ | ⟨-, d3, -⟩ | ⟨-, -, e2⟩
            · exact absurd d3 d1
            · exact absurd d3 d2
            · have s2 : StX mdX1_fit_8 w1 w2 := (Tot_at (tfX1_fit_8 x2 w1 s1.1 ⟨q5, by omega⟩) a3).1
              have n19 : ¬ (w1.1 19).toInt = (-1 : Int) := neI d1
              have n24 : ¬ (w2.1 19).toInt = (-1 : Int) := neI d2
              have b19 : (-1 : Int) ≤ (w1.1 19).toInt ∧ (w1.1 19).toInt ≤ (60 : Int) := ⟨(s1.1.1 19).1, (s1.1.1 19).2⟩
              have b24 : (-1 : Int) ≤ (w2.1 19).toInt ∧ (w2.1 19).toInt ≤ (60 : Int) := ⟨(s2.1.1 19).1, (s2.1.1 19).2⟩
              unfold fX1_tellApart_8 at a4
              obtain ⟨w3, i3, a4⟩ := lt_some a4
              have s3 : StX ([23], [], [], []) w2 w3 := by
                rw [i3]
                exact StX_sIf (StX_rf s2.1) (by decide) rfl rfl
              have z23 : w3.1 23 = -1 := by rw [i3]; rfl
              have h6 : w3.1 6 = u.1 6 := (s3.2.1 6 (by decide)).trans ((s2.2.1 6 (by decide)).trans f6)
              have hT : w3.2.2.2.2 = u.2.2.2.2 := s3.2.2.2.2.2.trans (s2.2.2.2.2.2.trans fT)
              rw [← z23] at e2
              generalize (5000 : Nat) = N at a4 e2
              rw [e1]
              exact (tell_L hI q3 q4 q5 q6 ⟨by omega, by omega⟩ ⟨by omega, by omega⟩ N N 1 0 w3 y2 s3.1 (LVG_fr h6 hT L0) (gv_fr hT) h6 My2 (by decide) (Or.inr ⟨rfl, z23⟩) a4 e2).symm
