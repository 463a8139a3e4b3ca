/-! Plans, on both sides. -/
theorem bet_tr {W : Nat → Int32} {c : Nat → Int} {a b d : Nat} (h : bet W c a b) (h' : bet W c b d) : bet W c a d := by
  unfold bet at h h' ⊢
  rcases h with h | ⟨h1, h | ⟨h2, h3⟩⟩
  · rcases h' with g | ⟨g1, g⟩
    · exact Or.inl (by omega)
    · exact Or.inl (by omega)
  · rcases h' with g | ⟨g1, g | ⟨g2, g3⟩⟩
    · exact Or.inl (by omega)
    · exact Or.inr ⟨by omega, Or.inl (by omega)⟩
    · exact Or.inr ⟨by omega, Or.inl (by omega)⟩
  · rcases h' with g | ⟨g1, g | ⟨g2, g3⟩⟩
    · exact Or.inl (by omega)
    · exact Or.inr ⟨by omega, Or.inl (by omega)⟩
    · exact Or.inr ⟨by omega, Or.inr ⟨by omega, prf_tr h3 g3⟩⟩
theorem cutN_0 {u : SX} {S : Nat → Int32 × Int32} : ∀ i j : Nat, cutN u S 0 i j = S j := by
  intro i
  induction i with
  | zero => intro j; rfl
  | succ i ih =>
    intro j
    rw [cutN_s, if_neg (fun z => by
      rw [Nat.zero_testBit] at z
      exact absurd z.1 (by decide))]
    exact ih j
theorem judM {u v v' : SX} {s : Nat} {x2 r : Int32} (hI : IX u) (hPL : PL u) (hs : s < 4096) (e32 : x2 = u.1 32) (a0 : 0 ≤ x2.toInt) (a1 : x2.toInt < (u.1 13).toInt) (hM : MR u v) (e1 : v.1 1 = u.1 0) (h : fX12_judged_0 (Int32.ofNat s) x2 v = some (r, v')) : MR u v' ∧ v'.1 1 = u.1 0 ∧ r = wF u (spX u (u.1 12).toNatClampNeg) s := by
  unfold fX12_judged_0 at h
  obtain ⟨⟨r1, w⟩, a, h⟩ := bd_some h
  have hS := hM.2.2.1
  rw [← hS.1] at a
  have z12 : (0 : Int) ≤ (u.1 12).toInt := (hI.1 12).1
  have t12 := tnP z12
  obtain ⟨M2, S2, f2⟩ := laySp_SP hM z12 (Int.le_refl _) a
  exact judM10 hI hPL hs e32 a0 a1 (fun j hj => spX_le hS (by omega) hj) 5000 0 r w v' M2 (by rw [f2]; exact e1) (by decide) (hI.1 29).1 (fun i hi => S2 i hi) h
def MI (u : SX) (C : Int) (S : Nat → Int32 × Int32) (z4 z5 z6 : Int32) (s : Nat) : Prop := (z4 = -1 ∧ ∀ t, t < s → ¬ VP u C (u.1 29).toNatClampNeg 0 0 t) ∨ ∃ b, b < s ∧ VP u C (u.1 29).toNatClampNeg 0 0 b ∧ z4 = Int32.ofNat b ∧ z5 = wF u S b ∧ z6.toInt = cosN u b (u.1 29).toNatClampNeg ∧ ∀ t, t < s → VP u C (u.1 29).toNatClampNeg 0 0 t → t = b ∨ bet (wF u S) (cF u C) b t
theorem plan47 {u : SX} {k227 : Int32 → Int32 → Int32 → SX → Option (Int32 × SX)} {z1 z2 z3 r : Int32} {v' : SX} (hI : IX u) (hPL : PL u) (e32 : z1 = u.1 32) (a0 : 0 ≤ z1.toInt) (a1 : z1.toInt < (u.1 13).toInt) (c0 : 0 ≤ z2.toInt) (c9 : z2.toInt ≤ 500) : ∀ (m s : Nat) (z4 z5 z6 : Int32) (v : SX), MR u v → v.1 1 = u.1 0 → s ≤ 2 ^ (u.1 29).toNatClampNeg → MI u z2.toInt (spX u (u.1 12).toNatClampNeg) z4 z5 z6 s → LX12_plan_0_47 k227 m z1 z2 z3 z4 z5 z6 (Int32.ofNat s) v = some (r, v') → ∃ (y4 y5 y6 : Int32) (w : SX), MI u z2.toInt (spX u (u.1 12).toNatClampNeg) y4 y5 y6 (2 ^ (u.1 29).toNatClampNeg) ∧ k227 z3 y4 y5 w = some (r, v') := by
  intro m
  induction m with
  | zero => intro s z4 z5 z6 v _ _ _ _ h; cases h
  | succ m ih =>
    intro s z4 z5 z6 v hM e1 hs hB h
    have hp := hM.2.1
    have b29 : (u.1 29).toInt ≤ (10 : Int) := (hI.1 29).2
    have z29 : (0 : Int) ≤ (u.1 29).toInt := (hI.1 29).1
    have t29 := tnP z29
    have hp10 := pow10 (n := (u.1 29).toNatClampNeg) (by omega)
    have h : (if (1 <<< ((v.1 21) &&& 31)) ≤ Int32.ofNat s then (k227 z3 z4 z5 v) else ((fX12_isRow_0 (Int32.ofNat s) v).bind fun q => match q with | (r12, u13) => (if r12 = 0 then (LX12_plan_0_47 k227 m z1 z2 z3 z4 z5 z6 (Int32.ofNat s + 1) u13) else (LX12_plan_0_76 (GX12_plan_0_118 (LX12_plan_0_47 k227 m)) 5000 z1 z2 z3 z4 z5 z6 (Int32.ofNat s) 0 0 u13)))) = some (r, v') := h
    rw [← hp.2.1] at h
    have ts := ofN_t (a := s) (by omega)
    have tl := shlM (z := u.1 29) z29 (by omega)
    by_cases c : (1 <<< ((u.1 29) &&& 31)) ≤ Int32.ofNat s
    · rw [if_pos c] at h
      have d := leI c
      rw [tl, ts] at d
      rw [show 2 ^ (u.1 29).toNatClampNeg = s by omega]
      exact ⟨z4, z5, z6, v, hB, h⟩
    · rw [if_neg c] at h
      have d := nleI c
      rw [tl, ts] at d
      have hlt : s < 2 ^ (u.1 29).toNatClampNeg := by omega
      have e1s : Int32.ofNat s + 1 = Int32.ofNat (s + 1) := by
        apply Int32.toInt.inj
        rw [addc_t (x := Int32.ofNat s) (c := 1) (n := 1) (by decide) (by omega) (by omega), ts, ofN_t (by omega)]
        omega
      rw [e1s] at h
      obtain ⟨⟨r12, u13⟩, a12, h⟩ := bd_some h
      obtain ⟨e13, k12⟩ := rowM hI hp hlt a12
      rw [e13] at h
      have skip : ∀ w : SX, MR u w → w.1 1 = u.1 0 → (VP u z2.toInt (u.1 29).toNatClampNeg 0 0 s → ∃ b, b < s ∧ VP u z2.toInt (u.1 29).toNatClampNeg 0 0 b ∧ z4 = Int32.ofNat b ∧ z5 = wF u (spX u (u.1 12).toNatClampNeg) b ∧ z6.toInt = cosN u b (u.1 29).toNatClampNeg ∧ bet (wF u (spX u (u.1 12).toNatClampNeg)) (cF u z2.toInt) b s ∧ ∀ t, t < s → VP u z2.toInt (u.1 29).toNatClampNeg 0 0 t → t = b ∨ bet (wF u (spX u (u.1 12).toNatClampNeg)) (cF u z2.toInt) b t) → LX12_plan_0_47 k227 m z1 z2 z3 z4 z5 z6 (Int32.ofNat (s + 1)) w = some (r, v') → ∃ (y4 y5 y6 : Int32) (w : SX), MI u z2.toInt (spX u (u.1 12).toNatClampNeg) y4 y5 y6 (2 ^ (u.1 29).toNatClampNeg) ∧ k227 z3 y4 y5 w = some (r, v') := by
        intro w hw ew hv g
        refine ih (s + 1) z4 z5 z6 w hw ew (by omega) ?_ g
        by_cases vs : VP u z2.toInt (u.1 29).toNatClampNeg 0 0 s
        · obtain ⟨b, p1, p2, p3, p4, p5, p6, p7⟩ := hv vs
          refine Or.inr ⟨b, by omega, p2, p3, p4, p5, fun t ht vt => ?_⟩
          by_cases ct : t = s
          · rw [ct]
            exact Or.inr p6
          · exact p7 t (by omega) vt
        · rcases hB with ⟨p1, p2⟩ | ⟨b, p1, p2, p3, p4, p5, p6⟩
          · refine Or.inl ⟨p1, fun t ht => ?_⟩
            by_cases ct : t = s
            · rw [ct]
              exact vs
            · exact p2 t (by omega)
          · refine Or.inr ⟨b, by omega, p2, p3, p4, p5, fun t ht vt => ?_⟩
            by_cases ct : t = s
            · rw [ct] at vt
              exact absurd vt vs
            · exact p6 t (by omega) vt
      have h : (if r12 = 0 then (LX12_plan_0_47 k227 m z1 z2 z3 z4 z5 z6 (Int32.ofNat (s + 1)) v) else (LX12_plan_0_76 (GX12_plan_0_118 (LX12_plan_0_47 k227 m)) 5000 z1 z2 z3 z4 z5 z6 (Int32.ofNat s) 0 0 v)) = some (r, v') := h
      rcases k12 with ⟨z, k12⟩ | ⟨z, k12⟩
      · rw [if_neg (ne01 z)] at h
        obtain ⟨z8, e8, h⟩ := cost76 hI hp hM.2.2.1 (by omega) 5000 0 0 (by decide) z29 (by
          show (0 : Int32).toInt = 0
          decide) h
        have cb := cosN_b (s := s) hI (u.1 29).toNatClampNeg
        unfold GX12_plan_0_118 GX12_plan_0_199 GX12_plan_0_221 at h
        rw [e1s] at h
        by_cases cc : z8 ≤ z2
        · rw [if_pos cc] at h
          have cc9 := leI cc
          have vs : VP u z2.toInt (u.1 29).toNatClampNeg 0 0 s := ⟨hlt, fun j hj => absurd hj (Nat.not_lt_zero _), k12, by omega⟩
          obtain ⟨⟨r18, v19⟩, a18, h⟩ := bd_some h
          obtain ⟨M19, e19, w18⟩ := judM hI hPL (by omega) e32 a0 a1 hM e1 a18
          have wb := fun t => wF_b (S := spX u (u.1 12).toNatClampNeg) hI hM hPL (fun j => spXB hI _ j) (by rw [← e32]; exact a0) (by rw [← e32]; exact a1) t
          have take : (∀ t, t < s → VP u z2.toInt (u.1 29).toNatClampNeg 0 0 t → bet (wF u (spX u (u.1 12).toNatClampNeg)) (cF u z2.toInt) s t) → LX12_plan_0_47 k227 m z1 z2 z3 (Int32.ofNat s) r18 z8 (Int32.ofNat (s + 1)) v19 = some (r, v') → ∃ (y4 y5 y6 : Int32) (w : SX), MI u z2.toInt (spX u (u.1 12).toNatClampNeg) y4 y5 y6 (2 ^ (u.1 29).toNatClampNeg) ∧ k227 z3 y4 y5 w = some (r, v') := by
            intro hb g
            refine ih (s + 1) (Int32.ofNat s) r18 z8 v19 M19 e19 (by omega) (Or.inr ⟨s, by omega, vs, rfl, w18, e8, fun t ht vt => ?_⟩) g
            by_cases ct : t = s
            · exact Or.inl ct
            · exact Or.inr (hb t (by omega) vt)
          have h : (if z4 = (-1) then (if (-1 : Int32) ≤ 0 then (LX12_plan_0_47 k227 m z1 z2 z3 (Int32.ofNat s) r18 z8 (Int32.ofNat (s + 1)) v19) else (LX12_plan_0_47 k227 m z1 z2 z3 z4 z5 z6 (Int32.ofNat (s + 1)) v19)) else (if r18 = z5 then (if z8 = z6 then (if ((Int32.ofNat s &&& (Int32.ofNat s ^^^ z4)) &&& (-(Int32.ofNat s ^^^ z4))) = 0 then (if (1 : Int32) ≤ 0 then (LX12_plan_0_47 k227 m z1 z2 z3 (Int32.ofNat s) r18 z8 (Int32.ofNat (s + 1)) v19) else (LX12_plan_0_47 k227 m z1 z2 z3 z4 z5 z6 (Int32.ofNat (s + 1)) v19)) else (if (-1 : Int32) ≤ 0 then (LX12_plan_0_47 k227 m z1 z2 z3 (Int32.ofNat s) r18 z8 (Int32.ofNat (s + 1)) v19) else (LX12_plan_0_47 k227 m z1 z2 z3 z4 z5 z6 (Int32.ofNat (s + 1)) v19))) else (if (z8 - z6) ≤ 0 then (LX12_plan_0_47 k227 m z1 z2 z3 (Int32.ofNat s) r18 z8 (Int32.ofNat (s + 1)) v19) else (LX12_plan_0_47 k227 m z1 z2 z3 z4 z5 z6 (Int32.ofNat (s + 1)) v19))) else (if (r18 - z5) ≤ 0 then (LX12_plan_0_47 k227 m z1 z2 z3 (Int32.ofNat s) r18 z8 (Int32.ofNat (s + 1)) v19) else (LX12_plan_0_47 k227 m z1 z2 z3 z4 z5 z6 (Int32.ofNat (s + 1)) v19)))) = some (r, v') := h
          rw [if_pos (show (-1 : Int32) ≤ 0 by decide), if_neg (show ¬ (1 : Int32) ≤ 0 by decide)] at h
          rcases hB with ⟨p1, p2⟩ | ⟨b, p1, p2, p3, p4, p5, p6⟩
          · rw [if_pos p1] at h
            exact take (fun t ht vt => absurd vt (p2 t ht)) h
          · have n4 : ¬ z4 = -1 := fun q => by
              have := congrArg Int32.toInt (p3.symm.trans q)
              rw [ofN_t (by omega)] at this
              have z : (-1 : Int32).toInt = -1 := by decide
              omega
            rw [if_neg n4] at h
            have cbb := cosN_b (s := b) hI (u.1 29).toNatClampNeg
            have wbs := wb s
            have wbb := wb b
            have better : bet (wF u (spX u (u.1 12).toNatClampNeg)) (cF u z2.toInt) s b → ∀ t, t < s → VP u z2.toInt (u.1 29).toNatClampNeg 0 0 t → bet (wF u (spX u (u.1 12).toNatClampNeg)) (cF u z2.toInt) s t := fun hb t ht vt => by
              rcases p6 t ht vt with g | g
              · rw [g]
                exact hb
              · exact bet_tr hb g
            have worse : bet (wF u (spX u (u.1 12).toNatClampNeg)) (cF u z2.toInt) b s → LX12_plan_0_47 k227 m z1 z2 z3 z4 z5 z6 (Int32.ofNat (s + 1)) v19 = some (r, v') → ∃ (y4 y5 y6 : Int32) (w : SX), MI u z2.toInt (spX u (u.1 12).toNatClampNeg) y4 y5 y6 (2 ^ (u.1 29).toNatClampNeg) ∧ k227 z3 y4 y5 w = some (r, v') := fun hb g => skip v19 M19 e19 (fun _ => ⟨b, p1, p2, p3, p4, p5, hb, p6⟩) g
            by_cases cw : r18 = z5
            · rw [if_pos cw] at h
              have ww' : (wF u (spX u (u.1 12).toNatClampNeg) s).toInt = (wF u (spX u (u.1 12).toNatClampNeg) b).toInt := by rw [← w18, ← p4, cw]
              by_cases ce : z8 = z6
              · rw [if_pos ce] at h
                have ec : cosN u s (u.1 29).toNatClampNeg = cosN u b (u.1 29).toNatClampNeg := by rw [← e8, ← p5, ce]
                have ec' : cF u z2.toInt s = cF u z2.toInt b := by
                  unfold cF
                  rw [ec]
                rw [p3] at h
                obtain ⟨k1, k2⟩ := pick_sp (a := s) (b := b) (by omega) (by omega) (by omega)
                by_cases ck : ((Int32.ofNat s &&& (Int32.ofNat s ^^^ Int32.ofNat b)) &&& (-(Int32.ofNat s ^^^ Int32.ofNat b))) = 0
                · rw [if_pos ck, ← p3] at h
                  exact worse (Or.inr ⟨ww'.symm, Or.inr ⟨ec'.symm, k1 ck⟩⟩) h
                · rw [if_neg ck] at h
                  exact take (better (Or.inr ⟨ww', Or.inr ⟨ec', k2 ck⟩⟩)) h
              · rw [if_neg ce] at h
                have ne := neI ce
                have es : (z8 - z6).toInt = z8.toInt - z6.toInt := sub_t (by omega) (by omega)
                by_cases cd : z8 - z6 ≤ 0
                · rw [if_pos cd] at h
                  have cd9 : (z8 - z6).toInt ≤ (0 : Int) := leI cd
                  refine take (better (Or.inr ⟨ww', Or.inl ?_⟩)) h
                  unfold cF
                  omega
                · rw [if_neg cd] at h
                  have cd9 : ¬ (z8 - z6).toInt ≤ (0 : Int) := nleI cd
                  refine worse (Or.inr ⟨ww'.symm, Or.inl ?_⟩) h
                  unfold cF
                  omega
            · rw [if_neg cw] at h
              have ne := neI cw
              rw [w18, p4] at ne
              have es : (r18 - z5).toInt = (wF u (spX u (u.1 12).toNatClampNeg) s).toInt - (wF u (spX u (u.1 12).toNatClampNeg) b).toInt := by
                rw [w18, p4]
                exact sub_t (by omega) (by omega)
              by_cases cd : r18 - z5 ≤ 0
              · rw [if_pos cd] at h
                have cd9 : (r18 - z5).toInt ≤ (0 : Int) := leI cd
                exact take (better (Or.inl (by omega))) h
              · rw [if_neg cd] at h
                have cd9 : ¬ (r18 - z5).toInt ≤ (0 : Int) := nleI cd
                exact worse (Or.inl (by omega)) h
        · rw [if_neg cc] at h
          have cc9 := nleI cc
          exact skip v hM e1 (fun vs => absurd vs.2.2.2 (by omega)) h
      · rw [if_pos z] at h
        exact skip v hM e1 (fun vs => absurd vs.2.2.1 k12) h
