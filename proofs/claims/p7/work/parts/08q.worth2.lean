/-! The worth of a law, on both sides. -/
theorem worth_two {x1 x2 x3 x4 x5 x6 x7 r' : Int32} {u v v' : SX} (hI : IX u) (hJ : IM v) (hC : TieC u v) (hV : TieV u v) (h2 : fX12_worth_0 x1 x2 x3 x4 x5 x6 x7 v = some (r', v')) : (v'.1 0 = 0 ∧ ∃ u', fX11_worthQ (fun v w => some (v, w)) (fun _ => none) x1 x2 x3 x4 x5 x6 x7 u = some (r', u') ∧ fX11_worthK (fun w => some (0, w)) x1 x2 x3 x4 x5 x6 x7 u = some (r', u')) ∨ (v'.1 0 = 1 ∧ ∃ u', fX11_worthQ (fun _ _ => none) (fun w => some (0, w)) x1 x2 x3 x4 x5 x6 x7 u = some (0, u') ∧ fX11_worthK (fun w => some (0, w)) x1 x2 x3 x4 x5 x6 x7 u = some (0, u')) := by
  have b5 : (0 : Int) ≤ (u.1 5).toInt := (hI.1 5).1
  have c5 : (u.1 5).toInt ≤ (12 : Int) := (hI.1 5).2
  obtain ⟨⟨rK, uK⟩, hKK, hQQ⟩ := worth_tot x1 x2 x3 x4 x5 x6 x7 u hI
  unfold fX12_worth_0 at h2
  obtain ⟨-, h2⟩ := gd_some h2
  rw [show v.2.1 4 (0 : Int32).toNatClampNeg = u.1 5 from hC.1.symm] at h2
  obtain ⟨r2, a2, h2⟩ := bd_some h2
  have thrown : GX12_worth_0_45 x1 x2 x3 x4 x5 x6 x7 v = some (r', v') → v'.1 0 = 1 := fun g => by
    unfold GX12_worth_0_45 GX12_worth_0_46 at g
    obtain ⟨v5, j5, g⟩ := lt_some g
    have e0 : v5.1 0 = 1 := by rw [j5]; rfl
    rw [e0, if_neg (by decide)] at g
    have e : v5 = v' := by cases g; rfl
    rw [← e, e0]
  unfold fX11_worthK at hKK
  obtain ⟨⟨r1, u2⟩, a1, hKK⟩ := bd_some hKK
  obtain ⟨eu, er⟩ := has3_eq (c := u.1 5) rfl b5 c5 a1 a2
  rw [eu] at hKK a1
  rw [← er] at h2
  have hKK : (if r1 = 0 then some ((0 : Int32), u) else ((fX11_isAim x2 x3 x4 x6 x7).bind fun r4 => (if r4 = 0 then some ((0 : Int32), u) else ((fX11_within x5 0 3).bind fun r7 => (if r7 = 0 then some ((0 : Int32), u) else ((fX8_setAim_3 x2 x3 x4 x5 x6 x7 u).bind fun q => match q with | (r10, u11) => ((fX8_ask_3 x1 u11).bind fun q => match q with | (r13, u14) => (some (r13, u14))))))))) = some (rK, uK) := hKK
  have q0 : ∀ (kR : Int32 → SX → Option (Int32 × SX)) (kX : SX → Option (Int32 × SX)), fX11_worthQ kR kX x1 x2 x3 x4 x5 x6 x7 u = (if r1 = 0 then (kX u) else ((fX11_isAim x2 x3 x4 x6 x7).bind fun r4 => (if r4 = 0 then (kX u) else ((fX11_within x5 0 3).bind fun r7 => (if r7 = 0 then (kX u) else ((fX8_setAim_3 x2 x3 x4 x5 x6 x7 u).bind fun q => match q with | (r10, u11) => ((fX8_ask_3 x1 u11).bind fun q => match q with | (r13, u14) => (kR r13 u14)))))))) := fun kR kX => by
    unfold fX11_worthQ
    rw [a1]
    rfl
  have k0 : fX11_worthK (fun w => some (0, w)) x1 x2 x3 x4 x5 x6 x7 u = fX11_worthQ (fun v w => some (v, w)) (fun w => some (0, w)) x1 x2 x3 x4 x5 x6 x7 u := rfl
  rw [k0, q0, q0, q0]
  by_cases c1 : r1 = 0
  · rw [if_pos c1] at h2
    rw [if_pos c1, if_pos c1, if_pos c1]
    exact Or.inr ⟨thrown h2, u, rfl, rfl⟩
  · rw [if_neg c1] at h2 hKK
    rw [if_neg c1, if_neg c1, if_neg c1]
    obtain ⟨r4, a4, hKK⟩ := bd_some hKK
    obtain ⟨r10, a10, h2⟩ := bd_some h2
    have e4 : r4 = r10 := Option.some.inj (a4.symm.trans (show fX11_isAim x2 x3 x4 x6 x7 = some r10 from a10))
    rw [← e4] at h2
    rw [a4]
    have d4 : ∀ (f : Int32 → Option (Int32 × SX)), (some r4).bind f = f r4 := fun f => rfl
    rw [d4, d4, d4]
    by_cases c4 : r4 = 0
    · rw [if_pos c4] at h2
      rw [if_pos c4, if_pos c4, if_pos c4]
      exact Or.inr ⟨thrown h2, u, rfl, rfl⟩
    · rw [if_neg c4] at h2 hKK
      rw [if_neg c4, if_neg c4, if_neg c4]
      obtain ⟨r7, a7, hKK⟩ := bd_some hKK
      obtain ⟨r13, a13, h2⟩ := bd_some h2
      have e7 : r7 = r13 := Option.some.inj (a7.symm.trans (show fX11_within x5 0 3 = some r13 from a13))
      rw [← e7] at h2
      rw [a7]
      have d7 : ∀ (f : Int32 → Option (Int32 × SX)), (some r7).bind f = f r7 := fun f => rfl
      rw [d7, d7, d7]
      by_cases c7 : r7 = 0
      · rw [if_pos c7] at h2
        rw [if_pos c7, if_pos c7, if_pos c7]
        exact Or.inr ⟨thrown h2, u, rfl, rfl⟩
      · rw [if_neg c7] at h2 hKK
        rw [if_neg c7, if_neg c7, if_neg c7]
        obtain ⟨⟨r10, u11⟩, b10, hKK⟩ := bd_some hKK
        have hKK : ((fX8_ask_3 x1 u11).bind fun q => match q with | (r13, u14) => (some (r13, u14))) = some (rK, uK) := hKK
        obtain ⟨⟨r13', u14⟩, b13, hKK⟩ := bd_some hKK
        obtain ⟨-, hk⟩ := has3i a1
        rcases hk with ⟨z, -⟩ | ⟨z, h10, h19⟩
        · exact absurd z c1
        · rcases win a7 with ⟨z7, -⟩ | ⟨z7, w0, w9⟩
          · exact absurd z7 c7
          · have w0 : (0 : Int) ≤ x5.toInt := w0
            have w9 : x5.toInt ≤ (3 : Int) := w9
            obtain ⟨y1, y2, y3, y4, y5, y6, y7, y8, y9, y10⟩ := (Tot_at (tfX11_isAim x2 x3 x4 x6 x7) a4).2 (neI c4)
            have st : StX mdX8_setAim_3 u u11 := (Tot_at (tfX8_setAim_3 x2 x3 x4 x5 x6 x7 u hI ⟨y1, y2⟩ ⟨y3, y4⟩ ⟨y5, y6⟩ ⟨w0, w9⟩ ⟨y7, y8⟩ ⟨y9, y10⟩) b10).1
            unfold GX12_worth_0_46 at h2
            obtain ⟨v5, j5, h2⟩ := lt_some h2
            have e0 : v5.1 0 = 0 := by rw [j5]; rfl
            rw [e0, if_pos (by decide)] at h2
            obtain ⟨⟨r7', v8⟩, b7, h2⟩ := bd_some h2
            have ev : r7' = r' ∧ v8 = v' := by cases h2; exact ⟨rfl, rfl⟩
            have s5 : StM ([0], [], [], []) v v5 := by
              rw [j5]
              exact StM_sI (StM_rf hJ) (by decide) (by decide) (by decide)
            have V5 : TieV u11 v5 := TieV_fr (st.2.1 5 (by decide)) (st.2.1 6 (by decide)) (st.2.1 7 (by decide)) st.2.2.2.2.2 (s5.2.2.1 2 (by decide)) (s5.2.2.1 3 (by decide)) hV
            have f5 : u11.1 5 = u.1 5 := st.2.1 5 (by decide)
            have ew := ask3V s5.1 V5 h10 (by rw [f5]; exact h19) (by rw [f5]; exact c5) (aimV b10) b13 b7
            have s8 : FrM mdX12_lawWorth_0 v5 v8 := (Tot_at (tfX12_lawWorth_0 x1 x2 x3 x4 x5 x6 x7 v5 s5.1 ⟨h10, by omega⟩ ⟨by omega, by omega⟩ ⟨by omega, by omega⟩ ⟨by omega, by omega⟩ ⟨by omega, by omega⟩ ⟨by omega, by omega⟩ ⟨by omega, by omega⟩) b7).1.2
            left
            refine ⟨by rw [← ev.2, s8.1 0 (by decide), e0], u14, ?_, ?_⟩
            · rw [b10]
              show ((fX8_ask_3 x1 u11).bind fun q => match q with | (r13, u14) => (some (r13, u14))) = _
              rw [b13, ← ev.1, ← ew]
              rfl
            · rw [b10]
              show ((fX8_ask_3 x1 u11).bind fun q => match q with | (r13, u14) => (some (r13, u14))) = _
              rw [b13, ← ev.1, ← ew]
              rfl
