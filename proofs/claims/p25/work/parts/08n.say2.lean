/-! say. -/
def ρ5 (n g b k t : Int32) (j : Nat) : Int32 := if j = 0 then n else if j = 1 then g else if j = 2 then b else if j = 3 then k else t
theorem set5V {k : Nat} {x1 x2 r : Int32} {u u' : SX} (h0 : ¬ x1 < 0) (h6 : ¬ 5 ≤ x1) (hk : x1.toNatClampNeg = k) (h : fX8_set_5 x1 x2 u = some (r, u')) : u'.2.1 22 = upd (u.2.1 22) k x2 := by
  unfold fX8_set_5 at h
  rw [if_neg h0, if_neg h6] at h
  obtain ⟨-, h⟩ := gd_some h
  obtain ⟨u2, e2, h⟩ := lt_some h
  have e : u2 = u' := by cases h; rfl
  rw [← e, e2, ← hk]
  rfl
/-- Shelf.ask of the rules says what the rule's code says -/
theorem ask5S {ρ : Nat → Int32} {x1 r hh w : Int32} {k : Nat} {u u' : SX} (hq : tQ u 21 x1.toNatClampNeg = some k) (hl : tL u k ≤ 120) (hS : SAY ρ 5 (tC u k) (tL u k) hh w) (hρ : ∀ j : Nat, (j : Int) < 5 → ρ j = u.2.1 22 j) (hx0 : 0 ≤ x1.toInt) (hx1 : x1.toInt < (u.1 7).toInt) (h1 : fX8_ask_5 x1 u = some (r, u')) : r = w := by
  unfold fX8_ask_5 at h1
  obtain ⟨⟨s1, u2⟩, a1, h1⟩ := bd_some h1
  obtain ⟨eu, hs⟩ := has5i a1
  have n1 : ¬ s1 = 0 := by
    rcases hs with ⟨-, z⟩ | ⟨z, -⟩
    · exact absurd ⟨hx0, hx1⟩ z
    · exact ne01 z
  rw [eu] at h1
  have h1 : (if s1 = 0 then (GX8_ask_5_18 u) else (gd (inb x1 6) (tcs (tQ u 21 x1.toNatClampNeg) (tN u) (GX8_ask_5_18 u) (fun k5 => (GX8_ask_5_18a k5 u))))) = some (r, u') := h1
  rw [if_neg n1] at h1
  obtain ⟨-, h1⟩ := gd_some h1
  obtain ⟨-, h1⟩ := tcs_s hq h1
  unfold GX8_ask_5_18a at h1
  obtain ⟨-, h1⟩ := gd_some h1
  obtain ⟨⟨r7, u8⟩, a7, h1⟩ := bd_some h1
  have er : r7 = r := by cases h1; rfl
  rw [← er]
  exact worthV2 hS hρ hl a7
theorem set5F {x1 x2 r : Int32} {u u' : SX} (hK : RK u) (h0 : 0 ≤ x1.toInt ∧ x1.toInt ≤ 4) (h : fX8_set_5 x1 x2 u = some (r, u')) : RK u' ∧ FrM mdX8_set_5 u u' := by
  have s := (Tot_at (tfX8_set_5 x1 x2 u hK.1.1 h0) h).1
  exact ⟨RK_md s (by decide) hK, s.2⟩
/-- the class's question to a rule, behind its recall and compare: t, what is alike -/
theorem ruleX {k15 : Int32 → Int32 → SX → Option (Int32 × SX)} {z1 z2 t r : Int32} {u u' : SX} (hK : RK u) (b1 : 0 ≤ z1.toInt ∧ z1.toInt ≤ 5) (b2 : 0 ≤ z2.toInt ∧ z2.toInt ≤ 120) (h : ((fX8_set_5 0 (u.1 14) u).bind fun q => match q with | (r10, u11) => (if t = 0 then (GX11_say_0_82 k15 z1 z2 t 0 1 u11) else (GX11_say_0_82 k15 z1 z2 t ((u11.1 18) - (u11.1 17)) 1 u11))) = some (r, u')) : ∃ (c s : Int32) (w u9 : SX), c.toInt = (cntL (u.2.1 52) z2.toInt (u.1 29).toNatClampNeg : Nat) ∧ RK w ∧ FrM mdX8_set_5 u w ∧ (∀ j : Nat, (j : Int) < 5 → ρ5 (u.1 14) (if t = 0 then 0 else u.1 18 - u.1 17) (if t = 0 then 0 else u.1 17) c z2 j = w.2.1 22 j) ∧ fX8_ask_5 z1 w = some (s, u9) ∧ (if s = 0 then (k15 z1 (z2 + 1) u9) else (some (z2, u9))) = some (r, u') := by
  obtain ⟨⟨r10, u11⟩, a10, h⟩ := bd_some h
  obtain ⟨K11, F11⟩ := set5F hK (by decide) a10
  have v0 := set5V (k := 0) (by decide) (by decide) (by decide) a10
  have f105 : ∀ (y0 : Int32) (w1 : SX), RK w1 → FrM mdX8_set_5 u w1 → w1.2.1 22 = upd (upd (u.2.1 22) 0 (u.1 14)) 1 (if t = 0 then 0 else u.1 18 - u.1 17) → y0 = (if t = 0 then 0 else u.1 17) → GX11_say_0_105 k15 z1 z2 y0 2 w1 = some (r, u') → ∃ (c s : Int32) (w u9 : SX), c.toInt = (cntL (u.2.1 52) z2.toInt (u.1 29).toNatClampNeg : Nat) ∧ RK w ∧ FrM mdX8_set_5 u w ∧ (∀ j : Nat, (j : Int) < 5 → ρ5 (u.1 14) (if t = 0 then 0 else u.1 18 - u.1 17) (if t = 0 then 0 else u.1 17) c z2 j = w.2.1 22 j) ∧ fX8_ask_5 z1 w = some (s, u9) ∧ (if s = 0 then (k15 z1 (z2 + 1) u9) else (some (z2, u9))) = some (r, u') := fun y0 w1 Kw Fw v1 ey k => by
    unfold GX11_say_0_105 at k
    obtain ⟨⟨r16, u17⟩, a16, k⟩ := bd_some k
    obtain ⟨K17, F17⟩ := set5F Kw (by decide) a16
    have v2 := set5V (k := 2) (by decide) (by decide) (by decide) a16
    obtain ⟨⟨r19, u20⟩, a19, k⟩ := bd_some k
    have F17u := FrM_tr Fw F17 (by decide)
    have a19 : fX3_doneUpTo_10 z2 u17 = some (r19, u20) := a19
    unfold fX3_doneUpTo_10 at a19
    generalize (5000 : Nat) = N at a19
    have b29 : (0 : Int) ≤ (u17.1 29).toInt := (K17.1.1.1 29).1
    obtain ⟨e20, ec⟩ := dut_L (x1 := z2) K17.1.1 N 0 0 (by decide) (by show (0 : Int) ≤ _; exact b29) rfl a19
    rw [F17u.2.1 52 (by decide), F17u.1 29 (by decide)] at ec
    have k : ((fX8_set_5 3 r19 u20).bind fun q => match q with | (r22, u23) => ((fX8_set_5 4 z2 u23).bind fun q => match q with | (r25, u26) => ((fX8_ask_5 z1 u26).bind fun q => match q with | (r28, u29) => (if r28 = 0 then (k15 z1 (z2 + 1) u29) else (some (z2, u29)))))) = some (r, u') := k
    rw [e20] at k
    obtain ⟨⟨r22, u23⟩, a22, k⟩ := bd_some k
    obtain ⟨K23, F23⟩ := set5F K17 (by decide) a22
    have v3 := set5V (k := 3) (by decide) (by decide) (by decide) a22
    obtain ⟨⟨r25, u26⟩, a25, k⟩ := bd_some k
    obtain ⟨K26, F26⟩ := set5F K23 (by decide) a25
    have v4 := set5V (k := 4) (by decide) (by decide) (by decide) a25
    obtain ⟨⟨r28, u29⟩, a28, k⟩ := bd_some k
    refine ⟨r19, r28, u26, u29, ec, K26, FrM_tr (FrM_tr F17u F23 (by decide)) F26 (by decide), fun j hj => ?_, a28, k⟩
    rw [v4, v3, v2, v1, ey]
    have hj5 : j = 0 ∨ j = 1 ∨ j = 2 ∨ j = 3 ∨ j = 4 := by omega
    rcases hj5 with e | e | e | e | e
    · rw [e]; rfl
    · rw [e]; rfl
    · rw [e]; rfl
    · rw [e]; rfl
    · rw [e]; rfl
  have f82 : ∀ y0 : Int32, y0 = (if t = 0 then 0 else u.1 18 - u.1 17) → GX11_say_0_82 k15 z1 z2 t y0 1 u11 = some (r, u') → ∃ (c s : Int32) (w u9 : SX), c.toInt = (cntL (u.2.1 52) z2.toInt (u.1 29).toNatClampNeg : Nat) ∧ RK w ∧ FrM mdX8_set_5 u w ∧ (∀ j : Nat, (j : Int) < 5 → ρ5 (u.1 14) (if t = 0 then 0 else u.1 18 - u.1 17) (if t = 0 then 0 else u.1 17) c z2 j = w.2.1 22 j) ∧ fX8_ask_5 z1 w = some (s, u9) ∧ (if s = 0 then (k15 z1 (z2 + 1) u9) else (some (z2, u9))) = some (r, u') := fun y0 ey k => by
    unfold GX11_say_0_82 at k
    obtain ⟨⟨r13, u14⟩, a13, k⟩ := bd_some k
    obtain ⟨K14, F14⟩ := set5F K11 (by decide) a13
    have v1 := set5V (k := 1) (by decide) (by decide) (by decide) a13
    have F14u := FrM_tr F11 F14 (by decide)
    have k : (if t = 0 then (GX11_say_0_105 k15 z1 z2 0 2 u14) else (GX11_say_0_105 k15 z1 z2 (u14.1 17) 2 u14)) = some (r, u') := k
    rw [v0, ey] at v1
    by_cases d : t = 0
    · rw [if_pos d] at k
      exact f105 0 u14 K14 F14u v1 (by rw [if_pos d]) k
    · rw [if_neg d] at k
      exact f105 (u14.1 17) u14 K14 F14u v1 (by rw [if_neg d, F14u.1 17 (by decide)]) k
  have h : (if t = 0 then (GX11_say_0_82 k15 z1 z2 t 0 1 u11) else (GX11_say_0_82 k15 z1 z2 t ((u11.1 18) - (u11.1 17)) 1 u11)) = some (r, u') := h
  by_cases d : t = 0
  · rw [if_pos d] at h
    exact f82 0 (by rw [if_pos d]) h
  · rw [if_neg d] at h
    exact f82 _ (by rw [if_neg d, F11.1 18 (by decide), F11.1 17 (by decide)]) h
/-- the reference's question to a rule, behind its layAlike: y0, whether something is alike -/
theorem ruleM {k25 : Int32 → Int32 → SX → Option (Int32 × SX)} {z1 z2 y0 r : Int32} {v v' : SX} (hJ : IM v) (b1 : 0 ≤ z1.toInt ∧ z1.toInt ≤ 5) (h : GX12_say_0_61 k25 z1 z2 y0 v = some (r, v')) : ∃ (c s : Int32) (w v9 : SX), c.toInt = (cntE (v.2.1 11) (v.2.1 15) z2.toInt (v.1 13).toNatClampNeg : Nat) ∧ StM ([], [5], [], []) v w ∧ (w.2.1 5 110 = v.1 18 ∧ w.2.1 5 103 = (if y0 = 0 then 0 else v.1 20 - v.1 19) ∧ w.2.1 5 98 = (if y0 = 0 then 0 else v.1 19) ∧ w.2.1 5 107 = c ∧ w.2.1 5 116 = z2) ∧ fX12_worthOf_0 2 z1 w = some (s, v9) ∧ StM mdX12_worthOf_0 w v9 ∧ (if s = 0 then (k25 z1 (z2 + 1) v9) else (some (z2, v9))) = some (r, v') := by
  have b13 : (0 : Int) ≤ (v.1 13).toInt := (hJ.1 13).1
  unfold GX12_say_0_61 at h
  generalize (5000 : Nat) = N at h
  obtain ⟨c, ec, h⟩ := say68 hJ N 0 0 (by decide) (by show (0 : Int) ≤ _; exact b13) rfl h
  unfold GX12_say_0_115 at h
  obtain ⟨⟨r14, u15⟩, a14, h⟩ := bd_some h
  have s15 : StM mdX12_noLetters_0 v u15 := (Tot_at (tfX12_noLetters_0 v hJ) a14).1
  obtain ⟨-, h⟩ := gd_some h
  obtain ⟨u18, i18, h⟩ := lt_some h
  have upF : ∀ (w1 w2 : SX) (k : Nat) (x : Int32), StM ([], [5], [], []) v w1 → w2 = sA w1 5 (upd (w1.2.1 5) k x) → StM ([], [5], [], []) v w2 := fun w1 w2 k x hs e => by
    rw [e]
    exact StM_sAf hs (by decide) rfl rfl (by decide)
  have s15' : StM ([], [5], [], []) v u15 := ⟨s15.1, FrM_tr FrM_rf s15.2 (by decide)⟩
  have s18 := upF u15 u18 _ _ s15' i18
  have e18 : u18.2.1 5 = upd (u15.2.1 5) 110 (v.1 18) := by
    rw [i18]
    show upd (u15.2.1 5) 110 (u15.1 18) = _
    rw [s15.2.1 18 (by decide)]
  have f172 : ∀ (yb : Int32) (w1 : SX), StM ([], [5], [], []) v w1 → w1.2.1 5 = upd (upd (u15.2.1 5) 110 (v.1 18)) 103 (if y0 = 0 then 0 else v.1 20 - v.1 19) → yb = (if y0 = 0 then 0 else v.1 19) → GX12_say_0_172 k25 z1 z2 c yb 98 w1 = some (r, v') → ∃ (c s : Int32) (w v9 : SX), c.toInt = (cntE (v.2.1 11) (v.2.1 15) z2.toInt (v.1 13).toNatClampNeg : Nat) ∧ StM ([], [5], [], []) v w ∧ (w.2.1 5 110 = v.1 18 ∧ w.2.1 5 103 = (if y0 = 0 then 0 else v.1 20 - v.1 19) ∧ w.2.1 5 98 = (if y0 = 0 then 0 else v.1 19) ∧ w.2.1 5 107 = c ∧ w.2.1 5 116 = z2) ∧ fX12_worthOf_0 2 z1 w = some (s, v9) ∧ StM mdX12_worthOf_0 w v9 ∧ (if s = 0 then (k25 z1 (z2 + 1) v9) else (some (z2, v9))) = some (r, v') := fun yb w1 s1 e1 ey g => by
    unfold GX12_say_0_172 at g
    obtain ⟨-, g⟩ := gd_some g
    obtain ⟨u24, i24, g⟩ := lt_some g
    have s24 := upF w1 u24 _ _ s1 i24
    have e24 : u24.2.1 5 = upd (w1.2.1 5) 98 yb := by rw [i24]; rfl
    obtain ⟨-, g⟩ := gd_some g
    obtain ⟨u27, i27, g⟩ := lt_some g
    have s27 := upF u24 u27 _ _ s24 i27
    have e27 : u27.2.1 5 = upd (u24.2.1 5) 107 c := by rw [i27]; rfl
    obtain ⟨-, g⟩ := gd_some g
    obtain ⟨u30, i30, g⟩ := lt_some g
    have s30 := upF u27 u30 _ _ s27 i30
    have e30 : u30.2.1 5 = upd (u27.2.1 5) 116 z2 := by rw [i30]; rfl
    obtain ⟨⟨r32, u33⟩, a32, g⟩ := bd_some g
    have s33 : StM mdX12_worthOf_0 u30 u33 := (Tot_at (tfX12_worthOf_0 2 z1 u30 s30.1 (by decide) ⟨b1.1, by omega⟩) a32).1
    refine ⟨c, r32, u30, u33, ec, s30, ?_, a32, s33, g⟩
    rw [e30, e27, e24, e1, ey]
    refine ⟨?_, ?_, ?_, ?_, ?_⟩
    · rw [upd_ne (by decide), upd_ne (by decide), upd_ne (by decide), upd_ne (by decide), upd_at]
    · rw [upd_ne (by decide), upd_ne (by decide), upd_ne (by decide), upd_at]
    · rw [upd_ne (by decide), upd_ne (by decide), upd_at]
    · rw [upd_ne (by decide), upd_at]
    · rw [upd_at]
  have f153 : ∀ yg : Int32, yg = (if y0 = 0 then 0 else v.1 20 - v.1 19) → GX12_say_0_153 k25 z1 z2 y0 c yg 103 u18 = some (r, v') → ∃ (c s : Int32) (w v9 : SX), c.toInt = (cntE (v.2.1 11) (v.2.1 15) z2.toInt (v.1 13).toNatClampNeg : Nat) ∧ StM ([], [5], [], []) v w ∧ (w.2.1 5 110 = v.1 18 ∧ w.2.1 5 103 = (if y0 = 0 then 0 else v.1 20 - v.1 19) ∧ w.2.1 5 98 = (if y0 = 0 then 0 else v.1 19) ∧ w.2.1 5 107 = c ∧ w.2.1 5 116 = z2) ∧ fX12_worthOf_0 2 z1 w = some (s, v9) ∧ StM mdX12_worthOf_0 w v9 ∧ (if s = 0 then (k25 z1 (z2 + 1) v9) else (some (z2, v9))) = some (r, v') := fun yg ey g => by
    unfold GX12_say_0_153 at g
    obtain ⟨-, g⟩ := gd_some g
    obtain ⟨u21, i21, g⟩ := lt_some g
    have s21 := upF u18 u21 _ _ s18 i21
    have e21 : u21.2.1 5 = upd (upd (u15.2.1 5) 110 (v.1 18)) 103 (if y0 = 0 then 0 else v.1 20 - v.1 19) := by
      rw [i21]
      show upd (u18.2.1 5) 103 yg = _
      rw [e18, ey]
    by_cases d : y0 = 0
    · rw [if_pos d] at g
      exact f172 0 u21 s21 e21 (by rw [if_pos d]) g
    · rw [if_neg d] at g
      exact f172 (u21.1 19) u21 s21 e21 (by rw [if_neg d, s21.2.1 19 (by decide)]) g
  by_cases d : y0 = 0
  · rw [if_pos d] at h
    exact f153 0 (by rw [if_pos d]) h
  · rw [if_neg d] at h
    exact f153 _ (by rw [if_neg d, s18.2.1 20 (by decide), s18.2.1 19 (by decide)]) h
theorem say_both {z1 : Int32} (b1 : 0 ≤ z1.toInt) : ∀ (n m : Nat) (z2 : Int32) (u v : SX) (r r' : Int32) (u' v' : SX), RK u → MR u v → v.1 15 = u.1 13 → v.1 1 = u.1 0 → TieD u v → z1.toInt < (u.1 7).toInt → 0 ≤ z2.toInt → LX11_say_0_15 n z1 z2 u = some (r, u') → LX12_say_0_25 m z1 z2 v = some (r', v') → r = r' := by
  intro n
  induction n with
  | zero => intro m z2 u v r r' u' v' _ _ _ _ _ _ _ h; cases h
  | succ n ih =>
    intro m z2 u v r r' u' v' hK hM e15 e1 hD hz h0 g k
    cases m with
    | zero => cases k
    | succ m =>
      have b120 : (u.1 0).toInt ≤ (120 : Int) := (hK.1.1.1 0).2
      have b7 : (u.1 7).toInt ≤ (6 : Int) := (hK.1.1.1 7).2
      have g : (if (u.1 0) < z2 then (some ((-1), u)) else ((fX7_recall_7 z2 u).bind fun q => match q with | (r4, u5) => ((fX1_compare_8  u5).bind fun q => match q with | (r7, u8) => ((fX8_set_5 0 (u8.1 14) u8).bind fun q => match q with | (r10, u11) => (if r7 = 0 then (GX11_say_0_82 (LX11_say_0_15 n) z1 z2 r7 0 1 u11) else (GX11_say_0_82 (LX11_say_0_15 n) z1 z2 r7 ((u11.1 18) - (u11.1 17)) 1 u11)))))) = some (r, u') := g
      have k : (if (v.1 1) < z2 then (some ((-1), v)) else ((fX12_layAlike_0 z2 v).bind fun q => match q with | (r7, u8) => (if (u8.1 18) ≤ 0 then (GX12_say_0_61 (LX12_say_0_25 m) z1 z2 0 u8) else (if (u8.1 20) < (u8.1 19) then (GX12_say_0_61 (LX12_say_0_25 m) z1 z2 0 u8) else (GX12_say_0_61 (LX12_say_0_25 m) z1 z2 1 u8))))) = some (r', v') := k
      rw [e1] at k
      by_cases c : u.1 0 < z2
      · rw [if_pos c] at g k
        have e : (-1 : Int32) = r := by cases g; rfl
        have e' : (-1 : Int32) = r' := by cases k; rfl
        rw [← e, ← e']
      · rw [if_neg c] at g k
        have c9 := nltI c
        have et : (z2 + 1).toInt = z2.toInt + 1 := addc_t (by decide) (by omega) (by omega)
        obtain ⟨⟨r4, u5⟩, a4, g⟩ := bd_some g
        obtain ⟨⟨t, u8⟩, a7, g⟩ := bd_some g
        obtain ⟨⟨s7, v8⟩, b7', k⟩ := bd_some k
        obtain ⟨K8, F8, M8, G8, e18, hc⟩ := alike_both hK hM e15 h0 (by omega) a4 a7 b7'
        have g : ((fX8_set_5 0 (u8.1 14) u8).bind fun q => match q with | (r10, u11) => (if t = 0 then (GX11_say_0_82 (LX11_say_0_15 n) z1 z2 t 0 1 u11) else (GX11_say_0_82 (LX11_say_0_15 n) z1 z2 t ((u11.1 18) - (u11.1 17)) 1 u11))) = some (r, u') := g
        have k : (if (v8.1 18) ≤ 0 then (GX12_say_0_61 (LX12_say_0_25 m) z1 z2 0 v8) else (if (v8.1 20) < (v8.1 19) then (GX12_say_0_61 (LX12_say_0_25 m) z1 z2 0 v8) else (GX12_say_0_61 (LX12_say_0_25 m) z1 z2 1 v8))) = some (r', v') := k
        obtain ⟨c1, s1, w1, u9, ec1, Kw, Fw, hρ, a9, g⟩ := ruleX K8 ⟨b1, by omega⟩ ⟨h0, by omega⟩ g
        -- the reference's flag and numbers
        obtain ⟨y0, k, ey1, ey2⟩ : ∃ y0 : Int32, GX12_say_0_61 (LX12_say_0_25 m) z1 z2 y0 v8 = some (r', v') ∧ (if y0 = 0 then 0 else v8.1 20 - v8.1 19) = (if t = 0 then 0 else u8.1 18 - u8.1 17) ∧ (if y0 = 0 then 0 else v8.1 19) = (if t = 0 then 0 else u8.1 17) := by
          have p14 : (0 : Int) ≤ (u8.1 14).toInt := (K8.1.1.1 14).1
          rw [e18] at k
          rcases hc with ⟨z, et0⟩ | ⟨z, e19, e20, hc⟩
          · have zz : u8.1 14 ≤ 0 := by rw [z]; decide
            rw [if_pos zz] at k
            refine ⟨0, k, ?_, ?_⟩
            · rw [if_pos rfl, if_pos et0]
            · rw [if_pos rfl, if_pos et0]
          · have z9 : ¬ (u8.1 14).toInt = (0 : Int) := neI z
            have zz : ¬ u8.1 14 ≤ 0 := fun q => by
              have q9 : (u8.1 14).toInt ≤ (0 : Int) := leI q
              omega
            rw [if_neg zz] at k
            rcases hc with ⟨et0, c0⟩ | ⟨et0, c0⟩
            · have cc : v8.1 20 < v8.1 19 := Int32.lt_iff_toInt_lt.mpr (by have := nleI c0; omega)
              rw [if_pos cc] at k
              refine ⟨0, k, ?_, ?_⟩
              · rw [if_pos rfl, if_pos et0]
              · rw [if_pos rfl, if_pos et0]
            · have cc : ¬ v8.1 20 < v8.1 19 := fun q => by
                have q9 := ltI q
                have c9 := leI c0
                omega
              rw [if_neg cc] at k
              have n1 : ¬ (1 : Int32) = 0 := by decide
              refine ⟨1, k, ?_, ?_⟩
              · rw [if_neg n1, if_neg (ne01 et0), e19, e20]
              · rw [if_neg n1, if_neg (ne01 et0), e19]
        obtain ⟨c2, s2, w2, v9, ec2, Sw, ⟨l1, l2, l3, l4, l5⟩, b9, S9, k⟩ := ruleM M8.1 ⟨b1, by omega⟩ k
        have D8 : TieD u8 v8 := TieD_fr (F8.1 29 (by decide)) (F8.2.1 52 (by decide)) (G8.1 13 (by decide)) (G8.2.1 11 (by decide)) (G8.2.1 15 (by decide)) hD
        have ecc : c1 = c2 := by
          refine Int32.toInt.inj ?_
          rw [ec1, ec2, D8 z2.toInt]
        have Mw2 : MR u w2 := MR_md Sw.1 Sw.2 (by decide) M8
        have FXw : FrM mdX11_say_0 u w1 := FrM_tr (FrM_tr FrM_rf F8 (by decide)) Fw (by decide)
        obtain ⟨kk, hh, t1, t2, t3⟩ := worthOf2 Mw2.2.2.2.1 b1 hz (by omega) b9
        obtain ⟨g1, g2⟩ := t3 (ρ5 (u8.1 14) (if t = 0 then 0 else u8.1 18 - u8.1 17) (if t = 0 then 0 else u8.1 17) c1 z2) (LetR_6 (by rw [l1, e18]; rfl) (by rw [l2, ey1]; rfl) (by rw [l3, ey2]; rfl) (by rw [l4, ← ecc]; rfl) (by rw [l5]; rfl))
        have xX : w1.2.2.2.2 = u.2.2.2.2 := FXw.2.2.2.2
        have es : s1 = s2 := by
          refine ask5S (k := kk) (hh := hh) (ρ := ρ5 (u8.1 14) (if t = 0 then 0 else u8.1 18 - u8.1 17) (if t = 0 then 0 else u8.1 17) c1 z2) ?_ ?_ ?_ hρ b1 (by rw [FXw.1 7 (by decide)]; exact hz) a9
          · unfold tQ at t1 ⊢
            rw [xX]
            exact t1
          · unfold tL at g2 ⊢
            rw [xX]
            exact g2
          · unfold tL tC at g1 ⊢
            rw [xX]
            exact g1
        rw [← es] at k
        by_cases d : s1 = 0
        · rw [if_pos d] at g k
          have s9 : StX mdX8_ask_5 w1 u9 := (Tot_at (tfX8_ask_5 z1 w1 Kw.1.1 ⟨b1, by omega⟩) a9).1
          have K9 := RK_md s9 (by decide) Kw
          have FX9 : FrM mdX11_say_0 u u9 := FrM_tr FXw s9.2 (by decide)
          have M9 : MR u v9 := MR_md S9.1 S9.2 (by decide) Mw2
          have FM9 : FrM mdX12_say_0 v v9 := FrM_tr (FrM_tr (FrM_tr FrM_rf G8 (by decide)) Sw.2 (by decide)) S9.2 (by decide)
          refine ih m (z2 + 1) u9 v9 r r' u' v' K9 (MR_u FX9 (by decide) (by decide) M9) ?_ ?_ ?_ ?_ (by rw [et]; omega) g k
          · rw [FM9.1 15 (by decide), FX9.1 13 (by decide)]
            exact e15
          · rw [FM9.1 1 (by decide), FX9.1 0 (by decide)]
            exact e1
          · exact TieD_fr (FX9.1 29 (by decide)) (FX9.2.1 52 (by decide)) (FM9.1 13 (by decide)) (FM9.2.1 11 (by decide)) (FM9.2.1 15 (by decide)) hD
          · rw [FX9.1 7 (by decide)]
            exact hz
        · rw [if_neg d] at g k
          have e : z2 = r := by cases g; rfl
          have e' : z2 = r' := by cases k; rfl
          rw [← e, ← e']
theorem say_eq {x1 r r' : Int32} {u u' v v' : SX} (hK : RK u) (ht : Tie u v) (hC : TieC u v) (hD : TieD u v) (hM : MR u v) (h1 : fX11_say_0 x1 u = some (r, u')) (h2 : fX12_say_0 x1 v = some (r', v')) : r = r' := by
  have b0 : (0 : Int) ≤ (u.1 7).toInt := (hK.1.1.1 7).1
  have b7 : (u.1 7).toInt ≤ (6 : Int) := (hK.1.1.1 7).2
  unfold fX11_say_0 at h1
  unfold fX12_say_0 at h2
  obtain ⟨⟨r1, u2⟩, a1, h1⟩ := bd_some h1
  obtain ⟨eu, k1⟩ := has5i a1
  rw [eu] at h1
  have h1 : (if r1 = 0 then (some ((-1), u)) else (LX11_say_0_15 5000 x1 0 u)) = some (r, u') := h1
  obtain ⟨v1, i1, h2⟩ := lt_some h2
  obtain ⟨-, h2⟩ := gd_some h2
  obtain ⟨r4, a4, h2⟩ := bd_some h2
  have e4 : v1.2.1 4 (2 : Int32).toNatClampNeg = u.1 7 := by
    rw [i1]
    exact hC.2.2.symm
  rw [e4] at a4
  have es : (u.1 7 - 1).toInt = (u.1 7).toInt - 1 := subc_t (n := 1) (by decide) (by omega) (by omega)
  rcases k1 with ⟨z, k1⟩ | ⟨z, k1, k1'⟩
  · rw [if_pos z] at h1
    have e : (-1 : Int32) = r := by cases h1; rfl
    rcases inn a4 with ⟨z4, k4⟩ | ⟨z4, k4, k4'⟩
    · rw [if_pos z4] at h2
      have e' : (-1 : Int32) = r' := by cases h2; rfl
      rw [← e, ← e']
    · rw [es] at k4'
      clear es
      exact absurd ⟨k4, by omega⟩ k1
  · rw [if_neg (ne01 z)] at h1
    rcases inn a4 with ⟨z4, k4⟩ | ⟨z4, k4, k4'⟩
    · rw [es] at k4
      clear es
      exact absurd ⟨k1, by omega⟩ k4
    · rw [if_neg (ne01 z4)] at h2
      generalize (5000 : Nat) = N at h1 h2
      refine say_both k1 N N 0 u v1 r r' u' v' hK ?_ ?_ ?_ ?_ k1' (by decide) h1 h2
      · rw [i1]
        exact MR_0 hM
      · rw [i1]
        exact ht.2.2.2.2.2.symm
      · rw [i1]
        exact ht.1.symm
      · rw [i1]
        exact TieD_fr rfl rfl rfl rfl rfl hD
