/-! What a law is worth at a reading's aim, as a number; the class's readings keep it. -/
noncomputable def wv (u : SX) (n g : Nat) : Int32 := Classical.epsilon (fun x => WSay u n g x)
theorem wv_eq {u : SX} {n g : Nat} {x : Int32} (hI : IX u) (h : WSay u n g x) : wv u n g = x := WSay_uq hI (Classical.epsilon_spec (p := fun x => WSay u n g x) ⟨x, h⟩) h
theorem wv_fr {u u' : SX} (h36 : u'.2.1 36 = u.2.1 36) (hx : u'.2.2.2.2 = u.2.2.2.2) : wv u' = wv u := by
  funext n g
  unfold wv WSay tQ tN tC tL
  rw [h36, hx]
/-- at each reading's aim each law is worth something -/
def LVX (u : SX) : Prop := ∀ n g : Nat, (n : Int) < (u.1 13).toInt → (g : Int) < (u.1 5).toInt → ∃ x, WSay u n g x
theorem LVX_fr {u u' : SX} (h13 : u'.1 13 = u.1 13) (h5 : u'.1 5 = u.1 5) (h36 : u'.2.1 36 = u.2.1 36) (hx : u'.2.2.2.2 = u.2.2.2.2) (h : LVX u) : LVX u' := by
  unfold LVX WSay tQ tN tC tL at h ⊢
  rw [h13, h5, h36, hx]
  exact h
theorem LVX_of {u v : SX} (hI : IX u) (hJ : IM v) (hV : TieV u v) (hG : TieG u v) : LVX u := fun n g hn hg => by
  have b5 : (u.1 5).toInt ≤ (12 : Int) := (hI.1 5).2
  obtain ⟨-, -, -, d, a, hh, e, w, l, ⟨bd, ba, bh, be, bw, bl⟩, qa, -⟩ := hG.1 n hn
  have eg : (Int32.ofNat g).toInt = (g : Int) := Int32.toInt_ofNat_of_lt (by omega)
  have en : (Int32.ofNat g).toNatClampNeg = g := by
    show (Int32.ofNat g).toInt.toNat = g
    rw [eg]
    rfl
  obtain ⟨⟨r', v'⟩, er, -⟩ := tfX12_lawWorth_0 (Int32.ofNat g) d a hh e w l v hJ ⟨by omega, by omega⟩ bd ba bh be bw bl
  have hs := law_say (n := n) hJ hV (by omega) (by omega) b5 qa er
  rw [en] at hs
  exact ⟨r', hs⟩
/-- Shelf.ask of the laws says what the law's code says -/
theorem ask3S {ρ : Nat → Int32} {x1 r hh w : Int32} {k : Nat} {u u' : SX} (hq : tQ u 15 x1.toNatClampNeg = some k) (hl : tL u k ≤ 120) (hS : SAY ρ 6 (tC u k) (tL u k) hh w) (hρ : ∀ j : Nat, (j : Int) < 6 → ρ j = u.2.1 16 j) (hx0 : 0 ≤ x1.toInt) (hx1 : x1.toInt < (u.1 5).toInt) (h1 : fX8_ask_3 x1 u = some (r, u')) : r = w := by
  unfold fX8_ask_3 at h1
  obtain ⟨⟨s1, u2⟩, a1, h1⟩ := bd_some h1
  obtain ⟨eu, hs⟩ := has3i a1
  have n1 : ¬ s1 = 0 := by
    rcases hs with ⟨-, z⟩ | ⟨z, -⟩
    · exact absurd ⟨hx0, hx1⟩ z
    · exact ne01 z
  rw [eu] at h1
  have h1 : (if s1 = 0 then (GX8_ask_3_18 u) else (gd (inb x1 12) (tcs (tQ u 15 x1.toNatClampNeg) (tN u) (GX8_ask_3_18 u) (fun k5 => (GX8_ask_3_18a k5 u))))) = some (r, u') := h1
  rw [if_neg n1] at h1
  obtain ⟨-, h1⟩ := gd_some h1
  obtain ⟨-, h1⟩ := tcs_s hq h1
  unfold GX8_ask_3_18a at h1
  obtain ⟨-, h1⟩ := gd_some h1
  obtain ⟨⟨r7, u8⟩, a7, h1⟩ := bd_some h1
  have er : r7 = r := by cases h1; rfl
  rw [← er]
  exact worthV0 hS hρ hl a7
/-- what the class's side keeps while it asks -/
def RW (u : SX) : Prop := IX u ∧ CX u ∧ PL u ∧ LVX u ∧ CW u
noncomputable def ww (u : SX) (n i : Nat) : Int32 := wv u n (u.2.1 24 i).toNatClampNeg
theorem ww_fr {u u' : SX} (h24 : u'.2.1 24 = u.2.1 24) (h36 : u'.2.1 36 = u.2.1 36) (hx : u'.2.2.2.2 = u.2.2.2.2) : ww u' = ww u := by
  funext n i
  unfold ww
  rw [h24, wv_fr h36 hx]
theorem RW_md {u u' : SX} {mx : MD} (hI : IX u') (hx : FrM mx u u') (c1 : tieCX mx = true) (c2 : ([5, 8, 13].all fun k => !mx.1.contains k) = true) (c3 : ([24, 36, 41].all fun k => !mx.2.1.contains k) = true) (h : RW u) : RW u' := by
  obtain ⟨-, hC, hP, hL, hW⟩ := h
  have f : ∀ k, k ∈ [5, 8, 13] → u'.1 k = u.1 k := fun k hk => hx.1 k (not_b (List.all_eq_true.mp c2 k hk))
  have g : ∀ k, k ∈ [24, 36, 41] → u'.2.1 k = u.2.1 k := fun k hk => hx.2.1 k (not_b (List.all_eq_true.mp c3 k hk))
  have f5 := f 5 (by decide)
  have f8 := f 8 (by decide)
  have f13 := f 13 (by decide)
  have g24 := g 24 (by decide)
  have g36 := g 36 (by decide)
  have g41 := g 41 (by decide)
  exact ⟨hI, CX_md hx c1 hC, PL_fr f8 f5 g24 hP, LVX_fr f13 f5 g36 hx.2.2.2.2 hL, CW_fr f13 f5 g36 g41 hx.2.2.2.2 hW⟩
set_option maxHeartbeats 1000000 in
theorem leanX {x1 x2 x : Int32} {u u' : SX} (hR : RW u) (a0 : 0 ≤ x1.toInt) (a1 : x1.toInt < (u.1 13).toInt) (b0 : 0 ≤ x2.toInt) (b1 : x2.toInt < (u.1 8).toInt) (h : fX7_leanOf_7 x1 x2 u = some (x, u')) : x = ww u x1.toNatClampNeg x2.toNatClampNeg ∧ RW u' ∧ FrM mdX7_leanOf_7 u u' := by
  obtain ⟨hI, hC, hPL, hL, hW⟩ := hR
  have n1 : x1.toNatClampNeg = x1.toInt.toNat := rfl
  have n2 : x2.toNatClampNeg = x2.toInt.toNat := rfl
  have b13 : (u.1 13).toInt ≤ (80 : Int) := (hI.1 13).2
  have b8 : (u.1 8).toInt ≤ (12 : Int) := (hI.1 8).2
  have b5 : (u.1 5).toInt ≤ (12 : Int) := (hI.1 5).2
  have sx : StX mdX7_leanOf_7 u u' := (Tot_at (tfX7_leanOf_7 x1 x2 u hI ⟨a0, by omega⟩ ⟨b0, by omega⟩) h).1
  have fx := sx.2
  suffices hs : WSay u x1.toNatClampNeg (u.2.1 24 x2.toNatClampNeg).toNatClampNeg x ∧ CW u' from
    ⟨(wv_eq hI hs.1).symm, ⟨sx.1, CX_md fx (by decide) hC, PL_fr (fx.1 8 (by decide)) (fx.1 5 (by decide)) (fx.2.1 24 (by decide)) hPL, LVX_fr (fx.1 13 (by decide)) (fx.1 5 (by decide)) (fx.2.1 36 (by decide)) fx.2.2.2.2 hL, hs.2⟩, fx⟩
  obtain ⟨l0, l1⟩ := hPL x2.toNatClampNeg (by rw [n2]; omega)
  unfold fX7_leanOf_7 at h
  obtain ⟨-, h⟩ := gd_some h
  obtain ⟨v2, e2, h⟩ := lt_some h
  obtain ⟨v4, e4, h⟩ := lt_some h
  rw [← e2] at l0 l1
  rw [← e2]
  have m12 : (x1 * 12).toInt = x1.toInt * 12 := mulc_t (by decide) (by omega) (by omega)
  have t4 : v4.toInt = x1.toInt * 12 + v2.toInt := by
    rw [e4, add_t (by rw [m12]; omega) (by rw [m12]; omega), m12]
  have k4 : v4.toNatClampNeg = 12 * x1.toNatClampNeg + v2.toNatClampNeg := by
    show v4.toInt.toNat = 12 * x1.toInt.toNat + v2.toInt.toNat
    omega
  have kn : x1.toNatClampNeg < 80 := by rw [n1]; omega
  have kg : v2.toNatClampNeg < 12 := by show v2.toInt.toNat < 12; omega
  have kgi : ((v2.toNatClampNeg : Nat) : Int) < (u.1 5).toInt := by show ((v2.toInt.toNat : Nat) : Int) < _; omega
  have kni : ((x1.toNatClampNeg : Nat) : Int) < (u.1 13).toInt := by rw [n1]; omega
  obtain ⟨-, h⟩ := gd_some h
  rw [k4] at h
  by_cases c : u.2.1 41 (12 * x1.toNatClampNeg + v2.toNatClampNeg) = -100000000
  · rw [if_pos c] at h
    obtain ⟨-, h⟩ := gd_some h
    obtain ⟨u9, i9, h⟩ := lt_some h
    obtain ⟨⟨r11, u12⟩, a11, h⟩ := bd_some h
    obtain ⟨-, h⟩ := gd_some h
    obtain ⟨u15, i15, h⟩ := lt_some h
    obtain ⟨-, h⟩ := gd_some h
    have I9 : IX u9 := by
      rw [i9]
      exact (StX_cpy (md := ([], [16], [], [])) (StX_rf hI) (by decide) (by decide) (by decide) (by decide)).1
    have m6 : (x1 * 6).toNatClampNeg = 6 * x1.toNatClampNeg := by
      show (x1 * 6).toInt.toNat = 6 * x1.toInt.toNat
      rw [mulc_t (n := 6) (by decide) (by omega) (by omega)]
      omega
    have r16 : ∀ j : Nat, j < 6 → u9.2.1 16 j = u.2.1 36 (6 * x1.toNatClampNeg + j) := fun j hj => by
      rw [i9, m6]
      show (if 0 ≤ j ∧ j < 0 + 6 then u.2.1 36 (6 * x1.toNatClampNeg + (j - 0)) else _) = _
      rw [if_pos ⟨Nat.zero_le _, by omega⟩, Nat.sub_zero]
    have st : StX mdX8_ask_3 u9 u12 := (Tot_at (tfX8_ask_3 v2 u9 I9 ⟨l0, by omega⟩) a11).1
    obtain ⟨x0, hs⟩ := hL x1.toNatClampNeg v2.toNatClampNeg kni kgi
    have hs9 := hs
    obtain ⟨k, hh, t1, t2, t3, t4⟩ := hs9
    have xX9 : u9.2.2.2.2 = u.2.2.2.2 := by rw [i9]; rfl
    have ev : r11 = x0 := by
      refine ask3S (u := u9) (k := k) (hh := hh) (ρ := fun j => u.2.1 36 (6 * x1.toNatClampNeg + j)) ?_ ?_ ?_ (fun j hj => (r16 j (by omega)).symm) l0 (by rw [i9]; exact l1) a11
      · unfold tQ at t1 ⊢
        rw [xX9]
        exact t1
      · unfold tL at t3 ⊢
        rw [xX9]
        exact t3
      · unfold tL tC at t4 ⊢
        rw [xX9]
        exact t4
    have k41 : u12.2.1 41 = u.2.1 41 := by
      rw [st.2.2.1 41 (by decide), i9]
      rfl
    have k15 : u15.2.1 41 = upd (u.2.1 41) (12 * x1.toNatClampNeg + v2.toNatClampNeg) r11 := by
      rw [i15]
      show upd (u12.2.1 41) (12 * x1.toNatClampNeg + v2.toNatClampNeg) r11 = _
      rw [k41]
    have ex : u15.2.1 41 (12 * x1.toNatClampNeg + v2.toNatClampNeg) = x ∧ u15 = u' := by cases h; exact ⟨rfl, rfl⟩
    rw [k15, upd_at] at ex
    have x36 : u15.2.1 36 = u.2.1 36 := by
      rw [ex.2]
      exact fx.2.1 36 (by decide)
    have x13 : u15.1 13 = u.1 13 := by
      rw [ex.2]
      exact fx.1 13 (by decide)
    have x5 : u15.1 5 = u.1 5 := by
      rw [ex.2]
      exact fx.1 5 (by decide)
    have xX : u15.2.2.2.2 = u.2.2.2.2 := by
      rw [ex.2]
      exact fx.2.2.2.2
    rw [← ev] at hs
    rw [← ex.1, ← ex.2]
    refine ⟨hs, fun n g hn hg => ?_⟩
    rw [k15, x13, x5]
    by_cases cn : 12 * n + g = 12 * x1.toNatClampNeg + v2.toNatClampNeg
    · have c1 : n = x1.toNatClampNeg := by omega
      have c2 : g = v2.toNatClampNeg := by omega
      rw [c1, c2, upd_at]
      refine Or.inr ⟨kni, kgi, ?_⟩
      unfold WSay tQ tN tC tL at hs ⊢
      rw [x36, xX]
      exact hs
    · rw [upd_ne cn]
      rcases hW n g hn hg with q | ⟨q1, q2, q3⟩
      · exact Or.inl q
      · refine Or.inr ⟨q1, q2, ?_⟩
        unfold WSay tQ tN tC tL at q3 ⊢
        rw [x36, xX]
        exact q3
  · rw [if_neg c] at h
    obtain ⟨-, h⟩ := gd_some h
    have ex : u.2.1 41 (12 * x1.toNatClampNeg + v2.toNatClampNeg) = x ∧ u = u' := by
      cases h
      exact ⟨rfl, rfl⟩
    rw [← ex.1, ← ex.2]
    refine ⟨?_, hW⟩
    rcases hW _ _ kn kg with q | ⟨-, -, q⟩
    · exact absurd q c
    · exact q
