/-! Readings: worths kept once asked for. -/
theorem exW_rho {ρ ρ' : Nat → Int32} {w : Int32} {s : List Int32} (h : ∀ j : Nat, j < 6 → ρ j = ρ' j) : exW ρ 6 w s = exW ρ' 6 w s := by
  unfold exW
  by_cases c1 : w &&& 255 = 59
  · rw [if_pos c1, if_pos c1]
  · rw [if_neg c1, if_neg c1]
    by_cases c2 : w &&& 255 = 63
    · rw [if_pos c2, if_pos c2]
    · rw [if_neg c2, if_neg c2]
      by_cases c3 : w &&& 255 = 48
      · rw [if_pos c3, if_pos c3]
      · rw [if_neg c3, if_neg c3]
        by_cases c4 : w &&& 255 = 121
        · rw [if_pos c4, if_pos c4]
          by_cases c5 : w >>> (8 &&& 31) < 0
          · rw [if_pos c5, if_pos c5]
          · rw [if_neg c5, if_neg c5]
            by_cases c6 : w >>> (8 &&& 31) < 6
            · have c9 : (w >>> (8 &&& 31)).toInt < (6 : Int) := ltI c6
              have c8 : ¬ (w >>> (8 &&& 31)).toInt < (0 : Int) := nltI c5
              rw [if_pos c6, if_pos c6, h _ (by show (w >>> (8 &&& 31)).toInt.toNat < 6; omega)]
            · rw [if_neg c6, if_neg c6]
        · rw [if_neg c4, if_neg c4]
theorem exC_rho {ρ ρ' f : Nat → Int32} (h : ∀ j : Nat, j < 6 → ρ j = ρ' j) : ∀ (n a : Nat) (s : List Int32), exC ρ 6 f n a s = exC ρ' 6 f n a s := by
  intro n
  induction n with
  | zero => intro a s; rfl
  | succ n ih =>
    intro a s
    show (exW ρ 6 (f a) s).bind (fun t => exC ρ 6 f n (a + 1) t) = (exW ρ' 6 (f a) s).bind fun t => exC ρ' 6 f n (a + 1) t
    rw [exW_rho h]
    cases exW ρ' 6 (f a) s with
    | none => rfl
    | some t => exact ih (a + 1) t
theorem CL_rho {ρ ρ' f : Nat → Int32} {a b : Nat} {o : Option Int32} (h : ∀ j : Nat, j < 6 → ρ j = ρ' j) (hc : CL ρ 6 f a b o) : CL ρ' 6 f a b o := by
  rcases hc with ⟨n, v, h1, h2, h3, h4⟩ | ⟨n1, n2, c, v, h1, h2, h3, h4, h5, h6⟩
  · exact Or.inl ⟨n, v, by rw [← exC_rho h]; exact h1, h2, h3, h4⟩
  · exact Or.inr ⟨n1, n2, c, v, by rw [← exC_rho h]; exact h1, h2, by rw [← exC_rho h]; exact h3, h4, h5, h6⟩
theorem GO_rho {ρ ρ' f : Nat → Int32} (h : ∀ j : Nat, j < 6 → ρ j = ρ' j) : ∀ (k a b : Nat), GO ρ 6 f k a b → GO ρ' 6 f k a b := by
  intro k
  induction k with
  | zero => intro a b g; exact g
  | succ k ih =>
    intro a b g
    obtain ⟨c, g1, g2⟩ := g
    exact ⟨c, ih a c g1, CL_rho h g2⟩
theorem SAY_rho {ρ ρ' f : Nat → Int32} {b : Nat} {hh w : Int32} (h : ∀ j : Nat, j < 6 → ρ j = ρ' j) (hs : SAY ρ 6 f b hh w) : SAY ρ' 6 f b hh w := by
  rcases hs with ⟨h1, h2, k, h3⟩ | ⟨h1, k, c, d, h2, h3, h4⟩
  · exact Or.inl ⟨h1, h2, k, GO_rho h k 0 b h3⟩
  · exact Or.inr ⟨h1, k, c, d, GO_rho h k 0 c h2, CL_rho h h3, h4⟩
/-- what law g is worth at the aim of reading n -/
def WSay (u : SX) (n g : Nat) (x : Int32) : Prop := ∃ (k : Nat) (hh : Int32), tQ u 15 g = some k ∧ k < tN u ∧ tL u k ≤ 120 ∧ SAY (fun j => u.2.1 36 (6 * n + j)) 6 (tC u k) (tL u k) hh x
theorem WSay_uq {u : SX} {n g : Nat} {x y : Int32} (hI : IX u) (h1 : WSay u n g x) (h2 : WSay u n g y) : x = y := by
  obtain ⟨k, hh, q1, q2, q3, q4⟩ := h1
  obtain ⟨k', hh', p1, p2, p3, p4⟩ := h2
  have ek : k = k' := Option.some.inj (q1.symm.trans p1)
  subst ek
  exact SAY_uq hI q2 q3 (fun j => ⟨(hI.2.1 36 _).1, (hI.2.1 36 _).2⟩) q4 p4
def CW (u : SX) : Prop := ∀ n g : Nat, n < 80 → g < 12 → (u.2.1 41 (12 * n + g) = -100000000 ∨ ((n : Int) < (u.1 13).toInt ∧ (g : Int) < (u.1 5).toInt ∧ WSay u n g (u.2.1 41 (12 * n + g))))
theorem CW_fr {u u' : SX} (h13 : u'.1 13 = u.1 13) (h5 : u'.1 5 = u.1 5) (h36 : u'.2.1 36 = u.2.1 36) (h41 : u'.2.1 41 = u.2.1 41) (hx : u'.2.2.2.2 = u.2.2.2.2) (h : CW u) : CW u' := by
  unfold CW WSay tQ tN tC tL at h ⊢
  rw [h13, h5, h36, h41, hx]
  exact h
/-- the reference's worth of a law at a reading's aim -/
theorem law_say {x1 d a h e w l r' : Int32} {n : Nat} {u v v' : SX} (hJ : IM v) (hV : TieV u v) (hx0 : 0 ≤ x1.toInt) (hx1 : x1.toInt < (u.1 5).toInt) (h12 : (u.1 5).toInt ≤ 12) (hA : AimG u n d a h e w l) (h2 : fX12_lawWorth_0 x1 d a h e w l v = some (r', v')) : WSay u n x1.toNatClampNeg r' := by
  obtain ⟨k, hh, q1, q2, q3, q4⟩ := lawV hJ hV hx0 hx1 h12 h2
  obtain ⟨p0, p1, p2, p3, p4, p5⟩ := hA
  exact ⟨k, hh, q1, q2, q3, q4 _ p0 p1 p2 p3 p4 p5⟩
set_option maxHeartbeats 1000000 in
theorem leanV {x1 x2 x : Int32} {u u' v : SX} (hI : IX u) (hJ : IM v) (hV : TieV u v) (hPL : PL u) (hG : TieG u v) (hW : CW u) (a0 : 0 ≤ x1.toInt) (a1 : x1.toInt < (u.1 13).toInt) (b0 : 0 ≤ x2.toInt) (b1 : x2.toInt < (u.1 8).toInt) (h : fX7_leanOf_7 x1 x2 u = some (x, u')) : WSay u x1.toNatClampNeg (u.2.1 24 x2.toNatClampNeg).toNatClampNeg x ∧ CW u' := by
  have n1 : x1.toNatClampNeg = x1.toInt.toNat := rfl
  have n2 : x2.toNatClampNeg = x2.toInt.toNat := rfl
  have b13 : (u.1 13).toInt ≤ (80 : Int) := (hI.1 13).2
  have b8 : (u.1 8).toInt ≤ (12 : Int) := (hI.1 8).2
  have b5 : (u.1 5).toInt ≤ (12 : Int) := (hI.1 5).2
  obtain ⟨l0, l1⟩ := hPL x2.toNatClampNeg (by rw [n2]; omega)
  obtain ⟨-, -, -, d, a, hh, e, w, l, ⟨bd, ba, bh, be, bw, bl⟩, qa, -⟩ := hG.1 x1.toNatClampNeg (by rw [n1]; omega)
  unfold fX7_leanOf_7 at h
  obtain ⟨-, h⟩ := gd_some h
  obtain ⟨v2, e2, h⟩ := lt_some h
  obtain ⟨v4, e4, h⟩ := lt_some h
  rw [← e2] at l0 l1
  rw [← e2]
  have m12 : (x1 * 12).toInt = x1.toInt * 12 := mulc_t (by decide) (by omega) (by omega)
  have t4 : v4.toInt = x1.toInt * 12 + v2.toInt := by
    rw [e4, add_t (by rw [m12]; omega) (by rw [m12]; omega), m12]
  have k4 : v4.toNatClampNeg = 12 * x1.toNatClampNeg + v2.toNatClampNeg := by
    show v4.toInt.toNat = 12 * x1.toInt.toNat + v2.toInt.toNat
    omega
  have kn : x1.toNatClampNeg < 80 := by rw [n1]; omega
  have kg : v2.toNatClampNeg < 12 := by show v2.toInt.toNat < 12; omega
  have kgi : ((v2.toNatClampNeg : Nat) : Int) < (u.1 5).toInt := by show ((v2.toInt.toNat : Nat) : Int) < _; omega
  have kni : ((x1.toNatClampNeg : Nat) : Int) < (u.1 13).toInt := by rw [n1]; omega
  obtain ⟨-, h⟩ := gd_some h
  rw [k4] at h
  by_cases c : u.2.1 41 (12 * x1.toNatClampNeg + v2.toNatClampNeg) = -100000000
  · rw [if_pos c] at h
    obtain ⟨-, h⟩ := gd_some h
    obtain ⟨u9, i9, h⟩ := lt_some h
    obtain ⟨⟨r11, u12⟩, a11, h⟩ := bd_some h
    obtain ⟨-, h⟩ := gd_some h
    obtain ⟨u15, i15, h⟩ := lt_some h
    obtain ⟨-, h⟩ := gd_some h
    have I9 : IX u9 := by
      rw [i9]
      exact (StX_cpy (md := ([], [16], [], [])) (StX_rf hI) (by decide) (by decide) (by decide) (by decide)).1
    have m6 : (x1 * 6).toNatClampNeg = 6 * x1.toNatClampNeg := by
      show (x1 * 6).toInt.toNat = 6 * x1.toInt.toNat
      rw [mulc_t (n := 6) (by decide) (by omega) (by omega)]
      omega
    have r16 : ∀ j : Nat, j < 6 → u9.2.1 16 j = u.2.1 36 (6 * x1.toNatClampNeg + j) := fun j hj => by
      rw [i9, m6]
      show (if 0 ≤ j ∧ j < 0 + 6 then u.2.1 36 (6 * x1.toNatClampNeg + (j - 0)) else _) = _
      rw [if_pos ⟨Nat.zero_le _, by omega⟩, Nat.sub_zero]
    have st : StX mdX8_ask_3 u9 u12 := (Tot_at (tfX8_ask_3 v2 u9 I9 ⟨l0, by omega⟩) a11).1
    -- what the law says there
    obtain ⟨⟨r', v'⟩, er, -⟩ := tfX12_lawWorth_0 v2 d a hh e w l v hJ ⟨l0, by omega⟩ bd ba bh be bw bl
    have hs := law_say (n := x1.toNatClampNeg) hJ hV l0 l1 b5 qa er
    have V9 : TieV u9 v := TieV_fr (by rw [i9]; rfl) (by rw [i9]; rfl) (by rw [i9]; rfl) (by rw [i9]; rfl) rfl rfl hV
    have A9 : AimX u9 d a hh e w l := by
      obtain ⟨p0, p1, p2, p3, p4, p5⟩ := qa
      exact ⟨(r16 0 (by decide)).trans p0, (r16 1 (by decide)).trans p1, (r16 2 (by decide)).trans p2, (r16 3 (by decide)).trans p3, (r16 4 (by decide)).trans p4, (r16 5 (by decide)).trans p5⟩
    have ev : r11 = r' := ask3V hJ V9 l0 (by rw [i9]; exact l1) (by rw [i9]; exact b5) A9 a11 er
    have k41 : u12.2.1 41 = u.2.1 41 := by
      rw [st.2.2.1 41 (by decide), i9]
      rfl
    have k15 : u15.2.1 41 = upd (u.2.1 41) (12 * x1.toNatClampNeg + v2.toNatClampNeg) r11 := by
      rw [i15]
      show upd (u12.2.1 41) (12 * x1.toNatClampNeg + v2.toNatClampNeg) r11 = _
      rw [k41]
    have ex : u15.2.1 41 (12 * x1.toNatClampNeg + v2.toNatClampNeg) = x ∧ u15 = u' := by cases h; exact ⟨rfl, rfl⟩
    rw [k15, upd_at] at ex
    have x36 : u15.2.1 36 = u.2.1 36 := by
      rw [i15]
      show u12.2.1 36 = _
      rw [st.2.2.1 36 (by decide), i9]
      rfl
    have x13 : u15.1 13 = u.1 13 := by
      rw [i15]
      show u12.1 13 = _
      rw [st.2.1 13 (by decide), i9]
      rfl
    have x5 : u15.1 5 = u.1 5 := by
      rw [i15]
      show u12.1 5 = _
      rw [st.2.1 5 (by decide), i9]
      rfl
    have xX : u15.2.2.2.2 = u.2.2.2.2 := by
      rw [i15]
      show u12.2.2.2.2 = _
      rw [st.2.2.2.2.2, i9]
      rfl
    rw [← ev] at hs
    rw [← ex.1, ← ex.2]
    refine ⟨hs, fun n g hn hg => ?_⟩
    rw [k15, x13, x5]
    by_cases cn : 12 * n + g = 12 * x1.toNatClampNeg + v2.toNatClampNeg
    · have c1 : n = x1.toNatClampNeg := by omega
      have c2 : g = v2.toNatClampNeg := by omega
      rw [c1, c2, upd_at]
      refine Or.inr ⟨kni, kgi, ?_⟩
      unfold WSay tQ tN tC tL at hs ⊢
      rw [x36, xX]
      exact hs
    · rw [upd_ne cn]
      rcases hW n g hn hg with q | ⟨q1, q2, q3⟩
      · exact Or.inl q
      · refine Or.inr ⟨q1, q2, ?_⟩
        unfold WSay tQ tN tC tL at q3 ⊢
        rw [x36, xX]
        exact q3
  · rw [if_neg c] at h
    obtain ⟨-, h⟩ := gd_some h
    have ex : u.2.1 41 (12 * x1.toNatClampNeg + v2.toNatClampNeg) = x ∧ u = u' := by
      cases h
      exact ⟨rfl, rfl⟩
    rw [← ex.1, ← ex.2]
    refine ⟨?_, hW⟩
    rcases hW _ _ kn kg with q | ⟨-, -, q⟩
    · exact absurd q c
    · exact q
