/-! What a guess and a rule say, on both sides. -/
def okL5 (n : Nat) : Option Int32 → Bool
  | none => true
  | some j => decide (j < 0) || (n == 108 && j == 0) || (n == 97 && j == 1)
set_option maxRecDepth 100000 in
theorem lt5 : ∀ n : Fin 256, okL5 n.val (fJ0_indexOf_0f7a4_s5 (Int32.ofNat n.val)) = true := by decide +kernel
theorem LetR_5 {ρ L : Nat → Int32} (h0 : ρ 0 = L 108) (h1 : ρ 1 = L 97) : LetR ρ L 2 6 := by
  intro c j c1 c2 j0
  refine ⟨fun z => absurd z (by decide), fun _ ej => ?_, fun z => absurd z (by decide)⟩
  obtain ⟨n, en⟩ := fin_of (c := c) (by omega) c2
  have hn := fin_in en
  have q := lt5 n
  rw [← en, ej] at q
  have cn : c.toNatClampNeg = n.val := by
    show c.toInt.toNat = n.val
    omega
  unfold okL5 at q
  simp only [Bool.or_eq_true, Bool.and_eq_true, decide_eq_true_eq, beq_iff_eq] at q
  rw [cn]
  rcases q with (z | ⟨z, y⟩) | ⟨z, y⟩
  · have z9 : j.toInt < (0 : Int) := ltI z
    omega
  · rw [z, y]; exact ⟨h0, by decide, by decide⟩
  · rw [z, y]; exact ⟨h1, by decide, by decide⟩
def okL6 (n : Nat) : Option Int32 → Bool
  | none => true
  | some j => decide (j < 0) || (n == 110 && j == 0) || (n == 103 && j == 1) || (n == 98 && j == 2) || (n == 107 && j == 3) || (n == 116 && j == 4)
set_option maxRecDepth 100000 in
theorem lt6 : ∀ n : Fin 256, okL6 n.val (fJ0_indexOf_0f7a4_s6 (Int32.ofNat n.val)) = true := by decide +kernel
theorem LetR_6 {ρ L : Nat → Int32} (h0 : ρ 0 = L 110) (h1 : ρ 1 = L 103) (h2 : ρ 2 = L 98) (h3 : ρ 3 = L 107) (h4 : ρ 4 = L 116) : LetR ρ L 5 7 := by
  intro c j c1 c2 j0
  refine ⟨fun z => absurd z (by decide), fun z => absurd z (by decide), fun _ ej => ?_⟩
  obtain ⟨n, en⟩ := fin_of (c := c) (by omega) c2
  have hn := fin_in en
  have q := lt6 n
  rw [← en, ej] at q
  have cn : c.toNatClampNeg = n.val := by
    show c.toInt.toNat = n.val
    omega
  unfold okL6 at q
  simp only [Bool.or_eq_true, Bool.and_eq_true, decide_eq_true_eq, beq_iff_eq] at q
  rw [cn]
  rcases q with ((((z | ⟨z, y⟩) | ⟨z, y⟩) | ⟨z, y⟩) | ⟨z, y⟩) | ⟨z, y⟩
  · have z9 : j.toInt < (0 : Int) := ltI z
    omega
  · rw [z, y]; exact ⟨h0, by decide, by decide⟩
  · rw [z, y]; exact ⟨h1, by decide, by decide⟩
  · rw [z, y]; exact ⟨h2, by decide, by decide⟩
  · rw [z, y]; exact ⟨h3, by decide, by decide⟩
  · rw [z, y]; exact ⟨h4, by decide, by decide⟩
theorem worthOf1 {x1 r' : Int32} {u v v' : SX} (hV : TieV u v) (hx0 : 0 ≤ x1.toInt) (hx1 : x1.toInt < (u.1 6).toInt) (h6 : (u.1 6).toInt ≤ 6) (h2 : fX12_worthOf_0 1 x1 v = some (r', v')) : ∃ (k : Nat) (hh : Int32), tQ u 18 x1.toNatClampNeg = some k ∧ k < tN u ∧ ∀ ρ : Nat → Int32, LetR ρ (v.2.1 5) 2 6 → SAY ρ 2 (tC u k) (tL u k) hh r' ∧ tL u k ≤ 120 := by
  have en : x1.toNatClampNeg = x1.toInt.toNat := rfl
  obtain ⟨k, t1, t2, t3⟩ := hV.2.1 x1.toNatClampNeg (by rw [en]; omega)
  unfold fX12_worthOf_0 at h2
  obtain ⟨P, iP, h2⟩ := lt_some h2
  obtain ⟨-, h2⟩ := gd_some h2
  obtain ⟨⟨q4, z5⟩, b4, h2⟩ := bd_some h2
  have e22 : z5.1 9 = r' := by cases h2; rfl
  have tP : P.toInt = 12 + x1.toInt := by
    rw [iP, cadd_t (n := 12) (by decide) (by omega) (by omega)]
  have nP : P.toNatClampNeg = 12 * 1 + x1.toNatClampNeg := by
    show P.toInt.toNat = 12 * 1 + x1.toInt.toNat
    omega
  have tB : (120 * P).toInt = 120 * P.toInt := cmul_t (by decide) (by omega) (by omega)
  have nB : (120 * P).toNatClampNeg = 120 * (12 * 1 + x1.toNatClampNeg) := by
    show (120 * P).toInt.toNat = 120 * (12 * 1 + x1.toInt.toNat)
    rw [tB, tP]
    omega
  rw [nP] at b4
  refine ⟨k, z5.1 11, t1, t2, fun ρ hL => ?_⟩
  obtain ⟨g1, g2⟩ := t3 ρ (v.2.1 5) 2 (120 * P) v z5 q4 hL rfl ⟨by rw [tB]; omega, by rw [tB]; omega⟩ (fun i _ => by rw [nB]) b4
  rw [e22] at g1
  exact ⟨g1, g2⟩
theorem worthOf2 {x1 r' : Int32} {u v v' : SX} (hV : TieV u v) (hx0 : 0 ≤ x1.toInt) (hx1 : x1.toInt < (u.1 7).toInt) (h6 : (u.1 7).toInt ≤ 6) (h2 : fX12_worthOf_0 2 x1 v = some (r', v')) : ∃ (k : Nat) (hh : Int32), tQ u 21 x1.toNatClampNeg = some k ∧ k < tN u ∧ ∀ ρ : Nat → Int32, LetR ρ (v.2.1 5) 5 7 → SAY ρ 5 (tC u k) (tL u k) hh r' ∧ tL u k ≤ 120 := by
  have en : x1.toNatClampNeg = x1.toInt.toNat := rfl
  obtain ⟨k, t1, t2, t3⟩ := hV.2.2 x1.toNatClampNeg (by rw [en]; omega)
  unfold fX12_worthOf_0 at h2
  obtain ⟨P, iP, h2⟩ := lt_some h2
  obtain ⟨-, h2⟩ := gd_some h2
  obtain ⟨⟨q4, z5⟩, b4, h2⟩ := bd_some h2
  have e22 : z5.1 9 = r' := by cases h2; rfl
  have tP : P.toInt = 24 + x1.toInt := by
    rw [iP, cadd_t (n := 24) (by decide) (by omega) (by omega)]
  have nP : P.toNatClampNeg = 12 * 2 + x1.toNatClampNeg := by
    show P.toInt.toNat = 12 * 2 + x1.toInt.toNat
    omega
  have tB : (120 * P).toInt = 120 * P.toInt := cmul_t (by decide) (by omega) (by omega)
  have nB : (120 * P).toNatClampNeg = 120 * (12 * 2 + x1.toNatClampNeg) := by
    show (120 * P).toInt.toNat = 120 * (12 * 2 + x1.toInt.toNat)
    rw [tB, tP]
    omega
  rw [nP] at b4
  refine ⟨k, z5.1 11, t1, t2, fun ρ hL => ?_⟩
  obtain ⟨g1, g2⟩ := t3 ρ (v.2.1 5) 5 (120 * P) v z5 q4 hL rfl ⟨by rw [tB]; omega, by rw [tB]; omega⟩ (fun i _ => by rw [nB]) b4
  rw [e22] at g1
  exact ⟨g1, g2⟩
def ρ2 (l a : Int32) (j : Nat) : Int32 := if j = 0 then l else a
/-- what guess g is worth at wave l with a -/
def GSay (u : SX) (g : Nat) (l a x : Int32) : Prop := ∃ (k : Nat) (hh : Int32), tQ u 18 g = some k ∧ k < tN u ∧ tL u k ≤ 120 ∧ SAY (ρ2 l a) 2 (tC u k) (tL u k) hh x
theorem GSay_uq {u : SX} {g : Nat} {l a x y : Int32} (hI : IX u) (bl : 0 ≤ l.toInt ∧ l.toInt ≤ 60) (ba : 0 ≤ a.toInt ∧ a.toInt ≤ 60) (h1 : GSay u g l a x) (h2 : GSay u g l a y) : x = y := by
  obtain ⟨k, hh, q1, q2, q3, q4⟩ := h1
  obtain ⟨k', hh', p1, p2, p3, p4⟩ := h2
  have ek : k = k' := Option.some.inj (q1.symm.trans p1)
  subst ek
  have bρ : ∀ j, rlX 19 ≤ (ρ2 l a j).toInt ∧ (ρ2 l a j).toInt ≤ rhX 19 := fun j => by
    unfold ρ2
    by_cases c : j = 0
    · rw [if_pos c]; exact bl
    · rw [if_neg c]; exact ba
  have I0 : IX (sA u 19 (ρ2 l a)) := (StX_row (md := ([], [19], [], [])) (k := 19) (f := ρ2 l a) (StX_rf hI) (by decide) bρ (fun z => absurd z (by decide))).1
  obtain ⟨⟨r, u1⟩, e1, -⟩ := tfX10_worthBy_T_a19_a20 k (sA u 19 (ρ2 l a)) I0 q2
  have a1 := worthV1 (u := sA u 19 (ρ2 l a)) (x0 := k) q4 (fun _ _ => rfl) q3 e1
  have b1 := worthV1 (u := sA u 19 (ρ2 l a)) (x0 := k) p4 (fun _ _ => rfl) q3 e1
  rw [← a1, ← b1]
noncomputable def gv (u : SX) (g : Nat) (l a : Int32) : Int32 := Classical.epsilon (fun x => GSay u g l a x)
theorem gv_eq {u : SX} {g : Nat} {l a x : Int32} (hI : IX u) (bl : 0 ≤ l.toInt ∧ l.toInt ≤ 60) (ba : 0 ≤ a.toInt ∧ a.toInt ≤ 60) (h : GSay u g l a x) : gv u g l a = x := GSay_uq hI bl ba (Classical.epsilon_spec (p := fun x => GSay u g l a x) ⟨x, h⟩) h
theorem gv_fr {u u' : SX} (hx : u'.2.2.2.2 = u.2.2.2.2) : gv u' = gv u := by
  funext g l a
  unfold gv GSay tQ tN tC tL
  rw [hx]
/-- the reference's guess -/
theorem guessM {x1 x2 x3 r' : Int32} {u v v' : SX} (hI : IX u) (hJ : IM v) (hV : TieV u v) (hx0 : 0 ≤ x1.toInt) (hx1 : x1.toInt < (u.1 6).toInt) (ba : 0 ≤ x2.toInt ∧ x2.toInt ≤ 60) (bl : 0 ≤ x3.toInt ∧ x3.toInt ≤ 40) (h : fX12_guessWorth_0 x1 x2 x3 v = some (r', v')) : r' = gv u x1.toNatClampNeg x3 x2 ∧ GSay u x1.toNatClampNeg x3 x2 r' ∧ StM mdX12_guessWorth_0 v v' := by
  have b6 : (u.1 6).toInt ≤ (6 : Int) := (hI.1 6).2
  have st : StM mdX12_guessWorth_0 v v' := (Tot_at (tfX12_guessWorth_0 x1 x2 x3 v hJ ⟨hx0, by omega⟩ bl) h).1
  unfold fX12_guessWorth_0 at h
  obtain ⟨⟨q1, y2⟩, b1, h⟩ := bd_some h
  have fy : StM mdX12_noLetters_0 v y2 := (Tot_at (tfX12_noLetters_0 v hJ) b1).1
  obtain ⟨-, h⟩ := gd_some h
  obtain ⟨y5, i5, h⟩ := lt_some h
  obtain ⟨-, h⟩ := gd_some h
  obtain ⟨y8, i8, h⟩ := lt_some h
  obtain ⟨⟨q10, y11⟩, b10, h⟩ := bd_some h
  have er : q10 = r' := by cases h; rfl
  have V8 : TieV u y8 := TieV_fr rfl rfl rfl rfl (by rw [i8, i5]; exact fy.2.2.1 2 (by decide)) (by rw [i8, i5]; exact fy.2.2.1 3 (by decide)) hV
  have r5 : y8.2.1 5 = upd (upd (y2.2.1 5) 97 x2) 108 x3 := by
    rw [i8, i5]
    rfl
  obtain ⟨k, hh, t1, t2, t3⟩ := worthOf1 V8 hx0 hx1 b6 b10
  have hL : LetR (ρ2 x3 x2) (y8.2.1 5) 2 6 := LetR_5 (by rw [r5]; rfl) (by rw [r5]; rfl)
  obtain ⟨g1, g2⟩ := t3 (ρ2 x3 x2) hL
  rw [er] at g1
  have hg : GSay u x1.toNatClampNeg x3 x2 r' := ⟨k, hh, t1, t2, g2, g1⟩
  exact ⟨(gv_eq hI ⟨bl.1, by omega⟩ ba hg).symm, hg, st⟩
theorem GSay_of {u v : SX} {g : Nat} {l a : Int32} (hI : IX u) (hJ : IM v) (hV : TieV u v) (hg : (g : Int) < (u.1 6).toInt) (bl : 0 ≤ l.toInt ∧ l.toInt ≤ 40) (ba : 0 ≤ a.toInt ∧ a.toInt ≤ 60) : ∃ x, GSay u g l a x := by
  have b6 : (u.1 6).toInt ≤ (6 : Int) := (hI.1 6).2
  have eg : (Int32.ofNat g).toInt = (g : Int) := Int32.toInt_ofNat_of_lt (by omega)
  have en : (Int32.ofNat g).toNatClampNeg = g := by
    show (Int32.ofNat g).toInt.toNat = g
    rw [eg]
    rfl
  obtain ⟨⟨r', v'⟩, er, -⟩ := tfX12_guessWorth_0 (Int32.ofNat g) a l v hJ ⟨by omega, by omega⟩ bl
  have q := (guessM hI hJ hV (by omega) (by omega) ba bl er).2.1
  rw [en] at q
  exact ⟨r', q⟩
/-- every guess says something -/
def LVG (u : SX) : Prop := ∀ (g : Nat) (l a : Int32), (g : Int) < (u.1 6).toInt → (0 ≤ l.toInt ∧ l.toInt ≤ 40) → (0 ≤ a.toInt ∧ a.toInt ≤ 60) → ∃ x, GSay u g l a x
theorem LVG_of {u v : SX} (hI : IX u) (hJ : IM v) (hV : TieV u v) : LVG u := fun _ _ _ hg bl ba => GSay_of hI hJ hV hg bl ba
theorem LVG_fr {u u' : SX} (h6 : u'.1 6 = u.1 6) (hx : u'.2.2.2.2 = u.2.2.2.2) (h : LVG u) : LVG u' := by
  unfold LVG GSay tQ tN tC tL at h ⊢
  rw [h6, hx]
  exact h
theorem set4V {k : Nat} {x1 x2 r : Int32} {u u' : SX} (h0 : ¬ x1 < 0) (h6 : ¬ 2 ≤ x1) (hk : x1.toNatClampNeg = k) (h : fX8_set_4 x1 x2 u = some (r, u')) : u'.2.1 19 = upd (u.2.1 19) k x2 := by
  unfold fX8_set_4 at h
  rw [if_neg h0, if_neg h6] at h
  obtain ⟨-, h⟩ := gd_some h
  obtain ⟨u2, e2, h⟩ := lt_some h
  have e : u2 = u' := by cases h; rfl
  rw [← e, e2, ← hk]
  rfl
/-- the class's guess -/
theorem guessX {x1 x2 x3 r : Int32} {u u' : SX} (hI : IX u) (hL : LVG u) (hx0 : 0 ≤ x1.toInt) (hx1 : x1.toInt < (u.1 6).toInt) (bl : 1 ≤ x2.toInt ∧ x2.toInt ≤ 40) (ba : 0 ≤ x3.toInt ∧ x3.toInt ≤ 60) (h : fX1_guessed_8 x1 x2 x3 u = some (r, u')) : r = gv u x1.toNatClampNeg x2 x3 ∧ StX mdX1_guessed_8 u u' := by
  have b6 : (u.1 6).toInt ≤ (6 : Int) := (hI.1 6).2
  have st : StX mdX1_guessed_8 u u' := (Tot_at (tfX1_guessed_8 x1 x2 x3 u hI ⟨hx0, by omega⟩ bl ba) h).1
  refine ⟨?_, st⟩
  unfold fX1_guessed_8 at h
  obtain ⟨⟨r1, u2⟩, a1, h⟩ := bd_some h
  have s2 : StX mdX8_set_4 u u2 := (Tot_at (tfX8_set_4 0 x2 u hI (by decide) ⟨by omega, by omega⟩) a1).1
  obtain ⟨⟨r4, u5⟩, a4, h⟩ := bd_some h
  have s5 : StX mdX8_set_4 u2 u5 := (Tot_at (tfX8_set_4 1 x3 u2 s2.1 (by decide) ba) a4).1
  obtain ⟨⟨r7, u8⟩, a7, h⟩ := bd_some h
  have er : r7 = r := by cases h; rfl
  have k1 := set4V (k := 0) (by decide) (by decide) (by decide) a1
  have k4 := set4V (k := 1) (by decide) (by decide) (by decide) a4
  obtain ⟨x, hg⟩ := hL x1.toNatClampNeg x2 x3 (by show ((x1.toInt.toNat : Nat) : Int) < _; omega) ⟨by omega, bl.2⟩ ba
  have ex := gv_eq hI (⟨by omega, by omega⟩ : 0 ≤ x2.toInt ∧ x2.toInt ≤ 60) ba hg
  obtain ⟨k, hh, t1, t2, t3, t4⟩ := hg
  have xX : u5.2.2.2.2 = u.2.2.2.2 := s5.2.2.2.2.2.trans s2.2.2.2.2.2
  have f6 : u5.1 6 = u.1 6 := (s5.2.1 6 (by decide)).trans (s2.2.1 6 (by decide))
  rw [ex, ← er]
  unfold fX8_ask_4 at a7
  obtain ⟨⟨s1, w2⟩, c1, a7⟩ := bd_some a7
  obtain ⟨eu, hs⟩ := has4i c1
  have n1 : ¬ s1 = 0 := by
    rcases hs with ⟨-, z⟩ | ⟨z, -⟩
    · exact absurd ⟨hx0, by rw [f6]; exact hx1⟩ z
    · exact ne01 z
  rw [eu] at a7
  have a7 : (if s1 = 0 then (GX8_ask_4_18 u5) else (gd (inb x1 6) (tcs (tQ u5 18 x1.toNatClampNeg) (tN u5) (GX8_ask_4_18 u5) (fun k5 => (GX8_ask_4_18a k5 u5))))) = some (r7, u8) := a7
  rw [if_neg n1] at a7
  obtain ⟨-, a7⟩ := gd_some a7
  have q1 : tQ u5 18 x1.toNatClampNeg = some k := by
    unfold tQ at t1 ⊢
    rw [xX]
    exact t1
  obtain ⟨-, a7⟩ := tcs_s q1 a7
  unfold GX8_ask_4_18a at a7
  obtain ⟨-, a7⟩ := gd_some a7
  obtain ⟨⟨r9, u10⟩, a9, a7⟩ := bd_some a7
  have e9 : r9 = r7 := by cases a7; rfl
  rw [← e9]
  refine worthV1 (ρ := ρ2 x2 x3) (hh := hh) ?_ (fun j hj => ?_) ?_ a9
  · unfold tL tC at t4 ⊢
    rw [xX]
    exact t4
  · rw [k4, k1]
    have hj2 : j = 0 ∨ j = 1 := by omega
    rcases hj2 with z | z
    · rw [z]; rfl
    · rw [z]; rfl
  · unfold tL at t3 ⊢
    rw [xX]
    exact t3
