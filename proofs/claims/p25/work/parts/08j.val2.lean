/-! What a text says: numbers, letters, atoms. -/
set_option maxRecDepth 100000 in
theorem hi8F : ∀ a b : Fin 100, ((Int32.ofNat (100 * a.val + b.val) <<< (8 &&& 31)) ||| 48) >>> (8 &&& 31) = Int32.ofNat (100 * a.val + b.val) := by decide +kernel
set_option maxRecDepth 100000 in
theorem hi8L : ∀ a : Fin 6, ((Int32.ofNat a.val <<< (8 &&& 31)) ||| 121) >>> (8 &&& 31) = Int32.ofNat a.val := by decide +kernel
theorem nat_of {c : Int32} (h0 : 0 ≤ c.toInt) : c = Int32.ofNat c.toInt.toNat := by
  apply Int32.toInt.inj
  have h9 := Int32.toInt_lt c
  rw [Int32.toInt_ofNat_of_lt (by omega)]
  omega
theorem hi8 {c : Int32} (h0 : 0 ≤ c.toInt) (h1 : c.toInt ≤ 9999) : ((c <<< (8 &&& 31)) ||| 48) >>> (8 &&& 31) = c := by
  have e := nat_of h0
  have q := hi8F ⟨c.toInt.toNat / 100, by omega⟩ ⟨c.toInt.toNat % 100, by omega⟩
  have e2 : 100 * (c.toInt.toNat / 100) + c.toInt.toNat % 100 = c.toInt.toNat := by omega
  have q : ((Int32.ofNat (100 * (c.toInt.toNat / 100) + c.toInt.toNat % 100) <<< (8 &&& 31)) ||| 48) >>> (8 &&& 31) = Int32.ofNat (100 * (c.toInt.toNat / 100) + c.toInt.toNat % 100) := q
  rw [e2, ← e] at q
  exact q
theorem hi8l {c : Int32} (h0 : 0 ≤ c.toInt) (h1 : c.toInt ≤ 5) : ((c <<< (8 &&& 31)) ||| 121) >>> (8 &&& 31) = c := by
  have e := nat_of h0
  have q := hi8L ⟨c.toInt.toNat, by omega⟩
  have q : ((Int32.ofNat c.toInt.toNat <<< (8 &&& 31)) ||| 121) >>> (8 &&& 31) = Int32.ofNat c.toInt.toNat := q
  rw [← e] at q
  exact q
theorem exW_num {ρ : Nat → Int32} {N c : Int32} {s : List Int32} (h0 : 0 ≤ c.toInt) (h1 : c.toInt ≤ 9999) : exW ρ N ((c <<< (8 &&& 31)) ||| 48) s = some (c :: s) := by
  unfold exW
  rw [low8 c 48 (by decide) (by decide), hi8 h0 h1]
  rfl
theorem exW_let {ρ : Nat → Int32} {N c : Int32} {s : List Int32} (h0 : 0 ≤ c.toInt) (h1 : c.toInt ≤ 5) (h2 : c < N) : exW ρ N ((c <<< (8 &&& 31)) ||| 121) s = some (ρ c.toNatClampNeg :: s) := by
  unfold exW
  rw [low8 c 121 (by decide) (by decide), hi8l h0 h1, if_neg (by decide), if_neg (by decide), if_neg (by decide), if_pos rfl, if_neg (fun z => by have z9 : c.toInt < (0 : Int) := ltI z; omega), if_pos h2]
/-- M's isDigit where both stand -/
theorem digV {B d r : Int32} {L : Nat → Int32} {Q : Int32 × Int32 × Int32} {e : Int} {u v v' : SX} (hP : PV B L Q e u v d) (h : fX12_isDigit_0 v = some (r, v')) : v' = v ∧ ((r = 0 ∧ ((u.1 1).toInt ≤ (u.1 4).toInt ∨ ((u.1 4).toInt < (u.1 1).toInt ∧ ((u.2.1 13 (u.1 4).toNatClampNeg).toInt < 48 ∨ 57 < (u.2.1 13 (u.1 4).toNatClampNeg).toInt)))) ∨ (r = 1 ∧ (u.1 4).toInt < (u.1 1).toInt ∧ 48 ≤ (u.2.1 13 (u.1 4).toNatClampNeg).toInt ∧ (u.2.1 13 (u.1 4).toNatClampNeg).toInt ≤ 57 ∧ v.2.1 2 (B + u.1 4).toNatClampNeg = u.2.1 13 (u.1 4).toNatClampNeg)) := by
  have hP0 := hP
  obtain ⟨⟨pl, p2, p4, pt, p7, p6, p8, a0, a1, a2, pT⟩, pL, pB, pQ, s0, s1⟩ := hP
  have n2 : ¬ v.1 2 = 2 := by rw [p2]; decide
  unfold fX12_isDigit_0 at h
  rw [← pl, p6, p4] at h
  by_cases e0 : u.1 1 ≤ u.1 4
  · rw [if_pos e0] at h
    obtain ⟨-, h⟩ := gd_some h
    have e1 : (0 : Int32) = r ∧ v = v' := by cases h; exact ⟨rfl, rfl⟩
    exact ⟨e1.2.symm, Or.inl ⟨e1.1.symm, Or.inl (leI e0)⟩⟩
  · rw [if_neg e0, if_neg n2, if_pos p2] at h
    have e9 : ¬ (u.1 1).toInt ≤ (u.1 4).toInt := nleI e0
    obtain ⟨-, h⟩ := gd_some h
    obtain ⟨⟨b1, b2⟩, hm, hraw⟩ := PV_sgn hP0 (by omega)
    by_cases c1 : v.2.1 2 (B + u.1 4).toNatClampNeg < 48
    · rw [if_pos c1] at h
      obtain ⟨-, h⟩ := gd_some h
      have e1 : (0 : Int32) = r ∧ v = v' := by cases h; exact ⟨rfl, rfl⟩
      refine ⟨e1.2.symm, Or.inl ⟨e1.1.symm, Or.inr ⟨by omega, ?_⟩⟩⟩
      have c9 : (v.2.1 2 (B + u.1 4).toNatClampNeg).toInt < (48 : Int) := ltI c1
      rcases hraw with ⟨-, hr⟩ | ⟨hr, -⟩
      · rw [hr] at c9; exact Or.inl c9
      · exact Or.inr (by omega)
    · rw [if_neg c1, if_neg n2, if_pos p2] at h
      obtain ⟨-, h⟩ := gd_some h
      have c9 : ¬ (v.2.1 2 (B + u.1 4).toNatClampNeg).toInt < (48 : Int) := nltI c1
      have hr : v.2.1 2 (B + u.1 4).toNatClampNeg = u.2.1 13 (u.1 4).toNatClampNeg := by
        rcases hraw with ⟨-, hr⟩ | ⟨-, hr⟩
        · exact hr
        · omega
      rw [hr] at c9
      by_cases c2 : 57 < v.2.1 2 (B + u.1 4).toNatClampNeg
      · rw [if_pos c2] at h
        obtain ⟨-, h⟩ := gd_some h
        have e1 : (0 : Int32) = r ∧ v = v' := by cases h; exact ⟨rfl, rfl⟩
        have c8 : (57 : Int) < (v.2.1 2 (B + u.1 4).toNatClampNeg).toInt := ltI c2
        rw [hr] at c8
        exact ⟨e1.2.symm, Or.inl ⟨e1.1.symm, Or.inr ⟨by omega, Or.inr c8⟩⟩⟩
      · rw [if_neg c2] at h
        obtain ⟨-, h⟩ := gd_some h
        have e1 : (1 : Int32) = r ∧ v = v' := by cases h; exact ⟨rfl, rfl⟩
        have c8 : ¬ (57 : Int) < (v.2.1 2 (B + u.1 4).toNatClampNeg).toInt := nltI c2
        rw [hr] at c8
        exact ⟨e1.2.symm, Or.inr ⟨e1.1.symm, by omega, by omega, by omega, hr⟩⟩
/-- digits: the same number -/
theorem numV {B d : Int32} {L : Nat → Int32} {Q : Int32 × Int32 × Int32} {e : Int} {rc : Nat → Int32 → SX → Option (Int32 × SX)} : ∀ (n m : Nat) (z1 z2 : Int32) (u v u' v' : SX) (r r' : Int32), PV B L Q e u v d → NumB z1 z2 → LX5_number_2_4 n z1 z2 u = some (r, u') → ¬ r = -1 → LX12_atom_0_97 rc (GX12_atom_0_117 rc) m z1 z2 v = some (r', v') → PV B L Q e u' v' d ∧ (u.1 4).toInt ≤ (u'.1 4).toInt ∧ r' = r ∧ SZ u u' ∧ (0 ≤ r.toInt ∧ r.toInt ≤ 9999) ∧ ((u.1 4).toInt < (u.1 1).toInt → 48 ≤ (u.2.1 13 (u.1 4).toNatClampNeg).toInt → (u.2.1 13 (u.1 4).toNatClampNeg).toInt ≤ 57 → (u.1 4).toInt < (u'.1 4).toInt) := by
  intro n
  induction n with
  | zero => intro m z1 z2 u v u' v' r r' _ _ h; cases h
  | succ n ih =>
    intro m z1 z2 u v u' v' r r' hP hN h1 hr h2
    cases m with
    | zero => cases h2
    | succ m =>
      have hP0 := hP
      obtain ⟨⟨pl, p2, p4, pt, p7, p6, p8, a0, a1, a2, pT⟩, pL, pB, pQ, s0, s1⟩ := hP
      have n2 : ¬ v.1 2 = 2 := by rw [p2]; decide
      have h1 : (if 4 < z2 then some (-1, u) else (if u.1 1 ≤ u.1 4 then GX5_number_2_39 (LX5_number_2_4 n) z1 z2 0 u else (gd (inb (u.1 4) 120) (GX5_number_2_39 (LX5_number_2_4 n) z1 z2 (u.2.1 13 (u.1 4).toNatClampNeg) u)))) = some (r, u') := h1
      have g4 : ¬ 4 < z2 := fun z => by
        have z9 : (4 : Int) < z2.toInt := ltI z
        obtain ⟨-, hN⟩ := hN
        omega
      rw [if_neg g4] at h1
      have h2 : ((fX12_isDigit_0 v).bind _) = some (r', v') := h2
      obtain ⟨⟨r7, v8⟩, a7, h2⟩ := bd_some h2
      obtain ⟨ev, hd⟩ := digV hP0 a7
      rw [ev] at h2
      have h2 : (if r7 = 0 then some (z1, v) else _) = some (r', v') := h2
      rcases hd with ⟨er, hd⟩ | ⟨er, hlt, hd1, hd2, hraw⟩
      · rw [if_pos er] at h2
        have e2 : z1 = r' ∧ v = v' := by cases h2; exact ⟨rfl, rfl⟩
        rw [← e2.1, ← e2.2]
        have key : some (z1, u) = some (r, u') := by
          rcases hd with hd | ⟨hd0, hd⟩
          · rw [if_pos (by exact Int32.le_iff_toInt_le.mpr hd)] at h1
            unfold GX5_number_2_39 at h1
            rw [if_pos (by decide)] at h1
            exact h1
          · rw [if_neg (fun z => by have := leI z; omega)] at h1
            obtain ⟨-, h1⟩ := gd_some h1
            unfold GX5_number_2_39 at h1
            rcases hd with hd | hd
            · rw [if_pos (by exact Int32.lt_iff_toInt_lt.mpr (show _ < (48 : Int) from hd))] at h1
              exact h1
            · rw [if_neg (fun z => by have z9 : _ < (48 : Int) := ltI z; omega), if_neg (fun z => by have z9 : _ ≤ (57 : Int) := leI z; omega)] at h1
              exact h1
        have e1 : z1 = r ∧ u = u' := by cases key; exact ⟨rfl, rfl⟩
        rw [← e1.1, ← e1.2]
        obtain ⟨n0, n1⟩ := hN
        exact ⟨hP0, Int.le_refl _, rfl, ⟨rfl, rfl⟩, ⟨n0, by omega⟩, fun q1 q2 q3 => by
          rcases hd with hd | ⟨-, hd | hd⟩
          · omega
          · omega
          · omega⟩
      · rw [if_neg (by rw [er]; decide), if_pos p7] at h2
        rw [if_neg (fun z => by have := leI z; omega)] at h1
        obtain ⟨-, h1⟩ := gd_some h1
        unfold GX5_number_2_39 at h1
        rw [if_neg (fun z => by have z9 : _ < (48 : Int) := ltI z; omega), if_pos (by exact Int32.le_iff_toInt_le.mpr (show _ ≤ (57 : Int) from hd2))] at h1
        have e5 : (u.1 4 + 1).toInt = (u.1 4).toInt + 1 := addc_t (by decide) (by omega) (by omega)
        by_cases c4 : z2 = 4
        · rw [if_pos c4] at h1
          have e1 : (-1 : Int32) = r := by cases h1; rfl
          exact absurd e1.symm hr
        · rw [if_neg c4] at h1 h2
          rw [if_neg n2, if_pos p2] at h2
          obtain ⟨-, h2⟩ := gd_some h2
          obtain ⟨w1, j1, h1⟩ := lt_some h1
          obtain ⟨u3, j3, h1⟩ := lt_some h1
          obtain ⟨w2, i1, h2⟩ := lt_some h2
          obtain ⟨v3, i3, h2⟩ := lt_some h2
          rw [p6] at i3
          rw [p4, p6, hraw] at i1
          have c49 : ¬ z2.toInt = (4 : Int) := neI c4
          obtain ⟨n0, n1⟩ := hN
          have m3 : w1.toInt = z1.toInt * 10 + (u.2.1 13 (u.1 4).toNatClampNeg).toInt - 48 := by
            rw [j1]
            exact dig_val n0 (by omega) hd1 hd2
          have m4 : (z2 + 1).toInt = z2.toInt + 1 := addc_t (by decide) (by omega) (by omega)
          have hN' : NumB w1 (z2 + 1) := by
            unfold NumB
            rw [m4]
            omega
          have ew : w2 = w1 := by rw [i1, j1, Int32.mul_comm]
          rw [ew] at h2
          have h2 : LX12_atom_0_97 rc (GX12_atom_0_117 rc) m w1 (z2 + 1) v3 = some (r', v') := h2
          obtain ⟨q1, q2, q3, q4, q5, -⟩ := ih m w1 (z2 + 1) u3 v3 u' v' r r' (by rw [j3, i3]; exact PV_at hP0 (by rw [e5]; omega) (by rw [e5]; omega) (by rw [e5]; omega)) hN' h1 hr h2
          have k : u3.1 4 = u.1 4 + 1 := by rw [j3]; rfl
          rw [k, e5] at q2
          exact ⟨q1, by omega, q3, SZ_tr ⟨by rw [j3]; rfl, by rw [j3]; rfl⟩ q4, q5, fun _ _ _ => by omega⟩
/-- the letters' worths on both sides -/
def LetR (ρ L : Nat → Int32) (N t : Int32) : Prop := ∀ c j : Int32, 1 ≤ c.toInt → c.toInt ≤ 255 → 0 ≤ j.toInt → ((t = 5 → fJ0_indexOf_0f7a4_s4 c = some j → (ρ j.toNatClampNeg = L c.toNatClampNeg ∧ j.toInt ≤ 5 ∧ j < N)) ∧ (t = 6 → fJ0_indexOf_0f7a4_s5 c = some j → (ρ j.toNatClampNeg = L c.toNatClampNeg ∧ j.toInt ≤ 5 ∧ j < N)) ∧ (t = 7 → fJ0_indexOf_0f7a4_s6 c = some j → (ρ j.toNatClampNeg = L c.toNatClampNeg ∧ j.toInt ≤ 5 ∧ j < N)))
theorem letV {rc : Nat → Int32 → Int32 → SX → Option (Int32 × SX)} {rM : Nat → Int32 → SX → Option (Int32 × SX)} {B c d r : Int32} {L ρ : Nat → Int32} {N : Int32} {Q : Int32 × Int32 × Int32} {e : Int} {u v v' : SX} (hL : LetR ρ L N Q.2.2) (hP : PV B L Q e u v d) (h1 : 1 ≤ c.toInt) (h2 : c.toInt ≤ 255)
    (h : (if c = (-1) then (GX12_atom_0_38 rM c v) else (if v.1 10 = 5 then ((fJ0_indexOf_0f7a4_s4 c).bind fun r37 => (if r37 < 0 then (GX12_atom_0_38 rM c v) else (lt (sI v 6 ((v.1 6) + 1)) fun u40 => (gd (inb c 128) (some (u40.2.1 5 c.toNatClampNeg, u40)))))) else (if v.1 10 = 6 then ((fJ0_indexOf_0f7a4_s5 c).bind fun r43 => (if r43 < 0 then (GX12_atom_0_38 rM c v) else (lt (sI v 6 ((v.1 6) + 1)) fun u46 => (gd (inb c 128) (some (u46.2.1 5 c.toNatClampNeg, u46)))))) else (if v.1 10 = 7 then ((fJ0_indexOf_0f7a4_s6 c).bind fun r49 => (if r49 < 0 then (GX12_atom_0_38 rM c v) else (lt (sI v 6 ((v.1 6) + 1)) fun u52 => (gd (inb c 128) (some (u52.2.1 5 c.toNatClampNeg, u52)))))) else none)))) = some (r, v')) :
    ∃ j : Int32, GX5_atom_2_87 rc c u = GX5_atom_2_104 rc j u ∧ (if j < 0 then (GX12_atom_0_38 rM c v) else (lt (sI v 6 ((v.1 6) + 1)) fun u40 => (gd (inb c 128) (some (u40.2.1 5 c.toNatClampNeg, u40))))) = some (r, v') ∧ ((c = 91 ∨ (48 ≤ c.toInt ∧ c.toInt ≤ 57)) → j = -1) ∧ (0 ≤ j.toInt → (ρ j.toNatClampNeg = L c.toNatClampNeg ∧ j.toInt ≤ 5 ∧ j < N)) := by
  obtain ⟨⟨pl, p2, p4, pt, p7, p6, p8, a0, a1, a2, pT⟩, pL, pB, pQ, s0, s1⟩ := hP
  obtain ⟨n, en⟩ := fin_of (c := c) (by omega) h2
  have hn := fin_in en
  have eQ : Q.2.2 = v.1 10 := by rw [← pQ]
  have nc : ¬ c = -1 := fun z => by
    have z9 : c.toInt = (-1 : Int) := eqI z
    omega
  have n0 : ¬ c = 0 := fun z => by
    have z9 : c.toInt = (0 : Int) := eqI z
    omega
  rw [if_neg nc] at h
  have hcond : (c = 91 ∨ (48 ≤ c.toInt ∧ c.toInt ≤ 57)) → (n.val = 91 ∨ (48 ≤ n.val ∧ n.val ≤ 57)) := fun z => by
    rcases z with z | z
    · have z9 : c.toInt = (91 : Int) := eqI z
      omega
    · omega
  rcases pt with ⟨t1, t2⟩ | ⟨t1, t2⟩ | ⟨t1, t2⟩
  · rw [if_pos t2] at h
    obtain ⟨j, aj, h⟩ := bd_some h
    refine ⟨j, ?_, h, fun z => ?_, fun z => (hL c j h1 h2 z).1 (eQ.trans t2) aj⟩
    · unfold GX5_atom_2_87
      rw [if_neg n0, if_pos t1, en, ix0 n, ← en, aj]
      rfl
    · have := nl4 n (hcond z)
      rw [← en, aj] at this
      exact Option.some.inj this
  · rw [if_neg (by rw [t2]; decide), if_pos t2] at h
    obtain ⟨j, aj, h⟩ := bd_some h
    refine ⟨j, ?_, h, fun z => ?_, fun z => (hL c j h1 h2 z).2.1 (eQ.trans t2) aj⟩
    · unfold GX5_atom_2_87
      rw [if_neg n0, if_neg (by rw [t1]; decide), if_pos t1, en, ix1 n, ← en, aj]
      rfl
    · have := nl5 n (hcond z)
      rw [← en, aj] at this
      exact Option.some.inj this
  · rw [if_neg (by rw [t2]; decide), if_neg (by rw [t2]; decide), if_pos t2] at h
    obtain ⟨j, aj, h⟩ := bd_some h
    refine ⟨j, ?_, h, fun z => ?_, fun z => (hL c j h1 h2 z).2.2 (eQ.trans t2) aj⟩
    · unfold GX5_atom_2_87
      rw [if_neg n0, if_neg (by rw [t1]; decide), if_neg (by rw [t1]; decide), if_pos t1, en, ix2 n, ← en, aj]
      rfl
    · have := nl6 n (hcond z)
      rw [← en, aj] at this
      exact Option.some.inj this
def TotV (B : Int32) (L ρ : Nat → Int32) (N : Int32) (Q : Int32 × Int32 × Int32) (dX : Nat) : Prop := ∀ (dM : Nat) (k : Int32) (e : Int) (u v u' v' : SX) (r r' : Int32), Dp k → 0 ≤ e → PV B L Q e u v k → rX5conditiong dX 2 k 0 u = some (r, u') → ¬ r = 0 → rX12sumg dM 0 0 v = some (r', v') → PV B L Q e u' v' k ∧ (u.1 4).toInt < (u'.1 4).toInt ∧ ∀ s, RUN ρ N u u' s (r' :: s)
def AtmV (B : Int32) (L ρ : Nat → Int32) (N : Int32) (Q : Int32 × Int32 × Int32) (dX : Nat) : Prop := ∀ (dM : Nat) (k : Int32) (e : Int) (u v u' v' : SX) (r r' : Int32), Dp k → 0 ≤ e → PV B L Q e u v k → rX5conditiong dX 3 k 0 u = some (r, u') → ¬ r = 0 → rX12sumg dM 2 0 v = some (r', v') → PV B L Q e u' v' k ∧ (u.1 4).toInt < (u'.1 4).toInt ∧ ∀ s, RUN ρ N u u' s (r' :: s)
set_option maxHeartbeats 1000000 in
theorem atomV {B : Int32} {L ρ : Nat → Int32} {N : Int32} {Q : Int32 × Int32 × Int32} {dX : Nat} (hL : LetR ρ L N Q.2.2) (hT : TotV B L ρ N Q dX) : AtmV B L ρ N Q (dX + 1) := by
  intro dM k e u v u' v' r r' hk he hP h1 hr h2
  cases dM with
  | zero => cases h2
  | succ dM =>
    have h1 : fX5_atom_2 (rX5conditiong dX) k u = some (r, u') := h1
    have h2 : fX12_atom_0 (rX12sumg dM) v = some (r', v') := h2
    unfold fX5_atom_2 at h1
    unfold fX12_atom_0 at h2
    obtain ⟨⟨c, u2⟩, a1, h1⟩ := bd_some h1
    obtain ⟨⟨c', v2⟩, a2, h2⟩ := bd_some h2
    obtain ⟨hP2, hle, hq, hz⟩ := peekV hP a1 a2
    have hP0 := hP2
    obtain ⟨⟨pl, p2, p4, pt, p7, p6, p8, b0, b1, b2, pT⟩, pL, pB, pQ, s0, s1⟩ := hP0
    have h1 : (if c = 91 then (if 6 ≤ k then GX5_atom_2_52 (rX5conditiong dX) c u2 else (lt (sI u2 4 ((u2.1 4) + 1)) fun u31 => ((rX5conditiong dX 2 (k + 1) 0 u31).bind _))) else GX5_atom_2_52 (rX5conditiong dX) c u2) = some (r, u') := h1
    rcases hq with ⟨q1, q2, q3⟩ | ⟨q1, q2, q3, q4, q5, q6⟩
    · rw [if_neg (by rw [q1]; decide)] at h1
      unfold GX5_atom_2_52 at h1
      rw [if_pos (by rw [q1]; decide)] at h1
      unfold GX5_atom_2_87 at h1
      rw [if_pos q1] at h1
      unfold GX5_atom_2_104 at h1
      rw [if_neg (by decide)] at h1
      have e1 : (0 : Int32) = r := by cases (gd_some h1).2; rfl
      exact absurd e1.symm hr
    · obtain ⟨j, hX, hM, hj, hjl⟩ := letV (rc := rX5conditiong dX) (rM := rX12sumg dM) hL hP2 q2 q3 (by rw [← q1] at h2; exact h2)
      clear h2
      have e5 : (u2.1 4 + 1).toInt = (u2.1 4).toInt + 1 := addc_t (by decide) (by omega) (by omega)
      have hPn : PV B L Q (e + 1) (sI u2 4 (u2.1 4 + 1)) (sI v2 6 (u2.1 4 + 1)) k := PV_at hP2 (by rw [e5]; omega) (by rw [e5]; omega) (by rw [e5]; omega)
      have hfailX : c < 48 ∨ 57 < c → GX5_atom_2_52 (rX5conditiong dX) c u2 = GX5_atom_2_104 (rX5conditiong dX) j u2 := fun z => by
        unfold GX5_atom_2_52
        by_cases z1 : c < 48
        · rw [if_pos z1]; exact hX
        · rcases z with z | z
          · exact absurd z z1
          · rw [if_neg z1, if_pos z]; exact hX
      by_cases jn : j < 0
      · rw [if_pos jn] at hM
        have jn9 : j.toInt < (0 : Int) := ltI jn
        have h104 : GX5_atom_2_104 (rX5conditiong dX) j u2 = some (0, u2) := by
          unfold GX5_atom_2_104
          rw [if_neg (fun z => by have z9 : (0 : Int) ≤ j.toInt := leI z; omega)]
          rfl
        have bad : GX5_atom_2_104 (rX5conditiong dX) j u2 = some (r, u') → False := fun z => by
          rw [h104] at z
          have e1 : (0 : Int32) = r := by cases z; rfl
          exact hr e1.symm
        unfold GX12_atom_0_38 at hM
        by_cases c91 : c = 91
        · rw [if_pos c91] at h1 hM
          obtain ⟨⟨r26, v27⟩, a26, hM⟩ := bd_some hM
          have hM : (if r26 = 0 then _ else _) = some (r', v') := hM
          unfold fX12_goesIn_0 at a26
          rw [p8] at a26
          by_cases k6 : 6 ≤ k
          · rw [if_pos k6, hfailX (Or.inr (by rw [c91]; decide))] at h1
            exact (bad h1).elim
          · rw [if_neg k6] at h1
            have k69 : ¬ (6 : Int) ≤ k.toInt := nleI k6
            rw [if_neg (fun z => by have z9 : k.toInt = (6 : Int) := eqI z; omega)] at a26
            obtain ⟨w1, i1, a26⟩ := lt_some a26
            obtain ⟨w2, i2, a26⟩ := lt_some a26
            obtain ⟨-, a26⟩ := gd_some a26
            have e26 : (1 : Int32) = r26 ∧ w2 = v27 := by cases a26; exact ⟨rfl, rfl⟩
            have ek : (k + 1).toInt = k.toInt + 1 := addc_t (by decide) (by have := hk.1; omega) (by omega)
            have hk1 : Dp (k + 1) := ⟨by rw [ek]; have := hk.1; omega, by rw [ek]; omega⟩
            have hPd : PV B L Q e (sI u2 4 (u2.1 4 + 1)) v27 (k + 1) := by
              rw [← e26.2, i2, i1]
              have q := PV_at (x := u2.1 4 + 1) (e' := e) (PV_deep (k := k + 1) hP2) (by rw [e5]; omega) (by rw [e5]; omega) (by rw [e5]; omega)
              have p6' : (sI v2 8 (k + 1)).1 6 = u2.1 4 := p6
              rw [p6']
              exact q
            rw [if_neg (by rw [← e26.1]; decide)] at hM
            obtain ⟨u31, j31, h1⟩ := lt_some h1
            obtain ⟨⟨r33, u34⟩, a33, h1⟩ := bd_some h1
            obtain ⟨⟨r29, v30⟩, a29, hM⟩ := bd_some hM
            rw [j31] at a33
            have h1 : (if r33 = 0 then _ else _) = some (r, u') := h1
            have n33 : ¬ r33 = 0 := fun z => by
              rw [if_pos z] at h1
              have e1 : (0 : Int32) = r := by cases (gd_some h1).2; rfl
              exact hr e1.symm
            rw [if_neg n33] at h1
            obtain ⟨hP3, hmo, hrun⟩ := hT dM (k + 1) e _ _ u34 v30 r33 r29 hk1 he hPd a33 n33 a29
            have hmo : (u2.1 4 + 1).toInt < (u34.1 4).toInt := hmo
            rw [e5] at hmo
            obtain ⟨⟨r32, v33⟩, a32, hM⟩ := bd_some hM
            have hM : (if r32 = 0 then _ else _) = some (r', v') := hM
            obtain ⟨⟨r37, u38⟩, a37, h1⟩ := bd_some h1
            have h1 : (if r37 = 0 then _ else _) = some (r, u') := h1
            have n37 : ¬ r37 = 0 := fun z => by
              rw [if_pos z] at h1
              have e1 : (0 : Int32) = r := by cases (gd_some h1).2; rfl
              exact hr e1.symm
            rw [if_neg n37] at h1
            obtain ⟨-, g2, hP4, hmo2, hz2⟩ := takesV (by decide) (by decide) hP3 a37 n37 a32
            rw [if_neg (by rw [g2]; decide)] at hM
            obtain ⟨-, h1⟩ := gd_some h1
            obtain ⟨w5, i5, hM⟩ := lt_some hM
            have e1 : (1 : Int32) = r ∧ u38 = u' := by cases h1; exact ⟨rfl, rfl⟩
            have e2 : r29 = r' ∧ w5 = v' := by cases hM; exact ⟨rfl, rfl⟩
            have e8 : v33.1 8 = k + 1 := hP4.1.2.2.2.2.2.2.1
            have ek2 : v33.1 8 - 1 = k := by
              rw [e8]
              exact Int32.toInt.inj (by rw [subc_t (n := 1) (by decide) (by rw [ek]; have := hk.1; omega) (by rw [ek]; omega), ek]; omega)
            rw [← e1.2, ← e2.1, ← e2.2, i5, ek2]
            exact ⟨PV_deep (PV_le hP4 (by omega)), by omega, fun s => RUN_l (SZ_tr hz ⟨rfl, rfl⟩) (RUN_r (hrun s) hz2)⟩
        · rw [if_neg c91] at h1 hM
          obtain ⟨⟨r4, v5⟩, a5, hM⟩ := bd_some hM
          obtain ⟨ev, hd⟩ := digV hP2 a5
          rw [ev] at hM
          have hM : (if r4 = 0 then _ else _) = some (r', v') := hM
          have hd0 := hd
          rw [← q5] at hd
          rcases hd with ⟨er, hd⟩ | ⟨er, hlt, hd1, hd2, hraw⟩
          · have hor : c < 48 ∨ 57 < c := by
              rcases hd with hd | ⟨-, hd | hd⟩
              · omega
              · exact Or.inl (Int32.lt_iff_toInt_lt.mpr (show c.toInt < (48 : Int) from hd))
              · exact Or.inr (Int32.lt_iff_toInt_lt.mpr (show (57 : Int) < c.toInt from hd))
            rw [hfailX hor] at h1
            exact (bad h1).elim
          · rw [if_neg (by rw [er]; decide)] at hM
            unfold GX5_atom_2_52 at h1
            rw [if_neg (fun z => by have z9 : c.toInt < (48 : Int) := ltI z; omega), if_neg (fun z => by have z9 : (57 : Int) < c.toInt := ltI z; omega)] at h1
            obtain ⟨⟨r23, u24⟩, a23, h1⟩ := bd_some h1
            obtain ⟨⟨r26, u27⟩, a26, h1⟩ := bd_some h1
            have h1 : (if r23 = (-1) then _ else _) = some (r, u') := h1
            have n23 : ¬ r23 = -1 := fun z => by
              rw [if_pos z] at h1
              have e1 : (0 : Int32) = r := by cases (gd_some h1).2; rfl
              exact hr e1.symm
            rw [if_neg n23] at h1
            obtain ⟨-, h1⟩ := gd_some h1
            have e1 : (1 : Int32) = r ∧ u27 = u' := by cases h1; exact ⟨rfl, rfl⟩
            obtain ⟨hP3, hmo, er', hz3, hb, hst⟩ := numV 5000 5000 0 0 u2 v2 u24 v' r23 r' hP2 ⟨by decide, Or.inl ⟨by decide, by decide⟩⟩ a23 n23 hM
            have hst := hst q4 (by rw [← q5]; exact hd1) (by rw [← q5]; exact hd2)
            have sl : (u24.1 2).toInt + (e + 1) ≤ (u24.1 4).toInt := by
              rw [hz3.1]
              omega
            have hP3' : PV B L Q (e + 1) u24 v' k := by
              obtain ⟨x1, x2, x3, x4, x5, -⟩ := hP3
              exact ⟨x1, x2, x3, x4, x5, sl⟩
            have h4 : ∀ s, PV B L Q e u27 v' k ∧ u27.1 4 = u24.1 4 ∧ RUN ρ N u24 u27 s (r23 :: s) := fun s => emitV hP3' he (by decide) a26 (exW_num hb.1 hb.2)
            rw [← e1.2, er']
            exact ⟨(h4 []).1, by rw [(h4 []).2.1]; omega, fun s => RUN_l (SZ_tr hz hz3) (h4 s).2.2⟩
      · rw [if_neg jn] at hM
        have jn9 : ¬ j.toInt < (0 : Int) := nltI jn
        obtain ⟨jl, j5, jN⟩ := hjl (by omega)
        have nc : ¬ (c = 91 ∨ (48 ≤ c.toInt ∧ c.toInt ≤ 57)) := fun z => by
          have z9 : j.toInt = (-1 : Int) := eqI (hj z)
          omega
        have hor : c < 48 ∨ 57 < c := by
          by_cases z : c < 48
          · exact Or.inl z
          · have z9 : ¬ c.toInt < (48 : Int) := nltI z
            exact Or.inr (Int32.lt_iff_toInt_lt.mpr (show (57 : Int) < c.toInt by
              rcases Int.lt_or_le 57 c.toInt with y | y
              · exact y
              · exact absurd (Or.inr ⟨by omega, y⟩) nc))
        rw [if_neg (fun z => nc (Or.inl z)), hfailX hor] at h1
        unfold GX5_atom_2_104 at h1
        rw [if_pos (by exact Int32.le_iff_toInt_le.mpr (show (0 : Int) ≤ j.toInt by omega))] at h1
        obtain ⟨u7, j7, h1⟩ := lt_some h1
        obtain ⟨⟨r9, u10⟩, a9, h1⟩ := bd_some h1
        obtain ⟨-, h1⟩ := gd_some h1
        obtain ⟨w1, i1, hM⟩ := lt_some hM
        obtain ⟨-, hM⟩ := gd_some hM
        have e1 : (1 : Int32) = r ∧ u10 = u' := by cases h1; exact ⟨rfl, rfl⟩
        have e2 : w1.2.1 5 c.toNatClampNeg = r' ∧ w1 = v' := by cases hM; exact ⟨rfl, rfl⟩
        rw [p6] at i1
        rw [j7] at a9
        have er' : r' = ρ j.toNatClampNeg := by
          rw [← e2.1, i1, jl, ← pL]
          rfl
        have h4 : ∀ s, PV B L Q e u10 (sI v2 6 (u2.1 4 + 1)) k ∧ u10.1 4 = (sI u2 4 (u2.1 4 + 1)).1 4 ∧ RUN ρ N (sI u2 4 (u2.1 4 + 1)) u10 s (ρ j.toNatClampNeg :: s) := fun s => emitV hPn he (by decide) a9 (exW_let (by omega) j5 jN)
        have e4 : u10.1 4 = u2.1 4 + 1 := (h4 []).2.1
        rw [← e1.2, ← e2.2, i1, er']
        exact ⟨(h4 []).1, by rw [e4, e5]; omega, fun s => RUN_l (SZ_tr hz ⟨rfl, rfl⟩) (h4 s).2.2⟩
