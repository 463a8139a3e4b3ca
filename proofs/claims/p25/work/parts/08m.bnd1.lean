/-! What a text is worth lies within bounds. -/
abbrev Bw (x : Int32) : Prop := -1000000 ≤ x.toInt ∧ x.toInt ≤ 1000000
def LB (u : SX) : Prop := ∀ i : Nat, i < 128 → Bw (u.2.1 5 i)
/-- what the reading of a text leaves as it is: all rows, and what was found -/
abbrev Kf (u u' : SX) : Prop := u'.2 = u.2 ∧ u'.1 9 = u.1 9
theorem Kf_rf {u : SX} : Kf u u := ⟨rfl, rfl⟩
theorem Kf.trans {u u1 u2 : SX} (h2 : Kf u1 u2) (h1 : Kf u u1) : Kf u u2 := ⟨h2.1.trans h1.1, h2.2.trans h1.2⟩
theorem LB_r {u u' : SX} (e : Kf u u') (h : LB u) : LB u' := fun i hi => by
  rw [show u'.2.1 = u.2.1 by rw [e.1]]
  exact h i hi
theorem Bw_0 : Bw 0 := by decide
theorem withinB {y : Int64} {r : Int32} (h : fX12_within y = some r) : Bw r := by
  unfold fX12_within at h
  have b : ∀ z : Int64, -1000000 ≤ z.toInt → z.toInt ≤ 1000000 → Bw z.toInt32 := fun z z0 z1 => by
    unfold Bw
    rw [Int64.toInt_toInt32, bm_t (by omega) (by omega)]
    exact ⟨z0, z1⟩
  by_cases c1 : y < 1000000
  · have c19 : y.toInt < (1000000 : Int) := Int64.lt_iff_toInt_lt.mp c1
    rw [if_pos c1] at h
    by_cases c2 : y < -1000000
    · rw [if_pos c2] at h
      have e : ((-1000000 : Int64)).toInt32 = r := by cases h; rfl
      rw [← e]
      decide
    · have c29 : ¬ y.toInt < (-1000000 : Int) := fun z => c2 (Int64.lt_iff_toInt_lt.mpr z)
      rw [if_neg c2] at h
      have e : y.toInt32 = r := by cases h; rfl
      rw [← e]
      exact b y (by omega) (by omega)
  · rw [if_neg c1, if_neg (by decide)] at h
    have e : ((1000000 : Int64)).toInt32 = r := by cases h; rfl
    rw [← e]
    decide
theorem look43R {u u' : SX} {r : Int32} (g : GX12_look_0_43 u = some (r, u')) : u' = u := by
  unfold GX12_look_0_43 at g
  by_cases c1 : u.1 5 ≤ u.1 6
  · rw [if_pos c1] at g
    cases g
    rfl
  · rw [if_neg c1] at g
    by_cases c2 : u.1 2 = 2
    · rw [if_pos c2] at g
      cases (gd_some g).2
      rfl
    · rw [if_neg c2] at g
      by_cases c3 : u.1 2 = 3
      · rw [if_pos c3] at g
        cases (gd_some g).2
        rfl
      · rw [if_neg c3] at g
        cases g
theorem lookL : ∀ (n : Nat) (u u' : SX) (r : Int32), LX12_look_0_0 GX12_look_0_43 n u = some (r, u') → Kf u u' := by
  intro n
  induction n with
  | zero => intro u u' r h; cases h
  | succ n ih =>
    intro u u' r h
    have h : (if (u.1 5) ≤ (u.1 6) then (GX12_look_0_43 u) else (if u.1 2 = 2 then (gd (inb ((u.1 4) + (u.1 6)) 120) (if (u.2.1 1 ((u.1 4) + (u.1 6)).toNatClampNeg) = 32 then (lt (sI u 6 ((u.1 6) + 1)) fun u2 => ((LX12_look_0_0 GX12_look_0_43 n) u2)) else (GX12_look_0_43 u))) else (if u.1 2 = 3 then (gd (inb ((u.1 4) + (u.1 6)) 4320) (if (u.2.1 2 ((u.1 4) + (u.1 6)).toNatClampNeg) = 32 then (lt (sI u 6 ((u.1 6) + 1)) fun u5 => ((LX12_look_0_0 GX12_look_0_43 n) u5)) else (GX12_look_0_43 u))) else none))) = some (r, u') := h
    have e43 : GX12_look_0_43 u = some (r, u') → Kf u u' := fun g => by
      rw [look43R g]
      exact Kf_rf
    have nx : LX12_look_0_0 GX12_look_0_43 n (sI u 6 (u.1 6 + 1)) = some (r, u') → Kf u u' := fun g => ih (sI u 6 (u.1 6 + 1)) u' r g
    by_cases c1 : u.1 5 ≤ u.1 6
    · rw [if_pos c1] at h
      exact e43 h
    · rw [if_neg c1] at h
      by_cases c2 : u.1 2 = 2
      · rw [if_pos c2] at h
        have h := (gd_some h).2
        by_cases c4 : (u.2.1 1 ((u.1 4) + (u.1 6)).toNatClampNeg) = 32
        · rw [if_pos c4] at h
          exact nx h
        · rw [if_neg c4] at h
          exact e43 h
      · rw [if_neg c2] at h
        by_cases c3 : u.1 2 = 3
        · rw [if_pos c3] at h
          have h := (gd_some h).2
          by_cases c4 : (u.2.1 2 ((u.1 4) + (u.1 6)).toNatClampNeg) = 32
          · rw [if_pos c4] at h
            exact nx h
          · rw [if_neg c4] at h
            exact e43 h
        · rw [if_neg c3] at h
          cases h
theorem lookR {u u' : SX} {r : Int32} (h : fX12_look_0 u = some (r, u')) : Kf u u' := by
  unfold fX12_look_0 at h
  generalize (5000 : Nat) = N at h
  exact lookL N u u' r h
theorem failsR {u u' : SX} {r : Int32} (h : fX12_fails_0 u = some (r, u')) : Kf u u' := by
  unfold fX12_fails_0 at h
  by_cases c : u.1 7 = -1
  · rw [if_pos c] at h
    obtain ⟨u2, i2, h⟩ := lt_some h
    have e : u2 = u' := by cases (gd_some h).2; rfl
    rw [← e, i2]
    exact ⟨rfl, rfl⟩
  · rw [if_neg c] at h
    cases (gd_some h).2
    exact Kf_rf
theorem takes16R {u u' : SX} {r : Int32} (h : GX12_takes_0_16 u = some (r, u')) : Kf u u' := by
  unfold GX12_takes_0_16 at h
  obtain ⟨⟨r1, u2⟩, a1, h⟩ := bd_some h
  have e : u2 = u' := by cases (gd_some h).2; rfl
  rw [← e]
  exact failsR a1
theorem takesR {x r : Int32} {u u' : SX} (h : fX12_takes_0 x u = some (r, u')) : Kf u u' := by
  unfold fX12_takes_0 at h
  by_cases c : u.1 7 = -1
  · rw [if_pos c] at h
    obtain ⟨⟨r5, u6⟩, a5, h⟩ := bd_some h
    have l := lookR a5
    have h : (if r5 = x then (lt (sI u6 6 ((u6.1 6) + 1)) fun u8 => (gd (isB 1) (some (1, u8)))) else (GX12_takes_0_16 u6)) = some (r, u') := h
    by_cases d : r5 = x
    · rw [if_pos d] at h
      obtain ⟨u8, i8, h⟩ := lt_some h
      have e : u8 = u' := by cases (gd_some h).2; rfl
      rw [← e, i8]
      exact l
    · rw [if_neg d] at h
      exact (takes16R h).trans l
  · rw [if_neg c] at h
    exact takes16R h
theorem goesInR {u u' : SX} {r : Int32} (h : fX12_goesIn_0 u = some (r, u')) : Kf u u' := by
  unfold fX12_goesIn_0 at h
  by_cases c : u.1 8 = 6
  · rw [if_pos c] at h
    obtain ⟨⟨r6, u7⟩, a6, h⟩ := bd_some h
    have e : u7 = u' := by cases (gd_some h).2; rfl
    rw [← e]
    exact failsR a6
  · rw [if_neg c] at h
    obtain ⟨u1, i1, h⟩ := lt_some h
    obtain ⟨u3, i3, h⟩ := lt_some h
    have e : u3 = u' := by cases (gd_some h).2; rfl
    rw [← e, i3, i1]
    exact ⟨rfl, rfl⟩
def digB (u : SX) : Prop := (u.1 2 = 2 ∧ 48 ≤ (u.2.1 1 ((u.1 4) + (u.1 6)).toNatClampNeg).toInt ∧ (u.2.1 1 ((u.1 4) + (u.1 6)).toNatClampNeg).toInt ≤ 57) ∨ (u.1 2 = 3 ∧ 48 ≤ (u.2.1 2 ((u.1 4) + (u.1 6)).toNatClampNeg).toInt ∧ (u.2.1 2 ((u.1 4) + (u.1 6)).toNatClampNeg).toInt ≤ 57)
theorem digR {u u' : SX} {r : Int32} (h : fX12_isDigit_0 u = some (r, u')) : u' = u ∧ (¬ r = 0 → digB u) := by
  unfold fX12_isDigit_0 at h
  have z0 : gd (isB 0) (some ((0 : Int32), u)) = some (r, u') → u' = u ∧ (¬ r = 0 → digB u) := fun g => by
    have e : (0 : Int32) = r ∧ u = u' := by cases (gd_some g).2; exact ⟨rfl, rfl⟩
    exact ⟨e.2.symm, fun z => absurd e.1.symm z⟩
  by_cases c1 : u.1 5 ≤ u.1 6
  · rw [if_pos c1] at h
    exact z0 h
  · rw [if_neg c1] at h
    by_cases c2 : u.1 2 = 2
    · rw [if_pos c2] at h
      have h := (gd_some h).2
      by_cases c3 : (u.2.1 1 ((u.1 4) + (u.1 6)).toNatClampNeg) < 48
      · rw [if_pos c3] at h
        exact z0 h
      · rw [if_neg c3, if_pos c2] at h
        have h := (gd_some h).2
        by_cases c4 : 57 < (u.2.1 1 ((u.1 4) + (u.1 6)).toNatClampNeg)
        · rw [if_pos c4] at h
          exact z0 h
        · rw [if_neg c4] at h
          have e : (1 : Int32) = r ∧ u = u' := by cases (gd_some h).2; exact ⟨rfl, rfl⟩
          have c39 : ¬ (u.2.1 1 ((u.1 4) + (u.1 6)).toNatClampNeg).toInt < (48 : Int) := nltI c3
          have c49 : ¬ (57 : Int) < (u.2.1 1 ((u.1 4) + (u.1 6)).toNatClampNeg).toInt := nltI c4
          exact ⟨e.2.symm, fun _ => Or.inl ⟨c2, by omega, by omega⟩⟩
    · rw [if_neg c2] at h
      by_cases c5 : u.1 2 = 3
      · rw [if_pos c5] at h
        have h := (gd_some h).2
        by_cases c3 : (u.2.1 2 ((u.1 4) + (u.1 6)).toNatClampNeg) < 48
        · rw [if_pos c3] at h
          exact z0 h
        · rw [if_neg c3, if_neg c2, if_pos c5] at h
          have h := (gd_some h).2
          by_cases c4 : 57 < (u.2.1 2 ((u.1 4) + (u.1 6)).toNatClampNeg)
          · rw [if_pos c4] at h
            exact z0 h
          · rw [if_neg c4] at h
            have e : (1 : Int32) = r ∧ u = u' := by cases (gd_some h).2; exact ⟨rfl, rfl⟩
            have c39 : ¬ (u.2.1 2 ((u.1 4) + (u.1 6)).toNatClampNeg).toInt < (48 : Int) := nltI c3
            have c49 : ¬ (57 : Int) < (u.2.1 2 ((u.1 4) + (u.1 6)).toNatClampNeg).toInt := nltI c4
            exact ⟨e.2.symm, fun _ => Or.inr ⟨c5, by omega, by omega⟩⟩
      · rw [if_neg c5] at h
        cases h
/-- so much a number may be with so many digits -/
def cap : Nat → Int
  | 0 => 0
  | k + 1 => 10 * cap k + 9
theorem dig_v {z b : Int32} {m : Int} (h0 : 0 ≤ z.toInt) (h1 : z.toInt ≤ m) (hm : m ≤ 9999) (b0 : 48 ≤ b.toInt) (b1 : b.toInt ≤ 57) : 0 ≤ (10 * z + b - 48).toInt ∧ (10 * z + b - 48).toInt ≤ 10 * m + 9 := by
  have t10 : (10 * z).toInt = 10 * z.toInt := cmul_t (by decide) (by omega) (by omega)
  have ta : (10 * z + b).toInt = 10 * z.toInt + b.toInt := by rw [add_t (by rw [t10]; omega) (by rw [t10]; omega), t10]
  have ts : (10 * z + b - 48).toInt = 10 * z.toInt + b.toInt - 48 := by rw [subc_t (n := 48) (by decide) (by rw [ta]; omega) (by rw [ta]; omega), ta]
  rw [ts]
  omega
/-- what HB says of the grammar's three at a depth: frames and bounds -/
def HB (rc : Nat → Int32 → SX → Option (Int32 × SX)) : Prop := ∀ (t : Nat) (u u' : SX) (r : Int32), LB u → rc t 0 u = some (r, u') → Kf u u' ∧ Bw r
theorem atom97 {rc : Nat → Int32 → SX → Option (Int32 × SX)} : ∀ (n : Nat) (k : Nat) (z2 z3 r : Int32) (u u' : SX), z3.toInt = (k : Int) → k ≤ 4 → 0 ≤ z2.toInt → z2.toInt ≤ cap k → LX12_atom_0_97 rc (GX12_atom_0_117 rc) n z2 z3 u = some (r, u') → Kf u u' ∧ Bw r := by
  intro n
  induction n with
  | zero => intro k z2 z3 r u u' _ _ _ _ h; cases h
  | succ n ih =>
    intro k z2 z3 r u u' hk hk4 h0 h1 h
    have hc : cap k ≤ 9999 := by
      have : k = 0 ∨ k = 1 ∨ k = 2 ∨ k = 3 ∨ k = 4 := by omega
      rcases this with e | e | e | e | e <;> rw [e] <;> decide
    have bz : Bw z2 := ⟨by omega, by omega⟩
    obtain ⟨⟨r7, u8⟩, a7, h⟩ := bd_some h
    obtain ⟨e8, hb⟩ := digR a7
    rw [e8] at h
    have h : (if r7 = 0 then (some (z2, u)) else (if (u.1 7) = (-1) then (if z3 = 4 then (GX12_atom_0_117 rc u) else (if u.1 2 = 2 then (gd (inb ((u.1 4) + (u.1 6)) 120) (lt (((10 * z2) + (u.2.1 1 ((u.1 4) + (u.1 6)).toNatClampNeg)) - 48) fun v11 => (lt (sI u 6 ((u.1 6) + 1)) fun u13 => ((LX12_atom_0_97 rc (GX12_atom_0_117 rc) n) v11 (z3 + 1) u13)))) else (if u.1 2 = 3 then (gd (inb ((u.1 4) + (u.1 6)) 4320) (lt (((10 * z2) + (u.2.1 2 ((u.1 4) + (u.1 6)).toNatClampNeg)) - 48) fun v16 => (lt (sI u 6 ((u.1 6) + 1)) fun u18 => ((LX12_atom_0_97 rc (GX12_atom_0_117 rc) n) v16 (z3 + 1) u18)))) else none))) else (some (z2, u)))) = some (r, u') := h
    have stop : some (z2, u) = some (r, u') → Kf u u' ∧ Bw r := fun g => by
      have e : z2 = r ∧ u = u' := by cases g; exact ⟨rfl, rfl⟩
      rw [← e.1, ← e.2]
      exact ⟨Kf_rf, bz⟩
    by_cases c7 : r7 = 0
    · rw [if_pos c7] at h
      exact stop h
    · rw [if_neg c7] at h
      have hb := hb c7
      by_cases cf : u.1 7 = -1
      · rw [if_pos cf] at h
        by_cases c4 : z3 = 4
        · rw [if_pos c4] at h
          unfold GX12_atom_0_117 at h
          obtain ⟨⟨r20, u21⟩, a20, h⟩ := bd_some h
          have e : (0 : Int32) = r ∧ u21 = u' := by cases h; exact ⟨rfl, rfl⟩
          rw [← e.1, ← e.2]
          exact ⟨failsR a20, Bw_0⟩
        · rw [if_neg c4] at h
          have c49 : ¬ z3.toInt = (4 : Int) := neI c4
          have t3 : (z3 + 1).toInt = ((k + 1 : Nat) : Int) := by
            rw [addc_t (n := 1) (by decide) (by omega) (by omega)]
            omega
          by_cases c2 : u.1 2 = 2
          · rw [if_pos c2] at h
            have h := (gd_some h).2
            obtain ⟨v11, i11, h⟩ := lt_some h
            obtain ⟨u13, i13, h⟩ := lt_some h
            have hd : 48 ≤ (u.2.1 1 ((u.1 4) + (u.1 6)).toNatClampNeg).toInt ∧ (u.2.1 1 ((u.1 4) + (u.1 6)).toNatClampNeg).toInt ≤ 57 := by
              rcases hb with ⟨-, q⟩ | ⟨q, -⟩
              · exact q
              · rw [c2] at q
                exact absurd q (by decide)
            have w := dig_v h0 h1 hc hd.1 hd.2
            rw [← i11] at w
            obtain ⟨q1, q2⟩ := ih (k + 1) v11 (z3 + 1) r u13 u' t3 (by omega) w.1 w.2 h
            rw [i13] at q1
            exact ⟨q1, q2⟩
          · rw [if_neg c2] at h
            by_cases c5 : u.1 2 = 3
            · rw [if_pos c5] at h
              have h := (gd_some h).2
              obtain ⟨v11, i11, h⟩ := lt_some h
              obtain ⟨u13, i13, h⟩ := lt_some h
              have hd : 48 ≤ (u.2.1 2 ((u.1 4) + (u.1 6)).toNatClampNeg).toInt ∧ (u.2.1 2 ((u.1 4) + (u.1 6)).toNatClampNeg).toInt ≤ 57 := by
                rcases hb with ⟨q, -⟩ | ⟨-, q⟩
                · exact absurd q c2
                · exact q
              have w := dig_v h0 h1 hc hd.1 hd.2
              rw [← i11] at w
              obtain ⟨q1, q2⟩ := ih (k + 1) v11 (z3 + 1) r u13 u' t3 (by omega) w.1 w.2 h
              rw [i13] at q1
              exact ⟨q1, q2⟩
            · rw [if_neg c5] at h
              cases h
      · rw [if_neg cf] at h
        exact stop h
theorem atom93 {rc : Nat → Int32 → SX → Option (Int32 × SX)} {r : Int32} {u u' : SX} (h : GX12_atom_0_93 rc u = some (r, u')) : Kf u u' ∧ Bw r := by
  unfold GX12_atom_0_93 at h
  generalize (5000 : Nat) = N at h
  exact atom97 N 0 0 0 r u u' (by decide) (by decide) (by decide) (by decide) h
theorem atom38 {rc : Nat → Int32 → SX → Option (Int32 × SX)} (H : HB rc) {z1 r : Int32} {u u' : SX} (hL : LB u) (h : GX12_atom_0_38 rc z1 u = some (r, u')) : Kf u u' ∧ Bw r := by
  unfold GX12_atom_0_38 at h
  by_cases c : z1 = 91
  · rw [if_pos c] at h
    obtain ⟨⟨r26, u27⟩, a26, h⟩ := bd_some h
    have e27 := goesInR a26
    have h : (if r26 = 0 then (some (0, u27)) else ((rc 0  0 u27).bind fun q => match q with | (r29, u30) => ((fX12_takes_0 93 u30).bind fun q => match q with | (r32, u33) => (if r32 = 0 then (some (0, u33)) else (lt (sI u33 8 ((u33.1 8) - 1)) fun u35 => (some (r29, u35))))))) = some (r, u') := h
    by_cases c26 : r26 = 0
    · rw [if_pos c26] at h
      have e : (0 : Int32) = r ∧ u27 = u' := by cases h; exact ⟨rfl, rfl⟩
      rw [← e.1, ← e.2]
      exact ⟨e27, Bw_0⟩
    · rw [if_neg c26] at h
      obtain ⟨⟨r29, u30⟩, a29, h⟩ := bd_some h
      obtain ⟨e30, b29⟩ := H 0 u27 u30 r29 (LB_r e27 hL) a29
      obtain ⟨⟨r32, u33⟩, a32, h⟩ := bd_some h
      have e33 := takesR a32
      have h : (if r32 = 0 then (some (0, u33)) else (lt (sI u33 8 ((u33.1 8) - 1)) fun u35 => (some (r29, u35)))) = some (r, u') := h
      by_cases c32 : r32 = 0
      · rw [if_pos c32] at h
        have e : (0 : Int32) = r ∧ u33 = u' := by cases h; exact ⟨rfl, rfl⟩
        rw [← e.1, ← e.2]
        exact ⟨(e33.trans e30).trans e27, Bw_0⟩
      · rw [if_neg c32] at h
        obtain ⟨u35, i35, h⟩ := lt_some h
        have e : r29 = r ∧ u35 = u' := by cases h; exact ⟨rfl, rfl⟩
        rw [← e.1, ← e.2, i35]
        exact ⟨(e33.trans e30).trans e27, b29⟩
  · rw [if_neg c] at h
    obtain ⟨⟨r4, u5⟩, a4, h⟩ := bd_some h
    obtain ⟨e5, -⟩ := digR a4
    rw [e5] at h
    have h : (if r4 = 0 then ((fX12_fails_0  u).bind fun q => match q with | (r23, u24) => (GX12_atom_0_93 rc u24)) else (GX12_atom_0_93 rc u)) = some (r, u') := h
    by_cases c4 : r4 = 0
    · rw [if_pos c4] at h
      obtain ⟨⟨r23, u24⟩, a23, h⟩ := bd_some h
      obtain ⟨q1, q2⟩ := atom93 h
      exact ⟨q1.trans (failsR a23), q2⟩
    · rw [if_neg c4] at h
      exact atom93 h
theorem atomB {rc : Nat → Int32 → SX → Option (Int32 × SX)} (H : HB rc) {r : Int32} {u u' : SX} (hL : LB u) (h : fX12_atom_0 rc u = some (r, u')) : Kf u u' ∧ Bw r := by
  unfold fX12_atom_0 at h
  obtain ⟨⟨r1, u2⟩, a1, h⟩ := bd_some h
  have e2 := lookR a1
  have L2 := LB_r e2 hL
  have a38 : GX12_atom_0_38 rc r1 u2 = some (r, u') → Kf u u' ∧ Bw r := fun g => by
    obtain ⟨q1, q2⟩ := atom38 H L2 g
    exact ⟨q1.trans e2, q2⟩
  have letq : lt (sI u2 6 ((u2.1 6) + 1)) (fun u40 => (gd (inb r1 128) (some (u40.2.1 5 r1.toNatClampNeg, u40)))) = some (r, u') → Kf u u' ∧ Bw r := fun g => by
    obtain ⟨u40, i40, g⟩ := lt_some g
    obtain ⟨hb, g⟩ := gd_some g
    have e : u40.2.1 5 r1.toNatClampNeg = r ∧ u40 = u' := by cases g; exact ⟨rfl, rfl⟩
    rw [← e.1, ← e.2, i40]
    refine ⟨e2, L2 _ ?_⟩
    have hn : ¬ (r1 < 0 ∨ 128 ≤ r1.toNatClampNeg) := inb_in hb
    exact Nat.lt_of_not_le (fun z => hn (Or.inr z))
  have h : (if r1 = (-1) then (GX12_atom_0_38 rc r1 u2) else (if u2.1 10 = 5 then ((fJ0_indexOf_0f7a4_s4 r1).bind fun r37 => (if r37 < 0 then (GX12_atom_0_38 rc r1 u2) else (lt (sI u2 6 ((u2.1 6) + 1)) fun u40 => (gd (inb r1 128) (some (u40.2.1 5 r1.toNatClampNeg, u40)))))) else (if u2.1 10 = 6 then ((fJ0_indexOf_0f7a4_s5 r1).bind fun r43 => (if r43 < 0 then (GX12_atom_0_38 rc r1 u2) else (lt (sI u2 6 ((u2.1 6) + 1)) fun u46 => (gd (inb r1 128) (some (u46.2.1 5 r1.toNatClampNeg, u46)))))) else (if u2.1 10 = 7 then ((fJ0_indexOf_0f7a4_s6 r1).bind fun r49 => (if r49 < 0 then (GX12_atom_0_38 rc r1 u2) else (lt (sI u2 6 ((u2.1 6) + 1)) fun u52 => (gd (inb r1 128) (some (u52.2.1 5 r1.toNatClampNeg, u52)))))) else none)))) = some (r, u') := h
  by_cases c1 : r1 = -1
  · rw [if_pos c1] at h
    exact a38 h
  · rw [if_neg c1] at h
    by_cases c5 : u2.1 10 = 5
    · rw [if_pos c5] at h
      obtain ⟨r37, -, h⟩ := bd_some h
      by_cases c : r37 < 0
      · rw [if_pos c] at h
        exact a38 h
      · rw [if_neg c] at h
        exact letq h
    · rw [if_neg c5] at h
      by_cases c6 : u2.1 10 = 6
      · rw [if_pos c6] at h
        obtain ⟨r37, -, h⟩ := bd_some h
        by_cases c : r37 < 0
        · rw [if_pos c] at h
          exact a38 h
        · rw [if_neg c] at h
          exact letq h
      · rw [if_neg c6] at h
        by_cases c7 : u2.1 10 = 7
        · rw [if_pos c7] at h
          obtain ⟨r37, -, h⟩ := bd_some h
          by_cases c : r37 < 0
          · rw [if_pos c] at h
            exact a38 h
          · rw [if_neg c] at h
            exact letq h
        · rw [if_neg c7] at h
          cases h
theorem term5 {rc : Nat → Int32 → SX → Option (Int32 × SX)} (H : HB rc) : ∀ (n : Nat) (z1 r : Int32) (u u' : SX), LB u → Bw z1 → LX12_term_0_5 rc n z1 u = some (r, u') → Kf u u' ∧ Bw r := by
  intro n
  induction n with
  | zero => intro z1 r u u' _ _ h; cases h
  | succ n ih =>
    intro z1 r u u' hL hz h
    have h : (if (u.1 7) = (-1) then ((fX12_look_0  u).bind fun q => match q with | (r4, u5) => (if r4 = 42 then (GX12_term_0_31 rc (LX12_term_0_5 rc n) z1 u5) else ((fX12_look_0  u5).bind fun q => match q with | (r21, u22) => (if r21 = 47 then (GX12_term_0_31 rc (LX12_term_0_5 rc n) z1 u22) else (some (z1, u22)))))) else (some (z1, u))) = some (r, u') := h
    have stop : ∀ w : SX, Kf u w → some (z1, w) = some (r, u') → Kf u u' ∧ Bw r := fun w hw g => by
      have e : z1 = r ∧ w = u' := by cases g; exact ⟨rfl, rfl⟩
      rw [← e.1, ← e.2]
      exact ⟨hw, hz⟩
    have f87 : ∀ (y0 : Int64) (w : SX), Kf u w → GX12_term_0_87 rc (LX12_term_0_5 rc n) y0 w = some (r, u') → Kf u u' ∧ Bw r := fun y0 w hw g => by
      unfold GX12_term_0_87 at g
      obtain ⟨r18, a18, g⟩ := bd_some g
      obtain ⟨q1, q2⟩ := ih r18 r w u' (LB_r hw hL) (withinB a18) g
      exact ⟨q1.trans hw, q2⟩
    have f45 : ∀ (y0 : Int32) (w : SX), Kf u w → GX12_term_0_45 rc (LX12_term_0_5 rc n) z1 y0 w = some (r, u') → Kf u u' ∧ Bw r := fun y0 w hw g => by
      unfold GX12_term_0_45 at g
      obtain ⟨u10, i10, g⟩ := lt_some g
      have e10 : Kf u u10 := by rw [i10]; exact hw
      obtain ⟨⟨r12, u13⟩, a12, g⟩ := bd_some g
      obtain ⟨e13, -⟩ := H 2 u10 u13 r12 (LB_r e10 hL) a12
      obtain ⟨v15, i15, g⟩ := lt_some g
      have e13 := e13.trans e10
      by_cases c : y0 = 0
      · rw [if_pos c] at g
        by_cases d : lg_cmp v15 0 = 0
        · rw [if_pos d] at g
          exact f87 _ _ e13 g
        · rw [if_neg d] at g
          exact f87 _ _ e13 (gd_some g).2
      · rw [if_neg c] at g
        exact f87 _ _ e13 g
    have f31 : ∀ w : SX, Kf u w → GX12_term_0_31 rc (LX12_term_0_5 rc n) z1 w = some (r, u') → Kf u u' ∧ Bw r := fun w hw g => by
      unfold GX12_term_0_31 at g
      obtain ⟨⟨r7, u8⟩, a7, g⟩ := bd_some g
      have e8 := (lookR a7).trans hw
      have g : (if r7 = 42 then (GX12_term_0_45 rc (LX12_term_0_5 rc n) z1 1 u8) else (GX12_term_0_45 rc (LX12_term_0_5 rc n) z1 0 u8)) = some (r, u') := g
      by_cases c : r7 = 42
      · rw [if_pos c] at g
        exact f45 _ _ e8 g
      · rw [if_neg c] at g
        exact f45 _ _ e8 g
    by_cases c : u.1 7 = -1
    · rw [if_pos c] at h
      obtain ⟨⟨r4, u5⟩, a4, h⟩ := bd_some h
      have e5 := lookR a4
      have h : (if r4 = 42 then (GX12_term_0_31 rc (LX12_term_0_5 rc n) z1 u5) else ((fX12_look_0  u5).bind fun q => match q with | (r21, u22) => (if r21 = 47 then (GX12_term_0_31 rc (LX12_term_0_5 rc n) z1 u22) else (some (z1, u22))))) = some (r, u') := h
      by_cases c4 : r4 = 42
      · rw [if_pos c4] at h
        exact f31 u5 e5 h
      · rw [if_neg c4] at h
        obtain ⟨⟨r21, u22⟩, a21, h⟩ := bd_some h
        have e22 := (lookR a21).trans e5
        have h : (if r21 = 47 then (GX12_term_0_31 rc (LX12_term_0_5 rc n) z1 u22) else (some (z1, u22))) = some (r, u') := h
        by_cases c21 : r21 = 47
        · rw [if_pos c21] at h
          exact f31 u22 e22 h
        · rw [if_neg c21] at h
          exact stop u22 e22 h
    · rw [if_neg c] at h
      exact stop u Kf_rf h
theorem sum5 {rc : Nat → Int32 → SX → Option (Int32 × SX)} (H : HB rc) : ∀ (n : Nat) (z1 r : Int32) (u u' : SX), LB u → Bw z1 → LX12_sum_0_5 rc n z1 u = some (r, u') → Kf u u' ∧ Bw r := by
  intro n
  induction n with
  | zero => intro z1 r u u' _ _ h; cases h
  | succ n ih =>
    intro z1 r u u' hL hz h
    have h : (if (u.1 7) = (-1) then ((fX12_look_0  u).bind fun q => match q with | (r4, u5) => (if r4 = 43 then (GX12_sum_0_31 rc (LX12_sum_0_5 rc n) z1 u5) else ((fX12_look_0  u5).bind fun q => match q with | (r20, u21) => (if r20 = 45 then (GX12_sum_0_31 rc (LX12_sum_0_5 rc n) z1 u21) else (some (z1, u21)))))) else (some (z1, u))) = some (r, u') := h
    have stop : ∀ w : SX, Kf u w → some (z1, w) = some (r, u') → Kf u u' ∧ Bw r := fun w hw g => by
      have e : z1 = r ∧ w = u' := by cases g; exact ⟨rfl, rfl⟩
      rw [← e.1, ← e.2]
      exact ⟨hw, hz⟩
    have f77 : ∀ (y0 : Int64) (w : SX), Kf u w → GX12_sum_0_77 rc (LX12_sum_0_5 rc n) y0 w = some (r, u') → Kf u u' ∧ Bw r := fun y0 w hw g => by
      unfold GX12_sum_0_77 at g
      obtain ⟨r18, a18, g⟩ := bd_some g
      obtain ⟨q1, q2⟩ := ih r18 r w u' (LB_r hw hL) (withinB a18) g
      exact ⟨q1.trans hw, q2⟩
    have f45 : ∀ (y0 : Int32) (w : SX), Kf u w → GX12_sum_0_45 rc (LX12_sum_0_5 rc n) z1 y0 w = some (r, u') → Kf u u' ∧ Bw r := fun y0 w hw g => by
      unfold GX12_sum_0_45 at g
      obtain ⟨u10, i10, g⟩ := lt_some g
      have e10 : Kf u u10 := by rw [i10]; exact hw
      obtain ⟨⟨r12, u13⟩, a12, g⟩ := bd_some g
      obtain ⟨e13, -⟩ := H 1 u10 u13 r12 (LB_r e10 hL) a12
      obtain ⟨v15, i15, g⟩ := lt_some g
      have e13 := e13.trans e10
      by_cases c : y0 = 0
      · rw [if_pos c] at g
        exact f77 _ _ e13 g
      · rw [if_neg c] at g
        exact f77 _ _ e13 g
    have f31 : ∀ w : SX, Kf u w → GX12_sum_0_31 rc (LX12_sum_0_5 rc n) z1 w = some (r, u') → Kf u u' ∧ Bw r := fun w hw g => by
      unfold GX12_sum_0_31 at g
      obtain ⟨⟨r7, u8⟩, a7, g⟩ := bd_some g
      have e8 := (lookR a7).trans hw
      have g : (if r7 = 43 then (GX12_sum_0_45 rc (LX12_sum_0_5 rc n) z1 1 u8) else (GX12_sum_0_45 rc (LX12_sum_0_5 rc n) z1 0 u8)) = some (r, u') := g
      by_cases c : r7 = 43
      · rw [if_pos c] at g
        exact f45 _ _ e8 g
      · rw [if_neg c] at g
        exact f45 _ _ e8 g
    by_cases c : u.1 7 = -1
    · rw [if_pos c] at h
      obtain ⟨⟨r4, u5⟩, a4, h⟩ := bd_some h
      have e5 := lookR a4
      have h : (if r4 = 43 then (GX12_sum_0_31 rc (LX12_sum_0_5 rc n) z1 u5) else ((fX12_look_0  u5).bind fun q => match q with | (r20, u21) => (if r20 = 45 then (GX12_sum_0_31 rc (LX12_sum_0_5 rc n) z1 u21) else (some (z1, u21))))) = some (r, u') := h
      by_cases c4 : r4 = 43
      · rw [if_pos c4] at h
        exact f31 u5 e5 h
      · rw [if_neg c4] at h
        obtain ⟨⟨r20, u21⟩, a20, h⟩ := bd_some h
        have e21 := (lookR a20).trans e5
        have h : (if r20 = 45 then (GX12_sum_0_31 rc (LX12_sum_0_5 rc n) z1 u21) else (some (z1, u21))) = some (r, u') := h
        by_cases c20 : r20 = 45
        · rw [if_pos c20] at h
          exact f31 u21 e21 h
        · rw [if_neg c20] at h
          exact stop u21 e21 h
    · rw [if_neg c] at h
      exact stop u Kf_rf h
theorem HB_all : ∀ d : Nat, HB (rX12sumg d) := by
  intro d
  induction d with
  | zero => intro t u u' r _ h; cases h
  | succ d ih =>
    intro t u u' r hL h
    rw [rX12sumg] at h
    by_cases c0 : t = 0
    · rw [if_pos c0] at h
      unfold fX12_sum_0 at h
      obtain ⟨⟨r1, u2⟩, a1, h⟩ := bd_some h
      obtain ⟨e2, b2⟩ := ih 1 u u2 r1 hL a1
      have h : LX12_sum_0_5 (rX12sumg d) 5000 r1 u2 = some (r, u') := h
      generalize (5000 : Nat) = N at h
      obtain ⟨q1, q2⟩ := sum5 ih N r1 r u2 u' (LB_r e2 hL) b2 h
      exact ⟨q1.trans e2, q2⟩
    · rw [if_neg c0] at h
      by_cases c1 : t = 1
      · rw [if_pos c1] at h
        unfold fX12_term_0 at h
        obtain ⟨⟨r1, u2⟩, a1, h⟩ := bd_some h
        obtain ⟨e2, b2⟩ := ih 2 u u2 r1 hL a1
        have h : LX12_term_0_5 (rX12sumg d) 5000 r1 u2 = some (r, u') := h
        generalize (5000 : Nat) = N at h
        obtain ⟨q1, q2⟩ := term5 ih N r1 r u2 u' (LB_r e2 hL) b2 h
        exact ⟨q1.trans e2, q2⟩
      · rw [if_neg c1] at h
        by_cases c2 : t = 2
        · rw [if_pos c2] at h
          exact atomB ih hL h
        · rw [if_neg c2] at h
          cases h
