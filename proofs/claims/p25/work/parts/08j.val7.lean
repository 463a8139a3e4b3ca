/-! What a text says: the class plays its code. -/
def STK (row : Nat → Int32) : List Int32 → Prop
  | [] => True
  | x :: t => row t.length = x ∧ STK row t
theorem STK_upd {row : Nat → Int32} {k : Nat} {x : Int32} : ∀ s : List Int32, s.length ≤ k → STK row s → STK (upd row k x) s := by
  intro s
  induction s with
  | nil => intro _ _; trivial
  | cons y t ih =>
    intro h hs
    have h : t.length + 1 ≤ k := h
    obtain ⟨h1, h2⟩ := hs
    exact ⟨by rw [upd_ne (by omega)]; exact h1, ih (by omega) h2⟩
theorem nn1 {z : Int32} (h : z.toInt = 1) : (z - 1).toNatClampNeg = 0 := by
  have e1 : (z - 1).toInt = z.toInt - 1 := subc_t (by decide) (by omega) (by omega)
  show (z - 1).toInt.toNat = 0
  omega
theorem nn1' {z : Int32} (h : z.toInt = 1) : (z + (-1)).toNatClampNeg = 0 ∧ (z + (-1)).toInt = 0 := by
  have e1 : (z + (-1)).toInt = z.toInt + (-1) := addc_t (by decide) (by omega) (by omega)
  refine ⟨?_, by omega⟩
  show (z + (-1)).toInt.toNat = 0
  omega
theorem nn2 {z : Int32} {n : Nat} (h : z.toInt = ((n + 1 + 1 : Nat) : Int)) (hb : n ≤ 200) : (z + (-1)).toInt = ((n + 1 : Nat) : Int) ∧ (z + (-1)).toNatClampNeg = n + 1 ∧ ((z + (-1)) - 1).toNatClampNeg = n := by
  have e1 : (z + (-1)).toInt = z.toInt + (-1) := addc_t (by decide) (by omega) (by omega)
  generalize z + (-1) = y at e1 ⊢
  have y1 : y.toInt = ((n + 1 : Nat) : Int) := by omega
  have e2 : (y - 1).toInt = y.toInt - 1 := subc_t (by decide) (by omega) (by omega)
  refine ⟨y1, ?_, ?_⟩
  · show y.toInt.toNat = n + 1
    omega
  · show (y - 1).toInt.toNat = n
    omega
def SMk (K : Nat) (u w : SX) : Prop := w.1 = u.1 ∧ (∀ j, Nat.beq j K = false → w.2.1 j = u.2.1 j) ∧ w.2.2 = u.2.2
theorem SMk_tr {K : Nat} {u w x : SX} (h1 : SMk K u w) (h2 : SMk K w x) : SMk K u x := ⟨h2.1.trans h1.1, fun j hj => (h2.2.1 j hj).trans (h1.2.1 j hj), h2.2.2.trans h1.2.2⟩
theorem SMk_sA {K : Nat} {u : SX} {f : Nat → Int32} : SMk K u (sA u K f) := ⟨rfl, fun j hj => by
  show (bif Nat.beq j K then f else u.2.1 j) = u.2.1 j
  rw [hj]
  rfl, rfl⟩
theorem noG {ρ f : Nat → Int32} {N : Int32} : ∀ (n a : Nat) (s t : List Int32), exC ρ N f n a s = some t → ∀ i, a ≤ i → i < a + n → ¬ f i &&& 255 = 59 := by
  intro n
  induction n with
  | zero => intro a s t _ i h1 h2; omega
  | succ n ih =>
    intro a s t h i h1 h2
    obtain ⟨s1, e1, e2⟩ := bd_some (show (exW ρ N (f a) s).bind (fun t => exC ρ N f n (a + 1) t) = some t from h)
    by_cases c : i = a
    · rw [c]
      intro z
      unfold exW at e1
      rw [if_pos z] at e1
      cases e1
    · exact ih (a + 1) s1 t e2 i (by omega) (by omega)
theorem stepW0 {ρ : Nat → Int32} {x0 a m : Nat} {z3 z5 r : Int32} {s t : List Int32} {u u' : SX} (hx : exW ρ 6 (tC u x0 a) s = some t) (hρ : ∀ j : Nat, (j : Int) < 6 → ρ j = u.2.1 16 j) (hK : STK (u.2.1 17) s) (h3 : z3.toInt = (s.length : Int)) (h5 : z5.toInt = (a : Int)) (hs : s.length ≤ a) (ha : a < tL u x0) (hl : tL u x0 ≤ 120) (h : LX10_worthBy_T_a16_a17_8 (m + 1) x0 z3 0 z5 u = some (r, u')) : ∃ (w : SX) (z : Int32), LX10_worthBy_T_a16_a17_8 m x0 z 0 (z5 + 1) w = some (r, u') ∧ z.toInt = (t.length : Int) ∧ STK (w.2.1 17) t ∧ SMk 17 u w ∧ t.length ≤ a + 1 := by
  rw [LX10_worthBy_T_a16_a17_8] at h
  have e5 : z5.toNatClampNeg = a := by
    show z5.toInt.toNat = a
    omega
  have eL : (Int32.ofNat (tL u x0)).toInt = (tL u x0 : Int) := Int32.toInt_ofNat_of_lt (by omega)
  obtain ⟨-, h⟩ := gd_some h
  obtain ⟨-, h⟩ := gd_some h
  rw [if_neg (fun z => by have := leI z; rw [eL] at this; omega)] at h
  obtain ⟨-, h⟩ := gd_some h
  obtain ⟨-, h⟩ := gd_some h
  obtain ⟨-, h⟩ := gd_some h
  obtain ⟨v6, e6, h⟩ := lt_some h
  obtain ⟨-, h⟩ := gd_some h
  obtain ⟨-, h⟩ := gd_some h
  obtain ⟨-, h⟩ := gd_some h
  obtain ⟨v11, e11, h⟩ := lt_some h
  rw [if_pos rfl] at h
  rw [e5] at e6 e11
  unfold exW at hx
  rw [← e6, ← e11] at hx
  have e31 : (z3 + 1).toInt = z3.toInt + 1 := addc_t (by decide) (by omega) (by omega)
  have n59 : ¬ v6 = 59 := fun z => by
    rw [if_pos z] at hx
    cases hx
  rw [if_neg n59] at hx
  have n63 : ¬ v6 = 63 := fun z => by
    rw [if_pos z] at hx
    cases hx
  rw [if_neg n63] at hx
  have push : ∀ y : Int32, GX10_worthBy_T_a16_a17_119 (LX10_worthBy_T_a16_a17_8 m) x0 z3 0 z5 y z3 u = some (r, u') → ∃ (w : SX) (z : Int32), LX10_worthBy_T_a16_a17_8 m x0 z 0 (z5 + 1) w = some (r, u') ∧ z.toInt = ((y :: s).length : Int) ∧ STK (w.2.1 17) (y :: s) ∧ SMk 17 u w ∧ (y :: s).length ≤ a + 1 := fun y g => by
    unfold GX10_worthBy_T_a16_a17_119 at g
    obtain ⟨-, g⟩ := gd_some g
    obtain ⟨u15, e15, g⟩ := lt_some g
    unfold GX10_worthBy_T_a16_a17_227 at g
    have e3 : z3.toNatClampNeg = s.length := by
      show z3.toInt.toNat = s.length
      omega
    rw [e3] at e15
    refine ⟨u15, z3 + 1, g, ?_, ?_, by rw [e15]; exact SMk_sA, ?_⟩
    · show _ = ((s.length + 1 : Nat) : Int)
      omega
    · have k : u15.2.1 17 = upd (u.2.1 17) s.length y := by rw [e15]; rfl
      rw [k]
      exact ⟨upd_at, STK_upd s (Nat.le_refl _) hK⟩
    · show s.length + 1 ≤ a + 1
      omega
  have n120 : ¬ 120 ≤ z3 := fun z => by
    have z9 : (120 : Int) ≤ z3.toInt := leI z
    omega
  by_cases c48 : v6 = 48
  · rw [if_pos c48] at h hx
    have et : v11 :: s = t := Option.some.inj hx
    unfold GX10_worthBy_T_a16_a17_79 at h
    rw [if_neg n120, if_neg (by rw [c48]; decide)] at h
    unfold GX10_worthBy_T_a16_a17_101 at h
    rw [if_pos c48] at h
    rw [← et]
    exact push v11 h
  · rw [if_neg c48] at h hx
    by_cases c121 : v6 = 121
    · rw [if_pos c121] at h hx
      have nneg : ¬ v11 < 0 := fun z => by
        rw [if_pos z] at hx
        cases hx
      rw [if_neg nneg] at hx
      have nN : v11 < 6 := by
        by_cases z : v11 < 6
        · exact z
        · rw [if_neg z] at hx
          cases hx
      rw [if_pos nN] at hx
      have et : ρ v11.toNatClampNeg :: s = t := Option.some.inj hx
      unfold GX10_worthBy_T_a16_a17_79 at h
      rw [if_neg n120, if_pos c121, if_pos nN] at h
      unfold GX10_worthBy_T_a16_a17_101 at h
      rw [if_neg c48] at h
      obtain ⟨-, h⟩ := gd_some h
      have m0 : ¬ v11.toInt < (0 : Int) := nltI nneg
      have m1 : v11.toInt < (6 : Int) := ltI nN
      rw [← et, hρ v11.toNatClampNeg (by show ((v11.toInt.toNat : Nat) : Int) < _; omega)]
      exact push _ h
    · rw [if_neg c121] at h hx
      cases s with
      | nil => cases hx
      | cons x s1 =>
        have h3 : z3.toInt = ((s1.length + 1 : Nat) : Int) := h3
        have hs : s1.length + 1 ≤ a := hs
        obtain ⟨kx, hK1⟩ := hK
        rw [exU_c] at hx
        have em1 : (z3 - 1).toInt = z3.toInt - 1 := subc_t (by decide) (by omega) (by omega)
        have en1 : (z3 - 1).toNatClampNeg = s1.length := by
          show (z3 - 1).toInt.toNat = s1.length
          omega
        rw [if_pos (by exact Int32.le_iff_toInt_le.mpr (show (1 : Int) ≤ z3.toInt by omega)), if_neg n59, if_neg n63] at h
        by_cases c33 : v6 = 33
        · rw [if_pos c33] at hx
          rw [if_pos c33] at h
          obtain ⟨-, h⟩ := gd_some h
          obtain ⟨-, h⟩ := gd_some h
          obtain ⟨u30, e30, h⟩ := lt_some h
          unfold GX10_worthBy_T_a16_a17_227 at h
          have et : (1 - x) :: s1 = t := Option.some.inj hx
          rw [en1, kx] at e30
          have k : u30.2.1 17 = upd (u.2.1 17) s1.length (1 - x) := by rw [e30]; rfl
          rw [← et]
          refine ⟨u30, z3, h, h3, ?_, by rw [e30]; exact SMk_sA, by show s1.length + 1 ≤ a + 1; omega⟩
          rw [k]
          exact ⟨upd_at, STK_upd s1 (Nat.le_refl _) hK1⟩
        · rw [if_neg c33] at h
          rw [if_neg c33] at hx
          cases s1 with
          | nil => cases hx
          | cons y s2 =>
            rw [exB_c] at hx
            have h3 : z3.toInt = ((s2.length + 1 + 1 : Nat) : Int) := h3
            have hs : s2.length + 1 + 1 ≤ a := hs
            obtain ⟨ky, hK2⟩ := hK1
            have kx : u.2.1 17 (s2.length + 1) = x := kx
            rw [if_pos (by exact Int32.le_iff_toInt_le.mpr (show (2 : Int) ≤ z3.toInt by omega))] at h
            have hlen : s2.length + 1 ≤ a + 1 := by omega
            obtain ⟨f1, f2, f3⟩ := nn2 (z := z3) (n := s2.length) h3 (by omega)
            simp only [f2, f3, ky, kx] at h
            clear f2 f3
            obtain ⟨-, h⟩ := gd_some h
            obtain ⟨-, h⟩ := gd_some h
            obtain ⟨r19, a19, h⟩ := bd_some h
            obtain ⟨r22, a22, h⟩ := bd_some h
            obtain ⟨-, h⟩ := gd_some h
            obtain ⟨u26, e26, h⟩ := lt_some h
            unfold GX10_worthBy_T_a16_a17_227 at h
            rw [a19] at hx
            have hx : ((fX10_bounded r19).bind fun b => some (b :: s2)) = some t := hx
            rw [a22] at hx
            have et : r22 :: s2 = t := Option.some.inj hx
            have k : u26.2.1 17 = upd (u.2.1 17) s2.length r22 := by rw [e26]; rfl
            rw [← et]
            refine ⟨u26, z3 + (-1), h, ?_, ?_, by rw [e26]; exact SMk_sA, hlen⟩
            · exact f1
            · rw [k]
              exact ⟨upd_at, STK_upd s2 (Nat.le_refl _) hK2⟩
theorem simC0 {ρ : Nat → Int32} {x0 : Nat} {r : Int32} {u' : SX} : ∀ (n m a : Nat) (s t : List Int32) (z3 z5 : Int32) (u : SX), exC ρ 6 (tC u x0) n a s = some t → (∀ j : Nat, (j : Int) < 6 → ρ j = u.2.1 16 j) → STK (u.2.1 17) s → z3.toInt = (s.length : Int) → z5.toInt = (a : Int) → s.length ≤ a → a + n ≤ tL u x0 → tL u x0 ≤ 120 → LX10_worthBy_T_a16_a17_8 m x0 z3 0 z5 u = some (r, u') → ∃ (m' : Nat) (w : SX) (z z' : Int32), LX10_worthBy_T_a16_a17_8 m' x0 z 0 z' w = some (r, u') ∧ z.toInt = (t.length : Int) ∧ z'.toInt = ((a + n : Nat) : Int) ∧ STK (w.2.1 17) t ∧ SMk 17 u w ∧ t.length ≤ a + n := by
  intro n
  induction n with
  | zero =>
    intro m a s t z3 z5 u hx _ hK h3 h5 hs _ _ h
    have et : s = t := Option.some.inj hx
    rw [← et]
    exact ⟨m, u, z3, z5, h, h3, h5, hK, ⟨rfl, fun _ _ => rfl, rfl⟩, hs⟩
  | succ n ih =>
    intro m a s t z3 z5 u hx hρ hK h3 h5 hs ha hl h
    obtain ⟨s1, e1, e2⟩ := bd_some (show (exW ρ 6 (tC u x0 a) s).bind (fun t => exC ρ 6 (tC u x0) n (a + 1) t) = some t from hx)
    cases m with
    | zero => cases h
    | succ m =>
      obtain ⟨w, z, g1, g2, g3, g4, g5⟩ := stepW0 e1 hρ hK h3 h5 hs (by omega) hl h
      have e51 : (z5 + 1).toInt = z5.toInt + 1 := addc_t (by decide) (by omega) (by omega)
      have tc : tC w x0 = tC u x0 := by
        unfold tC
        rw [g4.2.2]
      have tl : tL w x0 = tL u x0 := by
        unfold tL
        rw [g4.2.2]
      obtain ⟨m', w', z', z'', q1, q2, q3, q4, q5, q6⟩ := ih m (a + 1) s1 t z (z5 + 1) w (by rw [tc]; exact e2) (fun j hj => by rw [g4.2.1 16 rfl]; exact hρ j hj) g3 g2 (by omega) g5 (by rw [tl]; omega) (by rw [tl]; exact hl) g1
      exact ⟨m', w', z', z'', q1, q2, by rw [q3]; show ((a + 1 + n : Nat) : Int) = ((a + (n + 1) : Nat) : Int); omega, q4, SMk_tr g4 q5, by omega⟩
theorem skipG0 {x0 : Nat} {r : Int32} {u u' : SX} (hl : tL u x0 ≤ 120) : ∀ (n m a : Nat) (z3 z5 : Int32), (∀ i, a ≤ i → i < a + n → ¬ tC u x0 i &&& 255 = 59) → tC u x0 (a + n) &&& 255 = 59 → z5.toInt = (a : Int) → a + n < tL u x0 → LX10_worthBy_T_a16_a17_8 m x0 z3 1 z5 u = some (r, u') → ∃ (m' : Nat) (z' : Int32), LX10_worthBy_T_a16_a17_8 m' x0 z3 0 z' u = some (r, u') ∧ z'.toInt = ((a + n + 1 : Nat) : Int) := by
  intro n
  induction n with
  | zero =>
    intro m a z3 z5 _ hg h5 ha h
    cases m with
    | zero => cases h
    | succ m =>
      rw [LX10_worthBy_T_a16_a17_8] at h
      have e5 : z5.toNatClampNeg = a := by
        show z5.toInt.toNat = a
        omega
      have eL : (Int32.ofNat (tL u x0)).toInt = (tL u x0 : Int) := Int32.toInt_ofNat_of_lt (by omega)
      have e51 : (z5 + 1).toInt = z5.toInt + 1 := addc_t (by decide) (by omega) (by omega)
      obtain ⟨-, h⟩ := gd_some h
      obtain ⟨-, h⟩ := gd_some h
      rw [if_neg (fun z => by have := leI z; rw [eL] at this; omega)] at h
      obtain ⟨-, h⟩ := gd_some h
      obtain ⟨-, h⟩ := gd_some h
      obtain ⟨-, h⟩ := gd_some h
      obtain ⟨v6, e6, h⟩ := lt_some h
      obtain ⟨-, h⟩ := gd_some h
      obtain ⟨-, h⟩ := gd_some h
      obtain ⟨-, h⟩ := gd_some h
      obtain ⟨v11, e11, h⟩ := lt_some h
      rw [if_neg (by decide)] at h
      rw [e5] at e6
      have hg : tC u x0 a &&& 255 = 59 := hg
      rw [hg] at e6
      rw [if_pos e6] at h
      unfold GX10_worthBy_T_a16_a17_60 GX10_worthBy_T_a16_a17_227 at h
      exact ⟨m, z5 + 1, h, by omega⟩
  | succ n ih =>
    intro m a z3 z5 hn hg h5 ha h
    cases m with
    | zero => cases h
    | succ m =>
      rw [LX10_worthBy_T_a16_a17_8] at h
      have e5 : z5.toNatClampNeg = a := by
        show z5.toInt.toNat = a
        omega
      have eL : (Int32.ofNat (tL u x0)).toInt = (tL u x0 : Int) := Int32.toInt_ofNat_of_lt (by omega)
      have e51 : (z5 + 1).toInt = z5.toInt + 1 := addc_t (by decide) (by omega) (by omega)
      obtain ⟨-, h⟩ := gd_some h
      obtain ⟨-, h⟩ := gd_some h
      rw [if_neg (fun z => by have := leI z; rw [eL] at this; omega)] at h
      obtain ⟨-, h⟩ := gd_some h
      obtain ⟨-, h⟩ := gd_some h
      obtain ⟨-, h⟩ := gd_some h
      obtain ⟨v6, e6, h⟩ := lt_some h
      obtain ⟨-, h⟩ := gd_some h
      obtain ⟨-, h⟩ := gd_some h
      obtain ⟨-, h⟩ := gd_some h
      obtain ⟨v11, e11, h⟩ := lt_some h
      rw [if_neg (by decide)] at h
      rw [e5] at e6
      rw [if_neg (by rw [e6]; exact hn a (Nat.le_refl _) (by omega))] at h
      unfold GX10_worthBy_T_a16_a17_60 GX10_worthBy_T_a16_a17_227 at h
      obtain ⟨m', z', q1, q2⟩ := ih m (a + 1) z3 (z5 + 1) (fun i h1 h2 => hn i (by omega) (by omega)) (by rw [show a + 1 + n = a + (n + 1) by omega]; exact hg) (by omega) (by omega) h
      exact ⟨m', z', q1, by rw [q2]; show ((a + 1 + n + 1 : Nat) : Int) = ((a + (n + 1) + 1 : Nat) : Int); omega⟩
/-- a word that gives or asks, with one number on the stack -/
theorem wordG0 {x0 a m : Nat} {z3 z5 r x : Int32} {u u' : SX} (hK : STK (u.2.1 17) [x]) (h3' : z3.toInt = (([x] : List Int32).length : Int)) (h5 : z5.toInt = (a : Int)) (ha : a < tL u x0) (hl : tL u x0 ≤ 120) (h : LX10_worthBy_T_a16_a17_8 m x0 z3 0 z5 u = some (r, u')) : (tC u x0 a &&& 255 = 59 → r = x) ∧ (tC u x0 a &&& 255 = 63 → ∃ (m' : Nat) (z : Int32), z.toInt = 0 ∧ LX10_worthBy_T_a16_a17_8 m' x0 z (if x = 0 then 1 else 0) (z5 + 1) u = some (r, u')) := by
  have h3 : z3.toInt = 1 := by simpa using h3'
  cases m with
  | zero => cases h
  | succ m =>
    rw [LX10_worthBy_T_a16_a17_8] at h
    have e5 : z5.toNatClampNeg = a := by
      show z5.toInt.toNat = a
      omega
    have eL : (Int32.ofNat (tL u x0)).toInt = (tL u x0 : Int) := Int32.toInt_ofNat_of_lt (by omega)
    obtain ⟨-, h⟩ := gd_some h
    obtain ⟨-, h⟩ := gd_some h
    rw [if_neg (fun z => by have := leI z; rw [eL] at this; omega)] at h
    obtain ⟨-, h⟩ := gd_some h
    obtain ⟨-, h⟩ := gd_some h
    obtain ⟨-, h⟩ := gd_some h
    obtain ⟨v6, e6, h⟩ := lt_some h
    obtain ⟨-, h⟩ := gd_some h
    obtain ⟨-, h⟩ := gd_some h
    obtain ⟨-, h⟩ := gd_some h
    obtain ⟨v11, e11, h⟩ := lt_some h
    rw [if_pos rfl] at h
    rw [e5] at e6
    have kx : u.2.1 17 0 = x := hK.1
    have one : (1 : Int32) ≤ z3 := Int32.le_iff_toInt_le.mpr (show (1 : Int) ≤ z3.toInt by omega)
    have en1 := nn1 h3
    have en := nn1' h3
    rw [← e6]
    refine ⟨fun c => ?_, fun c => ?_⟩
    · rw [if_neg (by rw [c]; decide), if_neg (by rw [c]; decide), if_pos one, if_pos c, en1, kx] at h
      have e1 : x = r := by cases (gd_some h).2; rfl
      exact e1.symm
    · rw [if_neg (by rw [c]; decide), if_neg (by rw [c]; decide), if_pos one, if_neg (by rw [c]; decide), if_pos c, en.1, kx] at h
      obtain ⟨-, h⟩ := gd_some h
      by_cases xz : x = 0
      · rw [if_pos xz] at h ⊢
        unfold GX10_worthBy_T_a16_a17_167 GX10_worthBy_T_a16_a17_227 at h
        exact ⟨m, z3 + (-1), en.2, h⟩
      · rw [if_neg xz] at h ⊢
        unfold GX10_worthBy_T_a16_a17_167 GX10_worthBy_T_a16_a17_227 at h
        exact ⟨m, z3 + (-1), en.2, h⟩
theorem simCL0 {ρ : Nat → Int32} {x0 m a b : Nat} {z3 z5 r : Int32} {o : Option Int32} {u u' : SX} (hc : CL ρ 6 (tC u x0) a b o) (hρ : ∀ j : Nat, (j : Int) < 6 → ρ j = u.2.1 16 j) (h3 : z3.toInt = 0) (h5 : z5.toInt = (a : Int)) (hb : b ≤ tL u x0) (hl : tL u x0 ≤ 120) (h : LX10_worthBy_T_a16_a17_8 m x0 z3 0 z5 u = some (r, u')) : (∀ v, o = some v → r = v) ∧ (o = none → ∃ (m' : Nat) (w : SX) (z z' : Int32), LX10_worthBy_T_a16_a17_8 m' x0 z 0 z' w = some (r, u') ∧ z.toInt = 0 ∧ z'.toInt = (b : Int) ∧ SMk 17 u w) := by
  rcases hc with ⟨n, v, h1, h2, h3', h4⟩ | ⟨n1, n2, c, v, h1, h2, h3', h4, h5', h6⟩
  · obtain ⟨m', w, z, z', q1, q2, q3, q4, q5, q6⟩ := simC0 n m a [] [v] z3 z5 u h1 hρ trivial (by simpa using h3) h5 (Nat.zero_le _) (by omega) hl h
    have tc : tC w x0 = tC u x0 := by
      unfold tC
      rw [q5.2.2]
    have tl : tL w x0 = tL u x0 := by
      unfold tL
      rw [q5.2.2]
    have g := (wordG0 q4 q2 q3 (by rw [tl]; omega) (by rw [tl]; exact hl) q1).1 (by rw [tc]; exact h2)
    refine ⟨fun v' e => ?_, fun e => ?_⟩
    · rw [h4] at e
      rw [g]
      exact Option.some.inj e
    · rw [h4] at e
      cases e
  · obtain ⟨m', w, z, z', q1, q2, q3, q4, q5, q6⟩ := simC0 n1 m a [] [c] z3 z5 u h1 hρ trivial (by simpa using h3) h5 (Nat.zero_le _) (by omega) hl h
    have tc : tC w x0 = tC u x0 := by
      unfold tC
      rw [q5.2.2]
    have tl : tL w x0 = tL u x0 := by
      unfold tL
      rw [q5.2.2]
    obtain ⟨m2, z2, g1, g2⟩ := (wordG0 q4 q2 q3 (by rw [tl]; omega) (by rw [tl]; exact hl) q1).2 (by rw [tc]; exact h2)
    have e1 : (z' + 1).toInt = z'.toInt + 1 := addc_t (by decide) (by omega) (by omega)
    have e1' : (z' + 1).toInt = ((a + n1 + 1 : Nat) : Int) := by omega
    by_cases cz : c = 0
    · rw [if_pos cz] at g2 h6
      obtain ⟨m3, z4, k1, k2⟩ := skipG0 (u := w) (by rw [tl]; exact hl) n2 m2 (a + n1 + 1) z2 (z' + 1) (by rw [tc]; exact noG n2 _ _ _ h3') (by rw [tc]; exact h4) e1' (by rw [tl]; omega) g2
      refine ⟨fun v' e => ?_, fun _ => ⟨m3, w, z2, z4, k1, g1, by rw [k2, h5'], q5⟩⟩
      rw [h6] at e
      cases e
    · rw [if_neg cz] at g2 h6
      obtain ⟨m3, w3, z4, z6, k1, k2, k3, k4, k5, k6⟩ := simC0 n2 m2 (a + n1 + 1) [] [v] z2 (z' + 1) w (by rw [tc]; exact h3') (fun j hj => by rw [q5.2.1 16 rfl]; exact hρ j hj) trivial (by simpa using g1) e1' (Nat.zero_le _) (by rw [tl]; omega) (by rw [tl]; exact hl) g2
      have tc3 : tC w3 x0 = tC u x0 := by
        rw [← tc]
        unfold tC
        rw [k5.2.2]
      have tl3 : tL w3 x0 = tL u x0 := by
        rw [← tl]
        unfold tL
        rw [k5.2.2]
      have g := (wordG0 k4 k2 k3 (by rw [tl3]; omega) (by rw [tl3]; exact hl) k1).1 (by rw [tc3]; exact h4)
      refine ⟨fun v' e => ?_, fun e => ?_⟩
      · rw [h6] at e
        rw [g]
        exact Option.some.inj e
      · rw [h6] at e
        cases e
theorem simGO0 {ρ : Nat → Int32} {x0 M0 : Nat} {r : Int32} {u u' : SX} (hρ : ∀ j : Nat, (j : Int) < 6 → ρ j = u.2.1 16 j) (hl : tL u x0 ≤ 120) (h : LX10_worthBy_T_a16_a17_8 M0 x0 0 0 0 u = some (r, u')) : ∀ (k b : Nat), GO ρ 6 (tC u x0) k 0 b → b ≤ tL u x0 → ∃ (m' : Nat) (w : SX) (z z' : Int32), LX10_worthBy_T_a16_a17_8 m' x0 z 0 z' w = some (r, u') ∧ z.toInt = 0 ∧ z'.toInt = (b : Int) ∧ SMk 17 u w := by
  intro k
  induction k with
  | zero =>
    intro b hg _
    have e : 0 = b := hg
    rw [← e]
    exact ⟨M0, u, 0, 0, h, by decide, by decide, rfl, fun _ _ => rfl, rfl⟩
  | succ k ih =>
    intro b hg hb
    obtain ⟨c, h1, h2⟩ := hg
    have hc := CL_lt h2
    obtain ⟨m', w, z, z', q1, q2, q3, q4⟩ := ih c h1 (by omega)
    have tc : tC w x0 = tC u x0 := by
      unfold tC
      rw [q4.2.2]
    have tl : tL w x0 = tL u x0 := by
      unfold tL
      rw [q4.2.2]
    obtain ⟨m2, w2, z2, z3, k1, k2, k3, k4⟩ := (simCL0 (u := w) (by rw [tc]; exact h2) (fun j hj => by rw [q4.2.1 16 rfl]; exact hρ j hj) q2 q3 (by rw [tl]; exact hb) (by rw [tl]; exact hl) q1).2 rfl
    exact ⟨m2, w2, z2, z3, k1, k2, k3, SMk_tr q4 k4⟩
theorem worthV0 {ρ : Nat → Int32} {x0 : Nat} {r hh w : Int32} {u u' : SX} (hS : SAY ρ 6 (tC u x0) (tL u x0) hh w) (hρ : ∀ j : Nat, (j : Int) < 6 → ρ j = u.2.1 16 j) (hl : tL u x0 ≤ 120) (h : fX10_worthBy_T_a16_a17 x0 u = some (r, u')) : r = w := by
  unfold fX10_worthBy_T_a16_a17 at h
  generalize (5000 : Nat) = M0 at h
  rcases hS with ⟨q1, q2, k, q3⟩ | ⟨q1, k, c, d, q2, q3, q4⟩
  · obtain ⟨m', y, z, z', g1, g2, g3, g4⟩ := simGO0 hρ hl h k _ q3 (Nat.le_refl _)
    have tl : tL y x0 = tL u x0 := by
      unfold tL
      rw [g4.2.2]
    cases m' with
    | zero => cases g1
    | succ m' =>
      rw [LX10_worthBy_T_a16_a17_8] at g1
      have eL : (Int32.ofNat (tL u x0)).toInt = (tL u x0 : Int) := Int32.toInt_ofNat_of_lt (by omega)
      obtain ⟨-, g1⟩ := gd_some g1
      obtain ⟨-, g1⟩ := gd_some g1
      rw [tl, if_pos (by exact Int32.le_iff_toInt_le.mpr (by rw [eL, g3]; exact Int.le_refl _))] at g1
      have e1 : (0 : Int32) = r := by cases g1; rfl
      rw [← e1, q2]
  · have hc := CL_lt q3
    obtain ⟨m', y, z, z', g1, g2, g3, g4⟩ := simGO0 hρ hl h k _ q2 (by omega)
    have tc : tC y x0 = tC u x0 := by
      unfold tC
      rw [g4.2.2]
    have tl : tL y x0 = tL u x0 := by
      unfold tL
      rw [g4.2.2]
    exact (simCL0 (u := y) (by rw [tc]; exact q3) (fun j hj => by rw [g4.2.1 16 rfl]; exact hρ j hj) g2 g3 (by rw [tl]; exact q4) (by rw [tl]; exact hl) g1).1 w rfl
theorem stepW1 {ρ : Nat → Int32} {x0 a m : Nat} {z3 z5 r : Int32} {s t : List Int32} {u u' : SX} (hx : exW ρ 2 (tC u x0 a) s = some t) (hρ : ∀ j : Nat, (j : Int) < 2 → ρ j = u.2.1 19 j) (hK : STK (u.2.1 20) s) (h3 : z3.toInt = (s.length : Int)) (h5 : z5.toInt = (a : Int)) (hs : s.length ≤ a) (ha : a < tL u x0) (hl : tL u x0 ≤ 120) (h : LX10_worthBy_T_a19_a20_8 (m + 1) x0 z3 0 z5 u = some (r, u')) : ∃ (w : SX) (z : Int32), LX10_worthBy_T_a19_a20_8 m x0 z 0 (z5 + 1) w = some (r, u') ∧ z.toInt = (t.length : Int) ∧ STK (w.2.1 20) t ∧ SMk 20 u w ∧ t.length ≤ a + 1 := by
  rw [LX10_worthBy_T_a19_a20_8] at h
  have e5 : z5.toNatClampNeg = a := by
    show z5.toInt.toNat = a
    omega
  have eL : (Int32.ofNat (tL u x0)).toInt = (tL u x0 : Int) := Int32.toInt_ofNat_of_lt (by omega)
  obtain ⟨-, h⟩ := gd_some h
  obtain ⟨-, h⟩ := gd_some h
  rw [if_neg (fun z => by have := leI z; rw [eL] at this; omega)] at h
  obtain ⟨-, h⟩ := gd_some h
  obtain ⟨-, h⟩ := gd_some h
  obtain ⟨-, h⟩ := gd_some h
  obtain ⟨v6, e6, h⟩ := lt_some h
  obtain ⟨-, h⟩ := gd_some h
  obtain ⟨-, h⟩ := gd_some h
  obtain ⟨-, h⟩ := gd_some h
  obtain ⟨v11, e11, h⟩ := lt_some h
  rw [if_pos rfl] at h
  rw [e5] at e6 e11
  unfold exW at hx
  rw [← e6, ← e11] at hx
  have e31 : (z3 + 1).toInt = z3.toInt + 1 := addc_t (by decide) (by omega) (by omega)
  have n59 : ¬ v6 = 59 := fun z => by
    rw [if_pos z] at hx
    cases hx
  rw [if_neg n59] at hx
  have n63 : ¬ v6 = 63 := fun z => by
    rw [if_pos z] at hx
    cases hx
  rw [if_neg n63] at hx
  have push : ∀ y : Int32, GX10_worthBy_T_a19_a20_119 (LX10_worthBy_T_a19_a20_8 m) x0 z3 0 z5 y z3 u = some (r, u') → ∃ (w : SX) (z : Int32), LX10_worthBy_T_a19_a20_8 m x0 z 0 (z5 + 1) w = some (r, u') ∧ z.toInt = ((y :: s).length : Int) ∧ STK (w.2.1 20) (y :: s) ∧ SMk 20 u w ∧ (y :: s).length ≤ a + 1 := fun y g => by
    unfold GX10_worthBy_T_a19_a20_119 at g
    obtain ⟨-, g⟩ := gd_some g
    obtain ⟨u15, e15, g⟩ := lt_some g
    unfold GX10_worthBy_T_a19_a20_227 at g
    have e3 : z3.toNatClampNeg = s.length := by
      show z3.toInt.toNat = s.length
      omega
    rw [e3] at e15
    refine ⟨u15, z3 + 1, g, ?_, ?_, by rw [e15]; exact SMk_sA, ?_⟩
    · show _ = ((s.length + 1 : Nat) : Int)
      omega
    · have k : u15.2.1 20 = upd (u.2.1 20) s.length y := by rw [e15]; rfl
      rw [k]
      exact ⟨upd_at, STK_upd s (Nat.le_refl _) hK⟩
    · show s.length + 1 ≤ a + 1
      omega
  have n120 : ¬ 120 ≤ z3 := fun z => by
    have z9 : (120 : Int) ≤ z3.toInt := leI z
    omega
  by_cases c48 : v6 = 48
  · rw [if_pos c48] at h hx
    have et : v11 :: s = t := Option.some.inj hx
    unfold GX10_worthBy_T_a19_a20_79 at h
    rw [if_neg n120, if_neg (by rw [c48]; decide)] at h
    unfold GX10_worthBy_T_a19_a20_101 at h
    rw [if_pos c48] at h
    rw [← et]
    exact push v11 h
  · rw [if_neg c48] at h hx
    by_cases c121 : v6 = 121
    · rw [if_pos c121] at h hx
      have nneg : ¬ v11 < 0 := fun z => by
        rw [if_pos z] at hx
        cases hx
      rw [if_neg nneg] at hx
      have nN : v11 < 2 := by
        by_cases z : v11 < 2
        · exact z
        · rw [if_neg z] at hx
          cases hx
      rw [if_pos nN] at hx
      have et : ρ v11.toNatClampNeg :: s = t := Option.some.inj hx
      unfold GX10_worthBy_T_a19_a20_79 at h
      rw [if_neg n120, if_pos c121, if_pos nN] at h
      unfold GX10_worthBy_T_a19_a20_101 at h
      rw [if_neg c48] at h
      obtain ⟨-, h⟩ := gd_some h
      have m0 : ¬ v11.toInt < (0 : Int) := nltI nneg
      have m1 : v11.toInt < (2 : Int) := ltI nN
      rw [← et, hρ v11.toNatClampNeg (by show ((v11.toInt.toNat : Nat) : Int) < _; omega)]
      exact push _ h
    · rw [if_neg c121] at h hx
      cases s with
      | nil => cases hx
      | cons x s1 =>
        have h3 : z3.toInt = ((s1.length + 1 : Nat) : Int) := h3
        have hs : s1.length + 1 ≤ a := hs
        obtain ⟨kx, hK1⟩ := hK
        rw [exU_c] at hx
        have em1 : (z3 - 1).toInt = z3.toInt - 1 := subc_t (by decide) (by omega) (by omega)
        have en1 : (z3 - 1).toNatClampNeg = s1.length := by
          show (z3 - 1).toInt.toNat = s1.length
          omega
        rw [if_pos (by exact Int32.le_iff_toInt_le.mpr (show (1 : Int) ≤ z3.toInt by omega)), if_neg n59, if_neg n63] at h
        by_cases c33 : v6 = 33
        · rw [if_pos c33] at hx
          rw [if_pos c33] at h
          obtain ⟨-, h⟩ := gd_some h
          obtain ⟨-, h⟩ := gd_some h
          obtain ⟨u30, e30, h⟩ := lt_some h
          unfold GX10_worthBy_T_a19_a20_227 at h
          have et : (1 - x) :: s1 = t := Option.some.inj hx
          rw [en1, kx] at e30
          have k : u30.2.1 20 = upd (u.2.1 20) s1.length (1 - x) := by rw [e30]; rfl
          rw [← et]
          refine ⟨u30, z3, h, h3, ?_, by rw [e30]; exact SMk_sA, by show s1.length + 1 ≤ a + 1; omega⟩
          rw [k]
          exact ⟨upd_at, STK_upd s1 (Nat.le_refl _) hK1⟩
        · rw [if_neg c33] at h
          rw [if_neg c33] at hx
          cases s1 with
          | nil => cases hx
          | cons y s2 =>
            rw [exB_c] at hx
            have h3 : z3.toInt = ((s2.length + 1 + 1 : Nat) : Int) := h3
            have hs : s2.length + 1 + 1 ≤ a := hs
            obtain ⟨ky, hK2⟩ := hK1
            have kx : u.2.1 20 (s2.length + 1) = x := kx
            rw [if_pos (by exact Int32.le_iff_toInt_le.mpr (show (2 : Int) ≤ z3.toInt by omega))] at h
            have hlen : s2.length + 1 ≤ a + 1 := by omega
            obtain ⟨f1, f2, f3⟩ := nn2 (z := z3) (n := s2.length) h3 (by omega)
            simp only [f2, f3, ky, kx] at h
            clear f2 f3
            obtain ⟨-, h⟩ := gd_some h
            obtain ⟨-, h⟩ := gd_some h
            obtain ⟨r19, a19, h⟩ := bd_some h
            obtain ⟨r22, a22, h⟩ := bd_some h
            obtain ⟨-, h⟩ := gd_some h
            obtain ⟨u26, e26, h⟩ := lt_some h
            unfold GX10_worthBy_T_a19_a20_227 at h
            rw [a19] at hx
            have hx : ((fX10_bounded r19).bind fun b => some (b :: s2)) = some t := hx
            rw [a22] at hx
            have et : r22 :: s2 = t := Option.some.inj hx
            have k : u26.2.1 20 = upd (u.2.1 20) s2.length r22 := by rw [e26]; rfl
            rw [← et]
            refine ⟨u26, z3 + (-1), h, ?_, ?_, by rw [e26]; exact SMk_sA, hlen⟩
            · exact f1
            · rw [k]
              exact ⟨upd_at, STK_upd s2 (Nat.le_refl _) hK2⟩
theorem simC1 {ρ : Nat → Int32} {x0 : Nat} {r : Int32} {u' : SX} : ∀ (n m a : Nat) (s t : List Int32) (z3 z5 : Int32) (u : SX), exC ρ 2 (tC u x0) n a s = some t → (∀ j : Nat, (j : Int) < 2 → ρ j = u.2.1 19 j) → STK (u.2.1 20) s → z3.toInt = (s.length : Int) → z5.toInt = (a : Int) → s.length ≤ a → a + n ≤ tL u x0 → tL u x0 ≤ 120 → LX10_worthBy_T_a19_a20_8 m x0 z3 0 z5 u = some (r, u') → ∃ (m' : Nat) (w : SX) (z z' : Int32), LX10_worthBy_T_a19_a20_8 m' x0 z 0 z' w = some (r, u') ∧ z.toInt = (t.length : Int) ∧ z'.toInt = ((a + n : Nat) : Int) ∧ STK (w.2.1 20) t ∧ SMk 20 u w ∧ t.length ≤ a + n := by
  intro n
  induction n with
  | zero =>
    intro m a s t z3 z5 u hx _ hK h3 h5 hs _ _ h
    have et : s = t := Option.some.inj hx
    rw [← et]
    exact ⟨m, u, z3, z5, h, h3, h5, hK, ⟨rfl, fun _ _ => rfl, rfl⟩, hs⟩
  | succ n ih =>
    intro m a s t z3 z5 u hx hρ hK h3 h5 hs ha hl h
    obtain ⟨s1, e1, e2⟩ := bd_some (show (exW ρ 2 (tC u x0 a) s).bind (fun t => exC ρ 2 (tC u x0) n (a + 1) t) = some t from hx)
    cases m with
    | zero => cases h
    | succ m =>
      obtain ⟨w, z, g1, g2, g3, g4, g5⟩ := stepW1 e1 hρ hK h3 h5 hs (by omega) hl h
      have e51 : (z5 + 1).toInt = z5.toInt + 1 := addc_t (by decide) (by omega) (by omega)
      have tc : tC w x0 = tC u x0 := by
        unfold tC
        rw [g4.2.2]
      have tl : tL w x0 = tL u x0 := by
        unfold tL
        rw [g4.2.2]
      obtain ⟨m', w', z', z'', q1, q2, q3, q4, q5, q6⟩ := ih m (a + 1) s1 t z (z5 + 1) w (by rw [tc]; exact e2) (fun j hj => by rw [g4.2.1 19 rfl]; exact hρ j hj) g3 g2 (by omega) g5 (by rw [tl]; omega) (by rw [tl]; exact hl) g1
      exact ⟨m', w', z', z'', q1, q2, by rw [q3]; show ((a + 1 + n : Nat) : Int) = ((a + (n + 1) : Nat) : Int); omega, q4, SMk_tr g4 q5, by omega⟩
theorem skipG1 {x0 : Nat} {r : Int32} {u u' : SX} (hl : tL u x0 ≤ 120) : ∀ (n m a : Nat) (z3 z5 : Int32), (∀ i, a ≤ i → i < a + n → ¬ tC u x0 i &&& 255 = 59) → tC u x0 (a + n) &&& 255 = 59 → z5.toInt = (a : Int) → a + n < tL u x0 → LX10_worthBy_T_a19_a20_8 m x0 z3 1 z5 u = some (r, u') → ∃ (m' : Nat) (z' : Int32), LX10_worthBy_T_a19_a20_8 m' x0 z3 0 z' u = some (r, u') ∧ z'.toInt = ((a + n + 1 : Nat) : Int) := by
  intro n
  induction n with
  | zero =>
    intro m a z3 z5 _ hg h5 ha h
    cases m with
    | zero => cases h
    | succ m =>
      rw [LX10_worthBy_T_a19_a20_8] at h
      have e5 : z5.toNatClampNeg = a := by
        show z5.toInt.toNat = a
        omega
      have eL : (Int32.ofNat (tL u x0)).toInt = (tL u x0 : Int) := Int32.toInt_ofNat_of_lt (by omega)
      have e51 : (z5 + 1).toInt = z5.toInt + 1 := addc_t (by decide) (by omega) (by omega)
      obtain ⟨-, h⟩ := gd_some h
      obtain ⟨-, h⟩ := gd_some h
      rw [if_neg (fun z => by have := leI z; rw [eL] at this; omega)] at h
      obtain ⟨-, h⟩ := gd_some h
      obtain ⟨-, h⟩ := gd_some h
      obtain ⟨-, h⟩ := gd_some h
      obtain ⟨v6, e6, h⟩ := lt_some h
      obtain ⟨-, h⟩ := gd_some h
      obtain ⟨-, h⟩ := gd_some h
      obtain ⟨-, h⟩ := gd_some h
      obtain ⟨v11, e11, h⟩ := lt_some h
      rw [if_neg (by decide)] at h
      rw [e5] at e6
      have hg : tC u x0 a &&& 255 = 59 := hg
      rw [hg] at e6
      rw [if_pos e6] at h
      unfold GX10_worthBy_T_a19_a20_60 GX10_worthBy_T_a19_a20_227 at h
      exact ⟨m, z5 + 1, h, by omega⟩
  | succ n ih =>
    intro m a z3 z5 hn hg h5 ha h
    cases m with
    | zero => cases h
    | succ m =>
      rw [LX10_worthBy_T_a19_a20_8] at h
      have e5 : z5.toNatClampNeg = a := by
        show z5.toInt.toNat = a
        omega
      have eL : (Int32.ofNat (tL u x0)).toInt = (tL u x0 : Int) := Int32.toInt_ofNat_of_lt (by omega)
      have e51 : (z5 + 1).toInt = z5.toInt + 1 := addc_t (by decide) (by omega) (by omega)
      obtain ⟨-, h⟩ := gd_some h
      obtain ⟨-, h⟩ := gd_some h
      rw [if_neg (fun z => by have := leI z; rw [eL] at this; omega)] at h
      obtain ⟨-, h⟩ := gd_some h
      obtain ⟨-, h⟩ := gd_some h
      obtain ⟨-, h⟩ := gd_some h
      obtain ⟨v6, e6, h⟩ := lt_some h
      obtain ⟨-, h⟩ := gd_some h
      obtain ⟨-, h⟩ := gd_some h
      obtain ⟨-, h⟩ := gd_some h
      obtain ⟨v11, e11, h⟩ := lt_some h
      rw [if_neg (by decide)] at h
      rw [e5] at e6
      rw [if_neg (by rw [e6]; exact hn a (Nat.le_refl _) (by omega))] at h
      unfold GX10_worthBy_T_a19_a20_60 GX10_worthBy_T_a19_a20_227 at h
      obtain ⟨m', z', q1, q2⟩ := ih m (a + 1) z3 (z5 + 1) (fun i h1 h2 => hn i (by omega) (by omega)) (by rw [show a + 1 + n = a + (n + 1) by omega]; exact hg) (by omega) (by omega) h
      exact ⟨m', z', q1, by rw [q2]; show ((a + 1 + n + 1 : Nat) : Int) = ((a + (n + 1) + 1 : Nat) : Int); omega⟩
/-- a word that gives or asks, with one number on the stack -/
theorem wordG1 {x0 a m : Nat} {z3 z5 r x : Int32} {u u' : SX} (hK : STK (u.2.1 20) [x]) (h3' : z3.toInt = (([x] : List Int32).length : Int)) (h5 : z5.toInt = (a : Int)) (ha : a < tL u x0) (hl : tL u x0 ≤ 120) (h : LX10_worthBy_T_a19_a20_8 m x0 z3 0 z5 u = some (r, u')) : (tC u x0 a &&& 255 = 59 → r = x) ∧ (tC u x0 a &&& 255 = 63 → ∃ (m' : Nat) (z : Int32), z.toInt = 0 ∧ LX10_worthBy_T_a19_a20_8 m' x0 z (if x = 0 then 1 else 0) (z5 + 1) u = some (r, u')) := by
  have h3 : z3.toInt = 1 := by simpa using h3'
  cases m with
  | zero => cases h
  | succ m =>
    rw [LX10_worthBy_T_a19_a20_8] at h
    have e5 : z5.toNatClampNeg = a := by
      show z5.toInt.toNat = a
      omega
    have eL : (Int32.ofNat (tL u x0)).toInt = (tL u x0 : Int) := Int32.toInt_ofNat_of_lt (by omega)
    obtain ⟨-, h⟩ := gd_some h
    obtain ⟨-, h⟩ := gd_some h
    rw [if_neg (fun z => by have := leI z; rw [eL] at this; omega)] at h
    obtain ⟨-, h⟩ := gd_some h
    obtain ⟨-, h⟩ := gd_some h
    obtain ⟨-, h⟩ := gd_some h
    obtain ⟨v6, e6, h⟩ := lt_some h
    obtain ⟨-, h⟩ := gd_some h
    obtain ⟨-, h⟩ := gd_some h
    obtain ⟨-, h⟩ := gd_some h
    obtain ⟨v11, e11, h⟩ := lt_some h
    rw [if_pos rfl] at h
    rw [e5] at e6
    have kx : u.2.1 20 0 = x := hK.1
    have one : (1 : Int32) ≤ z3 := Int32.le_iff_toInt_le.mpr (show (1 : Int) ≤ z3.toInt by omega)
    have en1 := nn1 h3
    have en := nn1' h3
    rw [← e6]
    refine ⟨fun c => ?_, fun c => ?_⟩
    · rw [if_neg (by rw [c]; decide), if_neg (by rw [c]; decide), if_pos one, if_pos c, en1, kx] at h
      have e1 : x = r := by cases (gd_some h).2; rfl
      exact e1.symm
    · rw [if_neg (by rw [c]; decide), if_neg (by rw [c]; decide), if_pos one, if_neg (by rw [c]; decide), if_pos c, en.1, kx] at h
      obtain ⟨-, h⟩ := gd_some h
      by_cases xz : x = 0
      · rw [if_pos xz] at h ⊢
        unfold GX10_worthBy_T_a19_a20_167 GX10_worthBy_T_a19_a20_227 at h
        exact ⟨m, z3 + (-1), en.2, h⟩
      · rw [if_neg xz] at h ⊢
        unfold GX10_worthBy_T_a19_a20_167 GX10_worthBy_T_a19_a20_227 at h
        exact ⟨m, z3 + (-1), en.2, h⟩
theorem simCL1 {ρ : Nat → Int32} {x0 m a b : Nat} {z3 z5 r : Int32} {o : Option Int32} {u u' : SX} (hc : CL ρ 2 (tC u x0) a b o) (hρ : ∀ j : Nat, (j : Int) < 2 → ρ j = u.2.1 19 j) (h3 : z3.toInt = 0) (h5 : z5.toInt = (a : Int)) (hb : b ≤ tL u x0) (hl : tL u x0 ≤ 120) (h : LX10_worthBy_T_a19_a20_8 m x0 z3 0 z5 u = some (r, u')) : (∀ v, o = some v → r = v) ∧ (o = none → ∃ (m' : Nat) (w : SX) (z z' : Int32), LX10_worthBy_T_a19_a20_8 m' x0 z 0 z' w = some (r, u') ∧ z.toInt = 0 ∧ z'.toInt = (b : Int) ∧ SMk 20 u w) := by
  rcases hc with ⟨n, v, h1, h2, h3', h4⟩ | ⟨n1, n2, c, v, h1, h2, h3', h4, h5', h6⟩
  · obtain ⟨m', w, z, z', q1, q2, q3, q4, q5, q6⟩ := simC1 n m a [] [v] z3 z5 u h1 hρ trivial (by simpa using h3) h5 (Nat.zero_le _) (by omega) hl h
    have tc : tC w x0 = tC u x0 := by
      unfold tC
      rw [q5.2.2]
    have tl : tL w x0 = tL u x0 := by
      unfold tL
      rw [q5.2.2]
    have g := (wordG1 q4 q2 q3 (by rw [tl]; omega) (by rw [tl]; exact hl) q1).1 (by rw [tc]; exact h2)
    refine ⟨fun v' e => ?_, fun e => ?_⟩
    · rw [h4] at e
      rw [g]
      exact Option.some.inj e
    · rw [h4] at e
      cases e
  · obtain ⟨m', w, z, z', q1, q2, q3, q4, q5, q6⟩ := simC1 n1 m a [] [c] z3 z5 u h1 hρ trivial (by simpa using h3) h5 (Nat.zero_le _) (by omega) hl h
    have tc : tC w x0 = tC u x0 := by
      unfold tC
      rw [q5.2.2]
    have tl : tL w x0 = tL u x0 := by
      unfold tL
      rw [q5.2.2]
    obtain ⟨m2, z2, g1, g2⟩ := (wordG1 q4 q2 q3 (by rw [tl]; omega) (by rw [tl]; exact hl) q1).2 (by rw [tc]; exact h2)
    have e1 : (z' + 1).toInt = z'.toInt + 1 := addc_t (by decide) (by omega) (by omega)
    have e1' : (z' + 1).toInt = ((a + n1 + 1 : Nat) : Int) := by omega
    by_cases cz : c = 0
    · rw [if_pos cz] at g2 h6
      obtain ⟨m3, z4, k1, k2⟩ := skipG1 (u := w) (by rw [tl]; exact hl) n2 m2 (a + n1 + 1) z2 (z' + 1) (by rw [tc]; exact noG n2 _ _ _ h3') (by rw [tc]; exact h4) e1' (by rw [tl]; omega) g2
      refine ⟨fun v' e => ?_, fun _ => ⟨m3, w, z2, z4, k1, g1, by rw [k2, h5'], q5⟩⟩
      rw [h6] at e
      cases e
    · rw [if_neg cz] at g2 h6
      obtain ⟨m3, w3, z4, z6, k1, k2, k3, k4, k5, k6⟩ := simC1 n2 m2 (a + n1 + 1) [] [v] z2 (z' + 1) w (by rw [tc]; exact h3') (fun j hj => by rw [q5.2.1 19 rfl]; exact hρ j hj) trivial (by simpa using g1) e1' (Nat.zero_le _) (by rw [tl]; omega) (by rw [tl]; exact hl) g2
      have tc3 : tC w3 x0 = tC u x0 := by
        rw [← tc]
        unfold tC
        rw [k5.2.2]
      have tl3 : tL w3 x0 = tL u x0 := by
        rw [← tl]
        unfold tL
        rw [k5.2.2]
      have g := (wordG1 k4 k2 k3 (by rw [tl3]; omega) (by rw [tl3]; exact hl) k1).1 (by rw [tc3]; exact h4)
      refine ⟨fun v' e => ?_, fun e => ?_⟩
      · rw [h6] at e
        rw [g]
        exact Option.some.inj e
      · rw [h6] at e
        cases e
theorem simGO1 {ρ : Nat → Int32} {x0 M0 : Nat} {r : Int32} {u u' : SX} (hρ : ∀ j : Nat, (j : Int) < 2 → ρ j = u.2.1 19 j) (hl : tL u x0 ≤ 120) (h : LX10_worthBy_T_a19_a20_8 M0 x0 0 0 0 u = some (r, u')) : ∀ (k b : Nat), GO ρ 2 (tC u x0) k 0 b → b ≤ tL u x0 → ∃ (m' : Nat) (w : SX) (z z' : Int32), LX10_worthBy_T_a19_a20_8 m' x0 z 0 z' w = some (r, u') ∧ z.toInt = 0 ∧ z'.toInt = (b : Int) ∧ SMk 20 u w := by
  intro k
  induction k with
  | zero =>
    intro b hg _
    have e : 0 = b := hg
    rw [← e]
    exact ⟨M0, u, 0, 0, h, by decide, by decide, rfl, fun _ _ => rfl, rfl⟩
  | succ k ih =>
    intro b hg hb
    obtain ⟨c, h1, h2⟩ := hg
    have hc := CL_lt h2
    obtain ⟨m', w, z, z', q1, q2, q3, q4⟩ := ih c h1 (by omega)
    have tc : tC w x0 = tC u x0 := by
      unfold tC
      rw [q4.2.2]
    have tl : tL w x0 = tL u x0 := by
      unfold tL
      rw [q4.2.2]
    obtain ⟨m2, w2, z2, z3, k1, k2, k3, k4⟩ := (simCL1 (u := w) (by rw [tc]; exact h2) (fun j hj => by rw [q4.2.1 19 rfl]; exact hρ j hj) q2 q3 (by rw [tl]; exact hb) (by rw [tl]; exact hl) q1).2 rfl
    exact ⟨m2, w2, z2, z3, k1, k2, k3, SMk_tr q4 k4⟩
theorem worthV1 {ρ : Nat → Int32} {x0 : Nat} {r hh w : Int32} {u u' : SX} (hS : SAY ρ 2 (tC u x0) (tL u x0) hh w) (hρ : ∀ j : Nat, (j : Int) < 2 → ρ j = u.2.1 19 j) (hl : tL u x0 ≤ 120) (h : fX10_worthBy_T_a19_a20 x0 u = some (r, u')) : r = w := by
  unfold fX10_worthBy_T_a19_a20 at h
  generalize (5000 : Nat) = M0 at h
  rcases hS with ⟨q1, q2, k, q3⟩ | ⟨q1, k, c, d, q2, q3, q4⟩
  · obtain ⟨m', y, z, z', g1, g2, g3, g4⟩ := simGO1 hρ hl h k _ q3 (Nat.le_refl _)
    have tl : tL y x0 = tL u x0 := by
      unfold tL
      rw [g4.2.2]
    cases m' with
    | zero => cases g1
    | succ m' =>
      rw [LX10_worthBy_T_a19_a20_8] at g1
      have eL : (Int32.ofNat (tL u x0)).toInt = (tL u x0 : Int) := Int32.toInt_ofNat_of_lt (by omega)
      obtain ⟨-, g1⟩ := gd_some g1
      obtain ⟨-, g1⟩ := gd_some g1
      rw [tl, if_pos (by exact Int32.le_iff_toInt_le.mpr (by rw [eL, g3]; exact Int.le_refl _))] at g1
      have e1 : (0 : Int32) = r := by cases g1; rfl
      rw [← e1, q2]
  · have hc := CL_lt q3
    obtain ⟨m', y, z, z', g1, g2, g3, g4⟩ := simGO1 hρ hl h k _ q2 (by omega)
    have tc : tC y x0 = tC u x0 := by
      unfold tC
      rw [g4.2.2]
    have tl : tL y x0 = tL u x0 := by
      unfold tL
      rw [g4.2.2]
    exact (simCL1 (u := y) (by rw [tc]; exact q3) (fun j hj => by rw [g4.2.1 19 rfl]; exact hρ j hj) g2 g3 (by rw [tl]; exact q4) (by rw [tl]; exact hl) g1).1 w rfl
theorem stepW2 {ρ : Nat → Int32} {x0 a m : Nat} {z3 z5 r : Int32} {s t : List Int32} {u u' : SX} (hx : exW ρ 5 (tC u x0 a) s = some t) (hρ : ∀ j : Nat, (j : Int) < 5 → ρ j = u.2.1 22 j) (hK : STK (u.2.1 23) s) (h3 : z3.toInt = (s.length : Int)) (h5 : z5.toInt = (a : Int)) (hs : s.length ≤ a) (ha : a < tL u x0) (hl : tL u x0 ≤ 120) (h : LX10_worthBy_T_a22_a23_8 (m + 1) x0 z3 0 z5 u = some (r, u')) : ∃ (w : SX) (z : Int32), LX10_worthBy_T_a22_a23_8 m x0 z 0 (z5 + 1) w = some (r, u') ∧ z.toInt = (t.length : Int) ∧ STK (w.2.1 23) t ∧ SMk 23 u w ∧ t.length ≤ a + 1 := by
  rw [LX10_worthBy_T_a22_a23_8] at h
  have e5 : z5.toNatClampNeg = a := by
    show z5.toInt.toNat = a
    omega
  have eL : (Int32.ofNat (tL u x0)).toInt = (tL u x0 : Int) := Int32.toInt_ofNat_of_lt (by omega)
  obtain ⟨-, h⟩ := gd_some h
  obtain ⟨-, h⟩ := gd_some h
  rw [if_neg (fun z => by have := leI z; rw [eL] at this; omega)] at h
  obtain ⟨-, h⟩ := gd_some h
  obtain ⟨-, h⟩ := gd_some h
  obtain ⟨-, h⟩ := gd_some h
  obtain ⟨v6, e6, h⟩ := lt_some h
  obtain ⟨-, h⟩ := gd_some h
  obtain ⟨-, h⟩ := gd_some h
  obtain ⟨-, h⟩ := gd_some h
  obtain ⟨v11, e11, h⟩ := lt_some h
  rw [if_pos rfl] at h
  rw [e5] at e6 e11
  unfold exW at hx
  rw [← e6, ← e11] at hx
  have e31 : (z3 + 1).toInt = z3.toInt + 1 := addc_t (by decide) (by omega) (by omega)
  have n59 : ¬ v6 = 59 := fun z => by
    rw [if_pos z] at hx
    cases hx
  rw [if_neg n59] at hx
  have n63 : ¬ v6 = 63 := fun z => by
    rw [if_pos z] at hx
    cases hx
  rw [if_neg n63] at hx
  have push : ∀ y : Int32, GX10_worthBy_T_a22_a23_119 (LX10_worthBy_T_a22_a23_8 m) x0 z3 0 z5 y z3 u = some (r, u') → ∃ (w : SX) (z : Int32), LX10_worthBy_T_a22_a23_8 m x0 z 0 (z5 + 1) w = some (r, u') ∧ z.toInt = ((y :: s).length : Int) ∧ STK (w.2.1 23) (y :: s) ∧ SMk 23 u w ∧ (y :: s).length ≤ a + 1 := fun y g => by
    unfold GX10_worthBy_T_a22_a23_119 at g
    obtain ⟨-, g⟩ := gd_some g
    obtain ⟨u15, e15, g⟩ := lt_some g
    unfold GX10_worthBy_T_a22_a23_227 at g
    have e3 : z3.toNatClampNeg = s.length := by
      show z3.toInt.toNat = s.length
      omega
    rw [e3] at e15
    refine ⟨u15, z3 + 1, g, ?_, ?_, by rw [e15]; exact SMk_sA, ?_⟩
    · show _ = ((s.length + 1 : Nat) : Int)
      omega
    · have k : u15.2.1 23 = upd (u.2.1 23) s.length y := by rw [e15]; rfl
      rw [k]
      exact ⟨upd_at, STK_upd s (Nat.le_refl _) hK⟩
    · show s.length + 1 ≤ a + 1
      omega
  have n120 : ¬ 120 ≤ z3 := fun z => by
    have z9 : (120 : Int) ≤ z3.toInt := leI z
    omega
  by_cases c48 : v6 = 48
  · rw [if_pos c48] at h hx
    have et : v11 :: s = t := Option.some.inj hx
    unfold GX10_worthBy_T_a22_a23_79 at h
    rw [if_neg n120, if_neg (by rw [c48]; decide)] at h
    unfold GX10_worthBy_T_a22_a23_101 at h
    rw [if_pos c48] at h
    rw [← et]
    exact push v11 h
  · rw [if_neg c48] at h hx
    by_cases c121 : v6 = 121
    · rw [if_pos c121] at h hx
      have nneg : ¬ v11 < 0 := fun z => by
        rw [if_pos z] at hx
        cases hx
      rw [if_neg nneg] at hx
      have nN : v11 < 5 := by
        by_cases z : v11 < 5
        · exact z
        · rw [if_neg z] at hx
          cases hx
      rw [if_pos nN] at hx
      have et : ρ v11.toNatClampNeg :: s = t := Option.some.inj hx
      unfold GX10_worthBy_T_a22_a23_79 at h
      rw [if_neg n120, if_pos c121, if_pos nN] at h
      unfold GX10_worthBy_T_a22_a23_101 at h
      rw [if_neg c48] at h
      obtain ⟨-, h⟩ := gd_some h
      have m0 : ¬ v11.toInt < (0 : Int) := nltI nneg
      have m1 : v11.toInt < (5 : Int) := ltI nN
      rw [← et, hρ v11.toNatClampNeg (by show ((v11.toInt.toNat : Nat) : Int) < _; omega)]
      exact push _ h
    · rw [if_neg c121] at h hx
      cases s with
      | nil => cases hx
      | cons x s1 =>
        have h3 : z3.toInt = ((s1.length + 1 : Nat) : Int) := h3
        have hs : s1.length + 1 ≤ a := hs
        obtain ⟨kx, hK1⟩ := hK
        rw [exU_c] at hx
        have em1 : (z3 - 1).toInt = z3.toInt - 1 := subc_t (by decide) (by omega) (by omega)
        have en1 : (z3 - 1).toNatClampNeg = s1.length := by
          show (z3 - 1).toInt.toNat = s1.length
          omega
        rw [if_pos (by exact Int32.le_iff_toInt_le.mpr (show (1 : Int) ≤ z3.toInt by omega)), if_neg n59, if_neg n63] at h
        by_cases c33 : v6 = 33
        · rw [if_pos c33] at hx
          rw [if_pos c33] at h
          obtain ⟨-, h⟩ := gd_some h
          obtain ⟨-, h⟩ := gd_some h
          obtain ⟨u30, e30, h⟩ := lt_some h
          unfold GX10_worthBy_T_a22_a23_227 at h
          have et : (1 - x) :: s1 = t := Option.some.inj hx
          rw [en1, kx] at e30
          have k : u30.2.1 23 = upd (u.2.1 23) s1.length (1 - x) := by rw [e30]; rfl
          rw [← et]
          refine ⟨u30, z3, h, h3, ?_, by rw [e30]; exact SMk_sA, by show s1.length + 1 ≤ a + 1; omega⟩
          rw [k]
          exact ⟨upd_at, STK_upd s1 (Nat.le_refl _) hK1⟩
        · rw [if_neg c33] at h
          rw [if_neg c33] at hx
          cases s1 with
          | nil => cases hx
          | cons y s2 =>
            rw [exB_c] at hx
            have h3 : z3.toInt = ((s2.length + 1 + 1 : Nat) : Int) := h3
            have hs : s2.length + 1 + 1 ≤ a := hs
            obtain ⟨ky, hK2⟩ := hK1
            have kx : u.2.1 23 (s2.length + 1) = x := kx
            rw [if_pos (by exact Int32.le_iff_toInt_le.mpr (show (2 : Int) ≤ z3.toInt by omega))] at h
            have hlen : s2.length + 1 ≤ a + 1 := by omega
            obtain ⟨f1, f2, f3⟩ := nn2 (z := z3) (n := s2.length) h3 (by omega)
            simp only [f2, f3, ky, kx] at h
            clear f2 f3
            obtain ⟨-, h⟩ := gd_some h
            obtain ⟨-, h⟩ := gd_some h
            obtain ⟨r19, a19, h⟩ := bd_some h
            obtain ⟨r22, a22, h⟩ := bd_some h
            obtain ⟨-, h⟩ := gd_some h
            obtain ⟨u26, e26, h⟩ := lt_some h
            unfold GX10_worthBy_T_a22_a23_227 at h
            rw [a19] at hx
            have hx : ((fX10_bounded r19).bind fun b => some (b :: s2)) = some t := hx
            rw [a22] at hx
            have et : r22 :: s2 = t := Option.some.inj hx
            have k : u26.2.1 23 = upd (u.2.1 23) s2.length r22 := by rw [e26]; rfl
            rw [← et]
            refine ⟨u26, z3 + (-1), h, ?_, ?_, by rw [e26]; exact SMk_sA, hlen⟩
            · exact f1
            · rw [k]
              exact ⟨upd_at, STK_upd s2 (Nat.le_refl _) hK2⟩
theorem simC2 {ρ : Nat → Int32} {x0 : Nat} {r : Int32} {u' : SX} : ∀ (n m a : Nat) (s t : List Int32) (z3 z5 : Int32) (u : SX), exC ρ 5 (tC u x0) n a s = some t → (∀ j : Nat, (j : Int) < 5 → ρ j = u.2.1 22 j) → STK (u.2.1 23) s → z3.toInt = (s.length : Int) → z5.toInt = (a : Int) → s.length ≤ a → a + n ≤ tL u x0 → tL u x0 ≤ 120 → LX10_worthBy_T_a22_a23_8 m x0 z3 0 z5 u = some (r, u') → ∃ (m' : Nat) (w : SX) (z z' : Int32), LX10_worthBy_T_a22_a23_8 m' x0 z 0 z' w = some (r, u') ∧ z.toInt = (t.length : Int) ∧ z'.toInt = ((a + n : Nat) : Int) ∧ STK (w.2.1 23) t ∧ SMk 23 u w ∧ t.length ≤ a + n := by
  intro n
  induction n with
  | zero =>
    intro m a s t z3 z5 u hx _ hK h3 h5 hs _ _ h
    have et : s = t := Option.some.inj hx
    rw [← et]
    exact ⟨m, u, z3, z5, h, h3, h5, hK, ⟨rfl, fun _ _ => rfl, rfl⟩, hs⟩
  | succ n ih =>
    intro m a s t z3 z5 u hx hρ hK h3 h5 hs ha hl h
    obtain ⟨s1, e1, e2⟩ := bd_some (show (exW ρ 5 (tC u x0 a) s).bind (fun t => exC ρ 5 (tC u x0) n (a + 1) t) = some t from hx)
    cases m with
    | zero => cases h
    | succ m =>
      obtain ⟨w, z, g1, g2, g3, g4, g5⟩ := stepW2 e1 hρ hK h3 h5 hs (by omega) hl h
      have e51 : (z5 + 1).toInt = z5.toInt + 1 := addc_t (by decide) (by omega) (by omega)
      have tc : tC w x0 = tC u x0 := by
        unfold tC
        rw [g4.2.2]
      have tl : tL w x0 = tL u x0 := by
        unfold tL
        rw [g4.2.2]
      obtain ⟨m', w', z', z'', q1, q2, q3, q4, q5, q6⟩ := ih m (a + 1) s1 t z (z5 + 1) w (by rw [tc]; exact e2) (fun j hj => by rw [g4.2.1 22 rfl]; exact hρ j hj) g3 g2 (by omega) g5 (by rw [tl]; omega) (by rw [tl]; exact hl) g1
      exact ⟨m', w', z', z'', q1, q2, by rw [q3]; show ((a + 1 + n : Nat) : Int) = ((a + (n + 1) : Nat) : Int); omega, q4, SMk_tr g4 q5, by omega⟩
theorem skipG2 {x0 : Nat} {r : Int32} {u u' : SX} (hl : tL u x0 ≤ 120) : ∀ (n m a : Nat) (z3 z5 : Int32), (∀ i, a ≤ i → i < a + n → ¬ tC u x0 i &&& 255 = 59) → tC u x0 (a + n) &&& 255 = 59 → z5.toInt = (a : Int) → a + n < tL u x0 → LX10_worthBy_T_a22_a23_8 m x0 z3 1 z5 u = some (r, u') → ∃ (m' : Nat) (z' : Int32), LX10_worthBy_T_a22_a23_8 m' x0 z3 0 z' u = some (r, u') ∧ z'.toInt = ((a + n + 1 : Nat) : Int) := by
  intro n
  induction n with
  | zero =>
    intro m a z3 z5 _ hg h5 ha h
    cases m with
    | zero => cases h
    | succ m =>
      rw [LX10_worthBy_T_a22_a23_8] at h
      have e5 : z5.toNatClampNeg = a := by
        show z5.toInt.toNat = a
        omega
      have eL : (Int32.ofNat (tL u x0)).toInt = (tL u x0 : Int) := Int32.toInt_ofNat_of_lt (by omega)
      have e51 : (z5 + 1).toInt = z5.toInt + 1 := addc_t (by decide) (by omega) (by omega)
      obtain ⟨-, h⟩ := gd_some h
      obtain ⟨-, h⟩ := gd_some h
      rw [if_neg (fun z => by have := leI z; rw [eL] at this; omega)] at h
      obtain ⟨-, h⟩ := gd_some h
      obtain ⟨-, h⟩ := gd_some h
      obtain ⟨-, h⟩ := gd_some h
      obtain ⟨v6, e6, h⟩ := lt_some h
      obtain ⟨-, h⟩ := gd_some h
      obtain ⟨-, h⟩ := gd_some h
      obtain ⟨-, h⟩ := gd_some h
      obtain ⟨v11, e11, h⟩ := lt_some h
      rw [if_neg (by decide)] at h
      rw [e5] at e6
      have hg : tC u x0 a &&& 255 = 59 := hg
      rw [hg] at e6
      rw [if_pos e6] at h
      unfold GX10_worthBy_T_a22_a23_60 GX10_worthBy_T_a22_a23_227 at h
      exact ⟨m, z5 + 1, h, by omega⟩
  | succ n ih =>
    intro m a z3 z5 hn hg h5 ha h
    cases m with
    | zero => cases h
    | succ m =>
      rw [LX10_worthBy_T_a22_a23_8] at h
      have e5 : z5.toNatClampNeg = a := by
        show z5.toInt.toNat = a
        omega
      have eL : (Int32.ofNat (tL u x0)).toInt = (tL u x0 : Int) := Int32.toInt_ofNat_of_lt (by omega)
      have e51 : (z5 + 1).toInt = z5.toInt + 1 := addc_t (by decide) (by omega) (by omega)
      obtain ⟨-, h⟩ := gd_some h
      obtain ⟨-, h⟩ := gd_some h
      rw [if_neg (fun z => by have := leI z; rw [eL] at this; omega)] at h
      obtain ⟨-, h⟩ := gd_some h
      obtain ⟨-, h⟩ := gd_some h
      obtain ⟨-, h⟩ := gd_some h
      obtain ⟨v6, e6, h⟩ := lt_some h
      obtain ⟨-, h⟩ := gd_some h
      obtain ⟨-, h⟩ := gd_some h
      obtain ⟨-, h⟩ := gd_some h
      obtain ⟨v11, e11, h⟩ := lt_some h
      rw [if_neg (by decide)] at h
      rw [e5] at e6
      rw [if_neg (by rw [e6]; exact hn a (Nat.le_refl _) (by omega))] at h
      unfold GX10_worthBy_T_a22_a23_60 GX10_worthBy_T_a22_a23_227 at h
      obtain ⟨m', z', q1, q2⟩ := ih m (a + 1) z3 (z5 + 1) (fun i h1 h2 => hn i (by omega) (by omega)) (by rw [show a + 1 + n = a + (n + 1) by omega]; exact hg) (by omega) (by omega) h
      exact ⟨m', z', q1, by rw [q2]; show ((a + 1 + n + 1 : Nat) : Int) = ((a + (n + 1) + 1 : Nat) : Int); omega⟩
/-- a word that gives or asks, with one number on the stack -/
theorem wordG2 {x0 a m : Nat} {z3 z5 r x : Int32} {u u' : SX} (hK : STK (u.2.1 23) [x]) (h3' : z3.toInt = (([x] : List Int32).length : Int)) (h5 : z5.toInt = (a : Int)) (ha : a < tL u x0) (hl : tL u x0 ≤ 120) (h : LX10_worthBy_T_a22_a23_8 m x0 z3 0 z5 u = some (r, u')) : (tC u x0 a &&& 255 = 59 → r = x) ∧ (tC u x0 a &&& 255 = 63 → ∃ (m' : Nat) (z : Int32), z.toInt = 0 ∧ LX10_worthBy_T_a22_a23_8 m' x0 z (if x = 0 then 1 else 0) (z5 + 1) u = some (r, u')) := by
  have h3 : z3.toInt = 1 := by simpa using h3'
  cases m with
  | zero => cases h
  | succ m =>
    rw [LX10_worthBy_T_a22_a23_8] at h
    have e5 : z5.toNatClampNeg = a := by
      show z5.toInt.toNat = a
      omega
    have eL : (Int32.ofNat (tL u x0)).toInt = (tL u x0 : Int) := Int32.toInt_ofNat_of_lt (by omega)
    obtain ⟨-, h⟩ := gd_some h
    obtain ⟨-, h⟩ := gd_some h
    rw [if_neg (fun z => by have := leI z; rw [eL] at this; omega)] at h
    obtain ⟨-, h⟩ := gd_some h
    obtain ⟨-, h⟩ := gd_some h
    obtain ⟨-, h⟩ := gd_some h
    obtain ⟨v6, e6, h⟩ := lt_some h
    obtain ⟨-, h⟩ := gd_some h
    obtain ⟨-, h⟩ := gd_some h
    obtain ⟨-, h⟩ := gd_some h
    obtain ⟨v11, e11, h⟩ := lt_some h
    rw [if_pos rfl] at h
    rw [e5] at e6
    have kx : u.2.1 23 0 = x := hK.1
    have one : (1 : Int32) ≤ z3 := Int32.le_iff_toInt_le.mpr (show (1 : Int) ≤ z3.toInt by omega)
    have en1 := nn1 h3
    have en := nn1' h3
    rw [← e6]
    refine ⟨fun c => ?_, fun c => ?_⟩
    · rw [if_neg (by rw [c]; decide), if_neg (by rw [c]; decide), if_pos one, if_pos c, en1, kx] at h
      have e1 : x = r := by cases (gd_some h).2; rfl
      exact e1.symm
    · rw [if_neg (by rw [c]; decide), if_neg (by rw [c]; decide), if_pos one, if_neg (by rw [c]; decide), if_pos c, en.1, kx] at h
      obtain ⟨-, h⟩ := gd_some h
      by_cases xz : x = 0
      · rw [if_pos xz] at h ⊢
        unfold GX10_worthBy_T_a22_a23_167 GX10_worthBy_T_a22_a23_227 at h
        exact ⟨m, z3 + (-1), en.2, h⟩
      · rw [if_neg xz] at h ⊢
        unfold GX10_worthBy_T_a22_a23_167 GX10_worthBy_T_a22_a23_227 at h
        exact ⟨m, z3 + (-1), en.2, h⟩
theorem simCL2 {ρ : Nat → Int32} {x0 m a b : Nat} {z3 z5 r : Int32} {o : Option Int32} {u u' : SX} (hc : CL ρ 5 (tC u x0) a b o) (hρ : ∀ j : Nat, (j : Int) < 5 → ρ j = u.2.1 22 j) (h3 : z3.toInt = 0) (h5 : z5.toInt = (a : Int)) (hb : b ≤ tL u x0) (hl : tL u x0 ≤ 120) (h : LX10_worthBy_T_a22_a23_8 m x0 z3 0 z5 u = some (r, u')) : (∀ v, o = some v → r = v) ∧ (o = none → ∃ (m' : Nat) (w : SX) (z z' : Int32), LX10_worthBy_T_a22_a23_8 m' x0 z 0 z' w = some (r, u') ∧ z.toInt = 0 ∧ z'.toInt = (b : Int) ∧ SMk 23 u w) := by
  rcases hc with ⟨n, v, h1, h2, h3', h4⟩ | ⟨n1, n2, c, v, h1, h2, h3', h4, h5', h6⟩
  · obtain ⟨m', w, z, z', q1, q2, q3, q4, q5, q6⟩ := simC2 n m a [] [v] z3 z5 u h1 hρ trivial (by simpa using h3) h5 (Nat.zero_le _) (by omega) hl h
    have tc : tC w x0 = tC u x0 := by
      unfold tC
      rw [q5.2.2]
    have tl : tL w x0 = tL u x0 := by
      unfold tL
      rw [q5.2.2]
    have g := (wordG2 q4 q2 q3 (by rw [tl]; omega) (by rw [tl]; exact hl) q1).1 (by rw [tc]; exact h2)
    refine ⟨fun v' e => ?_, fun e => ?_⟩
    · rw [h4] at e
      rw [g]
      exact Option.some.inj e
    · rw [h4] at e
      cases e
  · obtain ⟨m', w, z, z', q1, q2, q3, q4, q5, q6⟩ := simC2 n1 m a [] [c] z3 z5 u h1 hρ trivial (by simpa using h3) h5 (Nat.zero_le _) (by omega) hl h
    have tc : tC w x0 = tC u x0 := by
      unfold tC
      rw [q5.2.2]
    have tl : tL w x0 = tL u x0 := by
      unfold tL
      rw [q5.2.2]
    obtain ⟨m2, z2, g1, g2⟩ := (wordG2 q4 q2 q3 (by rw [tl]; omega) (by rw [tl]; exact hl) q1).2 (by rw [tc]; exact h2)
    have e1 : (z' + 1).toInt = z'.toInt + 1 := addc_t (by decide) (by omega) (by omega)
    have e1' : (z' + 1).toInt = ((a + n1 + 1 : Nat) : Int) := by omega
    by_cases cz : c = 0
    · rw [if_pos cz] at g2 h6
      obtain ⟨m3, z4, k1, k2⟩ := skipG2 (u := w) (by rw [tl]; exact hl) n2 m2 (a + n1 + 1) z2 (z' + 1) (by rw [tc]; exact noG n2 _ _ _ h3') (by rw [tc]; exact h4) e1' (by rw [tl]; omega) g2
      refine ⟨fun v' e => ?_, fun _ => ⟨m3, w, z2, z4, k1, g1, by rw [k2, h5'], q5⟩⟩
      rw [h6] at e
      cases e
    · rw [if_neg cz] at g2 h6
      obtain ⟨m3, w3, z4, z6, k1, k2, k3, k4, k5, k6⟩ := simC2 n2 m2 (a + n1 + 1) [] [v] z2 (z' + 1) w (by rw [tc]; exact h3') (fun j hj => by rw [q5.2.1 22 rfl]; exact hρ j hj) trivial (by simpa using g1) e1' (Nat.zero_le _) (by rw [tl]; omega) (by rw [tl]; exact hl) g2
      have tc3 : tC w3 x0 = tC u x0 := by
        rw [← tc]
        unfold tC
        rw [k5.2.2]
      have tl3 : tL w3 x0 = tL u x0 := by
        rw [← tl]
        unfold tL
        rw [k5.2.2]
      have g := (wordG2 k4 k2 k3 (by rw [tl3]; omega) (by rw [tl3]; exact hl) k1).1 (by rw [tc3]; exact h4)
      refine ⟨fun v' e => ?_, fun e => ?_⟩
      · rw [h6] at e
        rw [g]
        exact Option.some.inj e
      · rw [h6] at e
        cases e
theorem simGO2 {ρ : Nat → Int32} {x0 M0 : Nat} {r : Int32} {u u' : SX} (hρ : ∀ j : Nat, (j : Int) < 5 → ρ j = u.2.1 22 j) (hl : tL u x0 ≤ 120) (h : LX10_worthBy_T_a22_a23_8 M0 x0 0 0 0 u = some (r, u')) : ∀ (k b : Nat), GO ρ 5 (tC u x0) k 0 b → b ≤ tL u x0 → ∃ (m' : Nat) (w : SX) (z z' : Int32), LX10_worthBy_T_a22_a23_8 m' x0 z 0 z' w = some (r, u') ∧ z.toInt = 0 ∧ z'.toInt = (b : Int) ∧ SMk 23 u w := by
  intro k
  induction k with
  | zero =>
    intro b hg _
    have e : 0 = b := hg
    rw [← e]
    exact ⟨M0, u, 0, 0, h, by decide, by decide, rfl, fun _ _ => rfl, rfl⟩
  | succ k ih =>
    intro b hg hb
    obtain ⟨c, h1, h2⟩ := hg
    have hc := CL_lt h2
    obtain ⟨m', w, z, z', q1, q2, q3, q4⟩ := ih c h1 (by omega)
    have tc : tC w x0 = tC u x0 := by
      unfold tC
      rw [q4.2.2]
    have tl : tL w x0 = tL u x0 := by
      unfold tL
      rw [q4.2.2]
    obtain ⟨m2, w2, z2, z3, k1, k2, k3, k4⟩ := (simCL2 (u := w) (by rw [tc]; exact h2) (fun j hj => by rw [q4.2.1 22 rfl]; exact hρ j hj) q2 q3 (by rw [tl]; exact hb) (by rw [tl]; exact hl) q1).2 rfl
    exact ⟨m2, w2, z2, z3, k1, k2, k3, SMk_tr q4 k4⟩
theorem worthV2 {ρ : Nat → Int32} {x0 : Nat} {r hh w : Int32} {u u' : SX} (hS : SAY ρ 5 (tC u x0) (tL u x0) hh w) (hρ : ∀ j : Nat, (j : Int) < 5 → ρ j = u.2.1 22 j) (hl : tL u x0 ≤ 120) (h : fX10_worthBy_T_a22_a23 x0 u = some (r, u')) : r = w := by
  unfold fX10_worthBy_T_a22_a23 at h
  generalize (5000 : Nat) = M0 at h
  rcases hS with ⟨q1, q2, k, q3⟩ | ⟨q1, k, c, d, q2, q3, q4⟩
  · obtain ⟨m', y, z, z', g1, g2, g3, g4⟩ := simGO2 hρ hl h k _ q3 (Nat.le_refl _)
    have tl : tL y x0 = tL u x0 := by
      unfold tL
      rw [g4.2.2]
    cases m' with
    | zero => cases g1
    | succ m' =>
      rw [LX10_worthBy_T_a22_a23_8] at g1
      have eL : (Int32.ofNat (tL u x0)).toInt = (tL u x0 : Int) := Int32.toInt_ofNat_of_lt (by omega)
      obtain ⟨-, g1⟩ := gd_some g1
      obtain ⟨-, g1⟩ := gd_some g1
      rw [tl, if_pos (by exact Int32.le_iff_toInt_le.mpr (by rw [eL, g3]; exact Int.le_refl _))] at g1
      have e1 : (0 : Int32) = r := by cases g1; rfl
      rw [← e1, q2]
  · have hc := CL_lt q3
    obtain ⟨m', y, z, z', g1, g2, g3, g4⟩ := simGO2 hρ hl h k _ q2 (by omega)
    have tc : tC y x0 = tC u x0 := by
      unfold tC
      rw [g4.2.2]
    have tl : tL y x0 = tL u x0 := by
      unfold tL
      rw [g4.2.2]
    exact (simCL2 (u := y) (by rw [tc]; exact q3) (fun j hj => by rw [g4.2.1 22 rfl]; exact hρ j hj) g2 g3 (by rw [tl]; exact q4) (by rw [tl]; exact hl) g1).1 w rfl
