/-! What a text says: sums. -/
def cmb (c a b : Int32) : Option Int32 := if c = 0 then some b else (fX10_join c a.toInt64 b.toInt64).bind fun j => fX10_bounded j
def pd (c x : Int32) (s : List Int32) : List Int32 := if c = 0 then s else x :: s
def sl (c : Int32) : Int := if c = 0 then 0 else 1
theorem join38 (x y : Int64) : fX10_join 38 x y = (if (lg_cmp x 0) = 0 then (some 0) else (if (lg_cmp y 0) = 0 then (some 0) else (some 1))) := by
  unfold fX10_join
  rw [if_pos rfl]
theorem join42 (x y : Int64) : fX10_join 42 x y = some (x * y) := by
  unfold fX10_join
  rw [if_neg (by decide), if_neg (by decide), if_neg (by decide), if_neg (by decide), if_pos rfl]
theorem join43 (x y : Int64) : fX10_join 43 x y = some (x + y) := by
  unfold fX10_join
  rw [if_neg (by decide), if_neg (by decide), if_neg (by decide), if_neg (by decide), if_neg (by decide), if_pos rfl]
theorem join45 (x y : Int64) : fX10_join 45 x y = some (x - y) := by
  unfold fX10_join
  rw [if_neg (by decide), if_neg (by decide), if_neg (by decide), if_neg (by decide), if_neg (by decide), if_neg (by decide), if_neg (by decide), if_pos rfl]
theorem join47 (x y : Int64) : fX10_join 47 x y = (if (lg_cmp y 0) = 0 then (some 0) else (gd (nzL y) (some (x / y)))) := by
  unfold fX10_join
  rw [if_neg (by decide), if_neg (by decide), if_neg (by decide), if_neg (by decide), if_neg (by decide), if_neg (by decide), if_neg (by decide), if_neg (by decide), if_neg (by decide), if_pos rfl]
theorem exW_op {ρ : Nat → Int32} {N c a b x : Int32} {s : List Int32} (hc : c = 42 ∨ c = 47 ∨ c = 43 ∨ c = 45 ∨ c = 61 ∨ c = 60 ∨ c = 62 ∨ c = 38 ∨ c = 124) (h : cmb c a b = some x) : exW ρ N (((0 : Int32) <<< (8 &&& 31)) ||| c) (b :: a :: s) = some (x :: s) := by
  have hb : 0 ≤ c.toInt ∧ c.toInt ≤ 255 ∧ ¬ c = 0 ∧ ¬ c = 59 ∧ ¬ c = 63 ∧ ¬ c = 48 ∧ ¬ c = 121 ∧ ¬ c = 33 := by
    rcases hc with hc | hc | hc | hc | hc | hc | hc | hc | hc <;> rw [hc] <;> decide
  obtain ⟨b0, b1, n0, n1, n2, n3, n4, n5⟩ := hb
  unfold cmb at h
  rw [if_neg n0] at h
  obtain ⟨j, hj, h⟩ := bd_some h
  unfold exW
  rw [low8 0 c b0 b1, if_neg n1, if_neg n2, if_neg n3, if_neg n4, exU_c, if_neg n5, exB_c, hj]
  show (fX10_bounded j).bind (fun b => some (b :: s)) = some (x :: s)
  rw [h]
  rfl
/-- a pending sign is emitted: it joins what it stands behind -/
theorem pendV {B c r d a b x : Int32} {L ρ : Nat → Int32} {N : Int32} {Q : Int32 × Int32 × Int32} {e : Int} {u u' v : SX} {s : List Int32} (hc : c = 0 ∨ (c = 42 ∨ c = 47 ∨ c = 43 ∨ c = 45 ∨ c = 61 ∨ c = 60 ∨ c = 62 ∨ c = 38 ∨ c = 124)) (h : PV B L Q (e + sl c) u v d) (he0 : 0 ≤ e) (hx : cmb c a b = some x) (he : fX5_emit_2 c 0 u = some (r, u')) : PV B L Q e u' v d ∧ u'.1 4 = u.1 4 ∧ RUN ρ N u u' (b :: pd c a s) (x :: s) := by
  rcases hc with hc | hc
  · rw [hc] at he hx h
    have e1 := emit0 he
    have e2 : b = x := by
      unfold cmb at hx
      rw [if_pos rfl] at hx
      exact Option.some.inj hx
    rw [e1, hc, e2]
    unfold sl at h
    unfold pd
    rw [if_pos rfl] at h ⊢
    have s0 := h.2.2.2.2.1
    exact ⟨PV_le h (by omega), rfl, RUN_rf s0⟩
  · have n0 : ¬ c = 0 := by
      rcases hc with hc | hc | hc | hc | hc | hc | hc | hc | hc <;> rw [hc] <;> decide
    unfold sl at h
    unfold pd
    rw [if_neg n0] at h ⊢
    exact emitV h he0 n0 he (exW_op hc hx)
theorem totX_mul {rc : Nat → Int32 → Int32 → SX → Option (Int32 × SX)} {n : Nat} {z1 z2 z4 c r : Int32} {u u' : SX} (hc : c = 42 ∨ c = 47) (h : (if c = 42 then (GX5_total_2_55 rc (LX5_total_2_7 rc n) z1 z2 z4 c u) else (if c = 47 then (GX5_total_2_55 rc (LX5_total_2_7 rc n) z1 z2 z4 c u) else (GX5_total_2_61 rc (LX5_total_2_7 rc n) z1 z2 z4 c 0 u))) = some (r, u')) : LX5_total_2_7 rc n z1 z2 c (z4 + 1) (sI u 4 (u.1 4 + 1)) = some (r, u') := by
  have h : GX5_total_2_55 rc (LX5_total_2_7 rc n) z1 z2 z4 c u = some (r, u') := by
    rcases hc with hc | hc
    · rw [if_pos hc] at h
      exact h
    · rw [if_neg (by rw [hc]; decide), if_pos hc] at h
      exact h
  unfold GX5_total_2_55 GX5_total_2_61 at h
  rw [if_neg (by rcases hc with hc | hc <;> rw [hc] <;> decide)] at h
  unfold GX5_total_2_99 at h
  obtain ⟨w, ew, h⟩ := lt_some h
  rw [ew] at h
  exact h
theorem totX_add {rc : Nat → Int32 → Int32 → SX → Option (Int32 × SX)} {n : Nat} {z1 z2 z4 c r : Int32} {u u' : SX} (hc : c = 43 ∨ c = 45) (h : (if c = 42 then (GX5_total_2_55 rc (LX5_total_2_7 rc n) z1 z2 z4 c u) else (if c = 47 then (GX5_total_2_55 rc (LX5_total_2_7 rc n) z1 z2 z4 c u) else (GX5_total_2_61 rc (LX5_total_2_7 rc n) z1 z2 z4 c 0 u))) = some (r, u')) : ∃ (r13 : Int32) (u14 : SX), fX5_emit_2 z2 0 u = some (r13, u14) ∧ LX5_total_2_7 rc n z1 c 0 (z4 + 1) (sI u14 4 (u14.1 4 + 1)) = some (r, u') := by
  rw [if_neg (by rcases hc with hc | hc <;> rw [hc] <;> decide), if_neg (by rcases hc with hc | hc <;> rw [hc] <;> decide)] at h
  unfold GX5_total_2_61 at h
  rw [if_pos rfl] at h
  obtain ⟨⟨r13, u14⟩, a13, h⟩ := bd_some h
  have h : (if c = 43 then (GX5_total_2_86 rc (LX5_total_2_7 rc n) z1 0 z4 c u14) else (if c = 45 then (GX5_total_2_86 rc (LX5_total_2_7 rc n) z1 0 z4 c u14) else (GX5_total_2_92 rc (LX5_total_2_7 rc n) z1 0 z4 0 u14))) = some (r, u') := h
  have h : GX5_total_2_86 rc (LX5_total_2_7 rc n) z1 0 z4 c u14 = some (r, u') := by
    rcases hc with hc | hc
    · rw [if_pos hc] at h
      exact h
    · rw [if_neg (by rw [hc]; decide), if_pos hc] at h
      exact h
  unfold GX5_total_2_86 GX5_total_2_92 at h
  rw [if_neg (by rcases hc with hc | hc <;> rw [hc] <;> decide)] at h
  unfold GX5_total_2_99 at h
  obtain ⟨w, ew, h⟩ := lt_some h
  rw [ew] at h
  exact ⟨r13, u14, a13, h⟩
theorem totX_fin {rc : Nat → Int32 → Int32 → SX → Option (Int32 × SX)} {n : Nat} {z1 z2 z4 c r : Int32} {u u' : SX} (h42 : ¬ c = 42) (h47 : ¬ c = 47) (h43 : ¬ c = 43) (h45 : ¬ c = 45) (h : (if c = 42 then (GX5_total_2_55 rc (LX5_total_2_7 rc n) z1 z2 z4 c u) else (if c = 47 then (GX5_total_2_55 rc (LX5_total_2_7 rc n) z1 z2 z4 c u) else (GX5_total_2_61 rc (LX5_total_2_7 rc n) z1 z2 z4 c 0 u))) = some (r, u')) : ∃ r13 : Int32, fX5_emit_2 z2 0 u = some (r13, u') := by
  rw [if_neg h42, if_neg h47] at h
  unfold GX5_total_2_61 at h
  rw [if_pos rfl] at h
  obtain ⟨⟨r13, u14⟩, a13, h⟩ := bd_some h
  have h : (if c = 43 then _ else _) = some (r, u') := h
  rw [if_neg h43, if_neg h45] at h
  unfold GX5_total_2_92 at h
  rw [if_pos rfl] at h
  obtain ⟨-, h⟩ := gd_some h
  have ew : u14 = u' := by cases h; rfl
  rw [ew] at a13
  exact ⟨r13, a13⟩
/-- the reference's term goes on -/
theorem termV {rc : Nat → Int32 → SX → Option (Int32 × SX)} {B d c c' z r3 : Int32} {L : Nat → Int32} {Q : Int32 × Int32 × Int32} {e : Int} {m : Nat} {u v v4 : SX} (hP : PV B L Q e u v d) (hq : PKQ c c' u) (tm : c' = 42 ∨ c' = 47) (h : (if c' = 42 then (GX12_term_0_31 rc (LX12_term_0_5 rc m) z v) else ((fX12_look_0 v).bind fun q => match q with | (r21, u22) => (if r21 = 47 then (GX12_term_0_31 rc (LX12_term_0_5 rc m) z u22) else (some (z, u22))))) = some (r3, v4)) : ∃ (ra : Int32) (va : SX) (z9 : Int32), rc 2 0 (sI v 6 (u.1 4 + 1)) = some (ra, va) ∧ cmb c' z ra = some z9 ∧ LX12_term_0_5 rc m z9 va = some (r3, v4) := by
  have p6 : v.1 6 = u.1 4 := hP.1.2.2.2.2.2.1
  have h : GX12_term_0_31 rc (LX12_term_0_5 rc m) z v = some (r3, v4) := by
    rcases tm with t | t
    · rw [if_pos t] at h
      exact h
    · rw [if_neg (by rw [t]; decide)] at h
      obtain ⟨⟨c2, v6⟩, b5, h⟩ := bd_some h
      obtain ⟨x1, x2⟩ := look2V hP hq b5
      rw [x1, x2] at h
      have h : (if c' = 47 then _ else _) = some (r3, v4) := h
      rw [if_pos t] at h
      exact h
  unfold GX12_term_0_31 at h
  obtain ⟨⟨c2, v6⟩, b5, h⟩ := bd_some h
  obtain ⟨x1, x2⟩ := look2V hP hq b5
  rw [x1, x2] at h
  have h : (if c' = 42 then (GX12_term_0_45 rc (LX12_term_0_5 rc m) z 1 v) else (GX12_term_0_45 rc (LX12_term_0_5 rc m) z 0 v)) = some (r3, v4) := h
  rcases tm with t | t
  · rw [if_pos t] at h
    unfold GX12_term_0_45 at h
    obtain ⟨v10, e10, h⟩ := lt_some h
    rw [p6] at e10
    obtain ⟨⟨r12, v13⟩, a12, h⟩ := bd_some h
    rw [e10] at a12
    obtain ⟨v15, e15, h⟩ := lt_some h
    rw [if_neg (by decide)] at h
    unfold GX12_term_0_87 at h
    obtain ⟨r18, a18, h⟩ := bd_some h
    refine ⟨r12, v13, r18, a12, ?_, h⟩
    unfold cmb
    rw [t, if_neg (by decide), join42, ← e15]
    exact a18
  · rw [if_neg (by rw [t]; decide)] at h
    unfold GX12_term_0_45 at h
    obtain ⟨v10, e10, h⟩ := lt_some h
    rw [p6] at e10
    obtain ⟨⟨r12, v13⟩, a12, h⟩ := bd_some h
    rw [e10] at a12
    obtain ⟨v15, e15, h⟩ := lt_some h
    rw [if_pos rfl] at h
    by_cases cc : lg_cmp v15 0 = 0
    · rw [if_pos cc] at h
      unfold GX12_term_0_87 at h
      obtain ⟨r18, a18, h⟩ := bd_some h
      refine ⟨r12, v13, r18, a12, ?_, h⟩
      unfold cmb
      rw [t, if_neg (by decide), join47, ← e15, if_pos cc]
      exact a18
    · rw [if_neg cc] at h
      obtain ⟨gz, h⟩ := gd_some h
      unfold GX12_term_0_87 at h
      obtain ⟨r18, a18, h⟩ := bd_some h
      refine ⟨r12, v13, r18, a12, ?_, h⟩
      unfold cmb
      rw [t, if_neg (by decide), join47, ← e15, if_neg cc]
      unfold gd
      rw [gz]
      exact a18
/-- what goes on behind a term: a sum's loop, with what is pending -/
def SumV (dM : Nat) (K : Int32 × SX → Option (Int32 × SX)) (z2 S : Int32) : Prop := ∀ q : Int32 × SX, ∃ (m : Nat) (V : Int32), cmb z2 S q.1 = some V ∧ K q = LX12_sum_0_5 (rX12sumg (dM + 1)) m V q.2
theorem slz : sl 0 = 0 := rfl
theorem sl1 {c : Int32} (h : ¬ c = 0) : sl c = 1 := by
  unfold sl
  rw [if_neg h]
theorem bnd_of (y : Int64) : ∃ z, fX10_bounded y = some z := ⟨_, rfl⟩
set_option maxHeartbeats 2000000 in
theorem tot_loopV {B : Int32} {L ρ : Nat → Int32} {N : Int32} {Q : Int32 × Int32 × Int32} {dX dM : Nat} {k : Int32} {e : Int} (hA : AtmV B L ρ N Q dX) (hk : Dp k) (he : 0 ≤ e) : ∀ (n : Nat) (z2 z3 z4 T S : Int32) (u v v2 u' v' : SX) (r r' r1 z : Int32) (m : Nat) (K : Int32 × SX → Option (Int32 × SX)) (s : List Int32), PV B L Q (e + sl z2 + sl z3) u v k → (z2 = 0 ∨ z2 = 43 ∨ z2 = 45) → (z3 = 0 ∨ z3 = 42 ∨ z3 = 47) → 0 ≤ z4.toInt → z4.toInt ≤ (u.1 4).toInt → cmb z3 T r1 = some z → SumV dM K z2 S → LX5_total_2_7 (rX5conditiong dX) n k z2 z3 z4 u = some (r, u') → ¬ r = 0 → rX12sumg dM 2 0 v = some (r1, v2) → (LX12_term_0_5 (rX12sumg dM) m z v2).bind K = some (r', v') → PV B L Q e u' v' k ∧ (u.1 4).toInt < (u'.1 4).toInt ∧ RUN ρ N u u' (pd z3 T (pd z2 S s)) (r' :: s) := by
  intro n
  induction n with
  | zero => intro z2 z3 z4 T S u v v2 u' v' r r' r1 z m K s _ _ _ _ _ _ _ h; cases h
  | succ n ih =>
    intro z2 z3 z4 T S u v v2 u' v' r r' r1 z m K s hP hz2 hz3 hz0 hz1 hcz hK h1 hr ha hb
    have h1 : (if (u.1 1) < z4 then _ else ((rX5conditiong dX 3 k 0 u).bind _)) = some (r, u') := h1
    have al : (u.1 4).toInt ≤ (u.1 1).toInt := hP.1.2.2.2.2.2.2.2.2.1
    rw [if_neg (fun q => by have := ltI q; omega)] at h1
    obtain ⟨⟨r2, u3⟩, a2, h1⟩ := bd_some h1
    have h1 : (if r2 = 0 then _ else _) = some (r, u') := h1
    have n2 : ¬ r2 = 0 := fun z => by
      rw [if_pos z] at h1
      have e1 : (0 : Int32) = r := by cases (gd_some h1).2; rfl
      exact hr e1.symm
    rw [if_neg n2] at h1
    have sl2 : 0 ≤ sl z2 := by unfold sl; by_cases q : z2 = 0 <;> simp [q]
    have sl3 : 0 ≤ sl z3 := by unfold sl; by_cases q : z3 = 0 <;> simp [q]
    obtain ⟨hP3, hmo, hrun⟩ := hA dM k (e + sl z2 + sl z3) u v u3 v2 r2 r1 hk (by omega) hP a2 n2 ha
    obtain ⟨⟨r3, v4⟩, hb1, hb2⟩ := bd_some hb
    obtain ⟨⟨r5, u6⟩, a5, h1⟩ := bd_some h1
    obtain ⟨⟨c, u9⟩, a8, h1⟩ := bd_some h1
    obtain ⟨hP6, e6, hrun6⟩ := pendV (ρ := ρ) (N := N) (s := pd z2 S s) (by
      rcases hz3 with q | q | q
      · exact Or.inl q
      · exact Or.inr (Or.inl q)
      · exact Or.inr (Or.inr (Or.inl q))) hP3 (by omega) hcz a5
    have run6 : RUN ρ N u u6 (pd z3 T (pd z2 S s)) (z :: pd z2 S s) := RUN_tr (hrun _) hrun6
    cases m with
    | zero => cases hb1
    | succ m =>
      have p7 : v2.1 7 = -1 := hP6.1.2.2.2.2.1
      have hb1 : (if (v2.1 7) = (-1) then ((fX12_look_0 v2).bind fun q => match q with | (r4, u5) => (if r4 = 42 then (GX12_term_0_31 (rX12sumg dM) (LX12_term_0_5 (rX12sumg dM) m) z u5) else ((fX12_look_0 u5).bind fun q => match q with | (r21, u22) => (if r21 = 47 then (GX12_term_0_31 (rX12sumg dM) (LX12_term_0_5 (rX12sumg dM) m) z u22) else (some (z, u22)))))) else (some (z, v2))) = some (r3, v4) := hb1
      rw [if_pos p7] at hb1
      obtain ⟨⟨c', v5⟩, b4, hb1⟩ := bd_some hb1
      obtain ⟨hP9, hle, hq, hz9⟩ := peekV hP6 a8 b4
      have hb1 : (if c' = 42 then (GX12_term_0_31 (rX12sumg dM) (LX12_term_0_5 (rX12sumg dM) m) z v5) else ((fX12_look_0 v5).bind fun q => match q with | (r21, u22) => (if r21 = 47 then (GX12_term_0_31 (rX12sumg dM) (LX12_term_0_5 (rX12sumg dM) m) z u22) else (some (z, u22))))) = some (r3, v4) := hb1
      have h1 : (if c = 42 then (GX5_total_2_55 (rX5conditiong dX) (LX5_total_2_7 (rX5conditiong dX) n) k z2 z4 c u9) else (if c = 47 then (GX5_total_2_55 (rX5conditiong dX) (LX5_total_2_7 (rX5conditiong dX) n) k z2 z4 c u9) else (GX5_total_2_61 (rX5conditiong dX) (LX5_total_2_7 (rX5conditiong dX) n) k z2 z4 c 0 u9))) = some (r, u') := h1
      have run9 : RUN ρ N u u9 (pd z3 T (pd z2 S s)) (z :: pd z2 S s) := RUN_r run6 hz9
      have k42 := pkq_eq hq (k := 42) (by decide) (by decide)
      have k47 := pkq_eq hq (k := 47) (by decide) (by decide)
      have k43 := pkq_eq hq (k := 43) (by decide) (by decide)
      have k45 := pkq_eq hq (k := 45) (by decide) (by decide)
      rw [e6] at hle
      have b2 : (u9.1 1).toInt ≤ 120 := hP9.1.2.2.2.2.2.2.2.2.2.1
      have b0 : 0 ≤ (u9.1 4).toInt := hP9.1.2.2.2.2.2.2.2.1
      have b1 : (u9.1 4).toInt ≤ (u9.1 1).toInt := hP9.1.2.2.2.2.2.2.2.2.1
      have p6 : v5.1 6 = u9.1 4 := hP9.1.2.2.2.2.2.1
      have sl9 : (u9.1 2).toInt + (e + sl z2) ≤ (u9.1 4).toInt := hP9.2.2.2.2.2
      have e5 : (u9.1 4 + 1).toInt = (u9.1 4).toInt + 1 := addc_t (by decide) (by omega) (by omega)
      have ez : (z4 + 1).toInt = z4.toInt + 1 := addc_t (by decide) (by omega) (by omega)
      have hlt : (c = 42 ∨ c = 47 ∨ c = 43 ∨ c = 45) → (u9.1 4).toInt < (u9.1 1).toInt := fun go => by
        rcases hq with ⟨q1, -⟩ | ⟨-, -, -, q4, -⟩
        · rw [q1] at go
          exact absurd go (by decide)
        · exact q4
      by_cases tm : c = 42 ∨ c = 47
      · -- a term goes on
        have tm' : c' = 42 ∨ c' = 47 := tm.elim (fun z => Or.inl (k42.mp z)) (fun z => Or.inr (k47.mp z))
        have ecc : c' = c := by
          rcases tm with t | t
          · rw [t]; exact k42.mp t
          · rw [t]; exact k47.mp t
        have nc0 : ¬ c = 0 := by rcases tm with t | t <;> rw [t] <;> decide
        have hlt := hlt (tm.elim Or.inl (fun z => Or.inr (Or.inl z)))
        have h1 := totX_mul tm h1
        obtain ⟨ra, va, z9, ha', hc9, hb'⟩ := termV hP9 hq tm' hb1
        rw [ecc] at hc9
        have hPn : PV B L Q (e + sl z2 + sl c) (sI u9 4 (u9.1 4 + 1)) (sI v5 6 (u9.1 4 + 1)) k := PV_at hP9 (by rw [e5]; omega) (by rw [e5]; omega) (by rw [e5, sl1 nc0]; omega)
        obtain ⟨q1, q2, q3⟩ := ih z2 c (z4 + 1) z S _ _ va u' v' r r' ra z9 m K s hPn hz2 (Or.inr tm) (by rw [ez]; omega) (by show _ ≤ (u9.1 4 + 1).toInt; rw [ez, e5]; omega) hc9 hK h1 hr ha' (by rw [hb']; exact hb2)
        have q2 : (u9.1 4 + 1).toInt < (u'.1 4).toInt := q2
        rw [e5] at q2
        refine ⟨q1, by omega, RUN_tr run9 (RUN_l ⟨rfl, rfl⟩ ?_)⟩
        have ep : pd c z (pd z2 S s) = z :: pd z2 S s := by
          show (if c = 0 then _ else _) = _
          rw [if_neg nc0]
        rw [ep] at q3
        exact q3
      · have n42 : ¬ c = 42 := fun z => tm (Or.inl z)
        have n47 : ¬ c = 47 := fun z => tm (Or.inr z)
        rw [if_neg (fun z => n42 (k42.mpr z))] at hb1
        obtain ⟨⟨c2, v6⟩, b5, hb1⟩ := bd_some hb1
        obtain ⟨x1, x2⟩ := look2V hP9 hq b5
        rw [x1, x2] at hb1
        have hb1 : (if c' = 47 then _ else some (z, v5)) = some (r3, v4) := hb1
        rw [if_neg (fun z => n47 (k47.mpr z))] at hb1
        have e34 : z = r3 ∧ v5 = v4 := by cases hb1; exact ⟨rfl, rfl⟩
        obtain ⟨m3, V, hV, hK8⟩ := hK (r3, v4)
        have hb2 : K (r3, v4) = some (r', v') := hb2
        rw [hK8, ← e34.2] at hb2
        have hV : cmb z2 S r3 = some V := hV
        rw [← e34.1] at hV
        cases m3 with
        | zero => cases hb2
        | succ m3 =>
          have p75 : v5.1 7 = -1 := hP9.1.2.2.2.2.1
          have hb2 : (if (v5.1 7) = (-1) then ((fX12_look_0 v5).bind fun q => match q with | (r4, u5) => (if r4 = 43 then (GX12_sum_0_31 (rX12sumg (dM + 1)) (LX12_sum_0_5 (rX12sumg (dM + 1)) m3) V u5) else ((fX12_look_0 u5).bind fun q => match q with | (r20, u21) => (if r20 = 45 then (GX12_sum_0_31 (rX12sumg (dM + 1)) (LX12_sum_0_5 (rX12sumg (dM + 1)) m3) V u21) else (some (V, u21)))))) else (some (V, v5))) = some (r', v') := hb2
          rw [if_pos p75] at hb2
          obtain ⟨⟨c3, v7⟩, b6, hb2⟩ := bd_some hb2
          obtain ⟨x3, x4⟩ := look2V hP9 hq b6
          rw [x3, x4] at hb2
          have hb2 : (if c' = 43 then (GX12_sum_0_31 (rX12sumg (dM + 1)) (LX12_sum_0_5 (rX12sumg (dM + 1)) m3) V v5) else ((fX12_look_0 v5).bind fun q => match q with | (r20, u21) => (if r20 = 45 then (GX12_sum_0_31 (rX12sumg (dM + 1)) (LX12_sum_0_5 (rX12sumg (dM + 1)) m3) V u21) else (some (V, u21))))) = some (r', v') := hb2
          have hz2' : z2 = 0 ∨ (z2 = 42 ∨ z2 = 47 ∨ z2 = 43 ∨ z2 = 45 ∨ z2 = 61 ∨ z2 = 60 ∨ z2 = 62 ∨ z2 = 38 ∨ z2 = 124) := by
            rcases hz2 with q | q | q
            · exact Or.inl q
            · exact Or.inr (Or.inr (Or.inr (Or.inl q)))
            · exact Or.inr (Or.inr (Or.inr (Or.inr (Or.inl q))))
          by_cases am : c = 43 ∨ c = 45
          · -- a sum goes on
            have ecc : c' = c := by
              rcases am with t | t
              · rw [t]; exact k43.mp t
              · rw [t]; exact k45.mp t
            have nc0 : ¬ c = 0 := by rcases am with t | t <;> rw [t] <;> decide
            have hlt := hlt (am.elim (fun z => Or.inr (Or.inr (Or.inl z))) (fun z => Or.inr (Or.inr (Or.inr z))))
            obtain ⟨r13, u14, a13, h1⟩ := totX_add am h1
            obtain ⟨hP14, e14, hrun14⟩ := pendV (ρ := ρ) (N := N) (s := s) hz2' hP9 he hV a13
            have f1 : u14.1 1 = u9.1 1 := emit_ln a13
            have sl14 : (u14.1 2).toInt + e ≤ (u14.1 4).toInt := hP14.2.2.2.2.2
            have hPn : PV B L Q (e + sl c + sl 0) (sI u14 4 (u14.1 4 + 1)) (sI v5 6 (u9.1 4 + 1)) k := by
              rw [e14]
              rw [e14] at sl14
              exact PV_at hP14 (by rw [e5, f1]; omega) (by rw [e5]; omega) (by rw [e5, sl1 nc0, slz]; omega)
            have go31 : GX12_sum_0_31 (rX12sumg (dM + 1)) (LX12_sum_0_5 (rX12sumg (dM + 1)) m3) V v5 = some (r', v') := by
              rcases am with t | t
              · rw [if_pos (k43.mp t)] at hb2
                exact hb2
              · rw [if_neg (by rw [ecc, t]; decide)] at hb2
                obtain ⟨⟨c5, v8⟩, b7, hb2⟩ := bd_some hb2
                obtain ⟨x5, x6⟩ := look2V hP9 hq b7
                rw [x5, x6] at hb2
                have hb2 : (if c' = 45 then _ else _) = some (r', v') := hb2
                rw [if_pos (k45.mp t)] at hb2
                exact hb2
            unfold GX12_sum_0_31 at go31
            obtain ⟨⟨c6, v9⟩, b8, go31⟩ := bd_some go31
            obtain ⟨x7, x8⟩ := look2V hP9 hq b8
            rw [x7, x8] at go31
            have go31 : (if c' = 43 then (GX12_sum_0_45 (rX12sumg (dM + 1)) (LX12_sum_0_5 (rX12sumg (dM + 1)) m3) V 1 v5) else (GX12_sum_0_45 (rX12sumg (dM + 1)) (LX12_sum_0_5 (rX12sumg (dM + 1)) m3) V 0 v5)) = some (r', v') := go31
            have both : ∀ y0 : Int32, (∀ w : Int32, ∃ W : Int32, cmb c V w = some W ∧ ∀ x : SX, (if y0 = 0 then (GX12_sum_0_77 (rX12sumg (dM + 1)) (LX12_sum_0_5 (rX12sumg (dM + 1)) m3) (V.toInt64 - w.toInt64) x) else (GX12_sum_0_77 (rX12sumg (dM + 1)) (LX12_sum_0_5 (rX12sumg (dM + 1)) m3) (V.toInt64 + w.toInt64) x)) = LX12_sum_0_5 (rX12sumg (dM + 1)) m3 W x) → GX12_sum_0_45 (rX12sumg (dM + 1)) (LX12_sum_0_5 (rX12sumg (dM + 1)) m3) V y0 v5 = some (r', v') → PV B L Q e u' v' k ∧ ((sI u14 4 (u14.1 4 + 1)).1 4).toInt < (u'.1 4).toInt ∧ RUN ρ N (sI u14 4 (u14.1 4 + 1)) u' (pd 0 0 (pd c V s)) (r' :: s) := fun y0 hy h => by
              unfold GX12_sum_0_45 at h
              obtain ⟨v10, e10, h⟩ := lt_some h
              rw [p6] at e10
              obtain ⟨⟨r12, v13⟩, a12, h⟩ := bd_some h
              rw [rS_1] at a12
              unfold fX12_term_0 at a12
              obtain ⟨⟨ra, va⟩, ha', a12⟩ := bd_some a12
              rw [e10] at ha'
              have a12 : LX12_term_0_5 (rX12sumg dM) 5000 ra va = some (r12, v13) := a12
              refine ih c 0 (z4 + 1) 0 V _ _ va u' v' r r' ra ra 5000 (fun q => (lt (q.1.toInt64) fun v15 => (if y0 = 0 then (GX12_sum_0_77 (rX12sumg (dM + 1)) (LX12_sum_0_5 (rX12sumg (dM + 1)) m3) ((V.toInt64) - v15) q.2) else (GX12_sum_0_77 (rX12sumg (dM + 1)) (LX12_sum_0_5 (rX12sumg (dM + 1)) m3) ((V.toInt64) + v15) q.2)))) s hPn (Or.inr am) (Or.inl rfl) (by rw [ez]; omega) (by show _ ≤ (u14.1 4 + 1).toInt; rw [e14, ez, e5]; omega) rfl (fun q => ?_) h1 hr ha' (by rw [a12]; exact h)
              obtain ⟨W, hW, hx⟩ := hy q.1
              exact ⟨m3, W, hW, hx q.2⟩
            have res : PV B L Q e u' v' k ∧ ((sI u14 4 (u14.1 4 + 1)).1 4).toInt < (u'.1 4).toInt ∧ RUN ρ N (sI u14 4 (u14.1 4 + 1)) u' (pd 0 0 (pd c V s)) (r' :: s) := by
              rcases am with t | t
              · rw [if_pos (k43.mp t)] at go31
                refine both 1 (fun w => ?_) go31
                obtain ⟨W, hW⟩ := bnd_of (V.toInt64 + w.toInt64)
                refine ⟨W, ?_, fun x => ?_⟩
                · unfold cmb
                  rw [t, if_neg (by decide), join43]
                  exact hW
                · rw [if_neg (by decide)]
                  unfold GX12_sum_0_77
                  rw [show fX12_within (V.toInt64 + w.toInt64) = some W from hW]
                  rfl
              · rw [if_neg (by rw [ecc, t]; decide)] at go31
                refine both 0 (fun w => ?_) go31
                obtain ⟨W, hW⟩ := bnd_of (V.toInt64 - w.toInt64)
                refine ⟨W, ?_, fun x => ?_⟩
                · unfold cmb
                  rw [t, if_neg (by decide), join45]
                  exact hW
                · rw [if_pos rfl]
                  unfold GX12_sum_0_77
                  rw [show fX12_within (V.toInt64 - w.toInt64) = some W from hW]
                  rfl
            obtain ⟨q1, q2, q3⟩ := res
            have q2 : (u14.1 4 + 1).toInt < (u'.1 4).toInt := q2
            rw [e14, e5] at q2
            refine ⟨q1, by omega, RUN_tr run9 (RUN_tr hrun14 (RUN_l ⟨rfl, rfl⟩ ?_))⟩
            have ep : pd 0 0 (pd c V s) = V :: s := by
              show (if c = 0 then _ else _) = _
              rw [if_neg nc0]
            rw [ep] at q3
            exact q3
          · -- the end of the sum
            have n43 : ¬ c = 43 := fun z => am (Or.inl z)
            have n45 : ¬ c = 45 := fun z => am (Or.inr z)
            obtain ⟨r13, a13⟩ := totX_fin n42 n47 n43 n45 h1
            obtain ⟨hP14, e14, hrun14⟩ := pendV (ρ := ρ) (N := N) (s := s) hz2' hP9 he hV a13
            rw [if_neg (fun z => n43 (k43.mpr z))] at hb2
            obtain ⟨⟨c5, v8⟩, b7, hb2⟩ := bd_some hb2
            obtain ⟨x5, x6⟩ := look2V hP9 hq b7
            rw [x5, x6] at hb2
            have hb2 : (if c' = 45 then _ else some (V, v5)) = some (r', v') := hb2
            rw [if_neg (fun z => n45 (k45.mpr z))] at hb2
            have e7 : V = r' ∧ v5 = v' := by cases hb2; exact ⟨rfl, rfl⟩
            rw [← e7.1, ← e7.2]
            exact ⟨hP14, by rw [e14]; omega, RUN_tr run9 hrun14⟩
theorem totalV {B : Int32} {L ρ : Nat → Int32} {N : Int32} {Q : Int32 × Int32 × Int32} {dX : Nat} (hA : AtmV B L ρ N Q dX) : TotV B L ρ N Q (dX + 1) := by
  intro dM k e u v u' v' r r' hk he hP h1 hr h2
  cases dM with
  | zero => cases h2
  | succ dM =>
    rw [rX_2] at h1
    unfold fX5_total_2 at h1
    rw [rS_0] at h2
    unfold fX12_sum_0 at h2
    generalize (5000 : Nat) = N1 at h1
    generalize (5000 : Nat) = N2 at h2
    obtain ⟨⟨r1, v1⟩, a1, h2⟩ := bd_some h2
    cases dM with
    | zero => cases a1
    | succ dM =>
      rw [rS_1] at a1
      unfold fX12_term_0 at a1
      generalize (5000 : Nat) = N3 at a1
      obtain ⟨⟨ra, va⟩, ha, a1⟩ := bd_some a1
      have a1 : LX12_term_0_5 (rX12sumg dM) N3 ra va = some (r1, v1) := a1
      have al0 : 0 ≤ (u.1 4).toInt := hP.1.2.2.2.2.2.2.2.1
      have q : ∀ s, PV B L Q e u' v' k ∧ (u.1 4).toInt < (u'.1 4).toInt ∧ RUN ρ N u u' (pd 0 0 (pd 0 0 s)) (r' :: s) := fun s => tot_loopV hA hk he N1 0 0 0 0 0 u v va u' v' r r' ra ra N3 (fun q => LX12_sum_0_5 (rX12sumg (dM + 1)) N2 q.1 q.2) s (PV_le hP (by rw [slz]; omega)) (Or.inl rfl) (Or.inl rfl) (by decide) al0 rfl (fun q => ⟨N2, q.1, rfl, rfl⟩) h1 hr ha (by rw [a1]; exact h2)
      exact ⟨(q []).1, (q []).2.1, fun s => (q s).2.2⟩
theorem sumsV {B : Int32} {L ρ : Nat → Int32} {N : Int32} {Q : Int32 × Int32 × Int32} (hL : LetR ρ L N Q.2.2) : ∀ dX, TotV B L ρ N Q dX ∧ AtmV B L ρ N Q dX := by
  intro dX
  induction dX with
  | zero => exact ⟨fun dM k e u v u' v' r r' _ _ _ h => (by cases h), fun dM k e u v u' v' r r' _ _ _ h => (by cases h)⟩
  | succ dX ih => exact ⟨totalV ih.2, atomV hL ih.1⟩
