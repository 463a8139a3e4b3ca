/-! What a text says: clauses, texts. -/
def CL (ρ : Nat → Int32) (N : Int32) (f : Nat → Int32) (a b : Nat) (o : Option Int32) : Prop := (∃ (n : Nat) (v : Int32), exC ρ N f n a [] = some [v] ∧ f (a + n) &&& 255 = 59 ∧ b = a + n + 1 ∧ o = some v) ∨ (∃ (n1 n2 : Nat) (c v : Int32), exC ρ N f n1 a [] = some [c] ∧ f (a + n1) &&& 255 = 63 ∧ exC ρ N f n2 (a + n1 + 1) [] = some [v] ∧ f (a + n1 + 1 + n2) &&& 255 = 59 ∧ b = a + n1 + 1 + n2 + 1 ∧ o = if c = 0 then none else some v)
theorem CL_cg {ρ f g : Nat → Int32} {N : Int32} {a b : Nat} {o : Option Int32} (h : ∀ i, i < b → g i = f i) (hc : CL ρ N f a b o) : CL ρ N g a b o := by
  rcases hc with ⟨n, v, h1, h2, h3, h4⟩ | ⟨n1, n2, c, v, h1, h2, h3, h4, h5, h6⟩
  · refine Or.inl ⟨n, v, ?_, ?_, h3, h4⟩
    · rw [exC_cg (g := f) n a [] (fun i hi => h i (by omega))]
      exact h1
    · rw [h _ (by omega)]
      exact h2
  · refine Or.inr ⟨n1, n2, c, v, ?_, ?_, ?_, ?_, h5, h6⟩
    · rw [exC_cg (g := f) n1 a [] (fun i hi => h i (by omega))]
      exact h1
    · rw [h _ (by omega)]
      exact h2
    · rw [exC_cg (g := f) n2 (a + n1 + 1) [] (fun i hi => h i (by omega))]
      exact h3
    · rw [h _ (by omega)]
      exact h4
theorem CL_lt {ρ f : Nat → Int32} {N : Int32} {a b : Nat} {o : Option Int32} (hc : CL ρ N f a b o) : a < b := by
  rcases hc with ⟨n, v, h1, h2, h3, h4⟩ | ⟨n1, n2, c, v, h1, h2, h3, h4, h5, h6⟩
  · omega
  · omega
/-- clauses that give nothing, one behind another -/
def GO (ρ : Nat → Int32) (N : Int32) (f : Nat → Int32) : Nat → Nat → Nat → Prop
  | 0, a, b => a = b
  | k + 1, a, b => ∃ c : Nat, GO ρ N f k a c ∧ CL ρ N f c b none
theorem GO_le {ρ f : Nat → Int32} {N : Int32} : ∀ (k a b : Nat), GO ρ N f k a b → a ≤ b := by
  intro k
  induction k with
  | zero => intro a b h; exact Nat.le_of_eq h
  | succ k ih =>
    intro a b h
    obtain ⟨c, h1, h2⟩ := h
    have := ih a c h1
    have := CL_lt h2
    omega
theorem GO_cg {ρ f g : Nat → Int32} {N : Int32} : ∀ (k a b : Nat), (∀ i, i < b → g i = f i) → GO ρ N f k a b → GO ρ N g k a b := by
  intro k
  induction k with
  | zero => intro a b _ h; exact h
  | succ k ih =>
    intro a b hg h
    obtain ⟨c, h1, h2⟩ := h
    have hc := CL_lt h2
    exact ⟨c, ih a c (fun i hi => hg i (by omega)) h1, CL_cg hg h2⟩
/-- the code up to b says: nothing yet (h = 0, w = 0), or w (h = 1) -/
def SAY (ρ : Nat → Int32) (N : Int32) (f : Nat → Int32) (b : Nat) (h w : Int32) : Prop := (h = 0 ∧ w = 0 ∧ ∃ k, GO ρ N f k 0 b) ∨ (h = 1 ∧ ∃ k c d, GO ρ N f k 0 c ∧ CL ρ N f c d (some w) ∧ d ≤ b)
theorem SAY_cg {ρ f g : Nat → Int32} {N : Int32} {b : Nat} {h w : Int32} (hg : ∀ i, i < b → g i = f i) (hs : SAY ρ N f b h w) : SAY ρ N g b h w := by
  rcases hs with ⟨h1, h2, k, h3⟩ | ⟨h1, k, c, d, h2, h3, h4⟩
  · exact Or.inl ⟨h1, h2, k, GO_cg k 0 b hg h3⟩
  · have hc := CL_lt h3
    exact Or.inr ⟨h1, k, c, d, GO_cg k 0 c (fun i hi => hg i (by omega)) h2, CL_cg (fun i hi => hg i (by omega)) h3, h4⟩
def PF (u u' : SX) : Prop := (u.1 2).toInt ≤ (u'.1 2).toInt ∧ ∀ i : Nat, (i : Int) < (u.1 2).toInt → u'.2.1 14 i = u.2.1 14 i
theorem PF_rf {u : SX} : PF u u := ⟨Int.le_refl _, fun _ _ => rfl⟩
theorem PF_tr {u u1 u2 : SX} (h1 : PF u u1) (h2 : PF u1 u2) : PF u u2 := by
  obtain ⟨a1, a2⟩ := h1
  obtain ⟨b1, b2⟩ := h2
  exact ⟨by omega, fun i hi => (b2 i (by omega)).trans (a2 i hi)⟩
theorem PF_sz {u u1 : SX} (h : SZ u u1) : PF u u1 := ⟨by rw [h.1]; exact Int.le_refl _, fun i _ => by rw [h.2]⟩
theorem PF_run {ρ : Nat → Int32} {N : Int32} {u u' : SX} {s t : List Int32} (h : RUN ρ N u u' s t) : PF u u' := by
  obtain ⟨a0, a1, n, a2, -⟩ := h
  exact ⟨by omega, a1⟩
theorem RUN_at {ρ : Nat → Int32} {N : Int32} {u u' w : SX} {s t : List Int32} (h : RUN ρ N u u' s t) (hp : PF u' w) : ∃ n : Nat, (u'.1 2).toNatClampNeg = (u.1 2).toNatClampNeg + n ∧ exC ρ N (w.2.1 14) n (u.1 2).toNatClampNeg s = some t := by
  obtain ⟨a0, a1, n, a2, a3⟩ := h
  refine ⟨n, ?_, ?_⟩
  · show (u'.1 2).toInt.toNat = (u.1 2).toInt.toNat + n
    omega
  · rw [exC_cg (g := u'.2.1 14) n _ s (fun i hi => hp.2 i (by
      have hi : i < (u.1 2).toInt.toNat + n := hi
      omega))]
    exact a3
/-- a word that is no part of a run -/
theorem emitP {B c r d : Int32} {L : Nat → Int32} {Q : Int32 × Int32 × Int32} {e : Int} {u u' v : SX} (h : PV B L Q (e + 1) u v d) (he0 : 0 ≤ e) (c0 : ¬ c = 0) (cb : 0 ≤ c.toInt ∧ c.toInt ≤ 255) (he : fX5_emit_2 c 0 u = some (r, u')) : PV B L Q e u' v d ∧ u'.1 4 = u.1 4 ∧ PF u u' ∧ (u'.1 2).toNatClampNeg = (u.1 2).toNatClampNeg + 1 ∧ u'.2.1 14 (u.1 2).toNatClampNeg &&& 255 = c := by
  obtain ⟨⟨pl, p2, p4, pt, p7, p6, p8, a0, a1, a2, pT⟩, pL, pB, pQ, s0, s1⟩ := h
  unfold fX5_emit_2 at he
  rw [if_neg c0, if_neg (fun z => by have z9 : (121 : Int) ≤ (u.1 2).toInt := leI z; omega)] at he
  obtain ⟨-, he⟩ := gd_some he
  obtain ⟨u2, e2, he⟩ := lt_some he
  obtain ⟨u4, e4, he⟩ := lt_some he
  have e5 : u4 = u' := by cases he; rfl
  have k2 : u'.1 2 = u.1 2 + 1 := by rw [← e5, e4, e2]; rfl
  have k14 : u'.2.1 14 = upd (u.2.1 14) (u.1 2).toNatClampNeg (((0 : Int32) <<< (8 &&& 31)) ||| c) := by rw [← e5, e4, e2]; rfl
  have e6 : (u.1 2 + 1).toInt = (u.1 2).toInt + 1 := addc_t (by decide) (by omega) (by omega)
  have f1 : u'.1 1 = u.1 1 := by rw [← e5, e4, e2]; rfl
  have f3 : u'.1 3 = u.1 3 := by rw [← e5, e4, e2]; rfl
  have f4 : u'.1 4 = u.1 4 := by rw [← e5, e4, e2]; rfl
  have f13 : u'.2.1 13 = u.2.1 13 := by rw [← e5, e4, e2]; rfl
  refine ⟨?_, f4, ⟨by rw [k2, e6]; omega, fun i hi => ?_⟩, ?_, ?_⟩
  · unfold PV TextR
    rw [f1, f3, f4, f13, k2, e6]
    exact ⟨⟨pl, p2, p4, pt, p7, p6, p8, a0, a1, a2, pT⟩, pL, pB, pQ, by omega, by omega⟩
  · rw [k14]
    show (if i = (u.1 2).toInt.toNat then _ else u.2.1 14 i) = _
    rw [if_neg (by omega)]
  · show (u'.1 2).toInt.toNat = (u.1 2).toInt.toNat + 1
    rw [k2, e6]
    omega
  · rw [k14]
    show (if (u.1 2).toNatClampNeg = (u.1 2).toNatClampNeg then (((0 : Int32) <<< (8 &&& 31)) ||| c) else _) &&& 255 = c
    rw [if_pos rfl]
    exact low8 0 c cb.1 cb.2
/-- what the reference keeps of a clause -/
def Qo (Q : Int32 × Int32 × Int32) (o : Option Int32) : Int32 × Int32 × Int32 := if Q.2.1 = 0 then (match o with | none => Q | some w => (w, 1, Q.2.2)) else Q
theorem g131V {B d z2 z3 r : Int32} {L : Nat → Int32} {Q : Int32 × Int32 × Int32} {e : Int} {u v v' : SX} (hP : PV B L Q e u v d) (h : GX12_clause_0_131 z2 z3 v = some (r, v')) : PV B L (Qo Q (if z2 = 0 then none else some z3)) e u v' d := by
  obtain ⟨⟨pl, p2, p4, pt, p7, p6, p8, a0, a1, a2, pT⟩, pL, pB, pQ, s0, s1⟩ := hP
  unfold GX12_clause_0_131 at h
  rw [if_pos p7] at h
  have q2 : Q.2.1 = v.1 11 := by rw [← pQ]
  unfold Qo
  rw [q2]
  by_cases c : v.1 11 = 0
  · rw [if_pos c] at h ⊢
    by_cases z : z2 = 0
    · rw [if_pos z] at h ⊢
      have ev : v = v' := by cases h; rfl
      rw [← ev]
      exact ⟨⟨pl, p2, p4, pt, p7, p6, p8, a0, a1, a2, pT⟩, pL, pB, pQ, s0, s1⟩
    · rw [if_neg z] at h ⊢
      obtain ⟨-, h⟩ := gd_some h
      obtain ⟨v22, e22, h⟩ := lt_some h
      obtain ⟨v24, e24, h⟩ := lt_some h
      have ev : v24 = v' := by cases h; rfl
      rw [← ev, e24, e22]
      refine ⟨⟨pl, p2, p4, pt, p7, p6, p8, a0, a1, a2, pT⟩, pL, pB, ?_, s0, s1⟩
      show (z3, (1 : Int32), v.1 10) = (z3, 1, Q.2.2)
      rw [← pQ]
  · rw [if_neg c] at h ⊢
    have ev : v = v' := by cases h; rfl
    rw [← ev]
    exact ⟨⟨pl, p2, p4, pt, p7, p6, p8, a0, a1, a2, pT⟩, pL, pB, pQ, s0, s1⟩
/-- behind the condition's beginning: condition, '?', sum, give -/
theorem tailV {B : Int32} {L ρ : Nat → Int32} {N : Int32} {Q : Int32 × Int32 × Int32} {e : Int} {b y r r' r35 : Int32} {u0 u v v36 u' v' : SX} {n0 : Nat} (hL : LetR ρ L N Q.2.2) (he : 0 ≤ e) (hb : b = 0 ∨ b = 1) (hP : PV B L Q (e + 1) u v 0) (h0 : PF u0 u) (hs0 : 0 ≤ (u0.1 2).toInt) (hn0 : (u.1 2).toNatClampNeg = (u0.1 2).toNatClampNeg + n0) (hx0 : ∀ w, PF u w → exC ρ N (w.2.1 14) n0 (u0.1 2).toNatClampNeg [] = some (pd b y [])) (h1 : GX5_clause_2_76 b u = some (r, u')) (hr : ¬ r = 0) (h35 : rX12conditiong 64 0 b y v = some (r35, v36)) (h2 : ((fX12_takes_0 63 v36).bind fun q => match q with | (r38, u39) => (if r38 = 0 then (some (0, u39)) else ((rX12sumg 64 0 0 u39).bind fun q => match q with | (r41, u42) => (GX12_clause_0_131 r35 r41 u42)))) = some (r', v')) : ∃ o : Option Int32, CL ρ N (u'.2.1 14) (u0.1 2).toNatClampNeg (u'.1 2).toNatClampNeg o ∧ PF u u' ∧ PV B L (Qo Q o) e u' v' 0 ∧ (u.1 4).toInt < (u'.1 4).toInt := by
  unfold GX5_clause_2_76 at h1
  have strip : ∀ {r2 : Int32} {u3 : SX} {X : Option (Int32 × SX)}, (if r2 = 0 then (gd (isB 0) (some (0, u3))) else X) = some (r, u') → ¬ r2 = 0 ∧ X = some (r, u') := fun {r2 u3 X} h => by
    have n2 : ¬ r2 = 0 := fun z => by
      rw [if_pos z] at h
      have e1 : (0 : Int32) = r := by cases (gd_some h).2; rfl
      exact hr e1.symm
    rw [if_neg n2] at h
    exact ⟨n2, h⟩
  obtain ⟨⟨r11, u12⟩, a11, h1⟩ := bd_some h1
  obtain ⟨n11, h1⟩ := strip h1
  obtain ⟨hP12, hm12, hb35, run12⟩ := (condsV hL 64).2 64 0 b y (e + 1) u v u12 v36 r11 r35 d0 hb (by omega) hP a11 n11 h35
  obtain ⟨⟨r15, u16⟩, a15, h1⟩ := bd_some h1
  obtain ⟨n15, h1⟩ := strip h1
  obtain ⟨⟨r38, v39⟩, b38, h2⟩ := bd_some h2
  obtain ⟨-, g38, hP16, hm16, hz16⟩ := takesV (by decide) (by decide) hP12 a15 n15 b38
  have h2 : (if r38 = 0 then _ else _) = some (r', v') := h2
  rw [if_neg (by rw [g38]; decide)] at h2
  obtain ⟨⟨r18, u19⟩, a18, h1⟩ := bd_some h1
  obtain ⟨hP19, f19, pf19, sz19, w19⟩ := emitP (e := e + 1) hP16 (by omega) (by decide) (by decide) a18
  obtain ⟨⟨r21, u22⟩, a21, h1⟩ := bd_some h1
  obtain ⟨n21, h1⟩ := strip h1
  obtain ⟨⟨r41, v42⟩, b41, h2⟩ := bd_some h2
  obtain ⟨hP22, hm22, run22⟩ := (sumsV hL 64).1 64 0 (e + 1) u19 v39 u22 v42 r21 r41 d0 (by omega) hP19 a21 n21 b41
  obtain ⟨⟨r24, u25⟩, a24, h1⟩ := bd_some h1
  obtain ⟨-, h1⟩ := gd_some h1
  have e1 : u25 = u' := by cases h1; rfl
  obtain ⟨hP25, f25, pf25, sz25, w25⟩ := emitP (e := e) hP22 he (by decide) (by decide) a24
  have h2 : GX12_clause_0_131 r35 r41 v42 = some (r', v') := h2
  have hPf := g131V hP25 h2
  rw [← e1]
  -- the code of the whole clause, as it stands at the end
  have pf1 : PF u12 u25 := PF_tr (PF_sz hz16) (PF_tr pf19 (PF_tr (PF_run (run22 [])) pf25))
  obtain ⟨n1, l1, x1⟩ := RUN_at (run12 []) pf1
  obtain ⟨n2, l2, x2⟩ := RUN_at (run22 []) pf25
  have pfu : PF u u25 := PF_tr (PF_run (run12 [])) pf1
  have x0 := hx0 u25 pfu
  refine ⟨if r35 = 0 then none else some r41, Or.inr ⟨n0 + n1, n2, r35, r41, ?_, ?_, ?_, ?_, ?_, rfl⟩, pfu, hPf, ?_⟩
  · rw [exC_add, x0]
    show exC ρ N (u25.2.1 14) n1 ((u0.1 2).toNatClampNeg + n0) (pd b y []) = some [r35]
    rw [← hn0]
    exact x1
  · have ei : (u0.1 2).toNatClampNeg + (n0 + n1) = (u16.1 2).toNatClampNeg := by
      rw [hz16.1, l1, hn0]
      omega
    have s16 : 0 ≤ (u16.1 2).toInt := hP16.2.2.2.2.1
    have pf3 : PF u19 u25 := PF_tr (PF_run (run22 [])) pf25
    rw [ei, pf3.2 _ (by
      have q : (u19.1 2).toInt.toNat = (u16.1 2).toInt.toNat + 1 := sz19
      show (((u16.1 2).toInt.toNat : Nat) : Int) < _
      omega)]
    exact w19
  · have ei : (u0.1 2).toNatClampNeg + (n0 + n1) + 1 = (u19.1 2).toNatClampNeg := by
      rw [sz19, hz16.1, l1, hn0]
      omega
    rw [ei]
    exact x2
  · have ei : (u0.1 2).toNatClampNeg + (n0 + n1) + 1 + n2 = (u22.1 2).toNatClampNeg := by
      rw [l2, sz19, hz16.1, l1, hn0]
      omega
    rw [ei]
    exact w25
  · rw [sz25, l2, sz19, hz16.1, l1, hn0]
    omega
  · rw [f25]
    rw [f19] at hm22
    omega
set_option maxHeartbeats 1000000 in
theorem clauseV {B : Int32} {L ρ : Nat → Int32} {N : Int32} {Q : Int32 × Int32 × Int32} {e : Int} {r r' : Int32} {u v u' v' : SX} (hL : LetR ρ L N Q.2.2) (he : 0 ≤ e) (hP : PV B L Q e u v 0) (h1 : fX5_clause_2 u = some (r, u')) (hr : ¬ r = 0) (h2 : fX12_clause_0 v = some (r', v')) : ∃ o : Option Int32, CL ρ N (u'.2.1 14) (u.1 2).toNatClampNeg (u'.1 2).toNatClampNeg o ∧ PF u u' ∧ PV B L (Qo Q o) e u' v' 0 ∧ (u.1 4).toInt < (u'.1 4).toInt := by
  unfold fX5_clause_2 at h1
  unfold fX12_clause_0 at h2
  have strip : ∀ {r2 : Int32} {u3 : SX} {X : Option (Int32 × SX)}, (if r2 = 0 then (gd (isB 0) (some (0, u3))) else X) = some (r, u') → ¬ r2 = 0 ∧ X = some (r, u') := fun {r2 u3 X} h => by
    have n2 : ¬ r2 = 0 := fun z => by
      rw [if_pos z] at h
      have e1 : (0 : Int32) = r := by cases (gd_some h).2; rfl
      exact hr e1.symm
    rw [if_neg n2] at h
    exact ⟨n2, h⟩
  obtain ⟨⟨r1, u2⟩, a1, h1⟩ := bd_some h1
  obtain ⟨n1, h1⟩ := strip h1
  -- the sign y
  have p7 : v.1 7 = -1 := hP.1.2.2.2.2.1
  obtain ⟨⟨c1, v2⟩, b1, h2⟩ := bd_some h2
  have h2 : (if c1 = 121 then _ else _) = some (r', v') := h2
  have tk : c1 = 121 ∧ PV B L Q (e + 1) u2 (sI v2 6 (v2.1 6 + 1)) 0 ∧ (u.1 4).toInt < (u2.1 4).toInt ∧ SZ u u2 := by
    unfold fX5_takes_2 at a1
    obtain ⟨⟨c, w2⟩, q1, a1⟩ := bd_some a1
    obtain ⟨hP2, hle, hq, hz⟩ := peekV hP q1 b1
    have a1 : (if c = 121 then (lt (sI w2 4 ((w2.1 4) + 1)) fun u4 => (gd (isB 1) (some (1, u4)))) else (gd (isB 0) (some (0, w2)))) = some (r1, u2) := a1
    have hk := pkq_eq hq (k := 121) (by decide) (by decide)
    by_cases ec : c = 121
    · rw [if_pos ec] at a1
      obtain ⟨u4, j4, a1⟩ := lt_some a1
      obtain ⟨-, a1⟩ := gd_some a1
      have e1 : u4 = u2 := by cases a1; rfl
      have hlt : (w2.1 4).toInt < (w2.1 1).toInt := by
        rcases hq with ⟨q1, -⟩ | ⟨-, -, -, q4, -⟩
        · rw [ec] at q1
          exact absurd q1 (by decide)
        · exact q4
      have bb : (w2.1 1).toInt ≤ 120 := hP2.1.2.2.2.2.2.2.2.2.2.1
      have b0 : 0 ≤ (w2.1 4).toInt := hP2.1.2.2.2.2.2.2.2.1
      have p6 : v2.1 6 = w2.1 4 := hP2.1.2.2.2.2.2.1
      have sll : (w2.1 2).toInt + e ≤ (w2.1 4).toInt := hP2.2.2.2.2.2
      have e5 : (w2.1 4 + 1).toInt = (w2.1 4).toInt + 1 := addc_t (by decide) (by omega) (by omega)
      rw [← e1, j4, p6]
      refine ⟨hk.mp ec, PV_at hP2 (by rw [e5]; omega) (by rw [e5]; omega) (by rw [e5]; omega), ?_, SZ_tr hz ⟨rfl, rfl⟩⟩
      show _ < (w2.1 4 + 1).toInt
      rw [e5]
      omega
    · rw [if_neg ec] at a1
      have e1 : (0 : Int32) = r1 := by cases (gd_some a1).2; rfl
      exact absurd e1.symm n1
  obtain ⟨ec1, hP2, hm2, hz2⟩ := tk
  rw [if_pos ec1] at h2
  obtain ⟨v4, i4, h2⟩ := lt_some h2
  rw [← i4] at hP2
  obtain ⟨⟨r5, u6⟩, a5, h1⟩ := bd_some h1
  obtain ⟨n5, h1⟩ := strip h1
  obtain ⟨⟨r6, v7⟩, b6, h2⟩ := bd_some h2
  obtain ⟨-, g6, hP6, hm6, hz6⟩ := takesV (by decide) (by decide) hP2 a5 n5 b6
  have h2 : (if r6 = 0 then _ else _) = some (r', v') := h2
  rw [if_neg (by rw [g6]; decide)] at h2
  obtain ⟨⟨c, u9⟩, a8, h1⟩ := bd_some h1
  obtain ⟨⟨c', v10⟩, b9, h2⟩ := bd_some h2
  obtain ⟨hP9, hm9, hq, hz9⟩ := peekV hP6 a8 b9
  have hP9 : PV B L Q (e + 1 + 1) u9 v10 0 := hP9
  have hz : SZ u u9 := SZ_tr hz2 (SZ_tr hz6 hz9)
  have s9 : 0 ≤ (u.1 2).toInt := hP.2.2.2.2.1
  have k33 := pkq_eq hq (k := 33) (by decide) (by decide)
  have k40 := pkq_eq hq (k := 40) (by decide) (by decide)
  have h1 : (if c = 33 then (GX5_clause_2_41 u9) else (if c = 40 then (GX5_clause_2_41 u9) else (GX5_clause_2_42 1 u9))) = some (r, u') := h1
  have h2 : (if c' = 33 then (GX12_clause_0_61 v10) else (if c' = 40 then (GX12_clause_0_61 v10) else ((rX12sumg 64 0 0 v10).bind fun q => match q with | (r26, u27) => (if (u27.1 7) = (-1) then ((fX12_look_0 u27).bind fun q => match q with | (r29, u30) => ((fX12_isSign r29).bind fun r32 => (if r32 = 0 then (GX12_clause_0_131 1 r26 u30) else ((rX12conditiong 64 0 1 r26 u30).bind fun q => match q with | (r35, u36) => ((fX12_takes_0 63 u36).bind fun q => match q with | (r38, u39) => (if r38 = 0 then (some (0, u39)) else ((rX12sumg 64 0 0 u39).bind fun q => match q with | (r41, u42) => (GX12_clause_0_131 r35 r41 u42)))))))) else (GX12_clause_0_131 1 r26 u27))))) = some (r', v') := h2
  by_cases bg : c = 33 ∨ c = 40
  · have h1 : GX5_clause_2_76 0 u9 = some (r, u') := by
      have h1 : GX5_clause_2_41 u9 = some (r, u') := by
        rcases bg with q | q
        · rw [if_pos q] at h1; exact h1
        · rw [if_neg (by rw [q]; decide), if_pos q] at h1; exact h1
      unfold GX5_clause_2_41 GX5_clause_2_42 at h1
      rw [if_pos rfl] at h1
      exact h1
    have h2 : GX12_clause_0_61 v10 = some (r', v') := by
      rcases bg with q | q
      · rw [if_pos (k33.mp q)] at h2; exact h2
      · rw [if_neg (by rw [k40.mp q]; decide), if_pos (k40.mp q)] at h2; exact h2
    unfold GX12_clause_0_61 at h2
    obtain ⟨⟨r12, v13⟩, b12, h2⟩ := bd_some h2
    obtain ⟨o, q1, q2, q3, q4⟩ := tailV (u0 := u) (n0 := 0) (y := 0) hL he (Or.inl rfl) (PV_le hP9 (by omega)) (PF_sz hz) s9 (by rw [hz.1]; rfl) (fun w _ => rfl) h1 hr b12 h2
    exact ⟨o, q1, PF_tr (PF_sz hz) q2, q3, by omega⟩
  · have n33 : ¬ c = 33 := fun z => bg (Or.inl z)
    have n40 : ¬ c = 40 := fun z => bg (Or.inr z)
    rw [if_neg n33, if_neg n40] at h1
    rw [if_neg (fun z => n33 (k33.mpr z)), if_neg (fun z => n40 (k40.mpr z))] at h2
    unfold GX5_clause_2_42 at h1
    rw [if_neg (by decide)] at h1
    obtain ⟨⟨r30, u31⟩, a30, h1⟩ := bd_some h1
    obtain ⟨n30, h1⟩ := strip h1
    obtain ⟨⟨r26, v27⟩, b26, h2⟩ := bd_some h2
    obtain ⟨hP31, hm31, run31⟩ := (sumsV hL 64).1 64 0 (e + 1 + 1) u9 v10 u31 v27 r30 r26 d0 (by omega) hP9 a30 n30 b26
    have p27 : v27.1 7 = -1 := hP31.1.2.2.2.2.1
    have h2 : (if (v27.1 7) = (-1) then ((fX12_look_0 v27).bind fun q => match q with | (r29, u30) => ((fX12_isSign r29).bind fun r32 => (if r32 = 0 then (GX12_clause_0_131 1 r26 u30) else ((rX12conditiong 64 0 1 r26 u30).bind fun q => match q with | (r35, u36) => ((fX12_takes_0 63 u36).bind fun q => match q with | (r38, u39) => (if r38 = 0 then (some (0, u39)) else ((rX12sumg 64 0 0 u39).bind fun q => match q with | (r41, u42) => (GX12_clause_0_131 r35 r41 u42)))))))) else (GX12_clause_0_131 1 r26 v27)) = some (r', v') := h2
    rw [if_pos p27] at h2
    obtain ⟨⟨c2, u34⟩, a33, h1⟩ := bd_some h1
    obtain ⟨⟨c2', v30⟩, b29, h2⟩ := bd_some h2
    obtain ⟨hP34, hm34, hq2, hz34⟩ := peekV hP31 a33 b29
    obtain ⟨x7, a36, h1⟩ := bd_some h1
    obtain ⟨y7, b32, h2⟩ := bd_some h2
    obtain ⟨exy, -⟩ := sgn_eq hq2 a36 b32
    rw [← exy] at h2
    by_cases z : x7 = 0
    · rw [if_pos z] at h1 h2
      obtain ⟨⟨r39, u40⟩, a39, h1⟩ := bd_some h1
      obtain ⟨-, h1⟩ := gd_some h1
      have e1 : u40 = u' := by cases h1; rfl
      obtain ⟨hP40, f40, pf40, sz40, w40⟩ := emitP (e := e + 1) hP34 (by omega) (by decide) (by decide) a39
      have hPf := g131V (PV_le hP40 (show e ≤ e + 1 by omega)) h2
      rw [if_neg (by decide)] at hPf
      have run : RUN ρ N u u34 [] [r26] := RUN_l hz (RUN_r (run31 []) hz34)
      obtain ⟨n, l1, x1⟩ := RUN_at run pf40
      rw [← e1]
      refine ⟨some r26, Or.inl ⟨n, r26, x1, ?_, ?_, rfl⟩, PF_tr (PF_run run) pf40, hPf, by rw [f40]; omega⟩
      · rw [← l1]
        exact w40
      · rw [sz40, l1]
    · rw [if_neg z] at h1 h2
      obtain ⟨⟨r35, v36⟩, b35, h2⟩ := bd_some h2
      have run : RUN ρ N u u34 [] [r26] := RUN_l hz (RUN_r (run31 []) hz34)
      obtain ⟨n, l1, -⟩ := RUN_at run (PF_rf (u := u34))
      have hp1 : pd 1 r26 [] = [r26] := by
        show (if (1 : Int32) = 0 then _ else _) = _
        rw [if_neg (by decide)]
      obtain ⟨o, q1, q2, q3, q4⟩ := tailV (u0 := u) (n0 := n) (y := r26) hL he (Or.inr rfl) (PV_le hP34 (by omega)) (PF_run run) s9 l1 (fun w hw => by
        obtain ⟨n', l2, x2⟩ := RUN_at run hw
        have en : n' = n := by omega
        rw [hp1, ← en]
        exact x2) h1 hr b35 h2
      exact ⟨o, q1, PF_tr (PF_run run) q2, q3, by omega⟩
