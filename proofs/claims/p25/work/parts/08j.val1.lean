/-! What a text says: the class's code and the reference's reading. -/
def exB (v x : Int32) : List Int32 → Option (List Int32)
  | [] => none
  | y :: t => (fX10_join v y.toInt64 x.toInt64).bind fun j => (fX10_bounded j).bind fun b => some (b :: t)
def exU (v : Int32) : List Int32 → Option (List Int32)
  | [] => none
  | x :: t => if v = 33 then some ((1 - x) :: t) else exB v x t
theorem exB_c {v x y : Int32} {t : List Int32} : exB v x (y :: t) = (fX10_join v y.toInt64 x.toInt64).bind fun j => (fX10_bounded j).bind fun b => some (b :: t) := rfl
theorem exU_c {v x : Int32} {t : List Int32} : exU v (x :: t) = if v = 33 then some ((1 - x) :: t) else exB v x t := rfl
def exW (ρ : Nat → Int32) (N w : Int32) (s : List Int32) : Option (List Int32) :=
  if w &&& 255 = 59 then none else if w &&& 255 = 63 then none else if w &&& 255 = 48 then some ((w >>> (8 &&& 31)) :: s) else if w &&& 255 = 121 then (if w >>> (8 &&& 31) < 0 then none else if w >>> (8 &&& 31) < N then some (ρ (w >>> (8 &&& 31)).toNatClampNeg :: s) else none) else exU (w &&& 255) s
def exC (ρ : Nat → Int32) (N : Int32) (f : Nat → Int32) : Nat → Nat → List Int32 → Option (List Int32)
  | 0, _, s => some s
  | n + 1, a, s => (exW ρ N (f a) s).bind fun t => exC ρ N f n (a + 1) t
theorem exC_add {ρ f : Nat → Int32} {N : Int32} (n : Nat) : ∀ (m a : Nat) (s : List Int32), exC ρ N f (m + n) a s = (exC ρ N f m a s).bind fun t => exC ρ N f n (a + m) t := by
  intro m
  induction m with
  | zero =>
    intro a s
    rw [Nat.zero_add]
    rfl
  | succ m ih =>
    intro a s
    rw [Nat.succ_add]
    show (exW ρ N (f a) s).bind (fun t => exC ρ N f (m + n) (a + 1) t) = ((exW ρ N (f a) s).bind fun t => exC ρ N f m (a + 1) t).bind fun t => exC ρ N f n (a + (m + 1)) t
    cases exW ρ N (f a) s with
    | none => rfl
    | some t =>
      show exC ρ N f (m + n) (a + 1) t = (exC ρ N f m (a + 1) t).bind fun t => exC ρ N f n (a + (m + 1)) t
      rw [ih, show a + (m + 1) = a + 1 + m by omega]
theorem exC_cg {ρ f g : Nat → Int32} {N : Int32} : ∀ (n a : Nat) (s : List Int32), (∀ i : Nat, i < a + n → f i = g i) → exC ρ N f n a s = exC ρ N g n a s := by
  intro n
  induction n with
  | zero => intro a s _; rfl
  | succ n ih =>
    intro a s h
    show (exW ρ N (f a) s).bind (fun t => exC ρ N f n (a + 1) t) = (exW ρ N (g a) s).bind fun t => exC ρ N g n (a + 1) t
    rw [h a (by omega)]
    cases exW ρ N (g a) s with
    | none => rfl
    | some t => exact ih (a + 1) t (fun i hi => h i (by omega))
/-- the code between two states of the parser, played on a stack -/
def RUN (ρ : Nat → Int32) (N : Int32) (u u' : SX) (s t : List Int32) : Prop := 0 ≤ (u.1 2).toInt ∧ (∀ i : Nat, (i : Int) < (u.1 2).toInt → u'.2.1 14 i = u.2.1 14 i) ∧ ∃ n : Nat, (u'.1 2).toInt = (u.1 2).toInt + (n : Int) ∧ exC ρ N (u'.2.1 14) n (u.1 2).toNatClampNeg s = some t
def SZ (u u' : SX) : Prop := u'.1 2 = u.1 2 ∧ u'.2.1 14 = u.2.1 14
theorem SZ_tr {u u1 u2 : SX} (h1 : SZ u u1) (h2 : SZ u1 u2) : SZ u u2 := ⟨h2.1.trans h1.1, h2.2.trans h1.2⟩
theorem RUN_rf {ρ : Nat → Int32} {N : Int32} {u : SX} {s : List Int32} (h0 : 0 ≤ (u.1 2).toInt) : RUN ρ N u u s s := ⟨h0, fun _ _ => rfl, 0, by omega, rfl⟩
theorem RUN_l {ρ : Nat → Int32} {N : Int32} {u u1 u2 : SX} {s t : List Int32} (h : SZ u u1) (hr : RUN ρ N u1 u2 s t) : RUN ρ N u u2 s t := by
  obtain ⟨h1, h2⟩ := h
  unfold RUN at hr ⊢
  rw [h1, h2] at hr
  exact hr
theorem RUN_r {ρ : Nat → Int32} {N : Int32} {u u1 u2 : SX} {s t : List Int32} (hr : RUN ρ N u u1 s t) (h : SZ u1 u2) : RUN ρ N u u2 s t := by
  obtain ⟨h1, h2⟩ := h
  unfold RUN at hr ⊢
  rw [h1, h2]
  exact hr
theorem RUN_tr {ρ : Nat → Int32} {N : Int32} {u u1 u2 : SX} {s t w : List Int32} (h1 : RUN ρ N u u1 s t) (h2 : RUN ρ N u1 u2 t w) : RUN ρ N u u2 s w := by
  obtain ⟨a0, a1, n1, a2, a3⟩ := h1
  obtain ⟨b0, b1, n2, b2, b3⟩ := h2
  refine ⟨a0, fun i hi => (b1 i (by omega)).trans (a1 i hi), n1 + n2, by omega, ?_⟩
  have e1 : exC ρ N (u2.2.1 14) n1 (u.1 2).toNatClampNeg s = some t := by
    rw [exC_cg (g := u1.2.1 14) n1 (u.1 2).toNatClampNeg s (fun i hi => b1 i (by
      have hi : i < (u.1 2).toInt.toNat + n1 := hi
      omega))]
    exact a3
  have e2 : (u.1 2).toNatClampNeg + n1 = (u1.1 2).toNatClampNeg := by
    show (u.1 2).toInt.toNat + n1 = (u1.1 2).toInt.toNat
    omega
  rw [exC_add, e1]
  show exC ρ N (u2.2.1 14) n2 ((u.1 2).toNatClampNeg + n1) t = some w
  rw [e2]
  exact b3
/-- the bytes of a kept text are those of the tape it was made of -/
def TextR (B : Int32) (u v : SX) (n : Int) : Prop := ∀ i : Nat, (i : Int) < n → (1 ≤ (u.2.1 13 i).toInt ∧ (u.2.1 13 i).toInt ≤ 255) ∧ v.2.1 2 (B.toNatClampNeg + i) &&& 255 = u.2.1 13 i ∧ (((u.2.1 13 i).toInt ≤ 127 ∧ v.2.1 2 (B.toNatClampNeg + i) = u.2.1 13 i) ∨ (128 ≤ (u.2.1 13 i).toInt ∧ (v.2.1 2 (B.toNatClampNeg + i)).toInt < 0))
/-- the class reads the tape, the reference the kept text; e: how many bytes are not code yet -/
def PV (B : Int32) (L : Nat → Int32) (Q : Int32 × Int32 × Int32) (e : Int) (u v : SX) (d : Int32) : Prop := (u.1 1 = v.1 5 ∧ v.1 2 = 3 ∧ v.1 4 = B ∧ ((u.1 3 = 0 ∧ v.1 10 = 5) ∨ (u.1 3 = 1 ∧ v.1 10 = 6) ∨ (u.1 3 = 2 ∧ v.1 10 = 7)) ∧ v.1 7 = -1 ∧ v.1 6 = u.1 4 ∧ v.1 8 = d ∧ 0 ≤ (u.1 4).toInt ∧ (u.1 4).toInt ≤ (u.1 1).toInt ∧ (u.1 1).toInt ≤ 120 ∧ TextR B u v (u.1 1).toInt) ∧ v.2.1 5 = L ∧ (0 ≤ B.toInt ∧ B.toInt ≤ 4200) ∧ (v.1 9, v.1 11, v.1 10) = Q ∧ 0 ≤ (u.1 2).toInt ∧ (u.1 2).toInt + e ≤ (u.1 4).toInt
theorem PV_at {B d x : Int32} {L : Nat → Int32} {Q : Int32 × Int32 × Int32} {e e' : Int} {u v : SX} (h : PV B L Q e u v d) (h1 : x.toInt ≤ (u.1 1).toInt) (h0 : 0 ≤ x.toInt) (h2 : (u.1 2).toInt + e' ≤ x.toInt) : PV B L Q e' (sI u 4 x) (sI v 6 x) d := by
  obtain ⟨⟨pl, p2, p4, pt, p7, p6, p8, a0, a1, a2, pT⟩, pL, pB, pQ, s0, s1⟩ := h
  exact ⟨⟨pl, p2, p4, pt, p7, rfl, p8, h0, h1, a2, pT⟩, pL, pB, pQ, s0, h2⟩
theorem PV_deep {B d k : Int32} {L : Nat → Int32} {Q : Int32 × Int32 × Int32} {e : Int} {u v : SX} (h : PV B L Q e u v d) : PV B L Q e u (sI v 8 k) k := by
  obtain ⟨⟨pl, p2, p4, pt, p7, p6, p8, a0, a1, a2, pT⟩, pL, pB, pQ, s0, s1⟩ := h
  exact ⟨⟨pl, p2, p4, pt, p7, p6, rfl, a0, a1, a2, pT⟩, pL, pB, pQ, s0, s1⟩
theorem PV_le {B d : Int32} {L : Nat → Int32} {Q : Int32 × Int32 × Int32} {e e' : Int} {u v : SX} (h : PV B L Q e u v d) (he : e' ≤ e) : PV B L Q e' u v d := by
  obtain ⟨p, pL, pB, pQ, s0, s1⟩ := h
  exact ⟨p, pL, pB, pQ, s0, by omega⟩
/-- one word of code -/
theorem emitV {B c w r d : Int32} {L ρ : Nat → Int32} {N : Int32} {Q : Int32 × Int32 × Int32} {e : Int} {u u' v : SX} {s t : List Int32} (h : PV B L Q (e + 1) u v d) (he0 : 0 ≤ e) (c0 : ¬ c = 0) (he : fX5_emit_2 c w u = some (r, u')) (hx : exW ρ N ((w <<< (8 &&& 31)) ||| c) s = some t) : PV B L Q e u' v d ∧ u'.1 4 = u.1 4 ∧ RUN ρ N u u' s t := by
  obtain ⟨⟨pl, p2, p4, pt, p7, p6, p8, a0, a1, a2, pT⟩, pL, pB, pQ, s0, s1⟩ := h
  unfold fX5_emit_2 at he
  rw [if_neg c0, if_neg (fun z => by have z9 : (121 : Int) ≤ (u.1 2).toInt := leI z; omega)] at he
  obtain ⟨-, he⟩ := gd_some he
  obtain ⟨u2, e2, he⟩ := lt_some he
  obtain ⟨u4, e4, he⟩ := lt_some he
  have e5 : u4 = u' := by cases he; rfl
  have k2 : u'.1 2 = u.1 2 + 1 := by rw [← e5, e4, e2]; rfl
  have k14 : u'.2.1 14 = upd (u.2.1 14) (u.1 2).toNatClampNeg ((w <<< (8 &&& 31)) ||| c) := by rw [← e5, e4, e2]; rfl
  have e6 : (u.1 2 + 1).toInt = (u.1 2).toInt + 1 := addc_t (by decide) (by omega) (by omega)
  have f1 : u'.1 1 = u.1 1 := by rw [← e5, e4, e2]; rfl
  have f3 : u'.1 3 = u.1 3 := by rw [← e5, e4, e2]; rfl
  have f4 : u'.1 4 = u.1 4 := by rw [← e5, e4, e2]; rfl
  have f13 : u'.2.1 13 = u.2.1 13 := by rw [← e5, e4, e2]; rfl
  refine ⟨?_, f4, s0, fun i hi => ?_, 1, by rw [k2, e6]; rfl, ?_⟩
  · unfold PV TextR
    rw [f1, f3, f4, f13, k2, e6]
    exact ⟨⟨pl, p2, p4, pt, p7, p6, p8, a0, a1, a2, pT⟩, pL, pB, pQ, by omega, by omega⟩
  · rw [k14]
    show (if i = (u.1 2).toInt.toNat then _ else u.2.1 14 i) = _
    rw [if_neg (by omega)]
  · show (exW ρ N (u'.2.1 14 (u.1 2).toNatClampNeg) s).bind (fun t => some t) = some t
    rw [k14]
    show (exW ρ N (if (u.1 2).toNatClampNeg = (u.1 2).toNatClampNeg then ((w <<< (8 &&& 31)) ||| c) else _) s).bind (fun t => some t) = some t
    rw [if_pos rfl, hx]
    rfl
theorem emit0 {w r : Int32} {u u' : SX} (he : fX5_emit_2 0 w u = some (r, u')) : u' = u := by
  unfold fX5_emit_2 at he
  rw [if_pos rfl] at he
  cases he
  rfl
theorem idxV {B x : Int32} (h0 : 0 ≤ B.toInt) (h1 : B.toInt ≤ 4200) (h2 : 0 ≤ x.toInt) (h3 : x.toInt ≤ 120) : (B + x).toNatClampNeg = B.toNatClampNeg + x.toNatClampNeg := by
  show (B + x).toInt.toNat = B.toInt.toNat + x.toInt.toNat
  rw [add_t (by omega) (by omega)]
  omega
theorem PV_sgn {B d : Int32} {L : Nat → Int32} {Q : Int32 × Int32 × Int32} {e : Int} {u v : SX} (h : PV B L Q e u v d) (hlt : (u.1 4).toInt < (u.1 1).toInt) : (1 ≤ (u.2.1 13 (u.1 4).toNatClampNeg).toInt ∧ (u.2.1 13 (u.1 4).toNatClampNeg).toInt ≤ 255) ∧ v.2.1 2 (B + u.1 4).toNatClampNeg &&& 255 = u.2.1 13 (u.1 4).toNatClampNeg ∧ (((u.2.1 13 (u.1 4).toNatClampNeg).toInt ≤ 127 ∧ v.2.1 2 (B + u.1 4).toNatClampNeg = u.2.1 13 (u.1 4).toNatClampNeg) ∨ (128 ≤ (u.2.1 13 (u.1 4).toNatClampNeg).toInt ∧ (v.2.1 2 (B + u.1 4).toNatClampNeg).toInt < 0)) := by
  obtain ⟨⟨pl, p2, p4, pt, p7, p6, p8, a0, a1, a2, pT⟩, pL, pB, pQ, s0, s1⟩ := h
  rw [idxV pB.1 pB.2 a0 (by omega)]
  exact pT _ (by show (((u.1 4).toInt.toNat : Nat) : Int) < _; omega)
theorem pkkV {B d : Int32} {L : Nat → Int32} {Q : Int32 × Int32 × Int32} {e : Int} : ∀ (n m : Nat) (u v u' v' : SX) (c c' : Int32), PV B L Q e u v d → LX5_peek_2_0 GX5_peek_2_44 n u = some (c, u') → LX12_look_0_0 GX12_look_0_43 m v = some (c', v') → PV B L Q e u' v' d ∧ (u.1 4).toInt ≤ (u'.1 4).toInt ∧ PKQ c c' u' ∧ SZ u u' := by
  intro n
  induction n with
  | zero => intro m u v u' v' c c' _ h; cases h
  | succ n ih =>
    intro m u v u' v' c c' hP h1 h2
    cases m with
    | zero => cases h2
    | succ m =>
      have hP0 := hP
      obtain ⟨⟨pl, p2, p4, pt, p7, p6, p8, a0, a1, a2, pT⟩, pL, pB, pQ, s0, s1⟩ := hP
      have n2 : ¬ v.1 2 = 2 := by rw [p2]; decide
      have h1 : (if u.1 1 ≤ u.1 4 then GX5_peek_2_44 u else (gd (inb (u.1 4) 120) (if u.2.1 13 (u.1 4).toNatClampNeg = 32 then lt (sI u 4 (u.1 4 + 1)) (fun u2 => LX5_peek_2_0 GX5_peek_2_44 n u2) else GX5_peek_2_44 u))) = some (c, u') := h1
      have h2 : (if v.1 5 ≤ v.1 6 then GX12_look_0_43 v else (if v.1 2 = 2 then _ else (if v.1 2 = 3 then (gd (inb (v.1 4 + v.1 6) 4320) (if v.2.1 2 (v.1 4 + v.1 6).toNatClampNeg = 32 then lt (sI v 6 (v.1 6 + 1)) (fun u2 => LX12_look_0_0 GX12_look_0_43 m u2) else GX12_look_0_43 v)) else none))) = some (c', v') := h2
      rw [← pl, p6, p4] at h2
      by_cases e0 : u.1 1 ≤ u.1 4
      · rw [if_pos e0] at h1 h2
        unfold GX5_peek_2_44 at h1
        unfold GX12_look_0_43 at h2
        rw [← pl, p6, if_pos e0] at h2
        rw [if_pos e0] at h1
        have e1 : (0 : Int32) = c ∧ u = u' := by cases h1; exact ⟨rfl, rfl⟩
        have e2 : (-1 : Int32) = c' ∧ v = v' := by cases h2; exact ⟨rfl, rfl⟩
        rw [← e1.1, ← e1.2, ← e2.1, ← e2.2]
        refine ⟨hP0, Int.le_refl _, Or.inl ⟨rfl, rfl, ?_⟩, rfl, rfl⟩
        have := leI e0
        omega
      · rw [if_neg e0] at h1 h2
        have e9 : ¬ (u.1 1).toInt ≤ (u.1 4).toInt := nleI e0
        have e5 : (u.1 4 + 1).toInt = (u.1 4).toInt + 1 := addc_t (by decide) (by omega) (by omega)
        rw [if_neg n2, if_pos p2] at h2
        obtain ⟨-, h1⟩ := gd_some h1
        obtain ⟨-, h2⟩ := gd_some h2
        obtain ⟨⟨b1, b2⟩, hm, hraw⟩ := PV_sgn hP0 (by omega)
        have hs := sp_eq (k := 32) (n := 32) (by decide) (by decide) (by decide) hraw
        by_cases s : u.2.1 13 (u.1 4).toNatClampNeg = 32
        · rw [if_pos s] at h1
          rw [if_pos (hs.mpr s)] at h2
          obtain ⟨u2, j1, h1⟩ := lt_some h1
          obtain ⟨v2, j2, h2⟩ := lt_some h2
          have q := ih m u2 v2 u' v' c c' (by rw [j1, j2]; exact PV_at hP0 (by rw [e5]; omega) (by rw [e5]; omega) (by rw [e5]; omega)) h1 h2
          refine ⟨q.1, ?_, q.2.2.1, SZ_tr ⟨by rw [j1]; rfl, by rw [j1]; rfl⟩ q.2.2.2⟩
          have q2 := q.2.1
          have k : u2.1 4 = u.1 4 + 1 := by rw [j1]; rfl
          rw [k, e5] at q2
          omega
        · rw [if_neg s] at h1
          rw [if_neg (fun z => s (hs.mp z))] at h2
          unfold GX5_peek_2_44 at h1
          unfold GX12_look_0_43 at h2
          rw [← pl, p6, if_neg e0, if_neg n2, if_pos p2, p4] at h2
          rw [if_neg e0] at h1
          obtain ⟨-, h1⟩ := gd_some h1
          obtain ⟨-, h2⟩ := gd_some h2
          have e1 : u.2.1 13 (u.1 4).toNatClampNeg = c ∧ u = u' := by cases h1; exact ⟨rfl, rfl⟩
          have e2 : v.2.1 2 (B + u.1 4).toNatClampNeg &&& 255 = c' ∧ v = v' := by cases h2; exact ⟨rfl, rfl⟩
          rw [← e1.1, ← e1.2, ← e2.1, ← e2.2]
          exact ⟨hP0, Int.le_refl _, Or.inr ⟨hm.symm, b1, b2, by omega, rfl, s⟩, rfl, rfl⟩
theorem peekV {B d : Int32} {L : Nat → Int32} {Q : Int32 × Int32 × Int32} {e : Int} {u v u' v' : SX} {c c' : Int32} (hP : PV B L Q e u v d) (h1 : fX5_peek_2 u = some (c, u')) (h2 : fX12_look_0 v = some (c', v')) : PV B L Q e u' v' d ∧ (u.1 4).toInt ≤ (u'.1 4).toInt ∧ PKQ c c' u' ∧ SZ u u' := pkkV 5000 5000 u v u' v' c c' hP h1 h2
theorem lk2V {B d : Int32} {L : Nat → Int32} {Q : Int32 × Int32 × Int32} {e : Int} {u v v' : SX} {c c' c2 : Int32} (hP : PV B L Q e u v d) (hq : PKQ c c' u) : ∀ m, LX12_look_0_0 GX12_look_0_43 m v = some (c2, v') → c2 = c' ∧ v' = v := by
  intro m h2
  cases m with
  | zero => cases h2
  | succ m =>
    have hP0 := hP
    obtain ⟨⟨pl, p2, p4, pt, p7, p6, p8, a0, a1, a2, pT⟩, pL, pB, pQ, s0, s1⟩ := hP
    have n2 : ¬ v.1 2 = 2 := by rw [p2]; decide
    have h2 : (if v.1 5 ≤ v.1 6 then GX12_look_0_43 v else (if v.1 2 = 2 then _ else (if v.1 2 = 3 then (gd (inb (v.1 4 + v.1 6) 4320) (if v.2.1 2 (v.1 4 + v.1 6).toNatClampNeg = 32 then lt (sI v 6 (v.1 6 + 1)) (fun u2 => LX12_look_0_0 GX12_look_0_43 m u2) else GX12_look_0_43 v)) else none))) = some (c2, v') := h2
    rw [← pl, p6, p4] at h2
    rcases hq with ⟨q1, q2, q3⟩ | ⟨q1, q2, q3, q4, q5, q6⟩
    · have e0 : u.1 1 ≤ u.1 4 := Int32.le_iff_toInt_le.mpr (by omega)
      rw [if_pos e0] at h2
      unfold GX12_look_0_43 at h2
      rw [← pl, p6, if_pos e0] at h2
      have e2 : (-1 : Int32) = c2 ∧ v = v' := by cases h2; exact ⟨rfl, rfl⟩
      exact ⟨by rw [← e2.1, q2], e2.2.symm⟩
    · have e0 : ¬ u.1 1 ≤ u.1 4 := fun z => by
        have := leI z
        omega
      rw [if_neg e0, if_neg n2, if_pos p2] at h2
      obtain ⟨-, h2⟩ := gd_some h2
      obtain ⟨⟨b1, b2⟩, hm, hraw⟩ := PV_sgn hP0 q4
      have hs := sp_eq (k := 32) (n := 32) (by decide) (by decide) (by decide) hraw
      rw [if_neg (fun z => q6 (q5.trans (hs.mp z)))] at h2
      unfold GX12_look_0_43 at h2
      rw [← pl, p6, if_neg e0, if_neg n2, if_pos p2, p4] at h2
      obtain ⟨-, h2⟩ := gd_some h2
      have e2 : v.2.1 2 (B + u.1 4).toNatClampNeg &&& 255 = c2 ∧ v = v' := by cases h2; exact ⟨rfl, rfl⟩
      exact ⟨by rw [← e2.1, hm, ← q5]; exact q1, e2.2.symm⟩
theorem look2V {B d : Int32} {L : Nat → Int32} {Q : Int32 × Int32 × Int32} {e : Int} {u v v' : SX} {c c' c2 : Int32} (hP : PV B L Q e u v d) (hq : PKQ c c' u) (h : fX12_look_0 v = some (c2, v')) : c2 = c' ∧ v' = v := lk2V hP hq 5000 h
theorem takesV {B d x : Int32} {L : Nat → Int32} {Q : Int32 × Int32 × Int32} {e : Int} {r r' : Int32} {u v u' v' : SX} (h0 : ¬ x = 0) (hm1 : ¬ x = -1) (hP : PV B L Q e u v d) (h1 : fX5_takes_2 x u = some (r, u')) (hr : ¬ r = 0) (h2 : fX12_takes_0 x v = some (r', v')) : r = 1 ∧ r' = 1 ∧ PV B L Q (e + 1) u' v' d ∧ (u.1 4).toInt < (u'.1 4).toInt ∧ SZ u u' := by
  have p7 : v.1 7 = -1 := hP.1.2.2.2.2.1
  unfold fX5_takes_2 at h1
  unfold fX12_takes_0 at h2
  rw [if_pos p7] at h2
  obtain ⟨⟨c, u2⟩, a1, h1⟩ := bd_some h1
  obtain ⟨⟨c', v2⟩, a2, h2⟩ := bd_some h2
  obtain ⟨hP2, hle, hq, hz⟩ := peekV hP a1 a2
  have h1 : (if c = x then _ else _) = some (r, u') := h1
  have h2 : (if c' = x then _ else _) = some (r', v') := h2
  have hk := pkq_eq hq h0 hm1
  by_cases ec : c = x
  · rw [if_pos ec] at h1
    rw [if_pos (hk.mp ec)] at h2
    obtain ⟨u4, j4, h1⟩ := lt_some h1
    obtain ⟨v4, i4, h2⟩ := lt_some h2
    obtain ⟨-, h1⟩ := gd_some h1
    obtain ⟨-, h2⟩ := gd_some h2
    have e1 : (1 : Int32) = r ∧ u4 = u' := by cases h1; exact ⟨rfl, rfl⟩
    have e2 : (1 : Int32) = r' ∧ v4 = v' := by cases h2; exact ⟨rfl, rfl⟩
    have hlt : (u2.1 4).toInt < (u2.1 1).toInt := by
      rcases hq with ⟨q1, -⟩ | ⟨-, -, -, q4, -⟩
      · exact absurd (ec.symm.trans q1) h0
      · exact q4
    have b : (u2.1 1).toInt ≤ 120 := hP2.1.2.2.2.2.2.2.2.2.2.1
    have b0 : 0 ≤ (u2.1 4).toInt := hP2.1.2.2.2.2.2.2.2.1
    have p6 : v2.1 6 = u2.1 4 := hP2.1.2.2.2.2.2.1
    have sl : (u2.1 2).toInt + e ≤ (u2.1 4).toInt := hP2.2.2.2.2.2
    have e5 : (u2.1 4 + 1).toInt = (u2.1 4).toInt + 1 := addc_t (by decide) (by omega) (by omega)
    rw [p6] at i4
    refine ⟨e1.1.symm, e2.1.symm, ?_, ?_, ?_⟩
    · rw [← e1.2, ← e2.2, j4, i4]
      exact PV_at hP2 (by rw [e5]; omega) (by rw [e5]; omega) (by rw [e5]; omega)
    · rw [← e1.2, j4]
      show _ < (u2.1 4 + 1).toInt
      rw [e5]
      omega
    · rw [← e1.2, j4]
      exact hz
  · rw [if_neg ec] at h1
    obtain ⟨-, h1⟩ := gd_some h1
    have e1 : (0 : Int32) = r := by cases h1; rfl
    exact absurd e1.symm hr
