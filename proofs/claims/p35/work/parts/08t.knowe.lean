/-! One letter more. -/
def LQ (L : Nat → Nat → Nat → Prop) (d f t : Nat) : Nat → Nat → Nat → Prop := fun e a b => L e a b ∨ (e = d ∧ a = f ∧ b = t)
theorem LQ_lt {T L : Nat → Nat → Nat → Prop} {d f t e : Nat} (h : e < d) (k x : Nat) : Kn T (LQ L d f t) e k x ↔ Kn T L e k x := Kn_cg e (fun _ _ _ _ => Iff.rfl) (fun _ he _ _ => ⟨fun g => g.elim id (fun g => by omega), Or.inl⟩) k x
theorem LQ_sup {T L : Nat → Nat → Nat → Prop} {d f t : Nat} : ∀ (e k x : Nat), Kn T L e k x → Kn T (LQ L d f t) e k x := by
  intro e
  induction e with
  | zero => intro k x h; exact h
  | succ e ih =>
    rintro k x (g | g | ⟨a, g1, g2⟩)
    · exact Or.inl (ih k x g)
    · exact Or.inr (Or.inl g)
    · exact Or.inr (Or.inr ⟨a, Or.inl g1, ih a x g2⟩)
/-- a letter that tells nothing -/
theorem LQ_no {T L : Nat → Nat → Nat → Prop} {d f t x : Nat} (hn : 0 < d → Kn T L (d - 1) f x → Kn T L d t x) : ∀ (e k : Nat), Kn T (LQ L d f t) e k x → Kn T L e k x := by
  intro e
  induction e with
  | zero => intro k h; exact h
  | succ e ih =>
    rintro k (g | g | ⟨a, g1 | ⟨g1, g3, g4⟩, g2⟩)
    · exact Or.inl (ih k g)
    · exact Or.inr (Or.inl g)
    · exact Or.inr (Or.inr ⟨a, g1, ih a g2⟩)
    · rw [g4, g1]
      refine hn (by omega) ?_
      rw [← g1, show e + 1 - 1 = e from rfl, ← g3]
      exact ih a g2
/-- a letter that tells what one of the day ahead would have told -/
theorem LQ_pre {T L : Nat → Nat → Nat → Prop} {d f t x : Nat} (hn : Kn T L (d + 1) f x → Kn T L d f x) : ∀ (e k : Nat), Kn T (LQ L (d + 2) f t) e k x → Kn T (LQ L (d + 1) f t) e k x := by
  intro e
  induction e with
  | zero => intro k h; exact h
  | succ e ih =>
    rintro k (g | g | ⟨a, g1 | ⟨g1, g3, g4⟩, g2⟩)
    · exact Or.inl (ih k g)
    · exact Or.inr (Or.inl g)
    · exact Or.inr (Or.inr ⟨a, Or.inl g1, ih a g2⟩)
    · have e1 : e = d + 1 := by omega
      rw [e1, g3] at g2
      have g2 := hn ((LQ_lt (by omega) f x).mp g2)
      have g5 : Kn T (LQ L (d + 1) f t) (d + 1) t x := Or.inr (Or.inr ⟨f, Or.inr ⟨rfl, rfl, rfl⟩, LQ_sup d f x g2⟩)
      rw [g4]
      exact Kn_le (by omega) g5
/-- the first letter may not come on the first day with something -/
theorem LQ_one {T L : Nat → Nat → Nat → Prop} {f t x : Nat} (hn : ¬ Kn T L 0 f x) : ∀ (e k : Nat), Kn T (LQ L 1 f t) e k x → Kn T L e k x := LQ_no (fun _ g => absurd g hn)
def PM (T L : Nat → Nat → Nat → Prop) (v : SX) (d f t e : Nat) : Prop := MetD T (LQ L d f t) v e
/-- bits that matter -/
def mt (v : SX) (x : Nat) : Prop := (∃ y, MT v x y) ∨ ∃ i, MT v i x
theorem MetS_mt {v : SX} {S S' : Nat → Prop} (h : ∀ x, mt v x → S x → S' x) (g : MetS v S) : MetS v S' := by
  obtain ⟨i, y, a, b, c⟩ := g
  exact ⟨i, y, h i (Or.inl ⟨y, c⟩) a, h y (Or.inr ⟨i, c⟩) b, c⟩
theorem MetD_mt {T L T' L' : Nat → Nat → Nat → Prop} {v : SX} {e : Nat} (h : ∀ k x, mt v x → Kn T L e k x → Kn T' L' e k x) (g : MetD T L v e) : MetD T' L' v e := by
  obtain ⟨k, a, b⟩ := g
  exact ⟨k, a, MetS_mt (h k) b⟩
def Lx (d f t d' f' t' : Nat) : Prop := d < d' ∨ (d = d' ∧ (f < f' ∨ (f = f' ∧ t < t')))
/-- the best letter of those ahead of a place -/
def RS (P : Nat → Nat → Nat → Nat → Prop) (H lim b : Int) (bf bo bd bm : Int32) (pd pf pt : Nat) : Prop := b ≤ lim ∧ (∀ d f t : Nat, Lx d f t pd pf pt → (f : Int) < H → (t : Int) < H → ¬ f = t → ∀ e : Nat, (e : Int) < b → ¬ P d f t e) ∧ ((bf = -1 ∧ bo = -1 ∧ bd = -1 ∧ bm = -1 ∧ b = lim) ∨ (b < lim ∧ ∃ d f t : Nat, bf.toInt = (f : Int) ∧ bo.toInt = (t : Int) ∧ bd.toInt = (d : Int) ∧ bm.toInt = b ∧ 0 ≤ b ∧ (f : Int) < H ∧ (t : Int) < H ∧ ¬ f = t ∧ Lx d f t pd pf pt ∧ P d f t b.toNat ∧ ∀ d' f' t' : Nat, Lx d' f' t' d f t → (f' : Int) < H → (t' : Int) < H → ¬ f' = t' → ¬ P d' f' t' b.toNat))
/-- ... and of all -/
def RA (P : Nat → Nat → Nat → Nat → Prop) (H lim : Int) (bf bo bd bm : Int32) : Prop := ∃ b : Int, b ≤ lim ∧ (∀ d f t : Nat, (f : Int) < H → (t : Int) < H → ¬ f = t → ∀ e : Nat, (e : Int) < b → ¬ P d f t e) ∧ ((bf = -1 ∧ bo = -1 ∧ bd = -1 ∧ bm = -1 ∧ b = lim) ∨ (b < lim ∧ ∃ d f t : Nat, bf.toInt = (f : Int) ∧ bo.toInt = (t : Int) ∧ bd.toInt = (d : Int) ∧ bm.toInt = b ∧ 0 ≤ b ∧ (f : Int) < H ∧ (t : Int) < H ∧ ¬ f = t ∧ P d f t b.toNat ∧ ∀ d' f' t' : Nat, Lx d' f' t' d f t → (f' : Int) < H → (t' : Int) < H → ¬ f' = t' → ¬ P d' f' t' b.toNat))
theorem Lx_tri (d f t d' f' t' : Nat) : Lx d f t d' f' t' ∨ Lx d' f' t' d f t ∨ (d = d' ∧ f = f' ∧ t = t') := by
  unfold Lx
  omega
theorem RA_uq {P : Nat → Nat → Nat → Nat → Prop} {H lim : Int} {a1 a2 a3 a4 b1 b2 b3 b4 : Int32} (h : RA P H lim a1 a2 a3 a4) (h' : RA P H lim b1 b2 b3 b4) : a1 = b1 ∧ a2 = b2 ∧ a3 = b3 ∧ a4 = b4 := by
  obtain ⟨b, l1, n1, q1⟩ := h
  obtain ⟨b', l2, n2, q2⟩ := h'
  rcases q1 with ⟨p1, p2, p3, p4, p5⟩ | ⟨c1, d, f, t, e1, e2, e3, e4, b0, hf, ht, hn, pm, pl⟩
  · rcases q2 with ⟨r1, r2, r3, r4, r5⟩ | ⟨c2, d', f', t', g1, g2, g3, g4, b0', hf', ht', hn', pm', pl'⟩
    · exact ⟨p1.trans r1.symm, p2.trans r2.symm, p3.trans r3.symm, p4.trans r4.symm⟩
    · exact absurd pm' (n1 d' f' t' hf' ht' hn' _ (by omega))
  · rcases q2 with ⟨r1, r2, r3, r4, r5⟩ | ⟨c2, d', f', t', g1, g2, g3, g4, b0', hf', ht', hn', pm', pl'⟩
    · exact absurd pm (n2 d f t hf ht hn _ (by omega))
    · have eb : b = b' := by
        by_cases g : b < b'
        · exact absurd pm (n2 d f t hf ht hn _ (by omega))
        · by_cases g' : b' < b
          · exact absurd pm' (n1 d' f' t' hf' ht' hn' _ (by omega))
          · omega
      rcases Lx_tri d f t d' f' t' with g | g | ⟨g5, g6, g7⟩
      · rw [eb] at pm
        exact absurd pm (pl' d f t g hf ht hn)
      · rw [← eb] at pm'
        exact absurd pm' (pl d' f' t' g hf' ht' hn')
      · exact ⟨Int32.toInt.inj (by omega), Int32.toInt.inj (by omega), Int32.toInt.inj (by omega), Int32.toInt.inj (by omega)⟩
/-- the next letter is not better -/
theorem RS_skip {P : Nat → Nat → Nat → Nat → Prop} {H lim b : Int} {a1 a2 a3 a4 : Int32} {d f t : Nat} (h : RS P H lim b a1 a2 a3 a4 d f t) (hn : ¬ f = t → ∀ e : Nat, (e : Int) < b → ¬ P d f t e) : RS P H lim b a1 a2 a3 a4 d f (t + 1) := by
  obtain ⟨l, n, q⟩ := h
  refine ⟨l, fun d' f' t' hl hf ht hne => ?_, q.elim Or.inl (fun ⟨c, d0, f0, t0, e1, e2, e3, e4, b0, hf, ht, hne, hl, hr⟩ => Or.inr ⟨c, d0, f0, t0, e1, e2, e3, e4, b0, hf, ht, hne, ?_, hr⟩)⟩
  · by_cases g : Lx d' f' t' d f t
    · exact n d' f' t' g hf ht hne
    · have e : d' = d ∧ f' = f ∧ t' = t := by
        unfold Lx at hl g
        omega
      rw [e.1, e.2.1, e.2.2]
      exact hn (by rw [← e.2.1, ← e.2.2]; exact hne)
  · unfold Lx at hl ⊢
    omega
/-- ... is better -/
theorem RS_take {P : Nat → Nat → Nat → Nat → Prop} {H lim b : Int} {a1 a2 a3 a4 xf xt xd xm : Int32} {d f t : Nat} (h : RS P H lim b a1 a2 a3 a4 d f t) (ef : xf.toInt = (f : Int)) (et : xt.toInt = (t : Int)) (ed : xd.toInt = (d : Int)) (hf : (f : Int) < H) (ht : (t : Int) < H) (hne : ¬ f = t) (m0 : 0 ≤ xm.toInt) (mb : xm.toInt < b) (pm : P d f t xm.toNatClampNeg) (pn : ∀ e : Nat, (e : Int) < xm.toInt → ¬ P d f t e) : RS P H lim xm.toInt xf xt xd xm d f (t + 1) := by
  obtain ⟨l, n, -⟩ := h
  have tm := tn m0
  refine ⟨by omega, fun d' f' t' hl hf' ht' hne' e he => ?_, Or.inr ⟨by omega, d, f, t, ef, et, ed, rfl, m0, hf, ht, hne, ?_, pm, fun d' f' t' hl hf' ht' hne' => ?_⟩⟩
  · by_cases g : Lx d' f' t' d f t
    · exact n d' f' t' g hf' ht' hne' e (by omega)
    · have e' : d' = d ∧ f' = f ∧ t' = t := by
        unfold Lx at hl g
        omega
      rw [e'.1, e'.2.1, e'.2.2]
      exact pn e he
  · unfold Lx
    omega
  · exact n d' f' t' hl hf' ht' hne' _ (by omega)
theorem RS_mv {P : Nat → Nat → Nat → Nat → Prop} {H lim b : Int} {a1 a2 a3 a4 : Int32} {d f t d' f' t' : Nat} (h : RS P H lim b a1 a2 a3 a4 d f t) (g : ∀ x y z : Nat, (y : Int) < H → (z : Int) < H → (Lx x y z d f t ↔ Lx x y z d' f' t')) : RS P H lim b a1 a2 a3 a4 d' f' t' := by
  obtain ⟨l, n, q⟩ := h
  exact ⟨l, fun x y z hl hf ht => n x y z ((g x y z hf ht).mpr hl) hf ht, q.elim Or.inl (fun ⟨c, d0, f0, t0, e1, e2, e3, e4, b0, hf, ht, hne, hl, hr⟩ => Or.inr ⟨c, d0, f0, t0, e1, e2, e3, e4, b0, hf, ht, hne, (g d0 f0 t0 hf ht).mp hl, hr⟩)⟩
/-- the rest of a day and house -/
theorem RS_nf {P : Nat → Nat → Nat → Nat → Prop} {H lim b : Int} {a1 a2 a3 a4 : Int32} {d f t : Nat} (h : RS P H lim b a1 a2 a3 a4 d f t) (ht : H ≤ (t : Int)) : RS P H lim b a1 a2 a3 a4 d (f + 1) 0 := RS_mv h (fun x y z _ hz => by
  unfold Lx
  omega)
theorem RS_nd {P : Nat → Nat → Nat → Nat → Prop} {H lim b : Int} {a1 a2 a3 a4 : Int32} {d f : Nat} (h : RS P H lim b a1 a2 a3 a4 d f 0) (hf : H ≤ (f : Int)) : RS P H lim b a1 a2 a3 a4 (d + 1) 0 0 := RS_mv h (fun x y z hy _ => by
  unfold Lx
  omega)
/-- the days from the bound on -/
theorem RS_all {P : Nat → Nat → Nat → Nat → Prop} {H lim b : Int} {a1 a2 a3 a4 : Int32} {pd : Nat} (h : RS P H lim b a1 a2 a3 a4 pd 0 0) (hb : b ≤ (pd : Int)) (hr : ∀ d f t e : Nat, pd ≤ d → (e : Int) < b → ¬ P d f t e) : RA P H lim a1 a2 a3 a4 := by
  obtain ⟨l, n, q⟩ := h
  refine ⟨b, l, fun d f t hf ht hne e he => ?_, q.elim Or.inl (fun ⟨c, d0, f0, t0, e1, e2, e3, e4, b0, hf, ht, hne, hl, hr⟩ => Or.inr ⟨c, d0, f0, t0, e1, e2, e3, e4, b0, hf, ht, hne, hr⟩)⟩
  by_cases g : d < pd
  · exact n d f t (Or.inl g) hf ht hne e he
  · exact hr d f t e (by omega) he
