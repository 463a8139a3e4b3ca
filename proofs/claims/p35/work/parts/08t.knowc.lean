/-! When two had met. -/
/-- who knows these knows a print and a paper that meet -/
def MetS (v : SX) (S : Nat → Prop) : Prop := ∃ i y, S i ∧ S y ∧ MT v i y
theorem MetS_cg {v : SX} {S S' : Nat → Prop} (h : ∀ x, x < 60 → (S x ↔ S' x)) (hJ : IM v) : MetS v S ↔ MetS v S' := by
  have c23 : (v.1 23).toInt ≤ (40 : Int) := (hJ.1 23).2
  have c24 : (v.1 24).toInt ≤ (20 : Int) := (hJ.1 24).2
  constructor
  · rintro ⟨i, y, a, b, c⟩
    obtain ⟨m1, m2, m3, -⟩ := id c
    exact ⟨i, y, (h i (by omega)).mp a, (h y (by omega)).mp b, c⟩
  · rintro ⟨i, y, a, b, c⟩
    obtain ⟨m1, m2, m3, -⟩ := id c
    exact ⟨i, y, (h i (by omega)).mpr a, (h y (by omega)).mpr b, c⟩
theorem are18 {w : Int64} {r : Int32} {u u' v : SX} (hI : IX u) (e36 : u.1 36 = v.1 23) (hM : TieM u v) : ∀ (n : Nat) (z3 : Int32), 0 ≤ z3.toInt → (∀ i y : Nat, i < z3.toNatClampNeg → ¬ (bt w i ∧ bt w y ∧ MT v i y)) → LX2_areMet_11_18 n w z3 u = some (r, u') → u' = u ∧ ((r = 1 ∧ MetS v (bt w)) ∨ (r = 0 ∧ ¬ MetS v (bt w))) := by
  intro n
  induction n with
  | zero => intro z3 _ _ h; cases h
  | succ n ih =>
    intro z3 h0 hb h
    have b36 : (u.1 36).toInt ≤ (40 : Int) := (hI.1 36).2
    have h : (if (u.1 36) ≤ z3 then (gd (isB 0) (some (0, u))) else (if (lg_cmp (w &&& bp z3) 0) = 0 then (LX2_areMet_11_18 n w (z3 + 1) u) else (gd (inb z3 40) (if (lg_cmp (w &&& (u.2.2.2.1 68 z3.toNatClampNeg)) 0) = 0 then (LX2_areMet_11_18 n w (z3 + 1) u) else (gd (isB 1) (some (1, u))))))) = some (r, u') := h
    have t3 := tn h0
    by_cases c : u.1 36 ≤ z3
    · rw [if_pos c] at h
      have c9 := leI c
      obtain ⟨-, h⟩ := gd_some h
      have e : r = 0 ∧ u' = u := by cases h; exact ⟨rfl, rfl⟩
      refine ⟨e.2, Or.inr ⟨e.1, ?_⟩⟩
      rintro ⟨i, y, g⟩
      have m := g.2.2.1
      rw [← e36] at m
      exact hb i y (by omega) g
    · rw [if_neg c] at h
      have c9 := nleI c
      have et : (z3 + 1).toInt = z3.toInt + 1 := addc_t (by decide) (by omega) (by omega)
      have en := ns1 h0 (show z3.toInt ≤ 5000 by omega)
      have nx : (∀ y : Nat, ¬ (bt w z3.toNatClampNeg ∧ bt w y ∧ MT v z3.toNatClampNeg y)) → LX2_areMet_11_18 n w (z3 + 1) u = some (r, u') → u' = u ∧ ((r = 1 ∧ MetS v (bt w)) ∨ (r = 0 ∧ ¬ MetS v (bt w))) := fun q g => ih (z3 + 1) (by rw [et]; omega) (fun i y hi => by
        by_cases ci : i = z3.toNatClampNeg
        · rw [ci]
          exact q y
        · exact hb i y (by omega)) g
      by_cases c1 : lg_cmp (w &&& bp z3) 0 = 0
      · rw [if_pos c1] at h
        exact nx (fun y g => (and_p h0 (by omega)).mp (lgc0.mp c1) g.1) h
      · rw [if_neg c1] at h
        have p1 : bt w z3.toNatClampNeg := Classical.byContradiction fun g => c1 (lgc0.mpr ((and_p h0 (by omega)).mpr g))
        obtain ⟨-, h⟩ := gd_some h
        by_cases c2 : lg_cmp (w &&& (u.2.2.2.1 68 z3.toNatClampNeg)) 0 = 0
        · rw [if_pos c2] at h
          have q := and_0.mp (lgc0.mp c2)
          exact nx (fun y g => q y g.2.1 ((hM.1 _ y (by omega)).mpr g.2.2)) h
        · rw [if_neg c2] at h
          obtain ⟨-, h⟩ := gd_some h
          have e : r = 1 ∧ u' = u := by cases h; exact ⟨rfl, rfl⟩
          refine ⟨e.2, Or.inl ⟨e.1, Classical.byContradiction fun g => c2 (lgc0.mpr (and_0.mpr fun y hy hz => g ?_))⟩⟩
          exact ⟨z3.toNatClampNeg, y, p1, hy, (hM.1 _ y (by omega)).mp hz⟩
theorem are_sp {w : Int64} {r : Int32} {u u' v : SX} (hI : IX u) (e36 : u.1 36 = v.1 23) (hM : TieM u v) (h : fX2_areMet_11 w u = some (r, u')) : u' = u ∧ ((r = 1 ∧ MetS v (bt w)) ∨ (r = 0 ∧ ¬ MetS v (bt w))) := by
  unfold fX2_areMet_11 at h
  by_cases c : lg_cmp ((w &&& (u.2.2.1 0)) >>> ((40 : Int32).toInt64 &&& 63)) 0 = 0
  · rw [if_pos c] at h
    obtain ⟨-, h⟩ := gd_some h
    have e : r = 0 ∧ u' = u := by cases h; exact ⟨rfl, rfl⟩
    refine ⟨e.2, Or.inr ⟨e.1, ?_⟩⟩
    rintro ⟨i, y, g1, g2, g3⟩
    exact shr40 (lgc0.mp c) y g3.2.1 (bt_and.mpr ⟨g2, (hM.2.1 y).mpr (Or.inr ⟨i, g3⟩)⟩)
  · rw [if_neg c] at h
    exact are18 hI e36 hM 5000 0 (by decide) (fun i y hi => absurd hi (Nat.not_lt_zero _)) h
/-- a house has met by a day -/
def MetD (T L : Nat → Nat → Nat → Prop) (v : SX) (d : Nat) : Prop := ∃ h : Nat, (h : Int) < (v.1 22).toInt ∧ MetS v (Kn T L d h)
/-- the first day, if there is one -/
def First (P : Nat → Prop) (z : Int) (r : Int32) : Prop := (r = -1 ∧ ∀ d : Nat, (d : Int) ≤ z → ¬ P d) ∨ (0 ≤ r.toInt ∧ r.toInt ≤ z ∧ P r.toNatClampNeg ∧ ∀ d : Nat, (d : Int) < r.toInt → ¬ P d)
theorem First_uq {P : Nat → Prop} {z : Int} {r r' : Int32} (h : First P z r) (h' : First P z r') : r = r' := by
  rcases h with ⟨a, b⟩ | ⟨a, b, c, d⟩
  · rcases h' with ⟨a', b'⟩ | ⟨a', b', c', d'⟩
    · rw [a, a']
    · have := tn a'
      exact absurd c' (b _ (by omega))
  · have t := tn a
    rcases h' with ⟨a', b'⟩ | ⟨a', b', c', d'⟩
    · exact absurd c (b' _ (by omega))
    · have t' := tn a'
      apply Int32.toInt.inj
      by_cases g : r.toInt < r'.toInt
      · exact absurd c (d' _ (by omega))
      · by_cases g' : r'.toInt < r.toInt
        · exact absurd c' (d _ (by omega))
        · omega
theorem fst9 {T L : Nat → Nat → Nat → Prop} {k59 : Int32 → Int32 → SX → Option (Int32 × SX)} {z1 z2 r : Int32} {u u' v : SX} (hI : IX u) (e36 : u.1 36 = v.1 23) (e35 : u.1 35 = v.1 22) (hM : TieM u v) (h0 : 0 ≤ z2.toInt) (h9 : z2.toInt ≤ 120) (hV : KV T L u z2.toNatClampNeg) : ∀ (n : Nat) (z3 : Int32), 0 ≤ z3.toInt → (∀ k : Nat, k < z3.toNatClampNeg → ¬ MetS v (Kn T L z2.toNatClampNeg k)) → LX4_firstDay_12_9 k59 n z1 z2 z3 u = some (r, u') → (u.2.1 59 z2.toNatClampNeg = 0 ∧ k59 z1 z2 u = some (r, u')) ∨ (¬ MetD T L v z2.toNatClampNeg ∧ k59 z1 z2 u = some (r, u')) ∨ (MetD T L v z2.toNatClampNeg ∧ r = z2 ∧ u' = u) := by
  intro n
  induction n with
  | zero => intro z3 _ _ h; cases h
  | succ n ih =>
    intro z3 g0 hb h
    have b35 : (u.1 35).toInt ≤ (8 : Int) := (hI.1 35).2
    have h : (gd (inb z2 121) (if (u.2.1 59 z2.toNatClampNeg) = 0 then (k59 z1 z2 u) else (if (u.1 35) ≤ z3 then (k59 z1 z2 u) else ((fX2_knownBy_11 z3 z2 u).bind fun q => match q with | (r2, u3) => ((fX2_areMet_11 r2 u3).bind fun q => match q with | (r5, u6) => (if r5 = 0 then ((LX4_firstDay_12_9 k59 n) z1 z2 (z3 + 1) u6) else (some (z2, u6)))))))) = some (r, u') := h
    obtain ⟨-, h⟩ := gd_some h
    have t3 := tn g0
    by_cases c0 : u.2.1 59 z2.toNatClampNeg = 0
    · rw [if_pos c0] at h
      exact Or.inl ⟨c0, h⟩
    · rw [if_neg c0] at h
      by_cases c : u.1 35 ≤ z3
      · rw [if_pos c] at h
        have c9 := leI c
        refine Or.inr (Or.inl ⟨?_, h⟩)
        rintro ⟨k, hk, g⟩
        rw [← e35] at hk
        exact hb k (by omega) g
      · rw [if_neg c] at h
        have c9 := nleI c
        have et : (z3 + 1).toInt = z3.toInt + 1 := addc_t (by decide) (by omega) (by omega)
        have en := ns1 g0 (show z3.toInt ≤ 5000 by omega)
        obtain ⟨⟨w, u3⟩, a2, h⟩ := bd_some h
        obtain ⟨e3, k3⟩ := kb_sp g0 (by omega) h9 a2
        rw [e3] at h
        have ew : w = ro u z2.toNatClampNeg z3.toNatClampNeg := by
          rcases k3 with ⟨-, k⟩ | ⟨k, -⟩
          · exact k
          · omega
        obtain ⟨⟨r5, u6⟩, a5, h⟩ := bd_some h
        obtain ⟨e6, k5⟩ := are_sp hI e36 hM a5
        rw [e6] at h
        have h : (if r5 = 0 then ((LX4_firstDay_12_9 k59 n) z1 z2 (z3 + 1) u) else (some (z2, u))) = some (r, u') := h
        have ms : MetS v (bt w) ↔ MetS v (Kn T L z2.toNatClampNeg z3.toNatClampNeg) := by
          have hh : ∀ x, bt w x ↔ Kn T L z2.toNatClampNeg z3.toNatClampNeg x := by
            intro x
            rw [ew]
            exact hV _ x (by omega)
          constructor
          · rintro ⟨i, y, g1, g2, g3⟩
            exact ⟨i, y, (hh i).mp g1, (hh y).mp g2, g3⟩
          · rintro ⟨i, y, g1, g2, g3⟩
            exact ⟨i, y, (hh i).mpr g1, (hh y).mpr g2, g3⟩
        rcases k5 with ⟨z, k5⟩ | ⟨z, k5⟩
        · rw [if_neg (ne01 z)] at h
          have e : z2 = r ∧ u = u' := by cases h; exact ⟨rfl, rfl⟩
          exact Or.inr (Or.inr ⟨⟨z3.toNatClampNeg, by rw [← e35]; omega, ms.mp k5⟩, e.1.symm, e.2.symm⟩)
        · rw [if_pos z] at h
          refine ih (z3 + 1) (by rw [et]; omega) (fun k hk => ?_) h
          by_cases ck : k = z3.toNatClampNeg
          · rw [ck]
            exact fun g => k5 (ms.mpr g)
          · exact hb k (by omega)
theorem idle {T L : Nat → Nat → Nat → Prop} {v : SX} {d : Nat} (nT : ∀ h x, ¬ T d h x) (nL : ∀ f h, ¬ L d f h) (hp : ∀ e : Nat, e < d → ¬ MetD T L v e) : ¬ MetD T L v d := by
  rintro ⟨k, hk, i, y, a, b, c⟩
  cases d with
  | zero => exact nT k i a
  | succ d =>
    have same : ∀ x, Kn T L (d + 1) k x → Kn T L d k x := by
      rintro x (g | g | ⟨f, g, -⟩)
      · exact g
      · exact absurd g (nT k x)
      · exact absurd g (nL f k)
    exact hp d (Nat.lt_succ_self d) ⟨k, hk, i, y, same i a, same y b, c⟩
theorem fst2 {T L : Nat → Nat → Nat → Prop} {z1 r : Int32} {u u' v : SX} (hI : IX u) (e36 : u.1 36 = v.1 23) (e35 : u.1 35 = v.1 22) (hM : TieM u v) (hT : HTL T L u) (hz9 : z1.toInt ≤ 120) (hV : ∀ d : Nat, (d : Int) ≤ z1.toInt → KV T L u d) : ∀ (n : Nat) (z2 : Int32), 0 ≤ z2.toInt → z2.toInt ≤ 121 → (∀ d : Nat, d < z2.toNatClampNeg → ¬ MetD T L v d) → LX4_firstDay_12_2 n z1 z2 u = some (r, u') → u' = u ∧ First (MetD T L v) z1.toInt r := by
  intro n
  induction n with
  | zero => intro z2 _ _ _ h; cases h
  | succ n ih =>
    intro z2 h0 h9 hp h
    have h : (if z1 < z2 then (some ((-1), u)) else (LX4_firstDay_12_9 (GX4_firstDay_12_59 (LX4_firstDay_12_2 n)) 5000 z1 z2 0 u)) = some (r, u') := h
    have t2 := tn h0
    by_cases c : z1 < z2
    · rw [if_pos c] at h
      have c9 := ltI c
      have e : r = -1 ∧ u' = u := by cases h; exact ⟨rfl, rfl⟩
      exact ⟨e.2, Or.inl ⟨e.1, fun d hd => hp d (by omega)⟩⟩
    · rw [if_neg c] at h
      have c9 := nltI c
      have et : (z2 + 1).toInt = z2.toInt + 1 := addc_t (by decide) (by omega) (by omega)
      have en := ns1 h0 (show z2.toInt ≤ 5000 by omega)
      have nx : ¬ MetD T L v z2.toNatClampNeg → GX4_firstDay_12_59 (LX4_firstDay_12_2 n) z1 z2 u = some (r, u') → u' = u ∧ First (MetD T L v) z1.toInt r := by
        intro nm g
        unfold GX4_firstDay_12_59 at g
        refine ih (z2 + 1) (by rw [et]; omega) (by rw [et]; omega) (fun d hd => ?_) g
        by_cases cd : d = z2.toNatClampNeg
        · rw [cd]
          exact nm
        · exact hp d (by omega)
      rcases fst9 hI e36 e35 hM h0 (by omega) (hV _ (by omega)) 5000 0 (by decide) (fun k hk => absurd hk (Nat.not_lt_zero _)) h with ⟨g1, g2⟩ | ⟨g1, g2⟩ | ⟨g1, g2, g3⟩
      · obtain ⟨nT, nL⟩ := hT.2.2 z2.toNatClampNeg (by omega) g1
        exact nx (idle nT nL hp) g2
      · exact nx g1 g2
      · refine ⟨g3, Or.inr ?_⟩
        rw [g2]
        exact ⟨h0, by omega, g1, fun d hd => hp d (by omega)⟩
