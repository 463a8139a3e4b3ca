/-! The class has settled the days. -/
/-- what the class's tables say of what is told and sent -/
def HTL (T L : Nat → Nat → Nat → Prop) (u : SX) : Prop := (∀ d h x : Nat, d ≤ 120 → h < 8 → (bt (u.2.2.2.1 69 (d * 8 + h)) x ↔ T d h x)) ∧ (∀ d f h : Nat, L d f h ↔ ∃ i : Nat, (i : Int) < (u.1 38).toInt ∧ (u.2.1 62 i).toInt = (d : Int) ∧ (u.2.1 60 i).toInt = (f : Int) ∧ (u.2.1 61 i).toInt = (h : Int)) ∧ ∀ d : Nat, d ≤ 120 → u.2.1 59 d = 0 → (∀ h x, ¬ T d h x) ∧ ∀ f h, ¬ L d f h
theorem HTL_fr {T L : Nat → Nat → Nat → Prop} {u u' : SX} (h38 : u'.1 38 = u.1 38) (h59 : u'.2.1 59 = u.2.1 59) (h60 : u'.2.1 60 = u.2.1 60) (h61 : u'.2.1 61 = u.2.1 61) (h62 : u'.2.1 62 = u.2.1 62) (h69 : u'.2.2.2.1 69 = u.2.2.2.1 69) (h : HTL T L u) : HTL T L u' := by
  unfold HTL at h ⊢
  rw [h38, h59, h60, h61, h62, h69]
  exact h
theorem HTL_70 {T L : Nat → Nat → Nat → Prop} {u u' : SX} (s : StX md70 u u') (h : HTL T L u) : HTL T L u' := HTL_fr (s.2.1 38 (by decide)) (s.2.2.1 59 (by decide)) (s.2.2.1 60 (by decide)) (s.2.2.1 61 (by decide)) (s.2.2.1 62 (by decide)) (s.2.2.2.2.1 69 (by decide)) h
/-- settled days -/
def KV (T L : Nat → Nat → Nat → Prop) (u : SX) (d : Nat) : Prop := ∀ h x : Nat, h < 8 → (bt (ro u d h) x ↔ Kn T L d h x)
theorem set5 {T L : Nat → Nat → Nat → Prop} {k70 : Int32 → SX → Option (Int32 × SX)} {z1 r : Int32} {u' : SX} (hz0 : 0 ≤ z1.toInt) (hz9 : z1.toInt ≤ 120) : ∀ (n : Nat) (z2 : Int32) (u : SX), IX u → HTL T L u → 0 ≤ z2.toInt → z2.toInt ≤ 121 → (∀ d : Nat, d < z2.toNatClampNeg → KV T L u d) → LX2_settle_11_5 k70 n z1 z2 u = some (r, u') → ∃ u1 : SX, StX md70 u u1 ∧ k70 z1 u1 = some (r, u') ∧ ∀ d : Nat, (d < z2.toNatClampNeg ∨ d ≤ z1.toNatClampNeg) → KV T L u1 d := by
  intro n
  induction n with
  | zero => intro z2 u _ _ _ _ _ h; cases h
  | succ n ih =>
    intro z2 u hI hT h0 h9 hv h
    have h : (if z1 < z2 then (k70 z1 u) else (LX2_settle_11_12 (GX2_settle_11_50 (LX2_settle_11_5 k70 n)) 5000 z1 z2 0 u)) = some (r, u') := h
    have t1 := tn hz0
    have t2 := tn h0
    by_cases c : z1 < z2
    · rw [if_pos c] at h
      have c9 := ltI c
      exact ⟨u, StX_rf hI, h, fun d hd => hv d (by omega)⟩
    · rw [if_neg c] at h
      have c9 := nltI c
      have et : (z2 + 1).toInt = z2.toInt + 1 := addc_t (by decide) (by omega) (by omega)
      have en := ns1 h0 (show z2.toInt ≤ 5000 by omega)
      obtain ⟨u1, s1, b1, p1, q1⟩ := set12 h0 (by omega) 5000 0 u hI (by decide) (by decide) h
      have T1 := HTL_70 s1 hT
      have n0 : (0 : Int32).toNatClampNeg = 0 := rfl
      have v1 : ∀ d : Nat, d < z2.toNatClampNeg → KV T L u1 d := by
        intro d hd k x hk
        rw [p1 d k hk (by omega)]
        exact hv d hd k x hk
      have q1 : ∀ k x : Nat, k < 8 → (bt (ro u1 z2.toNatClampNeg k) x ↔ ((0 < z2.toNatClampNeg ∧ Kn T L (z2.toNatClampNeg - 1) k x) ∨ T z2.toNatClampNeg k x)) := by
        intro k x hk
        rw [q1 k x (by omega) hk, hT.1 _ k x (by omega) hk]
        constructor
        · rintro (⟨g1, g2⟩ | g)
          · exact Or.inl ⟨g1, (hv (z2.toNatClampNeg - 1) (by omega) k x hk).mp g2⟩
          · exact Or.inr g
        · rintro (⟨g1, g2⟩ | g)
          · exact Or.inl ⟨g1, (hv (z2.toNatClampNeg - 1) (by omega) k x hk).mpr g2⟩
          · exact Or.inr g
      unfold GX2_settle_11_50 GX2_settle_11_64 at b1
      obtain ⟨-, b1⟩ := gd_some b1
      have fin : ∀ w : SX, StX md70 u1 w → (∀ d k : Nat, k < 8 → ¬ d = z2.toNatClampNeg → ro w d k = ro u1 d k) → KV T L w z2.toNatClampNeg → LX2_settle_11_5 k70 n z1 (z2 + 1) w = some (r, u') → ∃ u1 : SX, StX md70 u u1 ∧ k70 z1 u1 = some (r, u') ∧ ∀ d : Nat, (d < z2.toNatClampNeg ∨ d ≤ z1.toNatClampNeg) → KV T L u1 d := by
        intro w sw pw kw g
        obtain ⟨u2, s2, b2, q2⟩ := ih (z2 + 1) w sw.1 (HTL_70 sw T1) (by rw [et]; omega) (by rw [et]; omega) (by
          intro d hd k x hk
          by_cases cd : d = z2.toNatClampNeg
          · rw [cd]
            exact kw k x hk
          · rw [pw d k hk cd]
            exact v1 d (by omega) k x hk) g
        exact ⟨u2, StX_tr s1 (StX_tr sw s2 (by decide)) (by decide), b2, fun d hd => q2 d (by omega)⟩
      by_cases cb : u1.2.1 59 z2.toNatClampNeg = 0
      · rw [if_pos cb] at b1
        obtain ⟨nT, nL⟩ := T1.2.2 z2.toNatClampNeg (by omega) cb
        refine fin u1 (StX_rf s1.1) (fun d k _ _ => rfl) ?_ b1
        intro k x hk
        rw [q1 k x hk]
        cases e : z2.toNatClampNeg with
        | zero => exact ⟨fun g => g.elim (fun g => absurd g.1 (by omega)) id, fun g => Or.inr g⟩
        | succ m =>
          rw [e] at nT nL
          rw [Kn_s]
          constructor
          · rintro (⟨-, g⟩ | g)
            · exact Or.inl g
            · exact absurd g (nT k x)
          · rintro (g | g | ⟨f, g, -⟩)
            · exact Or.inl ⟨by omega, g⟩
            · exact absurd g (nT k x)
            · exact absurd g (nL f k)
      · rw [if_neg cb] at b1
        obtain ⟨⟨r13, u14⟩, a13, b1⟩ := bd_some b1
        unfold fX2_deliver_11 at a13
        have b38 : (0 : Int) ≤ (u1.1 38).toInt := (s1.1.1 38).1
        obtain ⟨s14, p14, q14⟩ := del_sp h0 (by omega) 5000 0 u1 s1.1 (by decide) b38 a13
        refine fin u14 s14 p14 ?_ b1
        intro k x hk
        rw [q14 k x hk, q1 k x hk]
        cases e : z2.toNatClampNeg with
        | zero => exact ⟨fun g => g.elim (fun g => g.elim (fun g => absurd g.1 (by omega)) id) (fun ⟨i, _, _, _, _, g, _⟩ => absurd g (by omega)), fun g => Or.inl (Or.inr g)⟩
        | succ m =>
          rw [Kn_s]
          have hm : ∀ f : Nat, f < 8 → (bt (ro u1 m f) x ↔ Kn T L m f x) := fun f hf => v1 m (by omega) f x hf
          constructor
          · rintro ((⟨-, g⟩ | g) | ⟨i, -, g2, g3, g4, -, g6⟩)
            · exact Or.inl g
            · exact Or.inr (Or.inl g)
            · have z0 : (0 : Int) ≤ (u1.2.1 60 i).toInt := (s1.1.2.1 60 _).1
              have z9 : (u1.2.1 60 i).toInt ≤ (7 : Int) := (s1.1.2.1 60 _).2
              have tf := tn z0
              exact Or.inr (Or.inr ⟨(u1.2.1 60 i).toNatClampNeg, (T1.2.1 _ _ _).mpr ⟨i, g2, by omega, by omega, g4⟩, (hm _ (by omega)).mp g6⟩)
          · rintro (g | g | ⟨f, g, gk⟩)
            · exact Or.inl (Or.inl ⟨by omega, g⟩)
            · exact Or.inl (Or.inr g)
            · obtain ⟨i, g2, g3, g4, g5⟩ := (T1.2.1 _ _ _).mp g
              have z0 : (0 : Int) ≤ (u1.2.1 60 i).toInt := (s1.1.2.1 60 _).1
              have z9 : (u1.2.1 60 i).toInt ≤ (7 : Int) := (s1.1.2.1 60 _).2
              have tf := tn z0
              refine Or.inr ⟨i, by omega, g2, by omega, g5, by omega, ?_⟩
              rw [show (u1.2.1 60 i).toNatClampNeg = f by omega]
              exact (hm f (by omega)).mpr gk
theorem settle_sp {T L : Nat → Nat → Nat → Prop} {x1 r : Int32} {u u' : SX} (hI : IX u) (hT : HTL T L u) (hv : ∀ d : Nat, d < (u.1 39).toNatClampNeg → KV T L u d) (h0 : 0 ≤ x1.toInt) (h9 : x1.toInt ≤ 120) (h : fX2_settle_11 x1 u = some (r, u')) : StX mdX2_settle_11 u u' ∧ (∀ d : Nat, d < (u'.1 39).toNatClampNeg → KV T L u' d) ∧ x1.toInt < (u'.1 39).toInt ∧ ∀ d : Nat, d ≤ x1.toNatClampNeg → KV T L u' d := by
  have hs : StX mdX2_settle_11 u u' := (Tot_at (tfX2_settle_11 x1 u hI ⟨h0, h9⟩) h).1
  unfold fX2_settle_11 at h
  obtain ⟨v1, e1, h⟩ := lt_some h
  have b39 : (0 : Int) ≤ (u.1 39).toInt := (hI.1 39).1
  have c39 : (u.1 39).toInt ≤ (121 : Int) := (hI.1 39).2
  rw [← e1] at hv b39 c39
  obtain ⟨u1, s1, b1, q1⟩ := set5 h0 h9 5000 v1 u hI hT b39 c39 hv h
  unfold GX2_settle_11_70 at b1
  obtain ⟨u16, j16, b1⟩ := lt_some b1
  have e : u16 = u' := by cases b1; rfl
  have w39 : u1.1 39 = v1 := by rw [e1]; exact s1.2.1 39 (by decide)
  have ro' : ∀ d k : Nat, ro u' d k = ro u1 d k := by
    intro d k
    rw [← e, j16]
    rfl
  have ex : (x1 + 1).toInt = x1.toInt + 1 := addc_t (by decide) (by omega) (by omega)
  have k39 : u'.1 39 = if v1 < x1 + 1 then x1 + 1 else v1 := by
    rw [← e, j16, w39]
    rfl
  have k39t : (u'.1 39).toInt = if v1.toInt < x1.toInt + 1 then x1.toInt + 1 else v1.toInt := by
    rw [k39]
    by_cases c : v1 < x1 + 1
    · rw [if_pos c, ex, if_pos (by have := ltI c; omega)]
    · rw [if_neg c, if_neg (by have := nltI c; omega)]
  have t1 := tn h0
  have tv := tn b39
  have kv : ∀ d : Nat, (d < v1.toNatClampNeg ∨ d ≤ x1.toNatClampNeg) → KV T L u' d := by
    intro d hd k x hk
    rw [ro' d k]
    exact q1 d hd k x hk
  refine ⟨hs, ?_, ?_, fun d hd => kv d (Or.inr hd)⟩
  · intro d hd
    have b0 : (0 : Int) ≤ (u'.1 39).toInt := (hs.1.1 39).1
    have t3 := tn b0
    refine kv d ?_
    by_cases c : v1.toInt < x1.toInt + 1
    · rw [if_pos c] at k39t
      omega
    · rw [if_neg c] at k39t
      omega
  · by_cases c : v1.toInt < x1.toInt + 1
    · rw [if_pos c] at k39t
      omega
    · rw [if_neg c] at k39t
      omega
