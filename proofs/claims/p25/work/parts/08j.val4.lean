/-! What a text says: comparisons, units, conditions. -/
theorem join60 (x y : Int64) : fX10_join 60 x y = (if 0 ≤ (lg_cmp x y) then (some 0) else (some 1)) := by
  unfold fX10_join
  rw [if_neg (by decide), if_neg (by decide), if_neg (by decide), if_neg (by decide), if_neg (by decide), if_neg (by decide), if_neg (by decide), if_neg (by decide), if_neg (by decide), if_neg (by decide), if_neg (by decide), if_neg (by decide), if_neg (by decide), if_neg (by decide), if_neg (by decide), if_neg (by decide), if_neg (by decide), if_neg (by decide), if_neg (by decide), if_neg (by decide), if_neg (by decide), if_neg (by decide), if_pos rfl]
theorem join61 (x y : Int64) : fX10_join 61 x y = (if (lg_cmp x y) = 0 then (some 1) else (some 0)) := by
  unfold fX10_join
  rw [if_neg (by decide), if_neg (by decide), if_neg (by decide), if_neg (by decide), if_neg (by decide), if_neg (by decide), if_neg (by decide), if_neg (by decide), if_neg (by decide), if_neg (by decide), if_neg (by decide), if_neg (by decide), if_neg (by decide), if_neg (by decide), if_neg (by decide), if_neg (by decide), if_neg (by decide), if_neg (by decide), if_neg (by decide), if_neg (by decide), if_neg (by decide), if_neg (by decide), if_neg (by decide), if_pos rfl]
theorem join62 (x y : Int64) : fX10_join 62 x y = (if (lg_cmp x y) ≤ 0 then (some 0) else (some 1)) := by
  unfold fX10_join
  rw [if_neg (by decide), if_neg (by decide), if_neg (by decide), if_neg (by decide), if_neg (by decide), if_neg (by decide), if_neg (by decide), if_neg (by decide), if_neg (by decide), if_neg (by decide), if_neg (by decide), if_neg (by decide), if_neg (by decide), if_neg (by decide), if_neg (by decide), if_neg (by decide), if_neg (by decide), if_neg (by decide), if_neg (by decide), if_neg (by decide), if_neg (by decide), if_neg (by decide), if_neg (by decide), if_neg (by decide), if_pos rfl]
theorem join124 (x y : Int64) : fX10_join 124 x y = (if (lg_cmp x 0) = 0 then (if (lg_cmp y 0) = 0 then (some 0) else (some 1)) else (some 1)) := by
  unfold fX10_join
  rw [if_neg (by decide), if_neg (by decide), if_neg (by decide), if_neg (by decide), if_neg (by decide), if_neg (by decide), if_neg (by decide), if_neg (by decide), if_neg (by decide), if_neg (by decide), if_neg (by decide), if_neg (by decide), if_neg (by decide), if_neg (by decide), if_neg (by decide), if_neg (by decide), if_neg (by decide), if_neg (by decide), if_neg (by decide), if_neg (by decide), if_neg (by decide), if_neg (by decide), if_neg (by decide), if_neg (by decide), if_neg (by decide)]
theorem lg_3 (x y : Int32) : (lg_cmp x.toInt64 y.toInt64 = 1 ∧ y.toInt < x.toInt) ∨ (lg_cmp x.toInt64 y.toInt64 = 0 ∧ x = y) ∨ (lg_cmp x.toInt64 y.toInt64 = -1 ∧ x.toInt < y.toInt) := by
  unfold lg_cmp
  have ex : x.toInt64.toInt = x.toInt := Int32.toInt_toInt64 x
  have ey : y.toInt64.toInt = y.toInt := Int32.toInt_toInt64 y
  by_cases c : x.toInt64 > y.toInt64
  · have c9 : y.toInt64.toInt < x.toInt64.toInt := Int64.lt_iff_toInt_lt.mp c
    rw [ex, ey] at c9
    rw [if_pos c]
    exact Or.inl ⟨rfl, c9⟩
  · rw [if_neg c]
    by_cases d : x.toInt64 = y.toInt64
    · rw [if_pos d]
      have d9 : x.toInt64.toInt = y.toInt64.toInt := congrArg Int64.toInt d
      rw [ex, ey] at d9
      exact Or.inr (Or.inl ⟨rfl, Int32.toInt.inj d9⟩)
    · rw [if_neg d]
      refine Or.inr (Or.inr ⟨rfl, ?_⟩)
      have c9 : ¬ y.toInt64.toInt < x.toInt64.toInt := fun z => c (Int64.lt_iff_toInt_lt.mpr z)
      have d9 : ¬ x.toInt64.toInt = y.toInt64.toInt := fun z => d (Int64.toInt.inj z)
      rw [ex, ey] at c9 d9
      omega
theorem lg_z (x : Int32) : lg_cmp x.toInt64 0 = 0 ↔ x = 0 := by
  have e : (0 : Int32).toInt64 = (0 : Int64) := by decide
  rcases lg_3 x 0 with ⟨a, b⟩ | ⟨a, b⟩ | ⟨a, b⟩
  · rw [e] at a
    rw [a]
    exact ⟨fun z => absurd z (by decide), fun z => by rw [z] at b; exact absurd b (by decide)⟩
  · rw [e] at a
    rw [a]
    exact ⟨fun _ => b, fun _ => rfl⟩
  · rw [e] at a
    rw [a]
    exact ⟨fun z => absurd z (by decide), fun z => by rw [z] at b; exact absurd b (by decide)⟩
theorem bd0 : fX10_bounded 0 = some 0 := by decide +kernel
theorem bd1 : fX10_bounded 1 = some 1 := by decide +kernel
/-- comparisons alike -/
theorem cmb_cmp {c one other r' : Int32} {v v' : SX} (hc : c = 61 ∨ c = 60 ∨ c = 62) (h : (if c = 61 then (if one = other then (gd (isB 1) (some (1, v))) else (gd (isB 0) (some (0, v)))) else (if c = 60 then (if other ≤ one then (gd (isB 0) (some (0, v))) else (gd (isB 1) (some (1, v)))) else (if one ≤ other then (gd (isB 0) (some (0, v))) else (gd (isB 1) (some (1, v)))))) = some (r', v')) : v = v' ∧ (r' = 0 ∨ r' = 1) ∧ cmb c one other = some r' := by
  have one' : gd (isB 1) (some ((1 : Int32), v)) = some (r', v') → v = v' ∧ r' = 1 := fun g => by
    have e : (1 : Int32) = r' ∧ v = v' := by cases (gd_some g).2; exact ⟨rfl, rfl⟩
    exact ⟨e.2, e.1.symm⟩
  have zero' : gd (isB 0) (some ((0 : Int32), v)) = some (r', v') → v = v' ∧ r' = 0 := fun g => by
    have e : (0 : Int32) = r' ∧ v = v' := by cases (gd_some g).2; exact ⟨rfl, rfl⟩
    exact ⟨e.2, e.1.symm⟩
  have l3 := lg_3 one other
  unfold cmb
  rcases hc with hc | hc | hc
  · rw [if_pos hc] at h
    rw [hc, if_neg (by decide), join61]
    by_cases d : one = other
    · rw [if_pos d] at h
      obtain ⟨a, b⟩ := one' h
      have k : lg_cmp one.toInt64 other.toInt64 = 0 := by
        rcases l3 with ⟨x, y⟩ | ⟨x, y⟩ | ⟨x, y⟩
        · rw [d] at y; omega
        · exact x
        · rw [d] at y; omega
      rw [if_pos k, b]
      exact ⟨a, Or.inr rfl, bd1⟩
    · rw [if_neg d] at h
      obtain ⟨a, b⟩ := zero' h
      have k : ¬ lg_cmp one.toInt64 other.toInt64 = 0 := by
        rcases l3 with ⟨x, y⟩ | ⟨x, y⟩ | ⟨x, y⟩
        · rw [x]; decide
        · exact absurd y d
        · rw [x]; decide
      rw [if_neg k, b]
      exact ⟨a, Or.inl rfl, bd0⟩
  · rw [if_neg (by rw [hc]; decide), if_pos hc] at h
    rw [hc, if_neg (by decide), join60]
    by_cases d : other ≤ one
    · rw [if_pos d] at h
      obtain ⟨a, b⟩ := zero' h
      have d9 := leI d
      have k : 0 ≤ lg_cmp one.toInt64 other.toInt64 := by
        rcases l3 with ⟨x, y⟩ | ⟨x, y⟩ | ⟨x, y⟩
        · rw [x]; decide
        · rw [x]; decide
        · omega
      rw [if_pos k, b]
      exact ⟨a, Or.inl rfl, bd0⟩
    · rw [if_neg d] at h
      obtain ⟨a, b⟩ := one' h
      have d9 := nleI d
      have k : ¬ 0 ≤ lg_cmp one.toInt64 other.toInt64 := by
        rcases l3 with ⟨x, y⟩ | ⟨x, y⟩ | ⟨x, y⟩
        · omega
        · rw [y] at d9; omega
        · rw [x]; decide
      rw [if_neg k, b]
      exact ⟨a, Or.inr rfl, bd1⟩
  · rw [if_neg (by rw [hc]; decide), if_neg (by rw [hc]; decide)] at h
    rw [hc, if_neg (by decide), join62]
    by_cases d : one ≤ other
    · rw [if_pos d] at h
      obtain ⟨a, b⟩ := zero' h
      have d9 := leI d
      have k : lg_cmp one.toInt64 other.toInt64 ≤ 0 := by
        rcases l3 with ⟨x, y⟩ | ⟨x, y⟩ | ⟨x, y⟩
        · omega
        · rw [x]; decide
        · rw [x]; decide
      rw [if_pos k, b]
      exact ⟨a, Or.inl rfl, bd0⟩
    · rw [if_neg d] at h
      obtain ⟨a, b⟩ := one' h
      have d9 := nleI d
      have k : ¬ lg_cmp one.toInt64 other.toInt64 ≤ 0 := by
        rcases l3 with ⟨x, y⟩ | ⟨x, y⟩ | ⟨x, y⟩
        · rw [x]; decide
        · rw [y] at d9; omega
        · omega
      rw [if_neg k, b]
      exact ⟨a, Or.inr rfl, bd1⟩
theorem cmb_and {z w : Int32} : cmb 38 z w = some (if z = 0 then 0 else if w = 0 then 0 else 1) := by
  unfold cmb
  rw [if_neg (by decide), join38]
  by_cases c : z = 0
  · rw [if_pos ((lg_z z).mpr c), if_pos c]
    exact bd0
  · rw [if_neg (fun q => c ((lg_z z).mp q)), if_neg c]
    by_cases d : w = 0
    · rw [if_pos ((lg_z w).mpr d), if_pos d]
      exact bd0
    · rw [if_neg (fun q => d ((lg_z w).mp q)), if_neg d]
      exact bd1
theorem cmb_or {z w : Int32} : cmb 124 z w = some (if z = 0 then (if w = 0 then 0 else 1) else 1) := by
  unfold cmb
  rw [if_neg (by decide), join124]
  by_cases c : z = 0
  · rw [if_pos ((lg_z z).mpr c), if_pos c]
    by_cases d : w = 0
    · rw [if_pos ((lg_z w).mpr d), if_pos d]
      exact bd0
    · rw [if_neg (fun q => d ((lg_z w).mp q)), if_neg d]
      exact bd1
  · rw [if_neg (fun q => c ((lg_z z).mp q)), if_neg c]
    exact bd1
theorem sgnV {c x : Int32} (h : fX5_compares c = some x) (hx : ¬ x = 0) : c = 61 ∨ c = 60 ∨ c = 62 := by
  unfold fX5_compares at h
  by_cases c1 : c = 61
  · exact Or.inl c1
  · rw [if_neg c1] at h
    by_cases c2 : c = 60
    · exact Or.inr (Or.inl c2)
    · rw [if_neg c2] at h
      by_cases c3 : c = 62
      · exact Or.inr (Or.inr c3)
      · rw [if_neg c3] at h
        have e : (0 : Int32) = x := by cases (gd_some h).2; rfl
        exact absurd e.symm hx
/-- behind the first sum of a comparison -/
theorem cmpV {B : Int32} {L ρ : Nat → Int32} {N : Int32} {Q : Int32 × Int32 × Int32} {dX : Nat} {k y0 r r' : Int32} {e : Int} {u v u' v' : SX} (hL : LetR ρ L N Q.2.2) (hk : Dp k) (he : 0 ≤ e) (hP : PV B L Q e u v k) (h1 : GX5_unit_2_116 (rX5conditiong dX) k u = some (r, u')) (hr : ¬ r = 0) (h2 : GX12_compares_0_12 y0 v = some (r', v')) : PV B L Q e u' v' k ∧ (u.1 4).toInt < (u'.1 4).toInt ∧ (r' = 0 ∨ r' = 1) ∧ ∀ s, RUN ρ N u u' (y0 :: s) (r' :: s) := by
  have p7 : v.1 7 = -1 := hP.1.2.2.2.2.1
  unfold GX5_unit_2_116 at h1
  unfold GX12_compares_0_12 at h2
  rw [if_pos p7] at h2
  obtain ⟨⟨c, u5⟩, a4, h1⟩ := bd_some h1
  obtain ⟨⟨c', v5⟩, b4, h2⟩ := bd_some h2
  obtain ⟨hP5, hle, hq, hz⟩ := peekV hP a4 b4
  obtain ⟨x7, a7, h1⟩ := bd_some h1
  obtain ⟨y7, b7, h2⟩ := bd_some h2
  obtain ⟨exy, hlt⟩ := sgn_eq hq a7 b7
  rw [← exy] at h2
  have nz : ¬ x7 = 0 := fun z => by
    rw [if_pos z] at h1
    have e1 : (0 : Int32) = r := by cases (gd_some h1).2; rfl
    exact hr e1.symm
  rw [if_neg nz] at h1 h2
  have hc := sgnV a7 nz
  have hl := hlt nz
  have ecc : c' = c := by
    rcases hq with ⟨q1, -⟩ | ⟨q1, -⟩
    · rw [q1] at hc
      exact absurd hc (by decide)
    · exact q1.symm
  have b2 : (u5.1 1).toInt ≤ 120 := hP5.1.2.2.2.2.2.2.2.2.2.1
  have b0 : 0 ≤ (u5.1 4).toInt := hP5.1.2.2.2.2.2.2.2.1
  have p6 : v5.1 6 = u5.1 4 := hP5.1.2.2.2.2.2.1
  have sl5 : (u5.1 2).toInt + e ≤ (u5.1 4).toInt := hP5.2.2.2.2.2
  have e5 : (u5.1 4 + 1).toInt = (u5.1 4).toInt + 1 := addc_t (by decide) (by omega) (by omega)
  obtain ⟨u10, j10, h1⟩ := lt_some h1
  obtain ⟨v10, i10, h2⟩ := lt_some h2
  obtain ⟨⟨r12, u13⟩, a12, h1⟩ := bd_some h1
  obtain ⟨⟨s12, v13⟩, b12, h2⟩ := bd_some h2
  rw [p6] at i10
  rw [j10] at a12
  rw [i10] at b12
  obtain ⟨⟨r15, u16⟩, a15, h1⟩ := bd_some h1
  obtain ⟨-, h1⟩ := gd_some h1
  have e1 : r12 = r ∧ u16 = u' := by cases h1; exact ⟨rfl, rfl⟩
  obtain ⟨hP13, hmo, hrun⟩ := (sumsV hL dX).1 64 k (e + 1) _ _ u13 v13 r12 s12 hk (by omega) (PV_at (e' := e + 1) hP5 (by rw [e5]; omega) (by rw [e5]; omega) (by rw [e5]; omega)) a12 (by rw [e1.1]; exact hr) b12
  have hmo : (u5.1 4 + 1).toInt < (u13.1 4).toInt := hmo
  rw [e5] at hmo
  rw [ecc] at h2
  obtain ⟨ev, hb, hx⟩ := cmb_cmp hc h2
  have n0 : ¬ c = 0 := by rcases hc with q | q | q <;> rw [q] <;> decide
  have hc9 : c = 42 ∨ c = 47 ∨ c = 43 ∨ c = 45 ∨ c = 61 ∨ c = 60 ∨ c = 62 ∨ c = 38 ∨ c = 124 := by
    rcases hc with q | q | q
    · exact Or.inr (Or.inr (Or.inr (Or.inr (Or.inl q))))
    · exact Or.inr (Or.inr (Or.inr (Or.inr (Or.inr (Or.inl q)))))
    · exact Or.inr (Or.inr (Or.inr (Or.inr (Or.inr (Or.inr (Or.inl q))))))
  have h4 : ∀ s, PV B L Q e u16 v13 k ∧ u16.1 4 = u13.1 4 ∧ RUN ρ N u13 u16 (s12 :: y0 :: s) (r' :: s) := fun s => emitV hP13 he n0 a15 (exW_op hc9 hx)
  rw [← e1.2, ← ev]
  refine ⟨(h4 []).1, by rw [(h4 []).2.1]; omega, hb, fun s => ?_⟩
  exact RUN_tr (RUN_l (SZ_tr hz ⟨rfl, rfl⟩) (hrun (y0 :: s))) (h4 s).2.2
def UniV (B : Int32) (L ρ : Nat → Int32) (N : Int32) (Q : Int32 × Int32 × Int32) (dX : Nat) : Prop := ∀ (dM : Nat) (k : Int32) (e : Int) (u v u' v' : SX) (r r' : Int32), Dp k → 0 ≤ e → PV B L Q e u v k → rX5conditiong dX 1 k 0 u = some (r, u') → ¬ r = 0 → rX12conditiong dM 2 0 0 v = some (r', v') → PV B L Q e u' v' k ∧ (u.1 4).toInt < (u'.1 4).toInt ∧ (r' = 0 ∨ r' = 1) ∧ ∀ s, RUN ρ N u u' s (r' :: s)
def CndV (B : Int32) (L ρ : Nat → Int32) (N : Int32) (Q : Int32 × Int32 × Int32) (dX : Nat) : Prop := ∀ (dM : Nat) (k b y : Int32) (e : Int) (u v u' v' : SX) (r r' : Int32), Dp k → (b = 0 ∨ b = 1) → 0 ≤ e → PV B L Q e u v k → rX5conditiong dX 0 k b u = some (r, u') → ¬ r = 0 → rX12conditiong dM 0 b y v = some (r', v') → PV B L Q e u' v' k ∧ (u.1 4).toInt < (u'.1 4).toInt ∧ (r' = 0 ∨ r' = 1) ∧ ∀ s, RUN ρ N u u' (pd b y s) (r' :: s)
theorem PV_PR {B d : Int32} {L : Nat → Int32} {Q : Int32 × Int32 × Int32} {e : Int} {u v : SX} (h : PV B L Q e u v d) : ∃ v0, PR u v0 d := by
  obtain ⟨⟨pl, p2, p4, pt, p7, p6, p8, a0, a1, a2, pT⟩, -⟩ := h
  exact ⟨sI (sI (sA v 1 (fun i => v.2.1 2 (B.toNatClampNeg + i))) 2 2) 4 0, pl, rfl, rfl, pt, p7, p6, p8, a0, a1, a2, pT⟩
theorem sumcmpV {B : Int32} {L ρ : Nat → Int32} {N : Int32} {Q : Int32 × Int32 × Int32} {dX : Nat} {k r r' : Int32} {e : Int} {u v u' v' : SX} (hL : LetR ρ L N Q.2.2) (hk : Dp k) (he : 0 ≤ e) (hP : PV B L Q e u v k) (h1 : GX5_unit_2_102 (rX5conditiong dX) k 0 u = some (r, u')) (hr : ¬ r = 0) (h2 : fX12_compares_0 0 0 v = some (r', v')) : PV B L Q e u' v' k ∧ (u.1 4).toInt < (u'.1 4).toInt ∧ (r' = 0 ∨ r' = 1) ∧ ∀ s, RUN ρ N u u' s (r' :: s) := by
  unfold GX5_unit_2_102 at h1
  rw [if_pos rfl] at h1
  unfold fX12_compares_0 at h2
  rw [if_pos rfl] at h2
  obtain ⟨⟨r20, u21⟩, a20, h1⟩ := bd_some h1
  obtain ⟨⟨r1, v2⟩, b1, h2⟩ := bd_some h2
  have h1 : (if r20 = 0 then _ else (GX5_unit_2_116 (rX5conditiong dX) k u21)) = some (r, u') := h1
  have n20 : ¬ r20 = 0 := fun z => by
    rw [if_pos z] at h1
    have e1 : (0 : Int32) = r := by cases (gd_some h1).2; rfl
    exact hr e1.symm
  rw [if_neg n20] at h1
  obtain ⟨hP2, hmo, hrun⟩ := (sumsV hL dX).1 64 k e u v u21 v2 r20 r1 hk he hP a20 n20 b1
  obtain ⟨q1, q2, q3, q4⟩ := cmpV hL hk he hP2 h1 hr h2
  exact ⟨q1, by omega, q3, fun s => RUN_tr (hrun s) (q4 s)⟩
theorem goesInV {B k r : Int32} {L : Nat → Int32} {Q : Int32 × Int32 × Int32} {e : Int} {u v v' : SX} (hk : Dp k) (h6 : ¬ 6 ≤ k) (hP : PV B L Q e u v k) (hlt : (u.1 4).toInt < (u.1 1).toInt) (h : fX12_goesIn_0 v = some (r, v')) : r = 1 ∧ Dp (k + 1) ∧ PV B L Q (e + 1) (sI u 4 (u.1 4 + 1)) v' (k + 1) ∧ (u.1 4 + 1).toInt = (u.1 4).toInt + 1 := by
  have p8 : v.1 8 = k := hP.1.2.2.2.2.2.2.1
  have p6 : v.1 6 = u.1 4 := hP.1.2.2.2.2.2.1
  have b2 : (u.1 1).toInt ≤ 120 := hP.1.2.2.2.2.2.2.2.2.2.1
  have b0 : 0 ≤ (u.1 4).toInt := hP.1.2.2.2.2.2.2.2.1
  have s1 : (u.1 2).toInt + e ≤ (u.1 4).toInt := hP.2.2.2.2.2
  have e5 : (u.1 4 + 1).toInt = (u.1 4).toInt + 1 := addc_t (by decide) (by omega) (by omega)
  have c9 : ¬ (6 : Int) ≤ k.toInt := nleI h6
  obtain ⟨k0, k6⟩ := hk
  unfold fX12_goesIn_0 at h
  rw [p8, if_neg (fun z => by have z9 : k.toInt = (6 : Int) := eqI z; omega)] at h
  have ek : (k + 1).toInt = k.toInt + 1 := addc_t (by decide) (by omega) (by omega)
  obtain ⟨w1, i1, h⟩ := lt_some h
  obtain ⟨w2, i2, h⟩ := lt_some h
  obtain ⟨-, h⟩ := gd_some h
  have ew : (1 : Int32) = r ∧ w2 = v' := by cases h; exact ⟨rfl, rfl⟩
  refine ⟨ew.1.symm, ⟨by rw [ek]; omega, by rw [ek]; omega⟩, ?_, e5⟩
  rw [← ew.2, i2, i1]
  have q := PV_at (x := u.1 4 + 1) (e' := e + 1) (PV_deep (k := k + 1) hP) (by rw [e5]; omega) (by rw [e5]; omega) (by rw [e5]; omega)
  have p6' : (sI v 8 (k + 1)).1 6 = u.1 4 := p6
  rw [p6']
  exact q
theorem exW_not {ρ : Nat → Int32} {N x : Int32} {s : List Int32} : exW ρ N (((0 : Int32) <<< (8 &&& 31)) ||| 33) (x :: s) = some ((1 - x) :: s) := by
  unfold exW
  rw [low8 0 33 (by decide) (by decide), if_neg (by decide), if_neg (by decide), if_neg (by decide), if_neg (by decide), exU_c, if_pos rfl]
set_option maxHeartbeats 1000000 in
theorem unitV {B : Int32} {L ρ : Nat → Int32} {N : Int32} {Q : Int32 × Int32 × Int32} {dX : Nat} (hL : LetR ρ L N Q.2.2) (hU : UniV B L ρ N Q dX) (hC : CndV B L ρ N Q dX) : UniV B L ρ N Q (dX + 1) := by
  intro dM k e u v u' v' r r' hk he hP h1 hr h2
  cases dM with
  | zero => cases h2
  | succ dM =>
    rw [rX_1] at h1
    rw [rC_2] at h2
    unfold fX5_unit_2 at h1
    unfold fX12_unit_0 at h2
    obtain ⟨⟨c, u2⟩, a1, h1⟩ := bd_some h1
    obtain ⟨⟨c', v2⟩, b1, h2⟩ := bd_some h2
    obtain ⟨hP2, hle, hq, hz⟩ := peekV hP a1 b1
    have k33 := pkq_eq hq (k := 33) (by decide) (by decide)
    have k40 := pkq_eq hq (k := 40) (by decide) (by decide)
    have h1 : (if (0 : Int32) = 0 then (if 6 ≤ k then GX5_unit_2_50 (rX5conditiong dX) k 0 c u2 else (if c = 33 then (lt (sI u2 4 ((u2.1 4) + 1)) fun u35 => ((rX5conditiong dX 1 (k + 1) 0 u35).bind _)) else (GX5_unit_2_50 (rX5conditiong dX) k 0 c u2))) else (GX5_unit_2_50 (rX5conditiong dX) k 0 c u2)) = some (r, u') := h1
    rw [if_pos rfl] at h1
    have h2 : (if c' = 33 then _ else _) = some (r', v') := h2
    have hlt : ¬ c = 0 → (u2.1 4).toInt < (u2.1 1).toInt := fun z => by
      rcases hq with ⟨q1, -⟩ | ⟨-, -, -, q4, -⟩
      · exact absurd q1 z
      · exact q4
    have h50 : ∀ {z3 : Int32}, 6 ≤ k → GX5_unit_2_50 (rX5conditiong dX) k 0 z3 u2 = GX5_unit_2_102 (rX5conditiong dX) k 0 u2 := fun {z3} z => by
      unfold GX5_unit_2_50
      rw [if_pos rfl, if_pos z]
    have hdeep : (c = 33 ∨ c = 40) → 6 ≤ k → GX5_unit_2_50 (rX5conditiong dX) k 0 c u2 = some (r, u') → False := fun hc z h => by
      rw [h50 z] at h
      unfold GX5_unit_2_102 at h
      rw [if_pos rfl] at h
      obtain ⟨⟨r20, u21⟩, a20, h⟩ := bd_some h
      obtain ⟨v0, hP0⟩ := PV_PR hP2
      obtain ⟨x1, x2⟩ := bad_tot hP0 hq hc a20
      have h : (if r20 = 0 then _ else _) = some (r, u') := h
      rw [if_pos x1] at h
      have e1 : (0 : Int32) = r := by cases (gd_some h).2; rfl
      exact hr e1.symm
    by_cases c33 : c = 33
    · rw [if_pos (k33.mp c33)] at h2
      by_cases z6 : 6 ≤ k
      · rw [if_pos z6] at h1
        exact (hdeep (Or.inl c33) z6 h1).elim
      · obtain ⟨⟨r22, v23⟩, b22, h2⟩ := bd_some h2
        have h2 : (if r22 = 0 then _ else _) = some (r', v') := h2
        obtain ⟨zr, hk1, hPd, e5⟩ := goesInV hk z6 hP2 (hlt (by rw [c33]; decide)) b22
        rw [if_neg z6, if_pos c33] at h1
        rw [if_neg (by rw [zr]; decide)] at h2
        obtain ⟨u35, j35, h1⟩ := lt_some h1
        obtain ⟨⟨r37, u38⟩, a37, h1⟩ := bd_some h1
        obtain ⟨⟨r25, v26⟩, b25, h2⟩ := bd_some h2
        rw [j35] at a37
        obtain ⟨⟨r40, u41⟩, a40, h1⟩ := bd_some h1
        obtain ⟨-, h1⟩ := gd_some h1
        have e1 : r37 = r ∧ u41 = u' := by cases h1; exact ⟨rfl, rfl⟩
        obtain ⟨hP3, hmo, hb25, hrun⟩ := hU dM (k + 1) (e + 1) _ _ u38 v26 r37 r25 hk1 (by omega) hPd a37 (by rw [e1.1]; exact hr) b25
        have hmo : (u2.1 4 + 1).toInt < (u38.1 4).toInt := hmo
        rw [e5] at hmo
        obtain ⟨v28, i28, h2⟩ := lt_some h2
        have e2 : v28 = v' ∧ r' = 1 - r25 ∧ (r' = 0 ∨ r' = 1) := by
          rcases hb25 with z | z
          · rw [if_pos z] at h2
            have ee : (1 : Int32) = r' ∧ v28 = v' := by cases (gd_some h2).2; exact ⟨rfl, rfl⟩
            rw [z, ← ee.1]
            exact ⟨ee.2, by decide, Or.inr rfl⟩
          · rw [if_neg (by rw [z]; decide)] at h2
            have ee : (0 : Int32) = r' ∧ v28 = v' := by cases (gd_some h2).2; exact ⟨rfl, rfl⟩
            rw [z, ← ee.1]
            exact ⟨ee.2, by decide, Or.inl rfl⟩
        have e8 : v26.1 8 = k + 1 := hP3.1.2.2.2.2.2.2.1
        rw [back_k hk z6 e8] at i28
        rw [c33] at a40
        have h4 : ∀ s, PV B L Q e u41 (sI v26 8 k) k ∧ u41.1 4 = u38.1 4 ∧ RUN ρ N u38 u41 (r25 :: s) ((1 - r25) :: s) := fun s => emitV (PV_deep (k := k) hP3) he (by decide) a40 exW_not
        rw [← e1.2, ← e2.1, i28, e2.2.1]
        refine ⟨(h4 []).1, by rw [(h4 []).2.1]; omega, by rw [← e2.2.1]; exact e2.2.2, fun s => ?_⟩
        exact RUN_tr (RUN_l (SZ_tr hz ⟨rfl, rfl⟩) (hrun s)) (h4 s).2.2
    · rw [if_neg (fun z => c33 (k33.mpr z))] at h2
      have h1 : GX5_unit_2_50 (rX5conditiong dX) k 0 c u2 = some (r, u') := by
        by_cases z : 6 ≤ k
        · rw [if_pos z] at h1; exact h1
        · rw [if_neg z, if_neg c33] at h1; exact h1
      have h2 : (if c' = 40 then _ else _) = some (r', v') := h2
      by_cases c40 : c = 40
      · rw [if_pos (k40.mp c40)] at h2
        by_cases z6 : 6 ≤ k
        · exact (hdeep (Or.inr c40) z6 h1).elim
        · obtain ⟨⟨r8, v9⟩, b8, h2⟩ := bd_some h2
          have h2 : (if r8 = 0 then _ else _) = some (r', v') := h2
          obtain ⟨zr, hk1, hPd, e5⟩ := goesInV hk z6 hP2 (hlt (by rw [c40]; decide)) b8
          unfold GX5_unit_2_50 at h1
          rw [if_pos rfl, if_neg z6, if_pos c40] at h1
          rw [if_neg (by rw [zr]; decide)] at h2
          obtain ⟨u24, j24, h1⟩ := lt_some h1
          obtain ⟨⟨r26, u27⟩, a26, h1⟩ := bd_some h1
          obtain ⟨⟨r11, v12⟩, b11, h2⟩ := bd_some h2
          rw [j24] at a26
          have h1 : (if r26 = 0 then _ else _) = some (r, u') := h1
          have n26 : ¬ r26 = 0 := fun z => by
            rw [if_pos z] at h1
            have e1 : (0 : Int32) = r := by cases (gd_some h1).2; rfl
            exact hr e1.symm
          rw [if_neg n26] at h1
          obtain ⟨hP3, hmo, hb11, hrun⟩ := hC dM (k + 1) 0 0 (e + 1) _ _ u27 v12 r26 r11 hk1 (Or.inl rfl) (by omega) hPd a26 n26 b11
          have hmo : (u2.1 4 + 1).toInt < (u27.1 4).toInt := hmo
          rw [e5] at hmo
          obtain ⟨⟨r14, v15⟩, b14, h2⟩ := bd_some h2
          have h2 : (if r14 = 0 then _ else _) = some (r', v') := h2
          obtain ⟨⟨r30, u31⟩, a30, h1⟩ := bd_some h1
          have h1 : (if r30 = 0 then _ else _) = some (r, u') := h1
          have n30 : ¬ r30 = 0 := fun z => by
            rw [if_pos z] at h1
            have e1 : (0 : Int32) = r := by cases (gd_some h1).2; rfl
            exact hr e1.symm
          rw [if_neg n30] at h1
          obtain ⟨-, g2, hP4, hmo2, hz2⟩ := takesV (by decide) (by decide) hP3 a30 n30 b14
          rw [if_neg (by rw [g2]; decide)] at h2
          obtain ⟨-, h1⟩ := gd_some h1
          obtain ⟨v17, i17, h2⟩ := lt_some h2
          obtain ⟨-, h2⟩ := gd_some h2
          have e1 : (1 : Int32) = r ∧ u31 = u' := by cases h1; exact ⟨rfl, rfl⟩
          have e2 : r11 = r' ∧ v17 = v' := by cases h2; exact ⟨rfl, rfl⟩
          have e8 : v15.1 8 = k + 1 := hP4.1.2.2.2.2.2.2.1
          rw [← e1.2, ← e2.1, ← e2.2, i17, back_k hk z6 e8]
          exact ⟨PV_deep (PV_le hP4 (by omega)), by omega, hb11, fun s => RUN_l (SZ_tr hz ⟨rfl, rfl⟩) (RUN_r (hrun s) hz2)⟩
      · rw [if_neg (fun z => c40 (k40.mpr z))] at h2
        have h1 : GX5_unit_2_102 (rX5conditiong dX) k 0 u2 = some (r, u') := by
          unfold GX5_unit_2_50 at h1
          rw [if_pos rfl] at h1
          by_cases z : 6 ≤ k
          · rw [if_pos z] at h1; exact h1
          · rw [if_neg z, if_neg c40] at h1; exact h1
        obtain ⟨⟨r4, v5⟩, b4, h2⟩ := bd_some h2
        obtain ⟨-, h2⟩ := gd_some h2
        have e2 : r4 = r' ∧ v5 = v' := by cases h2; exact ⟨rfl, rfl⟩
        obtain ⟨q1, q2, q3, q4⟩ := sumcmpV hL hk he hP2 h1 hr b4
        rw [← e2.1, ← e2.2]
        exact ⟨q1, by omega, q3, fun s => RUN_l hz (q4 s)⟩
/-- behind a unit -/
theorem cndX_and {rc : Nat → Int32 → Int32 → SX → Option (Int32 × SX)} {k8 : Int32 → Int32 → Int32 → Int32 → Int32 → SX → Option (Int32 × SX)} {z1 z2 z3 z5 r : Int32} {u u' : SX} (h : GX5_condition_2_70 rc k8 z1 z2 z3 z5 38 38 u = some (r, u')) : k8 z1 z2 z3 38 (z5 + 1) (sI u 4 (u.1 4 + 1)) = some (r, u') := by
  unfold GX5_condition_2_70 at h
  rw [if_neg (by decide)] at h
  unfold GX5_condition_2_103 at h
  obtain ⟨w, ew, h⟩ := lt_some h
  rw [ew] at h
  exact h
theorem cndX_or {rc : Nat → Int32 → Int32 → SX → Option (Int32 × SX)} {k8 : Int32 → Int32 → Int32 → Int32 → Int32 → SX → Option (Int32 × SX)} {z1 z2 z3 z5 r : Int32} {u u' : SX} (h : GX5_condition_2_70 rc k8 z1 z2 z3 z5 124 0 u = some (r, u')) : ∃ (r13 : Int32) (u14 : SX), fX5_emit_2 z3 0 u = some (r13, u14) ∧ k8 z1 z2 124 0 (z5 + 1) (sI u14 4 (u14.1 4 + 1)) = some (r, u') := by
  unfold GX5_condition_2_70 at h
  rw [if_pos rfl] at h
  obtain ⟨⟨r13, u14⟩, a13, h⟩ := bd_some h
  have h : (if (124 : Int32) = 124 then (GX5_condition_2_96 rc k8 z1 z2 0 z5 124 u14) else (GX5_condition_2_96 rc k8 z1 z2 0 z5 0 u14)) = some (r, u') := h
  rw [if_pos rfl] at h
  unfold GX5_condition_2_96 at h
  rw [if_neg (by decide)] at h
  unfold GX5_condition_2_103 at h
  obtain ⟨w, ew, h⟩ := lt_some h
  rw [ew] at h
  exact ⟨r13, u14, a13, h⟩
theorem cndX_fin {rc : Nat → Int32 → Int32 → SX → Option (Int32 × SX)} {k8 : Int32 → Int32 → Int32 → Int32 → Int32 → SX → Option (Int32 × SX)} {z1 z2 z3 z5 c r : Int32} {u u' : SX} (h124 : ¬ c = 124) (h : GX5_condition_2_70 rc k8 z1 z2 z3 z5 c 0 u = some (r, u')) : ∃ r13 : Int32, fX5_emit_2 z3 0 u = some (r13, u') := by
  unfold GX5_condition_2_70 at h
  rw [if_pos rfl] at h
  obtain ⟨⟨r13, u14⟩, a13, h⟩ := bd_some h
  have h : (if c = 124 then _ else (GX5_condition_2_96 rc k8 z1 z2 0 z5 0 u14)) = some (r, u') := h
  rw [if_neg h124] at h
  unfold GX5_condition_2_96 at h
  rw [if_pos rfl] at h
  obtain ⟨-, h⟩ := gd_some h
  have ew : u14 = u' := by cases h; rfl
  rw [ew] at a13
  exact ⟨r13, a13⟩
theorem isB_v {x : Int32} (h : isB x = true) : x = 0 ∨ x = 1 := by
  unfold isB at h
  simp only [Bool.or_eq_true, decide_eq_true_eq, beq_iff_eq] at h
  exact h
def CnkV (dM : Nat) (K : Int32 × SX → Option (Int32 × SX)) (z3 S : Int32) : Prop := ∀ q : Int32 × SX, ∃ (m : Nat) (V : Int32), cmb z3 S q.1 = some V ∧ K q = LX12_condition_0_7 (rX12conditiong (dM + 1)) m V q.2
def CnV (B : Int32) (L ρ : Nat → Int32) (N : Int32) (Q : Int32 × Int32 × Int32) (dX dM : Nat) (k b : Int32) (e : Int) (n : Nat) : Prop := ∀ (z3 z4 z5 T S : Int32) (u3 v2 u' v' : SX) (r r' r1 z : Int32) (m : Nat) (K : Int32 × SX → Option (Int32 × SX)) (s : List Int32), PV B L Q (e + sl z3 + sl z4) u3 v2 k → (z3 = 0 ∨ z3 = 124) → (z4 = 0 ∨ z4 = 38) → 0 ≤ z5.toInt → z5.toInt ≤ (u3.1 4).toInt → cmb z4 T r1 = some z → CnkV dM K z3 S → ((fX5_emit_2 z4 0 u3).bind fun q => match q with | (r5, u6) => ((fX5_peek_2 u6).bind fun q => match q with | (r8, u9) => (if r8 = 38 then (GX5_condition_2_70 (rX5conditiong dX) (LX5_condition_2_8 (rX5conditiong dX) n) k b z3 z5 r8 r8 u9) else (GX5_condition_2_70 (rX5conditiong dX) (LX5_condition_2_8 (rX5conditiong dX) n) k b z3 z5 r8 0 u9)))) = some (r, u') → ¬ r = 0 → (LX12_part_0_18 (rX12conditiong dM) m z v2).bind K = some (r', v') → PV B L Q e u' v' k ∧ (u3.1 4).toInt ≤ (u'.1 4).toInt ∧ (r' = 0 ∨ r' = 1) ∧ RUN ρ N u3 u' (r1 :: pd z4 T (pd z3 S s)) (r' :: s)
set_option maxHeartbeats 2000000 in
theorem cnd_stepV {B : Int32} {L ρ : Nat → Int32} {N : Int32} {Q : Int32 × Int32 × Int32} {dX dM : Nat} {k b : Int32} {e : Int} (hU : UniV B L ρ N Q dX) (hk : Dp k) (he : 0 ≤ e) (n : Nat) (ih : ∀ n', n = n' + 1 → CnV B L ρ N Q dX dM k b e n') : CnV B L ρ N Q dX dM k b e n := by
  intro z3 z4 z5 T S u3 v2 u' v' r r' r1 z m K s hP3 hz3 hz4 hz0 hz1 hcz hK h1 hr hb
  obtain ⟨⟨r3, v4⟩, hb1, hb2⟩ := bd_some hb
  obtain ⟨⟨r5, u6⟩, a5, h1⟩ := bd_some h1
  obtain ⟨⟨c, u9⟩, a8, h1⟩ := bd_some h1
  have sl3 : 0 ≤ sl z3 := by unfold sl; by_cases q : z3 = 0 <;> simp [q]
  obtain ⟨hP6, e6, hrun6⟩ := pendV (ρ := ρ) (N := N) (s := pd z3 S s) (by
    rcases hz4 with q | q
    · exact Or.inl q
    · exact Or.inr (Or.inr (Or.inr (Or.inr (Or.inr (Or.inr (Or.inr (Or.inr (Or.inl q)))))))) ) hP3 (by omega) hcz a5
  cases m with
  | zero => cases hb1
  | succ m =>
    have p7 : v2.1 7 = -1 := hP6.1.2.2.2.2.1
    have hb1 : (if (v2.1 7) = (-1) then ((fX12_look_0 v2).bind fun q => match q with | (r5, u6) => (if r5 = 38 then (lt (sI u6 6 ((u6.1 6) + 1)) fun u9 => ((rX12conditiong dM 2 0 0 u9).bind fun q => match q with | (r11, u12) => (if z = 0 then (GX12_part_0_64 (rX12conditiong dM) (LX12_part_0_18 (rX12conditiong dM) m) u12) else (if r11 = 0 then (GX12_part_0_64 (rX12conditiong dM) (LX12_part_0_18 (rX12conditiong dM) m) u12) else (GX12_part_0_65 (rX12conditiong dM) (LX12_part_0_18 (rX12conditiong dM) m) 1 u12))))) else (gd (isB z) (some (z, u6))))) else (gd (isB z) (some (z, v2)))) = some (r3, v4) := hb1
    rw [if_pos p7] at hb1
    obtain ⟨⟨c', v5⟩, b4, hb1⟩ := bd_some hb1
    obtain ⟨hP9, hle, hq, hz9⟩ := peekV hP6 a8 b4
    have hb1 : (if c' = 38 then (lt (sI v5 6 ((v5.1 6) + 1)) fun u9 => ((rX12conditiong dM 2 0 0 u9).bind fun q => match q with | (r11, u12) => (if z = 0 then (GX12_part_0_64 (rX12conditiong dM) (LX12_part_0_18 (rX12conditiong dM) m) u12) else (if r11 = 0 then (GX12_part_0_64 (rX12conditiong dM) (LX12_part_0_18 (rX12conditiong dM) m) u12) else (GX12_part_0_65 (rX12conditiong dM) (LX12_part_0_18 (rX12conditiong dM) m) 1 u12))))) else (gd (isB z) (some (z, v5)))) = some (r3, v4) := hb1
    have h1 : (if c = 38 then (GX5_condition_2_70 (rX5conditiong dX) (LX5_condition_2_8 (rX5conditiong dX) n) k b z3 z5 c c u9) else (GX5_condition_2_70 (rX5conditiong dX) (LX5_condition_2_8 (rX5conditiong dX) n) k b z3 z5 c 0 u9)) = some (r, u') := h1
    have run9 : RUN ρ N u3 u9 (r1 :: pd z4 T (pd z3 S s)) (z :: pd z3 S s) := RUN_r hrun6 hz9
    have k38 := pkq_eq hq (k := 38) (by decide) (by decide)
    have k124 := pkq_eq hq (k := 124) (by decide) (by decide)
    rw [e6] at hle
    have b2 : (u9.1 1).toInt ≤ 120 := hP9.1.2.2.2.2.2.2.2.2.2.1
    have b0 : 0 ≤ (u9.1 4).toInt := hP9.1.2.2.2.2.2.2.2.1
    have b1 : (u9.1 4).toInt ≤ (u9.1 1).toInt := hP9.1.2.2.2.2.2.2.2.2.1
    have p6 : v5.1 6 = u9.1 4 := hP9.1.2.2.2.2.2.1
    have sl9 : (u9.1 2).toInt + (e + sl z3) ≤ (u9.1 4).toInt := hP9.2.2.2.2.2
    have e5 : (u9.1 4 + 1).toInt = (u9.1 4).toInt + 1 := addc_t (by decide) (by omega) (by omega)
    have ez : (z5 + 1).toInt = z5.toInt + 1 := addc_t (by decide) (by omega) (by omega)
    have nz : ¬ z5 + 1 = 0 := fun q => by
      have q9 : (z5 + 1).toInt = (0 : Int) := eqI q
      omega
    have hlt : ¬ c = 0 → (u9.1 4).toInt < (u9.1 1).toInt := fun go => by
      rcases hq with ⟨q1, -⟩ | ⟨-, -, -, q4, -⟩
      · exact absurd q1 go
      · exact q4
    have hz3' : z3 = 0 ∨ (z3 = 42 ∨ z3 = 47 ∨ z3 = 43 ∨ z3 = 45 ∨ z3 = 61 ∨ z3 = 60 ∨ z3 = 62 ∨ z3 = 38 ∨ z3 = 124) := by
      rcases hz3 with q | q
      · exact Or.inl q
      · exact Or.inr (Or.inr (Or.inr (Or.inr (Or.inr (Or.inr (Or.inr (Or.inr (Or.inr q))))))))
    -- X's next unit
    have nextX : ∀ (z3' z4' : Int32) (w : SX), w.1 4 = u9.1 4 → w.1 1 = u9.1 1 → (u9.1 4).toInt < (u9.1 1).toInt → LX5_condition_2_8 (rX5conditiong dX) n k b z3' z4' (z5 + 1) (sI w 4 (w.1 4 + 1)) = some (r, u') → ∃ n', n = n' + 1 ∧ ∃ (r2' : Int32) (u3' : SX), rX5conditiong dX 1 k 0 (sI w 4 (w.1 4 + 1)) = some (r2', u3') ∧ ¬ r2' = 0 ∧ ((fX5_emit_2 z4' 0 u3').bind fun q => match q with | (r5, u6) => ((fX5_peek_2 u6).bind fun q => match q with | (r8, u9) => (if r8 = 38 then (GX5_condition_2_70 (rX5conditiong dX) (LX5_condition_2_8 (rX5conditiong dX) n') k b z3' (z5 + 1) r8 r8 u9) else (GX5_condition_2_70 (rX5conditiong dX) (LX5_condition_2_8 (rX5conditiong dX) n') k b z3' (z5 + 1) r8 0 u9)))) = some (r, u') := fun z3' z4' w hw4 hw1 hlt h1 => by
      cases n with
      | zero => cases h1
      | succ n =>
        have g36 : GX5_condition_2_36 (rX5conditiong dX) (LX5_condition_2_8 (rX5conditiong dX) n) k b z3' z4' (z5 + 1) 0 k (sI w 4 (w.1 4 + 1)) = some (r, u') := by
          have h1 : (if ((sI w 4 (w.1 4 + 1)).1 1) < z5 + 1 then _ else (if b = 0 then (GX5_condition_2_35 (rX5conditiong dX) (LX5_condition_2_8 (rX5conditiong dX) n) k b z3' z4' (z5 + 1) k (sI w 4 (w.1 4 + 1))) else (if z5 + 1 = 0 then _ else (GX5_condition_2_35 (rX5conditiong dX) (LX5_condition_2_8 (rX5conditiong dX) n) k b z3' z4' (z5 + 1) k (sI w 4 (w.1 4 + 1)))))) = some (r, u') := h1
          rw [if_neg (fun q => by
            have q9 : (w.1 1).toInt < (z5 + 1).toInt := ltI q
            rw [hw1, ez] at q9
            omega)] at h1
          by_cases bz : b = 0
          · rw [if_pos bz] at h1; exact h1
          · rw [if_neg bz, if_neg nz] at h1; exact h1
        unfold GX5_condition_2_36 at g36
        obtain ⟨⟨r2', u3'⟩, a2', g36⟩ := bd_some g36
        have g36 : (if r2' = 0 then _ else _) = some (r, u') := g36
        have n2 : ¬ r2' = 0 := fun z => by
          rw [if_pos z] at g36
          have e1 : (0 : Int32) = r := by cases (gd_some g36).2; rfl
          exact hr e1.symm
        rw [if_neg n2] at g36
        exact ⟨n, rfl, r2', u3', a2', n2, g36⟩
    by_cases c38 : c = 38
    · -- a part goes on
      have hlt := hlt (by rw [c38]; decide)
      rw [if_pos c38, c38] at h1
      rw [if_pos (k38.mp c38)] at hb1
      obtain ⟨n', en, r2', u3', a2', n2, h1⟩ := nextX _ _ _ rfl rfl hlt (cndX_and h1)
      obtain ⟨v9, i9, hb1⟩ := lt_some hb1
      rw [p6] at i9
      obtain ⟨⟨ra, va⟩, ha', hb1⟩ := bd_some hb1
      rw [i9] at ha'
      have s38 : sl 38 = 1 := by decide
      have hPn : PV B L Q (e + sl z3 + sl 38) (sI u9 4 (u9.1 4 + 1)) (sI v5 6 (u9.1 4 + 1)) k := PV_at hP9 (by rw [e5]; omega) (by rw [e5]; omega) (by rw [e5, s38]; omega)
      obtain ⟨hPa, hma, hba, hra⟩ := hU dM k (e + sl z3 + sl 38) _ _ u3' va r2' ra hk (by rw [s38]; omega) hPn a2' n2 ha'
      have hma : (u9.1 4 + 1).toInt < (u3'.1 4).toInt := hma
      rw [e5] at hma
      have nxt : LX12_part_0_18 (rX12conditiong dM) m (if z = 0 then 0 else if ra = 0 then 0 else 1) va = some (r3, v4) := by
        have hb1 : (if z = 0 then (GX12_part_0_64 (rX12conditiong dM) (LX12_part_0_18 (rX12conditiong dM) m) va) else (if ra = 0 then (GX12_part_0_64 (rX12conditiong dM) (LX12_part_0_18 (rX12conditiong dM) m) va) else (GX12_part_0_65 (rX12conditiong dM) (LX12_part_0_18 (rX12conditiong dM) m) 1 va))) = some (r3, v4) := hb1
        by_cases zz : z = 0
        · rw [if_pos zz] at hb1 ⊢
          exact hb1
        · rw [if_neg zz] at hb1 ⊢
          by_cases zr : ra = 0
          · rw [if_pos zr] at hb1 ⊢
            exact hb1
          · rw [if_neg zr] at hb1 ⊢
            exact hb1
      obtain ⟨q1, q2, q3, q4⟩ := ih n' en z3 38 (z5 + 1) z S u3' va u' v' r r' ra _ m K s hPa hz3 (Or.inr rfl) (by rw [ez]; omega) (by rw [ez]; omega) cmb_and hK h1 hr (by rw [nxt]; exact hb2)
      refine ⟨q1, by omega, q3, RUN_tr run9 (RUN_tr (RUN_l ⟨rfl, rfl⟩ (hra (z :: pd z3 S s))) ?_)⟩
      have ep : pd 38 z (pd z3 S s) = z :: pd z3 S s := by
        show (if (38 : Int32) = 0 then _ else _) = _
        rw [if_neg (by decide)]
      rw [ep] at q4
      exact q4
    · rw [if_neg c38] at h1
      rw [if_neg (fun q => c38 (k38.mpr q))] at hb1
      obtain ⟨-, hb1⟩ := gd_some hb1
      have e34 : z = r3 ∧ v5 = v4 := by cases hb1; exact ⟨rfl, rfl⟩
      obtain ⟨m3, V, hV, hK8⟩ := hK (r3, v4)
      have hb2 : K (r3, v4) = some (r', v') := hb2
      rw [hK8, ← e34.2] at hb2
      have hV : cmb z3 S r3 = some V := hV
      rw [← e34.1] at hV
      cases m3 with
      | zero => cases hb2
      | succ m3 =>
        have p75 : v5.1 7 = -1 := hP9.1.2.2.2.2.1
        have hb2 : (if (v5.1 7) = (-1) then ((fX12_look_0 v5).bind fun q => match q with | (r5, u6) => (if r5 = 124 then (lt (sI u6 6 ((u6.1 6) + 1)) fun u9 => ((rX12conditiong (dM + 1) 1 0 0 u9).bind fun q => match q with | (r11, u12) => (if V = 0 then (if r11 = 0 then (GX12_condition_0_56 (rX12conditiong (dM + 1)) (LX12_condition_0_7 (rX12conditiong (dM + 1)) m3) 0 u12) else (GX12_condition_0_51 (rX12conditiong (dM + 1)) (LX12_condition_0_7 (rX12conditiong (dM + 1)) m3) u12)) else (GX12_condition_0_51 (rX12conditiong (dM + 1)) (LX12_condition_0_7 (rX12conditiong (dM + 1)) m3) u12)))) else (gd (isB V) (some (V, u6))))) else (gd (isB V) (some (V, v5)))) = some (r', v') := hb2
        rw [if_pos p75] at hb2
        obtain ⟨⟨c3, v7⟩, b6, hb2⟩ := bd_some hb2
        obtain ⟨x3, x4⟩ := look2V hP9 hq b6
        rw [x3, x4] at hb2
        have hb2 : (if c' = 124 then (lt (sI v5 6 ((v5.1 6) + 1)) fun u9 => ((rX12conditiong (dM + 1) 1 0 0 u9).bind fun q => match q with | (r11, u12) => (if V = 0 then (if r11 = 0 then (GX12_condition_0_56 (rX12conditiong (dM + 1)) (LX12_condition_0_7 (rX12conditiong (dM + 1)) m3) 0 u12) else (GX12_condition_0_51 (rX12conditiong (dM + 1)) (LX12_condition_0_7 (rX12conditiong (dM + 1)) m3) u12)) else (GX12_condition_0_51 (rX12conditiong (dM + 1)) (LX12_condition_0_7 (rX12conditiong (dM + 1)) m3) u12)))) else (gd (isB V) (some (V, v5)))) = some (r', v') := hb2
        by_cases c124 : c = 124
        · -- a condition goes on
          have hlt := hlt (by rw [c124]; decide)
          rw [c124] at h1
          rw [if_pos (k124.mp c124)] at hb2
          obtain ⟨r13, u14, a13, h1⟩ := cndX_or h1
          obtain ⟨hP14, e14, hrun14⟩ := pendV (ρ := ρ) (N := N) (s := s) hz3' hP9 he hV a13
          have f1 : u14.1 1 = u9.1 1 := emit_ln a13
          have sl14 : (u14.1 2).toInt + e ≤ (u14.1 4).toInt := hP14.2.2.2.2.2
          obtain ⟨n', en, r2', u3', a2', n2, h1⟩ := nextX _ _ _ e14 f1 hlt h1
          obtain ⟨v9, i9, hb2⟩ := lt_some hb2
          rw [p6] at i9
          obtain ⟨⟨r11, v12⟩, a11, hb2⟩ := bd_some hb2
          rw [rC_1] at a11
          unfold fX12_part_0 GX12_part_0_17 at a11
          generalize (5000 : Nat) = N5 at a11
          rw [if_pos rfl] at a11
          obtain ⟨⟨ra, va⟩, ha', a11⟩ := bd_some a11
          rw [i9] at ha'
          have a11 : LX12_part_0_18 (rX12conditiong dM) N5 ra va = some (r11, v12) := a11
          have s124 : sl 124 = 1 := by decide
          have hPn : PV B L Q (e + sl 124 + sl 0) (sI u14 4 (u14.1 4 + 1)) (sI v5 6 (u9.1 4 + 1)) k := by
            rw [e14]
            rw [e14] at sl14
            exact PV_at hP14 (by rw [e5, f1]; omega) (by rw [e5]; omega) (by rw [e5, s124, slz]; omega)
          obtain ⟨hPa, hma, hba, hra⟩ := hU dM k (e + sl 124 + sl 0) _ _ u3' va r2' ra hk (by rw [s124, slz]; omega) hPn a2' n2 ha'
          have hma : (u14.1 4 + 1).toInt < (u3'.1 4).toInt := hma
          rw [e14, e5] at hma
          obtain ⟨q1, q2, q3, q4⟩ := ih n' en 124 0 (z5 + 1) 0 V u3' va u' v' r r' ra ra N5 (fun q => (if V = 0 then (if q.1 = 0 then (GX12_condition_0_56 (rX12conditiong (dM + 1)) (LX12_condition_0_7 (rX12conditiong (dM + 1)) m3) 0 q.2) else (GX12_condition_0_51 (rX12conditiong (dM + 1)) (LX12_condition_0_7 (rX12conditiong (dM + 1)) m3) q.2)) else (GX12_condition_0_51 (rX12conditiong (dM + 1)) (LX12_condition_0_7 (rX12conditiong (dM + 1)) m3) q.2))) s hPa (Or.inr rfl) (Or.inl rfl) (by rw [ez]; omega) (by rw [ez]; omega) rfl (fun q => by
              refine ⟨m3, _, cmb_or, ?_⟩
              show (if V = 0 then _ else _) = _
              by_cases vz : V = 0
              · rw [if_pos vz, if_pos vz]
                by_cases qz : q.1 = 0
                · rw [if_pos qz, if_pos qz]
                  rfl
                · rw [if_neg qz, if_neg qz]
                  rfl
              · rw [if_neg vz, if_neg vz]
                rfl) h1 hr (by rw [a11]; exact hb2)
          refine ⟨q1, by omega, q3, RUN_tr run9 (RUN_tr hrun14 (RUN_tr (RUN_l ⟨rfl, rfl⟩ (hra (V :: s))) ?_))⟩
          have ep : pd 0 0 (pd 124 V s) = V :: s := by
            show (if (124 : Int32) = 0 then s else V :: s) = V :: s
            rw [if_neg (by decide)]
          rw [ep] at q4
          exact q4
        · obtain ⟨r13, a13⟩ := cndX_fin c124 h1
          obtain ⟨hP14, e14, hrun14⟩ := pendV (ρ := ρ) (N := N) (s := s) hz3' hP9 he hV a13
          rw [if_neg (fun q => c124 (k124.mpr q))] at hb2
          obtain ⟨gB, hb2⟩ := gd_some hb2
          have e7 : V = r' ∧ v5 = v' := by cases hb2; exact ⟨rfl, rfl⟩
          rw [← e7.1, ← e7.2]
          exact ⟨hP14, by rw [e14]; omega, isB_v gB, RUN_tr run9 hrun14⟩
theorem cnd_allV {B : Int32} {L ρ : Nat → Int32} {N : Int32} {Q : Int32 × Int32 × Int32} {dX dM : Nat} {k b : Int32} {e : Int} (hU : UniV B L ρ N Q dX) (hk : Dp k) (he : 0 ≤ e) : ∀ n, CnV B L ρ N Q dX dM k b e n := by
  intro n
  induction n with
  | zero => exact cnd_stepV hU hk he 0 (fun n' e => by cases e)
  | succ n ih => exact cnd_stepV hU hk he (n + 1) (fun n' e => by cases e; exact ih)
theorem begunV {B : Int32} {L ρ : Nat → Int32} {N : Int32} {Q : Int32 × Int32 × Int32} {dX : Nat} {k y r r' : Int32} {e : Int} {u v u' v' : SX} (hL : LetR ρ L N Q.2.2) (hk : Dp k) (he : 0 ≤ e) (hP : PV B L Q e u v k) (h1 : rX5conditiong dX 1 k 1 u = some (r, u')) (hr : ¬ r = 0) (h2 : fX12_compares_0 1 y v = some (r', v')) : PV B L Q e u' v' k ∧ (u.1 4).toInt < (u'.1 4).toInt ∧ (r' = 0 ∨ r' = 1) ∧ ∀ s, RUN ρ N u u' (y :: s) (r' :: s) := by
  cases dX with
  | zero => cases h1
  | succ dX =>
    rw [rX_1] at h1
    unfold fX5_unit_2 at h1
    obtain ⟨⟨c, u2⟩, a1, h1⟩ := bd_some h1
    have h1 : (if (1 : Int32) = 0 then _ else (GX5_unit_2_50 (rX5conditiong dX) k 1 c u2)) = some (r, u') := h1
    rw [if_neg (by decide)] at h1
    unfold GX5_unit_2_50 at h1
    rw [if_neg (by decide)] at h1
    unfold GX5_unit_2_102 at h1
    rw [if_neg (by decide)] at h1
    unfold fX12_compares_0 at h2
    rw [if_neg (by decide)] at h2
    have p7 : v.1 7 = -1 := hP.1.2.2.2.2.1
    have h3 := h2
    unfold GX12_compares_0_12 at h3
    rw [if_pos p7] at h3
    obtain ⟨⟨c', v5⟩, b4, -⟩ := bd_some h3
    obtain ⟨hP2, hle, hq, -⟩ := peekV hP a1 b4
    have h1' : GX5_unit_2_116 (rX5conditiong dX) k u = some (r, u') := by
      unfold GX5_unit_2_116 at h1 ⊢
      obtain ⟨⟨c2, u3⟩, a3, h1⟩ := bd_some h1
      obtain ⟨v0, hP0⟩ := PV_PR hP2
      obtain ⟨x1, x2⟩ := peek2 hP0 hq a3
      rw [x1, x2] at h1
      rw [a1]
      exact h1
    exact cmpV hL hk he hP h1' hr h2
theorem condV {B : Int32} {L ρ : Nat → Int32} {N : Int32} {Q : Int32 × Int32 × Int32} {dX : Nat} (hL : LetR ρ L N Q.2.2) (hU : UniV B L ρ N Q dX) : CndV B L ρ N Q (dX + 1) := by
  intro dM k b y e u v u' v' r r' hk hb he hP h1 hr h2
  cases dM with
  | zero => cases h2
  | succ dM =>
    rw [rX_0] at h1
    unfold fX5_condition_2 at h1
    obtain ⟨N1, hN1⟩ : ∃ N, 5000 = N + 1 := ⟨4999, rfl⟩
    rw [hN1] at h1
    rw [rC_0] at h2
    unfold fX12_condition_0 at h2
    generalize (5000 : Nat) = N2 at h2
    obtain ⟨⟨r1, v1⟩, a1, h2⟩ := bd_some h2
    have h2 : LX12_condition_0_7 (rX12conditiong dM) N2 r1 v1 = some (r', v') := h2
    have al : (u.1 4).toInt ≤ (u.1 1).toInt := hP.1.2.2.2.2.2.2.2.2.1
    have a0 : 0 ≤ (u.1 4).toInt := hP.1.2.2.2.2.2.2.2.1
    have h1 : (if (u.1 1) < 0 then _ else (if b = 0 then (GX5_condition_2_36 (rX5conditiong dX) (LX5_condition_2_8 (rX5conditiong dX) N1) k b 0 0 0 0 k u) else (if (0 : Int32) = 0 then (GX5_condition_2_36 (rX5conditiong dX) (LX5_condition_2_8 (rX5conditiong dX) N1) k b 0 0 0 1 k u) else _))) = some (r, u') := h1
    rw [if_neg (fun q => by have q9 : (u.1 1).toInt < (0 : Int) := ltI q; omega)] at h1
    have strip : ∀ {r2 : Int32} {u3 : SX} {X : Option (Int32 × SX)}, (if r2 = 0 then (gd (isB 0) (some (0, u3))) else X) = some (r, u') → ¬ r2 = 0 ∧ X = some (r, u') := fun {r2 u3 X} h => by
      have n2 : ¬ r2 = 0 := fun z => by
        rw [if_pos z] at h
        have e1 : (0 : Int32) = r := by cases (gd_some h).2; rfl
        exact hr e1.symm
      rw [if_neg n2] at h
      exact ⟨n2, h⟩
    cases dM with
    | zero => cases a1
    | succ dM =>
      rw [rC_1] at a1
      unfold fX12_part_0 GX12_part_0_17 at a1
      generalize (5000 : Nat) = N3 at a1
      rcases hb with hb | hb
      · rw [if_pos hb] at h1 a1
        unfold GX5_condition_2_36 at h1
        obtain ⟨⟨r2, u3⟩, a2, h1⟩ := bd_some h1
        obtain ⟨n2, h1⟩ := strip h1
        obtain ⟨⟨ra, va⟩, ha, a1⟩ := bd_some a1
        have a1 : LX12_part_0_18 (rX12conditiong dM) N3 ra va = some (r1, v1) := a1
        obtain ⟨hP3, hmo, hba, hra⟩ := hU dM k e u v u3 va r2 ra hk he hP a2 n2 ha
        have q : ∀ s, PV B L Q e u' v' k ∧ (u3.1 4).toInt ≤ (u'.1 4).toInt ∧ (r' = 0 ∨ r' = 1) ∧ RUN ρ N u3 u' (ra :: pd 0 0 (pd 0 0 s)) (r' :: s) := fun s => cnd_allV (dM := dM) (b := b) hU hk he N1 0 0 0 0 0 u3 va u' v' r r' ra ra N3 (fun q => LX12_condition_0_7 (rX12conditiong (dM + 1)) N2 q.1 q.2) s (PV_le hP3 (by rw [slz]; omega)) (Or.inl rfl) (Or.inl rfl) (by decide) (by show (0 : Int) ≤ _; omega) rfl (fun q => ⟨N2, q.1, rfl, rfl⟩) h1 hr (by rw [a1]; exact h2)
        rw [hb]
        exact ⟨(q []).1, by have := (q []).2.1; omega, (q []).2.2.1, fun s => RUN_tr (hra s) (q s).2.2.2⟩
      · rw [if_neg (by rw [hb]; decide), if_pos rfl] at h1
        rw [if_neg (by rw [hb]; decide)] at a1
        unfold GX5_condition_2_36 at h1
        obtain ⟨⟨r2, u3⟩, a2, h1⟩ := bd_some h1
        obtain ⟨n2, h1⟩ := strip h1
        obtain ⟨⟨ra, va⟩, ha, a1⟩ := bd_some a1
        have a1 : LX12_part_0_18 (rX12conditiong dM) N3 ra va = some (r1, v1) := a1
        obtain ⟨hP3, hmo, hba, hra⟩ := begunV hL hk he hP a2 n2 ha
        have q : ∀ s, PV B L Q e u' v' k ∧ (u3.1 4).toInt ≤ (u'.1 4).toInt ∧ (r' = 0 ∨ r' = 1) ∧ RUN ρ N u3 u' (ra :: pd 0 0 (pd 0 0 s)) (r' :: s) := fun s => cnd_allV (dM := dM) (b := b) hU hk he N1 0 0 0 0 0 u3 va u' v' r r' ra ra N3 (fun q => LX12_condition_0_7 (rX12conditiong (dM + 1)) N2 q.1 q.2) s (PV_le hP3 (by rw [slz]; omega)) (Or.inl rfl) (Or.inl rfl) (by decide) (by show (0 : Int) ≤ _; omega) rfl (fun q => ⟨N2, q.1, rfl, rfl⟩) h1 hr (by rw [a1]; exact h2)
        have ep : ∀ s, pd b y s = y :: s := fun s => by
          show (if b = 0 then _ else _) = _
          rw [if_neg (by rw [hb]; decide)]
        exact ⟨(q []).1, by have := (q []).2.1; omega, (q []).2.2.1, fun s => by rw [ep s]; exact RUN_tr (hra s) (q s).2.2.2⟩
theorem condsV {B : Int32} {L ρ : Nat → Int32} {N : Int32} {Q : Int32 × Int32 × Int32} (hL : LetR ρ L N Q.2.2) : ∀ dX, UniV B L ρ N Q dX ∧ CndV B L ρ N Q dX := by
  intro dX
  induction dX with
  | zero => exact ⟨fun dM k e u v u' v' r r' _ _ _ h => (by cases h), fun dM k b y e u v u' v' r r' _ _ _ _ h => (by cases h)⟩
  | succ dX ih => exact ⟨unitV hL ih.1 ih.2, condV hL ih.1⟩
