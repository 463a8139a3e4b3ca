/-! Parts, events and looks alike, row by row. -/
def TPa (u v : SX) : Prop := ∀ i : Nat, (i : Int) < (u.1 8).toInt → u.2.1 24 i = v.2.1 6 i ∧ u.2.1 25 i = v.2.1 10 i ∧ u.2.1 26 i = v.2.1 9 i ∧ u.2.1 29 i = v.2.1 7 i ∧ u.2.1 30 i = v.2.1 8 i ∧ (u.2.1 29 i).toInt ≤ (u.2.1 30 i).toInt ∧ (u.2.1 25 i).toInt ≤ (u.1 0).toInt
def TEv (u v : SX) : Prop := ∀ i : Nat, (i : Int) < (u.1 12).toInt → u.2.1 31 i = v.2.1 12 i ∧ u.2.1 32 i = v.2.1 13 i ∧ u.2.1 33 i = v.2.1 14 i ∧ u.2.1 34 i = v.2.1 15 i ∧ (u.2.1 35 i = 0 ↔ onC (v.2.1 11 i) = 0) ∧ (u.2.1 32 i).toInt ≤ (u.2.1 33 i).toInt ∧ (u.2.1 34 i).toInt ≤ (u.1 0).toInt
def LkD (u : SX) (k : Nat) (e : Int32) : Prop := 0 ≤ e.toInt ∧ e.toInt < (u.1 12).toInt ∧ (u.2.1 53 k, u.2.1 54 k) = spX u e.toNatClampNeg (u.2.1 48 k).toNatClampNeg ∧ (u.2.1 55 k, u.2.1 56 k) = spX u (e.toNatClampNeg + 1) (u.2.1 48 k).toNatClampNeg ∧ u.2.1 31 e.toNatClampNeg = u.2.1 48 k ∧ u.2.1 32 e.toNatClampNeg = u.2.1 49 k ∧ u.2.1 33 e.toNatClampNeg = u.2.1 50 k ∧ u.2.1 35 e.toNatClampNeg = 0
def TLk (u v : SX) : Prop := ∀ k : Nat, (k : Int) < (u.1 29).toInt → u.2.1 48 k = v.2.1 29 k ∧ u.2.1 49 k = v.2.1 30 k ∧ u.2.1 50 k = v.2.1 31 k ∧ u.2.1 51 k = v.2.1 32 k ∧ (u.2.1 49 k).toInt ≤ (u.2.1 50 k).toInt ∧ 0 ≤ (u.2.1 48 k).toInt ∧ (u.2.1 48 k).toInt < (u.1 8).toInt ∧ (¬ v.2.1 33 k = -1 → LkD u k (v.2.1 33 k))
def TieS (u v : SX) : Prop := u.1 12 = v.1 13 ∧ TPa u v ∧ TEv u v ∧ TLk u v ∧ Srt (u.2.1 34) (u.1 12) ∧ Srt (u.2.1 25) (u.1 8)
def sxF : List Nat := [0, 8, 12, 29]
def sxR : List Nat := [24, 25, 26, 29, 30, 31, 32, 33, 34, 35, 48, 49, 50, 51, 53, 54, 55, 56]
def smR : List Nat := [6, 7, 8, 9, 10, 11, 12, 13, 14, 15, 29, 30, 31, 32, 33]
def tieSF (xf xr mf mr : List Nat) : Bool := sxF.all (fun k => !xf.contains k) && sxR.all (fun k => !xr.contains k) && !mf.contains 13 && smR.all (fun k => !mr.contains k)
theorem TieS_of {u u' v v' : SX} (f : ∀ k, k ∈ sxF → u'.1 k = u.1 k) (g : ∀ k, k ∈ sxR → u'.2.1 k = u.2.1 k) (m : v'.1 13 = v.1 13) (n : ∀ k, k ∈ smR → v'.2.1 k = v.2.1 k) (h : TieS u v) : TieS u' v' := by
  unfold TieS TPa TEv TLk LkD spX at h ⊢
  rw [f 0 (by decide), f 8 (by decide), f 12 (by decide), f 29 (by decide), g 24 (by decide), g 25 (by decide), g 26 (by decide), g 29 (by decide), g 30 (by decide), g 31 (by decide), g 32 (by decide), g 33 (by decide), g 34 (by decide), g 35 (by decide), g 48 (by decide), g 49 (by decide), g 50 (by decide), g 51 (by decide), g 53 (by decide), g 54 (by decide), g 55 (by decide), g 56 (by decide), m, n 6 (by decide), n 7 (by decide), n 8 (by decide), n 9 (by decide), n 10 (by decide), n 11 (by decide), n 12 (by decide), n 13 (by decide), n 14 (by decide), n 15 (by decide), n 29 (by decide), n 30 (by decide), n 31 (by decide), n 32 (by decide), n 33 (by decide)]
  exact h
theorem TieS_fr {u u' v v' : SX} {xf xr mf mr : List Nat} (h1 : ∀ k, xf.contains k = false → u'.1 k = u.1 k) (h2 : ∀ k, xr.contains k = false → u'.2.1 k = u.2.1 k) (h3 : ∀ k, mf.contains k = false → v'.1 k = v.1 k) (h4 : ∀ k, mr.contains k = false → v'.2.1 k = v.2.1 k) (c : tieSF xf xr mf mr = true) (h : TieS u v) : TieS u' v' := by
  unfold tieSF at c
  simp only [Bool.and_eq_true] at c
  obtain ⟨⟨⟨c1, c2⟩, c3⟩, c4⟩ := c
  exact TieS_of (fun k hk => h1 k (not_b (List.all_eq_true.mp c1 k hk))) (fun k hk => h2 k (not_b (List.all_eq_true.mp c2 k hk))) (h3 13 (not_b c3)) (fun k hk => h4 k (not_b (List.all_eq_true.mp c4 k hk))) h
def cxF : List Nat := [8, 10, 11, 12]
def cxR : List Nat := [27, 28, 29, 30, 31, 32, 33, 35]
def tieC2 (xf xr : List Nat) : Bool := cxF.all (fun k => !xf.contains k) && cxR.all (fun k => !xr.contains k)
theorem CX_fr2 {u u' : SX} {xf xr : List Nat} (h1 : ∀ k, xf.contains k = false → u'.1 k = u.1 k) (h2 : ∀ k, xr.contains k = false → u'.2.1 k = u.2.1 k) (c : tieC2 xf xr = true) (h : CX u) : CX u' := by
  unfold tieC2 at c
  simp only [Bool.and_eq_true] at c
  obtain ⟨c1, c2⟩ := c
  have f : ∀ k, k ∈ cxF → u'.1 k = u.1 k := fun k hk => h1 k (not_b (List.all_eq_true.mp c1 k hk))
  have g : ∀ k, k ∈ cxR → u'.2.1 k = u.2.1 k := fun k hk => h2 k (not_b (List.all_eq_true.mp c2 k hk))
  exact CX_fr (f 8 (by decide)) (f 10 (by decide)) (f 11 (by decide)) (f 12 (by decide)) (g 27 (by decide)) (g 28 (by decide)) (g 29 (by decide)) (g 30 (by decide)) (g 31 (by decide)) (g 32 (by decide)) (g 33 (by decide)) (g 35 (by decide)) h
def tieCX (mx : MD) : Bool := tieC2 mx.1 mx.2.1
theorem CX_md {u u' : SX} {mx : MD} (hx : FrM mx u u') (c : tieCX mx = true) (h : CX u) : CX u' := CX_fr2 hx.1 hx.2.1 c h
theorem TieS_0 : TieS uX uM := ⟨rfl, fun i hi => by
    have hi : (i : Int) < 0 := hi
    omega, fun i hi => by
    have hi : (i : Int) < 0 := hi
    omega, fun i hi => by
    have hi : (i : Int) < 0 := hi
    omega, fun i j _ hj => by
    have hj : (j : Int) < 0 := hj
    omega, fun i j _ hj => by
    have hj : (j : Int) < 0 := hj
    omega⟩
theorem CX_0 : CX uX := ⟨by decide, by decide, fun i hi => by
    have hi : (i : Int) < 0 := hi
    omega⟩
/-- the same events played on both sides -/
theorem spn_eq {u v : SX} (hS : TieS u v) {k i : Nat} (hk : (k : Int) ≤ (u.1 12).toInt) (hi : (i : Int) < (u.1 8).toInt) : spX u k i = spM v k i := by
  obtain ⟨s1, s2, s3, -⟩ := hS
  obtain ⟨-, -, -, a1, a2, -⟩ := s2 i hi
  refine rpS_cg a1 a2 k (fun j hj => ?_)
  obtain ⟨b1, b2, b3, -, b5, -⟩ := s3 j (by omega)
  exact ⟨b1, b2, b3, b5⟩
theorem TieS_ho {u v : SX} (hS : TieS u v) : ∀ j : Nat, (j : Int) < (v.1 13).toInt → (v.2.1 13 j).toInt ≤ (v.2.1 14 j).toInt := fun j hj => by
  obtain ⟨s1, s2, s3, -⟩ := hS
  rw [← s1] at hj
  obtain ⟨b1, b2, b3, -, b5, b6, -⟩ := s3 j hj
  rw [← b2, ← b3]
  exact b6
theorem TieS_hp {u v : SX} (hp : TieP u v) (hS : TieS u v) : ∀ i : Nat, (i : Int) < (v.1 12).toInt → (v.2.1 7 i).toInt ≤ (v.2.1 8 i).toInt := fun i hi => by
  rw [← hp.1] at hi
  obtain ⟨-, -, -, a1, a2, a3, -⟩ := hS.2.1 i hi
  rw [← a1, ← a2]
  exact a3
theorem win {x a b r : Int32} (h : fX11_within x a b = some r) : (r = 0 ∧ ¬ (a.toInt ≤ x.toInt ∧ x.toInt ≤ b.toInt)) ∨ (r = 1 ∧ a.toInt ≤ x.toInt ∧ x.toInt ≤ b.toInt) := by
  unfold fX11_within at h
  by_cases c : x < a
  · rw [if_pos c] at h
    have c9 := ltI c
    have e : (0 : Int32) = r := by cases (gd_some h).2; rfl
    exact Or.inl ⟨e.symm, by omega⟩
  · rw [if_neg c] at h
    have c9 := nltI c
    by_cases d : b < x
    · rw [if_pos d] at h
      have d9 := ltI d
      have e : (0 : Int32) = r := by cases (gd_some h).2; rfl
      exact Or.inl ⟨e.symm, by omega⟩
    · rw [if_neg d] at h
      have d9 := nltI d
      have e : (1 : Int32) = r := by cases (gd_some h).2; rfl
      exact Or.inr ⟨e.symm, by omega, by omega⟩
theorem inn {x a b r : Int32} (h : fX12_isIn x a b = some r) : (r = 0 ∧ ¬ (a.toInt ≤ x.toInt ∧ x.toInt ≤ b.toInt)) ∨ (r = 1 ∧ a.toInt ≤ x.toInt ∧ x.toInt ≤ b.toInt) := win (show fX11_within x a b = some r from h)
theorem eith {x r : Int32} (h : fX11_isEither x = some r) : (r = 0 ∧ ¬ (0 ≤ x.toInt ∧ x.toInt ≤ 1)) ∨ (r = 1 ∧ 0 ≤ x.toInt ∧ x.toInt ≤ 1) := by
  unfold fX11_isEither at h
  by_cases c : x = 0
  · rw [if_pos c] at h
    have c9 : x.toInt = (0 : Int) := eqI c
    have e : (1 : Int32) = r := by cases (gd_some h).2; rfl
    exact Or.inr ⟨e.symm, by omega, by omega⟩
  · rw [if_neg c] at h
    have c9 : ¬ x.toInt = (0 : Int) := neI c
    by_cases d : x = 1
    · rw [if_pos d] at h
      have d9 : x.toInt = (1 : Int) := eqI d
      have e : (1 : Int32) = r := by cases (gd_some h).2; rfl
      exact Or.inr ⟨e.symm, by omega, by omega⟩
    · rw [if_neg d] at h
      have d9 : ¬ x.toInt = (1 : Int) := neI d
      have e : (0 : Int32) = r := by cases (gd_some h).2; rfl
      exact Or.inl ⟨e.symm, by omega⟩
theorem hasPi {x r : Int32} {u u' : SX} (h : fX6_has_6 x u = some (r, u')) : u' = u ∧ ((r = 0 ∧ ¬ (0 ≤ x.toInt ∧ x.toInt < (u.1 8).toInt)) ∨ (r = 1 ∧ 0 ≤ x.toInt ∧ x.toInt < (u.1 8).toInt)) := by
  unfold fX6_has_6 at h
  by_cases c : x < 0
  · rw [if_pos c] at h
    have c9 : x.toInt < (0 : Int) := ltI c
    have e : (0 : Int32) = r ∧ u = u' := by cases (gd_some h).2; exact ⟨rfl, rfl⟩
    exact ⟨e.2.symm, Or.inl ⟨e.1.symm, by omega⟩⟩
  · rw [if_neg c] at h
    have c9 : ¬ x.toInt < (0 : Int) := nltI c
    by_cases d : u.1 8 ≤ x
    · rw [if_pos d] at h
      have d9 := leI d
      have e : (0 : Int32) = r ∧ u = u' := by cases (gd_some h).2; exact ⟨rfl, rfl⟩
      exact ⟨e.2.symm, Or.inl ⟨e.1.symm, by omega⟩⟩
    · rw [if_neg d] at h
      have d9 := nleI d
      have e : (1 : Int32) = r ∧ u = u' := by cases (gd_some h).2; exact ⟨rfl, rfl⟩
      exact ⟨e.2.symm, Or.inr ⟨e.1.symm, by omega, by omega⟩⟩
theorem isPi {x r : Int32} {u u' : SX} (h : fX12_isPart_0 x u = some (r, u')) : u' = u ∧ ((r = 0 ∧ ¬ (0 ≤ x.toInt ∧ x.toInt < (u.1 12).toInt)) ∨ (r = 1 ∧ 0 ≤ x.toInt ∧ x.toInt < (u.1 12).toInt)) := by
  unfold fX12_isPart_0 at h
  by_cases c : x < 0
  · rw [if_pos c] at h
    have c9 : x.toInt < (0 : Int) := ltI c
    have e : (0 : Int32) = r ∧ u = u' := by cases (gd_some h).2; exact ⟨rfl, rfl⟩
    exact ⟨e.2.symm, Or.inl ⟨e.1.symm, by omega⟩⟩
  · rw [if_neg c] at h
    have c9 : ¬ x.toInt < (0 : Int) := nltI c
    by_cases d : u.1 12 ≤ x
    · rw [if_pos d] at h
      have d9 := leI d
      have e : (0 : Int32) = r ∧ u = u' := by cases (gd_some h).2; exact ⟨rfl, rfl⟩
      exact ⟨e.2.symm, Or.inl ⟨e.1.symm, by omega⟩⟩
    · rw [if_neg d] at h
      have d9 := nleI d
      have e : (1 : Int32) = r ∧ u = u' := by cases (gd_some h).2; exact ⟨rfl, rfl⟩
      exact ⟨e.2.symm, Or.inr ⟨e.1.symm, by omega, by omega⟩⟩
theorem isDayi {x r : Int32} {u u' : SX} (h : fX11_isDay_0 x u = some (r, u')) : u' = u ∧ ((r = 0 ∧ ¬ (0 ≤ x.toInt ∧ x.toInt ≤ (u.1 0).toInt)) ∨ (r = 1 ∧ 0 ≤ x.toInt ∧ x.toInt ≤ (u.1 0).toInt)) := by
  unfold fX11_isDay_0 at h
  obtain ⟨r1, a1, h⟩ := bd_some h
  obtain ⟨-, h⟩ := gd_some h
  have e : r1 = r ∧ u = u' := by cases h; exact ⟨rfl, rfl⟩
  rw [e.1] at a1
  exact ⟨e.2.symm, win a1⟩
theorem ne01 {r : Int32} (h : r = 1) : ¬ r = 0 := by rw [h]; decide
def OKs (u : SX) (x1 x2 x3 : Int32) : Prop := 0 ≤ x2.toInt ∧ x2.toInt ≤ (u.1 0).toInt ∧ 0 ≤ x3.toInt ∧ x3.toInt ≤ 1 ∧ 0 ≤ x1.toInt ∧ x1.toInt < (u.1 8).toInt ∧ (u.2.1 25 x1.toNatClampNeg).toInt ≤ x2.toInt
theorem spanX {x1 x2 x3 r : Int32} {u u' : SX} (h : fX11_span_0 x1 x2 x3 u = some (r, u')) : (¬ OKs u x1 x2 x3 ∧ r = -1 ∧ u' = u) ∨ (OKs u x1 x2 x3 ∧ ∃ s : Int32, fX6_recall_6 x2 u = some (s, u') ∧ r = if x3 = 0 then u'.2.1 27 x1.toNatClampNeg else u'.2.1 28 x1.toNatClampNeg) := by
  unfold fX11_span_0 at h
  have no : some ((-1 : Int32), u) = some (r, u') → ¬ OKs u x1 x2 x3 → (¬ OKs u x1 x2 x3 ∧ r = -1 ∧ u' = u) ∨ (OKs u x1 x2 x3 ∧ ∃ s : Int32, fX6_recall_6 x2 u = some (s, u') ∧ r = if x3 = 0 then u'.2.1 27 x1.toNatClampNeg else u'.2.1 28 x1.toNatClampNeg) := fun g z => by
    have e : (-1 : Int32) = r ∧ u = u' := by cases g; exact ⟨rfl, rfl⟩
    exact Or.inl ⟨z, e.1.symm, e.2.symm⟩
  obtain ⟨⟨r1, u2⟩, a1, h⟩ := bd_some h
  obtain ⟨e1, k1⟩ := isDayi a1
  rw [e1] at h
  have h : (if r1 = 0 then (some ((-1), u)) else _) = some (r, u') := h
  rcases k1 with ⟨z, k1⟩ | ⟨z, k1, k1'⟩
  · rw [if_pos z] at h
    exact no h (fun q => k1 ⟨q.1, q.2.1⟩)
  · rw [if_neg (ne01 z)] at h
    obtain ⟨r4, a4, h⟩ := bd_some h
    rcases eith a4 with ⟨z, k4⟩ | ⟨z, k4, k4'⟩
    · rw [if_pos z] at h
      exact no h (fun q => k4 ⟨q.2.2.1, q.2.2.2.1⟩)
    · rw [if_neg (ne01 z)] at h
      obtain ⟨⟨r7, u8⟩, a7, h⟩ := bd_some h
      obtain ⟨e7, k7⟩ := hasPi a7
      rw [e7] at h
      have h : (if r7 = 0 then (some ((-1), u)) else (gd (inb x1 12) _)) = some (r, u') := h
      rcases k7 with ⟨z, k7⟩ | ⟨z, k7, k7'⟩
      · rw [if_pos z] at h
        exact no h (fun q => k7 ⟨q.2.2.2.2.1, q.2.2.2.2.2.1⟩)
      · rw [if_neg (ne01 z)] at h
        obtain ⟨-, h⟩ := gd_some h
        by_cases c : u.2.1 25 x1.toNatClampNeg ≤ x2
        · rw [if_pos c] at h
          have c9 := leI c
          obtain ⟨⟨r11, u12⟩, a11, h⟩ := bd_some h
          refine Or.inr ⟨⟨k1, k1', k4, k4', k7, k7', c9⟩, r11, ?_⟩
          have h : (if x3 = 0 then (gd (inb x1 12) (some (u12.2.1 27 x1.toNatClampNeg, u12))) else (gd (inb x1 12) (some (u12.2.1 28 x1.toNatClampNeg, u12)))) = some (r, u') := h
          by_cases d : x3 = 0
          · rw [if_pos d] at h ⊢
            have e : u12.2.1 27 x1.toNatClampNeg = r ∧ u12 = u' := by cases (gd_some h).2; exact ⟨rfl, rfl⟩
            rw [← e.1, ← e.2]
            exact ⟨a11, rfl⟩
          · rw [if_neg d] at h ⊢
            have e : u12.2.1 28 x1.toNatClampNeg = r ∧ u12 = u' := by cases (gd_some h).2; exact ⟨rfl, rfl⟩
            rw [← e.1, ← e.2]
            exact ⟨a11, rfl⟩
        · rw [if_neg c] at h
          have c9 := nleI c
          exact no h (fun q => c9 q.2.2.2.2.2.2)
def OKm (u : SX) (x1 x2 x3 : Int32) : Prop := 0 ≤ x2.toInt ∧ x2.toInt ≤ (u.1 1).toInt ∧ 0 ≤ x3.toInt ∧ x3.toInt ≤ 1 ∧ 0 ≤ x1.toInt ∧ x1.toInt < (u.1 12).toInt ∧ (u.2.1 10 x1.toNatClampNeg).toInt ≤ x2.toInt
theorem isKni {x1 x2 r : Int32} {u u' : SX} (h : fX12_isKnown_0 x1 x2 u = some (r, u')) : u' = u ∧ ((r = 0 ∧ ¬ (0 ≤ x2.toInt ∧ x2.toInt ≤ (u.1 1).toInt ∧ x1.toInt ≤ x2.toInt)) ∨ (r = 1 ∧ 0 ≤ x2.toInt ∧ x2.toInt ≤ (u.1 1).toInt ∧ x1.toInt ≤ x2.toInt)) := by
  unfold fX12_isKnown_0 at h
  obtain ⟨r1, a1, h⟩ := bd_some h
  rcases inn a1 with ⟨z, k1⟩ | ⟨z, k1, k1'⟩
  · rw [if_pos z] at h
    have e : (0 : Int32) = r ∧ u = u' := by cases (gd_some h).2; exact ⟨rfl, rfl⟩
    exact ⟨e.2.symm, Or.inl ⟨e.1.symm, fun q => k1 ⟨q.1, q.2.1⟩⟩⟩
  · rw [if_neg (ne01 z)] at h
    by_cases c : x2 < x1
    · rw [if_pos c] at h
      have c9 := ltI c
      have e : (0 : Int32) = r ∧ u = u' := by cases (gd_some h).2; exact ⟨rfl, rfl⟩
      exact ⟨e.2.symm, Or.inl ⟨e.1.symm, fun q => by omega⟩⟩
    · rw [if_neg c] at h
      have c9 := nltI c
      have e : (1 : Int32) = r ∧ u = u' := by cases (gd_some h).2; exact ⟨rfl, rfl⟩
      exact ⟨e.2.symm, Or.inr ⟨e.1.symm, k1, k1', by omega⟩⟩
theorem spanM {x1 x2 x3 r : Int32} {v v' : SX} (h : fX12_span_0 x1 x2 x3 v = some (r, v')) : (¬ OKm v x1 x2 x3 ∧ r = -1) ∨ (OKm v x1 x2 x3 ∧ ∃ s : Int32, fX12_laySpansOf_0 x2 (sI v 0 0) = some (s, v') ∧ r = if x3 = 0 then v'.2.1 16 x1.toNatClampNeg else v'.2.1 17 x1.toNatClampNeg) := by
  unfold fX12_span_0 at h
  obtain ⟨v1, e1, h⟩ := lt_some h
  rw [← e1]
  have f1 : v1.1 1 = v.1 1 := by rw [e1]; rfl
  have f12 : v1.1 12 = v.1 12 := by rw [e1]; rfl
  have f10 : v1.2.1 10 = v.2.1 10 := by rw [e1]; rfl
  clear e1
  unfold OKm
  rw [← f1, ← f12, ← f10]
  have no : ∀ w : SX, some ((-1 : Int32), w) = some (r, v') → r = -1 := fun w g => by
    cases g; rfl
  obtain ⟨⟨r3, u4⟩, a3, h⟩ := bd_some h
  obtain ⟨e3, k3⟩ := isPi a3
  rw [e3] at h
  have h : (if r3 = 0 then (some ((-1), v1)) else (gd (inb x1 12) _)) = some (r, v') := h
  rcases k3 with ⟨z, k3⟩ | ⟨z, k3, k3'⟩
  · rw [if_pos z] at h
    exact Or.inl ⟨fun q => k3 ⟨q.2.2.2.2.1, q.2.2.2.2.2.1⟩, no _ h⟩
  · rw [if_neg (ne01 z)] at h
    obtain ⟨-, h⟩ := gd_some h
    obtain ⟨⟨r7, u8⟩, a7, h⟩ := bd_some h
    obtain ⟨e7, k7⟩ := isKni a7
    rw [e7] at h
    have h : (if r7 = 0 then (some ((-1), v1)) else _) = some (r, v') := h
    rcases k7 with ⟨z, k7⟩ | ⟨z, k7, k7', k7''⟩
    · rw [if_pos z] at h
      exact Or.inl ⟨fun q => k7 ⟨q.1, q.2.1, q.2.2.2.2.2.2⟩, no _ h⟩
    · rw [if_neg (ne01 z)] at h
      obtain ⟨r10, a10, h⟩ := bd_some h
      rcases inn a10 with ⟨z, k10⟩ | ⟨z, k10, k10'⟩
      · rw [if_pos z] at h
        exact Or.inl ⟨fun q => k10 ⟨q.2.2.1, q.2.2.2.1⟩, no _ h⟩
      · rw [if_neg (ne01 z)] at h
        obtain ⟨⟨r13, u14⟩, a13, h⟩ := bd_some h
        refine Or.inr ⟨⟨k7, k7', k10, k10', k3, k3', k7''⟩, r13, ?_⟩
        have h : (if x3 = 0 then (gd (inb x1 12) (some (u14.2.1 16 x1.toNatClampNeg, u14))) else (gd (inb x1 12) (some (u14.2.1 17 x1.toNatClampNeg, u14)))) = some (r, v') := h
        by_cases d : x3 = 0
        · rw [if_pos d] at h ⊢
          have e : u14.2.1 16 x1.toNatClampNeg = r ∧ u14 = v' := by cases (gd_some h).2; exact ⟨rfl, rfl⟩
          rw [← e.1, ← e.2]
          exact ⟨a13, rfl⟩
        · rw [if_neg d] at h ⊢
          have e : u14.2.1 17 x1.toNatClampNeg = r ∧ u14 = v' := by cases (gd_some h).2; exact ⟨rfl, rfl⟩
          rw [← e.1, ← e.2]
          exact ⟨a13, rfl⟩
theorem span_eq {x1 x2 x3 r r' : Int32} {u u' v v' : SX} (hI : IX u) (hJ : IM v) (ht : Tie u v) (hp : TieP u v) (hS : TieS u v) (hC : CX u) (h1 : fX11_span_0 x1 x2 x3 u = some (r, u')) (h2 : fX12_span_0 x1 x2 x3 v = some (r', v')) : r = r' ∧ CX u' := by
  have ok : OKs u x1 x2 x3 ↔ OKm v x1 x2 x3 := by
    unfold OKs OKm
    rw [← ht.1, ← hp.1]
    constructor
    · rintro ⟨q1, q2, q3, q4, q5, q6, q7⟩
      obtain ⟨-, a, -⟩ := hS.2.1 x1.toNatClampNeg (by show ((x1.toInt.toNat : Nat) : Int) < _; omega)
      rw [← a]
      exact ⟨q1, q2, q3, q4, q5, q6, q7⟩
    · rintro ⟨q1, q2, q3, q4, q5, q6, q7⟩
      obtain ⟨-, a, -⟩ := hS.2.1 x1.toNatClampNeg (by show ((x1.toInt.toNat : Nat) : Int) < _; omega)
      rw [a]
      exact ⟨q1, q2, q3, q4, q5, q6, q7⟩
  rcases spanX h1 with ⟨n1, g1, g2⟩ | ⟨o1, s1, a1, g1⟩
  · rcases spanM h2 with ⟨n2, g3⟩ | ⟨o2, -⟩
    · rw [g1, g3, g2]
      exact ⟨rfl, hC⟩
    · exact absurd (ok.mpr o2) n1
  · rcases spanM h2 with ⟨n2, -⟩ | ⟨o2, s2, a2, g3⟩
    · exact absurd (ok.mp o1) n2
    · obtain ⟨-, -, y1, y2, y3⟩ := recall_sp hI hC a1
      refine ⟨?_, y3⟩
      have hS1 : TieS u (sI v 0 0) := TieS_of (fun _ _ => rfl) (fun _ _ => rfl) rfl (fun _ _ => rfl) hS
      have hp1 : TieP u (sI v 0 0) := hp
      have hJ1 : IM (sI v 0 0) := (StM_sI (md := ([0], [], [], [])) (StM_rf hJ) (by decide) (by decide) (by decide)).1
      obtain ⟨z, z1, -, -, z4⟩ := layOf_sp hJ1 (TieS_ho hS1) (TieS_hp hp1 hS1) a2
      obtain ⟨q1, q2, q3, q4, q5, q6, q7⟩ := o1
      have hn : ((x1.toNatClampNeg : Nat) : Int) < (u.1 8).toInt := by
        show ((x1.toInt.toNat : Nat) : Int) < _
        omega
      have hk : ((x1.toNatClampNeg : Nat) : Int) < (u'.1 10).toInt := UpTo_in hS.2.2.2.2.2 y1 hn q7
      have z1' : UpTo (u.2.1 34) x2 (u.1 12) z := by
        rw [hS1.1]
        refine UpTo_cg (fun i hi => ?_) z1
        rw [← hS1.1] at hi
        exact (hS1.2.2.1 i hi).2.2.2.1.symm
      have ez : u'.1 11 = z := UpTo_uq hS.2.2.2.2.1 y2 z1'
      have e1 := y3.2.2 _ hk
      have e2 := z4 x1.toNatClampNeg (by rw [← hp1.1]; exact hn)
      obtain ⟨w1, w2, -⟩ := recall_sp hI hC a1
      have es : spX u' = spX u := by
        unfold spX
        rw [w2 29 rfl rfl, w2 30 rfl rfl, w2 31 rfl rfl, w2 32 rfl rfl, w2 33 rfl rfl, w2 35 rfl rfl]
      have bz := z1'.2.1
      have bz0 := z1'.1
      rw [es, ez, spn_eq hS1 (by show ((z.toInt.toNat : Nat) : Int) ≤ _; omega) hn, ← e2] at e1
      rw [g1, g3]
      have f1 : u'.2.1 27 x1.toNatClampNeg = v'.2.1 16 x1.toNatClampNeg := congrArg Prod.fst e1
      have f2 : u'.2.1 28 x1.toNatClampNeg = v'.2.1 17 x1.toNatClampNeg := congrArg Prod.snd e1
      rw [f1, f2]
