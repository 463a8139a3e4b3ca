/-! A letter is sent; a house is told. -/
theorem snoc3 {a b c : Nat → Int32} {n : Nat} {A B C : Int32} {d f h : Int} : (∃ i : Nat, (i : Int) < (n : Int) + 1 ∧ (upd a n A i).toInt = d ∧ (upd b n B i).toInt = f ∧ (upd c n C i).toInt = h) ↔ ((∃ i : Nat, (i : Int) < (n : Int) ∧ (a i).toInt = d ∧ (b i).toInt = f ∧ (c i).toInt = h) ∨ (A.toInt = d ∧ B.toInt = f ∧ C.toInt = h)) := by
  constructor
  · rintro ⟨i, g, g1, g2, g3⟩
    by_cases e : i = n
    · rw [e, upd_at] at g1 g2 g3
      exact Or.inr ⟨g1, g2, g3⟩
    · rw [upd_ne e] at g1 g2 g3
      exact Or.inl ⟨i, by omega, g1, g2, g3⟩
  · rintro (⟨i, g, g1, g2, g3⟩ | ⟨g1, g2, g3⟩)
    · have e : ¬ i = n := by omega
      exact ⟨i, by omega, by rw [upd_ne e]; exact g1, by rw [upd_ne e]; exact g2, by rw [upd_ne e]; exact g3⟩
    · exact ⟨n, by omega, by rw [upd_at]; exact g1, by rw [upd_at]; exact g2, by rw [upd_at]; exact g3⟩
theorem min39 {a b : Int32} (ha : 0 ≤ a.toInt) (hb : 0 ≤ b.toInt) {d : Nat} (h : d < (if a < b then a else b).toNatClampNeg) : d < a.toNatClampNeg ∧ d < b.toNatClampNeg := by
  have ta := tn ha
  have tb := tn hb
  by_cases c : a < b
  · rw [if_pos c] at h
    have := ltI c
    omega
  · rw [if_neg c] at h
    have := nltI c
    omega
theorem letterX {x1 x2 r : Int32} {u u' : SX} (h : fX11_letter_0 x1 x2 u = some (r, u')) : (r = 0 ∧ u' = u) ∨ (r = 1 ∧ u.1 38 < 60 ∧ ∃ s, fX2_send_11 x1 x2 (u.1 0) u = some (s, u')) := by
  unfold fX11_letter_0 at h
  have no : gd (isB 0) (some ((0 : Int32), u)) = some (r, u') → (r = 0 ∧ u' = u) := fun g => by
    obtain ⟨-, g⟩ := gd_some g
    cases g
    exact ⟨rfl, rfl⟩
  obtain ⟨⟨r1, u2⟩, a1, h⟩ := bd_some h
  rw [has_st a1] at h
  have h : (if r1 = 0 then (gd (isB 0) (some ((0 : Int32), u))) else _) = some (r, u') := h
  by_cases c1 : r1 = 0
  · rw [if_pos c1] at h
    exact Or.inl (no h)
  · rw [if_neg c1] at h
    obtain ⟨⟨r5, u6⟩, a5, h⟩ := bd_some h
    rw [has_st a5] at h
    have h : (if r5 = 0 then (gd (isB 0) (some ((0 : Int32), u))) else (if x1 = x2 then (gd (isB 0) (some (0, u))) else (if (u.1 38) < 60 then ((fX2_send_11 x1 x2 (u.1 0) u).bind fun q => match q with | (r10, u11) => (gd (isB 1) (some (1, u11)))) else (gd (isB 0) (some ((0 : Int32), u)))))) = some (r, u') := h
    by_cases c5 : r5 = 0
    · rw [if_pos c5] at h
      exact Or.inl (no h)
    · rw [if_neg c5] at h
      by_cases c6 : x1 = x2
      · rw [if_pos c6] at h
        exact Or.inl (no h)
      · rw [if_neg c6] at h
        by_cases c7 : u.1 38 < 60
        · rw [if_pos c7] at h
          obtain ⟨⟨s, w⟩, a10, h⟩ := bd_some h
          obtain ⟨-, h⟩ := gd_some h
          cases h
          exact Or.inr ⟨rfl, c7, s, a10⟩
        · rw [if_neg c7] at h
          exact Or.inl (no h)
theorem isHo {x r : Int32} {v v' : SX} (h : fX12_isHouse_0 x v = some (r, v')) : v' = v ∧ (¬ r = 0 → 0 ≤ x.toInt ∧ x.toInt < (v.1 22).toInt) := by
  unfold fX12_isHouse_0 at h
  by_cases c : x < 0
  · rw [if_pos c] at h
    obtain ⟨-, h⟩ := gd_some h
    cases h
    exact ⟨rfl, fun z => absurd rfl z⟩
  · rw [if_neg c] at h
    have c0 : ¬ x.toInt < (0 : Int) := nltI c
    by_cases d : v.1 22 ≤ x
    · rw [if_pos d] at h
      obtain ⟨-, h⟩ := gd_some h
      cases h
      exact ⟨rfl, fun z => absurd rfl z⟩
    · rw [if_neg d] at h
      have d0 := nleI d
      obtain ⟨-, h⟩ := gd_some h
      cases h
      exact ⟨rfl, fun _ => ⟨by omega, by omega⟩⟩
theorem letterM {x1 x2 r : Int32} {v v' : SX} (h : fX12_letter_0 x1 x2 v = some (r, v')) : (r = 0 ∧ v' = sI v 0 0) ∨ (r = 1 ∧ x1.toInt < (v.1 22).toInt ∧ v' = sI (sA (sA (sA (sI v 0 0) 39 (upd (v.2.1 39) (v.1 25).toNatClampNeg x1)) 40 (upd (v.2.1 40) (v.1 25).toNatClampNeg x2)) 41 (upd (v.2.1 41) (v.1 25).toNatClampNeg (v.1 1))) 25 (v.1 25 + 1)) := by
  unfold fX12_letter_0 at h
  obtain ⟨v1, e1, h⟩ := lt_some h
  have no : gd (isB 0) (some ((0 : Int32), v1)) = some (r, v') → (r = 0 ∧ v' = sI v 0 0) := fun g => by
    obtain ⟨-, g⟩ := gd_some g
    rw [← e1]
    cases g
    exact ⟨rfl, rfl⟩
  by_cases c0 : v1.1 25 = 60
  · rw [if_pos c0] at h
    exact Or.inl (no h)
  · rw [if_neg c0] at h
    obtain ⟨⟨r4, u5⟩, a4, h⟩ := bd_some h
    obtain ⟨i4, k4⟩ := isHo a4
    rw [i4] at h
    have h : (if r4 = 0 then (gd (isB 0) (some ((0 : Int32), v1))) else ((fX12_isHouse_0 x2 v1).bind fun q => match q with | (r8, u9) => (if r8 = 0 then (gd (isB 0) (some (0, u9))) else (if x1 = x2 then (gd (isB 0) (some (0, u9))) else (gd (inb (u9.1 25) 61) (lt (sA u9 39 (upd (u9.2.1 39) (u9.1 25).toNatClampNeg x1)) fun u13 => (gd (inb (u13.1 25) 61) (lt (sA u13 40 (upd (u13.2.1 40) (u13.1 25).toNatClampNeg x2)) fun u16 => (gd (inb (u16.1 25) 61) (lt (sA u16 41 (upd (u16.2.1 41) (u16.1 25).toNatClampNeg (u16.1 1))) fun u19 => (lt (sI u19 25 ((u19.1 25) + 1)) fun u21 => (gd (isB 1) (some (1, u21)))))))))))))) = some (r, v') := h
    by_cases c4 : r4 = 0
    · rw [if_pos c4] at h
      exact Or.inl (no h)
    · rw [if_neg c4] at h
      have k4 := k4 c4
      obtain ⟨⟨r8, u9⟩, a8, h⟩ := bd_some h
      obtain ⟨i8, k8⟩ := isHo a8
      rw [i8] at h
      have h : (if r8 = 0 then (gd (isB 0) (some ((0 : Int32), v1))) else (if x1 = x2 then (gd (isB 0) (some (0, v1))) else (gd (inb (v1.1 25) 61) (lt (sA v1 39 (upd (v1.2.1 39) (v1.1 25).toNatClampNeg x1)) fun u13 => (gd (inb (u13.1 25) 61) (lt (sA u13 40 (upd (u13.2.1 40) (u13.1 25).toNatClampNeg x2)) fun u16 => (gd (inb (u16.1 25) 61) (lt (sA u16 41 (upd (u16.2.1 41) (u16.1 25).toNatClampNeg (u16.1 1))) fun u19 => (lt (sI u19 25 ((u19.1 25) + 1)) fun u21 => (gd (isB 1) (some ((1 : Int32), u21)))))))))))) = some (r, v') := h
      by_cases c8 : r8 = 0
      · rw [if_pos c8] at h
        exact Or.inl (no h)
      · rw [if_neg c8] at h
        by_cases c9 : x1 = x2
        · rw [if_pos c9] at h
          exact Or.inl (no h)
        · rw [if_neg c9] at h
          obtain ⟨-, h⟩ := gd_some h
          obtain ⟨w1, j1, h⟩ := lt_some h
          obtain ⟨-, h⟩ := gd_some h
          obtain ⟨w2, j2, h⟩ := lt_some h
          obtain ⟨-, h⟩ := gd_some h
          obtain ⟨w3, j3, h⟩ := lt_some h
          obtain ⟨w4, j4, h⟩ := lt_some h
          obtain ⟨-, h⟩ := gd_some h
          have e : r = 1 ∧ w4 = v' := by cases h; exact ⟨rfl, rfl⟩
          refine Or.inr ⟨e.1, by have := k4.2; rw [e1] at this; exact this, ?_⟩
          rw [← e.2, j4, j3, j2, j1, e1]
          rfl
theorem sendX {x1 x2 x3 r : Int32} {u u' : SX} (c : u.1 38 < 60) (h : fX2_send_11 x1 x2 x3 u = some (r, u')) : u'.1 37 = u.1 37 ∧ u'.1 38 = u.1 38 + 1 ∧ u'.1 39 = (if x3 < u.1 39 then x3 else u.1 39) ∧ u'.2.1 59 = upd (u.2.1 59) x3.toNatClampNeg 1 ∧ u'.2.1 60 = upd (u.2.1 60) (u.1 38).toNatClampNeg x1 ∧ u'.2.1 61 = upd (u.2.1 61) (u.1 38).toNatClampNeg x2 ∧ u'.2.1 62 = upd (u.2.1 62) (u.1 38).toNatClampNeg x3 ∧ u'.2.1 66 = u.2.1 66 ∧ u'.2.1 67 = u.2.1 67 ∧ u'.2.2 = u.2.2 := by
  unfold fX2_send_11 at h
  rw [if_pos c] at h
  obtain ⟨-, h⟩ := gd_some h
  obtain ⟨u2, e2, h⟩ := lt_some h
  obtain ⟨-, h⟩ := gd_some h
  obtain ⟨u5, e5, h⟩ := lt_some h
  obtain ⟨-, h⟩ := gd_some h
  obtain ⟨u8, e8, h⟩ := lt_some h
  obtain ⟨u10, e10, h⟩ := lt_some h
  obtain ⟨-, h⟩ := gd_some h
  obtain ⟨u13, e13, h⟩ := lt_some h
  obtain ⟨u15, e15, h⟩ := lt_some h
  cases h
  rw [nar01.2] at e13
  subst e15 e13 e10 e8 e5 e2
  exact ⟨rfl, rfl, rfl, rfl, rfl, rfl, rfl, rfl, rfl, rfl⟩
theorem letterK {x1 x2 r r' : Int32} {u u' v v' : SX} (hI : IX u) (hJ : IM v) (ht : Tie u v) (hK : TieK u v) (er : r = r') (h1 : fX11_letter_0 x1 x2 u = some (r, u')) (h2 : fX12_letter_0 x1 x2 v = some (r', v')) : TieK u' v' := by
  have kept : TieK u (sI v 0 0) := TieK_fr (mx := ([], [], [], [])) (mm := ([0], [], [], [])) FrM_rf (FrM_sI FrM_rf (by decide)) (by decide) hK
  rcases letterX h1 with ⟨z1, e1⟩ | ⟨z1, c1, s, g1⟩
  · rcases letterM h2 with ⟨z2, e2⟩ | ⟨z2, -⟩
    · rw [e1, e2]
      exact kept
    · exact absurd (z1.symm.trans (er.trans z2)) (by decide)
  · rcases letterM h2 with ⟨z2, -⟩ | ⟨z2, c2, e2⟩
    · exact absurd (z1.symm.trans (er.trans z2)) (by decide)
    · obtain ⟨t0, t1, t2, t3, t4, t5⟩ := ht
      obtain ⟨w37, w38, w39, w59, w60, w61, w62, w66, w67, w2⟩ := sendX c1 g1
      have b38 : (0 : Int) ≤ (u.1 38).toInt := (hI.1 38).1
      have c38 : (u.1 38).toInt < (60 : Int) := ltI c1
      have bn : (0 : Int) ≤ (u.1 0).toInt := (hI.1 0).1
      have b39 : (0 : Int) ≤ (u.1 39).toInt := (hI.1 39).1
      have tc := tn b38
      have ts : (u.1 38 + 1).toInt = ((u.1 38).toNatClampNeg : Int) + 1 := by
        rw [show (u.1 38 + 1).toInt = (u.1 38).toInt + 1 from addc_t (by decide) (by omega) (by omega), tc]
      have tN := tn bn
      have eT : TM v' = TM v := by
        rw [e2]
        rfl
      have eL : ∀ d f h : Nat, LK v' d f h ↔ (LK v d f h ∨ ((u.1 0).toInt = (d : Int) ∧ x1.toInt = (f : Int) ∧ x2.toInt = (h : Int))) := by
        intro d f h
        have m39 : v'.2.1 39 = upd (v.2.1 39) (u.1 38).toNatClampNeg x1 := by
          rw [e2, t4]
          rfl
        have m40 : v'.2.1 40 = upd (v.2.1 40) (u.1 38).toNatClampNeg x2 := by
          rw [e2, t4]
          rfl
        have m41 : v'.2.1 41 = upd (v.2.1 41) (u.1 38).toNatClampNeg (u.1 0) := by
          rw [e2, t4, t0]
          rfl
        have m25 : v'.1 25 = u.1 38 + 1 := by
          rw [e2, t4]
          rfl
        unfold LK LMn
        rw [m39, m40, m41, m25, ts, ← t4, ← tc]
        exact snoc3
      obtain ⟨⟨k1, k2, k3⟩, kb, kc, km⟩ := hK
      refine ⟨⟨?_, ?_, ?_⟩, ?_, ?_, ?_⟩
      · rw [eT, w2]
        exact k1
      · intro d f h
        rw [eL, k2, w60, w61, w62, w38, ts, snoc3, tc]
      · intro d hd hb
        rw [w59] at hb
        by_cases e : d = (u.1 0).toNatClampNeg
        · rw [e, upd_at] at hb
          exact absurd hb (by decide)
        · rw [upd_ne e] at hb
          obtain ⟨q1, q2⟩ := k3 d hd hb
          rw [eT]
          refine ⟨q1, fun f h g => ?_⟩
          rcases (eL d f h).mp g with g | ⟨g, -⟩
          · exact q2 f h g
          · omega
      · intro d hd
        rw [w39] at hd
        obtain ⟨d1, d2⟩ := min39 bn b39 hd
        intro k x hk
        have := kb d d2 k x hk
        unfold ro at this ⊢
        rw [w2, this, eT]
        refine Kn_cg d (fun _ _ _ _ => Iff.rfl) (fun e he f h => ?_) k x
        rw [eL]
        exact ⟨Or.inl, fun g => g.elim id (fun g => by
          have := g.1
          omega)⟩
      · intro i hi
        have m25 : v'.1 25 = u.1 38 + 1 := by
          rw [e2, t4]
          rfl
        have m22 : v'.1 22 = v.1 22 := by
          rw [e2]
          rfl
        have m39 : v'.2.1 39 = upd (v.2.1 39) (u.1 38).toNatClampNeg x1 := by
          rw [e2, t4]
          rfl
        rw [m25, ts] at hi
        rw [m22, m39]
        by_cases e : i = (u.1 38).toNatClampNeg
        · rw [e, upd_at]
          exact c2
        · rw [upd_ne e]
          exact kc i (by rw [← t4, ← tc]; omega)
      · have eM : MT v' = MT v := by
          rw [e2]
          rfl
        have m36 : v'.2.1 36 = v.2.1 36 := by
          rw [e2]
          rfl
        have m37 : v'.2.1 37 = v.2.1 37 := by
          rw [e2]
          rfl
        unfold TieM at km ⊢
        rw [eM, w2, w37, w66, w67, m36, m37]
        exact km
theorem houseK {r r' : Int32} {u u' v v' : SX} (hI : IX u) (hJ : IM v) (hK : TieK u v) (h1 : fX11_house_0 u = some (r, u')) (h2 : fX12_house_0 v = some (r', v')) : TieK u' v' := by
  have hu : u' = u ∨ ∃ y, u' = sI u 35 y := by
    unfold fX11_house_0 at h1
    by_cases c : u.1 35 < 8
    · rw [if_pos c] at h1
      obtain ⟨u3, e3, h1⟩ := lt_some h1
      cases h1
      exact Or.inr ⟨_, e3⟩
    · rw [if_neg c] at h1
      cases h1
      exact Or.inl rfl
  have hv : v' = sI v 0 0 ∨ (v.1 22).toInt < 8 ∧ v' = sI (sI v 0 0) 22 (v.1 22 + 1) := by
    unfold fX12_house_0 at h2
    obtain ⟨v1, e1, h2⟩ := lt_some h2
    by_cases c : v1.1 22 = 8
    · rw [if_pos c] at h2
      rw [← e1]
      cases h2
      exact Or.inl rfl
    · rw [if_neg c] at h2
      obtain ⟨u3, e3, h2⟩ := lt_some h2
      have b : (v.1 22).toInt ≤ (8 : Int) := (hJ.1 22).2
      have c8 : ¬ (v1.1 22).toInt = (8 : Int) := neI c
      rw [e1] at c8
      have c8 : ¬ (v.1 22).toInt = (8 : Int) := c8
      have e : u3 = v' := by cases h2; rfl
      refine Or.inr ⟨by omega, ?_⟩
      rw [← e, e3, e1]
      rfl
  have kx : ∀ y, TieK (sI u 35 y) v := by
    intro y
    obtain ⟨k1, kb, kc, km⟩ := hK
    exact ⟨k1, kb, kc, km⟩
  have ku : TieK u' v := by
    rcases hu with e | ⟨y, e⟩
    · rw [e]
      exact hK
    · rw [e]
      exact kx y
  obtain ⟨k1, kb, kc, km⟩ := ku
  rcases hv with e | ⟨b, e⟩
  · rw [e]
    exact ⟨k1, kb, kc, km⟩
  · rw [e]
    refine ⟨k1, kb, ?_, km⟩
    intro i hi
    have := kc i hi
    have b0 : (0 : Int) ≤ (v.1 22).toInt := (hJ.1 22).1
    have e1 : (v.1 22 + 1).toInt = (v.1 22).toInt + 1 := addc_t (by decide) (by omega) (by omega)
    show (v.2.1 39 i).toInt < (v.1 22 + 1).toInt
    rw [e1]
    omega
