/-! done, clean, days; and nothing. -/
theorem hasLi {x r : Int32} {u u' : SX} (h : fX3_has_10 x u = some (r, u')) : u' = u ∧ ((r = 0 ∧ ¬ (0 ≤ x.toInt ∧ x.toInt < (u.1 29).toInt)) ∨ (r = 1 ∧ 0 ≤ x.toInt ∧ x.toInt < (u.1 29).toInt)) := by
  unfold fX3_has_10 at h
  by_cases c : x < 0
  · rw [if_pos c] at h
    have c9 : x.toInt < (0 : Int) := ltI c
    have e : (0 : Int32) = r ∧ u = u' := by cases (gd_some h).2; exact ⟨rfl, rfl⟩
    exact ⟨e.2.symm, Or.inl ⟨e.1.symm, by omega⟩⟩
  · rw [if_neg c] at h
    have c9 : ¬ x.toInt < (0 : Int) := nltI c
    by_cases d : u.1 29 ≤ x
    · rw [if_pos d] at h
      have d9 := leI d
      have e : (0 : Int32) = r ∧ u = u' := by cases (gd_some h).2; exact ⟨rfl, rfl⟩
      exact ⟨e.2.symm, Or.inl ⟨e.1.symm, by omega⟩⟩
    · rw [if_neg d] at h
      have d9 := nleI d
      have e : (1 : Int32) = r ∧ u = u' := by cases (gd_some h).2; exact ⟨rfl, rfl⟩
      exact ⟨e.2.symm, Or.inr ⟨e.1.symm, by omega, by omega⟩⟩
theorem isLi {x r : Int32} {u u' : SX} (h : fX12_isLook_0 x u = some (r, u')) : u' = u ∧ ((r = 0 ∧ ¬ (0 ≤ x.toInt ∧ x.toInt < (u.1 21).toInt)) ∨ (r = 1 ∧ 0 ≤ x.toInt ∧ x.toInt < (u.1 21).toInt)) := by
  unfold fX12_isLook_0 at h
  by_cases c : x < 0
  · rw [if_pos c] at h
    have c9 : x.toInt < (0 : Int) := ltI c
    have e : (0 : Int32) = r ∧ u = u' := by cases (gd_some h).2; exact ⟨rfl, rfl⟩
    exact ⟨e.2.symm, Or.inl ⟨e.1.symm, by omega⟩⟩
  · rw [if_neg c] at h
    have c9 : ¬ x.toInt < (0 : Int) := nltI c
    by_cases d : u.1 21 ≤ x
    · rw [if_pos d] at h
      have d9 := leI d
      have e : (0 : Int32) = r ∧ u = u' := by cases (gd_some h).2; exact ⟨rfl, rfl⟩
      exact ⟨e.2.symm, Or.inl ⟨e.1.symm, by omega⟩⟩
    · rw [if_neg d] at h
      have d9 := nleI d
      have e : (1 : Int32) = r ∧ u = u' := by cases (gd_some h).2; exact ⟨rfl, rfl⟩
      exact ⟨e.2.symm, Or.inr ⟨e.1.symm, by omega, by omega⟩⟩
theorem doneX {x1 r : Int32} {u u' : SX} (h1 : fX11_done_0 x1 u = some (r, u')) : (r = 0 ∧ u' = u) ∨ (r = 1 ∧ 0 ≤ x1.toInt ∧ x1.toInt < (u.1 29).toInt ∧ ∃ s : Int32, fX3_carryOut_10 x1 (u.1 0) u = some (s, u')) := by
  unfold fX11_done_0 at h1
  obtain ⟨⟨s1, u2⟩, a1, h1⟩ := bd_some h1
  obtain ⟨e1, k1⟩ := hasLi a1
  rw [e1] at h1
  have h1 : (if s1 = 0 then (gd (isB 0) (some (0, u))) else _) = some (r, u') := h1
  rcases k1 with ⟨z, -⟩ | ⟨z, p0, p1⟩
  · rw [if_pos z] at h1
    have e : (0 : Int32) = r ∧ u = u' := by cases (gd_some h1).2; exact ⟨rfl, rfl⟩
    exact Or.inl ⟨e.1.symm, e.2.symm⟩
  · rw [if_neg (ne01 z)] at h1
    obtain ⟨⟨s5, u6⟩, a5, h1⟩ := bd_some h1
    unfold fX3_isDone_10 at a5
    obtain ⟨-, a5⟩ := gd_some a5
    have h1 : (if s5 = 0 then _ else _) = some (r, u') := h1
    by_cases cd : u.2.1 52 x1.toNatClampNeg = -1
    · rw [if_pos cd] at a5
      have e5 : (0 : Int32) = s5 ∧ u = u6 := by cases (gd_some a5).2; exact ⟨rfl, rfl⟩
      rw [if_pos e5.1.symm, ← e5.2] at h1
      obtain ⟨⟨s8, u9⟩, a8, h1⟩ := bd_some h1
      obtain ⟨-, h1⟩ := gd_some h1
      have e : (1 : Int32) = r ∧ u9 = u' := by cases h1; exact ⟨rfl, rfl⟩
      rw [e.2] at a8
      exact Or.inr ⟨e.1.symm, p0, p1, s8, a8⟩
    · rw [if_neg cd] at a5
      have e5 : (1 : Int32) = s5 ∧ u = u6 := by cases (gd_some a5).2; exact ⟨rfl, rfl⟩
      rw [if_neg (by rw [← e5.1]; decide), ← e5.2] at h1
      have e : (0 : Int32) = r ∧ u = u' := by cases (gd_some h1).2; exact ⟨rfl, rfl⟩
      exact Or.inl ⟨e.1.symm, e.2.symm⟩
theorem doneM {x1 r : Int32} {v v' : SX} (h2 : fX12_done_0 x1 v = some (r, v')) : (r = 0 ∧ v' = sI v 0 0) ∨ (r = 1 ∧ 0 ≤ x1.toInt ∧ x1.toInt < (v.1 21).toInt ∧ v.2.1 33 x1.toNatClampNeg = -1 ∧ ∃ (s : Int32) (w : SX), w.1 13 = v.1 13 ∧ w.1 1 = v.1 1 ∧ (∀ j, Nat.beq j 33 = false → w.2.1 j = v.2.1 j) ∧ w.2.1 33 = upd (v.2.1 33) x1.toNatClampNeg (v.1 13) ∧ fX12_happens_0 x1 (v.2.1 29 x1.toNatClampNeg) (v.2.1 30 x1.toNatClampNeg) (v.2.1 31 x1.toNatClampNeg) w = some (s, v')) := by
  unfold fX12_done_0 at h2
  obtain ⟨v1, e1, h2⟩ := lt_some h2
  obtain ⟨⟨q3, v4⟩, b3, h2⟩ := bd_some h2
  obtain ⟨e3, k3⟩ := isLi b3
  rw [e3] at h2
  have h2 : (if q3 = 0 then (gd (isB 0) (some (0, v1))) else _) = some (r, v') := h2
  have no : gd (isB 0) (some ((0 : Int32), v1)) = some (r, v') → r = 0 ∧ v' = sI v 0 0 := fun g => by
    have e : (0 : Int32) = r ∧ v1 = v' := by cases (gd_some g).2; exact ⟨rfl, rfl⟩
    exact ⟨e.1.symm, by rw [← e.2, e1]⟩
  have f21 : v1.1 21 = v.1 21 := by rw [e1]; rfl
  have f33 : v1.2.1 33 = v.2.1 33 := by rw [e1]; rfl
  rcases k3 with ⟨z, -⟩ | ⟨z, p0, p1⟩
  · rw [if_pos z] at h2
    exact Or.inl (no h2)
  · rw [if_neg (ne01 z)] at h2
    rw [f21] at p1
    obtain ⟨-, h2⟩ := gd_some h2
    by_cases cd : v1.2.1 33 x1.toNatClampNeg = -1
    · rw [if_pos cd] at h2
      rw [f33] at cd
      obtain ⟨-, h2⟩ := gd_some h2
      obtain ⟨w9, i9, h2⟩ := lt_some h2
      obtain ⟨-, h2⟩ := gd_some h2
      obtain ⟨-, h2⟩ := gd_some h2
      obtain ⟨-, h2⟩ := gd_some h2
      obtain ⟨⟨q14, w15⟩, b14, h2⟩ := bd_some h2
      obtain ⟨-, h2⟩ := gd_some h2
      have e2 : (1 : Int32) = r ∧ w15 = v' := by cases h2; exact ⟨rfl, rfl⟩
      have g29 : w9.2.1 29 = v.2.1 29 := by rw [i9, e1]; rfl
      have g30 : w9.2.1 30 = v.2.1 30 := by rw [i9, e1]; rfl
      have g31 : w9.2.1 31 = v.2.1 31 := by rw [i9, e1]; rfl
      rw [e2.2, g29, g30, g31] at b14
      refine Or.inr ⟨e2.1.symm, p0, p1, cd, q14, w9, by rw [i9, e1]; rfl, by rw [i9, e1]; rfl, fun j hj => ?_, by rw [i9, e1]; rfl, b14⟩
      rw [i9, e1]
      show (bif Nat.beq j 33 then _ else v.2.1 j) = _
      rw [hj]
      rfl
    · rw [if_neg cd] at h2
      exact Or.inl (no h2)
theorem doneS {x1 r r' : Int32} {u u' v v' : SX} (hI : IX u) (hJ : IM v) (ht : Tie u v) (hp : TieP u v) (hS : TieS u v) (hC : CX u) (hx : FrM mdX11_done_0 u u') (hm : FrM mdX12_done_0 v v') (er : r = r') (h1 : fX11_done_0 x1 u = some (r, u')) (h2 : fX12_done_0 x1 v = some (r', v')) : TieS u' v' ∧ CX u' := by
  rcases doneX h1 with ⟨z1, e1⟩ | ⟨z1, p0, p1, s, a⟩
  · rcases doneM h2 with ⟨z2, e2⟩ | ⟨z2, -⟩
    · rw [e1, e2]
      exact ⟨TieS_of (fun _ _ => rfl) (fun _ _ => rfl) rfl (fun _ _ => rfl) hS, hC⟩
    · exact absurd (z2.symm.trans (er.symm.trans z1)) (by decide)
  · rcases doneM h2 with ⟨z2, -⟩ | ⟨z2, q0, q1, nd, s', w, w13, w1, wr, w33, b⟩
    · exact absurd (z1.symm.trans (er.trans z2)) (by decide)
    · obtain ⟨m30, m13, m11, m12, m13', m14, m15⟩ := hapM b
      rw [w13] at m30 m13 m11 m12 m13' m14 m15
      rw [wr 11 rfl] at m11
      rw [wr 12 rfl] at m12
      rw [wr 13 rfl] at m13'
      rw [wr 14 rfl] at m14
      rw [wr 15 rfl, w1] at m15
      have hS0 := hS
      obtain ⟨s1, s2, s3, s4, s5, s6⟩ := hS
      have b0 : (0 : Int) ≤ (u.1 12).toInt := (hI.1 12).1
      have b9 : (u.1 12).toInt < 30 := by rw [s1]; exact m30
      have c30 : u.1 12 < 30 := Int32.lt_iff_toInt_lt.mpr (show (u.1 12).toInt < (30 : Int) from b9)
      have e12 : (u.1 12 + 1).toInt = (u.1 12).toInt + 1 := addc_t (by decide) (by omega) (by omega)
      obtain ⟨k12, k31, k32, k33, k34, k35, Cf, ⟨y, y', k53, k54, qa⟩, ⟨g, g', k55, k56, qb⟩⟩ := carry_sp hI hC hS0 c30 p0 p1 a
      refine ⟨?_, Cf⟩
      have x0 : u'.1 0 = u.1 0 := hx.1 0 (by decide)
      have x8 : u'.1 8 = u.1 8 := hx.1 8 (by decide)
      have x29 : u'.1 29 = u.1 29 := hx.1 29 (by decide)
      have r29 : u'.2.1 29 = u.2.1 29 := hx.2.1 29 (by decide)
      have r30 : u'.2.1 30 = u.2.1 30 := hx.2.1 30 (by decide)
      have hxn : ((x1.toNatClampNeg : Nat) : Int) < (u.1 29).toInt := by
        show ((x1.toInt.toNat : Nat) : Int) < _
        omega
      obtain ⟨l1, l2, l3, l4, l5, l6, l7, l8⟩ := s4 x1.toNatClampNeg hxn
      have sp := spX_app (u := u) (u' := u') r29 r30 k31 k32 k33 k35
      have n33 : v'.2.1 33 = upd (v.2.1 33) x1.toNatClampNeg (v.1 13) := by
        rw [← w33]
        obtain ⟨-, -, -, g33⟩ := hap_eq b
        exact g33
      refine ⟨by rw [k12, m13, s1], fun i hi => ?_, ?_, fun k hk => ?_, ?_, ?_⟩
      · rw [x8] at hi
        rw [hx.2.1 24 (by decide), hx.2.1 25 (by decide), hx.2.1 26 (by decide), r29, r30, hm.2.1 6 (by decide), hm.2.1 7 (by decide), hm.2.1 8 (by decide), hm.2.1 9 (by decide), hm.2.1 10 (by decide), x0]
        exact s2 i hi
      · refine TEv_app b0 b9 s1 s3 x0 ht.1 k12 k31 k32 k33 k34 k35 m11 ?_ ?_ ?_ m15 l5 ⟨fun _ => ?_, fun _ => rfl⟩
        · rw [l1]; exact m12
        · rw [l2]; exact m13'
        · rw [l3]; exact m14
        · unfold onC
          rw [if_neg (fun z => by
            have z9 : x1.toInt = (-1 : Int) := eqI z
            omega)]
      · rw [x29] at hk
        obtain ⟨a1, a2, a3, a4, a5, a6, a7, a8⟩ := s4 k hk
        rw [hx.2.1 48 (by decide), hx.2.1 49 (by decide), hx.2.1 50 (by decide), hx.2.1 51 (by decide), hm.2.1 29 (by decide), hm.2.1 30 (by decide), hm.2.1 31 (by decide), hm.2.1 32 (by decide), x8]
        refine ⟨a1, a2, a3, a4, a5, a6, a7, ?_⟩
        unfold LkD
        rw [hx.2.1 48 (by decide), hx.2.1 49 (by decide), hx.2.1 50 (by decide), k12, e12, k31, k32, k33, k35, k53, k54, k55, k56, n33]
        by_cases ck : k = x1.toNatClampNeg
        · rw [ck, upd_at, upd_at, upd_at, upd_at, upd_at, ← s1, upd_at, upd_at, upd_at, upd_at]
          intro _
          exact ⟨b0, by omega, by rw [sp _ _ (Nat.le_refl _)]; exact qa, qb, rfl, rfl, rfl, rfl⟩
        · rw [upd_ne ck, upd_ne ck, upd_ne ck, upd_ne ck, upd_ne ck]
          intro z
          obtain ⟨d1, d2, d3, d4, d5, d6, d7, d8⟩ := a8 z
          have lt9 : (v.2.1 33 k).toNatClampNeg < (u.1 12).toNatClampNeg := by
            show (v.2.1 33 k).toInt.toNat < (u.1 12).toInt.toNat
            omega
          have ne9 : ¬ (v.2.1 33 k).toNatClampNeg = (u.1 12).toNatClampNeg := by omega
          rw [upd_ne ne9, upd_ne ne9, upd_ne ne9, upd_ne ne9, sp _ _ (by omega), sp _ _ (by omega)]
          exact ⟨d1, by omega, d3, d4, d5, d6, d7, d8⟩
      · rw [k34, k12]
        exact Srt_app b0 (by omega) s5 (fun i hi => (s3 i hi).2.2.2.2.2.2)
      · rw [hx.2.1 25 (by decide), x8]
        exact s6
theorem cleanX {x1 x2 x3 x4 r : Int32} {u u' : SX} (h1 : fX11_clean_0 x1 x2 x3 x4 u = some (r, u')) : (r = 0 ∧ u' = u) ∨ (r = 1 ∧ 0 ≤ x1.toInt ∧ x1.toInt < (u.1 8).toInt ∧ x2.toInt ≤ x3.toInt ∧ ∃ (s : Int32) (w : SX), (∀ j, Nat.beq j 9 = false → w.1 j = u.1 j) ∧ (∀ j, Nat.beq j 26 = false → w.2.1 j = u.2.1 j) ∧ w.2.1 26 = upd (u.2.1 26) x1.toNatClampNeg x4 ∧ fX6_change_6 x1 x2 x3 (u.1 0) 1 w = some (s, u')) := by
  unfold fX11_clean_0 at h1
  have g35 : GX11_clean_0_35 x1 x2 x3 x4 u = some (0, u) := by
    unfold GX11_clean_0_35 GX11_clean_0_36
    rw [if_pos rfl]
    rfl
  have no : some ((0 : Int32), u) = some (r, u') → r = 0 ∧ u' = u := fun g => by
    cases g
    exact ⟨rfl, rfl⟩
  obtain ⟨⟨s1, u2⟩, a1, h1⟩ := bd_some h1
  obtain ⟨es2, k1⟩ := hasPi a1
  rw [es2] at h1
  have h1 : (if s1 = 0 then (GX11_clean_0_35 x1 x2 x3 x4 u) else _) = some (r, u') := h1
  rcases k1 with ⟨z, -⟩ | ⟨z, p0, p1⟩
  · rw [if_pos z, g35] at h1
    exact Or.inl (no h1)
  · rw [if_neg (ne01 z)] at h1
    obtain ⟨s7, a7, h1⟩ := bd_some h1
    by_cases c7 : s7 = 0
    · rw [if_pos c7, g35] at h1
      exact Or.inl (no h1)
    · rw [if_neg c7] at h1
      obtain ⟨s10, a10, h1⟩ := bd_some h1
      by_cases d10 : s10 = 0
      · rw [if_pos d10, g35] at h1
        exact Or.inl (no h1)
      · rw [if_neg d10] at h1
        unfold GX11_clean_0_36 at h1
        rw [if_neg (by decide)] at h1
        by_cases n20 : u.1 9 < 20
        · rw [if_pos n20] at h1
          obtain ⟨u5, j5, h1⟩ := lt_some h1
          obtain ⟨-, h1⟩ := gd_some h1
          obtain ⟨u8, j8, h1⟩ := lt_some h1
          obtain ⟨⟨s11, u11⟩, a11, h1⟩ := bd_some h1
          obtain ⟨-, h1⟩ := gd_some h1
          have e1 : (1 : Int32) = r ∧ u11 = u' := by cases h1; exact ⟨rfl, rfl⟩
          have k80 : u8.1 0 = u.1 0 := by rw [j8, j5]; rfl
          rw [k80, e1.2] at a11
          refine Or.inr ⟨e1.1.symm, p0, p1, loud_le a7 c7, s11, u8, fun j hj => ?_, fun j hj => ?_, by rw [j8, j5]; rfl, a11⟩
          · rw [j8, j5]
            show (bif Nat.beq j 9 then _ else u.1 j) = _
            rw [hj]
            rfl
          · rw [j8, j5]
            show (bif Nat.beq j 26 then _ else u.2.1 j) = _
            rw [hj]
            rfl
        · rw [if_neg n20] at h1
          exact Or.inl (no (gd_some h1).2)
theorem cleanM {x1 x2 x3 x4 r : Int32} {v v' : SX} (h2 : fX12_clean_0 x1 x2 x3 x4 v = some (r, v')) : (r = 0 ∧ v' = sI v 0 0) ∨ (r = 1 ∧ ∃ (s : Int32) (w : SX), fX12_happens_0 (-1) x1 x2 x3 (sI v 0 0) = some (s, w) ∧ v'.1 13 = w.1 13 ∧ (∀ j, Nat.beq j 9 = false → v'.2.1 j = w.2.1 j) ∧ v'.2.1 9 = upd (w.2.1 9) x1.toNatClampNeg x4) := by
  unfold fX12_clean_0 at h2
  obtain ⟨v1, e1, h2⟩ := lt_some h2
  rw [← e1]
  have no : gd (isB 0) (some ((0 : Int32), v1)) = some (r, v') → r = 0 ∧ v' = v1 := fun g => by
    have e : (0 : Int32) = r ∧ v1 = v' := by cases (gd_some g).2; exact ⟨rfl, rfl⟩
    exact ⟨e.1.symm, e.2.symm⟩
  by_cases c20 : v1.1 14 = 20
  · rw [if_pos c20] at h2
    exact Or.inl (no h2)
  · rw [if_neg c20] at h2
    obtain ⟨⟨q4, v5⟩, b4, h2⟩ := bd_some h2
    rw [(isPi b4).1] at h2
    have h2 : (if q4 = 0 then (gd (isB 0) (some (0, v1))) else _) = some (r, v') := h2
    by_cases c1 : q4 = 0
    · rw [if_pos c1] at h2
      exact Or.inl (no h2)
    · rw [if_neg c1] at h2
      obtain ⟨q8, b8, h2⟩ := bd_some h2
      by_cases c7 : q8 = 0
      · rw [if_pos c7] at h2
        exact Or.inl (no h2)
      · rw [if_neg c7] at h2
        obtain ⟨q12, b12, h2⟩ := bd_some h2
        by_cases d10 : q12 = 0
        · rw [if_pos d10] at h2
          exact Or.inl (no h2)
        · rw [if_neg d10] at h2
          obtain ⟨⟨q15, w16⟩, b15, h2⟩ := bd_some h2
          obtain ⟨-, h2⟩ := gd_some h2
          obtain ⟨w19, i19, h2⟩ := lt_some h2
          obtain ⟨w21, i21, h2⟩ := lt_some h2
          obtain ⟨-, h2⟩ := gd_some h2
          have e2 : (1 : Int32) = r ∧ w21 = v' := by cases h2; exact ⟨rfl, rfl⟩
          rw [← e2.2]
          refine Or.inr ⟨e2.1.symm, q15, w16, b15, by rw [i21, i19]; rfl, fun j hj => ?_, by rw [i21, i19]; rfl⟩
          rw [i21, i19]
          show (bif Nat.beq j 9 then _ else w16.2.1 j) = _
          rw [hj]
          rfl
theorem cleanS {x1 x2 x3 x4 r r' : Int32} {u u' v v' : SX} (hI : IX u) (hJ : IM v) (ht : Tie u v) (hS : TieS u v) (hC : CX u) (hx : FrM mdX11_clean_0 u u') (hm : FrM mdX12_clean_0 v v') (er : r = r') (h1 : fX11_clean_0 x1 x2 x3 x4 u = some (r, u')) (h2 : fX12_clean_0 x1 x2 x3 x4 v = some (r', v')) : TieS u' v' ∧ CX u' := by
  rcases cleanX h1 with ⟨z1, e1⟩ | ⟨z1, p0, p1, le, s, w, wf, wr, w26, a⟩
  · rcases cleanM h2 with ⟨z2, e2⟩ | ⟨z2, -⟩
    · rw [e1, e2]
      exact ⟨TieS_of (fun _ _ => rfl) (fun _ _ => rfl) rfl (fun _ _ => rfl) hS, hC⟩
    · exact absurd (z2.symm.trans (er.symm.trans z1)) (by decide)
  · rcases cleanM h2 with ⟨z2, -⟩ | ⟨z2, s', y, b, y13, yr, y9⟩
    · exact absurd (z1.symm.trans (er.trans z2)) (by decide)
    · obtain ⟨m30, m13, m11, m12, m13', m14, m15⟩ := hapM b
      have m30 : (v.1 13).toInt < 30 := m30
      have m13 : y.1 13 = v.1 13 + 1 := m13
      have m11 : y.2.1 11 = upd (v.2.1 11) (v.1 13).toNatClampNeg (-1) := m11
      have m12 : y.2.1 12 = upd (v.2.1 12) (v.1 13).toNatClampNeg x1 := m12
      have m13' : y.2.1 13 = upd (v.2.1 13) (v.1 13).toNatClampNeg x2 := m13'
      have m14 : y.2.1 14 = upd (v.2.1 14) (v.1 13).toNatClampNeg x3 := m14
      have m15 : y.2.1 15 = upd (v.2.1 15) (v.1 13).toNatClampNeg (v.1 1) := m15
      rw [← yr 11 rfl] at m11
      rw [← yr 12 rfl] at m12
      rw [← yr 13 rfl] at m13'
      rw [← yr 14 rfl] at m14
      rw [← yr 15 rfl] at m15
      rw [← y13] at m13
      obtain ⟨s1, s2, s3, s4, s5, s6⟩ := hS
      have b0 : (0 : Int) ≤ (u.1 12).toInt := (hI.1 12).1
      have b9 : (u.1 12).toInt < 30 := by rw [s1]; exact m30
      have c30 : u.1 12 < 30 := Int32.lt_iff_toInt_lt.mpr (show (u.1 12).toInt < (30 : Int) from b9)
      have e12 : (u.1 12 + 1).toInt = (u.1 12).toInt + 1 := addc_t (by decide) (by omega) (by omega)
      obtain ⟨k12, k31, k32, k33, k34, k35, kf, kr⟩ := change_sp (by rw [wf 12 rfl]; exact c30) a
      rw [wf 12 rfl] at k12 k31 k32 k33 k34 k35
      rw [wr 31 rfl] at k31
      rw [wr 32 rfl] at k32
      rw [wr 33 rfl] at k33
      rw [wr 34 rfl] at k34
      rw [wr 35 rfl] at k35
      have k35 : u'.2.1 35 = upd (u.2.1 35) (u.1 12).toNatClampNeg 1 := k35
      have x0 : u'.1 0 = u.1 0 := hx.1 0 (by decide)
      have x8 : u'.1 8 = u.1 8 := hx.1 8 (by decide)
      have x29 : u'.1 29 = u.1 29 := hx.1 29 (by decide)
      have r29 : u'.2.1 29 = u.2.1 29 := hx.2.1 29 (by decide)
      have r30 : u'.2.1 30 = u.2.1 30 := hx.2.1 30 (by decide)
      have k26 : u'.2.1 26 = upd (u.2.1 26) x1.toNatClampNeg x4 := (kr 26 rfl rfl rfl rfl rfl).trans w26
      have n9 : v'.2.1 9 = upd (v.2.1 9) x1.toNatClampNeg x4 := by
        rw [y9]
        have q : y.2.1 9 = v.2.1 9 := by
          have q := hap_9 b
          exact q
        rw [q]
      have sp := spX_app (u := u) (u' := u') r29 r30 k31 k32 k33 k35
      refine ⟨⟨by rw [k12, m13, s1], fun i hi => ?_, ?_, fun k hk => ?_, ?_, ?_⟩, ?_⟩
      · rw [x8] at hi
        obtain ⟨a1, a2, a3, a4, a5, a6, a7⟩ := s2 i hi
        rw [hx.2.1 24 (by decide), hx.2.1 25 (by decide), k26, r29, r30, hm.2.1 6 (by decide), hm.2.1 7 (by decide), hm.2.1 8 (by decide), n9, hm.2.1 10 (by decide), x0]
        refine ⟨a1, a2, ?_, a4, a5, a6, a7⟩
        by_cases ci : i = x1.toNatClampNeg
        · rw [ci, upd_at, upd_at]
        · rw [upd_ne ci, upd_ne ci]
          exact a3
      · exact TEv_app b0 b9 s1 s3 x0 ht.1 k12 k31 k32 k33 k34 k35 m11 m12 m13' m14 m15 le (by decide)
      · rw [x29] at hk
        obtain ⟨a1, a2, a3, a4, a5, a6, a7, a8⟩ := s4 k hk
        rw [hx.2.1 48 (by decide), hx.2.1 49 (by decide), hx.2.1 50 (by decide), hx.2.1 51 (by decide), hm.2.1 29 (by decide), hm.2.1 30 (by decide), hm.2.1 31 (by decide), hm.2.1 32 (by decide), hm.2.1 33 (by decide), x8]
        refine ⟨a1, a2, a3, a4, a5, a6, a7, fun z => ?_⟩
        obtain ⟨d1, d2, d3, d4, d5, d6, d7, d8⟩ := a8 z
        have lt9 : (v.2.1 33 k).toNatClampNeg < (u.1 12).toNatClampNeg := by
          show (v.2.1 33 k).toInt.toNat < (u.1 12).toInt.toNat
          omega
        have ne9 : ¬ (v.2.1 33 k).toNatClampNeg = (u.1 12).toNatClampNeg := by omega
        unfold LkD
        rw [hx.2.1 48 (by decide), hx.2.1 49 (by decide), hx.2.1 50 (by decide), hx.2.1 53 (by decide), hx.2.1 54 (by decide), hx.2.1 55 (by decide), hx.2.1 56 (by decide), k12, e12, k31, k32, k33, k35, upd_ne ne9, upd_ne ne9, upd_ne ne9, upd_ne ne9, sp _ _ (by omega), sp _ _ (by omega)]
        exact ⟨d1, by omega, d3, d4, d5, d6, d7, d8⟩
      · rw [k34, k12]
        exact Srt_app b0 (by omega) s5 (fun i hi => (s3 i hi).2.2.2.2.2.2)
      · rw [hx.2.1 25 (by decide), x8]
        exact s6
      · exact CX_app b0 b9 x8 (hx.1 10 (by decide)) (hx.1 11 (by decide)) k12 (hx.2.1 27 (by decide)) (hx.2.1 28 (by decide)) r29 r30 k31 k32 k33 k35 hC
theorem daysS {x1 : Int32} {u u' v v' : SX} {r : Int32} (hI : IX u) (hS : TieS u v) (hC : CX u) (hx : FrM mdX11_days_0 u u') (hm : FrM mdX12_days_0 v v') (h1 : fX11_days_0 x1 u = some (r, u')) : TieS u' v' ∧ CX u' := by
  refine ⟨?_, CX_md hx (by decide) hC⟩
  have b0 : (0 : Int) ≤ (u.1 0).toInt := (hI.1 0).1
  have b1 : (u.1 0).toInt ≤ (120 : Int) := (hI.1 0).2
  have up : (u.1 0).toInt ≤ (u'.1 0).toInt := by
    unfold fX11_days_0 at h1
    obtain ⟨q1, a1, h1⟩ := bd_some h1
    by_cases c : q1 = 0
    · rw [if_pos c] at h1
      have e2 : u = u' := by cases h1; rfl
      rw [← e2]
      exact Int.le_refl _
    · rw [if_neg c] at h1
      have hb := (Tot_at (tfX11_within x1 0 60) a1).2 (neI c)
      have hb1 : (0 : Int) ≤ x1.toInt := hb.1
      have hb2 : x1.toInt ≤ (60 : Int) := hb.2
      by_cases d : u.1 0 + x1 ≤ 120
      · rw [if_pos d] at h1
        obtain ⟨u4, e4, h1⟩ := lt_some h1
        have e2 : u4 = u' := by cases h1; rfl
        rw [← e2, e4]
        show _ ≤ (u.1 0 + x1).toInt
        rw [add_t (by omega) (by omega)]
        omega
      · rw [if_neg d] at h1
        have e2 : u = u' := by cases h1; rfl
        rw [← e2]
        exact Int.le_refl _
  obtain ⟨s1, s2, s3, s4, s5, s6⟩ := hS
  have x8 : u'.1 8 = u.1 8 := hx.1 8 (by decide)
  have x12 : u'.1 12 = u.1 12 := hx.1 12 (by decide)
  have x29 : u'.1 29 = u.1 29 := hx.1 29 (by decide)
  have sp : spX u' = spX u := by
    unfold spX
    rw [hx.2.1 29 (by decide), hx.2.1 30 (by decide), hx.2.1 31 (by decide), hx.2.1 32 (by decide), hx.2.1 33 (by decide), hx.2.1 35 (by decide)]
  refine ⟨by rw [x12, hm.1 13 (by decide)]; exact s1, fun i hi => ?_, fun i hi => ?_, fun k hk => ?_, ?_, ?_⟩
  · rw [x8] at hi
    rw [hx.2.1 24 (by decide), hx.2.1 25 (by decide), hx.2.1 26 (by decide), hx.2.1 29 (by decide), hx.2.1 30 (by decide), hm.2.1 6 (by decide), hm.2.1 7 (by decide), hm.2.1 8 (by decide), hm.2.1 9 (by decide), hm.2.1 10 (by decide)]
    obtain ⟨a1, a2, a3, a4, a5, a6, a7⟩ := s2 i hi
    exact ⟨a1, a2, a3, a4, a5, a6, by omega⟩
  · rw [x12] at hi
    rw [hx.2.1 31 (by decide), hx.2.1 32 (by decide), hx.2.1 33 (by decide), hx.2.1 34 (by decide), hx.2.1 35 (by decide), hm.2.1 11 (by decide), hm.2.1 12 (by decide), hm.2.1 13 (by decide), hm.2.1 14 (by decide), hm.2.1 15 (by decide)]
    obtain ⟨a1, a2, a3, a4, a5, a6, a7⟩ := s3 i hi
    exact ⟨a1, a2, a3, a4, a5, a6, by omega⟩
  · rw [x29] at hk
    unfold LkD
    rw [hx.2.1 48 (by decide), hx.2.1 49 (by decide), hx.2.1 50 (by decide), hx.2.1 51 (by decide), hx.2.1 53 (by decide), hx.2.1 54 (by decide), hx.2.1 55 (by decide), hx.2.1 56 (by decide), hx.2.1 31 (by decide), hx.2.1 32 (by decide), hx.2.1 33 (by decide), hx.2.1 35 (by decide), hm.2.1 29 (by decide), hm.2.1 30 (by decide), hm.2.1 31 (by decide), hm.2.1 32 (by decide), hm.2.1 33 (by decide), x8, x12, sp]
    exact s4 k hk
  · rw [hx.2.1 34 (by decide), x12]
    exact s5
  · rw [hx.2.1 25 (by decide), x8]
    exact s6
