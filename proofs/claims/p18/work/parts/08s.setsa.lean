/-! Sets, on both sides: the answer. -/
theorem CV_cg {u w : SX} {S S' : Nat → Int32 × Int32} {K n : Nat} (h40 : w.2.1 40 = u.2.1 40) (hw : ww w = ww u) (hS : ∀ i, i < n → S' i = S i) {s : Nat} : CV w S' K n s ↔ CV u S K n s := by
  have el : ∀ m i, i ≤ n → loR w S' m s i = loR u S m s i ∧ upR w S' m s i = upR u S m s i := fun m i => by
    induction i with
    | zero =>
      intro _
      show (w.2.1 40 m).toInt = (u.2.1 40 m).toInt ∧ (w.2.1 40 m).toInt = (u.2.1 40 m).toInt
      rw [h40]
      exact ⟨rfl, rfl⟩
    | succ i ih =>
      intro hi
      obtain ⟨a, b⟩ := ih (by omega)
      rw [loR_s, loR_s, upR_s, upR_s, a, b, hw, hS i (by omega)]
      exact ⟨rfl, rfl⟩
  unfold CV
  constructor
  · intro h m hm
    rw [← (el m n (Nat.le_refl _)).1, ← (el m n (Nat.le_refl _)).2]
    exact h m hm
  · intro h m hm
    rw [(el m n (Nat.le_refl _)).1, (el m n (Nat.le_refl _)).2]
    exact h m hm
theorem sets_eq {x1 r r' : Int32} {u u' v v' : SX} (hK : RK u) (ht : Tie u v) (hM : MR u v) (h1 : fX11_sets_0 x1 u = some (r, u')) (h2 : fX12_sets_0 x1 v = some (r', v')) : r = r' := by
  have b120 : (u.1 0).toInt ≤ (120 : Int) := (hK.1.1.1 0).2
  have hI := hK.1.1
  have b8 : (u.1 8).toInt ≤ (12 : Int) := (hI.1 8).2
  have hS := hM.2.2.1
  unfold fX11_sets_0 at h1
  unfold fX12_sets_0 at h2
  obtain ⟨v1, e1, h2⟩ := lt_some h2
  have M1 : MR u v1 := by rw [e1]; exact MR_0 hM
  have e11 : v1.1 1 = u.1 0 := by rw [e1]; exact ht.1.symm
  have e15 : v1.1 15 = u.1 13 := by rw [e1]; exact ht.2.2.2.2.2.symm
  clear e1
  obtain ⟨⟨r1, u2⟩, a1, h1⟩ := bd_some h1
  obtain ⟨eu, k1⟩ := isDayi a1
  rw [eu] at h1
  obtain ⟨r3, a3, h2⟩ := bd_some h2
  rw [e11] at a3
  have h1 : (if r1 = 0 then (some ((-1), u)) else ((fX7_recall_7 x1 u).bind fun q => match q with | (r4, u5) => ((fX0_fewest_9 u5).bind fun q => match q with | (r7, u8) => (some (r7, u8))))) = some (r, u') := h1
  rcases k1 with ⟨z1, n1⟩ | ⟨z1, q0, q9⟩
  · rw [if_pos z1] at h1
    rcases inn a3 with ⟨z3, -⟩ | ⟨z3, w0, w9⟩
    · rw [if_pos z3] at h2
      have x : (-1 : Int32) = r := by cases h1; rfl
      have y : (-1 : Int32) = r' := by cases h2; rfl
      rw [← x, ← y]
    · exact absurd ⟨w0, w9⟩ n1
  · rw [if_neg (ne01 z1)] at h1
    rcases inn a3 with ⟨z3, n3⟩ | ⟨z3, -⟩
    · exact absurd ⟨q0, q9⟩ n3
    · rw [if_neg (ne01 z3)] at h2
      obtain ⟨⟨r4, w⟩, a4, h1⟩ := bd_some h1
      obtain ⟨⟨r7, u8⟩, a7, h1⟩ := bd_some h1
      have er : r7 = r := by cases h1; rfl
      obtain ⟨Rw, Kw, Fw, k15, k16, U10, U11, U14⟩ := recall7_sp hK.1 hK.2 q0 (by omega) a4
      have el : lfX w = lfX u := lfX_md Fw (by decide)
      have ewu : ww w = ww u := ww_fr (Fw.2.1 24 (by decide)) (Fw.2.1 36 (by decide)) Fw.2.2.2.2
      have es : spX w = spX u := by
        unfold spX
        rw [Fw.2.1 29 (by decide), Fw.2.1 30 (by decide), Fw.2.1 31 (by decide), Fw.2.1 32 (by decide), Fw.2.1 33 (by decide), Fw.2.1 35 (by decide)]
      have t10 := tnS U10.1
      have t14 := tnS U14.1
      have l10 := U10.2.1
      have l14 := U14.2.1
      have f40 : w.2.1 40 = u.2.1 40 := Fw.2.1 40 (by decide)
      have sU : ∀ i : Nat, (i : Int) < (w.1 10).toInt → spU w i = spX u (w.1 11).toNatClampNeg i := fun i hi => by
        have := Rw.2.1.2.2 i hi
        rw [es] at this
        exact this
      have bw : ∀ m i : Nat, (m : Int) < (w.1 14).toInt → (i : Int) < (w.1 10).toInt → Bw (ww u m i) := fun m i hm hi => wwB hI hM.1 hM.2.2.2.1 hM.2.2.2.2 hK.1.2.2.1 (by omega) (by omega)
      have C : RC w := by
        refine ⟨fun m i hm hi => by rw [ewu]; exact bw m i hm hi, fun i hi => ⟨⟨(Rw.1.2.1 27 _).1, (Rw.1.2.1 27 _).2⟩, (Rw.1.2.1 28 _).1, (Rw.1.2.1 28 _).2⟩, fun m hm => ⟨⟨(Rw.1.2.1 40 _).1, (Rw.1.2.1 40 _).2⟩, ?_⟩⟩
        have := Kw.2.2.2 m hm
        rw [k15, k16, el] at this
        have a : w.2.1 38 m = (lfX u (w.1 10).toNatClampNeg (w.1 11).toNatClampNeg m).1 := congrArg Prod.fst this
        have b : w.2.1 39 m = (lfX u (w.1 10).toNatClampNeg (w.1 11).toNatClampNeg m).2 := congrArg Prod.snd this
        rw [a, b, f40, ewu, sumW_cg (g := fun i => mxS (ww u m i) (spU w i)) (g' := fun i => mxS (ww u m i) (spX u (w.1 11).toNatClampNeg i)) (w.1 10).toNatClampNeg (fun i hi => by
          show mxS _ (spU w i) = mxS _ _
          rw [sU i (by omega)]), sumW_cg (g := fun i => mnS (ww u m i) (spU w i)) (g' := fun i => mnS (ww u m i) (spX u (w.1 11).toNatClampNeg i)) (w.1 10).toNatClampNeg (fun i hi => by
          show mnS _ (spU w i) = mnS _ _
          rw [sU i (by omega)])]
        exact ⟨rfl, rfl⟩
      have X := fewest_sp Rw Kw.1 C a7
      -- the reference
      obtain ⟨⟨r6, v7⟩, a6, h2⟩ := bd_some h2
      obtain ⟨M7, S7, f7, -⟩ := layOf_SP M1 q0 (by omega) U11 a6
      have z8 : (0 : Int) ≤ (u.1 8).toInt := (hI.1 8).1
      have h2 := se28 hI M7 U10 5000 0 0 (by decide) z8 (by
        rw [show min (0 : Int32).toNatClampNeg (w.1 10).toNatClampNeg = 0 from Nat.zero_min _]
        rfl) h2
      unfold GX12_sets_0_62 at h2
      have z13 : (0 : Int) ≤ (u.1 13).toInt := (hI.1 13).1
      obtain ⟨y, My, y15, ty, h2⟩ := se64 (S := spX u (w.1 11).toNatClampNeg) hI hK.1.2.2.1 U14 5000 0 v7 M7 (by rw [f7]; exact e15) S7 (by decide) z13 (fun m i hm => by
        have z0 : (0 : Int32).toInt = 0 := by decide
        rw [z0] at hm
        omega) h2
      unfold GX12_sets_0_208 at h2
      have Y := se213 (S := spX u (w.1 11).toNatClampNeg) hI My y15 U10 U14 bw (fun i _ => spXB hI _ i) (fun m i hm hi => ty m i hm (by omega)) 5000 0 (-1) (Nat.zero_le _) (Or.inl ⟨rfl, fun t ht' => absurd ht' (Nat.not_lt_zero _)⟩) h2
      have cv : ∀ s, CV w (spU w) (w.1 14).toNatClampNeg (w.1 10).toNatClampNeg s ↔ CV u (spX u (w.1 11).toNatClampNeg) (w.1 14).toNatClampNeg (w.1 10).toNatClampNeg s := fun s => CV_cg f40 ewu (fun i hi => sU i (by omega))
      rw [← er]
      refine BSt_uq ?_ Y
      rcases X with ⟨p1, p2⟩ | ⟨t, p1, p2, p3, p4⟩
      · exact Or.inl ⟨p1, fun t ht' g => p2 t ht' ((cv t).mpr g)⟩
      · exact Or.inr ⟨t, p1, (cv t).mp p2, p3, fun t' ht' g => p4 t' ht' ((cv t').mpr g)⟩
