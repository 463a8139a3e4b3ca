/-! Plans, on both sides: the answer. -/
theorem plan_eq {x1 x2 x3 r r' : Int32} {u u' v v' : SX} (hK : RK u) (ht : Tie u v) (hM : MR u v) (h1 : fX11_plan_0 x1 x2 x3 u = some (r, u')) (h2 : fX12_plan_0 x1 x2 x3 v = some (r', v')) : r = r' := by
  have hR := hK.1
  have hI := hR.1
  unfold fX11_plan_0 at h1
  unfold fX12_plan_0 at h2
  obtain ⟨v1, e1, h2⟩ := lt_some h2
  have M1 : MR u v1 := by rw [e1]; exact MR_0 hM
  have e11 : v1.1 1 = u.1 0 := by rw [e1]; exact ht.1.symm
  have t13 : v1.1 15 = u.1 13 := by rw [e1]; exact ht.2.2.2.2.2.symm
  clear e1
  obtain ⟨⟨s1, u2⟩, a1, h1⟩ := bd_some h1
  obtain ⟨⟨q3, v4⟩, b3, h2⟩ := bd_some h2
  obtain ⟨eu, ks⟩ := has7i a1
  obtain ⟨ev, kq⟩ := isRi b3
  rw [eu] at h1
  rw [ev] at h2
  rw [t13] at kq
  have same : ∀ {w2 : SX}, some ((-1 : Int32), u) = some (r, u') → some ((-1 : Int32), w2) = some (r', v') → r = r' := fun {w2} g1 g2 => by
    have x1 : (-1 : Int32) = r := by cases g1; rfl
    have x2 : (-1 : Int32) = r' := by cases g2; rfl
    rw [← x1, ← x2]
  have h1 : (if s1 = 0 then (some ((-1), u)) else ((fX11_within x2 0 500).bind fun r4 => (if r4 = 0 then (some ((-1), u)) else ((fX11_isEither x3).bind fun r7 => (if r7 = 0 then (some ((-1), u)) else ((fX3_startRow_10 x1 (u.1 0) u).bind fun q => match q with | (r10, u11) => ((fX3_search_10 x2 u11).bind fun q => match q with | (r13, u14) => (if x3 = 0 then (some (u14.1 30, u14)) else (some (u14.1 31, u14)))))))))) = some (r, u') := h1
  have h2 : (if q3 = 0 then (some ((-1), v1)) else ((fX12_isIn x2 0 500).bind fun r6 => (if r6 = 0 then (some ((-1), v1)) else ((fX12_isIn x3 0 1).bind fun r9 => (if r9 = 0 then (some ((-1), v1)) else (LX12_plan_0_47 GX12_plan_0_227 5000 x1 x2 x3 (-1) 0 0 0 v1)))))) = some (r', v') := h2
  rcases ks with ⟨z, kn⟩ | ⟨z, k0, k1⟩
  · have zq : q3 = 0 := by
      rcases kq with ⟨y, -⟩ | ⟨-, y0, y1⟩
      · exact y
      · exact absurd ⟨y0, y1⟩ kn
    rw [if_pos z] at h1
    rw [if_pos zq] at h2
    exact same h1 h2
  · have zq : q3 = 1 := by
      rcases kq with ⟨-, y⟩ | ⟨y, -⟩
      · exact absurd ⟨k0, k1⟩ y
      · exact y
    rw [if_neg (ne01 z)] at h1
    rw [if_neg (ne01 zq)] at h2
    obtain ⟨s4, a4, h1⟩ := bd_some h1
    obtain ⟨q6, b6, h2⟩ := bd_some h2
    have e46 : s4 = q6 := Option.some.inj (a4.symm.trans (show fX11_within x2 0 500 = some q6 from b6))
    rw [← e46] at h2
    rcases win a4 with ⟨z4, -⟩ | ⟨z4, c0, c9⟩
    · rw [if_pos z4] at h1 h2
      exact same h1 h2
    · rw [if_neg (ne01 z4)] at h1 h2
      have c0 : (0 : Int) ≤ x2.toInt := c0
      have c9 : x2.toInt ≤ (500 : Int) := c9
      obtain ⟨s7, a7, h1⟩ := bd_some h1
      obtain ⟨q9, b9, h2⟩ := bd_some h2
      rcases eith a7 with ⟨z7, n7⟩ | ⟨z7, d0, d1⟩
      · rw [if_pos z7] at h1
        rcases inn b9 with ⟨z9, -⟩ | ⟨z9, w0, w1⟩
        · rw [if_pos z9] at h2
          exact same h1 h2
        · exact absurd ⟨w0, w1⟩ n7
      · rw [if_neg (ne01 z7)] at h1
        rcases inn b9 with ⟨z9, n9⟩ | ⟨z9, -⟩
        · exact absurd ⟨d0, d1⟩ n9
        · rw [if_neg (ne01 z9)] at h2
          obtain ⟨⟨r10, u8⟩, a10, h1⟩ := bd_some h1
          obtain ⟨⟨r13, u14⟩, a13, h1⟩ := bd_some h1
          obtain ⟨R8, F8, e32, U10, U11, S8, W8⟩ := startRow_sp hR k0 k1 a10
          have hS := M1.2.2.1
          have e10 : u8.1 10 = u.1 8 := UpTo_uq hS.2.2.2.2.2 U10 (UpTo_now hI hS)
          have e11' : u8.1 11 = u.1 12 := UpTo_uq hS.2.2.2.2.1 U11 (UpTo_nowC hI hS)
          rw [e10, e11'] at W8
          rw [e10, e11'] at S8
          have I8 := R8.1
          have M8 : MR u8 v1 := MR_u F8 (by decide) (by decide) M1
          have f8 := F8.1 8 (by decide)
          have f12 := F8.1 12 (by decide)
          have f13 := F8.1 13 (by decide)
          have ew : ww u8 = ww u := ww_fr (F8.2.1 24 (by decide)) (F8.2.1 36 (by decide)) F8.2.2.2.2
          have esp : ∀ k i, spX u8 k i = spX u k i := fun k i => spX_fr (by rw [F8.2.1 29 (by decide)]) (by rw [F8.2.1 30 (by decide)]) (F8.2.1 31 (by decide)) (F8.2.1 32 (by decide)) (F8.2.1 33 (by decide)) (F8.2.1 35 (by decide))
          have b29 : (u8.1 29).toInt ≤ (10 : Int) := (I8.1 29).2
          have z29 : (0 : Int) ≤ (u8.1 29).toInt := (I8.1 29).1
          -- the class's start
          unfold fX3_search_10 at a13
          obtain ⟨w1, j1, a13⟩ := lt_some a13
          obtain ⟨w3, j3, a13⟩ := lt_some a13
          obtain ⟨w5, j5, a13⟩ := lt_some a13
          obtain ⟨⟨r7, w8⟩, a15, a13⟩ := bd_some a13
          have e14 : w8 = u14 := by cases a13; rfl
          have s5 : StX ([30, 31, 34], [], [], []) u8 w5 := by
            rw [j5, j3, j1]
            exact StX_sIf (StX_sI (StX_sIf (StX_rf I8) (by decide) rfl rfl) (by decide) (by decide) (by decide)) (by decide) rfl rfl
          have R5 := RW_md s5.1 s5.2 (by decide) (by decide) (by decide) R8
          have F5 : FrM mdX3_choose_10 u8 w5 := FrM_tr FrM_rf s5.2 (by decide)
          have LK8 : LKP u8 := LKP_of M8.2.2.1
          have P8 : RP u8 := ⟨R8, LK8, by rw [e32]; exact k0, by rw [e32, f13]; exact k1⟩
          have P5 : RP w5 := RP_md R5 F5 (by decide) (by decide) P8
          have w33 : w5.1 33 = u8.1 33 := s5.2.1 33 (by decide)
          have cut0 : ∀ i j, cutN u8 (spX u8 (u8.1 12).toNatClampNeg) 0 i j = spX u (u.1 12).toNatClampNeg j := fun i j => by
            rw [cutN_0, f12]
            exact esp _ j
          have W0 : ∀ i, wI u8 (spX u8 (u8.1 12).toNatClampNeg) 0 i = u8.1 33 := fun i => by
            rw [W8]
            unfold wI wdS
            rw [show (fun j => spr (ww u8 (u8.1 32).toNatClampNeg j) (cutN u8 (spX u8 (u8.1 12).toNatClampNeg) 0 i j)) = fun j => spr (ww u x1.toNatClampNeg j) (spX u (u.1 12).toNatClampNeg j) from funext fun j => by rw [cut0, ew, e32], f8]
          have n0 : (0 : Int32).toNatClampNeg = 0 := rfl
          obtain ⟨-, bst⟩ := choose_sp (S := spX u8 (u8.1 12).toNatClampNeg) (C := x2.toInt) I8 16 0 x2 (w5.1 33) 0 r7 w5 w8 0 P5 F5 (by decide) z29 (by decide) (fun j hj => absurd hj (Nat.not_lt_zero _)) (by
            rw [n0]
            show x2.toInt = x2.toInt - 0
            omega) c0 c9 rfl (fun j hj => by
            rw [s5.2.2.1 57 (by decide), s5.2.2.1 58 (by decide), cut0]
            rw [f8] at hj
            exact S8 j hj) (by rw [w33, W0]) a15
          rw [n0] at bst
          have b0 : bsX w5 = (0, u8.1 33, -1) := by
            have x30 : w5.1 30 = 0 := by rw [j5]; rfl
            have x31 : w5.1 31 = u8.1 33 := by rw [j5, j3, j1]; rfl
            have x34 : w5.1 34 = -1 := by rw [j5, j3]; rfl
            unfold bsX
            rw [x30, x31, x34]
            rfl
          have V0 : VP u8 x2.toInt (u8.1 29).toNatClampNeg 0 0 0 := ⟨Nat.two_pow_pos _, fun j hj => absurd hj (Nat.not_lt_zero _), fun j _ hb => by
            rw [Nat.zero_testBit] at hb
            exact absurd hb (by decide), by rw [cosN_0]; exact c0⟩
          -- the reference's
          have S0 : MI u8 x2.toInt (spX u8 (u8.1 12).toNatClampNeg) (-1) 0 0 0 := Or.inl ⟨rfl, fun t ht => absurd ht (Nat.not_lt_zero _)⟩
          obtain ⟨y4, y5, y6, w, mi, h2⟩ := plan47 I8 R8.2.2.1 e32.symm k0 (by rw [f13]; exact k1) c0 c9 5000 0 (-1) 0 0 v1 M8 (by rw [F8.1 0 (by decide)]; exact e11) (Nat.zero_le _) S0 h2
          unfold GX12_plan_0_227 at h2
          rcases mi with ⟨-, p2⟩ | ⟨b', p1, p2, p3, p4, -, p6⟩
          · exact absurd V0 (p2 0 (Nat.two_pow_pos _))
          · rcases bst with ⟨-, g2⟩ | ⟨b, g1, -, g3, g4⟩
            · refine absurd ?_ (g2 0 V0)
              rw [b0]
              refine Or.inr ⟨by show (wI u8 _ 0 _).toInt = (u8.1 33).toInt; rw [W0], ?_⟩
              show (-1 : Int) < x2.toInt - cosN u8 0 _
              rw [cosN_0]
              omega
            · have eb : b = b' := by
                rcases g4 b' p2 with g | g
                · exact g.symm
                · rcases p6 b g1.1 g1 with k | k
                  · exact k
                  · exact (bet_as g k).elim
              have q30 : w8.1 30 = y4 := by
                have := congrArg (fun q : Int32 × Int32 × Int => q.1) g3
                rw [p3, ← eb]
                exact this
              have q31 : w8.1 31 = y5 := by
                have := congrArg (fun q : Int32 × Int32 × Int => q.2.1) g3
                rw [p4, ← eb]
                exact this
              have h1 : (if x3 = 0 then (some (u14.1 30, u14)) else (some (u14.1 31, u14))) = some (r, u') := h1
              rw [← e14, q30, q31] at h1
              by_cases cz : x3 = 0
              · rw [if_pos cz] at h1 h2
                cases h1
                cases h2
                rfl
              · rw [if_neg cz] at h1 h2
                cases h1
                cases h2
                rfl
