/-! The class's search for the best row. -/
noncomputable def wI (u0 : SX) (S : Nat → Int32 × Int32) (s i : Nat) : Int32 := wdS u0 (cutN u0 S s i) (u0.1 8).toNatClampNeg (u0.1 32).toNatClampNeg
noncomputable def wF (u0 : SX) (S : Nat → Int32 × Int32) (t : Nat) : Int32 := wI u0 S t (u0.1 29).toNatClampNeg
def cF (u0 : SX) (C : Int) (t : Nat) : Int := C - cosN u0 t (u0.1 29).toNatClampNeg
def bsX (u : SX) : Int32 × Int32 × Int := (u.1 30, u.1 31, (u.1 34).toInt)
theorem choose_sp {u0 : SX} {S : Nat → Int32 × Int32} {C : Int} (hI0 : IX u0) : ∀ (d : Nat) (x1 x2 x3 x4 r : Int32) (u u' : SX) (s : Nat), RP u → FrM mdX3_choose_10 u0 u → 0 ≤ x1.toInt → x1.toInt ≤ (u0.1 29).toInt → s < 2 ^ x1.toNatClampNeg → (∀ j, j < x1.toNatClampNeg → s.testBit j = true → u0.2.1 52 j = -1) → x2.toInt = C - cosN u0 s x1.toNatClampNeg → 0 ≤ x2.toInt → x2.toInt ≤ 500 → x4 = Int32.ofNat s → (∀ j : Nat, (j : Int) < (u0.1 8).toInt → (u.2.1 57 j, u.2.1 58 j) = cutN u0 S s x1.toNatClampNeg j) → x3 = wI u0 S s x1.toNatClampNeg → rX3chooseg d 0 x1 x2 x3 x4 u = some (r, u') → (∀ j : Nat, (j : Int) < (u0.1 8).toInt → (u'.2.1 57 j, u'.2.1 58 j) = (u.2.1 57 j, u.2.1 58 j)) ∧ BST (wF u0 S) (cF u0 C) (VP u0 C (u0.1 29).toNatClampNeg x1.toNatClampNeg s) (bsX u) (bsX u') := by
  intro d
  induction d with
  | zero => intro x1 x2 x3 x4 r u u' s _ _ _ _ _ _ _ _ _ _ _ _ h; cases h
  | succ d ih =>
    intro x1 x2 x3 x4 r u u' s hP hF h0 h9 hs ho hc c0 c1 h4 hr h3 h
    have hR := hP.1
    have hI := hR.1
    have b29 : (u0.1 29).toInt ≤ (10 : Int) := (hI0.1 29).2
    have z29 : (0 : Int) ≤ (u0.1 29).toInt := (hI0.1 29).1
    have e29 : u.1 29 = u0.1 29 := hF.1 29 (by decide)
    have t1 := tnP h0
    have t29 := tnP z29
    rw [rX3chooseg, if_pos rfl] at h
    unfold fX3_choose_10 at h
    by_cases c : x1 < u.1 29
    · rw [if_pos c] at h
      have c9 := ltI c
      rw [e29] at c9
      have et : (x1 + 1).toInt = x1.toInt + 1 := addc_t (by decide) (by omega) (by omega)
      have en := ns1 h0 (show x1.toInt ≤ 5000 by omega)
      have sn : s.testBit x1.toNatClampNeg = false := bit_hi hs (Nat.le_refl _)
      have hs1 : s < 2 ^ (x1.toNatClampNeg + 1) := Nat.lt_of_lt_of_le hs (Nat.pow_le_pow_right (by decide) (Nat.le_succ _))
      have cut1 : ∀ j, cutN u0 S s (x1.toNatClampNeg + 1) j = cutN u0 S s x1.toNatClampNeg j := fun j => by
        rw [cutN_s, if_neg (fun z => by
          rw [sn] at z
          exact absurd z.1 (by decide))]
      have cos1 : cosN u0 s (x1.toNatClampNeg + 1) = cosN u0 s x1.toNatClampNeg := by
        rw [cosN_s, sn, if_neg (by decide), Int.add_zero]
      have w1 : wI u0 S s (x1.toNatClampNeg + 1) = wI u0 S s x1.toNatClampNeg := by
        unfold wI
        rw [show cutN u0 S s (x1.toNatClampNeg + 1) = cutN u0 S s x1.toNatClampNeg from funext cut1]
      -- the row without this look
      have e156 : ∀ w : SX, RP w → FrM mdX3_choose_10 u0 w → (∀ j : Nat, (j : Int) < (u0.1 8).toInt → (w.2.1 57 j, w.2.1 58 j) = cutN u0 S s x1.toNatClampNeg j) → GX3_choose_10_156 (rX3chooseg d) x1 x2 x3 x4 w = some (r, u') → (∀ j : Nat, (j : Int) < (u0.1 8).toInt → (u'.2.1 57 j, u'.2.1 58 j) = (w.2.1 57 j, w.2.1 58 j)) ∧ BST (wF u0 S) (cF u0 C) (VP u0 C (u0.1 29).toNatClampNeg (x1.toNatClampNeg + 1) s) (bsX w) (bsX u') := fun w hw fw rw' k => by
        unfold GX3_choose_10_156 at k
        obtain ⟨⟨r4, u5⟩, a4, k⟩ := bd_some k
        have e : u5 = u' := by cases k; rfl
        rw [← e]
        have g := ih (x1 + 1) x2 x3 x4 r4 w u5 s hw fw (by rw [et]; omega) (by rw [et]; omega) (by rw [en]; exact hs1) (fun j hj hb => by
          rw [en] at hj
          by_cases ej : j = x1.toNatClampNeg
          · rw [ej, sn] at hb
            exact absurd hb (by decide)
          · exact ho j (by omega) hb) (by rw [en, cos1]; exact hc) c0 c1 h4 (fun j hj => by rw [en, cut1]; exact rw' j hj) (by rw [en, w1]; exact h3) a4
        rw [en] at g
        exact g
      obtain ⟨⟨r1, u2⟩, a1, h⟩ := bd_some h
      obtain ⟨e2, k1⟩ := isDoi a1
      rw [e2] at h
      have h : (if r1 = 0 then (gd (inb x1 10) (if x2 < (u.2.1 51 x1.toNatClampNeg) then (GX3_choose_10_156 (rX3chooseg d) x1 x2 x3 x4 u) else (gd (inb x1 10) (lt (u.2.1 48 x1.toNatClampNeg) fun v9 => (gd (inb v9 12) (lt (u.2.1 57 v9.toNatClampNeg) fun v12 => (gd (inb v9 12) (lt (u.2.1 58 v9.toNatClampNeg) fun v15 => ((fX3_rowSpread_10 v9 u).bind fun q => match q with | (r17, u18) => ((fX3_cut_10 x1 u18).bind fun q => match q with | (r20, u21) => (gd (inb x1 10) ((fX3_rowSpread_10 v9 u21).bind fun q => match q with | (r24, u25) => (((rX3chooseg d) 0 (x1 + 1) (x2 - (u21.2.1 51 x1.toNatClampNeg)) ((x3 + r24) - r17) (x4 ||| (1 <<< (x1 &&& 31))) u25).bind fun q => match q with | (r27, u28) => (gd (inb v9 12) (lt (sA u28 57 (upd (u28.2.1 57) v9.toNatClampNeg v12)) fun u31 => (gd (inb v9 12) (lt (sA u31 58 (upd (u31.2.1 58) v9.toNatClampNeg v15)) fun u34 => (GX3_choose_10_156 (rX3chooseg d) x1 x2 x3 x4 u34)))))))))))))))))) else (GX3_choose_10_156 (rX3chooseg d) x1 x2 x3 x4 u)) = some (r, u') := h
      have r52 : u.2.1 52 = u0.2.1 52 := hF.2.1 52 (by decide)
      have r51 : u.2.1 51 = u0.2.1 51 := hF.2.1 51 (by decide)
      have r48 : u.2.1 48 = u0.2.1 48 := hF.2.1 48 (by decide)
      rw [r52] at k1
      have skip : (¬ u0.2.1 52 x1.toNatClampNeg = -1 ∨ C < cosN u0 s x1.toNatClampNeg + (u0.2.1 51 x1.toNatClampNeg).toInt) → GX3_choose_10_156 (rX3chooseg d) x1 x2 x3 x4 u = some (r, u') → (∀ j : Nat, (j : Int) < (u0.1 8).toInt → (u'.2.1 57 j, u'.2.1 58 j) = (u.2.1 57 j, u.2.1 58 j)) ∧ BST (wF u0 S) (cF u0 C) (VP u0 C (u0.1 29).toNatClampNeg x1.toNatClampNeg s) (bsX u) (bsX u') := fun hn k => by
        obtain ⟨q1, q2⟩ := e156 u hP hF hr k
        exact ⟨q1, BST_cg (VP_skip hI0 (by omega) hs hn) q2⟩
      rcases k1 with ⟨z1, k1⟩ | ⟨z1, k1⟩
      · rw [if_pos z1] at h
        obtain ⟨-, h⟩ := gd_some h
        by_cases c3 : x2 < u.2.1 51 x1.toNatClampNeg
        · rw [if_pos c3] at h
          have c39 := ltI c3
          rw [r51] at c39
          exact skip (Or.inr (by omega)) h
        · rw [if_neg c3] at h
          have c39 := nltI c3
          have b51 : (0 : Int) ≤ (u.2.1 51 x1.toNatClampNeg).toInt ∧ (u.2.1 51 x1.toNatClampNeg).toInt ≤ (50 : Int) := ⟨(hI.2.1 51 _).1, (hI.2.1 51 _).2⟩
          obtain ⟨l6, l7⟩ := hP.2.1 x1.toNatClampNeg (by rw [e29]; omega)
          obtain ⟨-, h⟩ := gd_some h
          obtain ⟨v9, i9, h⟩ := lt_some h
          rw [← i9] at l6 l7
          have e8 : u.1 8 = u0.1 8 := hF.1 8 (by decide)
          have t9 := tnP l6
          obtain ⟨-, h⟩ := gd_some h
          obtain ⟨v12, i12, h⟩ := lt_some h
          obtain ⟨-, h⟩ := gd_some h
          obtain ⟨v15, i15, h⟩ := lt_some h
          obtain ⟨⟨r17, u18⟩, a17, h⟩ := bd_some h
          obtain ⟨R18, F18, s17⟩ := rowSpread_sp hR hP.2.2.1 hP.2.2.2 l6 l7 a17
          obtain ⟨⟨r20, u21⟩, a20, h⟩ := bd_some h
          have s21 : StX mdX3_cut_10 u18 u21 := (Tot_at (tfX3_cut_10 x1 u18 R18.1 ⟨h0, by omega⟩) a20).1
          obtain ⟨-, -, q3⟩ := cutX a20
          have R21 := RW_md s21.1 s21.2 (by decide) (by decide) (by decide) R18
          have F21 : FrM mdX3_choose_10 u u21 := FrM_tr (FrM_tr FrM_rf F18 (by decide)) s21.2 (by decide)
          have P21 : RP u21 := RP_md R21 F21 (by decide) (by decide) hP
          obtain ⟨-, h⟩ := gd_some h
          obtain ⟨⟨r24, u25⟩, a24, h⟩ := bd_some h
          obtain ⟨R25, F25, s24⟩ := rowSpread_sp R21 P21.2.2.1 P21.2.2.2 l6 (by rw [F21.1 8 (by decide)]; exact l7) a24
          have F25' : FrM mdX3_choose_10 u u25 := FrM_tr F21 F25 (by decide)
          have F250 : FrM mdX3_choose_10 u0 u25 := FrM_tr hF F25' (by decide)
          have P25 : RP u25 := RP_md R25 F25' (by decide) (by decide) hP
          obtain ⟨⟨r27, u28⟩, a27, h⟩ := bd_some h
          rw [F21.2.1 51 (by decide)] at a27
          have e51 : (x2 - u.2.1 51 x1.toNatClampNeg).toInt = x2.toInt - (u.2.1 51 x1.toNatClampNeg).toInt := sub_t (by omega) (by omega)
          have ep : (u0.2.1 48 x1.toNatClampNeg).toNatClampNeg = v9.toNatClampNeg := by rw [i9, r48]
          have ew : ww u = ww u0 := ww_fr (hF.2.1 24 (by decide)) (hF.2.1 36 (by decide)) hF.2.2.2.2
          have ew21 : ww u21 = ww u0 := (ww_fr (F21.2.1 24 (by decide)) (F21.2.1 36 (by decide)) F21.2.2.2.2).trans ew
          have e32 : u.1 32 = u0.1 32 := hF.1 32 (by decide)
          have e32' : u21.1 32 = u0.1 32 := (F21.1 32 (by decide)).trans e32
          have rows21 : ∀ j : Nat, (j : Int) < (u0.1 8).toInt → (u21.2.1 57 j, u21.2.1 58 j) = cutN u0 S (s ||| 2 ^ x1.toNatClampNeg) (x1.toNatClampNeg + 1) j := fun j hj => by
            have lowc : cutN u0 S (s ||| 2 ^ x1.toNatClampNeg) x1.toNatClampNeg j = cutN u0 S s x1.toNatClampNeg j := cutN_cg _ (fun k hk => by rw [or_bit, decide_eq_false (by omega), Bool.or_false]) j
            rw [q3 j, F18.2.1 48 (by decide), F18.2.1 49 (by decide), F18.2.1 50 (by decide), F18.2.1 57 (by decide), F18.2.1 58 (by decide), hr j hj, cutN_s, lowc, or_bit, decide_eq_true rfl, Bool.or_true, r48, show u.2.1 49 = u0.2.1 49 from hF.2.1 49 (by decide), show u.2.1 50 = u0.2.1 50 from hF.2.1 50 (by decide)]
            by_cases cj : (u0.2.1 48 x1.toNatClampNeg).toNatClampNeg = j
            · rw [if_pos cj, if_pos ⟨rfl, cj⟩]
            · rw [if_neg cj, if_neg (fun z => cj z.2)]
          have rows25 : ∀ j : Nat, (j : Int) < (u0.1 8).toInt → (u25.2.1 57 j, u25.2.1 58 j) = cutN u0 S (s ||| 2 ^ x1.toNatClampNeg) (x1.toNatClampNeg + 1) j := fun j hj => by
            rw [F25.2.1 57 (by decide), F25.2.1 58 (by decide)]
            exact rows21 j hj
          have hv9 : (v9.toNatClampNeg : Int) < (u0.1 8).toInt := by rw [← e8]; omega
          have wid : (x3 + r24) - r17 = wI u0 S (s ||| 2 ^ x1.toNatClampNeg) (x1.toNatClampNeg + 1) := by
            have m := sumW_one (p := v9.toNatClampNeg) (f := fun j => spr (ww u0 (u0.1 32).toNatClampNeg j) (cutN u0 S (s ||| 2 ^ x1.toNatClampNeg) (x1.toNatClampNeg + 1) j)) (g := fun j => spr (ww u0 (u0.1 32).toNatClampNeg j) (cutN u0 S s x1.toNatClampNeg j)) (u0.1 8).toNatClampNeg (by
              show v9.toInt.toNat < (u0.1 8).toInt.toNat
              omega) (fun j hj hn => by
              show spr _ _ = spr _ _
              have lowc : cutN u0 S (s ||| 2 ^ x1.toNatClampNeg) x1.toNatClampNeg j = cutN u0 S s x1.toNatClampNeg j := cutN_cg _ (fun k hk => by rw [or_bit, decide_eq_false (by omega), Bool.or_false]) j
              rw [cutN_s, lowc, if_neg (fun z => hn (by rw [← z.2, ep]))])
            have e24 : r24 = spr (ww u0 (u0.1 32).toNatClampNeg v9.toNatClampNeg) (cutN u0 S (s ||| 2 ^ x1.toNatClampNeg) (x1.toNatClampNeg + 1) v9.toNatClampNeg) := by
              rw [s24, ew21, e32', rows21 _ hv9]
            have e17 : r17 = spr (ww u0 (u0.1 32).toNatClampNeg v9.toNatClampNeg) (cutN u0 S s x1.toNatClampNeg v9.toNatClampNeg) := by
              rw [s17, ew, e32, hr _ hv9]
            unfold wI wdS at h3 ⊢
            rw [m, h3, e24, e17]
            rw [Int32.sub_eq_add_neg, Int32.sub_eq_add_neg, Int32.add_assoc]
          have hs2 : (s ||| 2 ^ x1.toNatClampNeg) < 2 ^ (x1.toNatClampNeg + 1) := Nat.or_lt_two_pow hs1 (Nat.pow_lt_pow_right (by decide) (Nat.lt_succ_self _))
          have cos2 : cosN u0 (s ||| 2 ^ x1.toNatClampNeg) (x1.toNatClampNeg + 1) = cosN u0 s x1.toNatClampNeg + (u0.2.1 51 x1.toNatClampNeg).toInt := by
            rw [cosN_s, or_bit, decide_eq_true rfl, Bool.or_true, if_pos rfl, cosN_cg (s := s ||| 2 ^ x1.toNatClampNeg) (t := s) x1.toNatClampNeg (fun k hk => by rw [or_bit, decide_eq_false (by omega), Bool.or_false])]
          have p12 : 2 ^ x1.toNatClampNeg < 4096 := Nat.lt_of_lt_of_le (Nat.pow_lt_pow_right (a := 2) (m := x1.toNatClampNeg) (n := 12) (by decide) (by omega)) (by decide)
          have e4 : x4 ||| (1 <<< (x1 &&& 31)) = Int32.ofNat (s ||| 2 ^ x1.toNatClampNeg) := by
            have sh : (1 <<< (x1 &&& 31) : Int32) = Int32.ofNat (2 ^ x1.toNatClampNeg) := by
              apply Int32.toInt.inj
              rw [shl1_e t1.symm (by omega), ofN_t p12]
              exact (Int.natCast_pow 2 _).symm
            rw [h4, sh, ofN_or]
          rw [r51] at e51 c39 b51
          rw [r51] at a27
          have g := ih (x1 + 1) _ _ _ r27 u25 u28 (s ||| 2 ^ x1.toNatClampNeg) P25 F250 (by rw [et]; omega) (by rw [et]; omega) (by rw [en]; exact hs2) (fun j hj hb => by
            rw [en] at hj
            by_cases ej : j = x1.toNatClampNeg
            · rw [ej]
              exact k1
            · rw [or_bit, decide_eq_false (by omega), Bool.or_false] at hb
              exact ho j (by omega) hb) (by rw [en, e51, cos2]; omega) (by rw [e51]; omega) (by rw [e51]; omega) e4 (fun j hj => by rw [en]; exact rows25 j hj) (by rw [en]; exact wid) a27
          obtain ⟨R28, F28⟩ := choose_RW d (x1 + 1) _ _ _ r27 u25 u28 P25 (by rw [et]; omega) (by rw [e51]; omega) (by rw [e51]; omega) a27
          rw [en] at g
          obtain ⟨g1, g2⟩ := g
          obtain ⟨-, h⟩ := gd_some h
          obtain ⟨u31, i31, h⟩ := lt_some h
          obtain ⟨-, h⟩ := gd_some h
          obtain ⟨u34, i34, h⟩ := lt_some h
          have s34 : StX ([], [57, 58], [], []) u28 u34 := by
            rw [i34, i31]
            have w12 : rlX 57 ≤ v12.toInt ∧ v12.toInt ≤ rhX 57 := by rw [i12]; exact hI.2.1 57 _
            have w15 : rlX 58 ≤ v15.toInt ∧ v15.toInt ≤ rhX 58 := by rw [i15]; exact hI.2.1 58 _
            exact StX_sA (StX_sA (StX_rf R28.1) (by decide) w12.1 w12.2 (by decide)) (by decide) w15.1 w15.2 (by decide)
          have R34 := RW_md s34.1 s34.2 (by decide) (by decide) (by decide) R28
          have F34 : FrM mdX3_choose_10 u u34 := FrM_tr (FrM_tr F25' F28 (by decide)) s34.2 (by decide)
          have P34 : RP u34 := RP_md R34 F34 (by decide) (by decide) hP
          have rows34 : ∀ j : Nat, (j : Int) < (u0.1 8).toInt → (u34.2.1 57 j, u34.2.1 58 j) = (u.2.1 57 j, u.2.1 58 j) := fun j hj => by
            have r57 : u34.2.1 57 = upd (u28.2.1 57) v9.toNatClampNeg v12 := by rw [i34, i31]; rfl
            have r58 : u34.2.1 58 = upd (u28.2.1 58) v9.toNatClampNeg v15 := by rw [i34, i31]; rfl
            rw [r57, r58]
            by_cases cj : j = v9.toNatClampNeg
            · rw [cj, upd_at, upd_at, i12, i15]
            · rw [upd_ne cj, upd_ne cj, g1 j hj, rows25 j hj, cutN_s, if_neg (fun z => cj (by rw [← z.2, ep])), hr j hj]
              exact cutN_cg _ (fun k hk => by rw [or_bit, decide_eq_false (by omega), Bool.or_false]) j
          obtain ⟨q1, q2⟩ := e156 u34 P34 (FrM_tr hF F34 (by decide)) (fun j hj => (rows34 j hj).trans (hr j hj)) h
          have bs25 : bsX u25 = bsX u := by
            have m : FrM ([16, 17], [16, 17, 41, 47, 57, 58], [], []) u u25 := FrM_tr (FrM_tr (FrM_tr FrM_rf F18 (by decide)) s21.2 (by decide)) F25 (by decide)
            unfold bsX
            rw [m.1 30 (by decide), m.1 31 (by decide), m.1 34 (by decide)]
          have bs34 : bsX u34 = bsX u28 := by
            unfold bsX
            rw [s34.2.1 30 (by decide), s34.2.1 31 (by decide), s34.2.1 34 (by decide)]
          rw [bs34] at q2
          rw [bs25] at g2
          exact ⟨fun j hj => (q1 j hj).trans (rows34 j hj), BST_cg (VP_two hs) (BST_two g2 q2 (fun a b ha hb => VP_prf hs ha hb))⟩
      · rw [if_neg (ne01 z1)] at h
        exact skip (Or.inl k1) h
    · rw [if_neg c] at h
      have c9 := nltI c
      rw [e29] at c9
      have ei : x1.toNatClampNeg = (u0.1 29).toNatClampNeg := by omega
      rw [ei] at hs ho hc h3
      have e3 : x3 = wF u0 S s := h3
      have ec : cF u0 C s = x2.toInt := hc.symm
      have leaf := VP_leaf hs ho (show cosN u0 s (u0.1 29).toNatClampNeg ≤ C by omega)
      rw [ei]
      have fin : (∀ j : Nat, (j : Int) < (u0.1 8).toInt → (u'.2.1 57 j, u'.2.1 58 j) = (u.2.1 57 j, u.2.1 58 j)) → ((tak (wF u0 S) (cF u0 C) (bsX u) s ∧ bsX u' = lvS (wF u0 S) (cF u0 C) s) ∨ (¬ tak (wF u0 S) (cF u0 C) (bsX u) s ∧ bsX u' = bsX u)) → (∀ j : Nat, (j : Int) < (u0.1 8).toInt → (u'.2.1 57 j, u'.2.1 58 j) = (u.2.1 57 j, u.2.1 58 j)) ∧ BST (wF u0 S) (cF u0 C) (VP u0 C (u0.1 29).toNatClampNeg (u0.1 29).toNatClampNeg s) (bsX u) (bsX u') := fun a b => ⟨a, BST_cg (fun t => (leaf t).symm) (BST_one b)⟩
      have take : tak (wF u0 S) (cF u0 C) (bsX u) s → GX3_choose_10_32 (rX3chooseg d) x2 x3 x4 u = some (r, u') → (∀ j : Nat, (j : Int) < (u0.1 8).toInt → (u'.2.1 57 j, u'.2.1 58 j) = (u.2.1 57 j, u.2.1 58 j)) ∧ BST (wF u0 S) (cF u0 C) (VP u0 C (u0.1 29).toNatClampNeg (u0.1 29).toNatClampNeg s) (bsX u) (bsX u') := fun ht k => by
        unfold GX3_choose_10_32 at k
        obtain ⟨u36, i36, k⟩ := lt_some k
        obtain ⟨u38, i38, k⟩ := lt_some k
        obtain ⟨u40, i40, k⟩ := lt_some k
        have e : u40 = u' := by cases k; rfl
        refine fin (fun j _ => by rw [← e, i40, i38, i36]; rfl) (Or.inl ⟨ht, ?_⟩)
        have x30 : u'.1 30 = x4 := by rw [← e, i40]; rfl
        have x31 : u'.1 31 = x3 := by rw [← e, i40, i38, i36]; rfl
        have x34 : u'.1 34 = x2 := by rw [← e, i40, i38]; rfl
        unfold bsX lvS
        rw [x30, x31, x34, h4, e3, ec]
      have leave : ¬ tak (wF u0 S) (cF u0 C) (bsX u) s → some ((0 : Int32), u) = some (r, u') → (∀ j : Nat, (j : Int) < (u0.1 8).toInt → (u'.2.1 57 j, u'.2.1 58 j) = (u.2.1 57 j, u.2.1 58 j)) ∧ BST (wF u0 S) (cF u0 C) (VP u0 C (u0.1 29).toNatClampNeg (u0.1 29).toNatClampNeg s) (bsX u) (bsX u') := fun ht k => by
        have e : u = u' := by cases k; rfl
        exact fin (fun j _ => by rw [← e]) (Or.inr ⟨ht, by rw [← e]⟩)
      by_cases c4 : x3 < u.1 31
      · rw [if_pos c4] at h
        refine take (Or.inl ?_) h
        rw [← e3]
        exact ltI c4
      · rw [if_neg c4] at h
        have c49 := nltI c4
        by_cases c5 : x3 = u.1 31
        · rw [if_pos c5] at h
          by_cases c6 : x2 ≤ u.1 34
          · rw [if_pos c6] at h
            have c69 := leI c6
            refine leave (fun z => ?_) h
            unfold tak bsX at z
            rw [← e3, ec] at z
            have z : x3.toInt < (u.1 31).toInt ∨ (x3.toInt = (u.1 31).toInt ∧ (u.1 34).toInt < x2.toInt) := z
            omega
          · rw [if_neg c6] at h
            have c69 := nleI c6
            refine take (Or.inr ⟨?_, ?_⟩) h
            · rw [← e3, c5]
              rfl
            · rw [ec]
              show (u.1 34).toInt < x2.toInt
              omega
        · rw [if_neg c5] at h
          have c59 := neI c5
          refine leave (fun z => ?_) h
          unfold tak bsX at z
          rw [← e3, ec] at z
          have z : x3.toInt < (u.1 31).toInt ∨ (x3.toInt = (u.1 31).toInt ∧ (u.1 34).toInt < x2.toInt) := z
          omega
