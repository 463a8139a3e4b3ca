/-! The reference's table, and its test of a set. -/
theorem se64 {u : SX} {S : Nat → Int32 × Int32} {k208 : Int32 → Int32 → SX → Option (Int32 × SX)} {z1 z2 kr r : Int32} {v' : SX} (hI : IX u) (hPL : PL u) (hr : UpTo (u.2.1 37) z1 (u.1 13) kr) : ∀ (n : Nat) (z3 : Int32) (v : SX), MR u v → v.1 15 = u.1 13 → SPv u S v → 0 ≤ z3.toInt → z3.toInt ≤ (u.1 13).toInt → (∀ m i : Nat, (m : Int) < z3.toInt → (m : Int) < kr.toInt → (i : Int) < (u.1 8).toInt → TB u S v m i) → LX12_sets_0_64 k208 n z1 z2 z3 v = some (r, v') → ∃ w : SX, MR u w ∧ w.1 15 = u.1 13 ∧ (∀ m i : Nat, (m : Int) < kr.toInt → (i : Int) < (u.1 8).toInt → TB u S w m i) ∧ k208 z1 z2 w = some (r, v') := by
  intro n
  induction n with
  | zero => intro z3 v _ _ _ _ _ _ h; cases h
  | succ n ih =>
    intro z3 v hM e15 hsp h0 h9 ht h
    have b13 : (u.1 13).toInt ≤ (80 : Int) := (hI.1 13).2
    have b8 : (u.1 8).toInt ≤ (12 : Int) := (hI.1 8).2
    have h : (if (v.1 15) ≤ z3 then (k208 z1 z2 v) else (gd (inb z3 80) (if (v.2.1 21 z3.toNatClampNeg) ≤ z1 then ((fX12_layWorthsOf_0 z3 v).bind fun q => match q with | (r13, u14) => (LX12_sets_0_93 (GX12_sets_0_202 (LX12_sets_0_64 k208 n)) 5000 z1 z2 z3 0 u14)) else (LX12_sets_0_64 k208 n z1 z2 (z3 + 1) v)))) = some (r, v') := h
    rw [e15] at h
    have t3 := tnS h0
    by_cases c : u.1 13 ≤ z3
    · rw [if_pos c] at h
      have c9 := leI c
      have k9 := hr.2.1
      exact ⟨v, hM, e15, fun m i hm hi => ht m i (by omega) hm hi, h⟩
    · rw [if_neg c] at h
      have c9 := nleI c
      have et : (z3 + 1).toInt = z3.toInt + 1 := addc_t (by decide) (by omega) (by omega)
      obtain ⟨-, h⟩ := gd_some h
      have hd := (hM.2.2.2.2.1 z3.toNatClampNeg (by omega)).1
      rw [← hd] at h
      have srt := hM.2.2.2.2.2
      by_cases cd : u.2.1 37 z3.toNatClampNeg ≤ z1
      · rw [if_pos cd] at h
        obtain ⟨⟨r13, u14⟩, a13, h⟩ := bd_some h
        have hs : StM mdX12_layWorthsOf_0 v u14 := (Tot_at (tfX12_layWorthsOf_0 z3 v hM.1 ⟨h0, by omega⟩) a13).1
        obtain ⟨J14, e12, -, hw⟩ := layOfS hI hM.1 hM.2.1 hM.2.2.1 hM.2.2.2.1 hPL hM.2.2.2.2 h0 (by omega) a13
        have M14 : MR u u14 := MR_md hs.1 hs.2 (by decide) hM
        obtain ⟨w, sw, q1, q2, h⟩ := se93 (S := S) hI h0 (by omega) 5000 0 u14 J14 (by rw [e12]; exact hM.2.1.1.symm) (SPv_fr (hs.2.2.1 16 (by decide)) (hs.2.2.1 17 (by decide)) hsp) (fun i hi => (wv_eq hI (hw i hi)).symm) (by decide) (Int.le_trans (by decide) (hI.1 8).1) h
        unfold GX12_sets_0_202 at h
        have z0 : (0 : Int32).toInt = 0 := by decide
        rw [z0] at q1 q2
        refine ih (z3 + 1) w (MR_md sw.1 sw.2 (by decide) M14) (by rw [sw.2.1 15 (by decide), hs.2.1 15 (by decide)]; exact e15) (SPv_fr ((sw.2.2.1 16 (by decide)).trans (hs.2.2.1 16 (by decide))) ((sw.2.2.1 17 (by decide)).trans (hs.2.2.1 17 (by decide))) hsp) (by rw [et]; omega) (by rw [et]; omega) (fun m i hm hk hi => ?_) h
        rw [et] at hm
        by_cases cm : m = z3.toNatClampNeg
        · rw [cm]
          exact q2 i (by omega) hi
        · obtain ⟨y1, y2, y3, y4⟩ := q1 (12 * m + i) (by omega)
          have o := ht m i (by omega) hk hi
          unfold TB at o ⊢
          rw [y1, y2, y3, y4, hs.2.2.1 25 (by decide), hs.2.2.1 26 (by decide), hs.2.2.1 27 (by decide), hs.2.2.1 28 (by decide)]
          exact o
      · rw [if_neg cd] at h
        have cd9 := nleI cd
        refine ih (z3 + 1) v hM e15 hsp (by rw [et]; omega) (by rw [et]; omega) (fun m i hm hk hi => ?_) h
        rw [et] at hm
        refine ht m i ?_ hk hi
        by_cases cm : m = z3.toNatClampNeg
        · rw [cm] at hk
          exact absurd (UpTo_dn srt hr hk) cd9
        · omega
/-- what a set leaves over at a reading, as the reference reckons it -/
theorem is42 {u : SX} {S : Nat → Int32 × Int32} {k162 : Int32 → Int32 → Int32 → Int32 → Int32 → SX → Option (Int32 × SX)} {q z3 kp r : Int32} {s : Nat} {v v' : SX} (hI : IX u) (hM : MR u v) (hs : s < 4096) (hU : UpTo (u.2.1 25) q (u.1 8) kp) (hw : ∀ i : Nat, (i : Int) < kp.toInt → Bw (ww u z3.toNatClampNeg i)) (hS : ∀ i : Nat, (i : Int) < kp.toInt → Sb (S i)) (a0 : 0 ≤ z3.toInt) (a9 : z3.toInt < 80) (hN : -100000 ≤ (u.2.1 40 z3.toNatClampNeg).toInt ∧ (u.2.1 40 z3.toNatClampNeg).toInt ≤ 100000) (ht : ∀ i : Nat, (i : Int) < kp.toInt → TB u S v z3.toNatClampNeg i) : ∀ (n : Nat) (z4 z5 z6 : Int32), 0 ≤ z6.toInt → z6.toInt ≤ (u.1 8).toInt → z4.toInt = loR u S z3.toNatClampNeg s (min z6.toNatClampNeg kp.toNatClampNeg) → z5.toInt = upR u S z3.toNatClampNeg s (min z6.toNatClampNeg kp.toNatClampNeg) → LX12_isSet_0_42 k162 n (Int32.ofNat s) q z3 z4 z5 z6 v = some (r, v') → ∃ y4 y5 : Int32, y4.toInt = loR u S z3.toNatClampNeg s kp.toNatClampNeg ∧ y5.toInt = upR u S z3.toNatClampNeg s kp.toNatClampNeg ∧ k162 (Int32.ofNat s) q z3 y4 y5 v = some (r, v') := by
  intro n
  induction n with
  | zero => intro z4 z5 z6 _ _ _ _ h; cases h
  | succ n ih =>
    intro z4 z5 z6 h0 h9 e4 e5 h
    have b8 : (u.1 8).toInt ≤ (12 : Int) := (hI.1 8).2
    have kp0 := hU.1
    have kp9 := hU.2.1
    have tk := tnS kp0
    have t6 := tnS h0
    have t3 := tnS a0
    have e12 : v.1 12 = u.1 8 := hM.2.1.1.symm
    have h : (if (v.1 12) ≤ z6 then (k162 (Int32.ofNat s) q z3 z4 z5 v) else (gd (inb z6 12) (if (v.2.1 10 z6.toNatClampNeg) ≤ q then (if ((Int32.ofNat s >>> (z6 &&& 31)) &&& 1) = 1 then (GX12_isSet_0_80 (LX12_isSet_0_42 k162 n) (Int32.ofNat s) q z3 z4 z5 z6 1 v) else (GX12_isSet_0_80 (LX12_isSet_0_42 k162 n) (Int32.ofNat s) q z3 z4 z5 z6 0 v)) else (LX12_isSet_0_42 k162 n (Int32.ofNat s) q z3 z4 z5 (z6 + 1) v)))) = some (r, v') := h
    rw [e12] at h
    by_cases c : u.1 8 ≤ z6
    · rw [if_pos c] at h
      have c9 := leI c
      rw [show min z6.toNatClampNeg kp.toNatClampNeg = kp.toNatClampNeg by omega] at e4 e5
      exact ⟨z4, z5, e4, e5, h⟩
    · rw [if_neg c] at h
      have c9 := nleI c
      have et : (z6 + 1).toInt = z6.toInt + 1 := addc_t (by decide) (by omega) (by omega)
      have en := ns1 h0 (show z6.toInt ≤ 5000 by omega)
      obtain ⟨-, h⟩ := gd_some h
      have hd := (hM.2.2.1.2.1 z6.toNatClampNeg (by omega)).2.1
      rw [← hd] at h
      have srt := hM.2.2.1.2.2.2.2.2
      by_cases cd : u.2.1 25 z6.toNatClampNeg ≤ q
      · rw [if_pos cd] at h
        have hlt := UpTo_in srt hU (i := z6.toNatClampNeg) (by omega) (leI cd)
        rw [show min z6.toNatClampNeg kp.toNatClampNeg = z6.toNatClampNeg by omega] at e4 e5
        obtain ⟨-, -, -, l1, l2, u1, u2⟩ := one_sp (u := u) (S := S) (m := z3.toNatClampNeg) (s := s) (n := kp.toNatClampNeg) (by omega) (fun i hi => hw i (by omega)) (fun i hi => hS i (by omega)) hN z6.toNatClampNeg (by omega)
        have es := ends_sp (hw _ hlt) (hS _ hlt)
        have q1 := mxSB (hw _ hlt) (hS _ hlt)
        have q2 := mnSB (hw _ hlt) (hS _ hlt)
        obtain ⟨y25, y26, y27, y28⟩ := ht _ hlt
        have m1 : (12 * z3).toInt = 12 * z3.toInt := by
          have c : (12 : Int32).toInt = 12 := by decide
          rw [Int32.toInt_mul, c]
          exact bm_t (by omega) (by omega)
        have m2 : (12 * z3 + z6).toInt = 12 * z3.toInt + z6.toInt := by rw [add_t (by omega) (by omega), m1]
        have mn : (12 * z3 + z6).toNatClampNeg = 12 * z3.toNatClampNeg + z6.toNatClampNeg := by
          show (12 * z3 + z6).toInt.toNat = 12 * z3.toInt.toNat + z6.toInt.toNat
          omega
        have mk : min (z6 + 1).toNatClampNeg kp.toNatClampNeg = z6.toNatClampNeg + 1 := by rw [en]; omega
        cases tb : s.testBit z6.toNatClampNeg with
        | true =>
          have cb : (Int32.ofNat s >>> (z6 &&& 31)) &&& 1 = 1 := by
            rcases bit01 (Int32.ofNat s >>> (z6 &&& 31)) with ⟨p1, -⟩ | ⟨-, p2⟩
            · have := (bitS h0 (by omega) hs).mp p1
              rw [tb] at this
              exact absurd this (by decide)
            · exact p2
          rw [if_pos cb] at h
          unfold GX12_isSet_0_80 GX12_isSet_0_116 GX12_isSet_0_153 GX12_isSet_0_156 at h
          rw [mn, if_neg (show ¬ (1 : Int32) = 0 by decide)] at h
          obtain ⟨-, h⟩ := gd_some h
          obtain ⟨v11, j11, h⟩ := lt_some h
          rw [if_neg (show ¬ (1 : Int32) = 0 by decide)] at h
          obtain ⟨-, h⟩ := gd_some h
          obtain ⟨v14, j14, h⟩ := lt_some h
          rw [y28] at j11
          rw [y27] at j14
          refine ih v11 v14 (z6 + 1) (by rw [et]; omega) (by rw [et]; omega) ?_ ?_ h
          · rw [mk, loR_s, if_pos tb, j11, sub_t (by omega) (by omega), e4]
          · rw [mk, upR_s, if_pos tb, j14, sub_t (by omega) (by omega), e5]
        | false =>
          have cb : ¬ (Int32.ofNat s >>> (z6 &&& 31)) &&& 1 = 1 := by
            rcases bit01 (Int32.ofNat s >>> (z6 &&& 31)) with ⟨-, p2⟩ | ⟨p1, -⟩
            · exact p2
            · exact absurd ((bitS h0 (by omega) hs).mpr tb) p1
          rw [if_neg cb] at h
          unfold GX12_isSet_0_80 GX12_isSet_0_116 GX12_isSet_0_153 GX12_isSet_0_156 at h
          rw [mn, if_pos rfl] at h
          obtain ⟨-, h⟩ := gd_some h
          obtain ⟨v11, j11, h⟩ := lt_some h
          rw [if_pos rfl] at h
          obtain ⟨-, h⟩ := gd_some h
          obtain ⟨v14, j14, h⟩ := lt_some h
          rw [y26] at j11
          rw [y25] at j14
          have nt : ¬ s.testBit z6.toNatClampNeg = true := by rw [tb]; decide
          refine ih v11 v14 (z6 + 1) (by rw [et]; omega) (by rw [et]; omega) ?_ ?_ h
          · rw [mk, loR_s, if_neg nt, j11, sub_t (by omega) (by omega), e4]
          · rw [mk, upR_s, if_neg nt, j14, sub_t (by omega) (by omega), e5]
      · rw [if_neg cd] at h
        have cd9 := nleI cd
        have hge : kp.toInt ≤ z6.toInt := by
          rcases Int.lt_or_le z6.toInt kp.toInt with z | z
          · exact absurd (UpTo_dn srt hU (i := z6.toNatClampNeg) (by omega)) cd9
          · exact z
        refine ih z4 z5 (z6 + 1) (by rw [et]; omega) (by rw [et]; omega) ?_ ?_ h
        · rw [e4, en, show min z6.toNatClampNeg kp.toNatClampNeg = min (z6.toNatClampNeg + 1) kp.toNatClampNeg by omega]
        · rw [e5, en, show min z6.toNatClampNeg kp.toNatClampNeg = min (z6.toNatClampNeg + 1) kp.toNatClampNeg by omega]
