/-! The start; alike. -/
theorem fill_960 {x r : Int32} : ∀ (n : Nat) (z : Int32) (u u' : SX), 0 ≤ z.toInt → LJ7_fill_53178_a0_5 n x z 960 u = some (r, u') → ∀ i : Nat, i < 960 → (z.toInt ≤ (i : Int) ∨ u.2.1 0 i = x) → u'.2.1 0 i = x := by
  intro n
  induction n with
  | zero => intro z u u' _ h; cases h
  | succ n ih =>
    intro z u u' h0 g i hi hq
    have g : (if (960 : Int32) ≤ z then (some (0, u)) else (gd (inb z 960) (lt (sA u 0 (upd (u.2.1 0) z.toNatClampNeg x)) fun u2 => ((LJ7_fill_53178_a0_5 n) x (z + 1) 960 u2)))) = some (r, u') := g
    by_cases c : (960 : Int32) ≤ z
    · rw [if_pos c] at g
      have c9 : (960 : Int) ≤ z.toInt := leI c
      have e : u = u' := by cases g; rfl
      rw [← e]
      rcases hq with q | q
      · omega
      · exact q
    · rw [if_neg c] at g
      have c9 : ¬ (960 : Int) ≤ z.toInt := nleI c
      obtain ⟨-, g⟩ := gd_some g
      obtain ⟨u2, i2, g⟩ := lt_some g
      have et : (z + 1).toInt = z.toInt + 1 := addc_t (by decide) (by omega) (by omega)
      have k2 : u2.2.1 0 = upd (u.2.1 0) z.toNatClampNeg x := by rw [i2]; rfl
      refine ih (z + 1) u2 u' (by rw [et]; omega) g i hi ?_
      rw [et, k2]
      by_cases ci : i = z.toNatClampNeg
      · exact Or.inr (by rw [ci, upd_at])
      · rw [upd_ne ci]
        have ci : ¬ i = z.toInt.toNat := ci
        rcases hq with q | q
        · exact Or.inl (by omega)
        · exact Or.inr q
theorem uF_960 {i : Nat} (hi : i < 960) : uF.2.1 0 i = -100000000 := by
  have h := fill_ends
  unfold fJ7_fill_53178_a0 at h
  generalize (5000 : Nat) = N1 at h
  exact fill_960 N1 0 u00 uF (by decide) h i hi (Or.inl (by show (0 : Int) ≤ _; omega))
theorem uX_row (k i : Nat) : uX.2.1 k i = (bif Nat.beq k 41 then uF.2.1 0 else fun _ => 0) i := rfl
theorem CW_0 : CW uX := fun n g hn hg => Or.inl (by
    rw [uX_row, show Nat.beq 41 41 = true from rfl, cond_true]
    exact uF_960 (i := 12 * n + g) (by omega))
theorem CK_0 : CK uX := ⟨by decide, by decide, by decide, fun n hn => by
    have hn : (n : Int) < 0 := hn
    omega⟩
theorem leans_K {x1 x2 r : Int32} {u u' : SX} (hK : RK u) (h : fX11_leans_0 x1 x2 u = some (r, u')) : RK u' := by
  unfold fX11_leans_0 at h
  have no : some ((-100000000 : Int32), u) = some (r, u') → RK u' := fun g => by
    have e : u = u' := by cases g; rfl
    rw [← e]
    exact hK
  obtain ⟨⟨r1, u2⟩, a1, h⟩ := bd_some h
  obtain ⟨e1, k1⟩ := has7i a1
  rw [e1] at h
  have h : (if r1 = 0 then (some ((-100000000), u)) else ((fX6_has_6 x2 u).bind fun q => match q with | (r4, u5) => (if r4 = 0 then (some ((-100000000), u5)) else ((fX7_leanOf_7 x1 x2 u5).bind fun q => match q with | (r7, u8) => (some (r7, u8)))))) = some (r, u') := h
  rcases k1 with ⟨z, k1⟩ | ⟨z, k1, k1'⟩
  · rw [if_pos z] at h
    exact no h
  · rw [if_neg (ne01 z)] at h
    obtain ⟨⟨r4, u5⟩, a4, h⟩ := bd_some h
    obtain ⟨e4, k4⟩ := hasPi a4
    rw [e4] at h
    have h : (if r4 = 0 then (some ((-100000000), u)) else ((fX7_leanOf_7 x1 x2 u).bind fun q => match q with | (r7, u8) => (some (r7, u8)))) = some (r, u') := h
    rcases k4 with ⟨z, k4⟩ | ⟨z, k4, k4'⟩
    · rw [if_pos z] at h
      exact no h
    · rw [if_neg (ne01 z)] at h
      obtain ⟨⟨r7, u8⟩, a7, h⟩ := bd_some h
      have e : u8 = u' := by cases h; rfl
      obtain ⟨-, R8, F8⟩ := leanX hK.1 k1 k1' k4 k4' a7
      rw [← e]
      exact ⟨R8, CK_md F8 (by decide) (by decide) hK.2⟩
theorem alk_L {q kp kr r : Int32} {u : SX} {kc : Nat} (hI : IX u) (hPL : PL u) (hs13 : Srt (u.2.1 37) (u.1 13)) (hU : UpTo (u.2.1 25) q (u.1 8) kp) (hr : UpTo (u.2.1 37) q (u.1 13) kr) (b0 : 0 ≤ q.toInt) (b1 : q.toInt ≤ 120) {v' : SX} : ∀ (n : Nat) (z2 : Int32) (v : SX), MR u v → SPv u (spX u kc) v → v.1 15 = u.1 13 → 0 ≤ z2.toInt → (v.1 18).toInt = (min z2.toNatClampNeg kr.toNatClampNeg : Nat) → (∀ m : Nat, min z2.toNatClampNeg kr.toNatClampNeg = m + 1 → v.1 19 = alF (lfX u kp.toNatClampNeg kc) m ∧ v.1 20 = alT (lfX u kp.toNatClampNeg kc) m) → LX12_layAlike_0_12 n q z2 v = some (r, v') → MR u v' ∧ SPv u (spX u kc) v' ∧ FrM mdX12_layAlike_0 v v' ∧ (v'.1 18).toInt = (kr.toNatClampNeg : Nat) ∧ ∀ m : Nat, kr.toNatClampNeg = m + 1 → v'.1 19 = alF (lfX u kp.toNatClampNeg kc) m ∧ v'.1 20 = alT (lfX u kp.toNatClampNeg kc) m := by
  intro n
  induction n with
  | zero => intro z2 v _ _ _ _ _ _ h; cases h
  | succ n ih =>
    intro z2 v hM hS e15 h0 e18 e19 g
    have k0 := hr.1
    have k1 := hr.2.1
    have b13 : (u.1 13).toInt ≤ (80 : Int) := (hI.1 13).2
    have kn : kr.toNatClampNeg = kr.toInt.toNat := rfl
    have zn : z2.toNatClampNeg = z2.toInt.toNat := rfl
    have g : (if (v.1 15) ≤ z2 then (some (0, v)) else (gd (inb z2 80) (if (v.2.1 21 z2.toNatClampNeg) ≤ q then ((fX12_layLeft_0 z2 q v).bind fun p => match p with | (r7, u8) => (if (u8.1 18) = 0 then (GX12_layAlike_0_65 (LX12_layAlike_0_12 n) q z2 (u8.1 16) u8) else (GX12_layAlike_0_65 (LX12_layAlike_0_12 n) q z2 (if (u8.1 19) < (u8.1 16) then (u8.1 16) else (u8.1 19)) u8))) else (GX12_layAlike_0_107 (LX12_layAlike_0_12 n) q z2 v)))) = some (r, v') := g
    rw [e15] at g
    by_cases c : u.1 13 ≤ z2
    · rw [if_pos c] at g
      have c9 := leI c
      have ev : v = v' := by cases g; rfl
      rw [Nat.min_eq_right (by rw [kn, zn]; omega)] at e18 e19
      rw [← ev]
      exact ⟨hM, hS, FrM_rf, e18, e19⟩
    · rw [if_neg c] at g
      have c9 := nleI c
      obtain ⟨-, g⟩ := gd_some g
      have et : (z2 + 1).toInt = z2.toInt + 1 := addc_t (by decide) (by omega) (by omega)
      have en := ns1 h0 (show z2.toInt ≤ 5000 by omega)
      have hd := (hM.2.2.2.2.1 z2.toNatClampNeg (by rw [zn]; omega)).1
      rw [← hd] at g
      by_cases cd : u.2.1 37 z2.toNatClampNeg ≤ q
      · rw [if_pos cd] at g
        have hlt := UpTo_in hs13 hr (i := z2.toNatClampNeg) (by rw [zn]; omega) (leI cd)
        rw [zn] at hlt
        have m1 : min z2.toNatClampNeg kr.toNatClampNeg = z2.toNatClampNeg := Nat.min_eq_left (by rw [kn, zn]; omega)
        have m2 : min (z2 + 1).toNatClampNeg kr.toNatClampNeg = z2.toNatClampNeg + 1 := by rw [en]; exact Nat.min_eq_left (by rw [kn, zn]; omega)
        rw [m1] at e18 e19
        obtain ⟨⟨r7, u8⟩, a7, g⟩ := bd_some g
        obtain ⟨M8, S8, F8, e8, -⟩ := layLeft_sp hI hPL hM hS hU b0 b1 h0 (by omega) a7
        have e16 : u8.1 16 = (lfX u kp.toNatClampNeg kc z2.toNatClampNeg).1 := congrArg Prod.fst e8
        have e17 : u8.1 17 = (lfX u kp.toNatClampNeg kc z2.toNatClampNeg).2 := congrArg Prod.snd e8
        have f18 := F8.1 18 (by decide)
        have f19 := F8.1 19 (by decide)
        have f20 := F8.1 20 (by decide)
        have g : (if (u8.1 18) = 0 then (GX12_layAlike_0_65 (LX12_layAlike_0_12 n) q z2 (u8.1 16) u8) else (GX12_layAlike_0_65 (LX12_layAlike_0_12 n) q z2 (if (u8.1 19) < (u8.1 16) then (u8.1 16) else (u8.1 19)) u8)) = some (r, v') := g
        rw [f18, f19] at g
        have fin : ∀ (w : SX), FrM ([18, 19, 20], [], [], []) u8 w → IM w → w.1 18 = v.1 18 + 1 → w.1 19 = alF (lfX u kp.toNatClampNeg kc) z2.toNatClampNeg → w.1 20 = alT (lfX u kp.toNatClampNeg kc) z2.toNatClampNeg → LX12_layAlike_0_12 n q (z2 + 1) w = some (r, v') → MR u v' ∧ SPv u (spX u kc) v' ∧ FrM mdX12_layAlike_0 v v' ∧ (v'.1 18).toInt = (kr.toNatClampNeg : Nat) ∧ ∀ m : Nat, kr.toNatClampNeg = m + 1 → v'.1 19 = alF (lfX u kp.toNatClampNeg kc) m ∧ v'.1 20 = alT (lfX u kp.toNatClampNeg kc) m := fun w Fw Jw w18 w19 w20 k => by
          have e18' : (v.1 18 + 1).toInt = (v.1 18).toInt + 1 := addc_t (by decide) (by rw [e18, zn]; omega) (by rw [e18, zn]; omega)
          obtain ⟨q1, q2, q3, q4, q5⟩ := ih (z2 + 1) w (MR_md Jw Fw (by decide) M8) (SPv_fr (Fw.2.1 16 (by decide)) (Fw.2.1 17 (by decide)) S8) (by rw [Fw.1 15 (by decide), F8.1 15 (by decide)]; exact e15) (by rw [et]; omega) (by rw [m2, w18, e18', e18]; rfl) (fun m hm => by
            rw [m2] at hm
            have hm : z2.toNatClampNeg = m := by omega
            rw [← hm]
            exact ⟨w19, w20⟩) k
          exact ⟨q1, q2, FrM_tr (FrM_tr (FrM_tr FrM_rf F8 (by decide)) Fw (by decide)) q3 (by decide), q4, q5⟩
        by_cases cz : v.1 18 = 0
        · rw [if_pos cz] at g
          have z0 : z2.toNatClampNeg = 0 := by
            have cz9 : (v.1 18).toInt = (0 : Int) := eqI cz
            omega
          unfold GX12_layAlike_0_65 at g
          obtain ⟨u10, i10, g⟩ := lt_some g
          have c10 : u10.1 18 = 0 := by rw [i10]; exact f18.trans cz
          rw [if_pos c10] at g
          unfold GX12_layAlike_0_94 at g
          obtain ⟨u12, i12, g⟩ := lt_some g
          obtain ⟨u14, i14, g⟩ := lt_some g
          refine fin u14 ?_ ?_ ?_ ?_ ?_ g
          · rw [i14, i12, i10]
            exact FrM_sI (FrM_sI (FrM_sI FrM_rf (by decide)) (by decide)) (by decide)
          · rw [i14, i12, i10]
            exact (StM_sIf (md := ([18, 19, 20], [], [], [])) (StM_sIf (StM_sIf (StM_rf M8.1) (by decide) rfl rfl) (by decide) rfl rfl) (by decide) rfl rfl).1
          · rw [i14, i12, i10]
            show u8.1 18 + 1 = _
            rw [f18]
          · rw [i14, i12, i10]
            show u8.1 16 = _
            rw [e16, z0]
            rfl
          · rw [i14, i12, i10]
            show u8.1 17 = _
            rw [e17, z0]
            rfl
        · rw [if_neg cz] at g
          obtain ⟨m, hm⟩ : ∃ m : Nat, z2.toNatClampNeg = m + 1 := ⟨z2.toNatClampNeg - 1, by
            have cz9 : ¬ (v.1 18).toInt = (0 : Int) := neI cz
            omega⟩
          obtain ⟨p19, p20⟩ := e19 m hm
          unfold GX12_layAlike_0_65 at g
          obtain ⟨u10, i10, g⟩ := lt_some g
          have c10 : ¬ u10.1 18 = 0 := by rw [i10]; exact fun z => cz (f18.symm.trans z)
          rw [if_neg c10] at g
          unfold GX12_layAlike_0_94 at g
          obtain ⟨u12, i12, g⟩ := lt_some g
          obtain ⟨u14, i14, g⟩ := lt_some g
          refine fin u14 ?_ ?_ ?_ ?_ ?_ g
          · rw [i14, i12, i10]
            exact FrM_sI (FrM_sI (FrM_sI FrM_rf (by decide)) (by decide)) (by decide)
          · rw [i14, i12, i10]
            exact (StM_sIf (md := ([18, 19, 20], [], [], [])) (StM_sIf (StM_sIf (StM_rf M8.1) (by decide) rfl rfl) (by decide) rfl rfl) (by decide) rfl rfl).1
          · rw [i14, i12, i10]
            show u8.1 18 + 1 = _
            rw [f18]
          · rw [i14, i12, i10]
            show (if v.1 19 < u8.1 16 then u8.1 16 else v.1 19) = _
            rw [p19, e16, hm]
            rfl
          · rw [i14, i12, i10]
            show (if u8.1 17 < u8.1 20 then u8.1 17 else u8.1 20) = _
            rw [f20, p20, e17, hm]
            rfl
      · rw [if_neg cd] at g
        have hge : kr.toInt ≤ z2.toInt := by
          rcases Int.lt_or_le z2.toInt kr.toInt with z | z
          · exact absurd (UpTo_dn hs13 hr (i := z2.toNatClampNeg) (by rw [zn]; omega)) (nleI cd)
          · exact z
        have m1 : min z2.toNatClampNeg kr.toNatClampNeg = kr.toNatClampNeg := Nat.min_eq_right (by rw [kn, zn]; omega)
        have m2 : min (z2 + 1).toNatClampNeg kr.toNatClampNeg = kr.toNatClampNeg := by rw [en]; exact Nat.min_eq_right (by rw [kn, zn]; omega)
        rw [m1] at e18 e19
        have g : LX12_layAlike_0_12 n q (z2 + 1) v = some (r, v') := g
        exact ih (z2 + 1) v hM hS e15 (by rw [et]; omega) (by rw [m2]; exact e18) (by rw [m2]; exact e19) g
/-- the reference's ALIKE as known in q -/
theorem layAlike_sp {q kp kr kc r : Int32} {u v v' : SX} (hI : IX u) (hPL : PL u) (hM : MR u v) (e15 : v.1 15 = u.1 13) (hU : UpTo (u.2.1 25) q (u.1 8) kp) (hc : UpTo (u.2.1 34) q (u.1 12) kc) (hr : UpTo (u.2.1 37) q (u.1 13) kr) (b0 : 0 ≤ q.toInt) (b1 : q.toInt ≤ 120) (h : fX12_layAlike_0 q v = some (r, v')) : MR u v' ∧ FrM mdX12_layAlike_0 v v' ∧ v'.1 18 = kr ∧ ∀ m : Nat, kr.toNatClampNeg = m + 1 → v'.1 19 = alF (lfX u kp.toNatClampNeg kc.toNatClampNeg) m ∧ v'.1 20 = alT (lfX u kp.toNatClampNeg kc.toNatClampNeg) m := by
  unfold fX12_layAlike_0 at h
  obtain ⟨⟨r1, v2⟩, a1, h⟩ := bd_some h
  obtain ⟨M2, S2, f2, g2⟩ := layOf_SP hM b0 b1 hc a1
  have s2 : StM mdX12_laySpansOf_0 v v2 := (Tot_at (tfX12_laySpansOf_0 q v hM.1 ⟨b0, b1⟩) a1).1
  obtain ⟨v4, i4, h⟩ := lt_some h
  have F4 : FrM ([18], [], [], []) v2 v4 := by
    rw [i4]
    exact FrM_sI FrM_rf (by decide)
  have J4 : IM v4 := by
    rw [i4]
    exact (StM_sIf (md := ([18], [], [], [])) (StM_rf M2.1) (by decide) rfl rfl).1
  have M4 := MR_md J4 F4 (by decide) M2
  have z18 : v4.1 18 = 0 := by rw [i4]; rfl
  generalize (5000 : Nat) = N1 at h
  obtain ⟨q1, -, q3, q4, q5⟩ := alk_L hI hPL hM.2.2.2.2.2 hU hr b0 b1 N1 0 v4 M4 (SPv_fr (F4.2.1 16 (by decide)) (F4.2.1 17 (by decide)) S2) (by rw [F4.1 15 (by decide), f2]; exact e15) (by decide) (by
    rw [z18]
    show (0 : Int) = ((min 0 _ : Nat) : Int)
    rw [Nat.zero_min]
    rfl) (fun m hm => by
    have hm : min 0 kr.toNatClampNeg = m + 1 := hm
    rw [Nat.zero_min] at hm
    omega) h
  refine ⟨q1, FrM_tr (FrM_tr (FrM_tr FrM_rf s2.2 (by decide)) F4 (by decide)) q3 (by decide), Int32.toInt.inj ?_, q5⟩
  have k0 := hr.1
  rw [q4]
  show ((kr.toInt.toNat : Nat) : Int) = _
  omega
def OKa (u : SX) (x1 x2 : Int32) : Prop := 0 ≤ x1.toInt ∧ x1.toInt ≤ (u.1 0).toInt ∧ 0 ≤ x2.toInt ∧ x2.toInt ≤ 1
theorem alikeX {x1 x2 r : Int32} {u u' : SX} (h : fX11_alike_0 x1 x2 u = some (r, u')) : (¬ OKa u x1 x2 ∧ r = -100000000 ∧ u' = u) ∨ (OKa u x1 x2 ∧ ∃ (s t : Int32) (w : SX), fX7_recall_7 x1 u = some (s, w) ∧ fX1_compare_8 w = some (t, u') ∧ r = if t = 0 then -100000000 else if x2 = 0 then u'.1 17 else u'.1 18) := by
  unfold fX11_alike_0 at h
  have no : some ((-100000000 : Int32), u) = some (r, u') → r = -100000000 ∧ u' = u := fun g => by
    have e : (-100000000 : Int32) = r ∧ u = u' := by cases g; exact ⟨rfl, rfl⟩
    exact ⟨e.1.symm, e.2.symm⟩
  obtain ⟨⟨r1, u2⟩, a1, h⟩ := bd_some h
  obtain ⟨e1, k1⟩ := isDayi a1
  rw [e1] at h
  have h : (if r1 = 0 then (some ((-100000000), u)) else ((fX11_isEither x2).bind fun r4 => (if r4 = 0 then (some ((-100000000), u)) else ((fX7_recall_7 x1 u).bind fun q => match q with | (r7, u8) => ((fX1_compare_8  u8).bind fun q => match q with | (r10, u11) => (if r10 = 0 then (some ((-100000000), u11)) else (if x2 = 0 then (some (u11.1 17, u11)) else (some (u11.1 18, u11))))))))) = some (r, u') := h
  rcases k1 with ⟨z, k1⟩ | ⟨z, k1, k1'⟩
  · rw [if_pos z] at h
    exact Or.inl ⟨fun q => k1 ⟨q.1, q.2.1⟩, no h⟩
  · rw [if_neg (ne01 z)] at h
    obtain ⟨r4, a4, h⟩ := bd_some h
    rcases eith a4 with ⟨z, k4⟩ | ⟨z, k4, k4'⟩
    · rw [if_pos z] at h
      exact Or.inl ⟨fun q => k4 ⟨q.2.2.1, q.2.2.2⟩, no h⟩
    · rw [if_neg (ne01 z)] at h
      obtain ⟨⟨r7, u8⟩, a7, h⟩ := bd_some h
      obtain ⟨⟨r10, u11⟩, a10, h⟩ := bd_some h
      have h : (if r10 = 0 then (some ((-100000000), u11)) else (if x2 = 0 then (some (u11.1 17, u11)) else (some (u11.1 18, u11)))) = some (r, u') := h
      have e : (if r10 = 0 then -100000000 else if x2 = 0 then u11.1 17 else u11.1 18) = r ∧ u11 = u' := by
        by_cases d : r10 = 0
        · rw [if_pos d] at h ⊢
          cases h
          exact ⟨rfl, rfl⟩
        · rw [if_neg d] at h ⊢
          by_cases d2 : x2 = 0
          · rw [if_pos d2] at h ⊢
            cases h
            exact ⟨rfl, rfl⟩
          · rw [if_neg d2] at h ⊢
            cases h
            exact ⟨rfl, rfl⟩
      rw [e.2] at a10 e
      exact Or.inr ⟨⟨k1, k1', k4, k4'⟩, r7, r10, u8, a7, a10, e.1.symm⟩
theorem alikeM {x1 x2 r : Int32} {v v' : SX} (h : fX12_alike_0 x1 x2 v = some (r, v')) : (¬ (0 ≤ x1.toInt ∧ x1.toInt ≤ (v.1 1).toInt ∧ 0 ≤ x2.toInt ∧ x2.toInt ≤ 1) ∧ r = -100000000) ∨ ((0 ≤ x1.toInt ∧ x1.toInt ≤ (v.1 1).toInt ∧ 0 ≤ x2.toInt ∧ x2.toInt ≤ 1) ∧ ∃ s : Int32, fX12_layAlike_0 x1 (sI v 0 0) = some (s, v') ∧ r = if v'.1 18 = 0 then -100000000 else if v'.1 19 ≤ v'.1 20 then (if x2 = 0 then v'.1 19 else v'.1 20) else -100000000) := by
  unfold fX12_alike_0 at h
  obtain ⟨v1, e1, h⟩ := lt_some h
  rw [← e1]
  have f1 : v1.1 1 = v.1 1 := by rw [e1]; rfl
  clear e1
  rw [← f1]
  have no : ∀ w : SX, some ((-100000000 : Int32), w) = some (r, v') → r = -100000000 := fun w g => by
    cases g; rfl
  obtain ⟨r3, a3, h⟩ := bd_some h
  rcases inn a3 with ⟨z, k3⟩ | ⟨z, k3, k3'⟩
  · rw [if_pos z] at h
    exact Or.inl ⟨fun q => k3 ⟨q.1, q.2.1⟩, no _ h⟩
  · rw [if_neg (ne01 z)] at h
    obtain ⟨r6, a6, h⟩ := bd_some h
    rcases inn a6 with ⟨z, k6⟩ | ⟨z, k6, k6'⟩
    · rw [if_pos z] at h
      exact Or.inl ⟨fun q => k6 ⟨q.2.2.1, q.2.2.2⟩, no _ h⟩
    · rw [if_neg (ne01 z)] at h
      obtain ⟨⟨r9, u10⟩, a9, h⟩ := bd_some h
      have h : (if (u10.1 18) = 0 then (some ((-100000000), u10)) else (if (u10.1 19) ≤ (u10.1 20) then (if x2 = 0 then (some (u10.1 19, u10)) else (some (u10.1 20, u10))) else (some ((-100000000), u10)))) = some (r, v') := h
      have e : (if u10.1 18 = 0 then -100000000 else if u10.1 19 ≤ u10.1 20 then (if x2 = 0 then u10.1 19 else u10.1 20) else -100000000) = r ∧ u10 = v' := by
        by_cases d : u10.1 18 = 0
        · rw [if_pos d] at h ⊢
          cases h
          exact ⟨rfl, rfl⟩
        · rw [if_neg d] at h ⊢
          by_cases d2 : u10.1 19 ≤ u10.1 20
          · rw [if_pos d2] at h ⊢
            by_cases d3 : x2 = 0
            · rw [if_pos d3] at h ⊢
              cases h
              exact ⟨rfl, rfl⟩
            · rw [if_neg d3] at h ⊢
              cases h
              exact ⟨rfl, rfl⟩
          · rw [if_neg d2] at h ⊢
            cases h
            exact ⟨rfl, rfl⟩
      rw [e.2] at a9 e
      exact Or.inr ⟨⟨k3, k3', k6, k6'⟩, r9, a9, e.1.symm⟩
/-- both sides' ALIKE as known in a day -/
theorem alike_both {q s s' t : Int32} {u w u' v v' : SX} (hK : RK u) (hM : MR u v) (e15 : v.1 15 = u.1 13) (b0 : 0 ≤ q.toInt) (b1 : q.toInt ≤ 120) (a1 : fX7_recall_7 q u = some (s, w)) (a2 : fX1_compare_8 w = some (t, u')) (a3 : fX12_layAlike_0 q v = some (s', v')) : RK u' ∧ FrM mdX11_alike_0 u u' ∧ MR u v' ∧ FrM mdX12_layAlike_0 v v' ∧ v'.1 18 = u'.1 14 ∧ ((u'.1 14 = 0 ∧ t = 0) ∨ (¬ u'.1 14 = 0 ∧ v'.1 19 = u'.1 17 ∧ v'.1 20 = u'.1 18 ∧ ((t = 0 ∧ ¬ v'.1 19 ≤ v'.1 20) ∨ (t = 1 ∧ v'.1 19 ≤ v'.1 20)))) := by
  obtain ⟨Rw, Kw, Fw, k15, k16, U10, U11, U14⟩ := recall7_sp hK.1 hK.2 b0 b1 a1
  have sc : StX mdX1_compare_8 w u' := (Tot_at (tfX1_compare_8 w Rw.1) a2).1
  have K' := RK_md sc (by decide) ⟨Rw, Kw⟩
  have F' : FrM mdX11_alike_0 u u' := FrM_tr (FrM_tr FrM_rf Fw (by decide)) sc.2 (by decide)
  obtain ⟨M', Fv, e18, e19⟩ := layAlike_sp hK.1.1 hK.1.2.2.1 hM e15 U10 U11 U14 b0 b1 a3
  have f14 : u'.1 14 = w.1 14 := sc.2.1 14 (by decide)
  refine ⟨K', F', M', Fv, e18.trans f14.symm, ?_⟩
  rcases compare_sp Rw.1 a2 with ⟨z, et, -⟩ | ⟨z, -, e17, e18', et⟩
  · exact Or.inl ⟨f14.trans z, et⟩
  · have z9 : ¬ (w.1 14).toInt = (0 : Int) := neI z
    have k0 := U14.1
    obtain ⟨m, hm⟩ : ∃ m : Nat, (w.1 14).toNatClampNeg = m + 1 := ⟨(w.1 14).toNatClampNeg - 1, by
      have : (w.1 14).toNatClampNeg = (w.1 14).toInt.toNat := rfl
      omega⟩
    obtain ⟨p19, p20⟩ := e19 m hm
    have el : lfX w = lfX u := lfX_md Fw (by decide)
    have ag := al_cg (L := fun i => (w.2.1 38 i, w.2.1 39 i)) (L' := lfX u (w.1 10).toNatClampNeg (w.1 11).toNatClampNeg) m (fun i hi => by
      have hi' : (i : Int) < (w.1 14).toInt := by
        have : (w.1 14).toNatClampNeg = (w.1 14).toInt.toNat := rfl
        omega
      have := Kw.2.2.2 i hi'
      rw [k15, k16, el] at this
      exact this)
    rw [hm] at e17 e18'
    have q19 : v'.1 19 = u'.1 17 := by
      rw [p19, e17]
      exact ag.1.symm
    have q20 : v'.1 20 = u'.1 18 := by
      rw [p20, e18']
      exact ag.2.symm
    refine Or.inr ⟨by rw [f14]; exact z, q19, q20, ?_⟩
    rw [q19, q20]
    by_cases c : u'.1 18 < u'.1 17
    · rw [if_pos c] at et
      have c9 := ltI c
      exact Or.inl ⟨et, fun y => by have y9 := leI y; omega⟩
    · rw [if_neg c] at et
      have c9 := nltI c
      exact Or.inr ⟨et, Int32.le_iff_toInt_le.mpr (by omega)⟩
theorem alike_eq {x1 x2 r r' : Int32} {u u' v v' : SX} (hK : RK u) (ht : Tie u v) (hM : MR u v) (h1 : fX11_alike_0 x1 x2 u = some (r, u')) (h2 : fX12_alike_0 x1 x2 v = some (r', v')) : r = r' ∧ RK u' := by
  have b120 : (u.1 0).toInt ≤ (120 : Int) := (hK.1.1.1 0).2
  rcases alikeX h1 with ⟨n1, g1, g2⟩ | ⟨o1, s1, t1, w, a1, a2, g1⟩
  · rcases alikeM h2 with ⟨n2, g3⟩ | ⟨o2, -⟩
    · rw [g1, g3, g2]
      exact ⟨rfl, hK⟩
    · rw [← ht.1] at o2
      exact absurd o2 n1
  · rcases alikeM h2 with ⟨n2, -⟩ | ⟨o2, s2, a3, g3⟩
    · rw [← ht.1] at n2
      exact absurd o1 n2
    · obtain ⟨q1, q2, q3, q4⟩ := o1
      obtain ⟨K', -, -, -, e18, hc⟩ := alike_both hK (MR_0 hM) (show (sI v 0 0).1 15 = u.1 13 from ht.2.2.2.2.2.symm) q1 (by omega) a1 a2 a3
      refine ⟨?_, K'⟩
      rw [g1, g3, e18]
      rcases hc with ⟨z, et⟩ | ⟨z, e19, e20, hc⟩
      · rw [if_pos et, if_pos z]
      · rw [if_neg z]
        rcases hc with ⟨et, c⟩ | ⟨et, c⟩
        · rw [if_pos et, if_neg c]
        · rw [if_neg (ne01 et), if_pos c, e19, e20]
theorem days_up {x1 r : Int32} {u u' : SX} (hI : IX u) (h1 : fX11_days_0 x1 u = some (r, u')) : (u.1 0).toInt ≤ (u'.1 0).toInt := by
  have b0 : (0 : Int) ≤ (u.1 0).toInt := (hI.1 0).1
  have b1 : (u.1 0).toInt ≤ (120 : Int) := (hI.1 0).2
  unfold fX11_days_0 at h1
  obtain ⟨q1, a1, h1⟩ := bd_some h1
  by_cases c : q1 = 0
  · rw [if_pos c] at h1
    have e2 : u = u' := by cases h1; rfl
    rw [← e2]
    exact Int.le_refl _
  · rw [if_neg c] at h1
    have hb := (Tot_at (tfX11_within x1 0 60) a1).2 (neI c)
    have hb1 : (0 : Int) ≤ x1.toInt := hb.1
    have hb2 : x1.toInt ≤ (60 : Int) := hb.2
    by_cases d : u.1 0 + x1 ≤ 120
    · rw [if_pos d] at h1
      obtain ⟨u4, e4, h1⟩ := lt_some h1
      have e2 : u4 = u' := by cases h1; rfl
      rw [← e2, e4]
      show _ ≤ (u.1 0 + x1).toInt
      rw [add_t (by omega) (by omega)]
      omega
    · rw [if_neg d] at h1
      have e2 : u = u' := by cases h1; rfl
      rw [← e2]
      exact Int.le_refl _
