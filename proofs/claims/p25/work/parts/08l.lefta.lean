/-! What is told anew leaves what is kept as it is. -/
theorem CW_md {u u' : SX} {mx : MD} (hx : FrM mx u u') (c1 : ([5, 13].all fun k => !mx.1.contains k) = true) (c2 : ([36, 41].all fun k => !mx.2.1.contains k) = true) (h : CW u) : CW u' := by
  have f : ∀ k, k ∈ [5, 13] → u'.1 k = u.1 k := fun k hk => hx.1 k (not_b (List.all_eq_true.mp c1 k hk))
  have g : ∀ k, k ∈ [36, 41] → u'.2.1 k = u.2.1 k := fun k hk => hx.2.1 k (not_b (List.all_eq_true.mp c2 k hk))
  exact CW_fr (f 13 (by decide)) (f 5 (by decide)) (g 36 (by decide)) (g 41 (by decide)) hx.2.2.2.2 h
theorem lfX_cg {u u' : SX} {kp kc n : Nat} (hw : ∀ i, i < kp → ww u' n i = ww u n i) (hs : ∀ i, i < kp → spX u' kc i = spX u kc i) (h40 : u'.2.1 40 n = u.2.1 40 n) : lfX u' kp kc n = lfX u kp kc n := by
  unfold lfX lfS
  rw [h40, sumW_cg (g := fun i => mxS (ww u' n i) (spX u' kc i)) (g' := fun i => mxS (ww u n i) (spX u kc i)) kp (fun i hi => by rw [hw i hi, hs i hi]), sumW_cg (g := fun i => mnS (ww u' n i) (spX u' kc i)) (g' := fun i => mnS (ww u n i) (spX u kc i)) kp (fun i hi => by rw [hw i hi, hs i hi])]
theorem CK_up {u u' : SX} (hI : IX u) (h14 : u'.1 14 = u.1 14) (h15 : u'.1 15 = u.1 15) (h16 : u'.1 16 = u.1 16) (h38 : u'.2.1 38 = u.2.1 38) (h39 : u'.2.1 39 = u.2.1 39) (a13 : (u.1 13).toInt ≤ (u'.1 13).toInt) (a8 : (u.1 8).toInt ≤ (u'.1 8).toInt) (a12 : (u.1 12).toInt ≤ (u'.1 12).toInt) (hw : ∀ n i : Nat, (n : Int) < (u.1 13).toInt → (i : Int) < (u.1 8).toInt → ww u' n i = ww u n i) (hs : ∀ k i : Nat, (k : Int) ≤ (u.1 12).toInt → (i : Int) < (u.1 8).toInt → spX u' k i = spX u k i) (h40 : ∀ n : Nat, (n : Int) < (u.1 13).toInt → u'.2.1 40 n = u.2.1 40 n) (hK : CK u) : CK u' := by
  obtain ⟨k1, k2, k3, k4⟩ := hK
  have b15 : (0 : Int) ≤ (u.1 15).toInt := (hI.1 15).1
  have b16 : (0 : Int) ≤ (u.1 16).toInt := (hI.1 16).1
  refine ⟨by rw [h14]; omega, by rw [h15]; omega, by rw [h16]; omega, fun n hn => ?_⟩
  rw [h14] at hn
  rw [h15, h16, h38, h39, k4 n hn]
  refine (lfX_cg (fun i hi => hw n i (by omega) ?_) (fun i hi => hs _ i ?_ ?_) (h40 n (by omega))).symm
  · have hi : i < (u.1 15).toInt.toNat := hi
    omega
  · show (((u.1 16).toInt.toNat : Nat) : Int) ≤ _
    omega
  · have hi : i < (u.1 15).toInt.toNat := hi
    omega
theorem spX_fr {u u' : SX} {k i : Nat} (hF : u'.2.1 29 i = u.2.1 29 i) (hT : u'.2.1 30 i = u.2.1 30 i) (h31 : u'.2.1 31 = u.2.1 31) (h32 : u'.2.1 32 = u.2.1 32) (h33 : u'.2.1 33 = u.2.1 33) (h35 : u'.2.1 35 = u.2.1 35) : spX u' k i = spX u k i := by
  unfold spX
  rw [h31, h32, h33, h35]
  exact rpS_cg hF hT k (fun j _ => ⟨rfl, rfl, rfl, Iff.rfl⟩)
theorem partK {x1 x2 x3 x4 r : Int32} {u u' : SX} (hI : IX u) (hx : FrM mdX11_part_0 u u') (hK : CK u) (h1 : fX11_part_0 x1 x2 x3 x4 u = some (r, u')) : CK u' := by
  rcases partX hI h1 with ⟨-, e⟩ | ⟨-, b8, -, k8, k24, -, k29, k30, -⟩
  · rw [e]
    exact hK
  · have b0 : (0 : Int) ≤ (u.1 8).toInt := (hI.1 8).1
    have e8 : (u.1 8 + 1).toInt = (u.1 8).toInt + 1 := addc_t (by decide) (by omega) (by omega)
    have kn : (u.1 8).toNatClampNeg = (u.1 8).toInt.toNat := rfl
    refine CK_up hI (hx.1 14 (by decide)) (hx.1 15 (by decide)) (hx.1 16 (by decide)) (hx.2.1 38 (by decide)) (hx.2.1 39 (by decide)) (by rw [hx.1 13 (by decide)]; exact Int.le_refl _) (by rw [k8, e8]; omega) (by rw [hx.1 12 (by decide)]; exact Int.le_refl _) (fun n i _ hi => ?_) (fun k i _ hi => ?_) (fun n _ => by rw [hx.2.1 40 (by decide)]) hK
    · unfold ww
      rw [wv_fr (hx.2.1 36 (by decide)) hx.2.2.2.2, k24, upd_ne (by rw [kn]; omega)]
    · exact spX_fr (by rw [k29, upd_ne (by rw [kn]; omega)]) (by rw [k30, upd_ne (by rw [kn]; omega)]) (hx.2.1 31 (by decide)) (hx.2.1 32 (by decide)) (hx.2.1 33 (by decide)) (hx.2.1 35 (by decide))
theorem evK {u u' : SX} {p a b c : Int32} {md : MD} (hI : IX u) (hx : FrM md u u') (cf : ([8, 13, 14, 15, 16].all fun k => !md.1.contains k) = true) (cr : ([24, 29, 30, 36, 38, 39, 40].all fun k => !md.2.1.contains k) = true) (b9 : (u.1 12).toInt < 30) (k12 : u'.1 12 = u.1 12 + 1) (k31 : u'.2.1 31 = upd (u.2.1 31) (u.1 12).toNatClampNeg p) (k32 : u'.2.1 32 = upd (u.2.1 32) (u.1 12).toNatClampNeg a) (k33 : u'.2.1 33 = upd (u.2.1 33) (u.1 12).toNatClampNeg b) (k35 : u'.2.1 35 = upd (u.2.1 35) (u.1 12).toNatClampNeg c) (hK : CK u) : CK u' := by
  have f : ∀ k, k ∈ [8, 13, 14, 15, 16] → u'.1 k = u.1 k := fun k hk => hx.1 k (not_b (List.all_eq_true.mp cf k hk))
  have g : ∀ k, k ∈ [24, 29, 30, 36, 38, 39, 40] → u'.2.1 k = u.2.1 k := fun k hk => hx.2.1 k (not_b (List.all_eq_true.mp cr k hk))
  have b0 : (0 : Int) ≤ (u.1 12).toInt := (hI.1 12).1
  have e12 : (u.1 12 + 1).toInt = (u.1 12).toInt + 1 := addc_t (by decide) (by omega) (by omega)
  refine CK_up hI (f 14 (by decide)) (f 15 (by decide)) (f 16 (by decide)) (g 38 (by decide)) (g 39 (by decide)) (by rw [f 13 (by decide)]; exact Int.le_refl _) (by rw [f 8 (by decide)]; exact Int.le_refl _) (by rw [k12, e12]; omega) (fun n i _ _ => ?_) (fun k i hk _ => ?_) (fun n _ => by rw [g 40 (by decide)]) hK
  · rw [ww_fr (g 24 (by decide)) (g 36 (by decide)) hx.2.2.2.2]
  · exact spX_app (g 29 (by decide)) (g 30 (by decide)) k31 k32 k33 k35 k i (by show k ≤ (u.1 12).toInt.toNat; omega)
theorem doneK {x1 r r' : Int32} {u u' v v' : SX} (hI : IX u) (hC : CX u) (hS : TieS u v) (hx : FrM mdX11_done_0 u u') (er : r = r') (hK : CK u) (h1 : fX11_done_0 x1 u = some (r, u')) (h2 : fX12_done_0 x1 v = some (r', v')) : CK u' := by
  rcases doneX h1 with ⟨-, e⟩ | ⟨z1, a0, a1, s, h⟩
  · rw [e]
    exact hK
  · rcases doneM h2 with ⟨z2, -⟩ | ⟨-, -, -, -, s', w, w13, -, -, -, b⟩
    · exact absurd (z1.symm.trans (er.trans z2)) (by decide)
    · obtain ⟨m30, -⟩ := hapM b
      rw [w13, ← hS.1] at m30
      have c : u.1 12 < 30 := Int32.lt_iff_toInt_lt.mpr (show (u.1 12).toInt < (30 : Int) from m30)
      obtain ⟨q1, q2, q3, q4, -, q6, -⟩ := carry_sp hI hC hS c a0 a1 h
      exact evK hI hx (by decide) (by decide) m30 q1 q2 q3 q4 q6 hK
theorem cleanK {x1 x2 x3 x4 r r' : Int32} {u u' v v' : SX} (hI : IX u) (hS : TieS u v) (hx : FrM mdX11_clean_0 u u') (er : r = r') (hK : CK u) (h1 : fX11_clean_0 x1 x2 x3 x4 u = some (r, u')) (h2 : fX12_clean_0 x1 x2 x3 x4 v = some (r', v')) : CK u' := by
  rcases cleanX h1 with ⟨-, e⟩ | ⟨z1, -, -, -, s, w, wf, wr, -, h⟩
  · rw [e]
    exact hK
  · rcases cleanM h2 with ⟨z2, -⟩ | ⟨-, s', w', b, -⟩
    · exact absurd (z1.symm.trans (er.trans z2)) (by decide)
    · obtain ⟨m30, -⟩ := hapM b
      have m30 : (v.1 13).toInt < 30 := m30
      rw [← hS.1] at m30
      have c : w.1 12 < 30 := by
        rw [wf 12 rfl]
        exact Int32.lt_iff_toInt_lt.mpr (show (u.1 12).toInt < (30 : Int) from m30)
      obtain ⟨q1, q2, q3, q4, -, q6, -⟩ := change_sp c h
      rw [wf 12 rfl] at q1 q2 q3 q4 q6
      rw [wr 31 rfl] at q2
      rw [wr 32 rfl] at q3
      rw [wr 33 rfl] at q4
      rw [wr 35 rfl] at q6
      exact evK hI hx (by decide) (by decide) m30 q1 q2 q3 q4 q6 hK
theorem readK {x1 x2 x3 x4 x5 x6 r : Int32} {u u' : SX} (hI : IX u) (hI' : IX u') (hx : FrM mdX11_read_0 u u') (hPL : PL u) (hL : LVX u) (hW : CW u) (hK : CK u) (h1 : fX11_read_0 x1 x2 x3 x4 x5 x6 u = some (r, u')) : CW u' ∧ CK u' := by
  rcases readX hI h1 with ⟨-, e⟩ | ⟨-, n9, -, e, -, -, k13, -, kb, -, k40⟩
  · rw [e]
    exact ⟨hW, hK⟩
  · have b0 : (0 : Int) ≤ (u.1 13).toInt := (hI.1 13).1
    have e13 : (u.1 13 + 1).toInt = (u.1 13).toInt + 1 := addc_t (by decide) (by omega) (by omega)
    have kn : (u.1 13).toNatClampNeg = (u.1 13).toInt.toNat := rfl
    rw [kn] at kb
    have tr : ∀ (n g : Nat) (x : Int32), (n : Int) < (u.1 13).toInt → WSay u n g x → WSay u' n g x := fun n g x hn hw => by
      obtain ⟨k, hh, t1, t2, t3, t4⟩ := hw
      have hX := hx.2.2.2.2
      refine ⟨k, hh, ?_, ?_, ?_, ?_⟩
      · unfold tQ at t1 ⊢
        rw [hX]
        exact t1
      · unfold tN at t2 ⊢
        rw [hX]
        exact t2
      · unfold tL at t3 ⊢
        rw [hX]
        exact t3
      · have eC : tC u' k = tC u k := by unfold tC; rw [hX]
        have eL : tL u' k = tL u k := by unfold tL; rw [hX]
        rw [eC, eL]
        exact SAY_rho (fun j hj => (kb _ (by omega)).symm) t4
    refine ⟨fun n g hn hg => ?_, ?_⟩
    · rw [hx.2.1 41 (by decide), hx.1 5 (by decide), k13, e13]
      rcases hW n g hn hg with q | ⟨q1, q2, q3⟩
      · exact Or.inl q
      · exact Or.inr ⟨by omega, q2, tr n g _ q1 q3⟩
    · refine CK_up hI (hx.1 14 (by decide)) (hx.1 15 (by decide)) (hx.1 16 (by decide)) (hx.2.1 38 (by decide)) (hx.2.1 39 (by decide)) (by rw [k13, e13]; omega) (by rw [hx.1 8 (by decide)]; exact Int.le_refl _) (by rw [hx.1 12 (by decide)]; exact Int.le_refl _) (fun n i hn hi => ?_) (fun k i _ hi => ?_) (fun n hn => ?_) hK
      · unfold ww
        rw [hx.2.1 24 (by decide)]
        obtain ⟨p0, p1⟩ := hPL i hi
        obtain ⟨x, hw⟩ := hL n (u.2.1 24 i).toNatClampNeg hn (by show (((u.2.1 24 i).toInt.toNat : Nat) : Int) < _; omega)
        rw [wv_eq hI hw, wv_eq hI' (tr n _ x hn hw)]
      · exact spX_fr (by rw [hx.2.1 29 (by decide)]) (by rw [hx.2.1 30 (by decide)]) (hx.2.1 31 (by decide)) (hx.2.1 32 (by decide)) (hx.2.1 33 (by decide)) (hx.2.1 35 (by decide))
      · rw [k40, upd_ne (by rw [kn]; omega)]
/-- what was on the shelf of laws stays there -/
def TXo (u uA : SX) : Prop := (∀ g : Nat, (g : Int) < (u.1 5).toInt → tQ uA 15 g = tQ u 15 g) ∧ tN u ≤ tN uA ∧ ∀ k, k < tN u → tL uA k = tL u k ∧ tC uA k = tC u k
theorem TXo_rf {u uA : SX} (h : uA.2.2.2.2 = u.2.2.2.2) : TXo u uA := by
  unfold TXo tQ tN tL tC
  rw [h]
  exact ⟨fun _ _ => rfl, Nat.le_refl _, fun _ _ => ⟨rfl, rfl⟩⟩
theorem TXo_new {u uA wf : SX} {N R I F : Nat} {g : Nat → Int32} {X : Int32} (wX : wf.2.2.2.2 = u.2.2.2.2) (eA : uA = sI (sT (uNew (sI wf 1 0) N g) R I (tN wf)) F X) (hR : Nat.beq 15 R = true → ∀ j : Nat, (j : Int) < (u.1 5).toInt → ¬ j = I) : TXo u uA := by
  have eN : tN uA = tN u + 1 := by
    rw [eA]
    show wf.2.2.2.2.1 + 1 = u.2.2.2.2.1 + 1
    rw [wX]
  refine ⟨fun j hj => ?_, by rw [eN]; omega, fun k hk => ⟨?_, ?_⟩⟩
  · rw [eA]
    show (bif Nat.beq 15 R then (if j = I then some (tN wf) else wf.2.2.2.2.2.1 15 j) else wf.2.2.2.2.2.1 15 j) = _
    rw [wX]
    cases z : Nat.beq 15 R with
    | false => rfl
    | true =>
      show (if j = I then some (tN wf) else u.2.2.2.2.2.1 15 j) = _
      rw [if_neg (hR z j hj)]
      try rfl
  · rw [eA]
    show (if k = wf.2.2.2.2.1 then N else wf.2.2.2.2.2.2.1 k) = _
    rw [wX, if_neg (by show ¬ k = tN u; omega)]
    try rfl
  · rw [eA]
    show (if k = wf.2.2.2.2.1 then g else wf.2.2.2.2.2.2.2 k) = _
    rw [wX, if_neg (by show ¬ k = tN u; omega)]
    try rfl
theorem textO0 {u uA : SX} {r : Int32} (hI : IX u) (h1 : TextY 0 u r uA) : TXo u uA := by
  by_cases cf : u.1 5 < 12
  · obtain ⟨⟨rf, wf⟩, hf, hq⟩ := tfX5_faultBy_2_as0 u hI
    have hs : StX mdX5_faultBy_2_as0 u wf := hq.1
    have wX : wf.2.2.2.2 = u.2.2.2.2 := hs.2.2.2.2.2
    have w5 : wf.1 5 = u.1 5 := hs.2.1 5 (by decide)
    by_cases cr : rf = -1
    · have all : ∀ (kT : Nat → SX → Option (Int32 × SX)), fX11_textK kT 0 u = kT 3 (sI wf 1 0) := fun kT => by
        rw [textN0 cf hf, if_pos cr]
      rcases h1 with h | h | h | h
      · rw [all] at h
        cases h
      · obtain ⟨w9, g, h, er, eA, hg⟩ := h
        rw [all] at h
        have h : some ((7 : Int32), sI wf 1 0) = some (7, w9) := h
        have ew : sI wf 1 0 = w9 := by cases h; rfl
        rw [← ew] at eA
        refine TXo_new wX eA (fun _ j hj z => ?_)
        have z : j = (wf.1 5).toNatClampNeg := z
        rw [w5] at z
        have z : j = (u.1 5).toInt.toNat := z
        omega
      · obtain ⟨w9, g, h, er, eA, hg⟩ := h
        rw [all] at h
        have h : (none : Option (Int32 × SX)) = some (7, w9) := h
        cases h
      · obtain ⟨w9, g, h, er, eA, hg⟩ := h
        rw [all] at h
        have h : (none : Option (Int32 × SX)) = some (7, w9) := h
        cases h
    · have all : ∀ (kT : Nat → SX → Option (Int32 × SX)), fX11_textK kT 0 u = some (-1, wf) := fun kT => by
        rw [textN0 cf hf, if_neg cr]
      have refd : uA = wf := by
        rcases h1 with h | ⟨w, g, h, -⟩ | ⟨w, g, h, -⟩ | ⟨w, g, h, -⟩
        · rw [all] at h
          cases h
          rfl
        all_goals (rw [all] at h; exact absurd (show (-1 : Int32) = 7 from congrArg Prod.fst (Option.some.inj h)) (by decide))
      rw [refd]
      exact TXo_rf wX
  · have refd : uA = u := by
      rcases h1 with h | ⟨w, g, h, -⟩ | ⟨w, g, h, -⟩ | ⟨w, g, h, -⟩
      · rw [textF0 cf] at h
        cases h
        rfl
      all_goals (rw [textF0 cf] at h; exact absurd (show (-1 : Int32) = 7 from congrArg Prod.fst (Option.some.inj h)) (by decide))
    rw [refd]
    exact TXo_rf rfl
theorem textO1 {u uA : SX} {r : Int32} (hI : IX u) (h1 : TextY 1 u r uA) : TXo u uA := by
  by_cases cf : u.1 6 < 6
  · obtain ⟨⟨rf, wf⟩, hf, hq⟩ := tfX5_faultBy_2_as1 u hI
    have hs : StX mdX5_faultBy_2_as1 u wf := hq.1
    have wX : wf.2.2.2.2 = u.2.2.2.2 := hs.2.2.2.2.2
    have w5 : wf.1 5 = u.1 5 := hs.2.1 5 (by decide)
    by_cases cr : rf = -1
    · have all : ∀ (kT : Nat → SX → Option (Int32 × SX)), fX11_textK kT 1 u = kT 4 (sI wf 1 0) := fun kT => by
        rw [textN1 cf hf, if_pos cr]
      rcases h1 with h | h | h | h
      · rw [all] at h
        cases h
      · obtain ⟨w9, g, h, er, eA, hg⟩ := h
        rw [all] at h
        have h : (none : Option (Int32 × SX)) = some (7, w9) := h
        cases h
      · obtain ⟨w9, g, h, er, eA, hg⟩ := h
        rw [all] at h
        have h : some ((7 : Int32), sI wf 1 0) = some (7, w9) := h
        have ew : sI wf 1 0 = w9 := by cases h; rfl
        rw [← ew] at eA
        exact TXo_new wX eA (fun z => absurd z (by decide))
      · obtain ⟨w9, g, h, er, eA, hg⟩ := h
        rw [all] at h
        have h : (none : Option (Int32 × SX)) = some (7, w9) := h
        cases h
    · have all : ∀ (kT : Nat → SX → Option (Int32 × SX)), fX11_textK kT 1 u = some (-1, wf) := fun kT => by
        rw [textN1 cf hf, if_neg cr]
      have refd : uA = wf := by
        rcases h1 with h | ⟨w, g, h, -⟩ | ⟨w, g, h, -⟩ | ⟨w, g, h, -⟩
        · rw [all] at h
          cases h
          rfl
        all_goals (rw [all] at h; exact absurd (show (-1 : Int32) = 7 from congrArg Prod.fst (Option.some.inj h)) (by decide))
      rw [refd]
      exact TXo_rf wX
  · have refd : uA = u := by
      rcases h1 with h | ⟨w, g, h, -⟩ | ⟨w, g, h, -⟩ | ⟨w, g, h, -⟩
      · rw [textF1 cf] at h
        cases h
        rfl
      all_goals (rw [textF1 cf] at h; exact absurd (show (-1 : Int32) = 7 from congrArg Prod.fst (Option.some.inj h)) (by decide))
    rw [refd]
    exact TXo_rf rfl
theorem textO2 {u uA : SX} {r : Int32} (hI : IX u) (h1 : TextY 2 u r uA) : TXo u uA := by
  by_cases cf : u.1 7 < 6
  · obtain ⟨⟨rf, wf⟩, hf, hq⟩ := tfX5_faultBy_2_as2 u hI
    have hs : StX mdX5_faultBy_2_as2 u wf := hq.1
    have wX : wf.2.2.2.2 = u.2.2.2.2 := hs.2.2.2.2.2
    have w5 : wf.1 5 = u.1 5 := hs.2.1 5 (by decide)
    by_cases cr : rf = -1
    · have all : ∀ (kT : Nat → SX → Option (Int32 × SX)), fX11_textK kT 2 u = kT 5 (sI wf 1 0) := fun kT => by
        rw [textN2 cf hf, if_pos cr]
      rcases h1 with h | h | h | h
      · rw [all] at h
        cases h
      · obtain ⟨w9, g, h, er, eA, hg⟩ := h
        rw [all] at h
        have h : (none : Option (Int32 × SX)) = some (7, w9) := h
        cases h
      · obtain ⟨w9, g, h, er, eA, hg⟩ := h
        rw [all] at h
        have h : (none : Option (Int32 × SX)) = some (7, w9) := h
        cases h
      · obtain ⟨w9, g, h, er, eA, hg⟩ := h
        rw [all] at h
        have h : some ((7 : Int32), sI wf 1 0) = some (7, w9) := h
        have ew : sI wf 1 0 = w9 := by cases h; rfl
        rw [← ew] at eA
        exact TXo_new wX eA (fun z => absurd z (by decide))
    · have all : ∀ (kT : Nat → SX → Option (Int32 × SX)), fX11_textK kT 2 u = some (-1, wf) := fun kT => by
        rw [textN2 cf hf, if_neg cr]
      have refd : uA = wf := by
        rcases h1 with h | ⟨w, g, h, -⟩ | ⟨w, g, h, -⟩ | ⟨w, g, h, -⟩
        · rw [all] at h
          cases h
          rfl
        all_goals (rw [all] at h; exact absurd (show (-1 : Int32) = 7 from congrArg Prod.fst (Option.some.inj h)) (by decide))
      rw [refd]
      exact TXo_rf wX
  · have refd : uA = u := by
      rcases h1 with h | ⟨w, g, h, -⟩ | ⟨w, g, h, -⟩ | ⟨w, g, h, -⟩
      · rw [textF2 cf] at h
        cases h
        rfl
      all_goals (rw [textF2 cf] at h; exact absurd (show (-1 : Int32) = 7 from congrArg Prod.fst (Option.some.inj h)) (by decide))
    rw [refd]
    exact TXo_rf rfl
theorem textO {x1 r : Int32} {u uA : SX} (hI : IX u) (h1 : TextY x1 u r uA) : TXo u uA := by
  by_cases c0 : x1 = 0
  · rw [c0] at h1
    exact textO0 hI h1
  · by_cases c1 : x1 = 1
    · rw [c1] at h1
      exact textO1 hI h1
    · by_cases c2 : x1 = 2
      · rw [c2] at h1
        exact textO2 hI h1
      · have eA : uA = u := by
          rcases h1 with h | ⟨w, g, h, -⟩ | ⟨w, g, h, -⟩ | ⟨w, g, h, -⟩
          · rw [text_no c0 c1 c2] at h
            cases h
            rfl
          all_goals (rw [text_no c0 c1 c2] at h; exact absurd (show (-1 : Int32) = 7 from congrArg Prod.fst (Option.some.inj h)) (by decide))
        rw [eA]
        exact TXo_rf rfl
theorem textK {x1 r : Int32} {u uA : SX} (hI : IX u) (hI' : IX uA) (hf : ∀ k, mdT.1.contains k = false → uA.1 k = u.1 k) (hr : ∀ k, mdT.2.1.contains k = false → uA.2.1 k = u.2.1 k) (h5 : (u.1 5).toInt ≤ (uA.1 5).toInt) (hPL : PL u) (hL : LVX u) (hW : CW u) (hK : CK u) (h1 : TextY x1 u r uA) : CW uA ∧ CK uA := by
  obtain ⟨o1, o2, o3⟩ := textO hI h1
  have tr : ∀ (n g : Nat) (x : Int32), (g : Int) < (u.1 5).toInt → WSay u n g x → WSay uA n g x := fun n g x hg hw => by
    obtain ⟨k, hh, t1, t2, t3, t4⟩ := hw
    obtain ⟨e1, e2⟩ := o3 k t2
    refine ⟨k, hh, by rw [o1 g hg]; exact t1, by omega, by rw [e1]; exact t3, ?_⟩
    rw [e1, e2, hr 36 (by decide)]
    exact t4
  refine ⟨fun n g hn hg => ?_, ?_⟩
  · rw [hr 41 (by decide), hf 13 (by decide)]
    rcases hW n g hn hg with q | ⟨q1, q2, q3⟩
    · exact Or.inl q
    · exact Or.inr ⟨q1, by omega, tr n g _ q2 q3⟩
  · refine CK_up hI (hf 14 (by decide)) (hf 15 (by decide)) (hf 16 (by decide)) (hr 38 (by decide)) (hr 39 (by decide)) (by rw [hf 13 (by decide)]; exact Int.le_refl _) (by rw [hf 8 (by decide)]; exact Int.le_refl _) (by rw [hf 12 (by decide)]; exact Int.le_refl _) (fun n i hn hi => ?_) (fun k i _ hi => ?_) (fun n hn => by rw [hr 40 (by decide)]) hK
    · unfold ww
      rw [hr 24 (by decide)]
      obtain ⟨p0, p1⟩ := hPL i hi
      have hg : (((u.2.1 24 i).toNatClampNeg : Nat) : Int) < (u.1 5).toInt := by show (((u.2.1 24 i).toInt.toNat : Nat) : Int) < _; omega
      obtain ⟨x, hw⟩ := hL n (u.2.1 24 i).toNatClampNeg hn hg
      rw [wv_eq hI hw, wv_eq hI' (tr n _ x hg hw)]
    · exact spX_fr (by rw [hr 29 (by decide)]) (by rw [hr 30 (by decide)]) (hr 31 (by decide)) (hr 32 (by decide)) (hr 33 (by decide)) (hr 35 (by decide))
