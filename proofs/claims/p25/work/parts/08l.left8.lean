/-! judge; plan keeps the worths. -/
theorem shr_t {x b : Int32} {n : Nat} (h0 : b.toInt = (n : Int)) (hn : n ≤ 12) : (x >>> (b &&& 31)).toInt = x.toInt / 2 ^ n := by
  have eb : b = Int32.ofNat n := Int32.toInt.inj (by rw [h0, Int32.toInt_ofNat_of_lt (by omega)])
  have key : ∀ m : Fin 13, ((Int32.ofNat m.val &&& 31).toBitVec.smod 32).toNat = m.val := by decide
  have k := key ⟨n, by omega⟩
  have k : ((Int32.ofNat n &&& 31).toBitVec.smod 32).toNat = n := k
  rw [eb]
  show (x.toBitVec.sshiftRight' ((Int32.ofNat n &&& 31).toBitVec.smod 32)).toInt = _
  show (x.toBitVec.sshiftRight ((Int32.ofNat n &&& 31).toBitVec.smod 32).toNat).toInt = _
  rw [k, BitVec.toInt_sshiftRight, Int.shiftRight_eq_div_pow]
  rfl
theorem shl1_e {b : Int32} {n : Nat} (h0 : b.toInt = (n : Int)) (hn : n ≤ 12) : (1 <<< (b &&& 31) : Int32).toInt = 2 ^ n := by
  have eb : b = Int32.ofNat n := Int32.toInt.inj (by rw [h0, Int32.toInt_ofNat_of_lt (by omega)])
  have key : ∀ m : Fin 13, (1 <<< (Int32.ofNat m.val &&& 31) : Int32).toInt = 2 ^ m.val := by decide
  rw [eb]
  exact key ⟨n, by omega⟩
theorem open_iff {x b : Int32} {n : Nat} (hb : b.toInt = (n : Int)) (hn : n ≤ 12) (h0 : 0 ≤ x.toInt) : x >>> (b &&& 31) = 0 ↔ x < 1 <<< (b &&& 31) := by
  have e1 := shr_t (x := x) hb hn
  have e2 := shl1_e hb hn
  have p : (0 : Int) < 2 ^ n := Int.pow_pos (by decide)
  constructor
  · intro h
    rw [h] at e1
    have e1 : (0 : Int) = x.toInt / 2 ^ n := e1
    have k := Int.lt_ediv_add_one_mul_self x.toInt p
    rw [← e1] at k
    refine Int32.lt_iff_toInt_lt.mpr ?_
    rw [e2]
    omega
  · intro h
    have h9 := ltI h
    rw [e2] at h9
    refine Int32.toInt.inj ?_
    rw [e1, Int.ediv_eq_zero_of_lt h0 h9]
    rfl
theorem bit01 (y : Int32) : (y &&& 1 = 0 ∧ ¬ y &&& 1 = 1) ∨ (¬ y &&& 1 = 0 ∧ y &&& 1 = 1) := by
  obtain ⟨a, b⟩ := and1_t y
  generalize y &&& 1 = z at *
  by_cases c : z = 0
  · exact Or.inl ⟨c, by rw [c]; decide⟩
  · have c9 : ¬ z.toInt = (0 : Int) := neI c
    exact Or.inr ⟨c, Int32.toInt.inj (by show z.toInt = (1 : Int); omega)⟩
theorem open_L {u v : SX} (hI : IX u) (hp : TieP u v) {x : Int32} : ∀ (n m : Nat) (z : Int32) (r r' : Int32) (u' v' : SX), 0 ≤ z.toInt → LX3_areOpen_10_17 n x z u = some (r, u') → LX12_isRow_0_18 m x z v = some (r', v') → u' = u ∧ v' = v ∧ r = r' := by
  intro n
  induction n with
  | zero => intro m z r r' u' v' _ h; cases h
  | succ n ih =>
    intro m z r r' u' v' h0 h1 h2
    cases m with
    | zero => cases h2
    | succ m =>
      have b29 : (u.1 29).toInt ≤ (10 : Int) := (hI.1 29).2
      have h1 : (if (u.1 29) ≤ z then (gd (isB 1) (some (1, u))) else (if ((x >>> (z &&& 31)) &&& 1) = 0 then (GX3_areOpen_10_43 (LX3_areOpen_10_17 n) x z u) else ((fX3_isDone_10 z u).bind fun q => match q with | (r3, u4) => (if r3 = 0 then (GX3_areOpen_10_43 (LX3_areOpen_10_17 n) x z u4) else (gd (isB 0) (some (0, u4))))))) = some (r, u') := h1
      have h2 : (if (v.1 21) ≤ z then (gd (isB 1) (some (1, v))) else (if ((x >>> (z &&& 31)) &&& 1) = 1 then (gd (inb z 10) (if (v.2.1 33 z.toNatClampNeg) = (-1) then (GX12_isRow_0_47 (LX12_isRow_0_18 m) x z v) else (gd (isB 0) (some (0, v))))) else (GX12_isRow_0_47 (LX12_isRow_0_18 m) x z v))) = some (r', v') := h2
      rw [← hp.2.1] at h2
      by_cases c : u.1 29 ≤ z
      · rw [if_pos c] at h1 h2
        have e1 : (1 : Int32) = r ∧ u = u' := by cases (gd_some h1).2; exact ⟨rfl, rfl⟩
        have e2 : (1 : Int32) = r' ∧ v = v' := by cases (gd_some h2).2; exact ⟨rfl, rfl⟩
        exact ⟨e1.2.symm, e2.2.symm, e1.1.symm.trans e2.1⟩
      · rw [if_neg c] at h1 h2
        have c9 := nleI c
        have et : (z + 1).toInt = z.toInt + 1 := addc_t (by decide) (by omega) (by omega)
        have nxt : LX3_areOpen_10_17 n x (z + 1) u = some (r, u') → LX12_isRow_0_18 m x (z + 1) v = some (r', v') → u' = u ∧ v' = v ∧ r = r' := fun k1 k2 => ih m (z + 1) r r' u' v' (by rw [et]; omega) k1 k2
        rcases bit01 (x >>> (z &&& 31)) with ⟨p1, p2⟩ | ⟨p1, p2⟩
        · rw [if_pos p1] at h1
          rw [if_neg p2] at h2
          exact nxt h1 h2
        · rw [if_neg p1] at h1
          rw [if_pos p2] at h2
          obtain ⟨⟨r3, u4⟩, a3, h1⟩ := bd_some h1
          obtain ⟨e4, k4⟩ := isDoi a3
          rw [e4] at h1
          have h1 : (if r3 = 0 then (GX3_areOpen_10_43 (LX3_areOpen_10_17 n) x z u) else (gd (isB 0) (some (0, u)))) = some (r, u') := h1
          obtain ⟨-, h2⟩ := gd_some h2
          have tp := (hp.2.2.2 z.toNatClampNeg (by show ((z.toInt.toNat : Nat) : Int) < _; omega)).1
          rcases k4 with ⟨y, k4⟩ | ⟨y, k4⟩
          · rw [if_pos y] at h1
            rw [if_pos (tp.mp k4)] at h2
            exact nxt h1 h2
          · rw [if_neg (ne01 y)] at h1
            rw [if_neg (fun q => k4 (tp.mpr q))] at h2
            have e1 : (0 : Int32) = r ∧ u = u' := by cases (gd_some h1).2; exact ⟨rfl, rfl⟩
            have e2 : (0 : Int32) = r' ∧ v = v' := by cases (gd_some h2).2; exact ⟨rfl, rfl⟩
            exact ⟨e1.2.symm, e2.2.symm, e1.1.symm.trans e2.1⟩
theorem open_eq {u v u' v' : SX} (hI : IX u) (hp : TieP u v) {x r r' : Int32} (h1 : fX3_areOpen_10 x u = some (r, u')) (h2 : fX12_isRow_0 x v = some (r', v')) : u' = u ∧ v' = v ∧ r = r' := by
  unfold fX3_areOpen_10 at h1
  unfold fX12_isRow_0 at h2
  have b0 : (0 : Int) ≤ (u.1 29).toInt := (hI.1 29).1
  have b29 : (u.1 29).toInt ≤ (10 : Int) := (hI.1 29).2
  have z0 : ∀ {w1 w2 : SX}, w1 = u → w2 = v → gd (isB 0) (some ((0 : Int32), w1)) = some (r, u') → gd (isB 0) (some ((0 : Int32), w2)) = some (r', v') → u' = u ∧ v' = v ∧ r = r' := fun {w1 w2} q1 q2 k1 k2 => by
    have e1 : (0 : Int32) = r ∧ w1 = u' := by cases (gd_some k1).2; exact ⟨rfl, rfl⟩
    have e2 : (0 : Int32) = r' ∧ w2 = v' := by cases (gd_some k2).2; exact ⟨rfl, rfl⟩
    exact ⟨e1.2.symm.trans q1, e2.2.symm.trans q2, e1.1.symm.trans e2.1⟩
  by_cases c : x < 0
  · rw [if_pos c] at h1 h2
    exact z0 rfl rfl h1 h2
  · rw [if_neg c] at h1 h2
    have c9 : ¬ x.toInt < (0 : Int) := nltI c
    rw [← hp.2.1] at h2
    have hb : (u.1 29).toInt = (((u.1 29).toInt.toNat : Nat) : Int) := by omega
    have iff := open_iff (x := x) hb (by omega) (by omega)
    by_cases d : x >>> (u.1 29 &&& 31) = 0
    · rw [if_pos d] at h1
      rw [if_pos (iff.mp d)] at h2
      generalize (5000 : Nat) = N1 at h1 h2
      exact open_L hI hp N1 N1 0 r r' u' v' (by decide) h1 h2
    · rw [if_neg d] at h1
      rw [if_neg (fun q => d (iff.mpr q))] at h2
      exact z0 rfl rfl h1 h2
theorem judge_L {x x2 : Int32} : ∀ (n m : Nat) (z : Int32) (S : Nat → Int32 × Int32) (u v : SX) (r r' : Int32) (u' v' : SX), RW u → MR u v → v.1 1 = u.1 0 → u.1 32 = x2 → 0 ≤ x2.toInt → x2.toInt < (u.1 13).toInt → 0 ≤ z.toInt → (∀ i : Nat, (i : Int) < (u.1 8).toInt → (u.2.1 57 i, u.2.1 58 i) = S i) → (∀ i : Nat, (i : Int) < (u.1 8).toInt → (S i).1.toInt ≤ (S i).2.toInt) → SPv u S v → u.1 33 = wdS u S (u.1 8).toNatClampNeg x2.toNatClampNeg → LX3_widthBehind_10_2 n x z u = some (r, u') → LX12_judged_0_10 GX12_judged_0_55 m x x2 z v = some (r', v') → r = r' ∧ RW u' ∧ FrM mdX3_widthBehind_10 u u' := by
  intro n
  induction n with
  | zero => intro m z S u v r r' u' v' _ _ _ _ _ _ _ _ _ _ _ h; cases h
  | succ n ih =>
    intro m z S u v r r' u' v' hR hM e1 e32 a0 a1 h0 hr ho hs hw h1 h2
    cases m with
    | zero => cases h2
    | succ m =>
      have hI := hR.1
      have hp := hM.2.1
      have hS := hM.2.2.1
      have b29 : (u.1 29).toInt ≤ (10 : Int) := (hI.1 29).2
      have h1 : (if (u.1 29) ≤ z then (some (u.1 33, u)) else (if ((x >>> (z &&& 31)) &&& 1) = 0 then (GX3_widthBehind_10_55 (LX3_widthBehind_10_2 n) x z u) else (gd (inb z 10) ((fX3_rowSpread_10 (u.2.1 48 z.toNatClampNeg) u).bind fun q => match q with | (r2, u3) => ((fX3_cut_10 z u3).bind fun q => match q with | (r5, u6) => (gd (inb z 10) ((fX3_rowSpread_10 (u6.2.1 48 z.toNatClampNeg) u6).bind fun q => match q with | (r9, u10) => (lt (sI u10 33 ((u6.1 33) + (r9 - r2))) fun u12 => (GX3_widthBehind_10_55 (LX3_widthBehind_10_2 n) x z u12))))))))) = some (r, u') := h1
      have h2 : (if (v.1 21) ≤ z then (GX12_judged_0_55 x2 v) else (if ((x >>> (z &&& 31)) &&& 1) = 1 then (gd (inb z 10) (gd (inb z 10) (gd (inb z 10) ((fX12_cutDown_0 (v.2.1 29 z.toNatClampNeg) (v.2.1 30 z.toNatClampNeg) (v.2.1 31 z.toNatClampNeg) v).bind fun q => match q with | (r7, u8) => (GX12_judged_0_49 (LX12_judged_0_10 GX12_judged_0_55 m) x x2 z u8))))) else (GX12_judged_0_49 (LX12_judged_0_10 GX12_judged_0_55 m) x x2 z v))) = some (r', v') := h2
      rw [← hp.2.1] at h2
      by_cases c : u.1 29 ≤ z
      · rw [if_pos c] at h1 h2
        have q1 : u.1 33 = r ∧ u = u' := by cases h1; exact ⟨rfl, rfl⟩
        unfold GX12_judged_0_55 at h2
        obtain ⟨⟨r10, v11⟩, a10, h2⟩ := bd_some h2
        have q2 : r10 = r' := by cases h2; rfl
        obtain ⟨-, -, ew⟩ := wide_sp hI hR.2.2.1 hM hs e1 a0 a1 a10
        rw [← q1.1, ← q1.2, ← q2, ew]
        exact ⟨hw, hR, FrM_rf⟩
      · rw [if_neg c] at h1 h2
        have c9 := nleI c
        have et : (z + 1).toInt = z.toInt + 1 := addc_t (by decide) (by omega) (by omega)
        rcases bit01 (x >>> (z &&& 31)) with ⟨p1, p2⟩ | ⟨p1, p2⟩
        · rw [if_pos p1] at h1
          rw [if_neg p2] at h2
          exact ih m (z + 1) S u v r r' u' v' hR hM e1 e32 a0 a1 (by rw [et]; omega) hr ho hs hw h1 h2
        · rw [if_neg p1] at h1
          rw [if_pos p2] at h2
          obtain ⟨l1, l2, l3, -, l5, l6, l7, -⟩ := hS.2.2.2.1 z.toNatClampNeg (by show ((z.toInt.toNat : Nat) : Int) < _; omega)
          obtain ⟨-, h1⟩ := gd_some h1
          obtain ⟨⟨r2, u3⟩, a2, h1⟩ := bd_some h1
          obtain ⟨R3, F3, s2⟩ := rowSpread_sp hR (by rw [e32]; exact a0) (by rw [e32]; exact a1) l6 l7 a2
          obtain ⟨⟨r5, u6⟩, a5, h1⟩ := bd_some h1
          have s6 : StX mdX3_cut_10 u3 u6 := (Tot_at (tfX3_cut_10 z u3 R3.1 ⟨h0, by omega⟩) a5).1
          obtain ⟨c1, c2, c3⟩ := cutX a5
          have R6 := RW_md s6.1 s6.2 (by decide) (by decide) (by decide) R3
          have F6 : FrM mdX3_widthBehind_10 u u6 := FrM_tr (FrM_tr FrM_rf F3 (by decide)) s6.2 (by decide)
          obtain ⟨-, h1⟩ := gd_some h1
          obtain ⟨⟨r9, u10⟩, a9, h1⟩ := bd_some h1
          rw [F6.2.1 48 (by decide)] at a9
          obtain ⟨R10, F10, s9⟩ := rowSpread_sp R6 (by rw [F6.1 32 (by decide), e32]; exact a0) (by rw [F6.1 32 (by decide), F6.1 13 (by decide), e32]; exact a1) l6 (by rw [F6.1 8 (by decide)]; exact l7) a9
          obtain ⟨u12, i12, h1⟩ := lt_some h1
          have s12 : StX ([33], [], [], []) u10 u12 := by
            rw [i12]
            exact StX_sIf (StX_rf R10.1) (by decide) rfl rfl
          have R12 := RW_md s12.1 s12.2 (by decide) (by decide) (by decide) R10
          have F12 : FrM mdX3_widthBehind_10 u u12 := FrM_tr (FrM_tr F6 F10 (by decide)) s12.2 (by decide)
          have M12 : MR u12 v := MR_u F12 (by decide) (by decide) hM
          obtain ⟨-, h2⟩ := gd_some h2
          obtain ⟨-, h2⟩ := gd_some h2
          obtain ⟨-, h2⟩ := gd_some h2
          obtain ⟨⟨r7, v8⟩, b7, h2⟩ := bd_some h2
          rw [← l1, ← l2, ← l3] at b7
          have t8 : StM mdX12_cutDown_0 v v8 := (Tot_at (tfX12_cutDown_0 _ _ _ v hM.1 ⟨l6, by have : (u.1 8).toInt ≤ (12 : Int) := (hI.1 8).2; omega⟩ ⟨(hI.2.1 50 _).1, (hI.2.1 50 _).2⟩) b7).1
          obtain ⟨d1, d2, d3⟩ := cut_sp b7
          have M8 : MR u12 v8 := MR_md t8.1 t8.2 (by decide) M12
          have f8 := F12.1 8 (by decide)
          have ew : ww u12 = ww u := ww_fr (F12.2.1 24 (by decide)) (F12.2.1 36 (by decide)) F12.2.2.2.2
          have ew6 : ww u6 = ww u := ww_fr (F6.2.1 24 (by decide)) (F6.2.1 36 (by decide)) F6.2.2.2.2
          have r3 : ∀ i, (u3.2.1 57 i, u3.2.1 58 i) = (u.2.1 57 i, u.2.1 58 i) := fun i => by rw [F3.2.1 57 (by decide), F3.2.1 58 (by decide)]
          have S6 : ∀ i : Nat, (i : Int) < (u.1 8).toInt → (u6.2.1 57 i, u6.2.1 58 i) = if (u.2.1 48 z.toNatClampNeg).toNatClampNeg = i then stepS 0 (u.2.1 49 z.toNatClampNeg) (u.2.1 50 z.toNatClampNeg) (S i) else S i := fun i hi => by
            rw [c3 i, r3 i, hr i hi, F3.2.1 48 (by decide), F3.2.1 49 (by decide), F3.2.1 50 (by decide)]
          have hk : ((u.2.1 48 z.toNatClampNeg).toNatClampNeg : Int) < (u.1 8).toInt := by
            show (((u.2.1 48 z.toNatClampNeg).toInt.toNat : Nat) : Int) < _
            omega
          have fin := ih m (z + 1) (fun i => if (u.2.1 48 z.toNatClampNeg).toNatClampNeg = i then stepS 0 (u.2.1 49 z.toNatClampNeg) (u.2.1 50 z.toNatClampNeg) (S i) else S i) u12 v8 r r' u' v' R12 M8 (by
            rw [F12.1 0 (by decide), d1]
            exact e1) (by rw [F12.1 32 (by decide)]; exact e32) a0 (by rw [F12.1 13 (by decide)]; exact a1) (by rw [et]; omega) (fun i hi => by
            rw [f8] at hi
            rw [s12.2.2.1 57 (by decide), s12.2.2.1 58 (by decide), F10.2.1 57 (by decide), F10.2.1 58 (by decide)]
            exact S6 i hi) (fun i hi => by
            rw [f8] at hi
            show (if (u.2.1 48 z.toNatClampNeg).toNatClampNeg = i then stepS 0 (u.2.1 49 z.toNatClampNeg) (u.2.1 50 z.toNatClampNeg) (S i) else S i).1.toInt ≤ (if (u.2.1 48 z.toNatClampNeg).toNatClampNeg = i then stepS 0 (u.2.1 49 z.toNatClampNeg) (u.2.1 50 z.toNatClampNeg) (S i) else S i).2.toInt
            by_cases ci : (u.2.1 48 z.toNatClampNeg).toNatClampNeg = i
            · rw [if_pos ci]
              exact stepS_le (ho i hi) l5
            · rw [if_neg ci]
              exact ho i hi) (fun i hi => by
            rw [f8] at hi
            show _ = if (u.2.1 48 z.toNatClampNeg).toNatClampNeg = i then stepS 0 (u.2.1 49 z.toNatClampNeg) (u.2.1 50 z.toNatClampNeg) (S i) else S i
            rw [d3 i, hs i hi]
            by_cases ci : (u.2.1 48 z.toNatClampNeg).toNatClampNeg = i
            · rw [if_pos ci, if_pos ci]
              exact cutM_eq (ho i hi) l5
            · rw [if_neg ci, if_neg ci]) (by
            have e12 : u12.1 33 = u6.1 33 + (r9 - r2) := by rw [i12]; rfl
            rw [e12]
            unfold wdS
            rw [F12.1 8 (by decide), ew]
            rw [sumW_one (p := (u.2.1 48 z.toNatClampNeg).toNatClampNeg) (g := fun i => spr (ww u x2.toNatClampNeg i) (S i)) (u.1 8).toNatClampNeg (by
              show (u.2.1 48 z.toNatClampNeg).toInt.toNat < (u.1 8).toInt.toNat
              omega) (fun i _ hn => by
              show spr _ (if _ = i then _ else _) = _
              rw [if_neg (fun q => hn q.symm)])]
            have e33 : u6.1 33 = u.1 33 := by rw [c1]; exact F3.1 33 (by decide)
            rw [e33, hw, s9, s2, ew6, F6.1 32 (by decide), e32, S6 _ hk, hr _ hk, if_pos rfl]
            show _ = _ + (spr _ (if _ = _ then _ else _) - _)
            rw [if_pos rfl]
            rfl) h1 h2
          exact ⟨fin.1, fin.2.1, FrM_tr F12 fin.2.2 (by decide)⟩
theorem spX_le {u v : SX} (hS : TieS u v) {k i : Nat} (hk : (k : Int) ≤ (u.1 12).toInt) (hi : (i : Int) < (u.1 8).toInt) : (spX u k i).1.toInt ≤ (spX u k i).2.toInt := rpS_le (hS.2.1 i hi).2.2.2.2.2.1 k (fun j hj => (hS.2.2.1 j (by omega)).2.2.2.2.2.1)
theorem judge_eq {x1 x2 r r' : Int32} {u u' v v' : SX} (hR : RW u) (hK : CK u) (ht : Tie u v) (hM : MR u v) (h1 : fX11_judge_0 x1 x2 u = some (r, u')) (h2 : fX12_judge_0 x1 x2 v = some (r', v')) : r = r' ∧ RW u' ∧ CK u' := by
  have hI := hR.1
  unfold fX11_judge_0 at h1
  unfold fX12_judge_0 at h2
  obtain ⟨v1, e1, h2⟩ := lt_some h2
  have M1 : MR u v1 := by rw [e1]; exact MR_0 hM
  have e11 : v1.1 1 = u.1 0 := by rw [e1]; exact ht.1.symm
  have t13 : v1.1 15 = u.1 13 := by rw [e1]; exact ht.2.2.2.2.2.symm
  clear e1
  obtain ⟨⟨s1, u2⟩, a1, h1⟩ := bd_some h1
  obtain ⟨⟨q3, v4⟩, b3, h2⟩ := bd_some h2
  obtain ⟨eu, ks⟩ := has7i a1
  obtain ⟨ev, kq⟩ := isRi b3
  rw [eu] at h1
  rw [ev] at h2
  rw [t13] at kq
  have same : ∀ {w2 : SX}, some ((-2 : Int32), u) = some (r, u') → some ((-2 : Int32), w2) = some (r', v') → r = r' ∧ RW u' ∧ CK u' := fun {w2} g1 g2 => by
    have x1 : (-2 : Int32) = r ∧ u = u' := by cases g1; exact ⟨rfl, rfl⟩
    have x2 : (-2 : Int32) = r' := by cases g2; rfl
    rw [← x1.1, ← x2, ← x1.2]
    exact ⟨rfl, hR, hK⟩
  have h1 : (if s1 = 0 then (some ((-2), u)) else ((fX3_areOpen_10 x1 u).bind fun q => match q with | (r4, u5) => (if r4 = 0 then (some ((-2), u5)) else ((fX3_startRow_10 x2 (u5.1 0) u5).bind fun q => match q with | (r7, u8) => ((fX3_widthBehind_10 x1 u8).bind fun q => match q with | (r10, u11) => (some (r10, u11))))))) = some (r, u') := h1
  have h2 : (if q3 = 0 then (some ((-2), v1)) else ((fX12_isRow_0 x1 v1).bind fun q => match q with | (r6, u7) => (if r6 = 0 then (some ((-2), u7)) else ((fX12_judged_0 x1 x2 u7).bind fun q => match q with | (r9, u10) => (some (r9, u10)))))) = some (r', v') := h2
  rcases ks with ⟨z, kn⟩ | ⟨z, k0, k1⟩
  · have zq : q3 = 0 := by
      rcases kq with ⟨y, -⟩ | ⟨-, y0, y1⟩
      · exact y
      · exact absurd ⟨y0, y1⟩ kn
    rw [if_pos z] at h1
    rw [if_pos zq] at h2
    exact same h1 h2
  · have zq : q3 = 1 := by
      rcases kq with ⟨-, y⟩ | ⟨y, -⟩
      · exact absurd ⟨k0, k1⟩ y
      · exact y
    rw [if_neg (ne01 z)] at h1
    rw [if_neg (ne01 zq)] at h2
    obtain ⟨⟨s4, u5⟩, a4, h1⟩ := bd_some h1
    obtain ⟨⟨q6, v7⟩, b6, h2⟩ := bd_some h2
    obtain ⟨eu5, ev7, es⟩ := open_eq hI M1.2.1 a4 b6
    rw [eu5] at h1
    rw [ev7, ← es] at h2
    have h1 : (if s4 = 0 then (some ((-2), u)) else ((fX3_startRow_10 x2 (u.1 0) u).bind fun q => match q with | (r7, u8) => ((fX3_widthBehind_10 x1 u8).bind fun q => match q with | (r10, u11) => (some (r10, u11))))) = some (r, u') := h1
    have h2 : (if s4 = 0 then (some ((-2), v1)) else ((fX12_judged_0 x1 x2 v1).bind fun q => match q with | (r9, u10) => (some (r9, u10)))) = some (r', v') := h2
    by_cases c4 : s4 = 0
    · rw [if_pos c4] at h1 h2
      exact same h1 h2
    · rw [if_neg c4] at h1 h2
      obtain ⟨⟨r7, u8⟩, a7, h1⟩ := bd_some h1
      obtain ⟨⟨r10, u11⟩, a10, h1⟩ := bd_some h1
      have er : r10 = r ∧ u11 = u' := by cases h1; exact ⟨rfl, rfl⟩
      obtain ⟨⟨r9, v10⟩, b9, h2⟩ := bd_some h2
      have er' : r9 = r' := by cases h2; rfl
      obtain ⟨R8, F8, e32, U10, U11, S8, W8⟩ := startRow_sp hR k0 k1 a7
      have hS := M1.2.2.1
      have e10 : u8.1 10 = u.1 8 := UpTo_uq hS.2.2.2.2.2 U10 (UpTo_now hI hS)
      have e11' : u8.1 11 = u.1 12 := UpTo_uq hS.2.2.2.2.1 U11 (UpTo_nowC hI hS)
      rw [e10, e11'] at W8
      rw [e10, e11'] at S8
      unfold fX12_judged_0 at b9
      obtain ⟨⟨r1, w2⟩, b1, b9⟩ := bd_some b9
      have e13 : v1.1 13 = u.1 12 := hS.1.symm
      rw [e13] at b1
      obtain ⟨M2, S2, f2⟩ := laySp_SP M1 (hI.1 12).1 (Int.le_refl _) b1
      have M8 : MR u8 w2 := MR_u F8 (by decide) (by decide) M2
      have f8 := F8.1 8 (by decide)
      have ew : ww u8 = ww u := ww_fr (F8.2.1 24 (by decide)) (F8.2.1 36 (by decide)) F8.2.2.2.2
      have a10 : fX3_widthBehind_10 x1 u8 = some (r10, u11) := a10
      unfold fX3_widthBehind_10 at a10
      have b9 : LX12_judged_0_10 GX12_judged_0_55 5000 x1 x2 0 w2 = some (r9, v10) := b9
      generalize (5000 : Nat) = N1 at a10 b9
      have b12 : (0 : Int) ≤ (u.1 12).toInt := (hI.1 12).1
      obtain ⟨g1, g2, g3⟩ := judge_L N1 N1 0 (spX u (u.1 12).toNatClampNeg) u8 w2 r10 r9 u11 v10 R8 M8 (by rw [F8.1 0 (by decide), f2]; exact e11) e32 k0 (by rw [F8.1 13 (by decide)]; exact k1) (by decide) (fun i hi => by
        rw [f8] at hi
        exact S8 i hi) (fun i hi => by
        rw [f8] at hi
        exact spX_le hS (by show (((u.1 12).toInt.toNat : Nat) : Int) ≤ _; omega) hi) (fun i hi => by
        rw [f8] at hi
        exact S2 i hi) (by
        unfold wdS
        rw [ew, f8]
        exact W8) a10 b9
      rw [← er.1, ← er.2, ← er']
      exact ⟨g1, g2, CK_md g3 (by decide) (by decide) (CK_md F8 (by decide) (by decide) hK)⟩
def LKP (u : SX) : Prop := ∀ k : Nat, (k : Int) < (u.1 29).toInt → 0 ≤ (u.2.1 48 k).toInt ∧ (u.2.1 48 k).toInt < (u.1 8).toInt
theorem LKP_of {u v : SX} (hS : TieS u v) : LKP u := fun k hk => ⟨(hS.2.2.2.1 k hk).2.2.2.2.2.1, (hS.2.2.2.1 k hk).2.2.2.2.2.2.1⟩
theorem LKP_fr {u u' : SX} (h29 : u'.1 29 = u.1 29) (h8 : u'.1 8 = u.1 8) (h48 : u'.2.1 48 = u.2.1 48) (h : LKP u) : LKP u' := by
  unfold LKP at h ⊢
  rw [h29, h8, h48]
  exact h
/-- what the search of a row keeps -/
def RP (u : SX) : Prop := RW u ∧ LKP u ∧ 0 ≤ (u.1 32).toInt ∧ (u.1 32).toInt < (u.1 13).toInt
theorem RP_md {u u' : SX} {mx : MD} (hR : RW u') (hx : FrM mx u u') (c1 : ([8, 13, 29, 32].all fun k => !mx.1.contains k) = true) (c2 : mx.2.1.contains 48 = false) (h : RP u) : RP u' := by
  have f : ∀ k, k ∈ [8, 13, 29, 32] → u'.1 k = u.1 k := fun k hk => hx.1 k (not_b (List.all_eq_true.mp c1 k hk))
  refine ⟨hR, LKP_fr (f 29 (by decide)) (f 8 (by decide)) (hx.2.1 48 c2) h.2.1, ?_, ?_⟩
  · rw [f 32 (by decide)]
    exact h.2.2.1
  · rw [f 32 (by decide), f 13 (by decide)]
    exact h.2.2.2
theorem choose_RW : ∀ (d : Nat) (x1 x2 x3 x4 r : Int32) (u u' : SX), RP u → 0 ≤ x1.toInt → -50 ≤ x2.toInt → x2.toInt ≤ 500 → rX3chooseg d 0 x1 x2 x3 x4 u = some (r, u') → RW u' ∧ FrM mdX3_choose_10 u u' := by
  intro d
  induction d with
  | zero => intro x1 x2 x3 x4 r u u' _ _ _ _ h; cases h
  | succ d ih =>
    intro x1 x2 x3 x4 r u u' hP h0 c0 c1 h
    have hR := hP.1
    have hI := hR.1
    have b29 : (u.1 29).toInt ≤ (10 : Int) := (hI.1 29).2
    rw [rX3chooseg, if_pos rfl] at h
    unfold fX3_choose_10 at h
    have e32 : ∀ w : SX, RP w → ∀ y2 y3 y4 : Int32, -50 ≤ y2.toInt → y2.toInt ≤ 500 → GX3_choose_10_32 (rX3chooseg d) y2 y3 y4 w = some (r, u') → RW u' ∧ FrM mdX3_choose_10 w u' := fun w hw y2 y3 y4 d0 d1 k => by
      unfold GX3_choose_10_32 at k
      obtain ⟨u36, i36, k⟩ := lt_some k
      obtain ⟨u38, i38, k⟩ := lt_some k
      obtain ⟨u40, i40, k⟩ := lt_some k
      have e : u40 = u' := by cases k; rfl
      have s : StX ([30, 31, 34], [], [], []) w u' := by
        rw [← e, i40, i38, i36]
        exact StX_sIf (StX_sI (StX_sIf (StX_rf hw.1.1) (by decide) rfl rfl) (by decide) d0 d1) (by decide) rfl rfl
      exact ⟨RW_md s.1 s.2 (by decide) (by decide) (by decide) hw.1, FrM_tr FrM_rf s.2 (by decide)⟩
    by_cases c : x1 < u.1 29
    · rw [if_pos c] at h
      have c9 := ltI c
      have et : (x1 + 1).toInt = x1.toInt + 1 := addc_t (by decide) (by omega) (by omega)
      have e156 : ∀ w : SX, RP w → ∀ y4 : Int32, GX3_choose_10_156 (rX3chooseg d) x1 x2 x3 y4 w = some (r, u') → RW u' ∧ FrM mdX3_choose_10 w u' := fun w hw y4 k => by
        unfold GX3_choose_10_156 at k
        obtain ⟨⟨r4, u5⟩, a4, k⟩ := bd_some k
        have e : u5 = u' := by cases k; rfl
        rw [← e]
        exact ih (x1 + 1) x2 x3 y4 r4 w u5 hw (by rw [et]; omega) c0 c1 a4
      obtain ⟨⟨r1, u2⟩, a1, h⟩ := bd_some h
      obtain ⟨e2, -⟩ := isDoi a1
      rw [e2] at h
      have h : (if r1 = 0 then (gd (inb x1 10) (if x2 < (u.2.1 51 x1.toNatClampNeg) then (GX3_choose_10_156 (rX3chooseg d) x1 x2 x3 x4 u) else (gd (inb x1 10) (lt (u.2.1 48 x1.toNatClampNeg) fun v9 => (gd (inb v9 12) (lt (u.2.1 57 v9.toNatClampNeg) fun v12 => (gd (inb v9 12) (lt (u.2.1 58 v9.toNatClampNeg) fun v15 => ((fX3_rowSpread_10 v9 u).bind fun q => match q with | (r17, u18) => ((fX3_cut_10 x1 u18).bind fun q => match q with | (r20, u21) => (gd (inb x1 10) ((fX3_rowSpread_10 v9 u21).bind fun q => match q with | (r24, u25) => (((rX3chooseg d) 0 (x1 + 1) (x2 - (u21.2.1 51 x1.toNatClampNeg)) ((x3 + r24) - r17) (x4 ||| (1 <<< (x1 &&& 31))) u25).bind fun q => match q with | (r27, u28) => (gd (inb v9 12) (lt (sA u28 57 (upd (u28.2.1 57) v9.toNatClampNeg v12)) fun u31 => (gd (inb v9 12) (lt (sA u31 58 (upd (u31.2.1 58) v9.toNatClampNeg v15)) fun u34 => (GX3_choose_10_156 (rX3chooseg d) x1 x2 x3 x4 u34)))))))))))))))))) else (GX3_choose_10_156 (rX3chooseg d) x1 x2 x3 x4 u)) = some (r, u') := h
      by_cases c2 : r1 = 0
      · rw [if_pos c2] at h
        obtain ⟨-, h⟩ := gd_some h
        by_cases c3 : x2 < u.2.1 51 x1.toNatClampNeg
        · rw [if_pos c3] at h
          exact e156 u hP x4 h
        · rw [if_neg c3] at h
          have c39 := nltI c3
          have b51 : (0 : Int) ≤ (u.2.1 51 x1.toNatClampNeg).toInt ∧ (u.2.1 51 x1.toNatClampNeg).toInt ≤ (50 : Int) := ⟨(hI.2.1 51 _).1, (hI.2.1 51 _).2⟩
          obtain ⟨l6, l7⟩ := hP.2.1 x1.toNatClampNeg (by show ((x1.toInt.toNat : Nat) : Int) < _; omega)
          obtain ⟨-, h⟩ := gd_some h
          obtain ⟨v9, i9, h⟩ := lt_some h
          rw [← i9] at l6 l7
          obtain ⟨-, h⟩ := gd_some h
          obtain ⟨v12, i12, h⟩ := lt_some h
          obtain ⟨-, h⟩ := gd_some h
          obtain ⟨v15, i15, h⟩ := lt_some h
          obtain ⟨⟨r17, u18⟩, a17, h⟩ := bd_some h
          obtain ⟨R18, F18, -⟩ := rowSpread_sp hR hP.2.2.1 hP.2.2.2 l6 l7 a17
          obtain ⟨⟨r20, u21⟩, a20, h⟩ := bd_some h
          have s21 : StX mdX3_cut_10 u18 u21 := (Tot_at (tfX3_cut_10 x1 u18 R18.1 ⟨h0, by omega⟩) a20).1
          have R21 := RW_md s21.1 s21.2 (by decide) (by decide) (by decide) R18
          have F21 : FrM mdX3_choose_10 u u21 := FrM_tr (FrM_tr FrM_rf F18 (by decide)) s21.2 (by decide)
          have P21 : RP u21 := RP_md R21 F21 (by decide) (by decide) hP
          obtain ⟨-, h⟩ := gd_some h
          obtain ⟨⟨r24, u25⟩, a24, h⟩ := bd_some h
          obtain ⟨R25, F25, -⟩ := rowSpread_sp R21 P21.2.2.1 P21.2.2.2 l6 (by rw [F21.1 8 (by decide)]; exact l7) a24
          have F25' : FrM mdX3_choose_10 u u25 := FrM_tr F21 F25 (by decide)
          have P25 : RP u25 := RP_md R25 F25' (by decide) (by decide) hP
          obtain ⟨⟨r27, u28⟩, a27, h⟩ := bd_some h
          rw [F21.2.1 51 (by decide)] at a27
          have e51 : (x2 - u.2.1 51 x1.toNatClampNeg).toInt = x2.toInt - (u.2.1 51 x1.toNatClampNeg).toInt := sub_t (by omega) (by omega)
          obtain ⟨R28, F28⟩ := ih (x1 + 1) _ _ _ r27 u25 u28 P25 (by rw [et]; omega) (by rw [e51]; omega) (by rw [e51]; omega) a27
          obtain ⟨-, h⟩ := gd_some h
          obtain ⟨u31, i31, h⟩ := lt_some h
          obtain ⟨-, h⟩ := gd_some h
          obtain ⟨u34, i34, h⟩ := lt_some h
          have s34 : StX ([], [57, 58], [], []) u28 u34 := by
            rw [i34, i31]
            have w12 : rlX 57 ≤ v12.toInt ∧ v12.toInt ≤ rhX 57 := by rw [i12]; exact hI.2.1 57 _
            have w15 : rlX 58 ≤ v15.toInt ∧ v15.toInt ≤ rhX 58 := by rw [i15]; exact hI.2.1 58 _
            exact StX_sA (StX_sA (StX_rf R28.1) (by decide) w12.1 w12.2 (by decide)) (by decide) w15.1 w15.2 (by decide)
          have R34 := RW_md s34.1 s34.2 (by decide) (by decide) (by decide) R28
          have F34 : FrM mdX3_choose_10 u u34 := FrM_tr (FrM_tr F25' F28 (by decide)) s34.2 (by decide)
          have P34 : RP u34 := RP_md R34 F34 (by decide) (by decide) hP
          obtain ⟨q1, q2⟩ := e156 u34 P34 x4 h
          exact ⟨q1, FrM_tr F34 q2 (by decide)⟩
      · rw [if_neg c2] at h
        exact e156 u hP x4 h
    · rw [if_neg c] at h
      have z : some ((0 : Int32), u) = some (r, u') → RW u' ∧ FrM mdX3_choose_10 u u' := fun k => by
        have e : u = u' := by cases k; rfl
        rw [← e]
        exact ⟨hR, FrM_rf⟩
      by_cases c4 : x3 < u.1 31
      · rw [if_pos c4] at h
        exact e32 u hP x2 x3 x4 c0 c1 h
      · rw [if_neg c4] at h
        by_cases c5 : x3 = u.1 31
        · rw [if_pos c5] at h
          by_cases c6 : x2 ≤ u.1 34
          · rw [if_pos c6] at h
            exact z h
          · rw [if_neg c6] at h
            exact e32 u hP x2 x3 x4 c0 c1 h
        · rw [if_neg c5] at h
          exact z h
theorem plan_K {x1 x2 x3 r : Int32} {u u' : SX} (hR : RW u) (hK : CK u) (hL : LKP u) (h : fX11_plan_0 x1 x2 x3 u = some (r, u')) : RW u' ∧ CK u' := by
  unfold fX11_plan_0 at h
  have no : some ((-1 : Int32), u) = some (r, u') → RW u' ∧ CK u' := fun g => by
    have e : u = u' := by cases g; rfl
    rw [← e]
    exact ⟨hR, hK⟩
  obtain ⟨⟨r1, u2⟩, a1, h⟩ := bd_some h
  obtain ⟨e1, k1⟩ := has7i a1
  rw [e1] at h
  have h : (if r1 = 0 then (some ((-1), u)) else ((fX11_within x2 0 500).bind fun r4 => (if r4 = 0 then (some ((-1), u)) else ((fX11_isEither x3).bind fun r7 => (if r7 = 0 then (some ((-1), u)) else ((fX3_startRow_10 x1 (u.1 0) u).bind fun q => match q with | (r10, u11) => ((fX3_search_10 x2 u11).bind fun q => match q with | (r13, u14) => (if x3 = 0 then (some (u14.1 30, u14)) else (some (u14.1 31, u14)))))))))) = some (r, u') := h
  rcases k1 with ⟨z, k1⟩ | ⟨z, k1, k1'⟩
  · rw [if_pos z] at h
    exact no h
  · rw [if_neg (ne01 z)] at h
    obtain ⟨r4, a4, h⟩ := bd_some h
    rcases win a4 with ⟨z, k4⟩ | ⟨z, k4, k4'⟩
    · rw [if_pos z] at h
      exact no h
    · rw [if_neg (ne01 z)] at h
      have k4 : (0 : Int) ≤ x2.toInt := k4
      have k4' : x2.toInt ≤ (500 : Int) := k4'
      obtain ⟨r7, a7, h⟩ := bd_some h
      by_cases c7 : r7 = 0
      · rw [if_pos c7] at h
        exact no h
      · rw [if_neg c7] at h
        obtain ⟨⟨r10, u11⟩, a10, h⟩ := bd_some h
        obtain ⟨R11, F11, e32, -⟩ := startRow_sp hR k1 k1' a10
        obtain ⟨⟨r13, u14⟩, a13, h⟩ := bd_some h
        have e : u14 = u' := by
          have h : (if x3 = 0 then (some (u14.1 30, u14)) else (some (u14.1 31, u14))) = some (r, u') := h
          by_cases c : x3 = 0
          · rw [if_pos c] at h
            cases h
            rfl
          · rw [if_neg c] at h
            cases h
            rfl
        have P11 : RP u11 := ⟨R11, LKP_fr (F11.1 29 (by decide)) (F11.1 8 (by decide)) (F11.2.1 48 (by decide)) hL, by rw [e32]; exact k1, by rw [e32, F11.1 13 (by decide)]; exact k1'⟩
        have a13 : fX3_search_10 x2 u11 = some (r13, u14) := a13
        unfold fX3_search_10 at a13
        obtain ⟨w1, j1, a13⟩ := lt_some a13
        obtain ⟨w3, j3, a13⟩ := lt_some a13
        obtain ⟨w5, j5, a13⟩ := lt_some a13
        have s5 : StX ([30, 31, 34], [], [], []) u11 w5 := by
          rw [j5, j3, j1]
          exact StX_sIf (StX_sI (StX_sIf (StX_rf R11.1) (by decide) rfl rfl) (by decide) (by decide) (by decide)) (by decide) rfl rfl
        have R5 := RW_md s5.1 s5.2 (by decide) (by decide) (by decide) R11
        have P5 : RP w5 := RP_md R5 s5.2 (by decide) (by decide) P11
        obtain ⟨⟨r7', w8⟩, a8, a13⟩ := bd_some a13
        have e8 : w8 = u14 := by cases a13; rfl
        obtain ⟨R8, F8⟩ := choose_RW 16 0 x2 _ 0 r7' w5 w8 P5 (by decide) (by omega) k4' a8
        rw [← e, ← e8]
        exact ⟨R8, CK_md F8 (by decide) (by decide) (CK_md s5.2 (by decide) (by decide) (CK_md F11 (by decide) (by decide) hK))⟩
