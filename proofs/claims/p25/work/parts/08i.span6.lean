/-! done, clean and days keep what is alike. -/
theorem inb_lt {i : Int32} {n : Nat} (h : inb i n = true) : 0 ≤ i.toInt ∧ i.toInt < (n : Int) := by
  unfold inb at h
  have h := not_b h
  simp only [Bool.or_eq_false_iff, decide_eq_false_iff_not] at h
  obtain ⟨h1, h2⟩ := h
  have h1 : ¬ i.toInt < (0 : Int) := nltI h1
  have h2 : ¬ n ≤ i.toInt.toNat := h2
  exact ⟨by omega, by omega⟩
theorem UpTo_all {d : Nat → Int32} {q n r : Int32} (hd : ∀ i : Nat, (i : Int) < n.toInt → (d i).toInt ≤ q.toInt) (h : UpTo d q n r) : r = n := by
  obtain ⟨a1, a2, a3, a4⟩ := h
  by_cases c : r.toInt < n.toInt
  · have e := a3 c
    have f := hd r.toNatClampNeg (by show ((r.toInt.toNat : Nat) : Int) < _; omega)
    omega
  · exact Int32.toInt.inj (by omega)
theorem change_sp {x1 x2 x3 x4 x5 r : Int32} {u u' : SX} (c : u.1 12 < 30) (h : fX6_change_6 x1 x2 x3 x4 x5 u = some (r, u')) : u'.1 12 = u.1 12 + 1 ∧ u'.2.1 31 = upd (u.2.1 31) (u.1 12).toNatClampNeg x1 ∧ u'.2.1 32 = upd (u.2.1 32) (u.1 12).toNatClampNeg x2 ∧ u'.2.1 33 = upd (u.2.1 33) (u.1 12).toNatClampNeg x3 ∧ u'.2.1 34 = upd (u.2.1 34) (u.1 12).toNatClampNeg x4 ∧ u'.2.1 35 = upd (u.2.1 35) (u.1 12).toNatClampNeg (vp_nar .boolean x5) ∧ (∀ j, Nat.beq j 12 = false → u'.1 j = u.1 j) ∧ (∀ j, Nat.beq j 31 = false → Nat.beq j 32 = false → Nat.beq j 33 = false → Nat.beq j 34 = false → Nat.beq j 35 = false → u'.2.1 j = u.2.1 j) := by
  unfold fX6_change_6 at h
  rw [if_pos c] at h
  obtain ⟨-, h⟩ := gd_some h
  obtain ⟨w1, j1, h⟩ := lt_some h
  obtain ⟨-, h⟩ := gd_some h
  obtain ⟨w2, j2, h⟩ := lt_some h
  obtain ⟨-, h⟩ := gd_some h
  obtain ⟨w3, j3, h⟩ := lt_some h
  obtain ⟨-, h⟩ := gd_some h
  obtain ⟨w4, j4, h⟩ := lt_some h
  obtain ⟨-, h⟩ := gd_some h
  obtain ⟨w5, j5, h⟩ := lt_some h
  obtain ⟨w6, j6, h⟩ := lt_some h
  have e : w6 = u' := by cases h; rfl
  rw [← e]
  refine ⟨by rw [j6, j5, j4, j3, j2, j1]; rfl, by rw [j6, j5, j4, j3, j2, j1]; rfl, by rw [j6, j5, j4, j3, j2, j1]; rfl, by rw [j6, j5, j4, j3, j2, j1]; rfl, by rw [j6, j5, j4, j3, j2, j1]; rfl, by rw [j6, j5, j4, j3, j2, j1]; rfl, fun j a => ?_, fun j a1 a2 a3 a4 a5 => ?_⟩
  · have f6 : w6.1 j = w5.1 j := by
      rw [j6]
      show (bif Nat.beq j 12 then _ else w5.1 j) = _
      rw [a]
      rfl
    rw [f6, j5, j4, j3, j2, j1]
    rfl
  · have f5 : w5.2.1 j = w4.2.1 j := by
      rw [j5]
      show (bif Nat.beq j 35 then _ else w4.2.1 j) = _
      rw [a5]
      rfl
    have f4 : w4.2.1 j = w3.2.1 j := by
      rw [j4]
      show (bif Nat.beq j 34 then _ else w3.2.1 j) = _
      rw [a4]
      rfl
    have f3 : w3.2.1 j = w2.2.1 j := by
      rw [j3]
      show (bif Nat.beq j 33 then _ else w2.2.1 j) = _
      rw [a3]
      rfl
    have f2 : w2.2.1 j = w1.2.1 j := by
      rw [j2]
      show (bif Nat.beq j 32 then _ else w1.2.1 j) = _
      rw [a2]
      rfl
    have f1 : w1.2.1 j = u.2.1 j := by
      rw [j1]
      show (bif Nat.beq j 31 then _ else u.2.1 j) = _
      rw [a1]
      rfl
    have f6 : w6.2.1 j = w5.2.1 j := by rw [j6]; rfl
    rw [f6, f5, f4, f3, f2, f1]
theorem hapM {x1 x2 x3 x4 r : Int32} {v v' : SX} (h : fX12_happens_0 x1 x2 x3 x4 v = some (r, v')) : (v.1 13).toInt < 30 ∧ v'.1 13 = v.1 13 + 1 ∧ v'.2.1 11 = upd (v.2.1 11) (v.1 13).toNatClampNeg x1 ∧ v'.2.1 12 = upd (v.2.1 12) (v.1 13).toNatClampNeg x2 ∧ v'.2.1 13 = upd (v.2.1 13) (v.1 13).toNatClampNeg x3 ∧ v'.2.1 14 = upd (v.2.1 14) (v.1 13).toNatClampNeg x4 ∧ v'.2.1 15 = upd (v.2.1 15) (v.1 13).toNatClampNeg (v.1 1) := by
  unfold fX12_happens_0 at h
  obtain ⟨g, h⟩ := gd_some h
  obtain ⟨w1, j1, h⟩ := lt_some h
  obtain ⟨-, h⟩ := gd_some h
  obtain ⟨w2, j2, h⟩ := lt_some h
  obtain ⟨-, h⟩ := gd_some h
  obtain ⟨w3, j3, h⟩ := lt_some h
  obtain ⟨-, h⟩ := gd_some h
  obtain ⟨w4, j4, h⟩ := lt_some h
  obtain ⟨-, h⟩ := gd_some h
  obtain ⟨w5, j5, h⟩ := lt_some h
  obtain ⟨w6, j6, h⟩ := lt_some h
  have e : w6 = v' := by cases h; rfl
  rw [← e]
  exact ⟨(inb_lt g).2, by rw [j6, j5, j4, j3, j2, j1]; rfl, by rw [j6, j5, j4, j3, j2, j1]; rfl, by rw [j6, j5, j4, j3, j2, j1]; rfl, by rw [j6, j5, j4, j3, j2, j1]; rfl, by rw [j6, j5, j4, j3, j2, j1]; rfl, by rw [j6, j5, j4, j3, j2, j1]; rfl⟩
theorem spX_app {u u' : SX} {n : Nat} {p a b c : Int32} (r29 : u'.2.1 29 = u.2.1 29) (r30 : u'.2.1 30 = u.2.1 30) (k31 : u'.2.1 31 = upd (u.2.1 31) n p) (k32 : u'.2.1 32 = upd (u.2.1 32) n a) (k33 : u'.2.1 33 = upd (u.2.1 33) n b) (k35 : u'.2.1 35 = upd (u.2.1 35) n c) : ∀ k i : Nat, k ≤ n → spX u' k i = spX u k i := fun k i hk => by
  refine rpS_cg (by rw [r29]) (by rw [r30]) k (fun j hj => ?_)
  have nj : ¬ j = n := by omega
  rw [k31, k32, k33, k35, upd_ne nj, upd_ne nj, upd_ne nj, upd_ne nj]
  exact ⟨rfl, rfl, rfl, Iff.rfl⟩
theorem TEv_app {u u' v v' : SX} {p a b c m : Int32} (b0 : 0 ≤ (u.1 12).toInt) (b9 : (u.1 12).toInt < 30) (s1 : u.1 12 = v.1 13) (hE : TEv u v) (x0 : u'.1 0 = u.1 0) (t0 : u.1 0 = v.1 1) (k12 : u'.1 12 = u.1 12 + 1) (k31 : u'.2.1 31 = upd (u.2.1 31) (u.1 12).toNatClampNeg p) (k32 : u'.2.1 32 = upd (u.2.1 32) (u.1 12).toNatClampNeg a) (k33 : u'.2.1 33 = upd (u.2.1 33) (u.1 12).toNatClampNeg b) (k34 : u'.2.1 34 = upd (u.2.1 34) (u.1 12).toNatClampNeg (u.1 0)) (k35 : u'.2.1 35 = upd (u.2.1 35) (u.1 12).toNatClampNeg c) (m11 : v'.2.1 11 = upd (v.2.1 11) (v.1 13).toNatClampNeg m) (m12 : v'.2.1 12 = upd (v.2.1 12) (v.1 13).toNatClampNeg p) (m13 : v'.2.1 13 = upd (v.2.1 13) (v.1 13).toNatClampNeg a) (m14 : v'.2.1 14 = upd (v.2.1 14) (v.1 13).toNatClampNeg b) (m15 : v'.2.1 15 = upd (v.2.1 15) (v.1 13).toNatClampNeg (v.1 1)) (hab : a.toInt ≤ b.toInt) (hc : c = 0 ↔ onC m = 0) : TEv u' v' := fun i hi => by
  have e8 : (u.1 12 + 1).toInt = (u.1 12).toInt + 1 := addc_t (by decide) (by omega) (by omega)
  rw [← s1] at m11 m12 m13 m14 m15
  rw [k12, e8] at hi
  rw [k31, k32, k33, k34, k35, m11, m12, m13, m14, m15, x0]
  by_cases ci : i = (u.1 12).toNatClampNeg
  · rw [ci, upd_at, upd_at, upd_at, upd_at, upd_at, upd_at, upd_at, upd_at, upd_at, upd_at]
    exact ⟨rfl, rfl, rfl, t0, hc, hab, Int.le_refl _⟩
  · rw [upd_ne ci, upd_ne ci, upd_ne ci, upd_ne ci, upd_ne ci, upd_ne ci, upd_ne ci, upd_ne ci, upd_ne ci, upd_ne ci]
    have ci : ¬ i = (u.1 12).toInt.toNat := ci
    exact hE i (by omega)
theorem CX_app {u u' : SX} {p a b c : Int32} (b0 : 0 ≤ (u.1 12).toInt) (b9 : (u.1 12).toInt < 30) (x8 : u'.1 8 = u.1 8) (x10 : u'.1 10 = u.1 10) (x11 : u'.1 11 = u.1 11) (k12 : u'.1 12 = u.1 12 + 1) (r27 : u'.2.1 27 = u.2.1 27) (r28 : u'.2.1 28 = u.2.1 28) (r29 : u'.2.1 29 = u.2.1 29) (r30 : u'.2.1 30 = u.2.1 30) (k31 : u'.2.1 31 = upd (u.2.1 31) (u.1 12).toNatClampNeg p) (k32 : u'.2.1 32 = upd (u.2.1 32) (u.1 12).toNatClampNeg a) (k33 : u'.2.1 33 = upd (u.2.1 33) (u.1 12).toNatClampNeg b) (k35 : u'.2.1 35 = upd (u.2.1 35) (u.1 12).toNatClampNeg c) (hC : CX u) : CX u' := by
  have e8 : (u.1 12 + 1).toInt = (u.1 12).toInt + 1 := addc_t (by decide) (by omega) (by omega)
  obtain ⟨c1, c2, c3⟩ := hC
  refine ⟨by rw [x10, x8]; exact c1, by rw [x11, k12, e8]; omega, fun i hi => ?_⟩
  rw [x10] at hi
  rw [r27, r28, x11, spX_app r29 r30 k31 k32 k33 k35 _ _ (by show (u.1 11).toInt.toNat ≤ (u.1 12).toInt.toNat; omega)]
  exact c3 i hi
theorem carry_sp {x1 r : Int32} {u u' v : SX} (hI : IX u) (hC : CX u) (hS : TieS u v) (c : u.1 12 < 30) (h0 : 0 ≤ x1.toInt) (h9 : x1.toInt < (u.1 29).toInt) (h : fX3_carryOut_10 x1 (u.1 0) u = some (r, u')) : u'.1 12 = u.1 12 + 1 ∧ u'.2.1 31 = upd (u.2.1 31) (u.1 12).toNatClampNeg (u.2.1 48 x1.toNatClampNeg) ∧ u'.2.1 32 = upd (u.2.1 32) (u.1 12).toNatClampNeg (u.2.1 49 x1.toNatClampNeg) ∧ u'.2.1 33 = upd (u.2.1 33) (u.1 12).toNatClampNeg (u.2.1 50 x1.toNatClampNeg) ∧ u'.2.1 34 = upd (u.2.1 34) (u.1 12).toNatClampNeg (u.1 0) ∧ u'.2.1 35 = upd (u.2.1 35) (u.1 12).toNatClampNeg 0 ∧ CX u' ∧ (∃ y w : Int32, u'.2.1 53 = upd (u.2.1 53) x1.toNatClampNeg y ∧ u'.2.1 54 = upd (u.2.1 54) x1.toNatClampNeg w ∧ (y, w) = spX u (u.1 12).toNatClampNeg (u.2.1 48 x1.toNatClampNeg).toNatClampNeg) ∧ (∃ y w : Int32, u'.2.1 55 = upd (u.2.1 55) x1.toNatClampNeg y ∧ u'.2.1 56 = upd (u.2.1 56) x1.toNatClampNeg w ∧ (y, w) = spX u' ((u.1 12).toNatClampNeg + 1) (u.2.1 48 x1.toNatClampNeg).toNatClampNeg) := by
  have bn : 0 ≤ (u.1 0).toInt ∧ (u.1 0).toInt ≤ 120 := hI.1 0
  have b12 : 0 ≤ (u.1 12).toInt ∧ (u.1 12).toInt ≤ 30 := hI.1 12
  have c9 : (u.1 12).toInt < (30 : Int) := ltI c
  have e12 : (u.1 12 + 1).toInt = (u.1 12).toInt + 1 := addc_t (by decide) (by omega) (by omega)
  obtain ⟨-, s2, s3, s4, -, -⟩ := hS
  obtain ⟨-, -, -, -, -, l6, l7, -⟩ := s4 x1.toNatClampNeg (by show ((x1.toInt.toNat : Nat) : Int) < _; omega)
  have day8 : ∀ i : Nat, (i : Int) < (u.1 8).toInt → (u.2.1 25 i).toInt ≤ (u.1 0).toInt := fun i hi => (s2 i hi).2.2.2.2.2.2
  have day12 : ∀ i : Nat, (i : Int) < (u.1 12).toInt → (u.2.1 34 i).toInt ≤ (u.1 0).toInt := fun i hi => (s3 i hi).2.2.2.2.2.2
  unfold fX3_carryOut_10 at h
  obtain ⟨-, h⟩ := gd_some h
  obtain ⟨v2, e2, h⟩ := lt_some h
  rw [← e2]
  rw [← e2] at l6 l7
  have hn : ((v2.toNatClampNeg : Nat) : Int) < (u.1 8).toInt := by
    show ((v2.toInt.toNat : Nat) : Int) < _
    omega
  obtain ⟨⟨r4, u5⟩, a4, h⟩ := bd_some h
  have s5 : StX mdX6_recall_6 u u5 := (Tot_at (tfX6_recall_6 (u.1 0) u hI bn) a4).1
  obtain ⟨w1, w2, y1, y2, C5⟩ := recall_sp hI hC a4
  have p10 : u5.1 10 = u.1 8 := UpTo_all day8 y1
  have p11 : u5.1 11 = u.1 12 := UpTo_all day12 y2
  have sp5 : spX u5 = spX u := by
    unfold spX
    rw [w2 29 rfl rfl, w2 30 rfl rfl, w2 31 rfl rfl, w2 32 rfl rfl, w2 33 rfl rfl, w2 35 rfl rfl]
  have q5 : (u5.2.1 27 v2.toNatClampNeg, u5.2.1 28 v2.toNatClampNeg) = spX u (u.1 12).toNatClampNeg v2.toNatClampNeg := by
    have q := C5.2.2 v2.toNatClampNeg (by rw [p10]; exact hn)
    rw [sp5, p11] at q
    exact q
  obtain ⟨-, h⟩ := gd_some h
  obtain ⟨-, h⟩ := gd_some h
  obtain ⟨u9, j9, h⟩ := lt_some h
  obtain ⟨-, h⟩ := gd_some h
  obtain ⟨-, h⟩ := gd_some h
  obtain ⟨u13, j13, h⟩ := lt_some h
  obtain ⟨-, h⟩ := gd_some h
  obtain ⟨-, h⟩ := gd_some h
  obtain ⟨⟨r17, u18⟩, a17, h⟩ := bd_some h
  have I9 : IX u9 := by
    rw [j9]
    exact (StX_sA (md := ([], [53], [], [])) (StX_rf s5.1) (by decide) (Int.le_trans (by decide) (s5.1.2.1 27 _).1) (Int.le_trans (s5.1.2.1 27 _).2 (by decide)) rfl).1
  have I13 : IX u13 := by
    rw [j13]
    exact (StX_sA (md := ([], [54], [], [])) (StX_rf I9) (by decide) (Int.le_trans (by decide) (I9.2.1 28 _).1) (Int.le_trans (I9.2.1 28 _).2 (by decide)) rfl).1
  have bv : 0 ≤ v2.toInt ∧ v2.toInt ≤ 11 := by rw [e2]; exact ⟨(hI.2.1 48 _).1, (hI.2.1 48 _).2⟩
  have s18 : StX mdX6_change_6 u13 u18 := (Tot_at (tfX6_change_6 v2 _ _ (u.1 0) 0 u13 I13 bv ⟨(I13.2.1 49 _).1, (I13.2.1 49 _).2⟩ ⟨(I13.2.1 50 _).1, (I13.2.1 50 _).2⟩ bn (by decide)) a17).1
  -- rows of u13
  have f13 : u13.1 = u5.1 := by rw [j13, j9]; rfl
  have t53 : u13.2.1 53 = upd (u5.2.1 53) x1.toNatClampNeg (u5.2.1 27 v2.toNatClampNeg) := by rw [j13, j9]; rfl
  have t54 : u13.2.1 54 = upd (u5.2.1 54) x1.toNatClampNeg (u5.2.1 28 v2.toNatClampNeg) := by rw [j13, j9]; rfl
  have t27 : u13.2.1 27 = u5.2.1 27 := by rw [j13, j9]; rfl
  have t28 : u13.2.1 28 = u5.2.1 28 := by rw [j13, j9]; rfl
  have t29 : u13.2.1 29 = u5.2.1 29 := by rw [j13, j9]; rfl
  have t30 : u13.2.1 30 = u5.2.1 30 := by rw [j13, j9]; rfl
  have t31 : u13.2.1 31 = u5.2.1 31 := by rw [j13, j9]; rfl
  have t32 : u13.2.1 32 = u5.2.1 32 := by rw [j13, j9]; rfl
  have t33 : u13.2.1 33 = u5.2.1 33 := by rw [j13, j9]; rfl
  have t34 : u13.2.1 34 = u5.2.1 34 := by rw [j13, j9]; rfl
  have t35 : u13.2.1 35 = u5.2.1 35 := by rw [j13, j9]; rfl
  have t25 : u13.2.1 25 = u5.2.1 25 := by rw [j13, j9]; rfl
  have t49 : u13.2.1 49 = u5.2.1 49 := by rw [j13, j9]; rfl
  have t50 : u13.2.1 50 = u5.2.1 50 := by rw [j13, j9]; rfl
  have t55 : u13.2.1 55 = u5.2.1 55 := by rw [j13, j9]; rfl
  have t56 : u13.2.1 56 = u5.2.1 56 := by rw [j13, j9]; rfl
  clear j9 j13
  have C13 : CX u13 := CX_fr (by rw [f13]) (by rw [f13]) (by rw [f13]) (by rw [f13]) t27 t28 t29 t30 t31 t32 t33 t35 C5
  have g12 : u13.1 12 = u.1 12 := by rw [f13]; exact w1 12 rfl rfl
  obtain ⟨k12, k31, k32, k33, k34, k35, kf, kr⟩ := change_sp (by rw [g12]; exact c) a17
  rw [g12] at k12 k31 k32 k33 k34 k35
  rw [t31, w2 31 rfl rfl] at k31
  rw [t32, w2 32 rfl rfl, t49, w2 49 rfl rfl] at k32
  rw [t33, w2 33 rfl rfl, t50, w2 50 rfl rfl] at k33
  rw [t34, w2 34 rfl rfl] at k34
  rw [t35, w2 35 rfl rfl] at k35
  have k35 : u18.2.1 35 = upd (u.2.1 35) (u.1 12).toNatClampNeg 0 := k35
  have d27 : u18.2.1 27 = u5.2.1 27 := (kr 27 rfl rfl rfl rfl rfl).trans t27
  have d28 : u18.2.1 28 = u5.2.1 28 := (kr 28 rfl rfl rfl rfl rfl).trans t28
  have d29 : u18.2.1 29 = u5.2.1 29 := (kr 29 rfl rfl rfl rfl rfl).trans t29
  have d30 : u18.2.1 30 = u5.2.1 30 := (kr 30 rfl rfl rfl rfl rfl).trans t30
  have g8 : u18.1 8 = u.1 8 := (kf 8 rfl).trans (by rw [f13]; exact w1 8 rfl rfl)
  have g5 : u5.1 12 = u.1 12 := w1 12 rfl rfl
  have C18 : CX u18 := by
    refine CX_app (u := u5) (p := v2) (a := u.2.1 49 x1.toNatClampNeg) (b := u.2.1 50 x1.toNatClampNeg) (c := 0) (by rw [g5]; exact b12.1) (by rw [g5]; exact c9) ((kf 8 rfl).trans (by rw [f13])) ((kf 10 rfl).trans (by rw [f13])) ((kf 11 rfl).trans (by rw [f13])) (by rw [g5]; exact k12) d27 d28 d29 d30 ?_ ?_ ?_ ?_ C5
    · rw [g5, w2 31 rfl rfl]; exact k31
    · rw [g5, w2 32 rfl rfl]; exact k32
    · rw [g5, w2 33 rfl rfl]; exact k33
    · rw [g5, w2 35 rfl rfl]; exact k35
  obtain ⟨⟨r20, u21⟩, a20, h⟩ := bd_some h
  obtain ⟨x1', x2', z1, z2, C21⟩ := recall_sp s18.1 C18 a20
  have o10 : u21.1 10 = u.1 8 := by
    rw [← g8]
    refine UpTo_all (fun i hi => ?_) z1
    rw [g8] at hi
    rw [kr 25 rfl rfl rfl rfl rfl, t25, w2 25 rfl rfl]
    exact day8 i hi
  have o11 : u21.1 11 = u.1 12 + 1 := by
    rw [← k12]
    refine UpTo_all (fun i hi => ?_) z2
    rw [k12, e12] at hi
    rw [k34]
    by_cases ci : i = (u.1 12).toNatClampNeg
    · rw [ci, upd_at]
      exact Int.le_refl _
    · rw [upd_ne ci]
      have ci : ¬ i = (u.1 12).toInt.toNat := ci
      exact day12 i (by omega)
  have en : (u.1 12 + 1).toNatClampNeg = (u.1 12).toNatClampNeg + 1 := by
    show (u.1 12 + 1).toInt.toNat = (u.1 12).toInt.toNat + 1
    rw [e12]
    omega
  have q21 : (u21.2.1 27 v2.toNatClampNeg, u21.2.1 28 v2.toNatClampNeg) = spX u21 ((u.1 12).toNatClampNeg + 1) v2.toNatClampNeg := by
    have q := C21.2.2 v2.toNatClampNeg (by rw [o10]; exact hn)
    rw [o11, en] at q
    exact q
  obtain ⟨-, h⟩ := gd_some h
  obtain ⟨-, h⟩ := gd_some h
  obtain ⟨u25, j25, h⟩ := lt_some h
  obtain ⟨-, h⟩ := gd_some h
  obtain ⟨-, h⟩ := gd_some h
  obtain ⟨u29, j29, h⟩ := lt_some h
  obtain ⟨-, h⟩ := gd_some h
  obtain ⟨u32, j32, h⟩ := lt_some h
  have e : u32 = u' := by cases h; rfl
  rw [e] at j32
  clear h e
  have F : u'.1 = u21.1 := by rw [j32, j29, j25]; rfl
  have R27 : u'.2.1 27 = u21.2.1 27 := by rw [j32, j29, j25]; rfl
  have R28 : u'.2.1 28 = u21.2.1 28 := by rw [j32, j29, j25]; rfl
  have R29 : u'.2.1 29 = u21.2.1 29 := by rw [j32, j29, j25]; rfl
  have R30 : u'.2.1 30 = u21.2.1 30 := by rw [j32, j29, j25]; rfl
  have R31 : u'.2.1 31 = u21.2.1 31 := by rw [j32, j29, j25]; rfl
  have R32 : u'.2.1 32 = u21.2.1 32 := by rw [j32, j29, j25]; rfl
  have R33 : u'.2.1 33 = u21.2.1 33 := by rw [j32, j29, j25]; rfl
  have R34 : u'.2.1 34 = u21.2.1 34 := by rw [j32, j29, j25]; rfl
  have R35 : u'.2.1 35 = u21.2.1 35 := by rw [j32, j29, j25]; rfl
  have R53 : u'.2.1 53 = u21.2.1 53 := by rw [j32, j29, j25]; rfl
  have R54 : u'.2.1 54 = u21.2.1 54 := by rw [j32, j29, j25]; rfl
  have R55 : u'.2.1 55 = upd (u21.2.1 55) x1.toNatClampNeg (u21.2.1 27 v2.toNatClampNeg) := by rw [j32, j29, j25]; rfl
  have R56 : u'.2.1 56 = upd (u21.2.1 56) x1.toNatClampNeg (u21.2.1 28 v2.toNatClampNeg) := by rw [j32, j29, j25]; rfl
  clear j25 j29 j32
  have spf : spX u' = spX u21 := by
    unfold spX
    rw [R29, R30, R31, R32, R33, R35]
  have Cf : CX u' := CX_fr (by rw [F]) (by rw [F]) (by rw [F]) (by rw [F]) R27 R28 R29 R30 R31 R32 R33 R35 C21
  refine ⟨?_, ?_, ?_, ?_, ?_, ?_, Cf, ⟨_, _, ?_, ?_, q5⟩, ⟨u21.2.1 27 v2.toNatClampNeg, u21.2.1 28 v2.toNatClampNeg, ?_, ?_, ?_⟩⟩
  · rw [F, x1' 12 rfl rfl]; exact k12
  · rw [R31, x2' 31 rfl rfl]; exact k31
  · rw [R32, x2' 32 rfl rfl]; exact k32
  · rw [R33, x2' 33 rfl rfl]; exact k33
  · rw [R34, x2' 34 rfl rfl]; exact k34
  · rw [R35, x2' 35 rfl rfl]; exact k35
  · rw [R53, x2' 53 rfl rfl, kr 53 rfl rfl rfl rfl rfl, t53, w2 53 rfl rfl]
  · rw [R54, x2' 54 rfl rfl, kr 54 rfl rfl rfl rfl rfl, t54, w2 54 rfl rfl]
  · rw [R55, x2' 55 rfl rfl, kr 55 rfl rfl rfl rfl rfl, t55, w2 55 rfl rfl]
  · rw [R56, x2' 56 rfl rfl, kr 56 rfl rfl rfl rfl rfl, t56, w2 56 rfl rfl]
  · rw [spf]
    exact q21
theorem hap_9 {x1 x2 x3 x4 r : Int32} {v v' : SX} (h : fX12_happens_0 x1 x2 x3 x4 v = some (r, v')) : v'.2.1 9 = v.2.1 9 := by
  unfold fX12_happens_0 at h
  obtain ⟨g, h⟩ := gd_some h
  obtain ⟨w1, j1, h⟩ := lt_some h
  obtain ⟨-, h⟩ := gd_some h
  obtain ⟨w2, j2, h⟩ := lt_some h
  obtain ⟨-, h⟩ := gd_some h
  obtain ⟨w3, j3, h⟩ := lt_some h
  obtain ⟨-, h⟩ := gd_some h
  obtain ⟨w4, j4, h⟩ := lt_some h
  obtain ⟨-, h⟩ := gd_some h
  obtain ⟨w5, j5, h⟩ := lt_some h
  obtain ⟨w6, j6, h⟩ := lt_some h
  have e : w6 = v' := by cases h; rfl
  rw [← e, j6, j5, j4, j3, j2, j1]
  rfl
