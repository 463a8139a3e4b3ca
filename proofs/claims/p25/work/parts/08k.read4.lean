/-! Readings: the reference's worths, and leans. -/
theorem aimOfM {n : Nat} {x d a h e w l : Int32} {v : SX} (hx : x.toNatClampNeg = n) (b0 : 0 ≤ x.toInt) (b1 : x.toInt ≤ 79) (hA : AimM v n d a h e w l) : (∀ r v', fX12_aimOf_0 x 0 v = some (r, v') → r = d ∧ v' = v) ∧ (∀ r v', fX12_aimOf_0 x 1 v = some (r, v') → r = a ∧ v' = v) ∧ (∀ r v', fX12_aimOf_0 x 2 v = some (r, v') → r = h ∧ v' = v) ∧ (∀ r v', fX12_aimOf_0 x 3 v = some (r, v') → r = e ∧ v' = v) ∧ (∀ r v', fX12_aimOf_0 x 4 v = some (r, v') → r = w ∧ v' = v) ∧ (∀ r v', fX12_aimOf_0 x 5 v = some (r, v') → r = l ∧ v' = v) := by
  obtain ⟨p0, p1, p2, p3, p4, p5⟩ := hA
  have m5 : (5 * x).toInt = 5 * x.toInt := cmul_t (by decide) (by omega) (by omega)
  have hn : n = x.toInt.toNat := hx.symm
  have nn : ∀ {c : Int32} {k : Nat}, c.toInt = (k : Int) → k ≤ 4 → (5 * x + c).toNatClampNeg = 5 * n + k := fun {c k} hc hk => by
    show (5 * x + c).toInt.toNat = 5 * n + k
    rw [addc_t hc (by rw [m5]; omega) (by rw [m5]; omega), m5]
    omega
  refine ⟨fun r v' g => ?_, fun r v' g => ?_, fun r v' g => ?_, fun r v' g => ?_, fun r v' g => ?_, fun r v' g => ?_⟩
  · unfold fX12_aimOf_0 at g
    rw [if_neg (by decide), if_neg (by decide), nn (c := 0) (k := 0) (by decide) (by decide)] at g
    have q : v.2.1 19 (5 * n + 0) = r ∧ v = v' := by cases (gd_some g).2; exact ⟨rfl, rfl⟩
    exact ⟨q.1.symm.trans p0, q.2.symm⟩
  · unfold fX12_aimOf_0 at g
    rw [if_neg (by decide), if_neg (by decide), nn (c := 1) (k := 1) (by decide) (by decide)] at g
    have q : v.2.1 19 (5 * n + 1) = r ∧ v = v' := by cases (gd_some g).2; exact ⟨rfl, rfl⟩
    exact ⟨q.1.symm.trans p1, q.2.symm⟩
  · unfold fX12_aimOf_0 at g
    rw [if_neg (by decide), if_neg (by decide), nn (c := 2) (k := 2) (by decide) (by decide)] at g
    have q : v.2.1 19 (5 * n + 2) = r ∧ v = v' := by cases (gd_some g).2; exact ⟨rfl, rfl⟩
    exact ⟨q.1.symm.trans p2, q.2.symm⟩
  · unfold fX12_aimOf_0 at g
    rw [if_pos rfl, hx] at g
    obtain ⟨-, g⟩ := gd_some g
    rw [p3] at g
    have q : e = r ∧ v = v' := by cases g; exact ⟨rfl, rfl⟩
    exact ⟨q.1.symm, q.2.symm⟩
  · unfold fX12_aimOf_0 at g
    rw [if_neg (by decide), if_pos (by decide), nn (c := 4 - 1) (k := 3) (by decide) (by decide)] at g
    have q : v.2.1 19 (5 * n + 3) = r ∧ v = v' := by cases (gd_some g).2; exact ⟨rfl, rfl⟩
    exact ⟨q.1.symm.trans p4, q.2.symm⟩
  · unfold fX12_aimOf_0 at g
    rw [if_neg (by decide), if_pos (by decide), nn (c := 5 - 1) (k := 4) (by decide) (by decide)] at g
    have q : v.2.1 19 (5 * n + 4) = r ∧ v = v' := by cases (gd_some g).2; exact ⟨rfl, rfl⟩
    exact ⟨q.1.symm.trans p5, q.2.symm⟩
/-- the reference lays, for each part, what its law is worth at the reading's aim -/
theorem layS {d a h e w l : Int32} {n0 : Nat} {u : SX} (h12 : (u.1 5).toInt ≤ 12) (bd : Bn d) (ba : Bn a) (bh : Bn h) (be : Bn e) (bw : Bn w) (bl : Bn l) (hA : AimG u n0 d a h e w l) : ∀ (n : Nat) (z7 r' : Int32) (v v' : SX), IM v → TieV u v → (∀ i : Nat, (i : Int) < (v.1 12).toInt → 0 ≤ (v.2.1 6 i).toInt ∧ (v.2.1 6 i).toInt < (u.1 5).toInt) → 0 ≤ z7.toInt → z7.toInt ≤ 12 → LX12_layWorths_0_3 n d a h e w l z7 v = some (r', v') → IM v' ∧ v'.1 12 = v.1 12 ∧ (∀ j, Nat.beq j 5 = false → Nat.beq j 18 = false → v'.2.1 j = v.2.1 j) ∧ (∀ i : Nat, (i : Int) < z7.toInt → v'.2.1 18 i = v.2.1 18 i) ∧ ∀ i : Nat, z7.toInt ≤ (i : Int) → (i : Int) < (v.1 12).toInt → WSay u n0 (v.2.1 6 i).toNatClampNeg (v'.2.1 18 i) := by
  intro n
  induction n with
  | zero => intro z7 r' v v' _ _ _ _ _ h; cases h
  | succ n ih =>
    intro z7 r' v v' hJ hV hl h0 h1 g
    have b12 : (v.1 12).toInt ≤ (12 : Int) := (hJ.1 12).2
    have g : (if (v.1 12) ≤ z7 then (some (0, v)) else (gd (inb z7 12) ((fX12_lawWorth_0 (v.2.1 6 z7.toNatClampNeg) d a h e w l v).bind fun q => match q with | (r2, u3) => (gd (inb z7 12) (lt (sA u3 18 (upd (u3.2.1 18) z7.toNatClampNeg r2)) fun u6 => ((LX12_layWorths_0_3 n) d a h e w l (z7 + 1) u6)))))) = some (r', v') := g
    by_cases c : v.1 12 ≤ z7
    · rw [if_pos c] at g
      have c9 := leI c
      have ev : v = v' := by cases g; rfl
      rw [← ev]
      exact ⟨hJ, rfl, fun _ _ _ => rfl, fun _ _ => rfl, fun i h2 h3 => by omega⟩
    · rw [if_neg c] at g
      have c9 := nleI c
      have en : z7.toNatClampNeg = z7.toInt.toNat := rfl
      obtain ⟨-, g⟩ := gd_some g
      obtain ⟨⟨r2, v3⟩, a2, g⟩ := bd_some g
      obtain ⟨-, g⟩ := gd_some g
      obtain ⟨v6, i6, g⟩ := lt_some g
      have hl7 := hl z7.toNatClampNeg (by rw [en]; omega)
      have st : StM mdX12_lawWorth_0 v v3 := (Tot_at (tfX12_lawWorth_0 (v.2.1 6 z7.toNatClampNeg) d a h e w l v hJ ⟨hl7.1, by omega⟩ bd ba bh be bw bl) a2).1
      have J6 : IM v6 := by
        rw [i6]
        exact (StM_sAf (md := ([], [18], [], [])) (StM_rf st.1) (by decide) rfl rfl (by decide)).1
      have f12 : v6.1 12 = v.1 12 := by
        rw [i6]
        exact st.2.1 12 (by decide)
      have fr : ∀ j, Nat.beq j 5 = false → Nat.beq j 18 = false → v6.2.1 j = v.2.1 j := fun j j5 j18 => by
        rw [i6]
        show (bif Nat.beq j 18 then _ else v3.2.1 j) = _
        rw [j18]
        refine st.2.2.1 j ?_
        exact ct1 j5
      have k18 : v6.2.1 18 = upd (v.2.1 18) z7.toNatClampNeg r2 := by
        rw [i6]
        show upd (v3.2.1 18) z7.toNatClampNeg r2 = _
        rw [st.2.2.1 18 (by decide)]
      have V6 : TieV u v6 := TieV_fr rfl rfl rfl rfl (fr 2 rfl rfl) (fr 3 rfl rfl) hV
      have e1 : (z7 + 1).toInt = z7.toInt + 1 := addc_t (by decide) (by omega) (by omega)
      obtain ⟨q1, q2, q3, q4, q5⟩ := ih (z7 + 1) r' v6 v' J6 V6 (fun i hi => by
        rw [f12] at hi
        rw [fr 6 rfl rfl]
        exact hl i hi) (by rw [e1]; omega) (by rw [e1]; omega) g
      refine ⟨q1, q2.trans f12, fun j j5 j18 => (q3 j j5 j18).trans (fr j j5 j18), fun i hi => ?_, fun i h2 h3 => ?_⟩
      · rw [q4 i (by rw [e1]; omega), k18, upd_ne (by rw [en]; omega)]
      · by_cases ci : i = z7.toNatClampNeg
        · rw [q4 i (by rw [e1, ci, en]; omega), k18, ci, upd_at]
          exact law_say hJ hV hl7.1 hl7.2 h12 hA a2
        · have ci : ¬ i = z7.toInt.toNat := ci
          have q := q5 i (by rw [e1]; omega) (by rw [f12]; exact h3)
          rw [fr 6 rfl rfl] at q
          exact q
theorem layOfS {x1 r' : Int32} {u v v' : SX} (hI : IX u) (hJ : IM v) (hp : TieP u v) (hS : TieS u v) (hV : TieV u v) (hPL : PL u) (hG : TieG u v) (a0 : 0 ≤ x1.toInt) (a1 : x1.toInt < (u.1 13).toInt) (h : fX12_layWorthsOf_0 x1 v = some (r', v')) : IM v' ∧ v'.1 12 = v.1 12 ∧ (∀ j, Nat.beq j 5 = false → Nat.beq j 18 = false → v'.2.1 j = v.2.1 j) ∧ ∀ i : Nat, (i : Int) < (u.1 8).toInt → WSay u x1.toNatClampNeg (u.2.1 24 i).toNatClampNeg (v'.2.1 18 i) := by
  have n1 : x1.toNatClampNeg = x1.toInt.toNat := rfl
  have b13 : (u.1 13).toInt ≤ (80 : Int) := (hI.1 13).2
  have b5 : (u.1 5).toInt ≤ (12 : Int) := (hI.1 5).2
  obtain ⟨-, -, -, d, a, hh, e, w, l, ⟨bd, ba, bh, be, bw, bl⟩, qa, qm⟩ := hG.1 x1.toNatClampNeg (by rw [n1]; omega)
  obtain ⟨m0, m1, m2, m3, m4, m5⟩ := aimOfM (x := x1) rfl a0 (by omega) qm
  unfold fX12_layWorthsOf_0 at h
  obtain ⟨⟨r1, w2⟩, b1, h⟩ := bd_some h
  obtain ⟨e1, f1⟩ := m0 _ _ b1
  rw [f1] at h
  obtain ⟨⟨r4, w5⟩, b4, h⟩ := bd_some h
  obtain ⟨e4, f4⟩ := m1 _ _ b4
  rw [f4] at h
  obtain ⟨⟨r7, w8⟩, b7, h⟩ := bd_some h
  obtain ⟨e7, f7⟩ := m2 _ _ b7
  rw [f7] at h
  obtain ⟨⟨r10, w11⟩, b10, h⟩ := bd_some h
  obtain ⟨e10, f10⟩ := m3 _ _ b10
  rw [f10] at h
  obtain ⟨⟨r13, w14⟩, b13', h⟩ := bd_some h
  obtain ⟨e13, f13⟩ := m4 _ _ b13'
  rw [f13] at h
  obtain ⟨⟨r16, w17⟩, b16, h⟩ := bd_some h
  obtain ⟨e16, f16⟩ := m5 _ _ b16
  rw [f16] at h
  rw [e1, e4, e7, e10, e13, e16] at h
  obtain ⟨⟨r19, w20⟩, b19, h⟩ := bd_some h
  have ew : w20 = v' := by cases h; rfl
  have b19 : fX12_layWorths_0 d a hh e w l v = some (r19, w20) := b19
  unfold fX12_layWorths_0 at b19
  generalize (5000 : Nat) = N3 at b19
  have hl : ∀ i : Nat, (i : Int) < (v.1 12).toInt → 0 ≤ (v.2.1 6 i).toInt ∧ (v.2.1 6 i).toInt < (u.1 5).toInt := fun i hi => by
    rw [← hp.1] at hi
    rw [← (hS.2.1 i hi).1]
    exact hPL i hi
  obtain ⟨q1, q2, q3, -, q5⟩ := layS b5 bd ba bh be bw bl qa N3 0 r19 v w20 hJ hV hl (by decide) (by decide) b19
  rw [← ew]
  refine ⟨q1, q2, q3, fun i hi => ?_⟩
  have q := q5 i (by show (0 : Int) ≤ _; omega) (by rw [← hp.1]; exact hi)
  rw [← (hS.2.1 i hi).1] at q
  exact q
theorem has7i {x r : Int32} {u u' : SX} (h : fX7_has_7 x u = some (r, u')) : u' = u ∧ ((r = 0 ∧ ¬ (0 ≤ x.toInt ∧ x.toInt < (u.1 13).toInt)) ∨ (r = 1 ∧ 0 ≤ x.toInt ∧ x.toInt < (u.1 13).toInt)) := by
  unfold fX7_has_7 at h
  by_cases c : x < 0
  · rw [if_pos c] at h
    have c9 : x.toInt < (0 : Int) := ltI c
    have e : (0 : Int32) = r ∧ u = u' := by cases (gd_some h).2; exact ⟨rfl, rfl⟩
    exact ⟨e.2.symm, Or.inl ⟨e.1.symm, by omega⟩⟩
  · rw [if_neg c] at h
    have c9 : ¬ x.toInt < (0 : Int) := nltI c
    by_cases d : u.1 13 ≤ x
    · rw [if_pos d] at h
      have d9 := leI d
      have e : (0 : Int32) = r ∧ u = u' := by cases (gd_some h).2; exact ⟨rfl, rfl⟩
      exact ⟨e.2.symm, Or.inl ⟨e.1.symm, by omega⟩⟩
    · rw [if_neg d] at h
      have d9 := nleI d
      have e : (1 : Int32) = r ∧ u = u' := by cases (gd_some h).2; exact ⟨rfl, rfl⟩
      exact ⟨e.2.symm, Or.inr ⟨e.1.symm, by omega, by omega⟩⟩
theorem isRi {x r : Int32} {u u' : SX} (h : fX12_isReading_0 x u = some (r, u')) : u' = u ∧ ((r = 0 ∧ ¬ (0 ≤ x.toInt ∧ x.toInt < (u.1 15).toInt)) ∨ (r = 1 ∧ 0 ≤ x.toInt ∧ x.toInt < (u.1 15).toInt)) := by
  unfold fX12_isReading_0 at h
  by_cases c : x < 0
  · rw [if_pos c] at h
    have c9 : x.toInt < (0 : Int) := ltI c
    have e : (0 : Int32) = r ∧ u = u' := by cases (gd_some h).2; exact ⟨rfl, rfl⟩
    exact ⟨e.2.symm, Or.inl ⟨e.1.symm, by omega⟩⟩
  · rw [if_neg c] at h
    have c9 : ¬ x.toInt < (0 : Int) := nltI c
    by_cases d : u.1 15 ≤ x
    · rw [if_pos d] at h
      have d9 := leI d
      have e : (0 : Int32) = r ∧ u = u' := by cases (gd_some h).2; exact ⟨rfl, rfl⟩
      exact ⟨e.2.symm, Or.inl ⟨e.1.symm, by omega⟩⟩
    · rw [if_neg d] at h
      have d9 := nleI d
      have e : (1 : Int32) = r ∧ u = u' := by cases (gd_some h).2; exact ⟨rfl, rfl⟩
      exact ⟨e.2.symm, Or.inr ⟨e.1.symm, by omega, by omega⟩⟩
theorem leans_eqV {x1 x2 r r' : Int32} {u u' v v' : SX} (hI : IX u) (hJ : IM v) (ht : Tie u v) (hp : TieP u v) (hS : TieS u v) (hV : TieV u v) (hPL : PL u) (hG : TieG u v) (hW : CW u) (h1 : fX11_leans_0 x1 x2 u = some (r, u')) (h2 : fX12_leans_0 x1 x2 v = some (r', v')) : r = r' ∧ CW u' := by
  unfold fX11_leans_0 at h1
  unfold fX12_leans_0 at h2
  obtain ⟨v1, e1, h2⟩ := lt_some h2
  have J1 : IM v1 := by rw [e1]; exact (StM_sI (md := ([0], [], [], [])) (StM_rf hJ) (by decide) (by decide) (by decide)).1
  have p1 : TieP u v1 := by rw [e1]; exact hp
  have S1 : TieS u v1 := by rw [e1]; exact TieS_of (fun _ _ => rfl) (fun _ _ => rfl) rfl (fun _ _ => rfl) hS
  have V1 : TieV u v1 := by rw [e1]; exact hV
  have G1 : TieG u v1 := by rw [e1]; exact TieG_of (fun _ _ => rfl) (fun _ _ => rfl) (fun _ _ => rfl) hG
  have t13 : v1.1 15 = u.1 13 := by rw [e1]; exact ht.2.2.2.2.2.symm
  clear e1
  obtain ⟨⟨s1, u2⟩, a1, h1⟩ := bd_some h1
  obtain ⟨⟨q3, v4⟩, b3, h2⟩ := bd_some h2
  obtain ⟨eu, ks⟩ := has7i a1
  obtain ⟨ev, kq⟩ := isRi b3
  rw [eu] at h1
  rw [ev] at h2
  rw [t13] at kq
  have same : ∀ {w1 w2 : SX}, some ((-100000000 : Int32), u) = some (r, u') → some ((-100000000 : Int32), w2) = some (r', v') → r = r' ∧ CW u' := fun {w1 w2} g1 g2 => by
    have x1 : (-100000000 : Int32) = r ∧ u = u' := by cases g1; exact ⟨rfl, rfl⟩
    have x2 : (-100000000 : Int32) = r' := by cases g2; rfl
    rw [← x1.1, ← x2, ← x1.2]
    exact ⟨rfl, hW⟩
  have h1 : (if s1 = 0 then (some ((-100000000), u)) else _) = some (r, u') := h1
  have h2 : (if q3 = 0 then (some ((-100000000), v1)) else _) = some (r', v') := h2
  rcases ks with ⟨z, kn⟩ | ⟨z, k0, k1⟩
  · have zq : q3 = 0 := by
      rcases kq with ⟨y, -⟩ | ⟨-, y0, y1⟩
      · exact y
      · exact absurd ⟨y0, y1⟩ kn
    rw [if_pos z] at h1
    rw [if_pos zq] at h2
    exact same (w1 := u) h1 h2
  · have zq : q3 = 1 := by
      rcases kq with ⟨-, y⟩ | ⟨y, -⟩
      · exact absurd ⟨k0, k1⟩ y
      · exact y
    rw [if_neg (ne01 z)] at h1
    rw [if_neg (ne01 zq)] at h2
    obtain ⟨⟨s4, u5⟩, a4, h1⟩ := bd_some h1
    obtain ⟨⟨q6, v7⟩, b6, h2⟩ := bd_some h2
    obtain ⟨eu5, ev7, es, hin⟩ := hasP p1.1 a4 b6
    rw [eu5] at h1
    rw [ev7, ← es] at h2
    have h1 : (if s4 = 0 then (some ((-100000000), u)) else _) = some (r, u') := h1
    have h2 : (if s4 = 0 then (some ((-100000000), v1)) else _) = some (r', v') := h2
    by_cases c4 : s4 = 0
    · rw [if_pos c4] at h1 h2
      exact same (w1 := u) h1 h2
    · rw [if_neg c4] at h1 h2
      obtain ⟨i0, i1⟩ := hin c4
      obtain ⟨⟨r7, u8⟩, a7, h1⟩ := bd_some h1
      obtain ⟨⟨r9, v10⟩, b9, h2⟩ := bd_some h2
      obtain ⟨-, h2⟩ := gd_some h2
      have er : r7 = r ∧ u8 = u' := by cases h1; exact ⟨rfl, rfl⟩
      have er' : v10.2.1 18 x2.toNatClampNeg = r' := by cases h2; rfl
      obtain ⟨w1, w2⟩ := leanV hI J1 V1 hPL G1 hW k0 k1 i0 i1 a7
      obtain ⟨-, -, -, w3⟩ := layOfS hI J1 p1 S1 V1 hPL G1 k0 k1 b9
      have w3 := w3 x2.toNatClampNeg (by show ((x2.toInt.toNat : Nat) : Int) < _; omega)
      rw [← er.1, ← er', ← er.2]
      exact ⟨WSay_uq hI w1 w3, w2⟩
