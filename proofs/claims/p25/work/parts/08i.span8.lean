/-! nothing. -/
theorem idle_L {v : SX} : ∀ (n : Nat) (z1 z2 : Int32) (u : SX) (r : Int32) (u' : SX), LX3_idle_10_4 n z1 z2 u = some (r, u') → u' = u := by
  intro n
  induction n with
  | zero => intro z1 z2 u r u' h; cases h
  | succ n ih =>
    intro z1 z2 u r u' h
    have h : (if (u.1 29) ≤ z2 then (some (z1, u)) else ((fX3_isDone_10 z2 u).bind fun q => match q with | (r1, u2) => (if r1 = 0 then (GX3_idle_10_56 (LX3_idle_10_4 n) z1 z2 u2) else (gd (inb z2 10) (gd (inb z2 10) (if (u2.2.1 53 z2.toNatClampNeg) = (u2.2.1 55 z2.toNatClampNeg) then (gd (inb z2 10) (gd (inb z2 10) (if (u2.2.1 54 z2.toNatClampNeg) = (u2.2.1 56 z2.toNatClampNeg) then (lt (z1 ||| (1 <<< (z2 &&& 31))) fun v8 => (GX3_idle_10_56 (LX3_idle_10_4 n) v8 z2 u2)) else (GX3_idle_10_56 (LX3_idle_10_4 n) z1 z2 u2)))) else (GX3_idle_10_56 (LX3_idle_10_4 n) z1 z2 u2))))))) = some (r, u') := h
    by_cases c : u.1 29 ≤ z2
    · rw [if_pos c] at h
      cases h
      rfl
    · rw [if_neg c] at h
      obtain ⟨⟨r1, u2⟩, a1, h⟩ := bd_some h
      have e2 : u2 = u := by
        unfold fX3_isDone_10 at a1
        obtain ⟨-, a1⟩ := gd_some a1
        by_cases d : u.2.1 52 z2.toNatClampNeg = -1
        · rw [if_pos d] at a1
          cases (gd_some a1).2
          rfl
        · rw [if_neg d] at a1
          cases (gd_some a1).2
          rfl
      rw [e2] at h
      have h : (if r1 = 0 then (GX3_idle_10_56 (LX3_idle_10_4 n) z1 z2 u) else (gd (inb z2 10) (gd (inb z2 10) (if (u.2.1 53 z2.toNatClampNeg) = (u.2.1 55 z2.toNatClampNeg) then (gd (inb z2 10) (gd (inb z2 10) (if (u.2.1 54 z2.toNatClampNeg) = (u.2.1 56 z2.toNatClampNeg) then (lt (z1 ||| (1 <<< (z2 &&& 31))) fun v8 => (GX3_idle_10_56 (LX3_idle_10_4 n) v8 z2 u)) else (GX3_idle_10_56 (LX3_idle_10_4 n) z1 z2 u)))) else (GX3_idle_10_56 (LX3_idle_10_4 n) z1 z2 u))))) = some (r, u') := h
      unfold GX3_idle_10_56 at h
      by_cases d : r1 = 0
      · rw [if_pos d] at h
        exact ih _ _ _ _ _ h
      · rw [if_neg d] at h
        obtain ⟨-, h⟩ := gd_some h
        obtain ⟨-, h⟩ := gd_some h
        by_cases d3 : u.2.1 53 z2.toNatClampNeg = u.2.1 55 z2.toNatClampNeg
        · rw [if_pos d3] at h
          obtain ⟨-, h⟩ := gd_some h
          obtain ⟨-, h⟩ := gd_some h
          by_cases d4 : u.2.1 54 z2.toNatClampNeg = u.2.1 56 z2.toNatClampNeg
          · rw [if_pos d4] at h
            obtain ⟨v8, -, h⟩ := lt_some h
            exact ih _ _ _ _ _ h
          · rw [if_neg d4] at h
            exact ih _ _ _ _ _ h
        · rw [if_neg d3] at h
          exact ih _ _ _ _ _ h
theorem noth_L {u v0 : SX} (hI : IX u) (hp : TieP u v0) (hS : TieS u v0) : ∀ (n m : Nat) (z1 z2 : Int32) (v : SX) (r r' : Int32) (u' v' : SX), IM v → v.1 = v0.1 → (∀ j, Nat.beq j 16 = false → Nat.beq j 17 = false → v.2.1 j = v0.2.1 j) → 0 ≤ z2.toInt → z2.toInt ≤ 10 → LX3_idle_10_4 n z1 z2 u = some (r, u') → LX12_nothing_0_9 m z1 z2 v = some (r', v') → r = r' := by
  obtain ⟨t1, t2, t3, t4⟩ := hp
  have hp0 : TieP u v0 := ⟨t1, t2, t3, t4⟩
  have bl : (u.1 29).toInt ≤ (10 : Int) := (hI.1 29).2
  intro n
  induction n with
  | zero => intro m z1 z2 v r r' u' v' _ _ _ _ _ h; cases h
  | succ n ih =>
    intro m z1 z2 v r r' u' v' hJ hv1 hvr h0 h9 h1 h2
    cases m with
    | zero => cases h2
    | succ m =>
      have f21 : v.1 21 = u.1 29 := by rw [hv1]; exact t2.symm
      have h1 : (if (u.1 29) ≤ z2 then (some (z1, u)) else ((fX3_isDone_10 z2 u).bind fun q => match q with | (r1, u2) => (if r1 = 0 then (GX3_idle_10_56 (LX3_idle_10_4 n) z1 z2 u2) else (gd (inb z2 10) (gd (inb z2 10) (if (u2.2.1 53 z2.toNatClampNeg) = (u2.2.1 55 z2.toNatClampNeg) then (gd (inb z2 10) (gd (inb z2 10) (if (u2.2.1 54 z2.toNatClampNeg) = (u2.2.1 56 z2.toNatClampNeg) then (lt (z1 ||| (1 <<< (z2 &&& 31))) fun v8 => (GX3_idle_10_56 (LX3_idle_10_4 n) v8 z2 u2)) else (GX3_idle_10_56 (LX3_idle_10_4 n) z1 z2 u2)))) else (GX3_idle_10_56 (LX3_idle_10_4 n) z1 z2 u2))))))) = some (r, u') := h1
      have h2 : (if (v.1 21) ≤ z2 then (some (z1, v)) else (gd (inb z2 10) (if (v.2.1 33 z2.toNatClampNeg) = (-1) then (GX12_nothing_0_128 (LX12_nothing_0_9 m) z1 z2 v) else (gd (inb z2 10) ((fX12_laySpans_0 (v.2.1 33 z2.toNatClampNeg) v).bind _))))) = some (r', v') := h2
      rw [f21] at h2
      by_cases c : u.1 29 ≤ z2
      · rw [if_pos c] at h1 h2
        have e1 : z1 = r := by cases h1; rfl
        have e2 : z1 = r' := by cases h2; rfl
        rw [← e1, ← e2]
      · rw [if_neg c] at h1 h2
        have c9 := nleI c
        have e3 : (z2 + 1).toInt = z2.toInt + 1 := addc_t (by decide) (by omega) (by omega)
        have hz : ((z2.toNatClampNeg : Nat) : Int) < (u.1 29).toInt := by
          show ((z2.toInt.toNat : Nat) : Int) < _
          omega
        obtain ⟨tt, -⟩ := t4 z2.toNatClampNeg hz
        obtain ⟨l1, l2, l3, l4, l5, l6, l7, l8⟩ := hS.2.2.2.1 z2.toNatClampNeg hz
        obtain ⟨⟨r1, u2⟩, a1, h1⟩ := bd_some h1
        obtain ⟨-, h2⟩ := gd_some h2
        rw [hvr 33 rfl rfl] at h2
        unfold fX3_isDone_10 at a1
        obtain ⟨-, a1⟩ := gd_some a1
        by_cases cd : u.2.1 52 z2.toNatClampNeg = -1
        · rw [if_pos cd] at a1
          have e1 : (0 : Int32) = r1 ∧ u = u2 := by cases (gd_some a1).2; exact ⟨rfl, rfl⟩
          rw [← e1.1, ← e1.2] at h1
          have h1 : GX3_idle_10_56 (LX3_idle_10_4 n) z1 z2 u = some (r, u') := h1
          unfold GX3_idle_10_56 at h1
          rw [if_pos (tt.mp cd)] at h2
          unfold GX12_nothing_0_128 at h2
          exact ih m z1 (z2 + 1) v r r' u' v' hJ hv1 hvr (by rw [e3]; omega) (by rw [e3]; omega) h1 h2
        · rw [if_neg cd] at a1
          have e1 : (1 : Int32) = r1 ∧ u = u2 := by cases (gd_some a1).2; exact ⟨rfl, rfl⟩
          rw [← e1.1, ← e1.2] at h1
          have h1 : (gd (inb z2 10) (gd (inb z2 10) (if (u.2.1 53 z2.toNatClampNeg) = (u.2.1 55 z2.toNatClampNeg) then (gd (inb z2 10) (gd (inb z2 10) (if (u.2.1 54 z2.toNatClampNeg) = (u.2.1 56 z2.toNatClampNeg) then (lt (z1 ||| (1 <<< (z2 &&& 31))) fun v8 => (GX3_idle_10_56 (LX3_idle_10_4 n) v8 z2 u)) else (GX3_idle_10_56 (LX3_idle_10_4 n) z1 z2 u)))) else (GX3_idle_10_56 (LX3_idle_10_4 n) z1 z2 u)))) = some (r, u') := h1
          unfold GX3_idle_10_56 at h1
          obtain ⟨-, h1⟩ := gd_some h1
          obtain ⟨-, h1⟩ := gd_some h1
          have nd : ¬ v0.2.1 33 z2.toNatClampNeg = -1 := fun z => cd (tt.mpr z)
          rw [if_neg nd] at h2
          obtain ⟨d1, d2, d3, d4, d5, d6, d7, d8⟩ := l8 nd
          obtain ⟨-, h2⟩ := gd_some h2
          obtain ⟨⟨r5, u6⟩, a5, h2⟩ := bd_some h2
          have hS1 : TieS u v := TieS_of (fun _ _ => rfl) (fun _ _ => rfl) (by rw [hv1]) (fun k hk => by
            have q : ∀ k, k ∈ smR → Nat.beq k 16 = false ∧ Nat.beq k 17 = false := by decide
            exact hvr k (q k hk).1 (q k hk).2) hS
          have hp1 : TieP u v := by
            refine ⟨by rw [hv1]; exact t1, by rw [hv1]; exact t2, by rw [hv1]; exact t3, fun i hi => ?_⟩
            rw [hvr 33 rfl rfl]
            exact t4 i hi
          have be : (v0.2.1 33 z2.toNatClampNeg).toInt < (v.1 13).toInt := by
            rw [← hS1.1]
            exact d2
          have b30 : (v.1 13).toInt ≤ (30 : Int) := (hJ.1 13).2
          obtain ⟨f1, f2, f3⟩ := lay_sp hJ d1 (by omega) (fun j hj => TieS_ho hS1 j (by omega)) (TieS_hp hp1 hS1) a5
          have J6 : IM u6 := (Tot_at (tfX12_laySpans_0 (v0.2.1 33 z2.toNatClampNeg) v hJ ⟨d1, by omega⟩) a5).1.1
          have hpn : (((u.2.1 48 z2.toNatClampNeg).toNatClampNeg : Nat) : Int) < (u.1 8).toInt := by
            show (((u.2.1 48 z2.toNatClampNeg).toInt.toNat : Nat) : Int) < _
            omega
          have f3' := f3 (u.2.1 48 z2.toNatClampNeg).toNatClampNeg (by rw [← hp1.1]; exact hpn)
          rw [← spn_eq hS1 (by show (((v0.2.1 33 z2.toNatClampNeg).toInt.toNat : Nat) : Int) ≤ _; omega) hpn, ← d3] at f3'
          have p29 : u6.2.1 29 z2.toNatClampNeg = u.2.1 48 z2.toNatClampNeg := by rw [f2 29 rfl rfl, hvr 29 rfl rfl]; exact l1.symm
          have p30 : u6.2.1 30 z2.toNatClampNeg = u.2.1 49 z2.toNatClampNeg := by rw [f2 30 rfl rfl, hvr 30 rfl rfl]; exact l2.symm
          have p31 : u6.2.1 31 z2.toNatClampNeg = u.2.1 50 z2.toNatClampNeg := by rw [f2 31 rfl rfl, hvr 31 rfl rfl]; exact l3.symm
          obtain ⟨-, h2⟩ := gd_some h2
          obtain ⟨-, h2⟩ := gd_some h2
          obtain ⟨v10, i10, h2⟩ := lt_some h2
          obtain ⟨-, h2⟩ := gd_some h2
          obtain ⟨-, h2⟩ := gd_some h2
          obtain ⟨v14, i14, h2⟩ := lt_some h2
          obtain ⟨-, h2⟩ := gd_some h2
          obtain ⟨-, h2⟩ := gd_some h2
          obtain ⟨-, h2⟩ := gd_some h2
          rw [p29] at i10 i14
          have q10 : v10 = u.2.1 53 z2.toNatClampNeg := i10.trans (congrArg Prod.fst f3')
          have q14 : v14 = u.2.1 54 z2.toNatClampNeg := i14.trans (congrArg Prod.snd f3')
          obtain ⟨⟨r19, u20⟩, a19, h2⟩ := bd_some h2
          have h2 : (gd (inb z2 10) (gd (inb (u20.2.1 29 z2.toNatClampNeg) 12) (if (u20.2.1 16 (u20.2.1 29 z2.toNatClampNeg).toNatClampNeg) = v10 then (gd (inb z2 10) (gd (inb (u20.2.1 29 z2.toNatClampNeg) 12) (if (u20.2.1 17 (u20.2.1 29 z2.toNatClampNeg).toNatClampNeg) = v14 then (GX12_nothing_0_126 (LX12_nothing_0_9 m) z2 (1 <<< (z2 &&& 31)) z1 u20) else (GX12_nothing_0_125 (LX12_nothing_0_9 m) z2 z1 u20)))) else (GX12_nothing_0_125 (LX12_nothing_0_9 m) z2 z1 u20)))) = some (r', v') := h2
          rw [p29, p30, p31] at a19
          have b48 : 0 ≤ (u.2.1 48 z2.toNatClampNeg).toInt ∧ (u.2.1 48 z2.toNatClampNeg).toInt ≤ 11 := hI.2.1 48 _
          have b49 : 0 ≤ (u.2.1 49 z2.toNatClampNeg).toInt ∧ (u.2.1 49 z2.toNatClampNeg).toInt ≤ 400 := hI.2.1 49 _
          have b50 : 0 ≤ (u.2.1 50 z2.toNatClampNeg).toInt ∧ (u.2.1 50 z2.toNatClampNeg).toInt ≤ 400 := hI.2.1 50 _
          have J20 : IM u20 := (Tot_at (tfX12_cutDown_0 _ _ _ u6 J6 b48 b50) a19).1.1
          obtain ⟨g1, g2, g3⟩ := cut_sp a19
          have p29' : u20.2.1 29 z2.toNatClampNeg = u.2.1 48 z2.toNatClampNeg := by rw [g2 29 rfl rfl]; exact p29
          rw [p29', q10, q14] at h2
          have g3' := g3 (u.2.1 48 z2.toNatClampNeg).toNatClampNeg
          rw [if_pos rfl, f3'] at g3'
          have le : (u.2.1 53 z2.toNatClampNeg).toInt ≤ (u.2.1 54 z2.toNatClampNeg).toInt := by
            have q : (spX u (v0.2.1 33 z2.toNatClampNeg).toNatClampNeg (u.2.1 48 z2.toNatClampNeg).toNatClampNeg).1.toInt ≤ (spX u (v0.2.1 33 z2.toNatClampNeg).toNatClampNeg (u.2.1 48 z2.toNatClampNeg).toNatClampNeg).2.toInt := rpS_le (hS.2.1 _ hpn).2.2.2.2.2.1 _ (fun j hj => (hS.2.2.1 j (by
              have hj : j < (v0.2.1 33 z2.toNatClampNeg).toInt.toNat := hj
              omega)).2.2.2.2.2.1)
            rw [← d3] at q
            exact q
          rw [cutM_eq le l5] at g3'
          have d4' : (u.2.1 55 z2.toNatClampNeg, u.2.1 56 z2.toNatClampNeg) = stepS 0 (u.2.1 49 z2.toNatClampNeg) (u.2.1 50 z2.toNatClampNeg) (u.2.1 53 z2.toNatClampNeg, u.2.1 54 z2.toNatClampNeg) := by
            rw [d4, d3]
            show (if (u.2.1 31 (v0.2.1 33 z2.toNatClampNeg).toNatClampNeg).toNatClampNeg = (u.2.1 48 z2.toNatClampNeg).toNatClampNeg then stepS (u.2.1 35 (v0.2.1 33 z2.toNatClampNeg).toNatClampNeg) (u.2.1 32 (v0.2.1 33 z2.toNatClampNeg).toNatClampNeg) (u.2.1 33 (v0.2.1 33 z2.toNatClampNeg).toNatClampNeg) (spX u (v0.2.1 33 z2.toNatClampNeg).toNatClampNeg (u.2.1 48 z2.toNatClampNeg).toNatClampNeg) else _) = _
            rw [d5, d6, d7, d8, if_pos rfl]
          rw [← d4'] at g3'
          have o1 : u20.2.1 16 (u.2.1 48 z2.toNatClampNeg).toNatClampNeg = u.2.1 55 z2.toNatClampNeg := congrArg Prod.fst g3'
          have o2 : u20.2.1 17 (u.2.1 48 z2.toNatClampNeg).toNatClampNeg = u.2.1 56 z2.toNatClampNeg := congrArg Prod.snd g3'
          rw [o1, o2] at h2
          obtain ⟨-, h2⟩ := gd_some h2
          obtain ⟨-, h2⟩ := gd_some h2
          have hv20 : u20.1 = v0.1 := by rw [g1, f1]; exact hv1
          have hr20 : ∀ j, Nat.beq j 16 = false → Nat.beq j 17 = false → u20.2.1 j = v0.2.1 j := fun j j1 j2 => (g2 j j1 j2).trans ((f2 j j1 j2).trans (hvr j j1 j2))
          unfold GX12_nothing_0_125 GX12_nothing_0_126 GX12_nothing_0_128 at h2
          have go : LX3_idle_10_4 n z1 (z2 + 1) u = some (r, u') → (lt (z1 ||| 0) fun v24 => LX12_nothing_0_9 m v24 (z2 + 1) u20) = some (r', v') → r = r' := fun x y => by
            obtain ⟨v24, i24, y⟩ := lt_some y
            have e0 : z1 ||| 0 = z1 := Int32.or_zero
            rw [i24, e0] at y
            exact ih m z1 (z2 + 1) u20 r r' u' v' J20 hv20 hr20 (by rw [e3]; omega) (by rw [e3]; omega) x y
          by_cases k1 : u.2.1 53 z2.toNatClampNeg = u.2.1 55 z2.toNatClampNeg
          · rw [if_pos k1] at h1
            rw [if_pos k1.symm] at h2
            obtain ⟨-, h1⟩ := gd_some h1
            obtain ⟨-, h1⟩ := gd_some h1
            obtain ⟨-, h2⟩ := gd_some h2
            obtain ⟨-, h2⟩ := gd_some h2
            by_cases k2 : u.2.1 54 z2.toNatClampNeg = u.2.1 56 z2.toNatClampNeg
            · rw [if_pos k2] at h1
              rw [if_pos k2.symm] at h2
              obtain ⟨v8, i8, h1⟩ := lt_some h1
              obtain ⟨v24, i24, h2⟩ := lt_some h2
              have ev : v24 = v8 := i24.trans i8.symm
              rw [ev] at h2
              exact ih m v8 (z2 + 1) u20 r r' u' v' J20 hv20 hr20 (by rw [e3]; omega) (by rw [e3]; omega) h1 h2
            · rw [if_neg k2] at h1
              rw [if_neg (fun z => k2 z.symm)] at h2
              exact go h1 h2
          · rw [if_neg k1] at h1
            rw [if_neg (fun z => k1 z.symm)] at h2
            exact go h1 h2
theorem nothing_eq {r r' : Int32} {u u' v v' : SX} (hI : IX u) (hJ : IM v) (hp : TieP u v) (hS : TieS u v) (h1 : fX11_nothing_0 u = some (r, u')) (h2 : fX12_nothing_0 v = some (r', v')) : r = r' := by
  unfold fX11_nothing_0 fX3_idle_10 at h1
  unfold fX12_nothing_0 at h2
  obtain ⟨⟨r1, u2⟩, a1, h1⟩ := bd_some h1
  have e1 : r1 = r := by cases h1; rfl
  rw [e1] at a1
  obtain ⟨v1, i1, h2⟩ := lt_some h2
  have hJ1 : IM (sI v 0 0) := (StM_sI (md := ([0], [], [], [])) (StM_rf hJ) (by decide) (by decide) (by decide)).1
  have hS1 : TieS u (sI v 0 0) := TieS_of (fun _ _ => rfl) (fun _ _ => rfl) rfl (fun _ _ => rfl) hS
  have hp1 : TieP u (sI v 0 0) := hp
  rw [i1] at h2
  exact noth_L hI hp1 hS1 5000 5000 0 0 (sI v 0 0) r r' u2 v' hJ1 rfl (fun _ _ _ => rfl) (by decide) (by decide) a1 h2
