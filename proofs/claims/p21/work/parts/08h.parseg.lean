/-! count. -/
theorem done_cnt {u v : SX} (hI : IX u) (hp : TieP u v) : ∀ (n : Nat) (z2 z3 r : Int32) (u' : SX), 0 ≤ z3.toInt → z3.toInt ≤ (u.1 29).toInt → 0 ≤ z2.toInt → z2.toInt ≤ z3.toInt → LX3_doneUpTo_10_4 n (u.1 0) z2 z3 u = some (r, u') → r.toInt + (cntD (v.2.1 33) z3.toNatClampNeg : Int) = z2.toInt + (cntD (v.2.1 33) (u.1 29).toNatClampNeg : Int) := by
  obtain ⟨t1, t2, t3, t4⟩ := hp
  have bl : (u.1 29).toInt ≤ (10 : Int) := (hI.1 29).2
  intro n
  induction n with
  | zero => intro z2 z3 r u' _ _ _ _ h; cases h
  | succ n ih =>
    intro z2 z3 r u' h0 h1 h2 h3 h
    have h : (if (u.1 29) ≤ z3 then (some (z2, u)) else ((fX3_isDone_10 z3 u).bind _)) = some (r, u') := h
    by_cases c : u.1 29 ≤ z3
    · rw [if_pos c] at h
      have c9 := leI c
      have e : z2 = r := by cases h; rfl
      have ez : z3 = u.1 29 := Int32.toInt.inj (by omega)
      rw [← e, ez]
    · rw [if_neg c] at h
      have c9 : ¬ (u.1 29).toInt ≤ z3.toInt := nleI c
      have e3 : (z3 + 1).toInt = z3.toInt + 1 := addc_t (by decide) (by omega) (by omega)
      have en : (z3 + 1).toNatClampNeg = z3.toNatClampNeg + 1 := by
        show (z3 + 1).toInt.toNat = z3.toInt.toNat + 1
        rw [e3]
        omega
      obtain ⟨tt, tb⟩ := t4 z3.toNatClampNeg (by show ((z3.toInt.toNat : Nat) : Int) < _; omega)
      obtain ⟨⟨r1, u2⟩, a1, h⟩ := bd_some h
      unfold fX3_isDone_10 at a1
      obtain ⟨-, a1⟩ := gd_some a1
      by_cases cd : u.2.1 52 z3.toNatClampNeg = -1
      · rw [if_pos cd] at a1
        obtain ⟨-, a1⟩ := gd_some a1
        have e1 : (0 : Int32) = r1 ∧ u = u2 := by cases a1; exact ⟨rfl, rfl⟩
        rw [← e1.1, ← e1.2] at h
        have h : GX3_doneUpTo_10_33 (LX3_doneUpTo_10_4 n) (u.1 0) z2 z3 u = some (r, u') := h
        unfold GX3_doneUpTo_10_33 at h
        have q := ih z2 (z3 + 1) r u' (by rw [e3]; omega) (by rw [e3]; omega) h2 (by rw [e3]; omega) h
        rw [en] at q
        have k : cntD (v.2.1 33) (z3.toNatClampNeg + 1) = cntD (v.2.1 33) z3.toNatClampNeg := by
          show cntD (v.2.1 33) z3.toNatClampNeg + (if v.2.1 33 z3.toNatClampNeg = -1 then 0 else 1) = _
          rw [if_pos (tt.mp cd)]
          rfl
        rw [k] at q
        exact q
      · rw [if_neg cd] at a1
        obtain ⟨-, a1⟩ := gd_some a1
        have e1 : (1 : Int32) = r1 ∧ u = u2 := by cases a1; exact ⟨rfl, rfl⟩
        rw [← e1.1, ← e1.2] at h
        have h : (gd (inb z3 10) (if (u.1 0) < (u.2.1 52 z3.toNatClampNeg) then (GX3_doneUpTo_10_33 (LX3_doneUpTo_10_4 n) (u.1 0) z2 z3 u) else (GX3_doneUpTo_10_33 (LX3_doneUpTo_10_4 n) (u.1 0) (z2 + 1) z3 u))) = some (r, u') := h
        obtain ⟨-, h⟩ := gd_some h
        rw [if_neg (fun z => by have := ltI z; omega)] at h
        unfold GX3_doneUpTo_10_33 at h
        have e2 : (z2 + 1).toInt = z2.toInt + 1 := addc_t (by decide) (by omega) (by omega)
        have q := ih (z2 + 1) (z3 + 1) r u' (by rw [e3]; omega) (by rw [e3]; omega) (by rw [e2]; omega) (by rw [e3, e2]; omega) h
        rw [en, e2] at q
        have k : cntD (v.2.1 33) (z3.toNatClampNeg + 1) = cntD (v.2.1 33) z3.toNatClampNeg + 1 := by
          show cntD (v.2.1 33) z3.toNatClampNeg + (if v.2.1 33 z3.toNatClampNeg = -1 then 0 else 1) = _
          rw [if_neg (fun z => cd (tt.mpr z))]
        rw [k] at q
        omega
theorem count_eq {x1 r r' : Int32} {u u' v v' : SX} (hI : IX u) (hJ : IM v) (hE : EvM v) (ht : Tie u v) (hT : TieT u v) (hC : TieC u v) (hp : TieP u v) (h1 : fX11_count_0 x1 u = some (r, u')) (h2 : fX12_count_0 x1 v = some (r', v')) : r = r' := by
  unfold fX11_count_0 at h1
  unfold fX12_count_0 at h2
  obtain ⟨v1, e1, h2⟩ := lt_some h2
  have t : Tie u v1 := by rw [e1]; exact ht
  have T : TieT u v1 := by rw [e1]; exact hT
  have C : TieC u v1 := by rw [e1]; exact hC
  have P : TieP u v1 := by rw [e1]; exact hp
  have E : EvM v1 := by rw [e1]; exact EvM_fr (u := v) rfl rfl rfl rfl hE
  have b14 : (0 : Int) ≤ (v1.1 14).toInt ∧ (v1.1 14).toInt ≤ (20 : Int) := by rw [e1]; exact ⟨(hJ.1 14).1, (hJ.1 14).2⟩
  have b13 : (0 : Int) ≤ (v1.1 13).toInt ∧ (v1.1 13).toInt ≤ (30 : Int) := by rw [e1]; exact ⟨(hJ.1 13).1, (hJ.1 13).2⟩
  clear e1 ht hT hC hp hE
  have sm : ∀ {a b : Int32}, some (a, u) = some (r, u') → some (b, v1) = some (r', v') → a = b → r = r' := fun {a b} g1 g2 e => by
    have e1 : a = r := by cases g1; rfl
    have e2 : b = r' := by cases g2; rfl
    rw [← e1, ← e2, e]
  by_cases c0 : x1 = 0
  · rw [if_pos c0] at h1 h2
    exact sm h1 h2 t.1
  rw [if_neg c0] at h1 h2
  by_cases c1 : x1 = 1
  · rw [if_pos c1] at h1 h2
    exact sm h1 (gd_some h2).2 C.1
  rw [if_neg c1] at h1 h2
  by_cases c2 : x1 = 2
  · rw [if_pos c2] at h1 h2
    exact sm h1 (gd_some h2).2 C.2.1
  rw [if_neg c2] at h1 h2
  by_cases c3 : x1 = 3
  · rw [if_pos c3] at h1 h2
    exact sm h1 (gd_some h2).2 C.2.2
  rw [if_neg c3] at h1 h2
  by_cases c4 : x1 = 4
  · rw [if_pos c4] at h1 h2
    exact sm h1 h2 P.1
  rw [if_neg c4] at h1 h2
  by_cases c5 : x1 = 5
  · rw [if_pos c5] at h1 h2
    exact sm h1 h2 t.2.2.2.2.2
  rw [if_neg c5] at h1 h2
  by_cases c6 : x1 = 6
  · rw [if_pos c6] at h1 h2
    exact sm h1 h2 P.2.1
  rw [if_neg c6] at h1 h2
  by_cases c7 : x1 = 7
  · rw [if_pos c7] at h1 h2
    obtain ⟨⟨a, u2⟩, a1, h1⟩ := bd_some h1
    have e1 : a = r := by cases h1; rfl
    have e2 : v1.1 13 - v1.1 14 = r' := by cases h2; rfl
    unfold fX3_doneUpTo_10 at a1
    have q := done_cnt hI P 5000 0 0 a u2 (by decide) (by show (0 : Int) ≤ _; exact (hI.1 29).1) (by decide) (by decide) a1
    have q : a.toInt + ((cntD (v1.2.1 33) 0 : Nat) : Int) = 0 + (cntD (v1.2.1 33) (u.1 29).toNatClampNeg : Int) := q
    have q0 : cntD (v1.2.1 33) 0 = 0 := rfl
    have E : (v1.1 13).toInt = (v1.1 14).toInt + (cntD (v1.2.1 33) (v1.1 21).toNatClampNeg : Int) := E
    rw [P.2.1] at q
    rw [← e1, ← e2]
    apply Int32.toInt.inj
    rw [sub_t (by omega) (by omega)]
    omega
  rw [if_neg c7] at h1 h2
  by_cases c8 : x1 = 8
  · rw [if_pos c8] at h1 h2
    exact sm h1 h2 P.2.2.1
  rw [if_neg c8] at h1 h2
  by_cases c9 : x1 = 9
  · rw [if_pos c9] at h1 h2
    exact sm h1 h2 t.2.1
  rw [if_neg c9] at h1 h2
  by_cases c10 : x1 = 10
  · rw [if_pos c10] at h1 h2
    exact sm h1 h2 t.2.2.1
  rw [if_neg c10] at h1 h2
  by_cases c11 : x1 = 11
  · rw [if_pos c11] at h1 h2
    exact sm h1 h2 t.2.2.2.1
  rw [if_neg c11] at h1 h2
  by_cases c12 : x1 = 12
  · rw [if_pos c12] at h1 h2
    exact sm h1 h2 t.2.2.2.2.1
  rw [if_neg c12] at h1 h2
  by_cases c13 : x1 = 13
  · rw [if_pos c13] at h1 h2
    exact sm h1 h2 T.1
  rw [if_neg c13] at h1 h2
  exact sm h1 h2 rfl
