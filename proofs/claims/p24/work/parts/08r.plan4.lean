/-! The reference's rows. -/
theorem prf_tr {a b d : Nat} (h : prf a b) (h' : prf b d) : prf a d := by
  obtain ⟨k, p, q, r⟩ := h
  obtain ⟨k', p', q', r'⟩ := h'
  rcases Nat.lt_trichotomy k k' with g | g | g
  · exact ⟨k, fun j hj => (p j hj).trans (p' j (by omega)), q, by rw [← p' k g]; exact r⟩
  · rw [g] at r
    rw [r] at q'
    exact absurd q' (by decide)
  · exact ⟨k', fun j hj => (p j (by omega)).trans (p' j hj), by rw [p k' g]; exact q', r'⟩
theorem bitM {z : Int32} {s : Nat} (h0 : 0 ≤ z.toInt) (h9 : z.toInt ≤ 12) (hs : s < 4096) : (Int32.ofNat s >>> (z &&& 31)) &&& 1 = 1 ↔ s.testBit z.toNatClampNeg = true := by
  have t := tnP h0
  have e : Int32.ofNat s >>> (z &&& 31) = Int32.ofNat (s / 2 ^ z.toNatClampNeg) := by
    apply Int32.toInt.inj
    rw [shr_t (n := z.toNatClampNeg) t.symm (by omega), ofN_t hs, ofN_t (Nat.lt_of_le_of_lt (Nat.div_le_self _ _) hs), Int.natCast_ediv, Int.natCast_pow]
    rfl
  rw [e, show (1 : Int32) = Int32.ofNat 1 from rfl, ofN_and, Nat.testBit_eq_decide_div_mod_eq, Nat.and_one_is_mod, decide_eq_true_eq]
  have hm : s / 2 ^ z.toNatClampNeg % 2 < 2 := Nat.mod_lt _ (by decide)
  constructor
  · intro g
    have := congrArg Int32.toInt g
    rw [ofN_t (by omega), ofN_t (by decide)] at this
    omega
  · intro g
    rw [g]
theorem shlM {z : Int32} (h0 : 0 ≤ z.toInt) (h9 : z.toInt ≤ 12) : (1 <<< (z &&& 31) : Int32).toInt = ((2 ^ z.toNatClampNeg : Nat) : Int) := by
  rw [shl1_e (tnP h0).symm (by have := tnP h0; omega)]
  exact (Int.natCast_pow 2 _).symm
theorem pow10 {n : Nat} (h : n ≤ 10) : 2 ^ n ≤ 1024 := Nat.le_trans (Nat.pow_le_pow_right (by decide) h) (by decide)
theorem rowM18 {u v : SX} (hI : IX u) (hp : TieP u v) {s : Nat} (hs : s < 4096) : ∀ (n : Nat) (z : Int32) (r : Int32) (v' : SX), 0 ≤ z.toInt → (∀ j, j < z.toNatClampNeg → s.testBit j = true → u.2.1 52 j = -1) → LX12_isRow_0_18 n (Int32.ofNat s) z v = some (r, v') → v' = v ∧ ((r = 1 ∧ ∀ j, j < (u.1 29).toNatClampNeg → s.testBit j = true → u.2.1 52 j = -1) ∨ (r = 0 ∧ ¬ ∀ j, j < (u.1 29).toNatClampNeg → s.testBit j = true → u.2.1 52 j = -1)) := by
  intro n
  induction n with
  | zero => intro z r v' _ _ h; cases h
  | succ n ih =>
    intro z r v' h0 hb h
    have b29 : (u.1 29).toInt ≤ (10 : Int) := (hI.1 29).2
    have z29 : (0 : Int) ≤ (u.1 29).toInt := (hI.1 29).1
    have h : (if (v.1 21) ≤ z then (gd (isB 1) (some (1, v))) else (if ((Int32.ofNat s >>> (z &&& 31)) &&& 1) = 1 then (gd (inb z 10) (if (v.2.1 33 z.toNatClampNeg) = (-1) then (LX12_isRow_0_18 n (Int32.ofNat s) (z + 1) v) else (gd (isB 0) (some ((0 : Int32), v))))) else (LX12_isRow_0_18 n (Int32.ofNat s) (z + 1) v))) = some (r, v') := h
    rw [← hp.2.1] at h
    have t := tnP h0
    have t29 := tnP z29
    by_cases c : u.1 29 ≤ z
    · rw [if_pos c] at h
      have c9 := leI c
      obtain ⟨-, h⟩ := gd_some h
      have e : r = 1 ∧ v' = v := by cases h; exact ⟨rfl, rfl⟩
      exact ⟨e.2, Or.inl ⟨e.1, fun j hj => hb j (by omega)⟩⟩
    · rw [if_neg c] at h
      have c9 := nleI c
      have et : (z + 1).toInt = z.toInt + 1 := addc_t (by decide) (by omega) (by omega)
      have en := ns1 h0 (show z.toInt ≤ 5000 by omega)
      have nx : (s.testBit z.toNatClampNeg = true → u.2.1 52 z.toNatClampNeg = -1) → LX12_isRow_0_18 n (Int32.ofNat s) (z + 1) v = some (r, v') → _ := fun q g => ih (z + 1) r v' (by rw [et]; omega) (fun j hj => by
        by_cases cj : j = z.toNatClampNeg
        · rw [cj]
          exact q
        · exact hb j (by omega)) g
      by_cases cb : (Int32.ofNat s >>> (z &&& 31)) &&& 1 = 1
      · rw [if_pos cb] at h
        have tb := (bitM h0 (by omega) hs).mp cb
        obtain ⟨-, h⟩ := gd_some h
        have k := (hp.2.2.2 z.toNatClampNeg (by omega)).1
        by_cases cd : v.2.1 33 z.toNatClampNeg = -1
        · rw [if_pos cd] at h
          exact nx (fun _ => k.mpr cd) h
        · rw [if_neg cd] at h
          obtain ⟨-, h⟩ := gd_some h
          have e : r = 0 ∧ v' = v := by cases h; exact ⟨rfl, rfl⟩
          exact ⟨e.2, Or.inr ⟨e.1, fun z' => cd (k.mp (z' _ (by omega) tb))⟩⟩
      · rw [if_neg cb] at h
        exact nx (fun z' => absurd ((bitM h0 (by omega) hs).mpr z') cb) h
theorem rowM {u v v' : SX} {r : Int32} (hI : IX u) (hp : TieP u v) {s : Nat} (hs : s < 2 ^ (u.1 29).toNatClampNeg) (h : fX12_isRow_0 (Int32.ofNat s) v = some (r, v')) : v' = v ∧ ((r = 1 ∧ ∀ j, j < (u.1 29).toNatClampNeg → s.testBit j = true → u.2.1 52 j = -1) ∨ (r = 0 ∧ ¬ ∀ j, j < (u.1 29).toNatClampNeg → s.testBit j = true → u.2.1 52 j = -1)) := by
  have b29 : (u.1 29).toInt ≤ (10 : Int) := (hI.1 29).2
  have z29 : (0 : Int) ≤ (u.1 29).toInt := (hI.1 29).1
  have t29 := tnP z29
  have hp10 := pow10 (n := (u.1 29).toNatClampNeg) (by omega)
  unfold fX12_isRow_0 at h
  rw [← hp.2.1] at h
  have n0 : ¬ Int32.ofNat s < 0 := fun z => by
    have z : (Int32.ofNat s).toInt < (0 : Int) := ltI z
    rw [ofN_t (by omega)] at z
    omega
  have lt : Int32.ofNat s < 1 <<< ((u.1 29) &&& 31) := Int32.lt_iff_toInt_lt.mpr (by
    rw [ofN_t (by omega), shlM z29 (by omega)]
    omega)
  rw [if_neg n0, if_pos lt] at h
  exact rowM18 hI hp (by omega) 5000 0 r v' (by decide) (fun j hj => absurd hj (Nat.not_lt_zero _)) h
theorem cost76 {u v : SX} {k118 : Int32 → Int32 → Int32 → Int32 → Int32 → Int32 → Int32 → Int32 → SX → Option (Int32 × SX)} {z1 z2 z3 z4 z5 z6 r : Int32} {v' : SX} (hI : IX u) (hp : TieP u v) (hS : TieS u v) {s : Nat} (hs : s < 4096) : ∀ (n : Nat) (z8 z9 : Int32), 0 ≤ z9.toInt → z9.toInt ≤ (u.1 29).toInt → z8.toInt = cosN u s z9.toNatClampNeg → LX12_plan_0_76 k118 n z1 z2 z3 z4 z5 z6 (Int32.ofNat s) z8 z9 v = some (r, v') → ∃ y : Int32, y.toInt = cosN u s (u.1 29).toNatClampNeg ∧ k118 z1 z2 z3 z4 z5 z6 (Int32.ofNat s) y v = some (r, v') := by
  intro n
  induction n with
  | zero => intro z8 z9 _ _ _ h; cases h
  | succ n ih =>
    intro z8 z9 h0 h9 hc h
    have b29 : (u.1 29).toInt ≤ (10 : Int) := (hI.1 29).2
    have z29 : (0 : Int) ≤ (u.1 29).toInt := (hI.1 29).1
    have h : (if (v.1 21) ≤ z9 then (k118 z1 z2 z3 z4 z5 z6 (Int32.ofNat s) z8 v) else (if ((Int32.ofNat s >>> (z9 &&& 31)) &&& 1) = 1 then (gd (inb z9 10) (GX12_plan_0_109 (LX12_plan_0_76 k118 n) z1 z2 z3 z4 z5 z6 (Int32.ofNat s) z9 (v.2.1 32 z9.toNatClampNeg) z8 v)) else (GX12_plan_0_109 (LX12_plan_0_76 k118 n) z1 z2 z3 z4 z5 z6 (Int32.ofNat s) z9 0 z8 v))) = some (r, v') := h
    rw [← hp.2.1] at h
    have t := tnP h0
    have t29 := tnP z29
    by_cases c : u.1 29 ≤ z9
    · rw [if_pos c] at h
      have c9 := leI c
      rw [show z9.toNatClampNeg = (u.1 29).toNatClampNeg by omega] at hc
      exact ⟨z8, hc, h⟩
    · rw [if_neg c] at h
      have c9 := nleI c
      have et : (z9 + 1).toInt = z9.toInt + 1 := addc_t (by decide) (by omega) (by omega)
      have en := ns1 h0 (show z9.toInt ≤ 5000 by omega)
      have cb := cosN_b (s := s) hI z9.toNatClampNeg
      have b51 : (0 : Int) ≤ (u.2.1 51 z9.toNatClampNeg).toInt := (hI.2.1 51 _).1
      have c51 : (u.2.1 51 z9.toNatClampNeg).toInt ≤ (50 : Int) := (hI.2.1 51 _).2
      have go : ∀ y0 : Int32, y0.toInt = (if s.testBit z9.toNatClampNeg = true then (u.2.1 51 z9.toNatClampNeg).toInt else 0) → GX12_plan_0_109 (LX12_plan_0_76 k118 n) z1 z2 z3 z4 z5 z6 (Int32.ofNat s) z9 y0 z8 v = some (r, v') → ∃ y : Int32, y.toInt = cosN u s (u.1 29).toNatClampNeg ∧ k118 z1 z2 z3 z4 z5 z6 (Int32.ofNat s) y v = some (r, v') := fun y0 ey g => by
        unfold GX12_plan_0_109 at g
        obtain ⟨v15, j15, g⟩ := lt_some g
        refine ih v15 (z9 + 1) (by rw [et]; omega) (by rw [et]; omega) ?_ g
        have by0 : 0 ≤ y0.toInt ∧ y0.toInt ≤ 50 := by
          rw [ey]
          by_cases q : s.testBit z9.toNatClampNeg = true
          · rw [if_pos q]
            exact ⟨b51, c51⟩
          · rw [if_neg q]
            omega
        rw [en, cosN_s, ← ey, j15, add_t (by omega) (by omega), hc]
      by_cases cb : (Int32.ofNat s >>> (z9 &&& 31)) &&& 1 = 1
      · rw [if_pos cb] at h
        obtain ⟨-, h⟩ := gd_some h
        refine go _ ?_ h
        rw [if_pos ((bitM h0 (by omega) hs).mp cb), (hS.2.2.2.1 z9.toNatClampNeg (by omega)).2.2.2.1]
      · rw [if_neg cb] at h
        refine go 0 ?_ h
        rw [if_neg (fun z => cb ((bitM h0 (by omega) hs).mpr z))]
        decide
theorem stepS8 {a b : Int32} {p : Int32 × Int32} (hp : Sb p) (a0 : 0 ≤ a.toInt) (a9 : a.toInt ≤ 400) (b0 : 0 ≤ b.toInt) (b9 : b.toInt ≤ 400) : Sb (stepS 0 a b p) := by
  unfold stepS
  rw [if_pos rfl]
  by_cases c : p.2 < a
  · rw [if_pos c]
    exact ⟨⟨a0, a9⟩, b0, b9⟩
  · rw [if_neg c]
    by_cases d : p.1 ≤ b
    · rw [if_pos d]
      refine ⟨?_, ?_⟩
      · by_cases e : p.1 < a
        · show 0 ≤ (if p.1 < a then a else p.1).toInt ∧ (if p.1 < a then a else p.1).toInt ≤ 400
          rw [if_pos e]
          exact ⟨a0, a9⟩
        · show 0 ≤ (if p.1 < a then a else p.1).toInt ∧ (if p.1 < a then a else p.1).toInt ≤ 400
          rw [if_neg e]
          exact hp.1
      · by_cases e : b < p.2
        · show 0 ≤ (if b < p.2 then b else p.2).toInt ∧ (if b < p.2 then b else p.2).toInt ≤ 400
          rw [if_pos e]
          exact ⟨b0, b9⟩
        · show 0 ≤ (if b < p.2 then b else p.2).toInt ∧ (if b < p.2 then b else p.2).toInt ≤ 400
          rw [if_neg e]
          exact hp.2
    · rw [if_neg d]
      exact ⟨⟨a0, a9⟩, b0, b9⟩
theorem cutN_Sb {u : SX} (hI : IX u) {S : Nat → Int32 × Int32} (hS : ∀ j, Sb (S j)) {s : Nat} : ∀ i j : Nat, Sb (cutN u S s i j) := by
  intro i
  induction i with
  | zero => intro j; exact hS j
  | succ i ih =>
    intro j
    rw [cutN_s]
    by_cases c : s.testBit i = true ∧ (u.2.1 48 i).toNatClampNeg = j
    · rw [if_pos c]
      exact stepS8 (ih j) (hI.2.1 49 _).1 (hI.2.1 49 _).2 (hI.2.1 50 _).1 (hI.2.1 50 _).2
    · rw [if_neg c]
      exact ih j
theorem cutN_le {u v : SX} (hT : TieS u v) {S : Nat → Int32 × Int32} (hS : ∀ j : Nat, (j : Int) < (u.1 8).toInt → (S j).1.toInt ≤ (S j).2.toInt) {s : Nat} : ∀ i : Nat, (i : Int) ≤ (u.1 29).toInt → ∀ j : Nat, (j : Int) < (u.1 8).toInt → (cutN u S s i j).1.toInt ≤ (cutN u S s i j).2.toInt := by
  intro i
  induction i with
  | zero => intro _ j hj; exact hS j hj
  | succ i ih =>
    intro hi j hj
    rw [cutN_s]
    by_cases c : s.testBit i = true ∧ (u.2.1 48 i).toNatClampNeg = j
    · rw [if_pos c]
      exact stepS_le (ih (by omega) j hj) (hT.2.2.2.1 i (by omega)).2.2.2.2.1
    · rw [if_neg c]
      exact ih (by omega) j hj
theorem sprB {w : Int32} {p : Int32 × Int32} (hw : Bw w) (hp : Sb p) : 0 ≤ (spr w p).toInt ∧ (spr w p).toInt ≤ 8000000 := by
  have a := shnB hp.1.1 hp.1.2 hw
  have b := shnB hp.2.1 hp.2.2 hw
  have e : (shn p.2 w - shn p.1 w).toInt = (shn p.2 w).toInt - (shn p.1 w).toInt := sub_t (by omega) (by omega)
  unfold spr
  by_cases c : 0 ≤ shn p.2 w - shn p.1 w
  · rw [if_pos c]
    have c9 : (0 : Int) ≤ (shn p.2 w - shn p.1 w).toInt := leI c
    omega
  · rw [if_neg c]
    have c9 : ¬ (0 : Int) ≤ (shn p.2 w - shn p.1 w).toInt := nleI c
    have e2 : (0 - (shn p.2 w - shn p.1 w)).toInt = 0 - (shn p.2 w - shn p.1 w).toInt := by
      have z : (0 : Int32).toInt = 0 := by decide
      rw [sub_t (by rw [z]; omega) (by rw [z]; omega), z]
    omega
theorem sumW8 {g : Nat → Int32} : ∀ k : Nat, k ≤ 12 → (∀ i, i < k → 0 ≤ (g i).toInt ∧ (g i).toInt ≤ 8000000) → 0 ≤ (sumW g k).toInt ∧ (sumW g k).toInt ≤ 8000000 * (k : Int) := by
  intro k
  induction k with
  | zero => intro _ _; exact ⟨by show (0 : Int) ≤ (0 : Int32).toInt; decide, by show (0 : Int32).toInt ≤ 8000000 * ((0 : Nat) : Int); decide⟩
  | succ k ih =>
    intro hk hg
    obtain ⟨a, b⟩ := ih (by omega) (fun i hi => hg i (by omega))
    obtain ⟨c, d⟩ := hg k (by omega)
    show 0 ≤ (sumW g k + g k).toInt ∧ (sumW g k + g k).toInt ≤ _
    rw [add_t (by omega) (by omega)]
    omega
theorem wF_b {u v : SX} (hI : IX u) (hM : MR u v) (hL : PL u) {S : Nat → Int32 × Int32} (hS : ∀ j, Sb (S j)) (a0 : 0 ≤ (u.1 32).toInt) (a1 : (u.1 32).toInt < (u.1 13).toInt) (t : Nat) : 0 ≤ (wF u S t).toInt ∧ (wF u S t).toInt ≤ 96000000 := by
  have b8 : (u.1 8).toInt ≤ (12 : Int) := (hI.1 8).2
  have z8 : (0 : Int) ≤ (u.1 8).toInt := (hI.1 8).1
  have t8 := tnP z8
  have t32 := tnP a0
  have m := sumW8 (g := fun i => spr (ww u (u.1 32).toNatClampNeg i) (cutN u S t (u.1 29).toNatClampNeg i)) (u.1 8).toNatClampNeg (by omega) (fun i hi => sprB (wwB hI hM.1 hM.2.2.2.1 hM.2.2.2.2 hL (by omega) (by omega)) (cutN_Sb hI hS _ _))
  unfold wF wI wdS
  omega
/-- what the reference judges of a row -/
theorem judM10 {u : SX} {S : Nat → Int32 × Int32} {s : Nat} {x2 : Int32} (hI : IX u) (hPL : PL u) (hs : s < 4096) (e32 : x2 = u.1 32) (a0 : 0 ≤ x2.toInt) (a1 : x2.toInt < (u.1 13).toInt) (ho : ∀ j : Nat, (j : Int) < (u.1 8).toInt → (S j).1.toInt ≤ (S j).2.toInt) : ∀ (m : Nat) (z r : Int32) (v v' : SX), MR u v → v.1 1 = u.1 0 → 0 ≤ z.toInt → z.toInt ≤ (u.1 29).toInt → SPv u (cutN u S s z.toNatClampNeg) v → LX12_judged_0_10 GX12_judged_0_55 m (Int32.ofNat s) x2 z v = some (r, v') → MR u v' ∧ v'.1 1 = u.1 0 ∧ r = wF u S s := by
  intro m
  induction m with
  | zero => intro z r v v' _ _ _ _ _ h; cases h
  | succ m ih =>
    intro z r v v' hM e1 h0 h9 hsp h
    have hp := hM.2.1
    have hS := hM.2.2.1
    have b29 : (u.1 29).toInt ≤ (10 : Int) := (hI.1 29).2
    have z29 : (0 : Int) ≤ (u.1 29).toInt := (hI.1 29).1
    have h : (if (v.1 21) ≤ z then (GX12_judged_0_55 x2 v) else (if ((Int32.ofNat s >>> (z &&& 31)) &&& 1) = 1 then (gd (inb z 10) (gd (inb z 10) (gd (inb z 10) ((fX12_cutDown_0 (v.2.1 29 z.toNatClampNeg) (v.2.1 30 z.toNatClampNeg) (v.2.1 31 z.toNatClampNeg) v).bind fun q => match q with | (r7, u8) => (GX12_judged_0_49 (LX12_judged_0_10 GX12_judged_0_55 m) (Int32.ofNat s) x2 z u8))))) else (GX12_judged_0_49 (LX12_judged_0_10 GX12_judged_0_55 m) (Int32.ofNat s) x2 z v))) = some (r, v') := h
    rw [← hp.2.1] at h
    have t := tnP h0
    have t29 := tnP z29
    by_cases c : u.1 29 ≤ z
    · rw [if_pos c] at h
      have c9 := leI c
      unfold GX12_judged_0_55 at h
      obtain ⟨⟨r10, v11⟩, a10, h⟩ := bd_some h
      have q2 : r10 = r ∧ v11 = v' := by cases h; exact ⟨rfl, rfl⟩
      obtain ⟨w1, w2, w3⟩ := wide_sp hI hPL hM hsp e1 a0 a1 a10
      rw [← q2.1, ← q2.2]
      refine ⟨w1, w2, ?_⟩
      rw [w3, show z.toNatClampNeg = (u.1 29).toNatClampNeg by omega, e32]
      rfl
    · rw [if_neg c] at h
      have c9 := nleI c
      have et : (z + 1).toInt = z.toInt + 1 := addc_t (by decide) (by omega) (by omega)
      have en := ns1 h0 (show z.toInt ≤ 5000 by omega)
      by_cases cb : (Int32.ofNat s >>> (z &&& 31)) &&& 1 = 1
      · rw [if_pos cb] at h
        have tb := (bitM h0 (by omega) hs).mp cb
        obtain ⟨l1, l2, l3, -, l5, l6, l7, -⟩ := hS.2.2.2.1 z.toNatClampNeg (by omega)
        obtain ⟨-, h⟩ := gd_some h
        obtain ⟨-, h⟩ := gd_some h
        obtain ⟨-, h⟩ := gd_some h
        obtain ⟨⟨r7, v8⟩, b7, h⟩ := bd_some h
        rw [← l1, ← l2, ← l3] at b7
        have t8 : StM mdX12_cutDown_0 v v8 := (Tot_at (tfX12_cutDown_0 _ _ _ v hM.1 ⟨l6, by have : (u.1 8).toInt ≤ (12 : Int) := (hI.1 8).2; omega⟩ ⟨(hI.2.1 50 _).1, (hI.2.1 50 _).2⟩) b7).1
        obtain ⟨d1, -, d3⟩ := cut_sp b7
        have M8 : MR u v8 := MR_md t8.1 t8.2 (by decide) hM
        refine ih (z + 1) r v8 v' M8 (by rw [d1]; exact e1) (by rw [et]; omega) (by rw [et]; omega) (fun i hi => ?_) h
        rw [en, d3 i, hsp i hi, cutN_s]
        by_cases ci : (u.2.1 48 z.toNatClampNeg).toNatClampNeg = i
        · rw [if_pos ci, if_pos ⟨tb, ci⟩]
          exact cutM_eq (cutN_le hS ho z.toNatClampNeg (by omega) i hi) l5
        · rw [if_neg ci, if_neg (fun z => ci z.2)]
      · rw [if_neg cb] at h
        refine ih (z + 1) r v v' hM e1 (by rw [et]; omega) (by rw [et]; omega) (fun i hi => ?_) h
        rw [en, hsp i hi, cutN_s, if_neg (fun q => cb ((bitM h0 (by omega) hs).mpr q.1))]
