/-! The reference's test of a set, as a whole; which of two sets is better. -/
theorem is2 {u : SX} {S : Nat → Int32 × Int32} {q kp kr r : Int32} {s : Nat} {v v' : SX} (hI : IX u) (hM : MR u v) (e15 : v.1 15 = u.1 13) (hs : s < 4096) (hU : UpTo (u.2.1 25) q (u.1 8) kp) (hr : UpTo (u.2.1 37) q (u.1 13) kr) (hw : ∀ m i : Nat, (m : Int) < kr.toInt → (i : Int) < kp.toInt → Bw (ww u m i)) (hS : ∀ i : Nat, (i : Int) < kp.toInt → Sb (S i)) (ht : ∀ m i : Nat, (m : Int) < kr.toInt → (i : Int) < kp.toInt → TB u S v m i) : ∀ (n : Nat) (z3 : Int32), 0 ≤ z3.toInt → z3.toInt ≤ (u.1 13).toInt → (∀ m : Nat, (m : Int) < z3.toInt → (m : Int) < kr.toInt → loR u S m s kp.toNatClampNeg ≤ 0 ∧ 0 ≤ upR u S m s kp.toNatClampNeg) → LX12_isSet_0_2 n (Int32.ofNat s) q z3 v = some (r, v') → v' = v ∧ ((r = 1 ∧ CV u S kr.toNatClampNeg kp.toNatClampNeg s) ∨ (r = 0 ∧ ¬ CV u S kr.toNatClampNeg kp.toNatClampNeg s)) := by
  intro n
  induction n with
  | zero => intro z3 _ _ _ h; cases h
  | succ n ih =>
    intro z3 h0 h9 hb h
    have b13 : (u.1 13).toInt ≤ (80 : Int) := (hI.1 13).2
    have h : (if (v.1 15) ≤ z3 then (gd (isB 1) (some (1, v))) else (gd (inb z3 80) (if (v.2.1 21 z3.toNatClampNeg) ≤ q then (gd (inb z3 80) (lt (v.2.1 20 z3.toNatClampNeg) fun v4 => (gd (inb z3 80) (lt (v.2.1 20 z3.toNatClampNeg) fun v7 => (LX12_isSet_0_42 (GX12_isSet_0_162 (LX12_isSet_0_2 n)) 5000 (Int32.ofNat s) q z3 v4 v7 0 v))))) else (LX12_isSet_0_2 n (Int32.ofNat s) q (z3 + 1) v)))) = some (r, v') := h
    rw [e15] at h
    have t3 := tnS h0
    have tk := tnS hr.1
    by_cases c : u.1 13 ≤ z3
    · rw [if_pos c] at h
      have c9 := leI c
      have k9 := hr.2.1
      obtain ⟨-, h⟩ := gd_some h
      have e : r = 1 ∧ v' = v := by cases h; exact ⟨rfl, rfl⟩
      exact ⟨e.2, Or.inl ⟨e.1, fun m hm => hb m (by omega) (by omega)⟩⟩
    · rw [if_neg c] at h
      have c9 := nleI c
      have et : (z3 + 1).toInt = z3.toInt + 1 := addc_t (by decide) (by omega) (by omega)
      obtain ⟨-, h⟩ := gd_some h
      have hd := (hM.2.2.2.2.1 z3.toNatClampNeg (by omega))
      have srt := hM.2.2.2.2.2
      rw [← hd.1] at h
      by_cases cd : u.2.1 37 z3.toNatClampNeg ≤ q
      · rw [if_pos cd] at h
        have hlt := UpTo_in srt hr (i := z3.toNatClampNeg) (by omega) (leI cd)
        obtain ⟨-, h⟩ := gd_some h
        obtain ⟨v4, j4, h⟩ := lt_some h
        obtain ⟨-, h⟩ := gd_some h
        obtain ⟨v7, j7, h⟩ := lt_some h
        rw [← hd.2.1] at j4 j7
        have m0 : min (0 : Int32).toNatClampNeg kp.toNatClampNeg = 0 := Nat.zero_min _
        have hN : -100000 ≤ (u.2.1 40 z3.toNatClampNeg).toInt ∧ (u.2.1 40 z3.toNatClampNeg).toInt ≤ 100000 := ⟨(hI.2.1 40 _).1, (hI.2.1 40 _).2⟩
        obtain ⟨y4, y5, e4, e5, h⟩ := is42 (S := S) (kp := kp) hI hM hs hU (fun i hi => hw _ i hlt hi) hS h0 (by omega) hN (fun i hi => ht _ i hlt hi) 5000 v4 v7 0 (by decide) (Int.le_trans (by decide) (hI.1 8).1) (by rw [m0, j4]; rfl) (by rw [m0, j7]; rfl) h
        unfold GX12_isSet_0_162 GX12_isSet_0_174 at h
        have bad : ¬ (loR u S z3.toNatClampNeg s kp.toNatClampNeg ≤ 0 ∧ 0 ≤ upR u S z3.toNatClampNeg s kp.toNatClampNeg) → gd (isB 0) (some ((0 : Int32), v)) = some (r, v') → v' = v ∧ ((r = 1 ∧ CV u S kr.toNatClampNeg kp.toNatClampNeg s) ∨ (r = 0 ∧ ¬ CV u S kr.toNatClampNeg kp.toNatClampNeg s)) := fun hn g => by
          obtain ⟨-, g⟩ := gd_some g
          have e : r = 0 ∧ v' = v := by cases g; exact ⟨rfl, rfl⟩
          exact ⟨e.2, Or.inr ⟨e.1, fun z => hn (z _ (by omega))⟩⟩
        by_cases d : 0 < y4
        · rw [if_pos d] at h
          have d9 : (0 : Int) < y4.toInt := ltI d
          exact bad (by omega) h
        · rw [if_neg d] at h
          have d9 : ¬ (0 : Int) < y4.toInt := nltI d
          by_cases e : 0 ≤ y5
          · rw [if_pos e] at h
            have e9 : (0 : Int) ≤ y5.toInt := leI e
            refine ih (z3 + 1) (by rw [et]; omega) (by rw [et]; omega) (fun m hm hk => ?_) h
            rw [et] at hm
            by_cases cm : m = z3.toNatClampNeg
            · rw [cm]
              omega
            · exact hb m (by omega) hk
          · rw [if_neg e] at h
            have e9 : ¬ (0 : Int) ≤ y5.toInt := nleI e
            exact bad (by omega) h
      · rw [if_neg cd] at h
        have cd9 := nleI cd
        refine ih (z3 + 1) (by rw [et]; omega) (by rw [et]; omega) (fun m hm hk => ?_) h
        rw [et] at hm
        by_cases cm : m = z3.toNatClampNeg
        · rw [cm] at hk
          exact absurd (UpTo_dn srt hr hk) cd9
        · exact hb m (by omega) hk
def bcOK (d : Nat) : Bool := decide (fJ6_bitCount_0f7a4 (Int32.ofNat d) = some (Int32.ofNat (cntB d 12)))
theorem bc12 : ∀ a b : Fin 64, bcOK (64 * a.val + b.val) = true := by decide +kernel
theorem bc_sp {d : Nat} (h : d < 4096) : fJ6_bitCount_0f7a4 (Int32.ofNat d) = some (Int32.ofNat (cntB d 12)) := by
  have g := bc12 ⟨d / 64, by omega⟩ ⟨d % 64, by omega⟩
  have e : 64 * (d / 64) + d % 64 = d := by omega
  have g : bcOK (64 * (d / 64) + d % 64) = true := g
  rw [e] at g
  exact of_decide_eq_true g
theorem prS_tr {a b d : Nat} (h : prS a b) (h' : prS b d) : prS a d := by
  obtain ⟨k, p, q, r⟩ := h
  obtain ⟨k', p', q', r'⟩ := h'
  rcases Nat.lt_trichotomy k k' with g | g | g
  · exact ⟨k, fun j hj => (p j hj).trans (p' j (by omega)), q, by rw [← p' k g]; exact r⟩
  · rw [g] at r
    rw [r] at q'
    exact absurd q' (by decide)
  · exact ⟨k', fun j hj => (p j (by omega)).trans (p' j hj), by rw [p k' g]; exact q', r'⟩
theorem prS_as {a b : Nat} (h : prS a b) (h' : prS b a) : False := by
  obtain ⟨k, p, q, r⟩ := h
  obtain ⟨k', p', q', r'⟩ := h'
  rcases Nat.lt_trichotomy k k' with g | g | g
  · rw [p' k g, q] at r
    exact absurd r (by decide)
  · rw [g] at r
    rw [r] at q'
    exact absurd q' (by decide)
  · rw [p k' g, q'] at r'
    exact absurd r' (by decide)
theorem cntB_n {s n : Nat} (hs : s < 2 ^ n) : ∀ k : Nat, cntB s (n + k) = cntB s n := by
  intro k
  induction k with
  | zero => rfl
  | succ k ih => rw [show n + (k + 1) = (n + k) + 1 from rfl, cntB_s, ih, bit_hS hs (by omega), if_neg (by decide), Nat.add_zero]
def bS (n a b : Nat) : Prop := cntB a n < cntB b n ∨ (cntB a n = cntB b n ∧ prS a b)
theorem bS_tr {n a b d : Nat} (h : bS n a b) (h' : bS n b d) : bS n a d := by
  unfold bS at h h' ⊢
  rcases h with h | ⟨h1, h2⟩
  · rcases h' with g | ⟨g1, g2⟩
    · exact Or.inl (by omega)
    · exact Or.inl (by omega)
  · rcases h' with g | ⟨g1, g2⟩
    · exact Or.inl (by omega)
    · exact Or.inr ⟨by omega, prS_tr h2 g2⟩
theorem better_sp {a b n : Nat} {r : Int32} (hn : n ≤ 12) (ha : a < 2 ^ n) (hb : b < 2 ^ n) (hne : ¬ a = b) (h : fX12_isBetter (Int32.ofNat a) (Int32.ofNat b) = some r) : (r = 1 ∧ bS n a b) ∨ (r = 0 ∧ bS n b a) := by
  have p12 : 2 ^ n ≤ 4096 := Nat.le_trans (Nat.pow_le_pow_right (by decide) hn) (by decide)
  have o : ∀ d : Nat, d < 4096 → (Int32.ofNat d).toInt = (d : Int) := fun d hd => Int32.toInt_ofNat_of_lt (by omega)
  unfold fX12_isBetter at h
  have nb : ¬ Int32.ofNat b = -1 := fun z => by
    have := congrArg Int32.toInt z
    rw [o b (by omega)] at this
    have z1 : (-1 : Int32).toInt = -1 := by decide
    omega
  rw [if_neg nb, bc_sp (by omega), bc_sp (by omega)] at h
  have h : GX12_isBetter_18 (Int32.ofNat a) (Int32.ofNat b) (Int32.ofNat (cntB a 12) - Int32.ofNat (cntB b 12)) = some r := h
  have ca : cntB a 12 = cntB a n := by
    have := cntB_n ha (12 - n)
    rw [show n + (12 - n) = 12 by omega] at this
    exact this
  have cb : cntB b 12 = cntB b n := by
    have := cntB_n hb (12 - n)
    rw [show n + (12 - n) = 12 by omega] at this
    exact this
  have la := (cntB_le (s := a) (i := 0) 12).2
  have lb := (cntB_le (s := b) (i := 0) 12).2
  have z1 : cntB a 0 = 0 := rfl
  have z2 : cntB b 0 = 0 := rfl
  rw [Nat.zero_add] at la lb
  have e : (Int32.ofNat (cntB a 12) - Int32.ofNat (cntB b 12)).toInt = (cntB a 12 : Int) - (cntB b 12 : Int) := by
    rw [sub_t (by rw [o _ (by omega), o _ (by omega)]; omega) (by rw [o _ (by omega), o _ (by omega)]; omega), o _ (by omega), o _ (by omega)]
  unfold GX12_isBetter_18 at h
  by_cases c : Int32.ofNat (cntB a 12) - Int32.ofNat (cntB b 12) < 0
  · rw [if_pos c] at h
    have c9 : (Int32.ofNat (cntB a 12) - Int32.ofNat (cntB b 12)).toInt < (0 : Int) := ltI c
    obtain ⟨-, h⟩ := gd_some h
    have er : r = 1 := by cases h; rfl
    exact Or.inl ⟨er, Or.inl (by omega)⟩
  · rw [if_neg c] at h
    have c9 : ¬ (Int32.ofNat (cntB a 12) - Int32.ofNat (cntB b 12)).toInt < (0 : Int) := nltI c
    by_cases d : Int32.ofNat (cntB a 12) - Int32.ofNat (cntB b 12) = 0
    · rw [if_pos d] at h
      have d9 : (Int32.ofNat (cntB a 12) - Int32.ofNat (cntB b 12)).toInt = (0 : Int) := congrArg Int32.toInt d
      obtain ⟨k1, k2⟩ := pick_sp (a := a) (b := b) (by omega) (by omega) hne
      by_cases f : (Int32.ofNat a &&& (Int32.ofNat a ^^^ Int32.ofNat b)) &&& (-(Int32.ofNat a ^^^ Int32.ofNat b)) = 0
      · rw [if_pos f] at h
        obtain ⟨-, h⟩ := gd_some h
        have er : r = 0 := by cases h; rfl
        exact Or.inr ⟨er, Or.inr ⟨by omega, k1 f⟩⟩
      · rw [if_neg f] at h
        obtain ⟨-, h⟩ := gd_some h
        have er : r = 1 := by cases h; rfl
        exact Or.inl ⟨er, Or.inr ⟨by omega, k2 f⟩⟩
    · rw [if_neg d] at h
      have d9 := neI d
      have z0 : (0 : Int32).toInt = 0 := by decide
      rw [z0] at d9
      obtain ⟨-, h⟩ := gd_some h
      have er : r = 0 := by cases h; rfl
      exact Or.inr ⟨er, Or.inl (by omega)⟩
