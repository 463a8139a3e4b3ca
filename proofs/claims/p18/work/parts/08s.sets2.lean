/-! The class's search for the fewest. -/
abbrev md28 : MD := ([27, 28], [], [], [])
def H27 (u : SX) : Prop := (u.1 27).toInt < (u.1 26).toInt ∨ (u.1 26).toInt = 0
theorem RB_28 {u w : SX} (s : StX md28 u w) (h : RB u) : RB w := by
  unfold RB at h ⊢
  rw [s.2.1 26 (by decide), s.2.1 10 (by decide), s.2.2.1 46 (by decide), s.2.2.1 47 (by decide)]
  exact h
theorem rest_28 {u w : SX} (s : StX md28 u w) {t k : Nat} : ∀ n : Nat, rest w t k n = rest u t k n := by
  intro n
  induction n with
  | zero =>
    show (w.2.1 46 k).toInt = (u.2.1 46 k).toInt
    rw [s.2.2.1 46 (by decide)]
  | succ n ih => rw [rest_s, rest_s, ih, s.2.2.1 47 (by decide)]
theorem COV_28 {u w : SX} (s : StX md28 u w) {n t : Nat} : COV w n t ↔ COV u n t := by
  unfold COV
  rw [s.2.1 26 (by decide)]
  exact ⟨fun h k hk => by rw [← rest_28 s]; exact h k hk, fun h k hk => by rw [rest_28 s]; exact h k hk⟩
/-- found: the first of them; or none -/
def FD (u w : SX) (n i s m : Nat) (r : Int32) : Prop := (r = 1 ∧ ∃ t, CD n i s m t ∧ COV u n t ∧ w.1 28 = Int32.ofNat t ∧ ∀ t', CD n i s m t' → COV u n t' → t' = t ∨ prS t t') ∨ (r = 0 ∧ ∀ t', CD n i s m t' → ¬ COV u n t')
theorem chs {n10 : Nat} (hn12 : n10 ≤ 12) : ∀ (d : Nat) (x1 x2 x3 r : Int32) (u u' : SX) (s m : Nat), IX u → RB u → H27 u → (u.1 10).toNatClampNeg = n10 → 0 ≤ x1.toInt → x1.toNatClampNeg ≤ n10 → s < 2 ^ x1.toNatClampNeg → x2.toInt = (m : Int) → m ≤ 12 → x3 = Int32.ofNat s → rX0chooseg d 0 x1 x2 x3 u = some (r, u') → StX md28 u u' ∧ H27 u' ∧ FD u u' n10 x1.toNatClampNeg s m r := by
  intro d
  induction d with
  | zero => intro x1 x2 x3 r u u' s m _ _ _ _ _ _ _ _ _ _ h; cases h
  | succ d ihd =>
    intro x1 x2 x3 r u u' s m hI hB hH hn h0 h9 hs hm hm9 h3 h
    rw [rX0chooseg, if_pos rfl] at h
    unfold fX0_choose_9 at h
    have p12 : ∀ i, i ≤ n10 → 2 ^ i ≤ 4096 := fun i hi => Nat.le_trans (Nat.pow_le_pow_right (by decide) (show i ≤ 12 by omega)) (by decide)
    by_cases c : x2 = 0
    · rw [if_pos c] at h
      have m0 : m = 0 := by
        rw [c] at hm
        have z : (0 : Int32).toInt = 0 := by decide
        omega
      obtain ⟨u6, j6, h⟩ := lt_some h
      obtain ⟨⟨r8, u9⟩, a8, h⟩ := bd_some h
      obtain ⟨-, h⟩ := gd_some h
      have e : r8 = r ∧ u9 = u' := by cases h; exact ⟨rfl, rfl⟩
      have s6 : StX md28 u u6 := by
        rw [j6]
        exact StX_sIf (StX_rf hI) (by decide) rfl rfl
      have H6 : H27 u6 := by
        rw [j6]
        exact hH
      have e6 : u6.1 28 = x3 := by rw [j6]; rfl
      have n6 : u6.1 10 = u.1 10 := s6.2.1 10 (by decide)
      have sb : s < 4096 := Nat.lt_of_lt_of_le hs (p12 _ h9)
      rw [h3] at a8
      rw [m0]
      have cz := CD_zero (n := n10) h9 hs
      rcases covers_sp s6.1 (RB_28 s6 hB) sb H6 a8 with ⟨g1, g2, g3⟩ | ⟨g1, g2, y, g3, y0, y9⟩
      · rw [n6, hn, COV_28 s6] at g2
        rw [← e.1, ← e.2, g3]
        exact ⟨s6, H6, Or.inl ⟨g1, s, (cz s).mpr rfl, g2, by rw [e6, h3], fun t' ht' _ => Or.inl ((cz t').mp ht')⟩⟩
      · rw [n6, hn, COV_28 s6] at g2
        have b26 : (u6.1 26).toInt ≤ (80 : Int) := (s6.1.1 26).2
        have s9 : StX md28 u u9 := by
          rw [g3]
          exact StX_sI s6 (by decide) y0 (by show y.toInt ≤ (79 : Int); omega)
        rw [← e.1, ← e.2]
        refine ⟨s9, Or.inl ?_, Or.inr ⟨g1, fun t' ht' => ?_⟩⟩
        · rw [g3]
          exact y9
        · rw [(cz t').mp ht']
          exact g2
    · rw [if_neg c] at h
      obtain ⟨m1, em⟩ : ∃ m1, m = m1 + 1 := by
        refine ⟨m - 1, ?_⟩
        have : ¬ x2.toInt = (0 : Int) := neI c
        omega
      rw [em]
      rw [em] at hm hm9
      have loop : ∀ (k : Nat) (z4 : Int32) (u : SX), IX u → RB u → H27 u → (u.1 10).toNatClampNeg = n10 → 0 ≤ z4.toInt → z4.toNatClampNeg ≤ n10 → s < 2 ^ z4.toNatClampNeg → LX0_choose_9_18 (rX0chooseg d) k x2 x3 z4 u = some (r, u') → StX md28 u u' ∧ H27 u' ∧ FD u u' n10 z4.toNatClampNeg s (m1 + 1) r := by
        intro k
        induction k with
        | zero => intro z4 u _ _ _ _ _ _ _ h; cases h
        | succ k ihk =>
          intro z4 u hI hB hH hn h0 h9 hs h
          have h : (if (u.1 10) < (z4 + x2) then (gd (isB 0) (some ((0 : Int32), u))) else ((rX0chooseg d 0 (z4 + 1) (x2 - 1) (x3 ||| (1 <<< (z4 &&& 31))) u).bind fun q => match q with | (r2, u3) => (if r2 = 0 then ((LX0_choose_9_18 (rX0chooseg d) k) x2 x3 (z4 + 1) u3) else (gd (isB 1) (some ((1 : Int32), u3)))))) = some (r, u') := h
          have t4 := tnS h0
          have z10 : (0 : Int) ≤ (u.1 10).toInt := (hI.1 10).1
          have t10 := tnS z10
          have e42 : (z4 + x2).toInt = z4.toInt + x2.toInt := add_t (by omega) (by omega)
          by_cases c : u.1 10 < z4 + x2
          · rw [if_pos c] at h
            have c9 := ltI c
            obtain ⟨-, h⟩ := gd_some h
            have e : r = 0 ∧ u' = u := by cases h; exact ⟨rfl, rfl⟩
            rw [e.2]
            exact ⟨StX_rf hI, hH, Or.inr ⟨e.1, fun t' ht' => absurd ht' (CD_none h9 (by omega) t')⟩⟩
          · rw [if_neg c] at h
            have c9 := nltI c
            have et : (z4 + 1).toInt = z4.toInt + 1 := addc_t (by decide) (by omega) (by omega)
            have en := ns1 h0 (show z4.toInt ≤ 5000 by omega)
            have es : (x2 - 1).toInt = x2.toInt - 1 := subc_t (by decide) (by omega) (by omega)
            obtain ⟨⟨r2, u3⟩, a2, h⟩ := bd_some h
            have hs1 : s < 2 ^ (z4.toNatClampNeg + 1) := Nat.lt_of_lt_of_le hs (Nat.pow_le_pow_right (by decide) (Nat.le_succ _))
            have hs2 : (s ||| 2 ^ z4.toNatClampNeg) < 2 ^ (z4.toNatClampNeg + 1) := Nat.or_lt_two_pow hs1 (Nat.pow_lt_pow_right (by decide) (Nat.lt_succ_self _))
            have o : ∀ a : Nat, a ≤ 4096 → (Int32.ofNat a).toInt = (a : Int) := fun a ha => Int32.toInt_ofNat_of_lt (by omega)
            have sh : (1 <<< (z4 &&& 31) : Int32) = Int32.ofNat (2 ^ z4.toNatClampNeg) := by
              apply Int32.toInt.inj
              rw [shl1_e t4.symm (by omega), o _ (p12 _ (by omega))]
              exact (Int.natCast_pow 2 _).symm
            have e3 : x3 ||| (1 <<< (z4 &&& 31)) = Int32.ofNat (s ||| 2 ^ z4.toNatClampNeg) := by
              rw [h3, sh]
              apply Int32.toBitVec_inj.mp
              rw [Int32.toBitVec_or]
              show BitVec.ofNat 32 _ ||| BitVec.ofNat 32 _ = BitVec.ofNat 32 _
              exact (BitVec.ofNat_or).symm
            obtain ⟨s3, H3, f3⟩ := ihd (z4 + 1) (x2 - 1) _ r2 u u3 (s ||| 2 ^ z4.toNatClampNeg) m1 hI hB hH hn (by rw [et]; omega) (by rw [en]; omega) (by rw [en]; exact hs2) (by rw [es]; omega) (by omega) e3 a2
            rw [en] at f3
            have n3 : u3.1 10 = u.1 10 := s3.2.1 10 (by decide)
            have two := CD_two (n := n10) (m := m1) hs
            have h : (if r2 = 0 then (LX0_choose_9_18 (rX0chooseg d) k x2 x3 (z4 + 1) u3) else (gd (isB 1) (some ((1 : Int32), u3)))) = some (r, u') := h
            rcases f3 with ⟨g1, t, g2, g3, g4, g5⟩ | ⟨g1, g2⟩
            · rw [if_neg (ne01 g1)] at h
              obtain ⟨-, h⟩ := gd_some h
              have e : r = 1 ∧ u' = u3 := by cases h; exact ⟨rfl, rfl⟩
              rw [e.2]
              refine ⟨s3, H3, Or.inl ⟨e.1, t, (two t).mp (Or.inl g2), g3, g4, fun t' ht' hc => ?_⟩⟩
              rcases (two t').mpr ht' with q | q
              · exact g5 t' q hc
              · exact Or.inr (CD_pr hs g2 q)
            · rw [if_pos g1] at h
              obtain ⟨s4, H4, f4⟩ := ihk (z4 + 1) u3 s3.1 (RB_28 s3 hB) H3 (by rw [n3]; exact hn) (by rw [et]; omega) (by rw [en]; omega) (by rw [en]; exact hs1) h
              rw [en] at f4
              refine ⟨StX_tr s3 s4 (by decide), H4, ?_⟩
              rcases f4 with ⟨q1, t, q2, q3, q4, q5⟩ | ⟨q1, q2⟩
              · rw [COV_28 s3] at q3
                refine Or.inl ⟨q1, t, (two t).mp (Or.inr q2), q3, q4, fun t' ht' hc => ?_⟩
                rcases (two t').mpr ht' with q | q
                · exact absurd hc (g2 t' q)
                · exact q5 t' q ((COV_28 s3).mpr hc)
              · refine Or.inr ⟨q1, fun t' ht' hc => ?_⟩
                rcases (two t').mpr ht' with q | q
                · exact g2 t' q hc
                · exact q2 t' q ((COV_28 s3).mpr hc)
      exact loop 5000 x1 u hI hB hH hn h0 h9 hs h
/-- the best of all sets of n parts, as a number; or -1 -/
def BSt (P : Nat → Prop) (n : Nat) (r : Int32) : Prop := (r = -1 ∧ ∀ t, t < 2 ^ n → ¬ P t) ∨ ∃ t, t < 2 ^ n ∧ P t ∧ r = Int32.ofNat t ∧ ∀ t', t' < 2 ^ n → P t' → t' = t ∨ cntB t n < cntB t' n ∨ (cntB t n = cntB t' n ∧ prS t t')
theorem fw80 {r : Int32} {u' : SX} {n10 : Nat} (hn12 : n10 ≤ 12) : ∀ (n : Nat) (z1 : Int32) (u : SX), IX u → RB u → H27 u → (u.1 10).toNatClampNeg = n10 → 0 ≤ z1.toInt → (∀ t, t < 2 ^ n10 → (cntB t n10 : Int) < z1.toInt → ¬ COV u n10 t) → LX0_fewest_9_80 n z1 u = some (r, u') → BSt (COV u n10) n10 r := by
  intro n
  induction n with
  | zero => intro z1 u _ _ _ _ _ _ h; cases h
  | succ n ih =>
    intro z1 u hI hB hH hn h0 hb h
    have h : (if (u.1 10) < z1 then (some ((-1), u)) else ((rX0chooseg 16 0 0 z1 0 u).bind fun q => match q with | (r13, u14) => (if r13 = 0 then ((LX0_fewest_9_80 n) (z1 + 1) u14) else (some (u14.1 28, u14))))) = some (r, u') := h
    have z10 : (0 : Int) ≤ (u.1 10).toInt := (hI.1 10).1
    have t10 := tnS z10
    have t1 := tnS h0
    by_cases c : u.1 10 < z1
    · rw [if_pos c] at h
      have c9 := ltI c
      have e : r = -1 := by cases h; rfl
      refine Or.inl ⟨e, fun t ht => hb t ht ?_⟩
      have := (cntB_le (s := t) (i := 0) n10).2
      rw [Nat.zero_add] at this
      have z : cntB t 0 = 0 := rfl
      omega
    · rw [if_neg c] at h
      have c9 := nltI c
      have et : (z1 + 1).toInt = z1.toInt + 1 := addc_t (by decide) (by omega) (by omega)
      obtain ⟨⟨r13, u14⟩, a13, h⟩ := bd_some h
      have n0 : (0 : Int32).toNatClampNeg = 0 := rfl
      obtain ⟨s14, H14, f14⟩ := chs hn12 16 0 z1 0 r13 u u14 0 z1.toNatClampNeg hI hB hH hn (by decide) (Nat.zero_le _) (by decide) t1.symm (by omega) rfl a13
      rw [n0] at f14
      have cd : ∀ t, CD n10 0 0 z1.toNatClampNeg t ↔ (t < 2 ^ n10 ∧ cntB t n10 = z1.toNatClampNeg) := fun t => by
        unfold CD
        have z : cntB 0 0 = 0 := rfl
        rw [z, Nat.zero_add]
        exact ⟨fun g => ⟨g.1, g.2.2⟩, fun g => ⟨g.1, fun j hj => absurd hj (Nat.not_lt_zero _), g.2⟩⟩
      have h : (if r13 = 0 then ((LX0_fewest_9_80 n) (z1 + 1) u14) else (some (u14.1 28, u14))) = some (r, u') := h
      rcases f14 with ⟨g1, t, g2, g3, g4, g5⟩ | ⟨g1, g2⟩
      · rw [if_neg (ne01 g1)] at h
        have e : r = u14.1 28 := by cases h; rfl
        have g2 := (cd t).mp g2
        refine Or.inr ⟨t, g2.1, g3, by rw [e, g4], fun t' ht' hc => ?_⟩
        by_cases q : cntB t' n10 = z1.toNatClampNeg
        · rcases g5 t' ((cd t').mpr ⟨ht', q⟩) hc with k | k
          · exact Or.inl k
          · exact Or.inr (Or.inr ⟨by omega, k⟩)
        · by_cases q2 : (cntB t' n10 : Int) < z1.toInt
          · exact absurd hc (hb t' ht' q2)
          · exact Or.inr (Or.inl (by omega))
      · rw [if_pos g1] at h
        have fin := ih (z1 + 1) u14 s14.1 (RB_28 s14 hB) H14 (by rw [s14.2.1 10 (by decide)]; exact hn) (by rw [et]; omega) (fun t ht hc => by
          rw [COV_28 s14]
          by_cases q : cntB t n10 = z1.toNatClampNeg
          · exact g2 t ((cd t).mpr ⟨ht, q⟩)
          · exact hb t ht (by rw [et] at hc; omega)) h
        have e : ∀ t, COV u14 n10 t ↔ COV u n10 t := fun t => COV_28 s14
        rcases fin with ⟨q1, q2⟩ | ⟨t, q1, q2, q3, q4⟩
        · exact Or.inl ⟨q1, fun t ht g => q2 t ht ((e t).mpr g)⟩
        · exact Or.inr ⟨t, q1, (e t).mp q2, q3, fun t' ht' g => q4 t' ht' ((e t').mpr g)⟩
theorem rest_full {u : SX} (hB : RB u) {t k : Nat} (hk : (k : Int) < (u.1 26).toInt) {n : Nat} (hn : (n : Int) ≤ (u.1 10).toInt) : ∀ i : Nat, i ≤ n → rest u (2 ^ n - 1) k i ≤ rest u t k i := by
  intro i
  induction i with
  | zero => intro _; exact Int.le_refl _
  | succ i ih =>
    intro hi
    have a := ih (by omega)
    have b := ((hB k hk).2 i (by omega)).1
    rw [rest_s, rest_s, Nat.testBit_two_pow_sub_one, decide_eq_true (show i < n by omega), if_pos rfl]
    by_cases c : t.testBit i = true
    · rw [if_pos c]
      omega
    · rw [if_neg c]
      omega
theorem fw58 {r : Int32} {u u' : SX} (hI : IX u) (hB : RB u) (hH : H27 u) (h : GX0_fewest_9_58 u = some (r, u')) : BSt (COV u (u.1 10).toNatClampNeg) (u.1 10).toNatClampNeg r := by
  have b10 : (u.1 10).toInt ≤ (12 : Int) := (hI.1 10).2
  have z10 : (0 : Int) ≤ (u.1 10).toInt := (hI.1 10).1
  have t10 := tnS z10
  unfold GX0_fewest_9_58 at h
  have hp : 2 ^ (u.1 10).toNatClampNeg ≤ 4096 := Nat.le_trans (Nat.pow_le_pow_right (by decide) (show (u.1 10).toNatClampNeg ≤ 12 by omega)) (by decide)
  have hpos := Nat.two_pow_pos (u.1 10).toNatClampNeg
  have e1 : (1 <<< ((u.1 10) &&& 31)) - 1 = Int32.ofNat (2 ^ (u.1 10).toNatClampNeg - 1) := by
    apply Int32.toInt.inj
    have sh : (1 <<< ((u.1 10) &&& 31) : Int32).toInt = ((2 ^ (u.1 10).toNatClampNeg : Nat) : Int) := by
      rw [shl1_e t10.symm (by omega)]
      exact (Int.natCast_pow 2 _).symm
    rw [subc_t (n := 1) (by decide) (by omega) (by omega), sh, Int32.toInt_ofNat_of_lt (by omega)]
    omega
  rw [e1] at h
  obtain ⟨⟨r10, u11⟩, a10, h⟩ := bd_some h
  have h : (if r10 = 0 then (some ((-1), u11)) else (LX0_fewest_9_80 5000 0 u11)) = some (r, u') := h
  rcases covers_sp hI hB (by omega) hH a10 with ⟨g1, g2, g3⟩ | ⟨g1, g2, -⟩
  · rw [if_neg (ne01 g1), g3] at h
    exact fw80 (by omega) 5000 0 u hI hB hH rfl (by decide) (fun t _ hc => by
      have z : (0 : Int32).toInt = 0 := by decide
      rw [z] at hc
      omega) h
  · rw [if_pos g1] at h
    have e : r = -1 := by cases h; rfl
    refine Or.inl ⟨e, fun t ht hc => g2 (fun k hk => ?_)⟩
    have a := rest_full hB (t := t) hk (n := (u.1 10).toNatClampNeg) (by omega) (u.1 10).toNatClampNeg (Nat.le_refl _)
    have b := hc k hk
    omega
