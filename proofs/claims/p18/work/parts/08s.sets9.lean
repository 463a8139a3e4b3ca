/-! Sets, on both sides. -/
theorem mskS {s k : Nat} (hs : s < 4096) (hk : k ≤ 12) : Int32.ofNat s &&& (Int32.ofNat (2 ^ k - 1) ^^^ (-1)) = 0 ↔ s < 2 ^ k := by
  have e : (Int32.ofNat s &&& (Int32.ofNat (2 ^ k - 1) ^^^ (-1))).toBitVec = BitVec.ofNat 32 s &&& (BitVec.ofNat 32 (2 ^ k - 1) ^^^ BitVec.allOnes 32) := by
    rw [Int32.toBitVec_and, Int32.toBitVec_xor, show (-1 : Int32).toBitVec = BitVec.allOnes 32 from by decide]
    rfl
  have bit : ∀ i, i < 32 → ((Int32.ofNat s &&& (Int32.ofNat (2 ^ k - 1) ^^^ (-1))).toBitVec).getLsbD i = (s.testBit i && !decide (i < k)) := fun i hi => by
    rw [e, BitVec.getLsbD_and, BitVec.getLsbD_xor, BitVec.getLsbD_ofNat, BitVec.getLsbD_ofNat, BitVec.getLsbD_allOnes, Nat.testBit_two_pow_sub_one, decide_eq_true hi]
    cases s.testBit i <;> cases decide (i < k) <;> rfl
  constructor
  · intro z
    apply Nat.lt_pow_two_of_testBit
    intro i hi
    by_cases c : i < 32
    · have b := bit i c
      rw [z, decide_eq_false (by omega)] at b
      have b : (0#32).getLsbD i = (s.testBit i && !false) := b
      rw [BitVec.getLsbD_zero, Bool.not_false, Bool.and_true] at b
      exact b.symm
    · exact bit_hS (i := 12) hs (by omega)
  · intro z
    apply Int32.toBitVec_inj.mp
    apply BitVec.eq_of_getLsbD_eq
    intro i hi
    rw [bit i hi]
    show _ = (0#32).getLsbD i
    rw [BitVec.getLsbD_zero]
    by_cases c : i < k
    · rw [decide_eq_true c, Bool.not_true, Bool.and_false]
    · rw [bit_hS z (by omega), Bool.false_and]
theorem orS {k : Nat} : (2 ^ k - 1) ||| 2 ^ k = 2 ^ (k + 1) - 1 := by
  apply Nat.eq_of_testBit_eq
  intro i
  rw [Nat.testBit_or, Nat.testBit_two_pow, Nat.testBit_two_pow_sub_one, Nat.testBit_two_pow_sub_one]
  by_cases c : i < k
  · rw [decide_eq_true c, decide_eq_true (show i < k + 1 by omega), Bool.true_or]
  · by_cases d : k = i
    · rw [decide_eq_false c, decide_eq_true d, decide_eq_true (show i < k + 1 by omega), Bool.or_true]
    · rw [decide_eq_false c, decide_eq_false d, decide_eq_false (show ¬ i < k + 1 by omega), Bool.or_false]
theorem se28 {u : SX} {k62 : Int32 → Int32 → SX → Option (Int32 × SX)} {q kp r : Int32} {v v' : SX} (hI : IX u) (hM : MR u v) (hU : UpTo (u.2.1 25) q (u.1 8) kp) : ∀ (n : Nat) (z2 z3 : Int32), 0 ≤ z3.toInt → z3.toInt ≤ (u.1 8).toInt → z2 = Int32.ofNat (2 ^ (min z3.toNatClampNeg kp.toNatClampNeg) - 1) → LX12_sets_0_28 k62 n q z2 z3 v = some (r, v') → k62 q (Int32.ofNat (2 ^ kp.toNatClampNeg - 1)) v = some (r, v') := by
  intro n
  induction n with
  | zero => intro z2 z3 _ _ _ h; cases h
  | succ n ih =>
    intro z2 z3 h0 h9 e2 h
    have b8 : (u.1 8).toInt ≤ (12 : Int) := (hI.1 8).2
    have e12 : v.1 12 = u.1 8 := hM.2.1.1.symm
    have h : (if (v.1 12) ≤ z3 then (k62 q z2 v) else (gd (inb z3 12) (if q < (v.2.1 10 z3.toNatClampNeg) then (GX12_sets_0_54 (LX12_sets_0_28 k62 n) q z3 0 z2 v) else (GX12_sets_0_54 (LX12_sets_0_28 k62 n) q z3 (1 <<< (z3 &&& 31)) z2 v)))) = some (r, v') := h
    rw [e12] at h
    have t3 := tnS h0
    have tk := tnS hU.1
    have kp9 := hU.2.1
    by_cases c : u.1 8 ≤ z3
    · rw [if_pos c] at h
      have c9 := leI c
      rw [show min z3.toNatClampNeg kp.toNatClampNeg = kp.toNatClampNeg by omega] at e2
      rw [← e2]
      exact h
    · rw [if_neg c] at h
      have c9 := nleI c
      have et : (z3 + 1).toInt = z3.toInt + 1 := addc_t (by decide) (by omega) (by omega)
      have en := ns1 h0 (show z3.toInt ≤ 5000 by omega)
      obtain ⟨-, h⟩ := gd_some h
      have hd := (hM.2.2.1.2.1 z3.toNatClampNeg (by omega)).2.1
      rw [← hd] at h
      have srt := hM.2.2.1.2.2.2.2.2
      unfold GX12_sets_0_54 at h
      by_cases cd : q < u.2.1 25 z3.toNatClampNeg
      · rw [if_pos cd] at h
        have cd9 := ltI cd
        obtain ⟨v10, j10, h⟩ := lt_some h
        have hge : kp.toInt ≤ z3.toInt := by
          rcases Int.lt_or_le z3.toInt kp.toInt with z | z
          · have := UpTo_dn srt hU (i := z3.toNatClampNeg) (by omega)
            omega
          · exact z
        refine ih v10 (z3 + 1) (by rw [et]; omega) (by rw [et]; omega) ?_ h
        rw [j10, Int32.or_zero, e2, en, show min z3.toNatClampNeg kp.toNatClampNeg = min (z3.toNatClampNeg + 1) kp.toNatClampNeg by omega]
      · rw [if_neg cd] at h
        have cd9 := nltI cd
        obtain ⟨v10, j10, h⟩ := lt_some h
        have hlt := UpTo_in srt hU (i := z3.toNatClampNeg) (by omega) (by omega)
        refine ih v10 (z3 + 1) (by rw [et]; omega) (by rw [et]; omega) ?_ h
        have p12 : 2 ^ z3.toNatClampNeg ≤ 4096 := Nat.le_trans (Nat.pow_le_pow_right (by decide) (show z3.toNatClampNeg ≤ 12 by omega)) (by decide)
        have sh : (1 <<< (z3 &&& 31) : Int32) = Int32.ofNat (2 ^ z3.toNatClampNeg) := by
          apply Int32.toInt.inj
          rw [shl1_e t3.symm (by omega), Int32.toInt_ofNat_of_lt (by omega)]
          exact (Int.natCast_pow 2 _).symm
        have o : Int32.ofNat (2 ^ z3.toNatClampNeg - 1) ||| Int32.ofNat (2 ^ z3.toNatClampNeg) = Int32.ofNat ((2 ^ z3.toNatClampNeg - 1) ||| 2 ^ z3.toNatClampNeg) := by
          apply Int32.toBitVec_inj.mp
          rw [Int32.toBitVec_or]
          show BitVec.ofNat 32 _ ||| BitVec.ofNat 32 _ = BitVec.ofNat 32 _
          exact (BitVec.ofNat_or).symm
        rw [j10, e2, show min z3.toNatClampNeg kp.toNatClampNeg = z3.toNatClampNeg by omega, sh, o, orS, en, show min (z3.toNatClampNeg + 1) kp.toNatClampNeg = z3.toNatClampNeg + 1 by omega]
def okS (u : SX) (S : Nat → Int32 × Int32) (kr kp t : Nat) : Prop := t < 2 ^ kp ∧ CV u S kr kp t
def MS (u : SX) (S : Nat → Int32 × Int32) (kr kp : Nat) (z3 : Int32) (s : Nat) : Prop := (z3 = -1 ∧ ∀ t, t < s → ¬ okS u S kr kp t) ∨ ∃ b, b < s ∧ okS u S kr kp b ∧ z3 = Int32.ofNat b ∧ ∀ t, t < s → okS u S kr kp t → t = b ∨ bS kp b t
theorem se213 {u : SX} {S : Nat → Int32 × Int32} {q kp kr r : Int32} {v v' : SX} (hI : IX u) (hM : MR u v) (e15 : v.1 15 = u.1 13) (hU : UpTo (u.2.1 25) q (u.1 8) kp) (hr : UpTo (u.2.1 37) q (u.1 13) kr) (hw : ∀ m i : Nat, (m : Int) < kr.toInt → (i : Int) < kp.toInt → Bw (ww u m i)) (hS : ∀ i : Nat, (i : Int) < kp.toInt → Sb (S i)) (ht : ∀ m i : Nat, (m : Int) < kr.toInt → (i : Int) < kp.toInt → TB u S v m i) : ∀ (n s : Nat) (z3 : Int32), s ≤ 2 ^ (u.1 8).toNatClampNeg → MS u S kr.toNatClampNeg kp.toNatClampNeg z3 s → LX12_sets_0_213 n q (Int32.ofNat (2 ^ kp.toNatClampNeg - 1)) z3 (Int32.ofNat s) v = some (r, v') → BSt (CV u S kr.toNatClampNeg kp.toNatClampNeg) kp.toNatClampNeg r := by
  intro n
  induction n with
  | zero => intro s z3 _ _ h; cases h
  | succ n ih =>
    intro s z3 hs hB h
    have b8 : (u.1 8).toInt ≤ (12 : Int) := (hI.1 8).2
    have z8 : (0 : Int) ≤ (u.1 8).toInt := (hI.1 8).1
    have t8 := tnS z8
    have tk := tnS hU.1
    have kp9 := hU.2.1
    have e12 : v.1 12 = u.1 8 := hM.2.1.1.symm
    have p12 : 2 ^ (u.1 8).toNatClampNeg ≤ 4096 := Nat.le_trans (Nat.pow_le_pow_right (by decide) (show (u.1 8).toNatClampNeg ≤ 12 by omega)) (by decide)
    have pk : 2 ^ kp.toNatClampNeg ≤ 2 ^ (u.1 8).toNatClampNeg := Nat.pow_le_pow_right (by decide) (by omega)
    have h : (if (1 <<< ((v.1 12) &&& 31)) ≤ Int32.ofNat s then (some (z3, v)) else (if (Int32.ofNat s &&& (Int32.ofNat (2 ^ kp.toNatClampNeg - 1) ^^^ (-1))) = 0 then ((fX12_isBetter (Int32.ofNat s) z3).bind fun r42 => (if r42 = 0 then (LX12_sets_0_213 n q (Int32.ofNat (2 ^ kp.toNatClampNeg - 1)) z3 (Int32.ofNat s + 1) v) else ((fX12_isSet_0 (Int32.ofNat s) q v).bind fun p => match p with | (r45, u46) => (if r45 = 0 then (LX12_sets_0_213 n q (Int32.ofNat (2 ^ kp.toNatClampNeg - 1)) z3 (Int32.ofNat s + 1) u46) else (LX12_sets_0_213 n q (Int32.ofNat (2 ^ kp.toNatClampNeg - 1)) (Int32.ofNat s) (Int32.ofNat s + 1) u46))))) else (LX12_sets_0_213 n q (Int32.ofNat (2 ^ kp.toNatClampNeg - 1)) z3 (Int32.ofNat s + 1) v))) = some (r, v') := h
    rw [e12] at h
    have o : ∀ d : Nat, d ≤ 4096 → (Int32.ofNat d).toInt = (d : Int) := fun d hd => Int32.toInt_ofNat_of_lt (by omega)
    have sh : (1 <<< ((u.1 8) &&& 31) : Int32).toInt = ((2 ^ (u.1 8).toNatClampNeg : Nat) : Int) := by
      rw [shl1_e t8.symm (by omega)]
      exact (Int.natCast_pow 2 _).symm
    by_cases c : (1 <<< ((u.1 8) &&& 31)) ≤ Int32.ofNat s
    · rw [if_pos c] at h
      have c9 := leI c
      rw [sh, o s (by omega)] at c9
      have er : z3 = r := by cases h; rfl
      rw [← er]
      rcases hB with ⟨p1, p2⟩ | ⟨b, p1, p2, p3, p4⟩
      · exact Or.inl ⟨p1, fun t ht' hc => p2 t (by omega) ⟨ht', hc⟩⟩
      · exact Or.inr ⟨b, p2.1, p2.2, p3, fun t' ht' hc => p4 t' (by omega) ⟨ht', hc⟩⟩
    · rw [if_neg c] at h
      have c9 := nleI c
      rw [sh, o s (by omega)] at c9
      have e1s : Int32.ofNat s + 1 = Int32.ofNat (s + 1) := by
        apply Int32.toInt.inj
        rw [addc_t (x := Int32.ofNat s) (c := 1) (n := 1) (by decide) (by rw [o s (by omega)]; omega) (by rw [o s (by omega)]; omega), o s (by omega), o (s + 1) (by omega)]
        omega
      rw [e1s] at h
      have skip : (okS u S kr.toNatClampNeg kp.toNatClampNeg s → ∃ b, b < s ∧ okS u S kr.toNatClampNeg kp.toNatClampNeg b ∧ z3 = Int32.ofNat b ∧ bS kp.toNatClampNeg b s ∧ ∀ t, t < s → okS u S kr.toNatClampNeg kp.toNatClampNeg t → t = b ∨ bS kp.toNatClampNeg b t) → LX12_sets_0_213 n q (Int32.ofNat (2 ^ kp.toNatClampNeg - 1)) z3 (Int32.ofNat (s + 1)) v = some (r, v') → BSt (CV u S kr.toNatClampNeg kp.toNatClampNeg) kp.toNatClampNeg r := fun hv g => by
        refine ih (s + 1) z3 (by omega) ?_ g
        by_cases vs : okS u S kr.toNatClampNeg kp.toNatClampNeg s
        · obtain ⟨b, p1, p2, p3, p4, p5⟩ := hv vs
          refine Or.inr ⟨b, by omega, p2, p3, fun t ht' vt => ?_⟩
          by_cases ct : t = s
          · rw [ct]
            exact Or.inr p4
          · exact p5 t (by omega) vt
        · rcases hB with ⟨p1, p2⟩ | ⟨b, p1, p2, p3, p4⟩
          · refine Or.inl ⟨p1, fun t ht' => ?_⟩
            by_cases ct : t = s
            · rw [ct]
              exact vs
            · exact p2 t (by omega)
          · refine Or.inr ⟨b, by omega, p2, p3, fun t ht' vt => ?_⟩
            by_cases ct : t = s
            · rw [ct] at vt
              exact absurd vt vs
            · exact p4 t (by omega) vt
      by_cases cm : (Int32.ofNat s &&& (Int32.ofNat (2 ^ kp.toNatClampNeg - 1) ^^^ (-1))) = 0
      · rw [if_pos cm] at h
        have hlt := (mskS (k := kp.toNatClampNeg) (show s < 4096 by omega) (by omega)).mp cm
        obtain ⟨r42, a42, h⟩ := bd_some h
        have test : ∀ g : ((fX12_isSet_0 (Int32.ofNat s) q v).bind fun p => match p with | (r45, u46) => (if r45 = 0 then (LX12_sets_0_213 n q (Int32.ofNat (2 ^ kp.toNatClampNeg - 1)) z3 (Int32.ofNat (s + 1)) u46) else (LX12_sets_0_213 n q (Int32.ofNat (2 ^ kp.toNatClampNeg - 1)) (Int32.ofNat s) (Int32.ofNat (s + 1)) u46))) = some (r, v'), (∀ t, t < s → okS u S kr.toNatClampNeg kp.toNatClampNeg t → bS kp.toNatClampNeg s t) → BSt (CV u S kr.toNatClampNeg kp.toNatClampNeg) kp.toNatClampNeg r := fun g hb => by
          obtain ⟨⟨r45, u46⟩, a45, g⟩ := bd_some g
          unfold fX12_isSet_0 at a45
          have z13 : (0 : Int) ≤ (u.1 13).toInt := (hI.1 13).1
          obtain ⟨e46', k45⟩ := is2 hI hM e15 (show s < 4096 by omega) hU hr hw hS ht 5000 0 (by decide) z13 (fun m hm _ => by
            have z0 : (0 : Int32).toInt = 0 := by decide
            rw [z0] at hm
            omega) a45
          rw [e46'] at g
          have g : (if r45 = 0 then (LX12_sets_0_213 n q (Int32.ofNat (2 ^ kp.toNatClampNeg - 1)) z3 (Int32.ofNat (s + 1)) v) else (LX12_sets_0_213 n q (Int32.ofNat (2 ^ kp.toNatClampNeg - 1)) (Int32.ofNat s) (Int32.ofNat (s + 1)) v)) = some (r, v') := g
          rcases k45 with ⟨z, k45⟩ | ⟨z, k45⟩
          · rw [if_neg (ne01 z)] at g
            refine ih (s + 1) (Int32.ofNat s) (by omega) (Or.inr ⟨s, by omega, ⟨hlt, k45⟩, rfl, fun t ht' vt => ?_⟩) g
            by_cases ct : t = s
            · exact Or.inl ct
            · exact Or.inr (hb t (by omega) vt)
          · rw [if_pos z] at g
            exact skip (fun vs => absurd vs.2 k45) g
        rcases hB with ⟨p1, p2⟩ | ⟨b, p1, p2, p3, p4⟩
        · have r1 : r42 = 1 := by
            unfold fX12_isBetter GX12_isBetter_18 at a42
            rw [if_pos p1, if_pos (by decide)] at a42
            obtain ⟨-, a42⟩ := gd_some a42
            cases a42
            rfl
          rw [if_neg (ne01 r1)] at h
          exact test h (fun t ht' vt => absurd vt (p2 t ht'))
        · rw [p3] at a42
          rcases better_sp (n := kp.toNatClampNeg) (by omega) hlt p2.1 (by omega) a42 with ⟨z, k⟩ | ⟨z, k⟩
          · rw [if_neg (ne01 z)] at h
            refine test h (fun t ht' vt => ?_)
            rcases p4 t ht' vt with g | g
            · rw [g]
              exact k
            · exact bS_tr k g
          · rw [if_pos z] at h
            exact skip (fun _ => ⟨b, p1, p2, p3, k, p4⟩) h
      · rw [if_neg cm] at h
        exact skip (fun vs => absurd ((mskS (k := kp.toNatClampNeg) (show s < 4096 by omega) (by omega)).mpr vs.1) cm) h
theorem BSt_uq {P : Nat → Prop} {n : Nat} {r r' : Int32} (h : BSt P n r) (h' : BSt P n r') : r = r' := by
  rcases h with ⟨a, b⟩ | ⟨t, t1, t2, t3, t4⟩
  · rcases h' with ⟨a', b'⟩ | ⟨t', y1, y2, y3, y4⟩
    · rw [a, a']
    · exact absurd y2 (b t' y1)
  · rcases h' with ⟨a', b'⟩ | ⟨t', y1, y2, y3, y4⟩
    · exact absurd t2 (b' t t1)
    · have e : t = t' := by
        rcases t4 t' y1 y2 with g | g
        · exact g.symm
        · rcases y4 t t1 t2 with k | k
          · exact k
          · exfalso
            rcases g with g | ⟨g1, g2⟩
            · rcases k with k | ⟨k1, k2⟩
              · omega
              · omega
            · rcases k with k | ⟨k1, k2⟩
              · omega
              · exact prS_as g2 k2
      rw [t3, y3, e]
