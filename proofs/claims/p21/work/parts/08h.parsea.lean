/-! The tape: feed and end. -/
theorem bit255 (i : Nat) : (255#32).getLsbD i = decide (i < 8) := by
  show (BitVec.ofNat 32 (2 ^ 8 - 1)).getLsbD i = decide (i < 8)
  rw [BitVec.getLsbD_ofNat, Nat.testBit_two_pow_sub_one]
  by_cases h : i < 8
  · have : i < 32 := by omega
    simp [h, this]
  · simp [h]
theorem bv_sh (b : BitVec 32) (n : Nat) (hn : n ≤ 24) : (b >>> n) &&& 255#32 = (b.sshiftRight n) &&& 255#32 := by
  apply BitVec.eq_of_getLsbD_eq
  intro i hi
  rw [BitVec.getLsbD_and, BitVec.getLsbD_and, bit255, BitVec.getLsbD_ushiftRight, BitVec.getLsbD_sshiftRight]
  by_cases h : i < 8
  · have h1 : n + i < 32 := by omega
    simp [h, h1, Nat.not_le.mpr hi]
  · simp [h]
theorem by24 (x : Int32) : ((x.toUInt32 >>> ((24 : Int32).toUInt32 &&& Int32.toUInt32 31)).toInt32) &&& 255 = (x >>> ((24 : Int32) &&& 31)) &&& 255 := Int32.toBitVec.inj (bv_sh x.toBitVec 24 (by decide))
theorem by16 (x : Int32) : ((x.toUInt32 >>> ((16 : Int32).toUInt32 &&& Int32.toUInt32 31)).toInt32) &&& 255 = (x >>> ((16 : Int32) &&& 31)) &&& 255 := Int32.toBitVec.inj (bv_sh x.toBitVec 16 (by decide))
theorem by8 (x : Int32) : ((x.toUInt32 >>> ((8 : Int32).toUInt32 &&& Int32.toUInt32 31)).toInt32) &&& 255 = (x >>> ((8 : Int32) &&& 31)) &&& 255 := Int32.toBitVec.inj (bv_sh x.toBitVec 8 (by decide))
theorem by0 (x : Int32) : ((x.toUInt32 >>> ((0 : Int32).toUInt32 &&& Int32.toUInt32 31)).toInt32) &&& 255 = (x >>> ((0 : Int32) &&& 31)) &&& 255 := Int32.toBitVec.inj (bv_sh x.toBitVec 0 (by decide))
/-- the four places of a byte -/
def Sh (z : Int32) : Prop := z = 24 ∨ z = 16 ∨ z = 8 ∨ z = 0
theorem sh_by {z : Int32} (h : Sh z) (x : Int32) : ((x.toUInt32 >>> (z.toUInt32 &&& Int32.toUInt32 31)).toInt32) &&& 255 = (x >>> (z &&& 31)) &&& 255 := by
  rcases h with h | h | h | h <;> rw [h]
  · exact by24 x
  · exact by16 x
  · exact by8 x
  · exact by0 x
theorem sh_nx {z : Int32} (h : Sh z) : Sh (z + (-8)) ∨ z + (-8) < 0 := by
  rcases h with h | h | h | h <;> rw [h]
  · exact Or.inl (Or.inr (Or.inl (by decide)))
  · exact Or.inl (Or.inr (Or.inr (Or.inl (by decide))))
  · exact Or.inl (Or.inr (Or.inr (Or.inr (by decide))))
  · exact Or.inr (by decide)
theorem sh_pos {z : Int32} (h : Sh z) : ¬ z < 0 := by
  rcases h with h | h | h | h <;> (rw [h]; decide)
theorem bytes_eq {x : Int32} : ∀ (n m : Nat) (z1 z2 r r' : Int32), (Sh z2 ∨ z2 < 0) → LX9_bytesOf_5 n x z1 z2 = some r → LX12_bytesIn_5 m x z1 z2 = some r' → r = r' := by
  intro n
  induction n with
  | zero => intro m z1 z2 r r' _ h; cases h
  | succ n ih =>
    intro m z1 z2 r r' hz h1 h2
    cases m with
    | zero => cases h2
    | succ m =>
      have h1 : (if z2 < 0 then (some z1) else (if (((x.toUInt32 >>> (z2.toUInt32 &&& Int32.toUInt32 31)).toInt32) &&& 255) = 0 then (GX9_bytesOf_22 (LX9_bytesOf_5 n) x z1 z2) else (GX9_bytesOf_22 (LX9_bytesOf_5 n) x (z1 + 1) z2))) = some r := h1
      have h2 : (if z2 < 0 then (some z1) else (if ((x >>> (z2 &&& 31)) &&& 255) = 0 then (GX12_bytesIn_25 (LX12_bytesIn_5 m) x z2 0 z1) else (GX12_bytesIn_25 (LX12_bytesIn_5 m) x z2 1 z1))) = some r' := h2
      rcases hz with hz | hz
      · rw [if_neg (sh_pos hz)] at h1 h2
        rw [sh_by hz] at h1
        have z0 : z1 + 0 = z1 := by simp
        by_cases c : ((x >>> (z2 &&& 31)) &&& 255) = 0
        · rw [if_pos c] at h1 h2
          unfold GX9_bytesOf_22 at h1
          unfold GX12_bytesIn_25 at h2
          obtain ⟨v1, e1, h2⟩ := lt_some h2
          rw [e1, z0] at h2
          exact ih m z1 _ r r' (sh_nx hz) h1 h2
        · rw [if_neg c] at h1 h2
          unfold GX9_bytesOf_22 at h1
          unfold GX12_bytesIn_25 at h2
          obtain ⟨v1, e1, h2⟩ := lt_some h2
          rw [e1] at h2
          exact ih m (z1 + 1) _ r r' (sh_nx hz) h1 h2
      · rw [if_pos hz] at h1 h2
        cases h1
        cases h2
        rfl
theorem bytes_all {x r r' : Int32} (h1 : fX9_bytesOf x = some r) (h2 : fX12_bytesIn x = some r') : r = r' := bytes_eq 5000 5000 0 24 r r' (Or.inl (Or.inl rfl)) h1 h2
theorem tr8 (y : Int32) : (y &&& 255).toInt8 = y.toInt8 := by
  apply Int8.toBitVec.inj
  show (y.toBitVec &&& 255#32).signExtend 8 = y.toBitVec.signExtend 8
  apply BitVec.eq_of_getLsbD_eq
  intro i hi
  rw [BitVec.getLsbD_signExtend, BitVec.getLsbD_signExtend]
  have h1 : i < 32 := by omega
  simp [h1, BitVec.getLsbD_and, bit255, hi]
set_option maxRecDepth 100000 in
theorem rawF : ∀ n : Fin 256, (vp_nar .byte ((Int32.ofNat n.val).toInt8.toInt32)) &&& 255 = Int32.ofNat n.val ∧ (((Int32.ofNat n.val).toInt ≤ 127 ∧ vp_nar .byte ((Int32.ofNat n.val).toInt8.toInt32) = Int32.ofNat n.val) ∨ (128 ≤ (Int32.ofNat n.val).toInt ∧ (vp_nar .byte ((Int32.ofNat n.val).toInt8.toInt32)).toInt < 0)) := by decide +kernel
theorem and255 (y : Int32) : 0 ≤ (y &&& 255).toInt ∧ (y &&& 255).toInt ≤ 255 := by
  have e : (y &&& 255).toInt = ((y.toBitVec &&& 255#32).toNat : Int) := by
    show (y.toBitVec &&& 255#32).toInt = _
    have hb : (y.toBitVec &&& 255#32).toNat ≤ 255 := by
      rw [BitVec.toNat_and]
      exact Nat.and_le_right
    rw [BitVec.toInt_eq_toNat_cond, if_pos (by omega)]
  have hb : (y.toBitVec &&& 255#32).toNat ≤ 255 := by
    rw [BitVec.toNat_and]
    exact Nat.and_le_right
  rw [e]
  omega
theorem raw_eq (y : Int32) : (vp_nar .byte (y.toInt8.toInt32)) &&& 255 = y &&& 255 ∧ (((y &&& 255).toInt ≤ 127 ∧ vp_nar .byte (y.toInt8.toInt32) = y &&& 255) ∨ (128 ≤ (y &&& 255).toInt ∧ (vp_nar .byte (y.toInt8.toInt32)).toInt < 0)) := by
  obtain ⟨n, en⟩ := fin_of (and255 y).1 (and255 y).2
  have h := rawF n
  rw [← en, tr8] at h
  exact h
theorem app_eq {x : Int32} : ∀ (n m : Nat) (z2 : Int32) (u v u' v' : SX) (r r' : Int32), (Sh z2 ∨ z2 < 0) → 0 ≤ (u.1 1).toInt → (u.1 1).toInt ≤ 120 → TieT u v → LX9_append_1_3 n x z2 u = some (r, u') → LX12_put_0_3 m x z2 v = some (r', v') → TieT u' v' ∧ 0 ≤ (u'.1 1).toInt ∧ (u'.1 1).toInt ≤ 120 := by
  intro n
  induction n with
  | zero => intro m z2 u v u' v' r r' _ _ _ _ h; cases h
  | succ n ih =>
    intro m z2 u v u' v' r r' hz l0 l1 hT h1 h2
    cases m with
    | zero => cases h2
    | succ m =>
      have h1 : (if z2 < 0 then (some (0, u)) else (lt (((x.toUInt32 >>> (z2.toUInt32 &&& Int32.toUInt32 31)).toInt32) &&& 255) fun v1 => (if v1 = 0 then (GX9_append_1_48 (LX9_append_1_3 n) x z2 u) else (if 120 ≤ (u.1 1) then (GX9_append_1_48 (LX9_append_1_3 n) x z2 u) else (gd (inb (u.1 1) 120) (lt (sA u 13 (upd (u.2.1 13) (u.1 1).toNatClampNeg v1)) fun u4 => (lt (sI u4 1 ((u4.1 1) + 1)) fun u6 => (GX9_append_1_48 (LX9_append_1_3 n) x z2 u6)))))))) = some (r, u') := h1
      have h2 : (if z2 < 0 then (some (0, v)) else (if ((x >>> (z2 &&& 31)) &&& 255) = 0 then (GX12_put_0_43 (LX12_put_0_3 m) x z2 v) else (gd (inb (v.1 3) 120) (lt (sA v 1 (upd (v.2.1 1) (v.1 3).toNatClampNeg (vp_nar .byte ((x >>> (z2 &&& 31)).toInt8.toInt32)))) fun u2 => (lt (sI u2 3 ((u2.1 3) + 1)) fun u4 => (GX12_put_0_43 (LX12_put_0_3 m) x z2 u4)))))) = some (r', v') := h2
      rcases hz with hz | hz
      · rw [if_neg (sh_pos hz)] at h1 h2
        obtain ⟨c, ec, h1⟩ := lt_some h1
        rw [sh_by hz] at ec
        by_cases c0 : ((x >>> (z2 &&& 31)) &&& 255) = 0
        · rw [if_pos (ec.trans c0)] at h1
          rw [if_pos c0] at h2
          unfold GX9_append_1_48 at h1
          unfold GX12_put_0_43 at h2
          exact ih m _ u v u' v' r r' (sh_nx hz) l0 l1 hT h1 h2
        · rw [if_neg (fun z => c0 (ec.symm.trans z))] at h1
          rw [if_neg c0] at h2
          obtain ⟨hin, h2⟩ := gd_some h2
          obtain ⟨t1, t2⟩ := hT
          rw [← t1] at hin
          have hlt : (u.1 1).toInt < 120 := by
            have hv := inb_in hin
            rcases Int.lt_or_le (u.1 1).toInt 120 with z | z
            · exact z
            · exact absurd (Or.inr (by show 120 ≤ (u.1 1).toInt.toNat; omega)) hv
          rw [if_neg (fun z => by have z9 : (120 : Int) ≤ (u.1 1).toInt := leI z; omega)] at h1
          obtain ⟨-, h1⟩ := gd_some h1
          obtain ⟨w1, j1, h1⟩ := lt_some h1
          obtain ⟨w2, j2, h1⟩ := lt_some h1
          obtain ⟨y1, i1, h2⟩ := lt_some h2
          obtain ⟨y2, i2, h2⟩ := lt_some h2
          unfold GX9_append_1_48 at h1
          unfold GX12_put_0_43 at h2
          have e5 : (u.1 1 + 1).toInt = (u.1 1).toInt + 1 := addc_t (by decide) (by omega) (by omega)
          have k1 : w2.1 1 = u.1 1 + 1 := by rw [j2, j1]; rfl
          have k2 : w2.2.1 13 = upd (u.2.1 13) (u.1 1).toNatClampNeg c := by rw [j2, j1]; rfl
          have k3 : y2.1 3 = u.1 1 + 1 := by
            rw [i2, i1]
            show v.1 3 + 1 = _
            rw [t1]
          have k4 : y2.2.1 1 = upd (v.2.1 1) (u.1 1).toNatClampNeg (vp_nar .byte ((x >>> (z2 &&& 31)).toInt8.toInt32)) := by
            rw [i2, i1]
            show upd (v.2.1 1) (v.1 3).toNatClampNeg _ = _
            rw [t1]
          have hT' : TieT w2 y2 := by
            refine ⟨by rw [k1, k3], fun i hi => ?_⟩
            rw [k1, e5] at hi
            rw [k2, k4]
            show (1 ≤ (if i = (u.1 1).toNatClampNeg then c else u.2.1 13 i).toInt ∧ (if i = (u.1 1).toNatClampNeg then c else u.2.1 13 i).toInt ≤ 255) ∧ (if i = (u.1 1).toNatClampNeg then (vp_nar .byte ((x >>> (z2 &&& 31)).toInt8.toInt32)) else v.2.1 1 i) &&& 255 = (if i = (u.1 1).toNatClampNeg then c else u.2.1 13 i) ∧ (((if i = (u.1 1).toNatClampNeg then c else u.2.1 13 i).toInt ≤ 127 ∧ (if i = (u.1 1).toNatClampNeg then (vp_nar .byte ((x >>> (z2 &&& 31)).toInt8.toInt32)) else v.2.1 1 i) = (if i = (u.1 1).toNatClampNeg then c else u.2.1 13 i)) ∨ (128 ≤ (if i = (u.1 1).toNatClampNeg then c else u.2.1 13 i).toInt ∧ (if i = (u.1 1).toNatClampNeg then (vp_nar .byte ((x >>> (z2 &&& 31)).toInt8.toInt32)) else v.2.1 1 i).toInt < 0))
            by_cases ci : i = (u.1 1).toNatClampNeg
            · simp only [if_pos ci]
              obtain ⟨r1, r2⟩ := raw_eq (x >>> (z2 &&& 31))
              obtain ⟨b1, b2⟩ := and255 (x >>> (z2 &&& 31))
              rw [← ec] at r1 r2 b1 b2
              have nz : ¬ c.toInt = (0 : Int) := fun z => c0 (ec.symm.trans (Int32.toInt.inj (z.trans (by decide))))
              exact ⟨⟨by omega, b2⟩, r1, r2⟩
            · simp only [if_neg ci]
              have ci : ¬ i = (u.1 1).toInt.toNat := ci
              exact t2 i (by omega)
          exact ih m _ w2 y2 u' v' r r' (sh_nx hz) (by rw [k1, e5]; omega) (by rw [k1, e5]; omega) hT' h1 h2
      · rw [if_pos hz] at h1 h2
        have e1 : u = u' := by cases h1; rfl
        have e2 : v = v' := by cases h2; rfl
        rw [← e1, ← e2]
        exact ⟨hT, l0, l1⟩
theorem app_all {x r r' : Int32} {u v u' v' : SX} (l0 : 0 ≤ (u.1 1).toInt) (l1 : (u.1 1).toInt ≤ 120) (hT : TieT u v) (h1 : fX9_append_1 x u = some (r, u')) (h2 : fX12_put_0 x v = some (r', v')) : TieT u' v' ∧ 0 ≤ (u'.1 1).toInt ∧ (u'.1 1).toInt ≤ 120 := app_eq 5000 5000 24 u v u' v' r r' (Or.inl (Or.inl rfl)) l0 l1 hT h1 h2
theorem feed_eq {x1 x2 x3 x4 x5 r r' : Int32} {u u' v v' : SX} (hI : IX u) (hT : TieT u v) (h1 : fX11_feed_0 x1 x2 x3 x4 x5 u = some (r, u')) (h2 : fX12_feed_0 x1 x2 x3 x4 x5 v = some (r', v')) : r = r' ∧ TieT u' v' := by
  have l0 : (0 : Int) ≤ (u.1 1).toInt := (hI.1 1).1
  have l1 : (u.1 1).toInt ≤ (120 : Int) := (hI.1 1).2
  unfold fX11_feed_0 at h1
  unfold fX12_feed_0 at h2
  obtain ⟨v1, e1, h2⟩ := lt_some h2
  have hT1 : TieT u v1 := by rw [e1]; exact hT
  clear e1 hT
  obtain ⟨a1, b1, h1⟩ := bd_some h1
  obtain ⟨a2, b2, h1⟩ := bd_some h1
  obtain ⟨a3, b3, h1⟩ := bd_some h1
  obtain ⟨a4, b4, h1⟩ := bd_some h1
  obtain ⟨a5, b5, h1⟩ := bd_some h1
  obtain ⟨s, es, h1⟩ := lt_some h1
  obtain ⟨c1, d1, h2⟩ := bd_some h2
  obtain ⟨c2, d2, h2⟩ := bd_some h2
  obtain ⟨c3, d3, h2⟩ := bd_some h2
  obtain ⟨c4, d4, h2⟩ := bd_some h2
  obtain ⟨c5, d5, h2⟩ := bd_some h2
  have es2 : v1.1 3 + c1 + c2 + c3 + c4 + c5 = u.1 1 + s := by
    rw [es, ← bytes_all b1 d1, ← bytes_all b2 d2, ← bytes_all b3 d3, ← bytes_all b4 d4, ← bytes_all b5 d5, ← hT1.1]
    simp only [Int32.add_assoc]
  rw [es2] at h2
  by_cases c : u.1 1 + s ≤ 120
  · rw [if_pos c] at h1 h2
    obtain ⟨⟨p1, u1⟩, f1, h1⟩ := bd_some h1
    obtain ⟨⟨q1, w1⟩, g1, h2⟩ := bd_some h2
    obtain ⟨T1, m1, n1⟩ := app_all l0 l1 hT1 f1 g1
    obtain ⟨⟨p2, u2⟩, f2, h1⟩ := bd_some h1
    obtain ⟨⟨q2, w2⟩, g2, h2⟩ := bd_some h2
    obtain ⟨T2, m2, n2⟩ := app_all m1 n1 T1 f2 g2
    obtain ⟨⟨p3, u3⟩, f3, h1⟩ := bd_some h1
    obtain ⟨⟨q3, w3⟩, g3, h2⟩ := bd_some h2
    obtain ⟨T3, m3, n3⟩ := app_all m2 n2 T2 f3 g3
    obtain ⟨⟨p4, u4⟩, f4, h1⟩ := bd_some h1
    obtain ⟨⟨q4, w4⟩, g4, h2⟩ := bd_some h2
    obtain ⟨T4, m4, n4⟩ := app_all m3 n3 T3 f4 g4
    obtain ⟨⟨p5, u5⟩, f5, h1⟩ := bd_some h1
    obtain ⟨⟨q5, w5⟩, g5, h2⟩ := bd_some h2
    obtain ⟨T5, m5, n5⟩ := app_all m4 n4 T4 f5 g5
    have e1 : u5.1 1 = r ∧ u5 = u' := by cases h1; exact ⟨rfl, rfl⟩
    have e2 : w5.1 3 = r' ∧ w5 = v' := by cases h2; exact ⟨rfl, rfl⟩
    rw [← e1.1, ← e1.2, ← e2.1, ← e2.2]
    exact ⟨T5.1, T5⟩
  · rw [if_neg c] at h1 h2
    have e1 : (-1 : Int32) = r ∧ u = u' := by cases h1; exact ⟨rfl, rfl⟩
    have e2 : (-1 : Int32) = r' ∧ v1 = v' := by cases h2; exact ⟨rfl, rfl⟩
    rw [← e1.1, ← e1.2, ← e2.1, ← e2.2]
    exact ⟨rfl, hT1⟩
theorem end_eq {x1 r r' : Int32} {u u' v v' : SX} (hI : IX u) (hT : TieT u v) (h1 : fX11_end_0 x1 u = some (r, u')) (h2 : fX12_end_0 x1 v = some (r', v')) : r = r' ∧ TieT u' v' := by
  unfold fX11_end_0 at h1
  unfold fX12_end_0 at h2
  obtain ⟨v1, e1, h2⟩ := lt_some h2
  have hT1 : TieT u v1 := by rw [e1]; exact hT
  clear e1 hT
  obtain ⟨t1, t2⟩ := hT1
  rw [← t1] at h2
  obtain ⟨a1, b1, h1⟩ := bd_some h1
  unfold fX11_within at b1
  have no : some ((0 : Int32), u) = some (r, u') → some ((0 : Int32), v1) = some (r', v') → r = r' ∧ TieT u' v' := fun g1 g2 => by
    have e1 : (0 : Int32) = r ∧ u = u' := by cases g1; exact ⟨rfl, rfl⟩
    have e2 : (0 : Int32) = r' ∧ v1 = v' := by cases g2; exact ⟨rfl, rfl⟩
    rw [← e1.1, ← e1.2, ← e2.1, ← e2.2]
    exact ⟨rfl, t1, t2⟩
  by_cases c0 : x1 < 0
  · rw [if_pos c0] at b1 h2
    obtain ⟨-, b1⟩ := gd_some b1
    have ea : (0 : Int32) = a1 := by cases b1; rfl
    rw [if_pos ea.symm] at h1
    exact no (gd_some h1).2 (gd_some h2).2
  · rw [if_neg c0] at b1 h2
    by_cases c1 : u.1 1 < x1
    · rw [if_pos c1] at b1
      obtain ⟨-, b1⟩ := gd_some b1
      have ea : (0 : Int32) = a1 := by cases b1; rfl
      rw [if_pos ea.symm] at h1
      have c9 : (u.1 1).toInt < x1.toInt := ltI c1
      rw [if_neg (fun z => by have := leI z; omega)] at h2
      exact no (gd_some h1).2 (gd_some h2).2
    · rw [if_neg c1] at b1
      obtain ⟨-, b1⟩ := gd_some b1
      have ea : (1 : Int32) = a1 := by cases b1; rfl
      have c9 : ¬ (u.1 1).toInt < x1.toInt := nltI c1
      rw [if_neg (by rw [← ea]; decide)] at h1
      rw [if_pos (by exact Int32.le_iff_toInt_le.mpr (by omega))] at h2
      obtain ⟨w1, j1, h1⟩ := lt_some h1
      obtain ⟨y1, i1, h2⟩ := lt_some h2
      have e1 : (1 : Int32) = r ∧ w1 = u' := by cases (gd_some h1).2; exact ⟨rfl, rfl⟩
      have e2 : (1 : Int32) = r' ∧ y1 = v' := by cases (gd_some h2).2; exact ⟨rfl, rfl⟩
      rw [← e1.1, ← e1.2, ← e2.1, ← e2.2, j1, i1]
      refine ⟨rfl, rfl, fun i hi => t2 i ?_⟩
      have hi : (i : Int) < x1.toInt := hi
      omega
