/-! feed on new objects. First rows of kit/laws/BITS (the family of Int32 by its bits), given for pasting. -/
/-! ===== Int32 by its bits: bt x i ===== -/
def bt (x : Int32) (i : Nat) : Bool := x.toBitVec.getLsbD i
theorem b_ext {x y : Int32} (h : ∀ i, i < 32 → bt x i = bt y i) : x = y := Int32.toBitVec_inj.mp (BitVec.eq_of_getLsbD_eq (fun i hi => h i hi))
theorem b_or (x y : Int32) (i : Nat) : bt (x ||| y) i = (bt x i || bt y i) := by unfold bt; rw [Int32.toBitVec_or, BitVec.getLsbD_or]
theorem b_and (x y : Int32) (i : Nat) : bt (x &&& y) i = (bt x i && bt y i) := by unfold bt; rw [Int32.toBitVec_and, BitVec.getLsbD_and]
theorem b_xor (x y : Int32) (i : Nat) : bt (x ^^^ y) i = (bt x i ^^ bt y i) := by unfold bt; rw [Int32.toBitVec_xor, BitVec.getLsbD_xor]
theorem b_big {x : Int32} {i : Nat} (h : 32 ≤ i) : bt x i = false := BitVec.getLsbD_of_ge _ _ h
theorem b_255 (i : Nat) : bt 255 i = decide (i < 8) := by
  rcases Nat.lt_or_ge i 32 with h | h
  · exact (by decide +kernel : ∀ i, i < 32 → bt 255 i = decide (i < 8)) i h
  · rw [b_big h, decide_eq_false (by omega)]
theorem b_65535 (i : Nat) : bt 65535 i = decide (i < 16) := by
  rcases Nat.lt_or_ge i 32 with h | h
  · exact (by decide +kernel : ∀ i, i < 32 → bt 65535 i = decide (i < 16)) i h
  · rw [b_big h, decide_eq_false (by omega)]
theorem b_m1 : ∀ i, i < 32 → bt (-1) i = true := by decide +kernel
theorem b_0 (i : Nat) : bt 0 i = false := BitVec.getLsbD_zero
theorem s_l : ∀ n, n < 32 → ((nI n &&& 31).toBitVec.smod 32).toNat = n := by decide +kernel
theorem s_u : ∀ n, n < 32 → (((nI n).toUInt32 &&& Int32.toUInt32 31).toBitVec % 32).toNat = n := by decide +kernel
theorem b_shl (n : Nat) (hn : n < 32) (x : Int32) {i : Nat} (hi : i < 32) : bt (x <<< (nI n &&& 31)) i = (decide (n ≤ i) && bt x (i - n)) := by
  unfold bt
  rw [Int32.toBitVec_shiftLeft]
  show (x.toBitVec <<< ((nI n &&& 31).toBitVec.smod 32).toNat).getLsbD i = _
  rw [s_l n hn, BitVec.getLsbD_shiftLeft]
  rcases Nat.lt_or_ge i n with h | h
  · simp [h, Nat.not_le.mpr h]
  · simp [hi, h, Nat.not_lt.mpr h]
theorem b_ushr (n : Nat) (hn : n < 32) (x : Int32) (i : Nat) : bt ((x.toUInt32 >>> ((nI n).toUInt32 &&& Int32.toUInt32 31)).toInt32) i = bt x (n + i) := by
  show (x.toUInt32 >>> ((nI n).toUInt32 &&& Int32.toUInt32 31)).toBitVec.getLsbD i = x.toUInt32.toBitVec.getLsbD (n + i)
  rw [UInt32.toBitVec_shiftRight]
  show (x.toUInt32.toBitVec >>> (((nI n).toUInt32 &&& Int32.toUInt32 31).toBitVec % 32).toNat).getLsbD i = _
  rw [s_u n hn, BitVec.getLsbD_ushiftRight]
theorem b_sshr (n : Nat) (hn : n < 32) (x : Int32) {i : Nat} (hi : i < 32) : bt (x >>> (nI n &&& 31)) i = if n + i < 32 then bt x (n + i) else bt x 31 := by
  unfold bt
  rw [Int32.toBitVec_shiftRight]
  show (x.toBitVec.sshiftRight ((nI n &&& 31).toBitVec.smod 32).toNat).getLsbD i = _
  rw [s_l n hn, BitVec.getLsbD_sshiftRight, BitVec.msb_eq_getLsbD_last]
  simp [hi]
theorem sh_eq (k : Nat) (hk : k ≤ 24) (x : Int32) : ((x.toUInt32 >>> ((nI k).toUInt32 &&& Int32.toUInt32 31)).toInt32) &&& 255 = (x >>> (nI k &&& 31)) &&& 255 := b_ext fun i hi => by
  rw [b_and, b_and, b_255, b_ushr k (by omega), b_sshr k (by omega) x hi]
  by_cases h : i < 8
  · rw [if_pos (by omega)]
  · rw [decide_eq_false h, Bool.and_false, Bool.and_false]
def cb (x : Int32) (k : Nat) : Nat := if ((x >>> (nI k &&& 31)) &&& 255) = 0 then 0 else 1
theorem cb_le (x : Int32) (k : Nat) : cb x k ≤ 1 := by unfold cb; split <;> omega
def cn (x : Int32) : Nat := cb x 24 + cb x 16 + cb x 8 + cb x 0
theorem cn_le (x : Int32) : cn x ≤ 4 := by
  have := cb_le x 24; have := cb_le x 16; have := cb_le x 8; have := cb_le x 0
  unfold cn; omega
theorem ge0 {k : Nat} (hk : k < 25) : ¬ nI k < 0 := (by decide +kernel : ∀ k, k < 25 → ¬ nI k < 0) k hk
theorem nadd (a b : Nat) : nI a + nI b = nI (a + b) := by
  unfold nI
  exact (Int32.ofNat_add a b).symm
theorem bo_step (n c k : Nat) (hk : k ≤ 24) (x : Int32) : LX9_bytesOf_5 (n + 1) x (nI c) (nI k) = LX9_bytesOf_5 n x (nI (c + cb x k)) (nI k + (-8)) := by
  rw [LX9_bytesOf_5, if_neg (ge0 (by omega)), sh_eq k hk x]
  unfold cb GX9_bytesOf_22
  by_cases h : ((x >>> (nI k &&& 31)) &&& 255) = 0
  · rw [if_pos h, if_pos h]; rfl
  · rw [if_neg h, if_neg h]
    rw [show nI c + 1 = nI (c + 1) from nadd c 1]
theorem e16 : nI 24 + (-8) = nI 16 := by decide
theorem e8 : nI 16 + (-8) = nI 8 := by decide
theorem e0 : nI 8 + (-8) = nI 0 := by decide
theorem em : nI 0 + (-8) = -8 := by decide
theorem bytesOf_eq (x : Int32) : fX9_bytesOf x = some (nI (cn x)) := by
  show LX9_bytesOf_5 (4999 + 1) x (nI 0) (nI 24) = _
  rw [bo_step _ _ _ (by omega), e16]
  show LX9_bytesOf_5 (4998 + 1) x _ (nI 16) = _
  rw [bo_step _ _ _ (by omega), e8]
  show LX9_bytesOf_5 (4997 + 1) x _ (nI 8) = _
  rw [bo_step _ _ _ (by omega), e0]
  show LX9_bytesOf_5 (4996 + 1) x _ (nI 0) = _
  rw [bo_step _ _ _ (by omega), em]
  show LX9_bytesOf_5 (4995 + 1) x _ (-8) = _
  rw [LX9_bytesOf_5, if_pos (by decide)]
  unfold cn
  rw [Nat.zero_add]
theorem bi_step (n c k : Nat) (hk : k ≤ 24) (x : Int32) : LX12_bytesIn_5 (n + 1) x (nI c) (nI k) = LX12_bytesIn_5 n x (nI (c + cb x k)) (nI k + (-8)) := by
  rw [LX12_bytesIn_5, if_neg (ge0 (by omega))]
  unfold cb GX12_bytesIn_25 lt
  by_cases h : ((x >>> (nI k &&& 31)) &&& 255) = 0
  · rw [if_pos h, if_pos h]
    rw [show nI c + 0 = nI (c + 0) from nadd c 0]
  · rw [if_neg h, if_neg h]
    rw [show nI c + 1 = nI (c + 1) from nadd c 1]
theorem bytesIn_eq (x : Int32) : fX12_bytesIn x = some (nI (cn x)) := by
  show LX12_bytesIn_5 (4999 + 1) x (nI 0) (nI 24) = _
  rw [bi_step _ _ _ (by omega), e16]
  show LX12_bytesIn_5 (4998 + 1) x _ (nI 16) = _
  rw [bi_step _ _ _ (by omega), e8]
  show LX12_bytesIn_5 (4997 + 1) x _ (nI 8) = _
  rw [bi_step _ _ _ (by omega), e0]
  show LX12_bytesIn_5 (4996 + 1) x _ (nI 0) = _
  rw [bi_step _ _ _ (by omega), em]
  show LX12_bytesIn_5 (4995 + 1) x _ (-8) = _
  rw [LX12_bytesIn_5, if_pos (by decide)]
  unfold cn
  rw [Nat.zero_add]
theorem len_ok {c : Nat} (hc : c < 100) : (¬ (120 : Int32) ≤ nI c) ∧ inb (nI c) 120 = true := (by decide +kernel : ∀ c, c < 100 → (¬ (120 : Int32) ≤ nI c) ∧ inb (nI c) 120 = true) c hc
theorem ap_step (n k c : Nat) (hk : k ≤ 24) (hc : c < 100) (x : Int32) (u : SX) (hu : u.1 1 = nI c) : ∃ u' : SX, u'.1 1 = nI (c + cb x k) ∧ LX9_append_1_3 (n + 1) x (nI k) u = LX9_append_1_3 n x (nI k + (-8)) u' := by
  rw [LX9_append_1_3, if_neg (ge0 (by omega))]
  unfold lt cb GX9_append_1_48
  rw [sh_eq k hk x]
  dsimp only
  by_cases h : ((x >>> (nI k &&& 31)) &&& 255) = 0
  · rw [if_pos h, if_pos h]
    exact ⟨u, hu, rfl⟩
  · rw [if_neg h, if_neg h, hu, if_neg (len_ok hc).1, (len_ok hc).2]
    refine ⟨_, ?_, rfl⟩
    show u.1 1 + 1 = nI (c + 1)
    rw [hu]
    exact nadd c 1
theorem append_eq (c : Nat) (hc : c < 90) (x : Int32) (u : SX) (hu : u.1 1 = nI c) : ∃ u' : SX, u'.1 1 = nI (c + cn x) ∧ fX9_append_1 x u = some (0, u') := by
  have l1 := cb_le x 24
  have l2 := cb_le x 16
  have l3 := cb_le x 8
  obtain ⟨u1, h1, e1⟩ := ap_step 4999 24 c (by omega) (by omega) x u hu
  obtain ⟨u2, h2, e2⟩ := ap_step 4998 16 _ (by omega) (by omega) x u1 h1
  obtain ⟨u3, h3, e3⟩ := ap_step 4997 8 _ (by omega) (by omega) x u2 h2
  obtain ⟨u4, h4, e4⟩ := ap_step 4996 0 _ (by omega) (by omega) x u3 h3
  refine ⟨u4, ?_, ?_⟩
  · rw [h4]; unfold cn; congr 1; omega
  · show LX9_append_1_3 (4999 + 1) x (nI 24) u = _
    rw [e1, e16]
    show LX9_append_1_3 (4998 + 1) x (nI 16) u1 = _
    rw [e2, e8]
    show LX9_append_1_3 (4997 + 1) x (nI 8) u2 = _
    rw [e3, e0]
    show LX9_append_1_3 (4996 + 1) x (nI 0) u3 = _
    rw [e4, em]
    show LX9_append_1_3 (4995 + 1) x (-8) u4 = _
    rw [LX9_append_1_3, if_pos (by decide)]
theorem pu_step (n k c : Nat) (hk : k ≤ 24) (hc : c < 100) (x : Int32) (u : SX) (hu : u.1 3 = nI c) : ∃ u' : SX, u'.1 3 = nI (c + cb x k) ∧ LX12_put_0_3 (n + 1) x (nI k) u = LX12_put_0_3 n x (nI k + (-8)) u' := by
  rw [LX12_put_0_3, if_neg (ge0 (by omega))]
  unfold cb GX12_put_0_43 lt
  dsimp only
  by_cases h : ((x >>> (nI k &&& 31)) &&& 255) = 0
  · rw [if_pos h, if_pos h]
    exact ⟨u, hu, rfl⟩
  · rw [if_neg h, if_neg h, hu, (len_ok hc).2]
    refine ⟨_, ?_, rfl⟩
    show u.1 3 + 1 = nI (c + 1)
    rw [hu]
    exact nadd c 1
theorem put_eq (c : Nat) (hc : c < 90) (x : Int32) (u : SX) (hu : u.1 3 = nI c) : ∃ u' : SX, u'.1 3 = nI (c + cn x) ∧ fX12_put_0 x u = some (0, u') := by
  have l1 := cb_le x 24
  have l2 := cb_le x 16
  have l3 := cb_le x 8
  obtain ⟨u1, h1, e1⟩ := pu_step 4999 24 c (by omega) (by omega) x u hu
  obtain ⟨u2, h2, e2⟩ := pu_step 4998 16 _ (by omega) (by omega) x u1 h1
  obtain ⟨u3, h3, e3⟩ := pu_step 4997 8 _ (by omega) (by omega) x u2 h2
  obtain ⟨u4, h4, e4⟩ := pu_step 4996 0 _ (by omega) (by omega) x u3 h3
  refine ⟨u4, ?_, ?_⟩
  · rw [h4]; unfold cn; congr 1; omega
  · show LX12_put_0_3 (4999 + 1) x (nI 24) u = _
    rw [e1, e16]
    show LX12_put_0_3 (4998 + 1) x (nI 16) u1 = _
    rw [e2, e8]
    show LX12_put_0_3 (4997 + 1) x (nI 8) u2 = _
    rw [e3, e0]
    show LX12_put_0_3 (4996 + 1) x (nI 0) u3 = _
    rw [e4, em]
    show LX12_put_0_3 (4995 + 1) x (-8) u4 = _
    rw [LX12_put_0_3, if_pos (by decide)]
theorem le120 {c : Nat} (hc : c < 100) : nI c ≤ 120 := (by decide +kernel : ∀ c, c < 100 → nI c ≤ 120) c hc
theorem pf_feed (x1 x2 x3 x4 x5 : Int32) : agr (fX11_feed_0 x1 x2 x3 x4 x5 uX) (fX12_feed_0 x1 x2 x3 x4 x5 uM) = true := by
  have l1 := cn_le x1
  have l2 := cn_le x2
  have l3 := cn_le x3
  have l4 := cn_le x4
  have l5 := cn_le x5
  obtain ⟨a1, g1, h1⟩ := append_eq 0 (by omega) x1 uX rfl
  obtain ⟨a2, g2, h2⟩ := append_eq _ (by omega) x2 a1 g1
  obtain ⟨a3, g3, h3⟩ := append_eq _ (by omega) x3 a2 g2
  obtain ⟨a4, g4, h4⟩ := append_eq _ (by omega) x4 a3 g3
  obtain ⟨a5, g5, h5⟩ := append_eq _ (by omega) x5 a4 g4
  obtain ⟨b1, j1, k1⟩ := put_eq 0 (by omega) x1 uN rfl
  obtain ⟨b2, j2, k2⟩ := put_eq _ (by omega) x2 b1 j1
  obtain ⟨b3, j3, k3⟩ := put_eq _ (by omega) x3 b2 j2
  obtain ⟨b4, j4, k4⟩ := put_eq _ (by omega) x4 b3 j3
  obtain ⟨b5, j5, k5⟩ := put_eq _ (by omega) x5 b4 j4
  refine agr_of (r := nI (0 + cn x1 + cn x2 + cn x3 + cn x4 + cn x5)) (u := a5) (u' := b5) ?_ ?_
  · unfold fX11_feed_0 lt
    rw [bytesOf_eq, bytesOf_eq, bytesOf_eq, bytesOf_eq, bytesOf_eq]
    show (if nI 0 + (nI (cn x1) + nI (cn x2) + nI (cn x3) + nI (cn x4) + nI (cn x5)) ≤ 120 then _ else _) = _
    rw [nadd, nadd, nadd, nadd, nadd, if_pos (le120 (by omega)), h1]
    show (fX9_append_1 x2 a1).bind _ = _
    rw [h2]
    show (fX9_append_1 x3 a2).bind _ = _
    rw [h3]
    show (fX9_append_1 x4 a3).bind _ = _
    rw [h4]
    show (fX9_append_1 x5 a4).bind _ = _
    rw [h5]
    show some (a5.1 1, a5) = _
    rw [g5]
  · unfold fX12_feed_0 lt
    rw [bytesIn_eq, bytesIn_eq, bytesIn_eq, bytesIn_eq, bytesIn_eq]
    show (if nI 0 + nI (cn x1) + nI (cn x2) + nI (cn x3) + nI (cn x4) + nI (cn x5) ≤ 120 then ((fX12_put_0 x1 uN).bind _) else _) = _
    rw [nadd, nadd, nadd, nadd, nadd, if_pos (le120 (by omega)), k1]
    show (fX12_put_0 x2 b1).bind _ = _
    rw [k2]
    show (fX12_put_0 x3 b2).bind _ = _
    rw [k3]
    show (fX12_put_0 x4 b3).bind _ = _
    rw [k4]
    show (fX12_put_0 x5 b4).bind _ = _
    rw [k5]
    show some (b5.1 3, b5) = _
    rw [j5]
