/-! What is left over lies within bounds. -/
theorem mul_b {a w : Int} (h0 : 0 ≤ a) (h1 : a ≤ 400) (w0 : -1000000 ≤ w) (w1 : w ≤ 1000000) : -400000000 ≤ a * w ∧ a * w ≤ 400000000 := by
  have p1 : a * w ≤ a * 1000000 := Int.mul_le_mul_of_nonneg_left w1 h0
  have p2 : a * (-1000000) ≤ a * w := Int.mul_le_mul_of_nonneg_left w0 h0
  omega
theorem tdiv_c (x : Int) : (0 ≤ x ∧ x.tdiv 100 = x / 100) ∨ (x < 0 ∧ x.tdiv 100 = -((-x) / 100)) := by
  rcases Int.lt_or_le x 0 with c | c
  · refine Or.inr ⟨c, ?_⟩
    have e : x.tdiv 100 = -((-x).tdiv 100) := by rw [Int.neg_tdiv, Int.neg_neg]
    rw [e, Int.tdiv_eq_ediv_of_nonneg (by omega)]
  · exact Or.inl ⟨c, Int.tdiv_eq_ediv_of_nonneg c⟩
theorem tdiv_b {x : Int} (h0 : -400000000 ≤ x) (h1 : x ≤ 400000000) : -4000000 ≤ x.tdiv 100 ∧ x.tdiv 100 ≤ 4000000 := by
  rcases tdiv_c x with ⟨c, e⟩ | ⟨c, e⟩
  · rw [e]
    omega
  · rw [e]
    omega
theorem tdiv_mono {x y : Int} (h : x ≤ y) : x.tdiv 100 ≤ y.tdiv 100 := by
  rcases tdiv_c x with ⟨c, e⟩ | ⟨c, e⟩
  · rcases tdiv_c y with ⟨d, f⟩ | ⟨d, f⟩
    · rw [e, f]
      omega
    · omega
  · rcases tdiv_c y with ⟨d, f⟩ | ⟨d, f⟩
    · rw [e, f]
      omega
    · rw [e, f]
      omega
theorem shnv {a w : Int32} (a0 : 0 ≤ a.toInt) (a1 : a.toInt ≤ 400) (hw : Bw w) : (shn a w).toInt = (a.toInt * w.toInt).tdiv 100 := by
  obtain ⟨w0, w1⟩ := hw
  obtain ⟨m0, m1⟩ := mul_b a0 a1 w0 w1
  have em : (a * w).toInt = a.toInt * w.toInt := by rw [Int32.toInt_mul]; exact bm_t (by omega) (by omega)
  have hd := tdiv_b m0 m1
  unfold shn
  rw [Int32.toInt_div, em, show (100 : Int32).toInt = 100 by decide, bm_t (by omega) (by omega)]
theorem shnB {a w : Int32} (a0 : 0 ≤ a.toInt) (a1 : a.toInt ≤ 400) (hw : Bw w) : -4000000 ≤ (shn a w).toInt ∧ (shn a w).toInt ≤ 4000000 := by
  rw [shnv a0 a1 hw]
  obtain ⟨m0, m1⟩ := mul_b a0 a1 hw.1 hw.2
  exact tdiv_b m0 m1
/-- a span of loudness -/
abbrev Sb (p : Int32 × Int32) : Prop := (0 ≤ p.1.toInt ∧ p.1.toInt ≤ 400) ∧ (0 ≤ p.2.toInt ∧ p.2.toInt ≤ 400)
theorem mxSB {w : Int32} {p : Int32 × Int32} (hw : Bw w) (hp : Sb p) : -4000000 ≤ (mxS w p).toInt ∧ (mxS w p).toInt ≤ 4000000 := by
  unfold mxS
  by_cases c : shn p.1 w < shn p.2 w
  · rw [if_pos c]
    exact shnB hp.2.1 hp.2.2 hw
  · rw [if_neg c]
    exact shnB hp.1.1 hp.1.2 hw
theorem mnSB {w : Int32} {p : Int32 × Int32} (hw : Bw w) (hp : Sb p) : -4000000 ≤ (mnS w p).toInt ∧ (mnS w p).toInt ≤ 4000000 := by
  unfold mnS
  by_cases c : shn p.2 w < shn p.1 w
  · rw [if_pos c]
    exact shnB hp.2.1 hp.2.2 hw
  · rw [if_neg c]
    exact shnB hp.1.1 hp.1.2 hw
theorem sumWB {g : Nat → Int32} : ∀ k : Nat, k ≤ 12 → (∀ i, i < k → -4000000 ≤ (g i).toInt ∧ (g i).toInt ≤ 4000000) → -(4000000 * (k : Int)) ≤ (sumW g k).toInt ∧ (sumW g k).toInt ≤ 4000000 * (k : Int) := by
  intro k
  induction k with
  | zero =>
    intro _ _
    have e : (sumW g 0).toInt = (0 : Int) := by
      show (0 : Int32).toInt = 0
      decide
    rw [e]
    omega
  | succ k ih =>
    intro hk h
    obtain ⟨a, b⟩ := ih (by omega) (fun i hi => h i (by omega))
    obtain ⟨c, d⟩ := h k (by omega)
    show _ ≤ (sumW g k + g k).toInt ∧ (sumW g k + g k).toInt ≤ _
    have e : (sumW g k + g k).toInt = (sumW g k).toInt + (g k).toInt := add_t (by omega) (by omega)
    rw [e]
    omega
/-- within what bounds what is left over lies -/
abbrev Lb (x : Int32) : Prop := -48100000 ≤ x.toInt ∧ x.toInt ≤ 48100000
theorem lfSB {u : SX} {S : Nat → Int32 × Int32} {kp n : Nat} (hI : IX u) (hk : kp ≤ 12) (hw : ∀ i, i < kp → Bw (ww u n i)) (hS : ∀ i, i < kp → Sb (S i)) : Lb (lfS u S kp n).1 ∧ Lb (lfS u S kp n).2 := by
  have b40 : -100000 ≤ (u.2.1 40 n).toInt ∧ (u.2.1 40 n).toInt ≤ 100000 := ⟨(hI.2.1 40 n).1, (hI.2.1 40 n).2⟩
  obtain ⟨a, b⟩ := sumWB (g := fun i => mxS (ww u n i) (S i)) kp hk (fun i hi => mxSB (hw i hi) (hS i hi))
  obtain ⟨c, d⟩ := sumWB (g := fun i => mnS (ww u n i) (S i)) kp hk (fun i hi => mnSB (hw i hi) (hS i hi))
  have hk9 : (kp : Int) ≤ 12 := by omega
  unfold lfS
  refine ⟨?_, ?_⟩
  · show -48100000 ≤ (u.2.1 40 n - sumW (fun i => mxS (ww u n i) (S i)) kp).toInt ∧ (u.2.1 40 n - sumW (fun i => mxS (ww u n i) (S i)) kp).toInt ≤ 48100000
    rw [sub_t (by omega) (by omega)]
    omega
  · show -48100000 ≤ (u.2.1 40 n - sumW (fun i => mnS (ww u n i) (S i)) kp).toInt ∧ (u.2.1 40 n - sumW (fun i => mnS (ww u n i) (S i)) kp).toInt ≤ 48100000
    rw [sub_t (by omega) (by omega)]
    omega
theorem stepSB {c a b : Int32} {p : Int32 × Int32} (ha : 0 ≤ a.toInt ∧ a.toInt ≤ 400) (hb : 0 ≤ b.toInt ∧ b.toInt ≤ 400) (hp : Sb p) : Sb (stepS c a b p) := by
  unfold stepS
  by_cases c1 : c = 0
  · rw [if_pos c1]
    by_cases c2 : p.2 < a
    · rw [if_pos c2]
      exact ⟨ha, hb⟩
    · rw [if_neg c2]
      by_cases c3 : p.1 ≤ b
      · rw [if_pos c3]
        refine ⟨?_, ?_⟩
        · show 0 ≤ (if p.1 < a then a else p.1).toInt ∧ (if p.1 < a then a else p.1).toInt ≤ 400
          by_cases d : p.1 < a
          · rw [if_pos d]
            exact ha
          · rw [if_neg d]
            exact hp.1
        · show 0 ≤ (if b < p.2 then b else p.2).toInt ∧ (if b < p.2 then b else p.2).toInt ≤ 400
          by_cases d : b < p.2
          · rw [if_pos d]
            exact hb
          · rw [if_neg d]
            exact hp.2
      · rw [if_neg c3]
        exact ⟨ha, hb⟩
  · rw [if_neg c1]
    exact ⟨ha, hb⟩
theorem spXB {u : SX} (hI : IX u) : ∀ (k i : Nat), Sb (spX u k i) := by
  intro k
  induction k with
  | zero => intro i; exact ⟨⟨(hI.2.1 29 i).1, (hI.2.1 29 i).2⟩, ⟨(hI.2.1 30 i).1, (hI.2.1 30 i).2⟩⟩
  | succ k ih =>
    intro i
    show Sb (if (u.2.1 31 k).toNatClampNeg = i then stepS (u.2.1 35 k) (u.2.1 32 k) (u.2.1 33 k) (spX u k i) else spX u k i)
    by_cases c : (u.2.1 31 k).toNatClampNeg = i
    · rw [if_pos c]
      exact stepSB ⟨(hI.2.1 32 k).1, (hI.2.1 32 k).2⟩ ⟨(hI.2.1 33 k).1, (hI.2.1 33 k).2⟩ (ih i)
    · rw [if_neg c]
      exact ih i
theorem lfXB {u v : SX} (hI : IX u) (hM : MR u v) (hPL : PL u) {kp kc n : Nat} (hk : (kp : Int) ≤ (u.1 8).toInt) (hn : (n : Int) < (u.1 13).toInt) : Lb (lfX u kp kc n).1 ∧ Lb (lfX u kp kc n).2 := by
  have b8 : (u.1 8).toInt ≤ (12 : Int) := (hI.1 8).2
  exact lfSB hI (by omega) (fun i hi => wwB hI hM.1 hM.2.2.2.1 hM.2.2.2.2 hPL hn (by omega)) (fun i _ => spXB hI kc i)
