/-! Side M: within what bounds its numbers lie -/
def loM : Nat → Int
  | 0 => 0
  | 1 => 0
  | 2 => 2
  | 3 => 0
  | 4 => 0
  | 5 => 0
  | 6 => 0
  | 7 => -1
  | 8 => 0
  | 10 => 5
  | 11 => 0
  | 12 => 0
  | 13 => 0
  | 14 => 0
  | 15 => 0
  | 21 => 0
  | 22 => 0
  | 23 => 0
  | 24 => 0
  | 25 => 0
  | _ => -2147483648
def hiM : Nat → Int
  | 0 => 1
  | 1 => 120
  | 2 => 3
  | 3 => 120
  | 4 => 4200
  | 5 => 120
  | 6 => 120
  | 7 => 120
  | 8 => 6
  | 10 => 7
  | 11 => 1
  | 12 => 12
  | 13 => 30
  | 14 => 20
  | 15 => 80
  | 21 => 10
  | 22 => 8
  | 23 => 40
  | 24 => 20
  | 25 => 60
  | _ => 2147483647
def rlM : Nat → Int
  | 1 => -128
  | 2 => -128
  | 3 => 0
  | 4 => 0
  | 6 => 0
  | 8 => 0
  | 9 => 0
  | 10 => 0
  | 11 => -1
  | 12 => 0
  | 14 => 0
  | 15 => 0
  | 17 => 0
  | 19 => 0
  | 20 => -100000
  | 21 => 0
  | 24 => 0
  | 29 => 0
  | 31 => 0
  | 32 => 0
  | 33 => -1
  | 34 => 0
  | 35 => 0
  | 36 => -400
  | 37 => -400
  | 38 => 0
  | 39 => 0
  | 40 => 0
  | 41 => 0
  | 42 => 0
  | 43 => 0
  | _ => -2147483648
def rhM : Nat → Int
  | 1 => 127
  | 2 => 127
  | 3 => 120
  | 4 => 12
  | 6 => 11
  | 8 => 400
  | 9 => 400
  | 10 => 120
  | 11 => 9
  | 12 => 11
  | 14 => 400
  | 15 => 120
  | 17 => 400
  | 19 => 40
  | 20 => 100000
  | 21 => 120
  | 24 => 1
  | 29 => 11
  | 31 => 400
  | 32 => 50
  | 33 => 29
  | 34 => 1
  | 35 => 7
  | 36 => 400
  | 37 => 400
  | 38 => 120
  | 39 => 7
  | 40 => 7
  | 41 => 120
  | 42 => 1
  | 43 => 1
  | _ => 2147483647
def cPM (i : Nat) (c : Int32) : Prop := 1 ≤ i → c.toInt ≤ 6
def IM (u : SX) : Prop := (∀ k, loM k ≤ (u.1 k).toInt ∧ (u.1 k).toInt ≤ hiM k) ∧ (∀ k i, rlM k ≤ (u.2.1 k i).toInt ∧ (u.2.1 k i).toInt ≤ rhM k) ∧ (∀ i, cPM i (u.2.1 4 i)) ∧ TXok u.2.2.2.2
def StM (md : MD) (u0 u : SX) : Prop := IM u ∧ FrM md u0 u
theorem StM_rf {md : MD} {u : SX} (h : IM u) : StM md u u := ⟨h, FrM_rf⟩
theorem StM_tr {md mc : MD} {u0 u u1 : SX} (h1 : StM md u0 u) (h2 : StM mc u u1) (hs : mdS mc md = true) : StM md u0 u1 := ⟨h2.1, FrM_tr h1.2 h2.2 hs⟩
theorem StM_sI {md : MD} {u0 u : SX} {k : Nat} {v : Int32} (h : StM md u0 u) (hm : md.1.contains k = true) (h1 : loM k ≤ v.toInt) (h2 : v.toInt ≤ hiM k) : StM md u0 (sI u k v) :=
  ⟨⟨fun j => by
    show loM j ≤ (bif Nat.beq j k then v else u.1 j).toInt ∧ (bif Nat.beq j k then v else u.1 j).toInt ≤ hiM j
    cases z : Nat.beq j k with
    | false => exact h.1.1 j
    | true => rw [Nat.eq_of_beq_eq_true z]; exact ⟨h1, h2⟩, h.1.2.1, h.1.2.2⟩, FrM_sI h.2 hm⟩
theorem StM_sIf {md : MD} {u0 u : SX} {k : Nat} {v : Int32} (h : StM md u0 u) (hm : md.1.contains k = true) (h1 : loM k = -2147483648) (h2 : hiM k = 2147483647) : StM md u0 (sI u k v) :=
  StM_sI h hm (by rw [h1]; exact Int32.le_toInt v) (by rw [h2]; exact Int32.toInt_le v)
theorem StM_row {md : MD} {u0 u : SX} {k : Nat} {f : Nat → Int32} (h : StM md u0 u) (hm : md.2.1.contains k = true) (h1 : ∀ i, rlM k ≤ (f i).toInt ∧ (f i).toInt ≤ rhM k) (hc : Nat.beq 4 k = true → ∀ i, cPM i (f i)) : StM md u0 (sA u k f) :=
  ⟨⟨h.1.1, fun j => by
    show ∀ i, rlM j ≤ ((bif Nat.beq j k then f else u.2.1 j) i).toInt ∧ ((bif Nat.beq j k then f else u.2.1 j) i).toInt ≤ rhM j
    cases z : Nat.beq j k with
    | false => exact h.1.2.1 j
    | true => rw [Nat.eq_of_beq_eq_true z]; exact h1, by
    show ∀ i, cPM i ((bif Nat.beq 4 k then f else u.2.1 4) i)
    cases z : Nat.beq 4 k with
    | false => exact h.1.2.2.1
    | true => exact hc z, h.1.2.2.2⟩, FrM_sA h.2 hm⟩
theorem StM_sA {md : MD} {u0 u : SX} {k i : Nat} {x : Int32} (h : StM md u0 u) (hm : md.2.1.contains k = true) (h1 : rlM k ≤ x.toInt) (h2 : x.toInt ≤ rhM k) (hn : Nat.beq 4 k = false) : StM md u0 (sA u k (upd (u.2.1 k) i x)) :=
  StM_row h hm (fun j => by
    show rlM k ≤ (if j = i then x else u.2.1 k j).toInt ∧ (if j = i then x else u.2.1 k j).toInt ≤ rhM k
    by_cases z : j = i
    · rw [if_pos z]; exact ⟨h1, h2⟩
    · rw [if_neg z]; exact h.1.2.1 k j) (fun z => absurd z (by rw [hn]; decide))
theorem StM_sAc {md : MD} {u0 u : SX} {i : Nat} {x : Int32} (h : StM md u0 u) (hm : md.2.1.contains 4 = true) (hc : cPM i x) (h1 : rlM 4 ≤ x.toInt) (h2 : x.toInt ≤ rhM 4) : StM md u0 (sA u 4 (upd (u.2.1 4) i x)) :=
  StM_row h hm (fun j => by
    show rlM 4 ≤ (if j = i then x else u.2.1 4 j).toInt ∧ (if j = i then x else u.2.1 4 j).toInt ≤ rhM 4
    by_cases z : j = i
    · rw [if_pos z]; exact ⟨h1, h2⟩
    · rw [if_neg z]; exact h.1.2.1 4 j) (fun _ j => by
    show cPM j (if j = i then x else u.2.1 4 j)
    by_cases z : j = i
    · rw [if_pos z, z]; exact hc
    · rw [if_neg z]; exact h.1.2.2.1 j)
theorem StM_sAf {md : MD} {u0 u : SX} {k i : Nat} {x : Int32} (h : StM md u0 u) (hm : md.2.1.contains k = true) (h1 : rlM k = -2147483648) (h2 : rhM k = 2147483647) (hn : Nat.beq 4 k = false) : StM md u0 (sA u k (upd (u.2.1 k) i x)) :=
  StM_sA h hm (by rw [h1]; exact Int32.le_toInt x) (by rw [h2]; exact Int32.toInt_le x) hn
theorem StM_cpy {md : MD} {u0 u : SX} {k j a b n : Nat} (h : StM md u0 u) (hm : md.2.1.contains k = true) (h1 : rlM k ≤ rlM j) (h2 : rhM j ≤ rhM k) (hn : Nat.beq 4 k = false) : StM md u0 (sA u k (va_cpy (u.2.1 j) (u.2.1 k) a b n)) :=
  StM_row h hm (fun i => by
    show rlM k ≤ (if b ≤ i ∧ i < b + n then u.2.1 j (a + (i - b)) else u.2.1 k i).toInt ∧ (if b ≤ i ∧ i < b + n then u.2.1 j (a + (i - b)) else u.2.1 k i).toInt ≤ rhM k
    by_cases z : b ≤ i ∧ i < b + n
    · rw [if_pos z]; exact ⟨Int.le_trans h1 (h.1.2.1 j _).1, Int.le_trans (h.1.2.1 j _).2 h2⟩
    · rw [if_neg z]; exact h.1.2.1 k i) (fun z => absurd z (by rw [hn]; decide))
theorem StM_sJ {md : MD} {u0 u : SX} {k : Nat} {v : Int64} (h : StM md u0 u) (hm : md.2.2.1.contains k = true) : StM md u0 (sJ u k v) := ⟨h.1, FrM_sJ h.2 hm⟩
theorem StM_sB {md : MD} {u0 u : SX} {k : Nat} {f : Nat → Int64} (h : StM md u0 u) (hm : md.2.2.2.contains k = true) : StM md u0 (sB u k f) := ⟨h.1, FrM_sB h.2 hm⟩

/-- reading a sign twice -/
theorem look_idem {u u' : SX} {r : Int32} (h : fX12_look_0 u = some (r, u')) (hr : r.toInt ≠ -1) : fX12_look_0 u' = some (r, u') := by
  have key : ∀ (n : Nat) (u : SX), LX12_look_0_0 GX12_look_0_43 n u = some (r, u') → ∀ m, LX12_look_0_0 GX12_look_0_43 (m + 1) u' = some (r, u') := by
    intro n
    induction n with
    | zero => intro u h; exact absurd h (by intro q; cases q)
    | succ n ih =>
      intro u h m
      rw [LX12_look_0_0] at h
      by_cases c1 : u.1 5 ≤ u.1 6
      · rw [if_pos c1] at h
        unfold GX12_look_0_43 at h
        rw [if_pos c1] at h
        cases h
        exact absurd (show ((-1) : Int32).toInt = -1 by decide) hr
      · rw [if_neg c1] at h
        by_cases c2 : u.1 2 = 2
        · rw [if_pos c2] at h
          obtain ⟨hg, h⟩ := gd_some h
          by_cases c3 : (u.2.1 1 ((u.1 4) + (u.1 6)).toNatClampNeg) = 32
          · rw [if_pos c3] at h
            exact ih _ h m
          · rw [if_neg c3] at h
            have e : GX12_look_0_43 u = some ((u.2.1 1 ((u.1 4) + (u.1 6)).toNatClampNeg) &&& 255, u) := by
              unfold GX12_look_0_43
              rw [if_neg c1, if_pos c2, hg]
              rfl
            have h2 := h
            rw [e] at h2
            cases h2
            rw [LX12_look_0_0, if_neg c1, if_pos c2, hg]
            exact (if_neg c3).trans e
        · rw [if_neg c2] at h
          by_cases c2b : u.1 2 = 3
          · rw [if_pos c2b] at h
            obtain ⟨hg, h⟩ := gd_some h
            by_cases c3 : (u.2.1 2 ((u.1 4) + (u.1 6)).toNatClampNeg) = 32
            · rw [if_pos c3] at h
              exact ih _ h m
            · rw [if_neg c3] at h
              have e : GX12_look_0_43 u = some ((u.2.1 2 ((u.1 4) + (u.1 6)).toNatClampNeg) &&& 255, u) := by
                unfold GX12_look_0_43
                rw [if_neg c1, if_neg c2, if_pos c2b, hg]
                rfl
              have h2 := h
              rw [e] at h2
              cases h2
              rw [LX12_look_0_0, if_neg c1, if_neg c2, if_pos c2b, hg]
              exact (if_neg c3).trans e
          · rw [if_neg c2b] at h
            exact absurd h (by intro q; cases q)
  unfold fX12_look_0 at h ⊢
  exact key 5000 u h 4999
abbrev qJ0_indexOf_0f7a4_s4 (x1 : Int32) (q : Int32) : Prop := (-1 ≤ q.toInt ∧ q.toInt ≤ 5) ∧ (q.toInt ≠ (-1) → (x1.toInt ≤ (121 : Int)))
set_option maxRecDepth 100000 in
theorem tfJ0_indexOf_0f7a4_s4 (x1 : Int32) (h0 : 0 ≤ x1.toInt ∧ x1.toInt ≤ 255) : Tot (fJ0_indexOf_0f7a4_s4 x1) (qJ0_indexOf_0f7a4_s4 x1) := by
  have key : ∀ n : Fin 256, (match fJ0_indexOf_0f7a4_s4 (Int32.ofInt (n.val : Int)) with | some r => decide (-1 ≤ r.toInt) && decide (r.toInt ≤ 5) && (decide (r.toInt = -1) || decide (n.val ≤ 121)) | none => false) = true := by decide +kernel
  have e : x1 = Int32.ofInt ((x1.toInt.toNat : Nat) : Int) := by rw [Int.toNat_of_nonneg h0.1, Int32.ofInt_toInt]
  have hk := key ⟨x1.toInt.toNat, by omega⟩
  rw [← e] at hk
  cases z : fJ0_indexOf_0f7a4_s4 x1 with
  | none => rw [z] at hk; exact absurd (show false = true from hk) (by decide)
  | some r =>
    rw [z] at hk
    simp only [Bool.and_eq_true, Bool.or_eq_true, decide_eq_true_eq] at hk
    exact ⟨r, rfl, ⟨hk.1.1, hk.1.2⟩, fun q => by
      rcases hk.2 with w | w
      · exact absurd w q
      · omega⟩
abbrev qJ0_indexOf_0f7a4_s5 (x1 : Int32) (q : Int32) : Prop := (-1 ≤ q.toInt ∧ q.toInt ≤ 5) ∧ (q.toInt ≠ (-1) → (x1.toInt ≤ (121 : Int)))
set_option maxRecDepth 100000 in
theorem tfJ0_indexOf_0f7a4_s5 (x1 : Int32) (h0 : 0 ≤ x1.toInt ∧ x1.toInt ≤ 255) : Tot (fJ0_indexOf_0f7a4_s5 x1) (qJ0_indexOf_0f7a4_s5 x1) := by
  have key : ∀ n : Fin 256, (match fJ0_indexOf_0f7a4_s5 (Int32.ofInt (n.val : Int)) with | some r => decide (-1 ≤ r.toInt) && decide (r.toInt ≤ 5) && (decide (r.toInt = -1) || decide (n.val ≤ 121)) | none => false) = true := by decide +kernel
  have e : x1 = Int32.ofInt ((x1.toInt.toNat : Nat) : Int) := by rw [Int.toNat_of_nonneg h0.1, Int32.ofInt_toInt]
  have hk := key ⟨x1.toInt.toNat, by omega⟩
  rw [← e] at hk
  cases z : fJ0_indexOf_0f7a4_s5 x1 with
  | none => rw [z] at hk; exact absurd (show false = true from hk) (by decide)
  | some r =>
    rw [z] at hk
    simp only [Bool.and_eq_true, Bool.or_eq_true, decide_eq_true_eq] at hk
    exact ⟨r, rfl, ⟨hk.1.1, hk.1.2⟩, fun q => by
      rcases hk.2 with w | w
      · exact absurd w q
      · omega⟩
abbrev qJ0_indexOf_0f7a4_s6 (x1 : Int32) (q : Int32) : Prop := (-1 ≤ q.toInt ∧ q.toInt ≤ 5) ∧ (q.toInt ≠ (-1) → (x1.toInt ≤ (121 : Int)))
set_option maxRecDepth 100000 in
theorem tfJ0_indexOf_0f7a4_s6 (x1 : Int32) (h0 : 0 ≤ x1.toInt ∧ x1.toInt ≤ 255) : Tot (fJ0_indexOf_0f7a4_s6 x1) (qJ0_indexOf_0f7a4_s6 x1) := by
  have key : ∀ n : Fin 256, (match fJ0_indexOf_0f7a4_s6 (Int32.ofInt (n.val : Int)) with | some r => decide (-1 ≤ r.toInt) && decide (r.toInt ≤ 5) && (decide (r.toInt = -1) || decide (n.val ≤ 121)) | none => false) = true := by decide +kernel
  have e : x1 = Int32.ofInt ((x1.toInt.toNat : Nat) : Int) := by rw [Int.toNat_of_nonneg h0.1, Int32.ofInt_toInt]
  have hk := key ⟨x1.toInt.toNat, by omega⟩
  rw [← e] at hk
  cases z : fJ0_indexOf_0f7a4_s6 x1 with
  | none => rw [z] at hk; exact absurd (show false = true from hk) (by decide)
  | some r =>
    rw [z] at hk
    simp only [Bool.and_eq_true, Bool.or_eq_true, decide_eq_true_eq] at hk
    exact ⟨r, rfl, ⟨hk.1.1, hk.1.2⟩, fun q => by
      rcases hk.2 with w | w
      · exact absurd w q
      · omega⟩
/-- how many bytes of a number are unlike 0, from a shift on -/
def cb : Nat → Int32 → Int32 → Int
  | 0, _, _ => 0
  | n + 1, x, k => if k < 0 then 0 else (if ((x >>> (k &&& 31)) &&& 255) = 0 then 0 else 1) + cb n x (k + (-8))
theorem cb_nn : ∀ (n : Nat) (x k : Int32), 0 ≤ cb n x k ∧ cb n x k ≤ (n : Int) := by
  intro n
  induction n with
  | zero => intro x k; exact ⟨Int.le_refl _, Int.le_refl _⟩
  | succ n ih =>
    intro x k
    rw [cb]
    have := ih x (k + (-8))
    split
    · exact ⟨Int.le_refl _, by omega⟩
    · split
      · omega
      · omega
theorem bytesIn_loop : ∀ (n : Nat) (z0 z1 z2 : Int32), (-8 ≤ z2.toInt ∧ z2.toInt ≤ 24) → (0 ≤ z1.toInt ∧ z1.toInt + (n : Int) ≤ 100000) → z2.toInt + 8 < (n : Int) → Tot (LX12_bytesIn_5 n z0 z1 z2) (fun r => r.toInt = z1.toInt + cb n z0 z2) := by
  intro n
  induction n with
  | zero => intro z0 z1 z2 h0 h1 hm; exfalso; omega
  | succ n ih =>
    intro z0 z1 z2 h0 h1 hm
    rw [LX12_bytesIn_5, cb]
    refine Tot_ite (fun c => ?_) (fun c => ?_)
    · rw [if_pos c]; exact Tot_some (by omega)
    · rw [if_neg c]
      have : ¬ z2.toInt < (0 : Int) := nltI c
      have e8 : (z2 + (-8)).toInt = z2.toInt + (-8 : Int) := addc_t (by decide) (by omega) (by omega)
      refine Tot_ite (fun d => ?_) (fun d => ?_)
      · rw [if_pos d]
        unfold GX12_bytesIn_25
        refine Tot_lt (fun v1 e => ?_)
        have ev : v1.toInt = z1.toInt := by
          rw [e, addc_t (n := 0) (by decide) (by omega) (by omega)]
          omega
        exact Tot_w (ih z0 v1 (z2 + (-8)) (by omega) (by omega) (by omega)) (fun r hr => by omega)
      · rw [if_neg d]
        unfold GX12_bytesIn_25
        refine Tot_lt (fun v1 e => ?_)
        have ev : v1.toInt = z1.toInt + 1 := by
          rw [e, addc_t (n := 1) (by decide) (by omega) (by omega)]
        exact Tot_w (ih z0 v1 (z2 + (-8)) (by omega) (by omega) (by omega)) (fun r hr => by omega)
theorem put_loop {md : MD} {u0 : SX} (hm3 : md.1.contains 3 = true) (hm1 : md.2.1.contains 1 = true) : ∀ (n : Nat) (z1 z2 : Int32) (u : SX), StM md u0 u → (-8 ≤ z2.toInt ∧ z2.toInt ≤ 24) → z2.toInt + 8 < (n : Int) → (u.1 3).toInt + cb n z1 z2 ≤ 120 → Tot (LX12_put_0_3 n z1 z2 u) (fun q => StM md u0 q.2 ∧ q.1 = 0 ∧ (q.2.1 3).toInt = (u.1 3).toInt + cb n z1 z2) := by
  intro n
  induction n with
  | zero => intro z1 z2 u hs h0 hm hl; exfalso; omega
  | succ n ih =>
    intro z1 z2 u hs h0 hm hl
    rw [LX12_put_0_3]
    rw [cb] at hl ⊢
    have hb : 0 ≤ (u.1 3).toInt ∧ (u.1 3).toInt ≤ 120 := hs.1.1 3
    have hn := cb_nn n z1 (z2 + (-8))
    refine Tot_ite (fun c => ?_) (fun c => ?_)
    · rw [if_pos c] at hl ⊢
      exact Tot_some ⟨hs, rfl, by show (u.1 3).toInt = (u.1 3).toInt + 0; omega⟩
    · rw [if_neg c] at hl ⊢
      have : ¬ z2.toInt < (0 : Int) := nltI c
      have e8 : (z2 + (-8)).toInt = z2.toInt + (-8 : Int) := addc_t (by decide) (by omega) (by omega)
      refine Tot_ite (fun d => ?_) (fun d => ?_)
      · rw [if_pos d] at hl ⊢
        unfold GX12_put_0_43
        exact Tot_w (ih z1 (z2 + (-8)) u hs (by omega) (by omega) (by omega)) (fun q hq => ⟨hq.1, hq.2.1, by rw [hq.2.2]; omega⟩)
      · rw [if_neg d] at hl ⊢
        unfold GX12_put_0_43
        refine Tot_gd (inb_t (by omega) (by omega)) ?_
        refine Tot_lt (fun u2 e2 => ?_)
        have nb := narb_t ((z1 >>> (z2 &&& 31)).toInt8.toInt32)
        have hs2 : StM md u0 u2 := by rw [e2]; exact StM_sA hs hm1 nb.1 nb.2 rfl
        have f2 : (u2.1 3).toInt = (u.1 3).toInt := by rw [e2]; rfl
        refine Tot_lt (fun u4 e4 => ?_)
        have ea : ((u2.1 3) + 1).toInt = (u2.1 3).toInt + (1 : Int) := addc_t (by decide) (by omega) (by omega)
        have hs4 : StM md u0 u4 := by rw [e4]; exact StM_sI hs2 hm3 (by show 0 ≤ ((u2.1 3) + 1).toInt; omega) (by show ((u2.1 3) + 1).toInt ≤ 120; omega)
        have f4 : (u4.1 3).toInt = (u.1 3).toInt + 1 := by
          have : (u4.1 3).toInt = ((u2.1 3) + 1).toInt := by rw [e4]; rfl
          omega
        exact Tot_w (ih z1 (z2 + (-8)) u4 hs4 (by omega) (by omega) (by omega)) (fun q hq => ⟨hq.1, hq.2.1, by rw [hq.2.2]; omega⟩)
