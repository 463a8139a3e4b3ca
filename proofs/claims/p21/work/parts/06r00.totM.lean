abbrev qX12_isIn (x0 : Int32) (x1 : Int32) (x2 : Int32) (q : Int32) : Prop := (0 ≤ q.toInt ∧ q.toInt ≤ 1) ∧ ((q.toInt ≠ 0 → (x1.toInt ≤ x0.toInt ∧ x0.toInt ≤ x2.toInt)))
set_option maxHeartbeats 400000 in
set_option maxRecDepth 10000 in
theorem tfX12_isIn (x0 : Int32) (x1 : Int32) (x2 : Int32) (h0 : (-100000) ≤ x1.toInt ∧ x1.toInt ≤ 400) (h1 : (-1) ≤ x2.toInt ∧ x2.toInt ≤ 100000) : Tot (fX12_isIn x0 x1 x2) (qX12_isIn x0 x1 x2 ) := by
  unfold fX12_isIn
  refine Tot_ite (fun c1 => ?_) (fun c1 => ?_)
  · have : x0.toInt < x1.toInt := ltI c1
    refine Tot_gd (by decide) ?_
    exact Tot_some ⟨(by show 0 ≤ (0 : Int) ∧ (0 : Int) ≤ 1; omega), (by show (0 : Int) ≠ 0 → (x1.toInt ≤ x0.toInt ∧ x0.toInt ≤ x2.toInt); omega)⟩
  · have : ¬ x0.toInt < x1.toInt := nltI c1
    refine Tot_ite (fun c2 => ?_) (fun c2 => ?_)
    · have : x2.toInt < x0.toInt := ltI c2
      refine Tot_gd (by decide) ?_
      exact Tot_some ⟨(by show 0 ≤ (0 : Int) ∧ (0 : Int) ≤ 1; omega), (by show (0 : Int) ≠ 0 → (x1.toInt ≤ x0.toInt ∧ x0.toInt ≤ x2.toInt); omega)⟩
    · have : ¬ x2.toInt < x0.toInt := nltI c2
      refine Tot_gd (by decide) ?_
      exact Tot_some ⟨(by show 0 ≤ (1 : Int) ∧ (1 : Int) ≤ 1; omega), (by show (1 : Int) ≠ 0 → (x1.toInt ≤ x0.toInt ∧ x0.toInt ≤ x2.toInt); omega)⟩

def mdX12_days_0 : MD := ([0, 1], [], [], [])
abbrev qX12_days_0 (u : SX) (q : Int32 × SX) : Prop := StM mdX12_days_0 u q.2 ∧ ((-1) ≤ q.1.toInt ∧ q.1.toInt ≤ 120) ∧ (True)
set_option maxHeartbeats 400000 in
set_option maxRecDepth 10000 in
theorem tfX12_days_0 (x1 : Int32) (u : SX) (hI : IM u)  : Tot (fX12_days_0 x1 u) (qX12_days_0 u) := by
  unfold fX12_days_0
  have hs_u : StM mdX12_days_0 u u := StM_rf hI
  refine Tot_lt (fun u1 e_u1 => ?_)
  have hs_u1 : StM mdX12_days_0 u u1 := by rw [e_u1]; exact StM_sI hs_u (by decide) (by show 0 ≤ (0 : Int); omega) (by show (0 : Int) ≤ 1; omega)
  refine Tot_bind (tfX12_isIn x1 0 60 (by show (-100000) ≤ (0 : Int) ∧ (0 : Int) ≤ 400; omega) (by show (-1) ≤ (60 : Int) ∧ (60 : Int) ≤ 100000; omega)) (fun r3 hq => ?_)
  have : 0 ≤ r3.toInt ∧ r3.toInt ≤ 1 := hq.1
  have : r3.toInt ≠ 0 → ((0 : Int) ≤ x1.toInt ∧ x1.toInt ≤ (60 : Int)) := hq.2
  clear hq
  refine Tot_ite (fun c3 => ?_) (fun c3 => ?_)
  · have : r3.toInt = (0 : Int) := eqI c3
    exact Tot_some ⟨hs_u1, (by show (-1) ≤ (-1 : Int) ∧ (-1 : Int) ≤ 120; omega), trivial⟩
  · have : ¬ r3.toInt = (0 : Int) := neI c3
    have : (u1.1 1).toInt = (u.1 1).toInt := by rw [e_u1]; rfl
    have : 0 ≤ (u.1 1).toInt ∧ (u.1 1).toInt ≤ 120 := hs_u.1.1 1
    have : ((u1.1 1) + x1).toInt = (u1.1 1).toInt + x1.toInt := add_t (by omega) (by omega)
    refine Tot_ite (fun c4 => ?_) (fun c4 => ?_)
    · have : ((u1.1 1) + x1).toInt ≤ (120 : Int) := leI c4
      refine Tot_lt (fun u6 e_u6 => ?_)
      have hs_u6 : StM mdX12_days_0 u u6 := by rw [e_u6]; exact StM_sI hs_u1 (by decide) (by show 0 ≤ ((u1.1 1) + x1).toInt; omega) (by show ((u1.1 1) + x1).toInt ≤ 120; omega)
      have : (u6.1 1).toInt = ((u1.1 1) + x1).toInt := by rw [e_u6]; rfl
      exact Tot_some ⟨hs_u6, (by show (-1) ≤ (u6.1 1).toInt ∧ (u6.1 1).toInt ≤ 120; omega), trivial⟩
    · have : ¬ ((u1.1 1) + x1).toInt ≤ (120 : Int) := nleI c4
      exact Tot_some ⟨hs_u1, (by show (-1) ≤ (-1 : Int) ∧ (-1 : Int) ≤ 120; omega), trivial⟩

abbrev qX12_season (q : Int32) : Prop := (0 ≤ q.toInt ∧ q.toInt ≤ 3) ∧ (True)
set_option maxHeartbeats 400000 in
set_option maxRecDepth 10000 in
theorem tfX12_season (x0 : Int32) (h0 : 0 ≤ x0.toInt ∧ x0.toInt ≤ 120) : Tot (fX12_season x0) (qX12_season ) := by
  unfold fX12_season
  refine Tot_gd (by decide) ?_
  refine Tot_gd (by decide) ?_
  have : (x0 / 30).toInt = x0.toInt / 30 := divc_t (by decide) (by omega) (by decide)
  have : ((x0 / 30) / 4).toInt = (x0 / 30).toInt / 4 := divc_t (by decide) (by omega) (by decide)
  have : (((x0 / 30) / 4) * 4).toInt = ((x0 / 30) / 4).toInt * 4 := mulc_t (by decide) (by omega) (by omega)
  have : ((x0 / 30) - (((x0 / 30) / 4) * 4)).toInt = (x0 / 30).toInt - (((x0 / 30) / 4) * 4).toInt := sub_t (by omega) (by omega)
  exact Tot_some ⟨(by show 0 ≤ ((x0 / 30) - (((x0 / 30) / 4) * 4)).toInt ∧ ((x0 / 30) - (((x0 / 30) / 4) * 4)).toInt ≤ 3; omega), trivial⟩

abbrev qX12_bytesIn (x0 : Int32) (q : Int32) : Prop := (0 ≤ q.toInt ∧ q.toInt ≤ 5000) ∧ ((q.toInt = cb 5000 x0 24))
theorem tfX12_bytesIn (x0 : Int32) : Tot (fX12_bytesIn x0) (qX12_bytesIn x0) := by
  unfold fX12_bytesIn
  have hc := cb_nn 5000 x0 24
  exact Tot_w (bytesIn_loop 5000 x0 0 24 (by decide) (by decide) (by decide)) (fun r hr => by
    have hr : r.toInt = 0 + cb 5000 x0 24 := hr
    show (0 ≤ r.toInt ∧ r.toInt ≤ 5000) ∧ (r.toInt = cb 5000 x0 24)
    generalize cb 5000 x0 24 = kk at hc hr ⊢
    exact ⟨by omega, by omega⟩)

def mdX12_put_0 : MD := ([3], [1], [], [])
abbrev qX12_put_0 (x1 : Int32) (u : SX) (q : Int32 × SX) : Prop := StM mdX12_put_0 u q.2 ∧ (0 ≤ q.1.toInt ∧ q.1.toInt ≤ 0) ∧ (((q.2.1 3).toInt = (u.1 3).toInt + cb 5000 x1 24))
theorem tfX12_put_0 (x1 : Int32) (u : SX) (hI : IM u) (h0 : (u.1 3).toInt + cb 5000 x1 24 ≤ 120) : Tot (fX12_put_0 x1 u) (qX12_put_0 x1 u) := by
  unfold fX12_put_0
  exact Tot_w (put_loop (by decide) (by decide) 5000 x1 24 u (StM_rf hI) (by decide) (by decide) h0) (fun q hq => ⟨hq.1, by rw [hq.2.1]; decide, hq.2.2⟩)

def mdX12_feed_0 : MD := ([0, 3], [1], [], [])
abbrev qX12_feed_0 (u : SX) (q : Int32 × SX) : Prop := StM mdX12_feed_0 u q.2 ∧ ((-1) ≤ q.1.toInt ∧ q.1.toInt ≤ 120) ∧ (True)
set_option maxHeartbeats 400000 in
set_option maxRecDepth 10000 in
theorem tfX12_feed_0 (x1 : Int32) (x2 : Int32) (x3 : Int32) (x4 : Int32) (x5 : Int32) (u : SX) (hI : IM u)  : Tot (fX12_feed_0 x1 x2 x3 x4 x5 u) (qX12_feed_0 u) := by
  unfold fX12_feed_0
  have hs_u : StM mdX12_feed_0 u u := StM_rf hI
  refine Tot_lt (fun u1 e_u1 => ?_)
  have hs_u1 : StM mdX12_feed_0 u u1 := by rw [e_u1]; exact StM_sI hs_u (by decide) (by show 0 ≤ (0 : Int); omega) (by show (0 : Int) ≤ 1; omega)
  refine Tot_bind (tfX12_bytesIn x1) (fun r3 hq => ?_)
  have : 0 ≤ r3.toInt ∧ r3.toInt ≤ 5000 := hq.1
  have : r3.toInt = cb 5000 x1 24 := hq.2
  clear hq
  refine Tot_bind (tfX12_bytesIn x2) (fun r6 hq => ?_)
  have : 0 ≤ r6.toInt ∧ r6.toInt ≤ 5000 := hq.1
  have : r6.toInt = cb 5000 x2 24 := hq.2
  clear hq
  refine Tot_bind (tfX12_bytesIn x3) (fun r9 hq => ?_)
  have : 0 ≤ r9.toInt ∧ r9.toInt ≤ 5000 := hq.1
  have : r9.toInt = cb 5000 x3 24 := hq.2
  clear hq
  refine Tot_bind (tfX12_bytesIn x4) (fun r12 hq => ?_)
  have : 0 ≤ r12.toInt ∧ r12.toInt ≤ 5000 := hq.1
  have : r12.toInt = cb 5000 x4 24 := hq.2
  clear hq
  refine Tot_bind (tfX12_bytesIn x5) (fun r15 hq => ?_)
  have : 0 ≤ r15.toInt ∧ r15.toInt ≤ 5000 := hq.1
  have : r15.toInt = cb 5000 x5 24 := hq.2
  clear hq
  have : (u1.1 3).toInt = (u.1 3).toInt := by rw [e_u1]; rfl
  have : 0 ≤ (u.1 3).toInt ∧ (u.1 3).toInt ≤ 120 := hs_u.1.1 3
  have : ((u1.1 3) + r3).toInt = (u1.1 3).toInt + r3.toInt := add_t (by omega) (by omega)
  have : (((u1.1 3) + r3) + r6).toInt = ((u1.1 3) + r3).toInt + r6.toInt := add_t (by omega) (by omega)
  have : ((((u1.1 3) + r3) + r6) + r9).toInt = (((u1.1 3) + r3) + r6).toInt + r9.toInt := add_t (by omega) (by omega)
  have : (((((u1.1 3) + r3) + r6) + r9) + r12).toInt = ((((u1.1 3) + r3) + r6) + r9).toInt + r12.toInt := add_t (by omega) (by omega)
  have : ((((((u1.1 3) + r3) + r6) + r9) + r12) + r15).toInt = (((((u1.1 3) + r3) + r6) + r9) + r12).toInt + r15.toInt := add_t (by omega) (by omega)
  refine Tot_ite (fun c5 => ?_) (fun c5 => ?_)
  · have : ((((((u1.1 3) + r3) + r6) + r9) + r12) + r15).toInt ≤ (120 : Int) := leI c5
    refine Tot_bind (tfX12_put_0 x1 u1 hs_u1.1 (by omega)) (fun q hq => ?_)
    obtain ⟨r18, u19⟩ := q
    have hc_u19 : StM mdX12_put_0 u1 u19 := hq.1
    have hs_u19 : StM mdX12_feed_0 u u19 := StM_tr hs_u1 hc_u19 (by decide)
    have : 0 ≤ r18.toInt ∧ r18.toInt ≤ 0 := hq.2.1
    have : 0 ≤ (u19.1 3).toInt ∧ (u19.1 3).toInt ≤ 120 := hs_u19.1.1 3
    have : (u19.1 3).toInt = (u1.1 3).toInt + cb 5000 x1 24 := hq.2.2
    clear hq
    refine Tot_bind (tfX12_put_0 x2 u19 hs_u19.1 (by omega)) (fun q hq => ?_)
    obtain ⟨r21, u22⟩ := q
    have hc_u22 : StM mdX12_put_0 u19 u22 := hq.1
    have hs_u22 : StM mdX12_feed_0 u u22 := StM_tr hs_u19 hc_u22 (by decide)
    have : 0 ≤ r21.toInt ∧ r21.toInt ≤ 0 := hq.2.1
    have : 0 ≤ (u22.1 3).toInt ∧ (u22.1 3).toInt ≤ 120 := hs_u22.1.1 3
    have : (u22.1 3).toInt = (u19.1 3).toInt + cb 5000 x2 24 := hq.2.2
    clear hq
    refine Tot_bind (tfX12_put_0 x3 u22 hs_u22.1 (by omega)) (fun q hq => ?_)
    obtain ⟨r24, u25⟩ := q
    have hc_u25 : StM mdX12_put_0 u22 u25 := hq.1
    have hs_u25 : StM mdX12_feed_0 u u25 := StM_tr hs_u22 hc_u25 (by decide)
    have : 0 ≤ r24.toInt ∧ r24.toInt ≤ 0 := hq.2.1
    have : 0 ≤ (u25.1 3).toInt ∧ (u25.1 3).toInt ≤ 120 := hs_u25.1.1 3
    have : (u25.1 3).toInt = (u22.1 3).toInt + cb 5000 x3 24 := hq.2.2
    clear hq
    refine Tot_bind (tfX12_put_0 x4 u25 hs_u25.1 (by omega)) (fun q hq => ?_)
    obtain ⟨r27, u28⟩ := q
    have hc_u28 : StM mdX12_put_0 u25 u28 := hq.1
    have hs_u28 : StM mdX12_feed_0 u u28 := StM_tr hs_u25 hc_u28 (by decide)
    have : 0 ≤ r27.toInt ∧ r27.toInt ≤ 0 := hq.2.1
    have : 0 ≤ (u28.1 3).toInt ∧ (u28.1 3).toInt ≤ 120 := hs_u28.1.1 3
    have : (u28.1 3).toInt = (u25.1 3).toInt + cb 5000 x4 24 := hq.2.2
    clear hq
    refine Tot_bind (tfX12_put_0 x5 u28 hs_u28.1 (by omega)) (fun q hq => ?_)
    obtain ⟨r30, u31⟩ := q
    have hc_u31 : StM mdX12_put_0 u28 u31 := hq.1
    have hs_u31 : StM mdX12_feed_0 u u31 := StM_tr hs_u28 hc_u31 (by decide)
    have : 0 ≤ r30.toInt ∧ r30.toInt ≤ 0 := hq.2.1
    have : 0 ≤ (u31.1 3).toInt ∧ (u31.1 3).toInt ≤ 120 := hs_u31.1.1 3
    have : (u31.1 3).toInt = (u28.1 3).toInt + cb 5000 x5 24 := hq.2.2
    clear hq
    exact Tot_some ⟨hs_u31, (by show (-1) ≤ (u31.1 3).toInt ∧ (u31.1 3).toInt ≤ 120; omega), trivial⟩
  · have : ¬ ((((((u1.1 3) + r3) + r6) + r9) + r12) + r15).toInt ≤ (120 : Int) := nleI c5
    exact Tot_some ⟨hs_u1, (by show (-1) ≤ (-1 : Int) ∧ (-1 : Int) ≤ 120; omega), trivial⟩

def mdX12_end_0 : MD := ([0, 3], [], [], [])
abbrev qX12_end_0 (u : SX) (q : Int32 × SX) : Prop := StM mdX12_end_0 u q.2 ∧ (0 ≤ q.1.toInt ∧ q.1.toInt ≤ 1) ∧ (True)
set_option maxHeartbeats 400000 in
set_option maxRecDepth 10000 in
theorem tfX12_end_0 (x1 : Int32) (u : SX) (hI : IM u)  : Tot (fX12_end_0 x1 u) (qX12_end_0 u) := by
  unfold fX12_end_0
  have hs_u : StM mdX12_end_0 u u := StM_rf hI
  refine Tot_lt (fun u1 e_u1 => ?_)
  have hs_u1 : StM mdX12_end_0 u u1 := by rw [e_u1]; exact StM_sI hs_u (by decide) (by show 0 ≤ (0 : Int); omega) (by show (0 : Int) ≤ 1; omega)
  refine Tot_ite (fun c6 => ?_) (fun c6 => ?_)
  · have : x1.toInt < (0 : Int) := ltI c6
    refine Tot_gd (by decide) ?_
    exact Tot_some ⟨hs_u1, (by show 0 ≤ (0 : Int) ∧ (0 : Int) ≤ 1; omega), trivial⟩
  · have : ¬ x1.toInt < (0 : Int) := nltI c6
    have : (u1.1 3).toInt = (u.1 3).toInt := by rw [e_u1]; rfl
    have : 0 ≤ (u.1 3).toInt ∧ (u.1 3).toInt ≤ 120 := hs_u.1.1 3
    refine Tot_ite (fun c7 => ?_) (fun c7 => ?_)
    · have : x1.toInt ≤ (u1.1 3).toInt := leI c7
      refine Tot_lt (fun u4 e_u4 => ?_)
      have hs_u4 : StM mdX12_end_0 u u4 := by rw [e_u4]; exact StM_sI hs_u1 (by decide) (by show 0 ≤ x1.toInt; omega) (by show x1.toInt ≤ 120; omega)
      refine Tot_gd (by decide) ?_
      exact Tot_some ⟨hs_u4, (by show 0 ≤ (1 : Int) ∧ (1 : Int) ≤ 1; omega), trivial⟩
    · have : ¬ x1.toInt ≤ (u1.1 3).toInt := nleI c7
      refine Tot_gd (by decide) ?_
      exact Tot_some ⟨hs_u1, (by show 0 ≤ (0 : Int) ∧ (0 : Int) ≤ 1; omega), trivial⟩

def mdX12_look_0 : MD := ([6], [], [], [])
abbrev qX12_look_0 (u : SX) (q : Int32 × SX) : Prop := StM mdX12_look_0 u q.2 ∧ ((-1) ≤ q.1.toInt ∧ q.1.toInt ≤ 255) ∧ ((q.1.toInt ≠ (-1) → ((q.2.1 6).toInt < (q.2.1 5).toInt)) ∧ ((u.1 6).toInt ≤ (q.2.1 6).toInt))
set_option maxHeartbeats 400000 in
set_option maxRecDepth 10000 in
theorem tLX12_look_0_0 (u0 : SX)  {k43 : SX → Option (Int32 × SX)} (hk43 : ∀  (u : SX), (StM mdX12_look_0 u0 u) → (((u.1 2).toInt = 2 → (u.1 4).toInt = 0)) → ((u0.1 6).toInt ≤ (u.1 6).toInt) → Tot (k43  u) (qX12_look_0 u0)) : ∀ (n : Nat)  (u : SX), (StM mdX12_look_0 u0 u) → (((u.1 2).toInt = 2 → (u.1 4).toInt = 0)) → ((u0.1 6).toInt ≤ (u.1 6).toInt) → (120 - (u.1 6).toInt < (n : Int)) → Tot (LX12_look_0_0 k43 n  u) (qX12_look_0 u0) := by
  intro n
  induction n with
  | zero =>
    intro  u hs_u h0 h1 hm
    have : 0 ≤ (u.1 6).toInt ∧ (u.1 6).toInt ≤ 120 := hs_u.1.1 6
    exfalso
    omega
  | succ n ih =>
    intro  u hs_u h0 h1 hm
    rw [LX12_look_0_0]
    have : 0 ≤ (u.1 6).toInt ∧ (u.1 6).toInt ≤ 120 := hs_u.1.1 6
    have : 2 ≤ (u.1 2).toInt ∧ (u.1 2).toInt ≤ 3 := hs_u.1.1 2
    have : 0 ≤ (u.1 4).toInt ∧ (u.1 4).toInt ≤ 4200 := hs_u.1.1 4
    have : 0 ≤ (u.1 5).toInt ∧ (u.1 5).toInt ≤ 120 := hs_u.1.1 5
    refine Tot_ite (fun c8 => ?_) (fun c8 => ?_)
    · have : (u.1 5).toInt ≤ (u.1 6).toInt := leI c8
      exact hk43 u hs_u (by omega) (by omega)
    · have : ¬ (u.1 5).toInt ≤ (u.1 6).toInt := nleI c8
      refine Tot_ite (fun c9 => ?_) (fun c9 => ?_)
      · have : (u.1 2).toInt = (2 : Int) := eqI c9
        have : ((u.1 4) + (u.1 6)).toInt = (u.1 4).toInt + (u.1 6).toInt := add_t (by omega) (by omega)
        refine Tot_gd (inb_t (by omega) (by omega)) ?_
        have : (-128) ≤ (u.2.1 1 (((u.1 4) + (u.1 6))).toNatClampNeg).toInt ∧ (u.2.1 1 (((u.1 4) + (u.1 6))).toNatClampNeg).toInt ≤ 127 := hs_u.1.2.1 1 (((u.1 4) + (u.1 6))).toNatClampNeg
        refine Tot_ite (fun c10 => ?_) (fun c10 => ?_)
        · have : (u.2.1 1 (((u.1 4) + (u.1 6))).toNatClampNeg).toInt = (32 : Int) := eqI c10
          have : ((u.1 6) + 1).toInt = (u.1 6).toInt + (1 : Int) := addc_t (by decide) (by omega) (by omega)
          refine Tot_lt (fun u2 e_u2 => ?_)
          have hs_u2 : StM mdX12_look_0 u0 u2 := by rw [e_u2]; exact StM_sI hs_u (by decide) (by show 0 ≤ ((u.1 6) + 1).toInt; omega) (by show ((u.1 6) + 1).toInt ≤ 120; omega)
          have : (u2.1 2).toInt = (u.1 2).toInt := by rw [e_u2]; rfl
          have : (u2.1 4).toInt = (u.1 4).toInt := by rw [e_u2]; rfl
          have : (u2.1 6).toInt = ((u.1 6) + 1).toInt := by rw [e_u2]; rfl
          exact ih u2 hs_u2 (by omega) (by omega) (by omega)
        · exact hk43 u hs_u (by omega) (by omega)
      · have : ¬ (u.1 2).toInt = (2 : Int) := neI c9
        refine Tot_ite (fun c11 => ?_) (fun c11 => ?_)
        · have : (u.1 2).toInt = (3 : Int) := eqI c11
          have : ((u.1 4) + (u.1 6)).toInt = (u.1 4).toInt + (u.1 6).toInt := add_t (by omega) (by omega)
          refine Tot_gd (inb_t (by omega) (by omega)) ?_
          have : (-128) ≤ (u.2.1 2 (((u.1 4) + (u.1 6))).toNatClampNeg).toInt ∧ (u.2.1 2 (((u.1 4) + (u.1 6))).toNatClampNeg).toInt ≤ 127 := hs_u.1.2.1 2 (((u.1 4) + (u.1 6))).toNatClampNeg
          refine Tot_ite (fun c12 => ?_) (fun c12 => ?_)
          · have : (u.2.1 2 (((u.1 4) + (u.1 6))).toNatClampNeg).toInt = (32 : Int) := eqI c12
            have : ((u.1 6) + 1).toInt = (u.1 6).toInt + (1 : Int) := addc_t (by decide) (by omega) (by omega)
            refine Tot_lt (fun u5 e_u5 => ?_)
            have hs_u5 : StM mdX12_look_0 u0 u5 := by rw [e_u5]; exact StM_sI hs_u (by decide) (by show 0 ≤ ((u.1 6) + 1).toInt; omega) (by show ((u.1 6) + 1).toInt ≤ 120; omega)
            have : (u5.1 2).toInt = (u.1 2).toInt := by rw [e_u5]; rfl
            have : (u5.1 4).toInt = (u.1 4).toInt := by rw [e_u5]; rfl
            have : (u5.1 6).toInt = ((u.1 6) + 1).toInt := by rw [e_u5]; rfl
            exact ih u5 hs_u5 (by omega) (by omega) (by omega)
          · exact hk43 u hs_u (by omega) (by omega)
        · have : ¬ (u.1 2).toInt = (3 : Int) := neI c11
          exfalso
          omega
set_option maxHeartbeats 400000 in
set_option maxRecDepth 10000 in
theorem tGX12_look_0_43 (u0 : SX)     (u : SX) (hs_u : StM mdX12_look_0 u0 u) (h0 : ((u.1 2).toInt = 2 → (u.1 4).toInt = 0)) (h1 : (u0.1 6).toInt ≤ (u.1 6).toInt) : Tot (GX12_look_0_43  u) (qX12_look_0 u0) := by
  unfold GX12_look_0_43
  have : 2 ≤ (u.1 2).toInt ∧ (u.1 2).toInt ≤ 3 := hs_u.1.1 2
  have : 0 ≤ (u.1 4).toInt ∧ (u.1 4).toInt ≤ 4200 := hs_u.1.1 4
  have : 0 ≤ (u.1 6).toInt ∧ (u.1 6).toInt ≤ 120 := hs_u.1.1 6
  have : 0 ≤ (u.1 5).toInt ∧ (u.1 5).toInt ≤ 120 := hs_u.1.1 5
  refine Tot_ite (fun c13 => ?_) (fun c13 => ?_)
  · have : (u.1 5).toInt ≤ (u.1 6).toInt := leI c13
    exact Tot_some ⟨hs_u, (by show (-1) ≤ (-1 : Int) ∧ (-1 : Int) ≤ 255; omega), ⟨(by show (-1 : Int) ≠ (-1) → ((u.1 6).toInt < (u.1 5).toInt); omega), (by show (u0.1 6).toInt ≤ (u.1 6).toInt; omega)⟩⟩
  · have : ¬ (u.1 5).toInt ≤ (u.1 6).toInt := nleI c13
    refine Tot_ite (fun c14 => ?_) (fun c14 => ?_)
    · have : (u.1 2).toInt = (2 : Int) := eqI c14
      have : ((u.1 4) + (u.1 6)).toInt = (u.1 4).toInt + (u.1 6).toInt := add_t (by omega) (by omega)
      refine Tot_gd (inb_t (by omega) (by omega)) ?_
      have := and255_t (u.2.1 1 (((u.1 4) + (u.1 6))).toNatClampNeg)
      exact Tot_some ⟨hs_u, (by show (-1) ≤ ((u.2.1 1 (((u.1 4) + (u.1 6))).toNatClampNeg) &&& 255).toInt ∧ ((u.2.1 1 (((u.1 4) + (u.1 6))).toNatClampNeg) &&& 255).toInt ≤ 255; omega), ⟨(by show ((u.2.1 1 (((u.1 4) + (u.1 6))).toNatClampNeg) &&& 255).toInt ≠ (-1) → ((u.1 6).toInt < (u.1 5).toInt); omega), (by show (u0.1 6).toInt ≤ (u.1 6).toInt; omega)⟩⟩
    · have : ¬ (u.1 2).toInt = (2 : Int) := neI c14
      refine Tot_ite (fun c15 => ?_) (fun c15 => ?_)
      · have : (u.1 2).toInt = (3 : Int) := eqI c15
        have : ((u.1 4) + (u.1 6)).toInt = (u.1 4).toInt + (u.1 6).toInt := add_t (by omega) (by omega)
        refine Tot_gd (inb_t (by omega) (by omega)) ?_
        have := and255_t (u.2.1 2 (((u.1 4) + (u.1 6))).toNatClampNeg)
        exact Tot_some ⟨hs_u, (by show (-1) ≤ ((u.2.1 2 (((u.1 4) + (u.1 6))).toNatClampNeg) &&& 255).toInt ∧ ((u.2.1 2 (((u.1 4) + (u.1 6))).toNatClampNeg) &&& 255).toInt ≤ 255; omega), ⟨(by show ((u.2.1 2 (((u.1 4) + (u.1 6))).toNatClampNeg) &&& 255).toInt ≠ (-1) → ((u.1 6).toInt < (u.1 5).toInt); omega), (by show (u0.1 6).toInt ≤ (u.1 6).toInt; omega)⟩⟩
      · have : ¬ (u.1 2).toInt = (3 : Int) := neI c15
        exfalso
        omega
set_option maxHeartbeats 400000 in
set_option maxRecDepth 10000 in
theorem tfX12_look_0  (u : SX) (hI : IM u) (h0 : ((u.1 2).toInt = 2 → (u.1 4).toInt = 0)) : Tot (fX12_look_0  u) (qX12_look_0 u) := by
  unfold fX12_look_0
  have hs_u : StM mdX12_look_0 u u := StM_rf hI
  have : 2 ≤ (u.1 2).toInt ∧ (u.1 2).toInt ≤ 3 := hs_u.1.1 2
  have : 0 ≤ (u.1 4).toInt ∧ (u.1 4).toInt ≤ 4200 := hs_u.1.1 4
  have : 0 ≤ (u.1 6).toInt ∧ (u.1 6).toInt ≤ 120 := hs_u.1.1 6
  exact tLX12_look_0_0 u (tGX12_look_0_43 u) 5000 u hs_u (by omega) (by omega) (by show 120 - (u.1 6).toInt < ((5000 : Nat) : Int); omega)

def mdX12_fails_0 : MD := ([7], [], [], [])
abbrev qX12_fails_0 (u : SX) (q : Int32 × SX) : Prop := StM mdX12_fails_0 u q.2 ∧ (0 ≤ q.1.toInt ∧ q.1.toInt ≤ 0) ∧ (((u.1 6).toInt ≤ (q.2.1 6).toInt) ∧ ((q.2.1 7).toInt ≠ -1))
set_option maxHeartbeats 400000 in
set_option maxRecDepth 10000 in
theorem tfX12_fails_0  (u : SX) (hI : IM u)  : Tot (fX12_fails_0  u) (qX12_fails_0 u) := by
  unfold fX12_fails_0
  have hs_u : StM mdX12_fails_0 u u := StM_rf hI
  have : (-1) ≤ (u.1 7).toInt ∧ (u.1 7).toInt ≤ 120 := hs_u.1.1 7
  refine Tot_ite (fun c16 => ?_) (fun c16 => ?_)
  · have : (u.1 7).toInt = (-1 : Int) := eqI c16
    have : 0 ≤ (u.1 6).toInt ∧ (u.1 6).toInt ≤ 120 := hs_u.1.1 6
    refine Tot_lt (fun u2 e_u2 => ?_)
    have hs_u2 : StM mdX12_fails_0 u u2 := by rw [e_u2]; exact StM_sI hs_u (by decide) (by show (-1) ≤ (u.1 6).toInt; omega) (by show (u.1 6).toInt ≤ 120; omega)
    refine Tot_gd (by decide) ?_
    have : (u2.1 6).toInt = (u.1 6).toInt := by rw [e_u2]; rfl
    have : (u2.1 7).toInt = (u.1 6).toInt := by rw [e_u2]; rfl
    exact Tot_some ⟨hs_u2, (by show 0 ≤ (0 : Int) ∧ (0 : Int) ≤ 0; omega), ⟨(by show (u.1 6).toInt ≤ (u2.1 6).toInt; omega), (by show (u2.1 7).toInt ≠ -1; omega)⟩⟩
  · have : ¬ (u.1 7).toInt = (-1 : Int) := neI c16
    refine Tot_gd (by decide) ?_
    have : 0 ≤ (u.1 6).toInt ∧ (u.1 6).toInt ≤ 120 := hs_u.1.1 6
    exact Tot_some ⟨hs_u, (by show 0 ≤ (0 : Int) ∧ (0 : Int) ≤ 0; omega), ⟨(by show (u.1 6).toInt ≤ (u.1 6).toInt; omega), (by show (u.1 7).toInt ≠ -1; omega)⟩⟩

def mdX12_goesIn_0 : MD := ([6, 7, 8], [], [], [])
abbrev qX12_goesIn_0 (u : SX) (q : Int32 × SX) : Prop := StM mdX12_goesIn_0 u q.2 ∧ (0 ≤ q.1.toInt ∧ q.1.toInt ≤ 1) ∧ (((u.1 6).toInt ≤ (q.2.1 6).toInt) ∧ (((q.1.toInt = 0 ∧ (q.2.1 7).toInt ≠ -1 ∧ (q.2.1 8).toInt = (u.1 8).toInt) ∨ (q.1.toInt ≠ 0 ∧ (q.2.1 7).toInt = (u.1 7).toInt ∧ (q.2.1 8).toInt = (u.1 8).toInt + 1))))
set_option maxHeartbeats 400000 in
set_option maxRecDepth 10000 in
theorem tfX12_goesIn_0  (u : SX) (hI : IM u) (h0 : (u.1 6).toInt < (u.1 5).toInt) : Tot (fX12_goesIn_0  u) (qX12_goesIn_0 u) := by
  unfold fX12_goesIn_0
  have hs_u : StM mdX12_goesIn_0 u u := StM_rf hI
  have : 0 ≤ (u.1 6).toInt ∧ (u.1 6).toInt ≤ 120 := hs_u.1.1 6
  have : 0 ≤ (u.1 5).toInt ∧ (u.1 5).toInt ≤ 120 := hs_u.1.1 5
  have : 0 ≤ (u.1 8).toInt ∧ (u.1 8).toInt ≤ 6 := hs_u.1.1 8
  refine Tot_ite (fun c17 => ?_) (fun c17 => ?_)
  · have : (u.1 8).toInt = (6 : Int) := eqI c17
    refine Tot_bind (tfX12_fails_0 u hs_u.1) (fun q hq => ?_)
    obtain ⟨r6, u7⟩ := q
    have hc_u7 : StM mdX12_fails_0 u u7 := hq.1
    have hs_u7 : StM mdX12_goesIn_0 u u7 := StM_tr hs_u hc_u7 (by decide)
    have : 0 ≤ r6.toInt ∧ r6.toInt ≤ 0 := hq.2.1
    have : (u7.1 6).toInt = (u.1 6).toInt := congrArg Int32.toInt (hc_u7.2.1 6 (by decide))
    have : (u.1 6).toInt ≤ (u7.1 6).toInt := hq.2.2.1
    have : (-1) ≤ (u7.1 7).toInt ∧ (u7.1 7).toInt ≤ 120 := hs_u7.1.1 7
    have : (u7.1 7).toInt ≠ -1 := hq.2.2.2
    clear hq
    refine Tot_gd (isB_t (by omega) (by omega)) ?_
    have : (u7.1 8).toInt = (u.1 8).toInt := congrArg Int32.toInt (hc_u7.2.1 8 (by decide))
    have : (-1) ≤ (u.1 7).toInt ∧ (u.1 7).toInt ≤ 120 := hs_u.1.1 7
    exact Tot_some ⟨hs_u7, (by show 0 ≤ r6.toInt ∧ r6.toInt ≤ 1; omega), ⟨(by show (u.1 6).toInt ≤ (u7.1 6).toInt; omega), (by show ((r6.toInt = 0 ∧ (u7.1 7).toInt ≠ -1 ∧ (u7.1 8).toInt = (u.1 8).toInt) ∨ (r6.toInt ≠ 0 ∧ (u7.1 7).toInt = (u.1 7).toInt ∧ (u7.1 8).toInt = (u.1 8).toInt + 1)); omega)⟩⟩
  · have : ¬ (u.1 8).toInt = (6 : Int) := neI c17
    have : ((u.1 8) + 1).toInt = (u.1 8).toInt + (1 : Int) := addc_t (by decide) (by omega) (by omega)
    refine Tot_lt (fun u1 e_u1 => ?_)
    have hs_u1 : StM mdX12_goesIn_0 u u1 := by rw [e_u1]; exact StM_sI hs_u (by decide) (by show 0 ≤ ((u.1 8) + 1).toInt; omega) (by show ((u.1 8) + 1).toInt ≤ 6; omega)
    have : (u1.1 6).toInt = (u.1 6).toInt := by rw [e_u1]; rfl
    have : ((u1.1 6) + 1).toInt = (u1.1 6).toInt + (1 : Int) := addc_t (by decide) (by omega) (by omega)
    refine Tot_lt (fun u3 e_u3 => ?_)
    have hs_u3 : StM mdX12_goesIn_0 u u3 := by rw [e_u3]; exact StM_sI hs_u1 (by decide) (by show 0 ≤ ((u1.1 6) + 1).toInt; omega) (by show ((u1.1 6) + 1).toInt ≤ 120; omega)
    refine Tot_gd (by decide) ?_
    have : (u3.1 6).toInt = ((u1.1 6) + 1).toInt := by rw [e_u3]; rfl
    have : (u3.1 7).toInt = (u1.1 7).toInt := by rw [e_u3]; rfl
    have : (u1.1 7).toInt = (u.1 7).toInt := by rw [e_u1]; rfl
    have : (-1) ≤ (u.1 7).toInt ∧ (u.1 7).toInt ≤ 120 := hs_u.1.1 7
    have : (u3.1 8).toInt = (u1.1 8).toInt := by rw [e_u3]; rfl
    have : (u1.1 8).toInt = ((u.1 8) + 1).toInt := by rw [e_u1]; rfl
    exact Tot_some ⟨hs_u3, (by show 0 ≤ (1 : Int) ∧ (1 : Int) ≤ 1; omega), ⟨(by show (u.1 6).toInt ≤ (u3.1 6).toInt; omega), (by show (((1 : Int) = 0 ∧ (u3.1 7).toInt ≠ -1 ∧ (u3.1 8).toInt = (u.1 8).toInt) ∨ ((1 : Int) ≠ 0 ∧ (u3.1 7).toInt = (u.1 7).toInt ∧ (u3.1 8).toInt = (u.1 8).toInt + 1)); omega)⟩⟩

def mdX12_takes_0 : MD := ([6, 7], [], [], [])
abbrev qX12_takes_0 (u : SX) (q : Int32 × SX) : Prop := StM mdX12_takes_0 u q.2 ∧ (0 ≤ q.1.toInt ∧ q.1.toInt ≤ 1) ∧ (((u.1 6).toInt ≤ (q.2.1 6).toInt) ∧ (((q.1.toInt = 0 ∧ (q.2.1 7).toInt ≠ -1) ∨ (q.1.toInt ≠ 0 ∧ (q.2.1 7).toInt = -1 ∧ (u.1 7).toInt = -1))))
set_option maxHeartbeats 400000 in
set_option maxRecDepth 10000 in
theorem tGX12_takes_0_16 (u0 : SX)     (u : SX) (hs_u : StM mdX12_takes_0 u0 u) (h0 : ((u.1 2).toInt = 2 → (u.1 4).toInt = 0)) (h1 : (u0.1 6).toInt ≤ (u.1 6).toInt) : Tot (GX12_takes_0_16  u) (qX12_takes_0 u0) := by
  unfold GX12_takes_0_16
  have : 2 ≤ (u.1 2).toInt ∧ (u.1 2).toInt ≤ 3 := hs_u.1.1 2
  have : 0 ≤ (u.1 4).toInt ∧ (u.1 4).toInt ≤ 4200 := hs_u.1.1 4
  have : 0 ≤ (u.1 6).toInt ∧ (u.1 6).toInt ≤ 120 := hs_u.1.1 6
  refine Tot_bind (tfX12_fails_0 u hs_u.1) (fun q hq => ?_)
  obtain ⟨r1, u2⟩ := q
  have hc_u2 : StM mdX12_fails_0 u u2 := hq.1
  have hs_u2 : StM mdX12_takes_0 u0 u2 := StM_tr hs_u hc_u2 (by decide)
  have : 0 ≤ r1.toInt ∧ r1.toInt ≤ 0 := hq.2.1
  have : (u2.1 6).toInt = (u.1 6).toInt := congrArg Int32.toInt (hc_u2.2.1 6 (by decide))
  have : (u.1 6).toInt ≤ (u2.1 6).toInt := hq.2.2.1
  have : (-1) ≤ (u2.1 7).toInt ∧ (u2.1 7).toInt ≤ 120 := hs_u2.1.1 7
  have : (u2.1 7).toInt ≠ -1 := hq.2.2.2
  clear hq
  refine Tot_gd (isB_t (by omega) (by omega)) ?_
  exact Tot_some ⟨hs_u2, (by show 0 ≤ r1.toInt ∧ r1.toInt ≤ 1; omega), ⟨(by show (u0.1 6).toInt ≤ (u2.1 6).toInt; omega), (by show ((r1.toInt = 0 ∧ (u2.1 7).toInt ≠ -1) ∨ (r1.toInt ≠ 0 ∧ (u2.1 7).toInt = -1 ∧ (u0.1 7).toInt = -1)); omega)⟩⟩
set_option maxHeartbeats 400000 in
set_option maxRecDepth 10000 in
theorem tfX12_takes_0 (x1 : Int32) (u : SX) (hI : IM u) (h0 : 41 ≤ x1.toInt ∧ x1.toInt ≤ 93) (h1 : ((u.1 2).toInt = 2 → (u.1 4).toInt = 0)) : Tot (fX12_takes_0 x1 u) (qX12_takes_0 u) := by
  unfold fX12_takes_0
  have hs_u : StM mdX12_takes_0 u u := StM_rf hI
  have : 2 ≤ (u.1 2).toInt ∧ (u.1 2).toInt ≤ 3 := hs_u.1.1 2
  have : 0 ≤ (u.1 4).toInt ∧ (u.1 4).toInt ≤ 4200 := hs_u.1.1 4
  have : (-1) ≤ (u.1 7).toInt ∧ (u.1 7).toInt ≤ 120 := hs_u.1.1 7
  refine Tot_ite (fun c18 => ?_) (fun c18 => ?_)
  · have : (u.1 7).toInt = (-1 : Int) := eqI c18
    refine Tot_bind (tfX12_look_0 u hs_u.1 (by omega)) (fun q hq => ?_)
    obtain ⟨r5, u6⟩ := q
    have hc_u6 : StM mdX12_look_0 u u6 := hq.1
    have hs_u6 : StM mdX12_takes_0 u u6 := StM_tr hs_u hc_u6 (by decide)
    have : (-1) ≤ r5.toInt ∧ r5.toInt ≤ 255 := hq.2.1
    have : 0 ≤ (u6.1 6).toInt ∧ (u6.1 6).toInt ≤ 120 := hs_u6.1.1 6
    have : (u6.1 5).toInt = (u.1 5).toInt := congrArg Int32.toInt (hc_u6.2.1 5 (by decide))
    have : 0 ≤ (u.1 5).toInt ∧ (u.1 5).toInt ≤ 120 := hs_u.1.1 5
    have : r5.toInt ≠ (-1) → ((u6.1 6).toInt < (u6.1 5).toInt) := hq.2.2.1
    have : 0 ≤ (u.1 6).toInt ∧ (u.1 6).toInt ≤ 120 := hs_u.1.1 6
    have : (u.1 6).toInt ≤ (u6.1 6).toInt := hq.2.2.2
    clear hq
    refine Tot_ite (fun c19 => ?_) (fun c19 => ?_)
    · have : r5.toInt = x1.toInt := eqI c19
      have : ((u6.1 6) + 1).toInt = (u6.1 6).toInt + (1 : Int) := addc_t (by decide) (by omega) (by omega)
      refine Tot_lt (fun u8 e_u8 => ?_)
      have hs_u8 : StM mdX12_takes_0 u u8 := by rw [e_u8]; exact StM_sI hs_u6 (by decide) (by show 0 ≤ ((u6.1 6) + 1).toInt; omega) (by show ((u6.1 6) + 1).toInt ≤ 120; omega)
      refine Tot_gd (by decide) ?_
      have : (u8.1 6).toInt = ((u6.1 6) + 1).toInt := by rw [e_u8]; rfl
      have : (u8.1 7).toInt = (u6.1 7).toInt := by rw [e_u8]; rfl
      have : (u6.1 7).toInt = (u.1 7).toInt := congrArg Int32.toInt (hc_u6.2.1 7 (by decide))
      exact Tot_some ⟨hs_u8, (by show 0 ≤ (1 : Int) ∧ (1 : Int) ≤ 1; omega), ⟨(by show (u.1 6).toInt ≤ (u8.1 6).toInt; omega), (by show (((1 : Int) = 0 ∧ (u8.1 7).toInt ≠ -1) ∨ ((1 : Int) ≠ 0 ∧ (u8.1 7).toInt = -1 ∧ (u.1 7).toInt = -1)); omega)⟩⟩
    · have : ¬ r5.toInt = x1.toInt := neI c19
      have : (u6.1 2).toInt = (u.1 2).toInt := congrArg Int32.toInt (hc_u6.2.1 2 (by decide))
      have : (u6.1 4).toInt = (u.1 4).toInt := congrArg Int32.toInt (hc_u6.2.1 4 (by decide))
      exact tGX12_takes_0_16 u u6 hs_u6 (by omega) (by omega)
  · have : ¬ (u.1 7).toInt = (-1 : Int) := neI c18
    have : 0 ≤ (u.1 6).toInt ∧ (u.1 6).toInt ≤ 120 := hs_u.1.1 6
    exact tGX12_takes_0_16 u u hs_u (by omega) (by omega)

def mdX12_isDigit_0 : MD := ([], [], [], [])
abbrev qX12_isDigit_0 (u : SX) (q : Int32 × SX) : Prop := StM mdX12_isDigit_0 u q.2 ∧ (0 ≤ q.1.toInt ∧ q.1.toInt ≤ 1) ∧ ((q.1.toInt ≠ 0 → ((u.1 6).toInt < (u.1 5).toInt)))
set_option maxHeartbeats 400000 in
set_option maxRecDepth 10000 in
theorem tfX12_isDigit_0  (u : SX) (hI : IM u) (h0 : ((u.1 2).toInt = 2 → (u.1 4).toInt = 0)) : Tot (fX12_isDigit_0  u) (qX12_isDigit_0 u) := by
  unfold fX12_isDigit_0
  have hs_u : StM mdX12_isDigit_0 u u := StM_rf hI
  have : 2 ≤ (u.1 2).toInt ∧ (u.1 2).toInt ≤ 3 := hs_u.1.1 2
  have : 0 ≤ (u.1 4).toInt ∧ (u.1 4).toInt ≤ 4200 := hs_u.1.1 4
  have : 0 ≤ (u.1 5).toInt ∧ (u.1 5).toInt ≤ 120 := hs_u.1.1 5
  have : 0 ≤ (u.1 6).toInt ∧ (u.1 6).toInt ≤ 120 := hs_u.1.1 6
  refine Tot_ite (fun c20 => ?_) (fun c20 => ?_)
  · have : (u.1 5).toInt ≤ (u.1 6).toInt := leI c20
    refine Tot_gd (by decide) ?_
    exact Tot_some ⟨hs_u, (by show 0 ≤ (0 : Int) ∧ (0 : Int) ≤ 1; omega), (by show (0 : Int) ≠ 0 → ((u.1 6).toInt < (u.1 5).toInt); omega)⟩
  · have : ¬ (u.1 5).toInt ≤ (u.1 6).toInt := nleI c20
    refine Tot_ite (fun c21 => ?_) (fun c21 => ?_)
    · have : (u.1 2).toInt = (2 : Int) := eqI c21
      have : ((u.1 4) + (u.1 6)).toInt = (u.1 4).toInt + (u.1 6).toInt := add_t (by omega) (by omega)
      refine Tot_gd (inb_t (by omega) (by omega)) ?_
      have : (-128) ≤ (u.2.1 1 (((u.1 4) + (u.1 6))).toNatClampNeg).toInt ∧ (u.2.1 1 (((u.1 4) + (u.1 6))).toNatClampNeg).toInt ≤ 127 := hs_u.1.2.1 1 (((u.1 4) + (u.1 6))).toNatClampNeg
      refine Tot_ite (fun c22 => ?_) (fun c22 => ?_)
      · have : (u.2.1 1 (((u.1 4) + (u.1 6))).toNatClampNeg).toInt < (48 : Int) := ltI c22
        refine Tot_gd (by decide) ?_
        exact Tot_some ⟨hs_u, (by show 0 ≤ (0 : Int) ∧ (0 : Int) ≤ 1; omega), (by show (0 : Int) ≠ 0 → ((u.1 6).toInt < (u.1 5).toInt); omega)⟩
      · have : ¬ (u.2.1 1 (((u.1 4) + (u.1 6))).toNatClampNeg).toInt < (48 : Int) := nltI c22
        refine Tot_ite (fun c23 => ?_) (fun c23 => ?_)
        · have : (u.1 2).toInt = (2 : Int) := eqI c23
          refine Tot_gd (inb_t (by omega) (by omega)) ?_
          refine Tot_ite (fun c24 => ?_) (fun c24 => ?_)
          · have : (57 : Int) < (u.2.1 1 (((u.1 4) + (u.1 6))).toNatClampNeg).toInt := ltI c24
            refine Tot_gd (by decide) ?_
            exact Tot_some ⟨hs_u, (by show 0 ≤ (0 : Int) ∧ (0 : Int) ≤ 1; omega), (by show (0 : Int) ≠ 0 → ((u.1 6).toInt < (u.1 5).toInt); omega)⟩
          · have : ¬ (57 : Int) < (u.2.1 1 (((u.1 4) + (u.1 6))).toNatClampNeg).toInt := nltI c24
            refine Tot_gd (by decide) ?_
            exact Tot_some ⟨hs_u, (by show 0 ≤ (1 : Int) ∧ (1 : Int) ≤ 1; omega), (by show (1 : Int) ≠ 0 → ((u.1 6).toInt < (u.1 5).toInt); omega)⟩
        · have : ¬ (u.1 2).toInt = (2 : Int) := neI c23
          exfalso
          omega
    · have : ¬ (u.1 2).toInt = (2 : Int) := neI c21
      refine Tot_ite (fun c25 => ?_) (fun c25 => ?_)
      · have : (u.1 2).toInt = (3 : Int) := eqI c25
        have : ((u.1 4) + (u.1 6)).toInt = (u.1 4).toInt + (u.1 6).toInt := add_t (by omega) (by omega)
        refine Tot_gd (inb_t (by omega) (by omega)) ?_
        have : (-128) ≤ (u.2.1 2 (((u.1 4) + (u.1 6))).toNatClampNeg).toInt ∧ (u.2.1 2 (((u.1 4) + (u.1 6))).toNatClampNeg).toInt ≤ 127 := hs_u.1.2.1 2 (((u.1 4) + (u.1 6))).toNatClampNeg
        refine Tot_ite (fun c26 => ?_) (fun c26 => ?_)
        · have : (u.2.1 2 (((u.1 4) + (u.1 6))).toNatClampNeg).toInt < (48 : Int) := ltI c26
          refine Tot_gd (by decide) ?_
          exact Tot_some ⟨hs_u, (by show 0 ≤ (0 : Int) ∧ (0 : Int) ≤ 1; omega), (by show (0 : Int) ≠ 0 → ((u.1 6).toInt < (u.1 5).toInt); omega)⟩
        · have : ¬ (u.2.1 2 (((u.1 4) + (u.1 6))).toNatClampNeg).toInt < (48 : Int) := nltI c26
          refine Tot_ite (fun c27 => ?_) (fun c27 => ?_)
          · have : (u.1 2).toInt = (2 : Int) := eqI c27
            exfalso
            omega
          · refine Tot_ite (fun c28 => ?_) (fun c28 => ?_)
            · have : (u.1 2).toInt = (3 : Int) := eqI c28
              refine Tot_gd (inb_t (by omega) (by omega)) ?_
              refine Tot_ite (fun c29 => ?_) (fun c29 => ?_)
              · have : (57 : Int) < (u.2.1 2 (((u.1 4) + (u.1 6))).toNatClampNeg).toInt := ltI c29
                refine Tot_gd (by decide) ?_
                exact Tot_some ⟨hs_u, (by show 0 ≤ (0 : Int) ∧ (0 : Int) ≤ 1; omega), (by show (0 : Int) ≠ 0 → ((u.1 6).toInt < (u.1 5).toInt); omega)⟩
              · have : ¬ (57 : Int) < (u.2.1 2 (((u.1 4) + (u.1 6))).toNatClampNeg).toInt := nltI c29
                refine Tot_gd (by decide) ?_
                exact Tot_some ⟨hs_u, (by show 0 ≤ (1 : Int) ∧ (1 : Int) ≤ 1; omega), (by show (1 : Int) ≠ 0 → ((u.1 6).toInt < (u.1 5).toInt); omega)⟩
            · have : ¬ (u.1 2).toInt = (3 : Int) := neI c28
              exfalso
              omega
      · have : ¬ (u.1 2).toInt = (3 : Int) := neI c25
        exfalso
        omega

abbrev qX12_within (q : Int32) : Prop := (True) ∧ (True)
set_option maxHeartbeats 400000 in
set_option maxRecDepth 10000 in
theorem tfX12_within (x0 : Int64)  : Tot (fX12_within x0) (qX12_within ) := by
  unfold fX12_within
  exact Tot_some ⟨trivial, trivial⟩

abbrev qX12_isSign (x0 : Int32) (q : Int32) : Prop := (0 ≤ q.toInt ∧ q.toInt ≤ 1) ∧ ((q.toInt ≠ 0 → ((60 : Int) ≤ x0.toInt ∧ x0.toInt ≤ (62 : Int))))
set_option maxHeartbeats 400000 in
set_option maxRecDepth 10000 in
theorem tfX12_isSign (x0 : Int32) (h0 : (-1) ≤ x0.toInt ∧ x0.toInt ≤ 255) : Tot (fX12_isSign x0) (qX12_isSign x0 ) := by
  unfold fX12_isSign
  refine Tot_ite (fun c30 => ?_) (fun c30 => ?_)
  · have : x0.toInt = (61 : Int) := eqI c30
    refine Tot_gd (by decide) ?_
    exact Tot_some ⟨(by show 0 ≤ (1 : Int) ∧ (1 : Int) ≤ 1; omega), (by show (1 : Int) ≠ 0 → ((60 : Int) ≤ x0.toInt ∧ x0.toInt ≤ (62 : Int)); omega)⟩
  · have : ¬ x0.toInt = (61 : Int) := neI c30
    refine Tot_ite (fun c31 => ?_) (fun c31 => ?_)
    · have : x0.toInt = (60 : Int) := eqI c31
      refine Tot_gd (by decide) ?_
      exact Tot_some ⟨(by show 0 ≤ (1 : Int) ∧ (1 : Int) ≤ 1; omega), (by show (1 : Int) ≠ 0 → ((60 : Int) ≤ x0.toInt ∧ x0.toInt ≤ (62 : Int)); omega)⟩
    · have : ¬ x0.toInt = (60 : Int) := neI c31
      refine Tot_ite (fun c32 => ?_) (fun c32 => ?_)
      · have : x0.toInt = (62 : Int) := eqI c32
        refine Tot_gd (by decide) ?_
        exact Tot_some ⟨(by show 0 ≤ (1 : Int) ∧ (1 : Int) ≤ 1; omega), (by show (1 : Int) ≠ 0 → ((60 : Int) ≤ x0.toInt ∧ x0.toInt ≤ (62 : Int)); omega)⟩
      · have : ¬ x0.toInt = (62 : Int) := neI c32
        refine Tot_gd (by decide) ?_
        exact Tot_some ⟨(by show 0 ≤ (0 : Int) ∧ (0 : Int) ≤ 1; omega), (by show (0 : Int) ≠ 0 → ((60 : Int) ≤ x0.toInt ∧ x0.toInt ≤ (62 : Int)); omega)⟩

def mdX12_sum_0 : MD := ([6, 7, 8], [], [], [])
abbrev qX12_sum_0 (u : SX) (q : Int32 × SX) : Prop := StM mdX12_sum_0 u q.2 ∧ (True) ∧ (((u.1 6).toInt ≤ (q.2.1 6).toInt) ∧ ((u.1 8).toInt ≤ (q.2.1 8).toInt) ∧ (((q.2.1 7).toInt = -1 → (q.2.1 8).toInt = (u.1 8).toInt)))

def mdX12_term_0 : MD := ([6, 7, 8], [], [], [])
abbrev qX12_term_0 (u : SX) (q : Int32 × SX) : Prop := StM mdX12_term_0 u q.2 ∧ (True) ∧ (((u.1 6).toInt ≤ (q.2.1 6).toInt) ∧ ((u.1 8).toInt ≤ (q.2.1 8).toInt) ∧ (((q.2.1 7).toInt = -1 → (q.2.1 8).toInt = (u.1 8).toInt)))

def mdX12_atom_0 : MD := ([6, 7, 8], [], [], [])
abbrev qX12_atom_0 (u : SX) (q : Int32 × SX) : Prop := StM mdX12_atom_0 u q.2 ∧ (True) ∧ (((u.1 6).toInt ≤ (q.2.1 6).toInt) ∧ ((u.1 8).toInt ≤ (q.2.1 8).toInt) ∧ (((q.2.1 7).toInt = -1 → (q.2.1 8).toInt = (u.1 8).toInt)))

def RCrX12sumg (rc : Nat → Int32 → SX → Option (Int32 × SX)) (dd : Nat) : Prop := (∀  (u : SX), IM u → (((u.1 2).toInt = 2 → (u.1 4).toInt = 0)) → (3 * (6 - (u.1 8).toInt) + 3 < (dd : Int)) → Tot (rc 0  0 u) (qX12_sum_0 u)) ∧ (∀  (u : SX), IM u → (((u.1 2).toInt = 2 → (u.1 4).toInt = 0)) → (3 * (6 - (u.1 8).toInt) + 2 < (dd : Int)) → Tot (rc 1  0 u) (qX12_term_0 u)) ∧ (∀  (u : SX), IM u → (((u.1 2).toInt = 2 → (u.1 4).toInt = 0)) → (3 * (6 - (u.1 8).toInt) + 1 < (dd : Int)) → Tot (rc 2  0 u) (qX12_atom_0 u))

set_option maxHeartbeats 400000 in
set_option maxRecDepth 10000 in
theorem tGX12_sum_0_77 {rc : Nat → Int32 → SX → Option (Int32 × SX)} {dd : Nat} (hrc : RCrX12sumg rc dd) (u0 : SX) (g5 : Int) {k5 : Int32 → SX → Option (Int32 × SX)} (hk5 : ∀ (z1 : Int32) (u : SX), (StM mdX12_sum_0 u0 u) → (((u.1 2).toInt = 2 → (u.1 4).toInt = 0)) → ((u0.1 6).toInt ≤ (u.1 6).toInt) → ((u0.1 8).toInt ≤ (u.1 8).toInt) → (((u.1 7).toInt = -1 → (u.1 8).toInt = (u0.1 8).toInt)) → (3 * (6 - (u0.1 8).toInt) + 3 ≤ (dd : Int)) → (g5 < (u.1 6).toInt) → Tot (k5 z1 u) (qX12_sum_0 u0)) (y0 : Int64) (u : SX) (hs_u : StM mdX12_sum_0 u0 u) (h0 : ((u.1 2).toInt = 2 → (u.1 4).toInt = 0)) (h1 : (u0.1 6).toInt ≤ (u.1 6).toInt) (h2 : (u0.1 8).toInt ≤ (u.1 8).toInt) (h3 : ((u.1 7).toInt = -1 → (u.1 8).toInt = (u0.1 8).toInt)) (h4 : g5 < (u.1 6).toInt) (h5 : g5 ≤ (u.1 6).toInt) (h6 : 3 * (6 - (u0.1 8).toInt) + 3 ≤ (dd : Int)) : Tot (GX12_sum_0_77 rc k5 y0 u) (qX12_sum_0 u0) := by
  unfold GX12_sum_0_77
  have : 2 ≤ (u.1 2).toInt ∧ (u.1 2).toInt ≤ 3 := hs_u.1.1 2
  have : 0 ≤ (u.1 4).toInt ∧ (u.1 4).toInt ≤ 4200 := hs_u.1.1 4
  have : 0 ≤ (u.1 6).toInt ∧ (u.1 6).toInt ≤ 120 := hs_u.1.1 6
  have : 0 ≤ (u.1 8).toInt ∧ (u.1 8).toInt ≤ 6 := hs_u.1.1 8
  have : (-1) ≤ (u.1 7).toInt ∧ (u.1 7).toInt ≤ 120 := hs_u.1.1 7
  refine Tot_bind (tfX12_within y0) (fun r17 hq => ?_)
  clear hq
  exact hk5 r17 u hs_u (by omega) (by omega) (by omega) (by omega) (by omega) (by omega)
set_option maxHeartbeats 400000 in
set_option maxRecDepth 10000 in
theorem tGX12_sum_0_45 {rc : Nat → Int32 → SX → Option (Int32 × SX)} {dd : Nat} (hrc : RCrX12sumg rc dd) (u0 : SX) (g5 : Int) {k5 : Int32 → SX → Option (Int32 × SX)} (hk5 : ∀ (z1 : Int32) (u : SX), (StM mdX12_sum_0 u0 u) → (((u.1 2).toInt = 2 → (u.1 4).toInt = 0)) → ((u0.1 6).toInt ≤ (u.1 6).toInt) → ((u0.1 8).toInt ≤ (u.1 8).toInt) → (((u.1 7).toInt = -1 → (u.1 8).toInt = (u0.1 8).toInt)) → (3 * (6 - (u0.1 8).toInt) + 3 ≤ (dd : Int)) → (g5 < (u.1 6).toInt) → Tot (k5 z1 u) (qX12_sum_0 u0)) (z1 : Int32) (y0 : Int32) (u : SX) (hs_u : StM mdX12_sum_0 u0 u) (h0 : 0 ≤ y0.toInt ∧ y0.toInt ≤ 1) (h1 : ((u.1 2).toInt = 2 → (u.1 4).toInt = 0)) (h2 : (u0.1 6).toInt ≤ (u.1 6).toInt) (h3 : (u0.1 8).toInt ≤ (u.1 8).toInt) (h4 : ((u.1 7).toInt = -1 → (u.1 8).toInt = (u0.1 8).toInt)) (h5 : (u.1 6).toInt < (u.1 5).toInt) (h6 : (u.1 7).toInt = -1) (h7 : g5 ≤ (u.1 6).toInt) (h8 : 3 * (6 - (u0.1 8).toInt) + 3 ≤ (dd : Int)) : Tot (GX12_sum_0_45 rc k5 z1 y0 u) (qX12_sum_0 u0) := by
  unfold GX12_sum_0_45
  have : 2 ≤ (u.1 2).toInt ∧ (u.1 2).toInt ≤ 3 := hs_u.1.1 2
  have : 0 ≤ (u.1 4).toInt ∧ (u.1 4).toInt ≤ 4200 := hs_u.1.1 4
  have : 0 ≤ (u.1 6).toInt ∧ (u.1 6).toInt ≤ 120 := hs_u.1.1 6
  have : 0 ≤ (u.1 8).toInt ∧ (u.1 8).toInt ≤ 6 := hs_u.1.1 8
  have : (-1) ≤ (u.1 7).toInt ∧ (u.1 7).toInt ≤ 120 := hs_u.1.1 7
  have : 0 ≤ (u.1 5).toInt ∧ (u.1 5).toInt ≤ 120 := hs_u.1.1 5
  have : ((u.1 6) + 1).toInt = (u.1 6).toInt + (1 : Int) := addc_t (by decide) (by omega) (by omega)
  refine Tot_lt (fun u10 e_u10 => ?_)
  have hs_u10 : StM mdX12_sum_0 u0 u10 := by rw [e_u10]; exact StM_sI hs_u (by decide) (by show 0 ≤ ((u.1 6) + 1).toInt; omega) (by show ((u.1 6) + 1).toInt ≤ 120; omega)
  have : (u10.1 2).toInt = (u.1 2).toInt := by rw [e_u10]; rfl
  have : (u10.1 4).toInt = (u.1 4).toInt := by rw [e_u10]; rfl
  have : (u10.1 8).toInt = (u.1 8).toInt := by rw [e_u10]; rfl
  refine Tot_bind (hrc.2.1 u10 hs_u10.1 (by omega) (by show 3 * (6 - (u10.1 8).toInt) + 2 < (dd : Int); omega)) (fun q hq => ?_)
  obtain ⟨r12, u13⟩ := q
  have hc_u13 : StM mdX12_term_0 u10 u13 := hq.1
  have hs_u13 : StM mdX12_sum_0 u0 u13 := StM_tr hs_u10 hc_u13 (by decide)
  have : (u10.1 6).toInt = ((u.1 6) + 1).toInt := by rw [e_u10]; rfl
  have : 0 ≤ (u13.1 6).toInt ∧ (u13.1 6).toInt ≤ 120 := hs_u13.1.1 6
  have : (u10.1 6).toInt ≤ (u13.1 6).toInt := hq.2.2.1
  have : 0 ≤ (u13.1 8).toInt ∧ (u13.1 8).toInt ≤ 6 := hs_u13.1.1 8
  have : (u10.1 8).toInt ≤ (u13.1 8).toInt := hq.2.2.2.1
  have : (-1) ≤ (u13.1 7).toInt ∧ (u13.1 7).toInt ≤ 120 := hs_u13.1.1 7
  have : ((u13.1 7).toInt = -1 → (u13.1 8).toInt = (u10.1 8).toInt) := hq.2.2.2.2
  clear hq
  refine Tot_lt (fun v15 e_v15 => ?_)
  refine Tot_ite (fun c33 => ?_) (fun c33 => ?_)
  · have : y0.toInt = (0 : Int) := eqI c33
    have : (u13.1 2).toInt = (u10.1 2).toInt := congrArg Int32.toInt (hc_u13.2.1 2 (by decide))
    have : (u13.1 4).toInt = (u10.1 4).toInt := congrArg Int32.toInt (hc_u13.2.1 4 (by decide))
    exact tGX12_sum_0_77 hrc u0 g5 hk5 (z1.toInt64 - v15) u13 hs_u13 (by omega) (by omega) (by omega) (by omega) (by omega) (by omega) (by omega)
  · have : ¬ y0.toInt = (0 : Int) := neI c33
    have : (u13.1 2).toInt = (u10.1 2).toInt := congrArg Int32.toInt (hc_u13.2.1 2 (by decide))
    have : (u13.1 4).toInt = (u10.1 4).toInt := congrArg Int32.toInt (hc_u13.2.1 4 (by decide))
    exact tGX12_sum_0_77 hrc u0 g5 hk5 (z1.toInt64 + v15) u13 hs_u13 (by omega) (by omega) (by omega) (by omega) (by omega) (by omega) (by omega)
set_option maxHeartbeats 400000 in
set_option maxRecDepth 10000 in
theorem tGX12_sum_0_31 {rc : Nat → Int32 → SX → Option (Int32 × SX)} {dd : Nat} (hrc : RCrX12sumg rc dd) (u0 : SX) (g5 : Int) {k5 : Int32 → SX → Option (Int32 × SX)} (hk5 : ∀ (z1 : Int32) (u : SX), (StM mdX12_sum_0 u0 u) → (((u.1 2).toInt = 2 → (u.1 4).toInt = 0)) → ((u0.1 6).toInt ≤ (u.1 6).toInt) → ((u0.1 8).toInt ≤ (u.1 8).toInt) → (((u.1 7).toInt = -1 → (u.1 8).toInt = (u0.1 8).toInt)) → (3 * (6 - (u0.1 8).toInt) + 3 ≤ (dd : Int)) → (g5 < (u.1 6).toInt) → Tot (k5 z1 u) (qX12_sum_0 u0)) (z1 : Int32) (u : SX) (hs_u : StM mdX12_sum_0 u0 u) (h0 : ∃ rr : Int32, (rr.toInt = 43 ∨ rr.toInt = 45) ∧ fX12_look_0 u = some (rr, u)) (h1 : ((u.1 2).toInt = 2 → (u.1 4).toInt = 0)) (h2 : (u0.1 6).toInt ≤ (u.1 6).toInt) (h3 : (u0.1 8).toInt ≤ (u.1 8).toInt) (h4 : ((u.1 7).toInt = -1 → (u.1 8).toInt = (u0.1 8).toInt)) (h5 : (u.1 7).toInt = -1) (h6 : g5 ≤ (u.1 6).toInt) (h7 : 3 * (6 - (u0.1 8).toInt) + 3 ≤ (dd : Int)) : Tot (GX12_sum_0_31 rc k5 z1 u) (qX12_sum_0 u0) := by
  unfold GX12_sum_0_31
  have : 2 ≤ (u.1 2).toInt ∧ (u.1 2).toInt ≤ 3 := hs_u.1.1 2
  have : 0 ≤ (u.1 4).toInt ∧ (u.1 4).toInt ≤ 4200 := hs_u.1.1 4
  have : 0 ≤ (u.1 6).toInt ∧ (u.1 6).toInt ≤ 120 := hs_u.1.1 6
  have : 0 ≤ (u.1 8).toInt ∧ (u.1 8).toInt ≤ 6 := hs_u.1.1 8
  have : (-1) ≤ (u.1 7).toInt ∧ (u.1 7).toInt ≤ 120 := hs_u.1.1 7
  refine Tot_bindE (tfX12_look_0 u hs_u.1 (by omega)) (fun q hE hq => ?_)
  obtain ⟨r7, u8⟩ := q
  have hE_u8 := hE
  have hc_u8 : StM mdX12_look_0 u u8 := hq.1
  have hs_u8 : StM mdX12_sum_0 u0 u8 := StM_tr hs_u hc_u8 (by decide)
  have : (-1) ≤ r7.toInt ∧ r7.toInt ≤ 255 := hq.2.1
  have : 0 ≤ (u8.1 6).toInt ∧ (u8.1 6).toInt ≤ 120 := hs_u8.1.1 6
  have : (u8.1 5).toInt = (u.1 5).toInt := congrArg Int32.toInt (hc_u8.2.1 5 (by decide))
  have : 0 ≤ (u.1 5).toInt ∧ (u.1 5).toInt ≤ 120 := hs_u.1.1 5
  have : r7.toInt ≠ (-1) → ((u8.1 6).toInt < (u8.1 5).toInt) := hq.2.2.1
  have : (u.1 6).toInt ≤ (u8.1 6).toInt := hq.2.2.2
  clear hq
  obtain ⟨rr, hrr, hee⟩ : ∃ rr : Int32, (rr.toInt = 43 ∨ rr.toInt = 45) ∧ fX12_look_0 u = some (rr, u) := by assumption
  have : r7.toInt = 43 ∨ r7.toInt = 45 := by rw [show r7 = rr from congrArg Prod.fst (Option.some.inj (hE.symm.trans hee))]; exact hrr
  refine Tot_ite (fun c34 => ?_) (fun c34 => ?_)
  · have : r7.toInt = (43 : Int) := eqI c34
    have : (u8.1 2).toInt = (u.1 2).toInt := congrArg Int32.toInt (hc_u8.2.1 2 (by decide))
    have : (u8.1 4).toInt = (u.1 4).toInt := congrArg Int32.toInt (hc_u8.2.1 4 (by decide))
    have : (u8.1 8).toInt = (u.1 8).toInt := congrArg Int32.toInt (hc_u8.2.1 8 (by decide))
    have : (u8.1 7).toInt = (u.1 7).toInt := congrArg Int32.toInt (hc_u8.2.1 7 (by decide))
    exact tGX12_sum_0_45 hrc u0 g5 hk5 z1 1 u8 hs_u8 (by show 0 ≤ (1 : Int) ∧ (1 : Int) ≤ 1; omega) (by omega) (by omega) (by omega) (by omega) (by omega) (by omega) (by omega) (by omega)
  · have : ¬ r7.toInt = (43 : Int) := neI c34
    have : (u8.1 2).toInt = (u.1 2).toInt := congrArg Int32.toInt (hc_u8.2.1 2 (by decide))
    have : (u8.1 4).toInt = (u.1 4).toInt := congrArg Int32.toInt (hc_u8.2.1 4 (by decide))
    have : (u8.1 8).toInt = (u.1 8).toInt := congrArg Int32.toInt (hc_u8.2.1 8 (by decide))
    have : (u8.1 7).toInt = (u.1 7).toInt := congrArg Int32.toInt (hc_u8.2.1 7 (by decide))
    exact tGX12_sum_0_45 hrc u0 g5 hk5 z1 0 u8 hs_u8 (by show 0 ≤ (0 : Int) ∧ (0 : Int) ≤ 1; omega) (by omega) (by omega) (by omega) (by omega) (by omega) (by omega) (by omega) (by omega)
set_option maxHeartbeats 400000 in
set_option maxRecDepth 10000 in
theorem tLX12_sum_0_5 {rc : Nat → Int32 → SX → Option (Int32 × SX)} {dd : Nat} (hrc : RCrX12sumg rc dd) (u0 : SX)    : ∀ (n : Nat) (z1 : Int32) (u : SX), (StM mdX12_sum_0 u0 u) → (((u.1 2).toInt = 2 → (u.1 4).toInt = 0)) → ((u0.1 6).toInt ≤ (u.1 6).toInt) → ((u0.1 8).toInt ≤ (u.1 8).toInt) → (((u.1 7).toInt = -1 → (u.1 8).toInt = (u0.1 8).toInt)) → (3 * (6 - (u0.1 8).toInt) + 3 ≤ (dd : Int)) → (120 - (u.1 6).toInt < (n : Int)) → Tot (LX12_sum_0_5 rc n z1 u) (qX12_sum_0 u0) := by
  intro n
  induction n with
  | zero =>
    intro z1 u hs_u h0 h1 h2 h3 h4 hm
    have : 0 ≤ (u.1 6).toInt ∧ (u.1 6).toInt ≤ 120 := hs_u.1.1 6
    exfalso
    omega
  | succ n ih =>
    intro z1 u hs_u h0 h1 h2 h3 h4 hm
    rw [LX12_sum_0_5]
    have : 0 ≤ (u.1 6).toInt ∧ (u.1 6).toInt ≤ 120 := hs_u.1.1 6
    have : 2 ≤ (u.1 2).toInt ∧ (u.1 2).toInt ≤ 3 := hs_u.1.1 2
    have : 0 ≤ (u.1 4).toInt ∧ (u.1 4).toInt ≤ 4200 := hs_u.1.1 4
    have : 0 ≤ (u.1 8).toInt ∧ (u.1 8).toInt ≤ 6 := hs_u.1.1 8
    have : (-1) ≤ (u.1 7).toInt ∧ (u.1 7).toInt ≤ 120 := hs_u.1.1 7
    refine Tot_ite (fun c35 => ?_) (fun c35 => ?_)
    · have : (u.1 7).toInt = (-1 : Int) := eqI c35
      refine Tot_bindE (tfX12_look_0 u hs_u.1 (by omega)) (fun q hE hq => ?_)
      obtain ⟨r4, u5⟩ := q
      have hE_u5 := hE
      have hc_u5 : StM mdX12_look_0 u u5 := hq.1
      have hs_u5 : StM mdX12_sum_0 u0 u5 := StM_tr hs_u hc_u5 (by decide)
      have : (-1) ≤ r4.toInt ∧ r4.toInt ≤ 255 := hq.2.1
      have : 0 ≤ (u5.1 6).toInt ∧ (u5.1 6).toInt ≤ 120 := hs_u5.1.1 6
      have : (u5.1 5).toInt = (u.1 5).toInt := congrArg Int32.toInt (hc_u5.2.1 5 (by decide))
      have : 0 ≤ (u.1 5).toInt ∧ (u.1 5).toInt ≤ 120 := hs_u.1.1 5
      have : r4.toInt ≠ (-1) → ((u5.1 6).toInt < (u5.1 5).toInt) := hq.2.2.1
      have : (u.1 6).toInt ≤ (u5.1 6).toInt := hq.2.2.2
      clear hq
      refine Tot_ite (fun c36 => ?_) (fun c36 => ?_)
      · have : r4.toInt = (43 : Int) := eqI c36
        have : (u5.1 2).toInt = (u.1 2).toInt := congrArg Int32.toInt (hc_u5.2.1 2 (by decide))
        have : (u5.1 4).toInt = (u.1 4).toInt := congrArg Int32.toInt (hc_u5.2.1 4 (by decide))
        have : (u5.1 8).toInt = (u.1 8).toInt := congrArg Int32.toInt (hc_u5.2.1 8 (by decide))
        have : (u5.1 7).toInt = (u.1 7).toInt := congrArg Int32.toInt (hc_u5.2.1 7 (by decide))
        exact tGX12_sum_0_31 hrc u0 ((u.1 6).toInt) (fun a37 w38 hw38 p39 p40 p41 p42 p43 p44 => ih a37 w38 hw38 p39 p40 p41 p42 p43 (by omega)) z1 u5 hs_u5 ⟨r4, by omega, look_idem hE_u5 (by omega)⟩ (by omega) (by omega) (by omega) (by omega) (by omega) (by omega) (by omega)
      · have : ¬ r4.toInt = (43 : Int) := neI c36
        have : (u5.1 2).toInt = (u.1 2).toInt := congrArg Int32.toInt (hc_u5.2.1 2 (by decide))
        have : (u5.1 4).toInt = (u.1 4).toInt := congrArg Int32.toInt (hc_u5.2.1 4 (by decide))
        refine Tot_bindE (tfX12_look_0 u5 hs_u5.1 (by omega)) (fun q hE hq => ?_)
        obtain ⟨r20, u21⟩ := q
        have hE_u21 := hE
        have hc_u21 : StM mdX12_look_0 u5 u21 := hq.1
        have hs_u21 : StM mdX12_sum_0 u0 u21 := StM_tr hs_u5 hc_u21 (by decide)
        have : (-1) ≤ r20.toInt ∧ r20.toInt ≤ 255 := hq.2.1
        have : 0 ≤ (u21.1 6).toInt ∧ (u21.1 6).toInt ≤ 120 := hs_u21.1.1 6
        have : (u21.1 5).toInt = (u5.1 5).toInt := congrArg Int32.toInt (hc_u21.2.1 5 (by decide))
        have : r20.toInt ≠ (-1) → ((u21.1 6).toInt < (u21.1 5).toInt) := hq.2.2.1
        have : (u5.1 6).toInt ≤ (u21.1 6).toInt := hq.2.2.2
        clear hq
        refine Tot_ite (fun c45 => ?_) (fun c45 => ?_)
        · have : r20.toInt = (45 : Int) := eqI c45
          have : (u21.1 2).toInt = (u5.1 2).toInt := congrArg Int32.toInt (hc_u21.2.1 2 (by decide))
          have : (u21.1 4).toInt = (u5.1 4).toInt := congrArg Int32.toInt (hc_u21.2.1 4 (by decide))
          have : (u21.1 8).toInt = (u5.1 8).toInt := congrArg Int32.toInt (hc_u21.2.1 8 (by decide))
          have : (u5.1 8).toInt = (u.1 8).toInt := congrArg Int32.toInt (hc_u5.2.1 8 (by decide))
          have : (u21.1 7).toInt = (u5.1 7).toInt := congrArg Int32.toInt (hc_u21.2.1 7 (by decide))
          have : (u5.1 7).toInt = (u.1 7).toInt := congrArg Int32.toInt (hc_u5.2.1 7 (by decide))
          exact tGX12_sum_0_31 hrc u0 ((u.1 6).toInt) (fun a46 w47 hw47 p48 p49 p50 p51 p52 p53 => ih a46 w47 hw47 p48 p49 p50 p51 p52 (by omega)) z1 u21 hs_u21 ⟨r20, by omega, look_idem hE_u21 (by omega)⟩ (by omega) (by omega) (by omega) (by omega) (by omega) (by omega) (by omega)
        · have : ¬ r20.toInt = (45 : Int) := neI c45
          have : (u21.1 8).toInt = (u5.1 8).toInt := congrArg Int32.toInt (hc_u21.2.1 8 (by decide))
          have : (u5.1 8).toInt = (u.1 8).toInt := congrArg Int32.toInt (hc_u5.2.1 8 (by decide))
          have : (u21.1 7).toInt = (u5.1 7).toInt := congrArg Int32.toInt (hc_u21.2.1 7 (by decide))
          have : (u5.1 7).toInt = (u.1 7).toInt := congrArg Int32.toInt (hc_u5.2.1 7 (by decide))
          exact Tot_some ⟨hs_u21, trivial, ⟨(by show (u0.1 6).toInt ≤ (u21.1 6).toInt; omega), (by show (u0.1 8).toInt ≤ (u21.1 8).toInt; omega), (by show ((u21.1 7).toInt = -1 → (u21.1 8).toInt = (u0.1 8).toInt); omega)⟩⟩
    · have : ¬ (u.1 7).toInt = (-1 : Int) := neI c35
      exact Tot_some ⟨hs_u, trivial, ⟨(by show (u0.1 6).toInt ≤ (u.1 6).toInt; omega), (by show (u0.1 8).toInt ≤ (u.1 8).toInt; omega), (by show ((u.1 7).toInt = -1 → (u.1 8).toInt = (u0.1 8).toInt); omega)⟩⟩
set_option maxHeartbeats 400000 in
set_option maxRecDepth 10000 in
theorem tfX12_sum_0 {rc : Nat → Int32 → SX → Option (Int32 × SX)} {dd : Nat} (hrc : RCrX12sumg rc dd)  (u : SX) (hI : IM u) (h0 : ((u.1 2).toInt = 2 → (u.1 4).toInt = 0)) (h1 : 3 * (6 - (u.1 8).toInt) + 3 ≤ (dd : Int)) : Tot (fX12_sum_0 rc  u) (qX12_sum_0 u) := by
  unfold fX12_sum_0
  have hs_u : StM mdX12_sum_0 u u := StM_rf hI
  have : 2 ≤ (u.1 2).toInt ∧ (u.1 2).toInt ≤ 3 := hs_u.1.1 2
  have : 0 ≤ (u.1 4).toInt ∧ (u.1 4).toInt ≤ 4200 := hs_u.1.1 4
  have : 0 ≤ (u.1 8).toInt ∧ (u.1 8).toInt ≤ 6 := hs_u.1.1 8
  refine Tot_bind (hrc.2.1 u hs_u.1 (by omega) (by show 3 * (6 - (u.1 8).toInt) + 2 < (dd : Int); omega)) (fun q hq => ?_)
  obtain ⟨r1, u2⟩ := q
  have hc_u2 : StM mdX12_term_0 u u2 := hq.1
  have hs_u2 : StM mdX12_sum_0 u u2 := StM_tr hs_u hc_u2 (by decide)
  have : 0 ≤ (u.1 6).toInt ∧ (u.1 6).toInt ≤ 120 := hs_u.1.1 6
  have : 0 ≤ (u2.1 6).toInt ∧ (u2.1 6).toInt ≤ 120 := hs_u2.1.1 6
  have : (u.1 6).toInt ≤ (u2.1 6).toInt := hq.2.2.1
  have : 0 ≤ (u2.1 8).toInt ∧ (u2.1 8).toInt ≤ 6 := hs_u2.1.1 8
  have : (u.1 8).toInt ≤ (u2.1 8).toInt := hq.2.2.2.1
  have : (-1) ≤ (u2.1 7).toInt ∧ (u2.1 7).toInt ≤ 120 := hs_u2.1.1 7
  have : ((u2.1 7).toInt = -1 → (u2.1 8).toInt = (u.1 8).toInt) := hq.2.2.2.2
  clear hq
  have : (u2.1 2).toInt = (u.1 2).toInt := congrArg Int32.toInt (hc_u2.2.1 2 (by decide))
  have : (u2.1 4).toInt = (u.1 4).toInt := congrArg Int32.toInt (hc_u2.2.1 4 (by decide))
  exact tLX12_sum_0_5 hrc u 5000 r1 u2 hs_u2 (by omega) (by omega) (by omega) (by omega) (by omega) (by show 120 - (u2.1 6).toInt < ((5000 : Nat) : Int); omega)

set_option maxHeartbeats 400000 in
set_option maxRecDepth 10000 in
theorem tGX12_term_0_87 {rc : Nat → Int32 → SX → Option (Int32 × SX)} {dd : Nat} (hrc : RCrX12sumg rc dd) (u0 : SX) (g5 : Int) {k5 : Int32 → SX → Option (Int32 × SX)} (hk5 : ∀ (z1 : Int32) (u : SX), (StM mdX12_term_0 u0 u) → (((u.1 2).toInt = 2 → (u.1 4).toInt = 0)) → ((u0.1 6).toInt ≤ (u.1 6).toInt) → ((u0.1 8).toInt ≤ (u.1 8).toInt) → (((u.1 7).toInt = -1 → (u.1 8).toInt = (u0.1 8).toInt)) → (3 * (6 - (u0.1 8).toInt) + 2 ≤ (dd : Int)) → (g5 < (u.1 6).toInt) → Tot (k5 z1 u) (qX12_term_0 u0)) (y0 : Int64) (u : SX) (hs_u : StM mdX12_term_0 u0 u) (h0 : ((u.1 2).toInt = 2 → (u.1 4).toInt = 0)) (h1 : (u0.1 6).toInt ≤ (u.1 6).toInt) (h2 : (u0.1 8).toInt ≤ (u.1 8).toInt) (h3 : ((u.1 7).toInt = -1 → (u.1 8).toInt = (u0.1 8).toInt)) (h4 : g5 < (u.1 6).toInt) (h5 : g5 ≤ (u.1 6).toInt) (h6 : 3 * (6 - (u0.1 8).toInt) + 2 ≤ (dd : Int)) : Tot (GX12_term_0_87 rc k5 y0 u) (qX12_term_0 u0) := by
  unfold GX12_term_0_87
  have : 2 ≤ (u.1 2).toInt ∧ (u.1 2).toInt ≤ 3 := hs_u.1.1 2
  have : 0 ≤ (u.1 4).toInt ∧ (u.1 4).toInt ≤ 4200 := hs_u.1.1 4
  have : 0 ≤ (u.1 6).toInt ∧ (u.1 6).toInt ≤ 120 := hs_u.1.1 6
  have : 0 ≤ (u.1 8).toInt ∧ (u.1 8).toInt ≤ 6 := hs_u.1.1 8
  have : (-1) ≤ (u.1 7).toInt ∧ (u.1 7).toInt ≤ 120 := hs_u.1.1 7
  refine Tot_bind (tfX12_within y0) (fun r18 hq => ?_)
  clear hq
  exact hk5 r18 u hs_u (by omega) (by omega) (by omega) (by omega) (by omega) (by omega)
set_option maxHeartbeats 400000 in
set_option maxRecDepth 10000 in
theorem tGX12_term_0_45 {rc : Nat → Int32 → SX → Option (Int32 × SX)} {dd : Nat} (hrc : RCrX12sumg rc dd) (u0 : SX) (g5 : Int) {k5 : Int32 → SX → Option (Int32 × SX)} (hk5 : ∀ (z1 : Int32) (u : SX), (StM mdX12_term_0 u0 u) → (((u.1 2).toInt = 2 → (u.1 4).toInt = 0)) → ((u0.1 6).toInt ≤ (u.1 6).toInt) → ((u0.1 8).toInt ≤ (u.1 8).toInt) → (((u.1 7).toInt = -1 → (u.1 8).toInt = (u0.1 8).toInt)) → (3 * (6 - (u0.1 8).toInt) + 2 ≤ (dd : Int)) → (g5 < (u.1 6).toInt) → Tot (k5 z1 u) (qX12_term_0 u0)) (z1 : Int32) (y0 : Int32) (u : SX) (hs_u : StM mdX12_term_0 u0 u) (h0 : 0 ≤ y0.toInt ∧ y0.toInt ≤ 1) (h1 : ((u.1 2).toInt = 2 → (u.1 4).toInt = 0)) (h2 : (u0.1 6).toInt ≤ (u.1 6).toInt) (h3 : (u0.1 8).toInt ≤ (u.1 8).toInt) (h4 : ((u.1 7).toInt = -1 → (u.1 8).toInt = (u0.1 8).toInt)) (h5 : (u.1 6).toInt < (u.1 5).toInt) (h6 : (u.1 7).toInt = -1) (h7 : g5 ≤ (u.1 6).toInt) (h8 : 3 * (6 - (u0.1 8).toInt) + 2 ≤ (dd : Int)) : Tot (GX12_term_0_45 rc k5 z1 y0 u) (qX12_term_0 u0) := by
  unfold GX12_term_0_45
  have : 2 ≤ (u.1 2).toInt ∧ (u.1 2).toInt ≤ 3 := hs_u.1.1 2
  have : 0 ≤ (u.1 4).toInt ∧ (u.1 4).toInt ≤ 4200 := hs_u.1.1 4
  have : 0 ≤ (u.1 6).toInt ∧ (u.1 6).toInt ≤ 120 := hs_u.1.1 6
  have : 0 ≤ (u.1 8).toInt ∧ (u.1 8).toInt ≤ 6 := hs_u.1.1 8
  have : (-1) ≤ (u.1 7).toInt ∧ (u.1 7).toInt ≤ 120 := hs_u.1.1 7
  have : 0 ≤ (u.1 5).toInt ∧ (u.1 5).toInt ≤ 120 := hs_u.1.1 5
  have : ((u.1 6) + 1).toInt = (u.1 6).toInt + (1 : Int) := addc_t (by decide) (by omega) (by omega)
  refine Tot_lt (fun u10 e_u10 => ?_)
  have hs_u10 : StM mdX12_term_0 u0 u10 := by rw [e_u10]; exact StM_sI hs_u (by decide) (by show 0 ≤ ((u.1 6) + 1).toInt; omega) (by show ((u.1 6) + 1).toInt ≤ 120; omega)
  have : (u10.1 2).toInt = (u.1 2).toInt := by rw [e_u10]; rfl
  have : (u10.1 4).toInt = (u.1 4).toInt := by rw [e_u10]; rfl
  have : (u10.1 8).toInt = (u.1 8).toInt := by rw [e_u10]; rfl
  refine Tot_bind (hrc.2.2 u10 hs_u10.1 (by omega) (by show 3 * (6 - (u10.1 8).toInt) + 1 < (dd : Int); omega)) (fun q hq => ?_)
  obtain ⟨r12, u13⟩ := q
  have hc_u13 : StM mdX12_atom_0 u10 u13 := hq.1
  have hs_u13 : StM mdX12_term_0 u0 u13 := StM_tr hs_u10 hc_u13 (by decide)
  have : (u10.1 6).toInt = ((u.1 6) + 1).toInt := by rw [e_u10]; rfl
  have : 0 ≤ (u13.1 6).toInt ∧ (u13.1 6).toInt ≤ 120 := hs_u13.1.1 6
  have : (u10.1 6).toInt ≤ (u13.1 6).toInt := hq.2.2.1
  have : 0 ≤ (u13.1 8).toInt ∧ (u13.1 8).toInt ≤ 6 := hs_u13.1.1 8
  have : (u10.1 8).toInt ≤ (u13.1 8).toInt := hq.2.2.2.1
  have : (-1) ≤ (u13.1 7).toInt ∧ (u13.1 7).toInt ≤ 120 := hs_u13.1.1 7
  have : ((u13.1 7).toInt = -1 → (u13.1 8).toInt = (u10.1 8).toInt) := hq.2.2.2.2
  clear hq
  refine Tot_lt (fun v15 e_v15 => ?_)
  refine Tot_ite (fun c54 => ?_) (fun c54 => ?_)
  · have : y0.toInt = (0 : Int) := eqI c54
    refine Tot_ite (fun c55 => ?_) (fun c55 => ?_)
    · have : (u13.1 2).toInt = (u10.1 2).toInt := congrArg Int32.toInt (hc_u13.2.1 2 (by decide))
      have : (u13.1 4).toInt = (u10.1 4).toInt := congrArg Int32.toInt (hc_u13.2.1 4 (by decide))
      exact tGX12_term_0_87 hrc u0 g5 hk5 0 u13 hs_u13 (by omega) (by omega) (by omega) (by omega) (by omega) (by omega) (by omega)
    · have hz_v15 := nzL_cmp c55
      refine Tot_gd (hz_v15) ?_
      have : (u13.1 2).toInt = (u10.1 2).toInt := congrArg Int32.toInt (hc_u13.2.1 2 (by decide))
      have : (u13.1 4).toInt = (u10.1 4).toInt := congrArg Int32.toInt (hc_u13.2.1 4 (by decide))
      exact tGX12_term_0_87 hrc u0 g5 hk5 (z1.toInt64 / v15) u13 hs_u13 (by omega) (by omega) (by omega) (by omega) (by omega) (by omega) (by omega)
  · have : ¬ y0.toInt = (0 : Int) := neI c54
    have : (u13.1 2).toInt = (u10.1 2).toInt := congrArg Int32.toInt (hc_u13.2.1 2 (by decide))
    have : (u13.1 4).toInt = (u10.1 4).toInt := congrArg Int32.toInt (hc_u13.2.1 4 (by decide))
    exact tGX12_term_0_87 hrc u0 g5 hk5 (z1.toInt64 * v15) u13 hs_u13 (by omega) (by omega) (by omega) (by omega) (by omega) (by omega) (by omega)
set_option maxHeartbeats 400000 in
set_option maxRecDepth 10000 in
theorem tGX12_term_0_31 {rc : Nat → Int32 → SX → Option (Int32 × SX)} {dd : Nat} (hrc : RCrX12sumg rc dd) (u0 : SX) (g5 : Int) {k5 : Int32 → SX → Option (Int32 × SX)} (hk5 : ∀ (z1 : Int32) (u : SX), (StM mdX12_term_0 u0 u) → (((u.1 2).toInt = 2 → (u.1 4).toInt = 0)) → ((u0.1 6).toInt ≤ (u.1 6).toInt) → ((u0.1 8).toInt ≤ (u.1 8).toInt) → (((u.1 7).toInt = -1 → (u.1 8).toInt = (u0.1 8).toInt)) → (3 * (6 - (u0.1 8).toInt) + 2 ≤ (dd : Int)) → (g5 < (u.1 6).toInt) → Tot (k5 z1 u) (qX12_term_0 u0)) (z1 : Int32) (u : SX) (hs_u : StM mdX12_term_0 u0 u) (h0 : ∃ rr : Int32, (rr.toInt = 42 ∨ rr.toInt = 47) ∧ fX12_look_0 u = some (rr, u)) (h1 : ((u.1 2).toInt = 2 → (u.1 4).toInt = 0)) (h2 : (u0.1 6).toInt ≤ (u.1 6).toInt) (h3 : (u0.1 8).toInt ≤ (u.1 8).toInt) (h4 : ((u.1 7).toInt = -1 → (u.1 8).toInt = (u0.1 8).toInt)) (h5 : (u.1 7).toInt = -1) (h6 : g5 ≤ (u.1 6).toInt) (h7 : 3 * (6 - (u0.1 8).toInt) + 2 ≤ (dd : Int)) : Tot (GX12_term_0_31 rc k5 z1 u) (qX12_term_0 u0) := by
  unfold GX12_term_0_31
  have : 2 ≤ (u.1 2).toInt ∧ (u.1 2).toInt ≤ 3 := hs_u.1.1 2
  have : 0 ≤ (u.1 4).toInt ∧ (u.1 4).toInt ≤ 4200 := hs_u.1.1 4
  have : 0 ≤ (u.1 6).toInt ∧ (u.1 6).toInt ≤ 120 := hs_u.1.1 6
  have : 0 ≤ (u.1 8).toInt ∧ (u.1 8).toInt ≤ 6 := hs_u.1.1 8
  have : (-1) ≤ (u.1 7).toInt ∧ (u.1 7).toInt ≤ 120 := hs_u.1.1 7
  refine Tot_bindE (tfX12_look_0 u hs_u.1 (by omega)) (fun q hE hq => ?_)
  obtain ⟨r7, u8⟩ := q
  have hE_u8 := hE
  have hc_u8 : StM mdX12_look_0 u u8 := hq.1
  have hs_u8 : StM mdX12_term_0 u0 u8 := StM_tr hs_u hc_u8 (by decide)
  have : (-1) ≤ r7.toInt ∧ r7.toInt ≤ 255 := hq.2.1
  have : 0 ≤ (u8.1 6).toInt ∧ (u8.1 6).toInt ≤ 120 := hs_u8.1.1 6
  have : (u8.1 5).toInt = (u.1 5).toInt := congrArg Int32.toInt (hc_u8.2.1 5 (by decide))
  have : 0 ≤ (u.1 5).toInt ∧ (u.1 5).toInt ≤ 120 := hs_u.1.1 5
  have : r7.toInt ≠ (-1) → ((u8.1 6).toInt < (u8.1 5).toInt) := hq.2.2.1
  have : (u.1 6).toInt ≤ (u8.1 6).toInt := hq.2.2.2
  clear hq
  obtain ⟨rr, hrr, hee⟩ : ∃ rr : Int32, (rr.toInt = 42 ∨ rr.toInt = 47) ∧ fX12_look_0 u = some (rr, u) := by assumption
  have : r7.toInt = 42 ∨ r7.toInt = 47 := by rw [show r7 = rr from congrArg Prod.fst (Option.some.inj (hE.symm.trans hee))]; exact hrr
  refine Tot_ite (fun c56 => ?_) (fun c56 => ?_)
  · have : r7.toInt = (42 : Int) := eqI c56
    have : (u8.1 2).toInt = (u.1 2).toInt := congrArg Int32.toInt (hc_u8.2.1 2 (by decide))
    have : (u8.1 4).toInt = (u.1 4).toInt := congrArg Int32.toInt (hc_u8.2.1 4 (by decide))
    have : (u8.1 8).toInt = (u.1 8).toInt := congrArg Int32.toInt (hc_u8.2.1 8 (by decide))
    have : (u8.1 7).toInt = (u.1 7).toInt := congrArg Int32.toInt (hc_u8.2.1 7 (by decide))
    exact tGX12_term_0_45 hrc u0 g5 hk5 z1 1 u8 hs_u8 (by show 0 ≤ (1 : Int) ∧ (1 : Int) ≤ 1; omega) (by omega) (by omega) (by omega) (by omega) (by omega) (by omega) (by omega) (by omega)
  · have : ¬ r7.toInt = (42 : Int) := neI c56
    have : (u8.1 2).toInt = (u.1 2).toInt := congrArg Int32.toInt (hc_u8.2.1 2 (by decide))
    have : (u8.1 4).toInt = (u.1 4).toInt := congrArg Int32.toInt (hc_u8.2.1 4 (by decide))
    have : (u8.1 8).toInt = (u.1 8).toInt := congrArg Int32.toInt (hc_u8.2.1 8 (by decide))
    have : (u8.1 7).toInt = (u.1 7).toInt := congrArg Int32.toInt (hc_u8.2.1 7 (by decide))
    exact tGX12_term_0_45 hrc u0 g5 hk5 z1 0 u8 hs_u8 (by show 0 ≤ (0 : Int) ∧ (0 : Int) ≤ 1; omega) (by omega) (by omega) (by omega) (by omega) (by omega) (by omega) (by omega) (by omega)
set_option maxHeartbeats 400000 in
set_option maxRecDepth 10000 in
theorem tLX12_term_0_5 {rc : Nat → Int32 → SX → Option (Int32 × SX)} {dd : Nat} (hrc : RCrX12sumg rc dd) (u0 : SX)    : ∀ (n : Nat) (z1 : Int32) (u : SX), (StM mdX12_term_0 u0 u) → (((u.1 2).toInt = 2 → (u.1 4).toInt = 0)) → ((u0.1 6).toInt ≤ (u.1 6).toInt) → ((u0.1 8).toInt ≤ (u.1 8).toInt) → (((u.1 7).toInt = -1 → (u.1 8).toInt = (u0.1 8).toInt)) → (3 * (6 - (u0.1 8).toInt) + 2 ≤ (dd : Int)) → (120 - (u.1 6).toInt < (n : Int)) → Tot (LX12_term_0_5 rc n z1 u) (qX12_term_0 u0) := by
  intro n
  induction n with
  | zero =>
    intro z1 u hs_u h0 h1 h2 h3 h4 hm
    have : 0 ≤ (u.1 6).toInt ∧ (u.1 6).toInt ≤ 120 := hs_u.1.1 6
    exfalso
    omega
  | succ n ih =>
    intro z1 u hs_u h0 h1 h2 h3 h4 hm
    rw [LX12_term_0_5]
    have : 0 ≤ (u.1 6).toInt ∧ (u.1 6).toInt ≤ 120 := hs_u.1.1 6
    have : 2 ≤ (u.1 2).toInt ∧ (u.1 2).toInt ≤ 3 := hs_u.1.1 2
    have : 0 ≤ (u.1 4).toInt ∧ (u.1 4).toInt ≤ 4200 := hs_u.1.1 4
    have : 0 ≤ (u.1 8).toInt ∧ (u.1 8).toInt ≤ 6 := hs_u.1.1 8
    have : (-1) ≤ (u.1 7).toInt ∧ (u.1 7).toInt ≤ 120 := hs_u.1.1 7
    refine Tot_ite (fun c57 => ?_) (fun c57 => ?_)
    · have : (u.1 7).toInt = (-1 : Int) := eqI c57
      refine Tot_bindE (tfX12_look_0 u hs_u.1 (by omega)) (fun q hE hq => ?_)
      obtain ⟨r4, u5⟩ := q
      have hE_u5 := hE
      have hc_u5 : StM mdX12_look_0 u u5 := hq.1
      have hs_u5 : StM mdX12_term_0 u0 u5 := StM_tr hs_u hc_u5 (by decide)
      have : (-1) ≤ r4.toInt ∧ r4.toInt ≤ 255 := hq.2.1
      have : 0 ≤ (u5.1 6).toInt ∧ (u5.1 6).toInt ≤ 120 := hs_u5.1.1 6
      have : (u5.1 5).toInt = (u.1 5).toInt := congrArg Int32.toInt (hc_u5.2.1 5 (by decide))
      have : 0 ≤ (u.1 5).toInt ∧ (u.1 5).toInt ≤ 120 := hs_u.1.1 5
      have : r4.toInt ≠ (-1) → ((u5.1 6).toInt < (u5.1 5).toInt) := hq.2.2.1
      have : (u.1 6).toInt ≤ (u5.1 6).toInt := hq.2.2.2
      clear hq
      refine Tot_ite (fun c58 => ?_) (fun c58 => ?_)
      · have : r4.toInt = (42 : Int) := eqI c58
        have : (u5.1 2).toInt = (u.1 2).toInt := congrArg Int32.toInt (hc_u5.2.1 2 (by decide))
        have : (u5.1 4).toInt = (u.1 4).toInt := congrArg Int32.toInt (hc_u5.2.1 4 (by decide))
        have : (u5.1 8).toInt = (u.1 8).toInt := congrArg Int32.toInt (hc_u5.2.1 8 (by decide))
        have : (u5.1 7).toInt = (u.1 7).toInt := congrArg Int32.toInt (hc_u5.2.1 7 (by decide))
        exact tGX12_term_0_31 hrc u0 ((u.1 6).toInt) (fun a59 w60 hw60 p61 p62 p63 p64 p65 p66 => ih a59 w60 hw60 p61 p62 p63 p64 p65 (by omega)) z1 u5 hs_u5 ⟨r4, by omega, look_idem hE_u5 (by omega)⟩ (by omega) (by omega) (by omega) (by omega) (by omega) (by omega) (by omega)
      · have : ¬ r4.toInt = (42 : Int) := neI c58
        have : (u5.1 2).toInt = (u.1 2).toInt := congrArg Int32.toInt (hc_u5.2.1 2 (by decide))
        have : (u5.1 4).toInt = (u.1 4).toInt := congrArg Int32.toInt (hc_u5.2.1 4 (by decide))
        refine Tot_bindE (tfX12_look_0 u5 hs_u5.1 (by omega)) (fun q hE hq => ?_)
        obtain ⟨r21, u22⟩ := q
        have hE_u22 := hE
        have hc_u22 : StM mdX12_look_0 u5 u22 := hq.1
        have hs_u22 : StM mdX12_term_0 u0 u22 := StM_tr hs_u5 hc_u22 (by decide)
        have : (-1) ≤ r21.toInt ∧ r21.toInt ≤ 255 := hq.2.1
        have : 0 ≤ (u22.1 6).toInt ∧ (u22.1 6).toInt ≤ 120 := hs_u22.1.1 6
        have : (u22.1 5).toInt = (u5.1 5).toInt := congrArg Int32.toInt (hc_u22.2.1 5 (by decide))
        have : r21.toInt ≠ (-1) → ((u22.1 6).toInt < (u22.1 5).toInt) := hq.2.2.1
        have : (u5.1 6).toInt ≤ (u22.1 6).toInt := hq.2.2.2
        clear hq
        refine Tot_ite (fun c67 => ?_) (fun c67 => ?_)
        · have : r21.toInt = (47 : Int) := eqI c67
          have : (u22.1 2).toInt = (u5.1 2).toInt := congrArg Int32.toInt (hc_u22.2.1 2 (by decide))
          have : (u22.1 4).toInt = (u5.1 4).toInt := congrArg Int32.toInt (hc_u22.2.1 4 (by decide))
          have : (u22.1 8).toInt = (u5.1 8).toInt := congrArg Int32.toInt (hc_u22.2.1 8 (by decide))
          have : (u5.1 8).toInt = (u.1 8).toInt := congrArg Int32.toInt (hc_u5.2.1 8 (by decide))
          have : (u22.1 7).toInt = (u5.1 7).toInt := congrArg Int32.toInt (hc_u22.2.1 7 (by decide))
          have : (u5.1 7).toInt = (u.1 7).toInt := congrArg Int32.toInt (hc_u5.2.1 7 (by decide))
          exact tGX12_term_0_31 hrc u0 ((u.1 6).toInt) (fun a68 w69 hw69 p70 p71 p72 p73 p74 p75 => ih a68 w69 hw69 p70 p71 p72 p73 p74 (by omega)) z1 u22 hs_u22 ⟨r21, by omega, look_idem hE_u22 (by omega)⟩ (by omega) (by omega) (by omega) (by omega) (by omega) (by omega) (by omega)
        · have : ¬ r21.toInt = (47 : Int) := neI c67
          have : (u22.1 8).toInt = (u5.1 8).toInt := congrArg Int32.toInt (hc_u22.2.1 8 (by decide))
          have : (u5.1 8).toInt = (u.1 8).toInt := congrArg Int32.toInt (hc_u5.2.1 8 (by decide))
          have : (u22.1 7).toInt = (u5.1 7).toInt := congrArg Int32.toInt (hc_u22.2.1 7 (by decide))
          have : (u5.1 7).toInt = (u.1 7).toInt := congrArg Int32.toInt (hc_u5.2.1 7 (by decide))
          exact Tot_some ⟨hs_u22, trivial, ⟨(by show (u0.1 6).toInt ≤ (u22.1 6).toInt; omega), (by show (u0.1 8).toInt ≤ (u22.1 8).toInt; omega), (by show ((u22.1 7).toInt = -1 → (u22.1 8).toInt = (u0.1 8).toInt); omega)⟩⟩
    · have : ¬ (u.1 7).toInt = (-1 : Int) := neI c57
      exact Tot_some ⟨hs_u, trivial, ⟨(by show (u0.1 6).toInt ≤ (u.1 6).toInt; omega), (by show (u0.1 8).toInt ≤ (u.1 8).toInt; omega), (by show ((u.1 7).toInt = -1 → (u.1 8).toInt = (u0.1 8).toInt); omega)⟩⟩
set_option maxHeartbeats 400000 in
set_option maxRecDepth 10000 in
theorem tfX12_term_0 {rc : Nat → Int32 → SX → Option (Int32 × SX)} {dd : Nat} (hrc : RCrX12sumg rc dd)  (u : SX) (hI : IM u) (h0 : ((u.1 2).toInt = 2 → (u.1 4).toInt = 0)) (h1 : 3 * (6 - (u.1 8).toInt) + 2 ≤ (dd : Int)) : Tot (fX12_term_0 rc  u) (qX12_term_0 u) := by
  unfold fX12_term_0
  have hs_u : StM mdX12_term_0 u u := StM_rf hI
  have : 2 ≤ (u.1 2).toInt ∧ (u.1 2).toInt ≤ 3 := hs_u.1.1 2
  have : 0 ≤ (u.1 4).toInt ∧ (u.1 4).toInt ≤ 4200 := hs_u.1.1 4
  have : 0 ≤ (u.1 8).toInt ∧ (u.1 8).toInt ≤ 6 := hs_u.1.1 8
  refine Tot_bind (hrc.2.2 u hs_u.1 (by omega) (by show 3 * (6 - (u.1 8).toInt) + 1 < (dd : Int); omega)) (fun q hq => ?_)
  obtain ⟨r1, u2⟩ := q
  have hc_u2 : StM mdX12_atom_0 u u2 := hq.1
  have hs_u2 : StM mdX12_term_0 u u2 := StM_tr hs_u hc_u2 (by decide)
  have : 0 ≤ (u.1 6).toInt ∧ (u.1 6).toInt ≤ 120 := hs_u.1.1 6
  have : 0 ≤ (u2.1 6).toInt ∧ (u2.1 6).toInt ≤ 120 := hs_u2.1.1 6
  have : (u.1 6).toInt ≤ (u2.1 6).toInt := hq.2.2.1
  have : 0 ≤ (u2.1 8).toInt ∧ (u2.1 8).toInt ≤ 6 := hs_u2.1.1 8
  have : (u.1 8).toInt ≤ (u2.1 8).toInt := hq.2.2.2.1
  have : (-1) ≤ (u2.1 7).toInt ∧ (u2.1 7).toInt ≤ 120 := hs_u2.1.1 7
  have : ((u2.1 7).toInt = -1 → (u2.1 8).toInt = (u.1 8).toInt) := hq.2.2.2.2
  clear hq
  have : (u2.1 2).toInt = (u.1 2).toInt := congrArg Int32.toInt (hc_u2.2.1 2 (by decide))
  have : (u2.1 4).toInt = (u.1 4).toInt := congrArg Int32.toInt (hc_u2.2.1 4 (by decide))
  exact tLX12_term_0_5 hrc u 5000 r1 u2 hs_u2 (by omega) (by omega) (by omega) (by omega) (by omega) (by show 120 - (u2.1 6).toInt < ((5000 : Nat) : Int); omega)

set_option maxHeartbeats 400000 in
set_option maxRecDepth 10000 in
theorem tLX12_atom_0_97 {rc : Nat → Int32 → SX → Option (Int32 × SX)} {dd : Nat} (hrc : RCrX12sumg rc dd) (u0 : SX)  {k117 : SX → Option (Int32 × SX)} (hk117 : ∀  (u : SX), (StM mdX12_atom_0 u0 u) → (((u.1 2).toInt = 2 → (u.1 4).toInt = 0)) → ((u0.1 6).toInt ≤ (u.1 6).toInt) → ((u.1 8).toInt = (u0.1 8).toInt) → (3 * (6 - (u0.1 8).toInt) + 1 ≤ (dd : Int)) → Tot (k117  u) (qX12_atom_0 u0)) : ∀ (n : Nat) (z2 : Int32) (z3 : Int32) (u : SX), (StM mdX12_atom_0 u0 u) → (0 ≤ z3.toInt ∧ z3.toInt ≤ 4) → (((u.1 2).toInt = 2 → (u.1 4).toInt = 0)) → ((u0.1 6).toInt ≤ (u.1 6).toInt) → ((u.1 8).toInt = (u0.1 8).toInt) → (3 * (6 - (u0.1 8).toInt) + 1 ≤ (dd : Int)) → (4 - z3.toInt < (n : Int)) → Tot (LX12_atom_0_97 rc k117 n z2 z3 u) (qX12_atom_0 u0) := by
  intro n
  induction n with
  | zero =>
    intro z2 z3 u hs_u h0 h1 h2 h3 h4 hm
    exfalso
    omega
  | succ n ih =>
    intro z2 z3 u hs_u h0 h1 h2 h3 h4 hm
    rw [LX12_atom_0_97]
    have : 2 ≤ (u.1 2).toInt ∧ (u.1 2).toInt ≤ 3 := hs_u.1.1 2
    have : 0 ≤ (u.1 4).toInt ∧ (u.1 4).toInt ≤ 4200 := hs_u.1.1 4
    have : 0 ≤ (u.1 6).toInt ∧ (u.1 6).toInt ≤ 120 := hs_u.1.1 6
    have : 0 ≤ (u.1 8).toInt ∧ (u.1 8).toInt ≤ 6 := hs_u.1.1 8
    refine Tot_bind (tfX12_isDigit_0 u hs_u.1 (by omega)) (fun q hq => ?_)
    obtain ⟨r7, u8⟩ := q
    have hc_u8 : StM mdX12_isDigit_0 u u8 := hq.1
    have hs_u8 : StM mdX12_atom_0 u0 u8 := StM_tr hs_u hc_u8 (by decide)
    have : 0 ≤ r7.toInt ∧ r7.toInt ≤ 1 := hq.2.1
    have : 0 ≤ (u.1 5).toInt ∧ (u.1 5).toInt ≤ 120 := hs_u.1.1 5
    have : r7.toInt ≠ 0 → ((u.1 6).toInt < (u.1 5).toInt) := hq.2.2
    clear hq
    refine Tot_ite (fun c76 => ?_) (fun c76 => ?_)
    · have : r7.toInt = (0 : Int) := eqI c76
      have : (u8.1 6).toInt = (u.1 6).toInt := congrArg Int32.toInt (hc_u8.2.1 6 (by decide))
      have : (u8.1 8).toInt = (u.1 8).toInt := congrArg Int32.toInt (hc_u8.2.1 8 (by decide))
      have : (u8.1 7).toInt = (u.1 7).toInt := congrArg Int32.toInt (hc_u8.2.1 7 (by decide))
      have : (-1) ≤ (u.1 7).toInt ∧ (u.1 7).toInt ≤ 120 := hs_u.1.1 7
      exact Tot_some ⟨hs_u8, trivial, ⟨(by show (u0.1 6).toInt ≤ (u8.1 6).toInt; omega), (by show (u0.1 8).toInt ≤ (u8.1 8).toInt; omega), (by show ((u8.1 7).toInt = -1 → (u8.1 8).toInt = (u0.1 8).toInt); omega)⟩⟩
    · have : ¬ r7.toInt = (0 : Int) := neI c76
      have : (u8.1 7).toInt = (u.1 7).toInt := congrArg Int32.toInt (hc_u8.2.1 7 (by decide))
      have : (-1) ≤ (u.1 7).toInt ∧ (u.1 7).toInt ≤ 120 := hs_u.1.1 7
      refine Tot_ite (fun c77 => ?_) (fun c77 => ?_)
      · have : (u8.1 7).toInt = (-1 : Int) := eqI c77
        refine Tot_ite (fun c78 => ?_) (fun c78 => ?_)
        · have : z3.toInt = (4 : Int) := eqI c78
          have : (u8.1 2).toInt = (u.1 2).toInt := congrArg Int32.toInt (hc_u8.2.1 2 (by decide))
          have : (u8.1 4).toInt = (u.1 4).toInt := congrArg Int32.toInt (hc_u8.2.1 4 (by decide))
          have : (u8.1 6).toInt = (u.1 6).toInt := congrArg Int32.toInt (hc_u8.2.1 6 (by decide))
          have : (u8.1 8).toInt = (u.1 8).toInt := congrArg Int32.toInt (hc_u8.2.1 8 (by decide))
          exact hk117 u8 hs_u8 (by omega) (by omega) (by omega) (by omega)
        · have : ¬ z3.toInt = (4 : Int) := neI c78
          have : (u8.1 2).toInt = (u.1 2).toInt := congrArg Int32.toInt (hc_u8.2.1 2 (by decide))
          refine Tot_ite (fun c79 => ?_) (fun c79 => ?_)
          · have : (u8.1 2).toInt = (2 : Int) := eqI c79
            have : (u8.1 4).toInt = (u.1 4).toInt := congrArg Int32.toInt (hc_u8.2.1 4 (by decide))
            have : (u8.1 6).toInt = (u.1 6).toInt := congrArg Int32.toInt (hc_u8.2.1 6 (by decide))
            have : ((u8.1 4) + (u8.1 6)).toInt = (u8.1 4).toInt + (u8.1 6).toInt := add_t (by omega) (by omega)
            refine Tot_gd (inb_t (by omega) (by omega)) ?_
            have : (-128) ≤ (u8.2.1 1 (((u8.1 4) + (u8.1 6))).toNatClampNeg).toInt ∧ (u8.2.1 1 (((u8.1 4) + (u8.1 6))).toNatClampNeg).toInt ≤ 127 := hs_u8.1.2.1 1 (((u8.1 4) + (u8.1 6))).toNatClampNeg
            refine Tot_lt (fun v11 e_v11 => ?_)
            have : ((u8.1 6) + 1).toInt = (u8.1 6).toInt + (1 : Int) := addc_t (by decide) (by omega) (by omega)
            refine Tot_lt (fun u13 e_u13 => ?_)
            have hs_u13 : StM mdX12_atom_0 u0 u13 := by rw [e_u13]; exact StM_sI hs_u8 (by decide) (by show 0 ≤ ((u8.1 6) + 1).toInt; omega) (by show ((u8.1 6) + 1).toInt ≤ 120; omega)
            have : (z3 + 1).toInt = z3.toInt + (1 : Int) := addc_t (by decide) (by omega) (by omega)
            have : (u13.1 2).toInt = (u8.1 2).toInt := by rw [e_u13]; rfl
            have : (u13.1 4).toInt = (u8.1 4).toInt := by rw [e_u13]; rfl
            have : (u13.1 6).toInt = ((u8.1 6) + 1).toInt := by rw [e_u13]; rfl
            have : (u13.1 8).toInt = (u8.1 8).toInt := by rw [e_u13]; rfl
            have : (u8.1 8).toInt = (u.1 8).toInt := congrArg Int32.toInt (hc_u8.2.1 8 (by decide))
            exact ih v11 (z3 + 1) u13 hs_u13 ⟨by omega, by omega⟩ (by omega) (by omega) (by omega) (by omega) (by omega)
          · have : ¬ (u8.1 2).toInt = (2 : Int) := neI c79
            refine Tot_ite (fun c80 => ?_) (fun c80 => ?_)
            · have : (u8.1 2).toInt = (3 : Int) := eqI c80
              have : (u8.1 4).toInt = (u.1 4).toInt := congrArg Int32.toInt (hc_u8.2.1 4 (by decide))
              have : (u8.1 6).toInt = (u.1 6).toInt := congrArg Int32.toInt (hc_u8.2.1 6 (by decide))
              have : ((u8.1 4) + (u8.1 6)).toInt = (u8.1 4).toInt + (u8.1 6).toInt := add_t (by omega) (by omega)
              refine Tot_gd (inb_t (by omega) (by omega)) ?_
              have : (-128) ≤ (u8.2.1 2 (((u8.1 4) + (u8.1 6))).toNatClampNeg).toInt ∧ (u8.2.1 2 (((u8.1 4) + (u8.1 6))).toNatClampNeg).toInt ≤ 127 := hs_u8.1.2.1 2 (((u8.1 4) + (u8.1 6))).toNatClampNeg
              refine Tot_lt (fun v16 e_v16 => ?_)
              have : ((u8.1 6) + 1).toInt = (u8.1 6).toInt + (1 : Int) := addc_t (by decide) (by omega) (by omega)
              refine Tot_lt (fun u18 e_u18 => ?_)
              have hs_u18 : StM mdX12_atom_0 u0 u18 := by rw [e_u18]; exact StM_sI hs_u8 (by decide) (by show 0 ≤ ((u8.1 6) + 1).toInt; omega) (by show ((u8.1 6) + 1).toInt ≤ 120; omega)
              have : (z3 + 1).toInt = z3.toInt + (1 : Int) := addc_t (by decide) (by omega) (by omega)
              have : (u18.1 2).toInt = (u8.1 2).toInt := by rw [e_u18]; rfl
              have : (u18.1 4).toInt = (u8.1 4).toInt := by rw [e_u18]; rfl
              have : (u18.1 6).toInt = ((u8.1 6) + 1).toInt := by rw [e_u18]; rfl
              have : (u18.1 8).toInt = (u8.1 8).toInt := by rw [e_u18]; rfl
              have : (u8.1 8).toInt = (u.1 8).toInt := congrArg Int32.toInt (hc_u8.2.1 8 (by decide))
              exact ih v16 (z3 + 1) u18 hs_u18 ⟨by omega, by omega⟩ (by omega) (by omega) (by omega) (by omega) (by omega)
            · have : ¬ (u8.1 2).toInt = (3 : Int) := neI c80
              exfalso
              omega
      · have : ¬ (u8.1 7).toInt = (-1 : Int) := neI c77
        have : (u8.1 6).toInt = (u.1 6).toInt := congrArg Int32.toInt (hc_u8.2.1 6 (by decide))
        have : (u8.1 8).toInt = (u.1 8).toInt := congrArg Int32.toInt (hc_u8.2.1 8 (by decide))
        exact Tot_some ⟨hs_u8, trivial, ⟨(by show (u0.1 6).toInt ≤ (u8.1 6).toInt; omega), (by show (u0.1 8).toInt ≤ (u8.1 8).toInt; omega), (by show ((u8.1 7).toInt = -1 → (u8.1 8).toInt = (u0.1 8).toInt); omega)⟩⟩
set_option maxHeartbeats 400000 in
set_option maxRecDepth 10000 in
theorem tGX12_atom_0_117 {rc : Nat → Int32 → SX → Option (Int32 × SX)} {dd : Nat} (hrc : RCrX12sumg rc dd) (u0 : SX)     (u : SX) (hs_u : StM mdX12_atom_0 u0 u) (h0 : ((u.1 2).toInt = 2 → (u.1 4).toInt = 0)) (h1 : (u0.1 6).toInt ≤ (u.1 6).toInt) (h2 : (u.1 8).toInt = (u0.1 8).toInt) (h3 : 3 * (6 - (u0.1 8).toInt) + 1 ≤ (dd : Int)) : Tot (GX12_atom_0_117 rc  u) (qX12_atom_0 u0) := by
  unfold GX12_atom_0_117
  have : 2 ≤ (u.1 2).toInt ∧ (u.1 2).toInt ≤ 3 := hs_u.1.1 2
  have : 0 ≤ (u.1 4).toInt ∧ (u.1 4).toInt ≤ 4200 := hs_u.1.1 4
  have : 0 ≤ (u.1 6).toInt ∧ (u.1 6).toInt ≤ 120 := hs_u.1.1 6
  have : 0 ≤ (u.1 8).toInt ∧ (u.1 8).toInt ≤ 6 := hs_u.1.1 8
  refine Tot_bind (tfX12_fails_0 u hs_u.1) (fun q hq => ?_)
  obtain ⟨r20, u21⟩ := q
  have hc_u21 : StM mdX12_fails_0 u u21 := hq.1
  have hs_u21 : StM mdX12_atom_0 u0 u21 := StM_tr hs_u hc_u21 (by decide)
  have : 0 ≤ r20.toInt ∧ r20.toInt ≤ 0 := hq.2.1
  have : (u21.1 6).toInt = (u.1 6).toInt := congrArg Int32.toInt (hc_u21.2.1 6 (by decide))
  have : (u.1 6).toInt ≤ (u21.1 6).toInt := hq.2.2.1
  have : (-1) ≤ (u21.1 7).toInt ∧ (u21.1 7).toInt ≤ 120 := hs_u21.1.1 7
  have : (u21.1 7).toInt ≠ -1 := hq.2.2.2
  clear hq
  have : (u21.1 8).toInt = (u.1 8).toInt := congrArg Int32.toInt (hc_u21.2.1 8 (by decide))
  exact Tot_some ⟨hs_u21, trivial, ⟨(by show (u0.1 6).toInt ≤ (u21.1 6).toInt; omega), (by show (u0.1 8).toInt ≤ (u21.1 8).toInt; omega), (by show ((u21.1 7).toInt = -1 → (u21.1 8).toInt = (u0.1 8).toInt); omega)⟩⟩
set_option maxHeartbeats 400000 in
set_option maxRecDepth 10000 in
theorem tGX12_atom_0_93 {rc : Nat → Int32 → SX → Option (Int32 × SX)} {dd : Nat} (hrc : RCrX12sumg rc dd) (u0 : SX)     (u : SX) (hs_u : StM mdX12_atom_0 u0 u) (h0 : ((u.1 2).toInt = 2 → (u.1 4).toInt = 0)) (h1 : (u0.1 6).toInt ≤ (u.1 6).toInt) (h2 : (u.1 8).toInt = (u0.1 8).toInt) (h3 : 3 * (6 - (u0.1 8).toInt) + 1 ≤ (dd : Int)) : Tot (GX12_atom_0_93 rc  u) (qX12_atom_0 u0) := by
  unfold GX12_atom_0_93
  have : 2 ≤ (u.1 2).toInt ∧ (u.1 2).toInt ≤ 3 := hs_u.1.1 2
  have : 0 ≤ (u.1 4).toInt ∧ (u.1 4).toInt ≤ 4200 := hs_u.1.1 4
  have : 0 ≤ (u.1 6).toInt ∧ (u.1 6).toInt ≤ 120 := hs_u.1.1 6
  have : 0 ≤ (u.1 8).toInt ∧ (u.1 8).toInt ≤ 6 := hs_u.1.1 8
  exact tLX12_atom_0_97 hrc u0 (tGX12_atom_0_117 hrc u0) 5000 0 0 u hs_u (by show 0 ≤ (0 : Int) ∧ (0 : Int) ≤ 4; omega) (by omega) (by omega) (by omega) (by omega) (by show 4 - (0 : Int) < ((5000 : Nat) : Int); omega)
set_option maxHeartbeats 400000 in
set_option maxRecDepth 10000 in
theorem tGX12_atom_0_38 {rc : Nat → Int32 → SX → Option (Int32 × SX)} {dd : Nat} (hrc : RCrX12sumg rc dd) (u0 : SX)    (z1 : Int32) (u : SX) (hs_u : StM mdX12_atom_0 u0 u) (h0 : (-1) ≤ z1.toInt ∧ z1.toInt ≤ 255) (h1 : ((u.1 2).toInt = 2 → (u.1 4).toInt = 0)) (h2 : (u0.1 6).toInt ≤ (u.1 6).toInt) (h3 : (u.1 8).toInt = (u0.1 8).toInt) (h4 : z1.toInt ≠ (-1) → ((u.1 6).toInt < (u.1 5).toInt)) (h5 : 3 * (6 - (u0.1 8).toInt) + 1 ≤ (dd : Int)) : Tot (GX12_atom_0_38 rc z1 u) (qX12_atom_0 u0) := by
  unfold GX12_atom_0_38
  have : 2 ≤ (u.1 2).toInt ∧ (u.1 2).toInt ≤ 3 := hs_u.1.1 2
  have : 0 ≤ (u.1 4).toInt ∧ (u.1 4).toInt ≤ 4200 := hs_u.1.1 4
  have : 0 ≤ (u.1 6).toInt ∧ (u.1 6).toInt ≤ 120 := hs_u.1.1 6
  have : 0 ≤ (u.1 8).toInt ∧ (u.1 8).toInt ≤ 6 := hs_u.1.1 8
  have : 0 ≤ (u.1 5).toInt ∧ (u.1 5).toInt ≤ 120 := hs_u.1.1 5
  refine Tot_ite (fun c81 => ?_) (fun c81 => ?_)
  · have : z1.toInt = (91 : Int) := eqI c81
    refine Tot_bind (tfX12_goesIn_0 u hs_u.1 (by omega)) (fun q hq => ?_)
    obtain ⟨r26, u27⟩ := q
    have hc_u27 : StM mdX12_goesIn_0 u u27 := hq.1
    have hs_u27 : StM mdX12_atom_0 u0 u27 := StM_tr hs_u hc_u27 (by decide)
    have : 0 ≤ r26.toInt ∧ r26.toInt ≤ 1 := hq.2.1
    have : 0 ≤ (u27.1 6).toInt ∧ (u27.1 6).toInt ≤ 120 := hs_u27.1.1 6
    have : (u.1 6).toInt ≤ (u27.1 6).toInt := hq.2.2.1
    have : (-1) ≤ (u27.1 7).toInt ∧ (u27.1 7).toInt ≤ 120 := hs_u27.1.1 7
    have : 0 ≤ (u27.1 8).toInt ∧ (u27.1 8).toInt ≤ 6 := hs_u27.1.1 8
    have : (-1) ≤ (u.1 7).toInt ∧ (u.1 7).toInt ≤ 120 := hs_u.1.1 7
    have : ((r26.toInt = 0 ∧ (u27.1 7).toInt ≠ -1 ∧ (u27.1 8).toInt = (u.1 8).toInt) ∨ (r26.toInt ≠ 0 ∧ (u27.1 7).toInt = (u.1 7).toInt ∧ (u27.1 8).toInt = (u.1 8).toInt + 1)) := hq.2.2.2
    clear hq
    refine Tot_ite (fun c82 => ?_) (fun c82 => ?_)
    · have : r26.toInt = (0 : Int) := eqI c82
      exact Tot_some ⟨hs_u27, trivial, ⟨(by show (u0.1 6).toInt ≤ (u27.1 6).toInt; omega), (by show (u0.1 8).toInt ≤ (u27.1 8).toInt; omega), (by show ((u27.1 7).toInt = -1 → (u27.1 8).toInt = (u0.1 8).toInt); omega)⟩⟩
    · have : ¬ r26.toInt = (0 : Int) := neI c82
      have : (u27.1 2).toInt = (u.1 2).toInt := congrArg Int32.toInt (hc_u27.2.1 2 (by decide))
      have : (u27.1 4).toInt = (u.1 4).toInt := congrArg Int32.toInt (hc_u27.2.1 4 (by decide))
      refine Tot_bind (hrc.1 u27 hs_u27.1 (by omega) (by show 3 * (6 - (u27.1 8).toInt) + 3 < (dd : Int); omega)) (fun q hq => ?_)
      obtain ⟨r29, u30⟩ := q
      have hc_u30 : StM mdX12_sum_0 u27 u30 := hq.1
      have hs_u30 : StM mdX12_atom_0 u0 u30 := StM_tr hs_u27 hc_u30 (by decide)
      have : 0 ≤ (u30.1 6).toInt ∧ (u30.1 6).toInt ≤ 120 := hs_u30.1.1 6
      have : (u27.1 6).toInt ≤ (u30.1 6).toInt := hq.2.2.1
      have : 0 ≤ (u30.1 8).toInt ∧ (u30.1 8).toInt ≤ 6 := hs_u30.1.1 8
      have : (u27.1 8).toInt ≤ (u30.1 8).toInt := hq.2.2.2.1
      have : (-1) ≤ (u30.1 7).toInt ∧ (u30.1 7).toInt ≤ 120 := hs_u30.1.1 7
      have : ((u30.1 7).toInt = -1 → (u30.1 8).toInt = (u27.1 8).toInt) := hq.2.2.2.2
      clear hq
      have : (u30.1 2).toInt = (u27.1 2).toInt := congrArg Int32.toInt (hc_u30.2.1 2 (by decide))
      have : (u30.1 4).toInt = (u27.1 4).toInt := congrArg Int32.toInt (hc_u30.2.1 4 (by decide))
      refine Tot_bind (tfX12_takes_0 93 u30 hs_u30.1 (by show 41 ≤ (93 : Int) ∧ (93 : Int) ≤ 93; omega) (by omega)) (fun q hq => ?_)
      obtain ⟨r32, u33⟩ := q
      have hc_u33 : StM mdX12_takes_0 u30 u33 := hq.1
      have hs_u33 : StM mdX12_atom_0 u0 u33 := StM_tr hs_u30 hc_u33 (by decide)
      have : 0 ≤ r32.toInt ∧ r32.toInt ≤ 1 := hq.2.1
      have : 0 ≤ (u33.1 6).toInt ∧ (u33.1 6).toInt ≤ 120 := hs_u33.1.1 6
      have : (u30.1 6).toInt ≤ (u33.1 6).toInt := hq.2.2.1
      have : (-1) ≤ (u33.1 7).toInt ∧ (u33.1 7).toInt ≤ 120 := hs_u33.1.1 7
      have : ((r32.toInt = 0 ∧ (u33.1 7).toInt ≠ -1) ∨ (r32.toInt ≠ 0 ∧ (u33.1 7).toInt = -1 ∧ (u30.1 7).toInt = -1)) := hq.2.2.2
      clear hq
      refine Tot_ite (fun c83 => ?_) (fun c83 => ?_)
      · have : r32.toInt = (0 : Int) := eqI c83
        have : (u33.1 8).toInt = (u30.1 8).toInt := congrArg Int32.toInt (hc_u33.2.1 8 (by decide))
        exact Tot_some ⟨hs_u33, trivial, ⟨(by show (u0.1 6).toInt ≤ (u33.1 6).toInt; omega), (by show (u0.1 8).toInt ≤ (u33.1 8).toInt; omega), (by show ((u33.1 7).toInt = -1 → (u33.1 8).toInt = (u0.1 8).toInt); omega)⟩⟩
      · have : ¬ r32.toInt = (0 : Int) := neI c83
        have : (u33.1 8).toInt = (u30.1 8).toInt := congrArg Int32.toInt (hc_u33.2.1 8 (by decide))
        have : ((u33.1 8) - 1).toInt = (u33.1 8).toInt - (1 : Int) := subc_t (by decide) (by omega) (by omega)
        refine Tot_lt (fun u35 e_u35 => ?_)
        have hs_u35 : StM mdX12_atom_0 u0 u35 := by rw [e_u35]; exact StM_sI hs_u33 (by decide) (by show 0 ≤ ((u33.1 8) - 1).toInt; omega) (by show ((u33.1 8) - 1).toInt ≤ 6; omega)
        have : (u35.1 6).toInt = (u33.1 6).toInt := by rw [e_u35]; rfl
        have : (u35.1 8).toInt = ((u33.1 8) - 1).toInt := by rw [e_u35]; rfl
        have : (u35.1 7).toInt = (u33.1 7).toInt := by rw [e_u35]; rfl
        exact Tot_some ⟨hs_u35, trivial, ⟨(by show (u0.1 6).toInt ≤ (u35.1 6).toInt; omega), (by show (u0.1 8).toInt ≤ (u35.1 8).toInt; omega), (by show ((u35.1 7).toInt = -1 → (u35.1 8).toInt = (u0.1 8).toInt); omega)⟩⟩
  · have : ¬ z1.toInt = (91 : Int) := neI c81
    refine Tot_bind (tfX12_isDigit_0 u hs_u.1 (by omega)) (fun q hq => ?_)
    obtain ⟨r4, u5⟩ := q
    have hc_u5 : StM mdX12_isDigit_0 u u5 := hq.1
    have hs_u5 : StM mdX12_atom_0 u0 u5 := StM_tr hs_u hc_u5 (by decide)
    have : 0 ≤ r4.toInt ∧ r4.toInt ≤ 1 := hq.2.1
    have : r4.toInt ≠ 0 → ((u.1 6).toInt < (u.1 5).toInt) := hq.2.2
    clear hq
    refine Tot_ite (fun c84 => ?_) (fun c84 => ?_)
    · have : r4.toInt = (0 : Int) := eqI c84
      refine Tot_bind (tfX12_fails_0 u5 hs_u5.1) (fun q hq => ?_)
      obtain ⟨r23, u24⟩ := q
      have hc_u24 : StM mdX12_fails_0 u5 u24 := hq.1
      have hs_u24 : StM mdX12_atom_0 u0 u24 := StM_tr hs_u5 hc_u24 (by decide)
      have : 0 ≤ r23.toInt ∧ r23.toInt ≤ 0 := hq.2.1
      have : (u5.1 6).toInt = (u.1 6).toInt := congrArg Int32.toInt (hc_u5.2.1 6 (by decide))
      have : (u24.1 6).toInt = (u5.1 6).toInt := congrArg Int32.toInt (hc_u24.2.1 6 (by decide))
      have : (u5.1 6).toInt ≤ (u24.1 6).toInt := hq.2.2.1
      have : (-1) ≤ (u24.1 7).toInt ∧ (u24.1 7).toInt ≤ 120 := hs_u24.1.1 7
      have : (u24.1 7).toInt ≠ -1 := hq.2.2.2
      clear hq
      have : (u24.1 2).toInt = (u5.1 2).toInt := congrArg Int32.toInt (hc_u24.2.1 2 (by decide))
      have : (u5.1 2).toInt = (u.1 2).toInt := congrArg Int32.toInt (hc_u5.2.1 2 (by decide))
      have : (u24.1 4).toInt = (u5.1 4).toInt := congrArg Int32.toInt (hc_u24.2.1 4 (by decide))
      have : (u5.1 4).toInt = (u.1 4).toInt := congrArg Int32.toInt (hc_u5.2.1 4 (by decide))
      have : (u24.1 8).toInt = (u5.1 8).toInt := congrArg Int32.toInt (hc_u24.2.1 8 (by decide))
      have : (u5.1 8).toInt = (u.1 8).toInt := congrArg Int32.toInt (hc_u5.2.1 8 (by decide))
      exact tGX12_atom_0_93 hrc u0 u24 hs_u24 (by omega) (by omega) (by omega) (by omega)
    · have : ¬ r4.toInt = (0 : Int) := neI c84
      have : (u5.1 2).toInt = (u.1 2).toInt := congrArg Int32.toInt (hc_u5.2.1 2 (by decide))
      have : (u5.1 4).toInt = (u.1 4).toInt := congrArg Int32.toInt (hc_u5.2.1 4 (by decide))
      have : (u5.1 6).toInt = (u.1 6).toInt := congrArg Int32.toInt (hc_u5.2.1 6 (by decide))
      have : (u5.1 8).toInt = (u.1 8).toInt := congrArg Int32.toInt (hc_u5.2.1 8 (by decide))
      exact tGX12_atom_0_93 hrc u0 u5 hs_u5 (by omega) (by omega) (by omega) (by omega)
set_option maxHeartbeats 400000 in
set_option maxRecDepth 10000 in
theorem tfX12_atom_0 {rc : Nat → Int32 → SX → Option (Int32 × SX)} {dd : Nat} (hrc : RCrX12sumg rc dd)  (u : SX) (hI : IM u) (h0 : ((u.1 2).toInt = 2 → (u.1 4).toInt = 0)) (h1 : 3 * (6 - (u.1 8).toInt) + 1 ≤ (dd : Int)) : Tot (fX12_atom_0 rc  u) (qX12_atom_0 u) := by
  unfold fX12_atom_0
  have hs_u : StM mdX12_atom_0 u u := StM_rf hI
  have : 2 ≤ (u.1 2).toInt ∧ (u.1 2).toInt ≤ 3 := hs_u.1.1 2
  have : 0 ≤ (u.1 4).toInt ∧ (u.1 4).toInt ≤ 4200 := hs_u.1.1 4
  refine Tot_bind (tfX12_look_0 u hs_u.1 (by omega)) (fun q hq => ?_)
  obtain ⟨r1, u2⟩ := q
  have hc_u2 : StM mdX12_look_0 u u2 := hq.1
  have hs_u2 : StM mdX12_atom_0 u u2 := StM_tr hs_u hc_u2 (by decide)
  have : (-1) ≤ r1.toInt ∧ r1.toInt ≤ 255 := hq.2.1
  have : 0 ≤ (u2.1 6).toInt ∧ (u2.1 6).toInt ≤ 120 := hs_u2.1.1 6
  have : (u2.1 5).toInt = (u.1 5).toInt := congrArg Int32.toInt (hc_u2.2.1 5 (by decide))
  have : 0 ≤ (u.1 5).toInt ∧ (u.1 5).toInt ≤ 120 := hs_u.1.1 5
  have : r1.toInt ≠ (-1) → ((u2.1 6).toInt < (u2.1 5).toInt) := hq.2.2.1
  have : 0 ≤ (u.1 6).toInt ∧ (u.1 6).toInt ≤ 120 := hs_u.1.1 6
  have : (u.1 6).toInt ≤ (u2.1 6).toInt := hq.2.2.2
  clear hq
  refine Tot_ite (fun c85 => ?_) (fun c85 => ?_)
  · have : r1.toInt = (-1 : Int) := eqI c85
    have : (u2.1 2).toInt = (u.1 2).toInt := congrArg Int32.toInt (hc_u2.2.1 2 (by decide))
    have : (u2.1 4).toInt = (u.1 4).toInt := congrArg Int32.toInt (hc_u2.2.1 4 (by decide))
    have : (u2.1 8).toInt = (u.1 8).toInt := congrArg Int32.toInt (hc_u2.2.1 8 (by decide))
    have : 0 ≤ (u.1 8).toInt ∧ (u.1 8).toInt ≤ 6 := hs_u.1.1 8
    exact tGX12_atom_0_38 hrc u r1 u2 hs_u2 ⟨by omega, by omega⟩ (by omega) (by omega) (by omega) (by omega) (by omega)
  · have : ¬ r1.toInt = (-1 : Int) := neI c85
    have : (u2.1 10).toInt = (u.1 10).toInt := congrArg Int32.toInt (hc_u2.2.1 10 (by decide))
    have : 5 ≤ (u.1 10).toInt ∧ (u.1 10).toInt ≤ 7 := hs_u.1.1 10
    refine Tot_ite (fun c86 => ?_) (fun c86 => ?_)
    · have : (u2.1 10).toInt = (5 : Int) := eqI c86
      refine Tot_bind (tfJ0_indexOf_0f7a4_s4 r1 ⟨by omega, by omega⟩) (fun r37 hq => ?_)
      have : (-1) ≤ r37.toInt ∧ r37.toInt ≤ 5 := hq.1
      have : r37.toInt ≠ (-1) → (r1.toInt ≤ (121 : Int)) := hq.2
      clear hq
      refine Tot_ite (fun c87 => ?_) (fun c87 => ?_)
      · have : r37.toInt < (0 : Int) := ltI c87
        have : (u2.1 2).toInt = (u.1 2).toInt := congrArg Int32.toInt (hc_u2.2.1 2 (by decide))
        have : (u2.1 4).toInt = (u.1 4).toInt := congrArg Int32.toInt (hc_u2.2.1 4 (by decide))
        have : (u2.1 8).toInt = (u.1 8).toInt := congrArg Int32.toInt (hc_u2.2.1 8 (by decide))
        have : 0 ≤ (u.1 8).toInt ∧ (u.1 8).toInt ≤ 6 := hs_u.1.1 8
        exact tGX12_atom_0_38 hrc u r1 u2 hs_u2 ⟨by omega, by omega⟩ (by omega) (by omega) (by omega) (by omega) (by omega)
      · have : ¬ r37.toInt < (0 : Int) := nltI c87
        have : ((u2.1 6) + 1).toInt = (u2.1 6).toInt + (1 : Int) := addc_t (by decide) (by omega) (by omega)
        refine Tot_lt (fun u40 e_u40 => ?_)
        have hs_u40 : StM mdX12_atom_0 u u40 := by rw [e_u40]; exact StM_sI hs_u2 (by decide) (by show 0 ≤ ((u2.1 6) + 1).toInt; omega) (by show ((u2.1 6) + 1).toInt ≤ 120; omega)
        refine Tot_gd (inb_t (by omega) (by omega)) ?_
        have : (u40.1 6).toInt = ((u2.1 6) + 1).toInt := by rw [e_u40]; rfl
        have : 0 ≤ (u.1 8).toInt ∧ (u.1 8).toInt ≤ 6 := hs_u.1.1 8
        have : (u40.1 8).toInt = (u2.1 8).toInt := by rw [e_u40]; rfl
        have : (u2.1 8).toInt = (u.1 8).toInt := congrArg Int32.toInt (hc_u2.2.1 8 (by decide))
        have : (u40.1 7).toInt = (u2.1 7).toInt := by rw [e_u40]; rfl
        have : (u2.1 7).toInt = (u.1 7).toInt := congrArg Int32.toInt (hc_u2.2.1 7 (by decide))
        have : (-1) ≤ (u.1 7).toInt ∧ (u.1 7).toInt ≤ 120 := hs_u.1.1 7
        exact Tot_some ⟨hs_u40, trivial, ⟨(by show (u.1 6).toInt ≤ (u40.1 6).toInt; omega), (by show (u.1 8).toInt ≤ (u40.1 8).toInt; omega), (by show ((u40.1 7).toInt = -1 → (u40.1 8).toInt = (u.1 8).toInt); omega)⟩⟩
    · have : ¬ (u2.1 10).toInt = (5 : Int) := neI c86
      refine Tot_ite (fun c88 => ?_) (fun c88 => ?_)
      · have : (u2.1 10).toInt = (6 : Int) := eqI c88
        refine Tot_bind (tfJ0_indexOf_0f7a4_s5 r1 ⟨by omega, by omega⟩) (fun r43 hq => ?_)
        have : (-1) ≤ r43.toInt ∧ r43.toInt ≤ 5 := hq.1
        have : r43.toInt ≠ (-1) → (r1.toInt ≤ (121 : Int)) := hq.2
        clear hq
        refine Tot_ite (fun c89 => ?_) (fun c89 => ?_)
        · have : r43.toInt < (0 : Int) := ltI c89
          have : (u2.1 2).toInt = (u.1 2).toInt := congrArg Int32.toInt (hc_u2.2.1 2 (by decide))
          have : (u2.1 4).toInt = (u.1 4).toInt := congrArg Int32.toInt (hc_u2.2.1 4 (by decide))
          have : (u2.1 8).toInt = (u.1 8).toInt := congrArg Int32.toInt (hc_u2.2.1 8 (by decide))
          have : 0 ≤ (u.1 8).toInt ∧ (u.1 8).toInt ≤ 6 := hs_u.1.1 8
          exact tGX12_atom_0_38 hrc u r1 u2 hs_u2 ⟨by omega, by omega⟩ (by omega) (by omega) (by omega) (by omega) (by omega)
        · have : ¬ r43.toInt < (0 : Int) := nltI c89
          have : ((u2.1 6) + 1).toInt = (u2.1 6).toInt + (1 : Int) := addc_t (by decide) (by omega) (by omega)
          refine Tot_lt (fun u46 e_u46 => ?_)
          have hs_u46 : StM mdX12_atom_0 u u46 := by rw [e_u46]; exact StM_sI hs_u2 (by decide) (by show 0 ≤ ((u2.1 6) + 1).toInt; omega) (by show ((u2.1 6) + 1).toInt ≤ 120; omega)
          refine Tot_gd (inb_t (by omega) (by omega)) ?_
          have : (u46.1 6).toInt = ((u2.1 6) + 1).toInt := by rw [e_u46]; rfl
          have : 0 ≤ (u.1 8).toInt ∧ (u.1 8).toInt ≤ 6 := hs_u.1.1 8
          have : (u46.1 8).toInt = (u2.1 8).toInt := by rw [e_u46]; rfl
          have : (u2.1 8).toInt = (u.1 8).toInt := congrArg Int32.toInt (hc_u2.2.1 8 (by decide))
          have : (u46.1 7).toInt = (u2.1 7).toInt := by rw [e_u46]; rfl
          have : (u2.1 7).toInt = (u.1 7).toInt := congrArg Int32.toInt (hc_u2.2.1 7 (by decide))
          have : (-1) ≤ (u.1 7).toInt ∧ (u.1 7).toInt ≤ 120 := hs_u.1.1 7
          exact Tot_some ⟨hs_u46, trivial, ⟨(by show (u.1 6).toInt ≤ (u46.1 6).toInt; omega), (by show (u.1 8).toInt ≤ (u46.1 8).toInt; omega), (by show ((u46.1 7).toInt = -1 → (u46.1 8).toInt = (u.1 8).toInt); omega)⟩⟩
      · have : ¬ (u2.1 10).toInt = (6 : Int) := neI c88
        refine Tot_ite (fun c90 => ?_) (fun c90 => ?_)
        · have : (u2.1 10).toInt = (7 : Int) := eqI c90
          refine Tot_bind (tfJ0_indexOf_0f7a4_s6 r1 ⟨by omega, by omega⟩) (fun r49 hq => ?_)
          have : (-1) ≤ r49.toInt ∧ r49.toInt ≤ 5 := hq.1
          have : r49.toInt ≠ (-1) → (r1.toInt ≤ (121 : Int)) := hq.2
          clear hq
          refine Tot_ite (fun c91 => ?_) (fun c91 => ?_)
          · have : r49.toInt < (0 : Int) := ltI c91
            have : (u2.1 2).toInt = (u.1 2).toInt := congrArg Int32.toInt (hc_u2.2.1 2 (by decide))
            have : (u2.1 4).toInt = (u.1 4).toInt := congrArg Int32.toInt (hc_u2.2.1 4 (by decide))
            have : (u2.1 8).toInt = (u.1 8).toInt := congrArg Int32.toInt (hc_u2.2.1 8 (by decide))
            have : 0 ≤ (u.1 8).toInt ∧ (u.1 8).toInt ≤ 6 := hs_u.1.1 8
            exact tGX12_atom_0_38 hrc u r1 u2 hs_u2 ⟨by omega, by omega⟩ (by omega) (by omega) (by omega) (by omega) (by omega)
          · have : ¬ r49.toInt < (0 : Int) := nltI c91
            have : ((u2.1 6) + 1).toInt = (u2.1 6).toInt + (1 : Int) := addc_t (by decide) (by omega) (by omega)
            refine Tot_lt (fun u52 e_u52 => ?_)
            have hs_u52 : StM mdX12_atom_0 u u52 := by rw [e_u52]; exact StM_sI hs_u2 (by decide) (by show 0 ≤ ((u2.1 6) + 1).toInt; omega) (by show ((u2.1 6) + 1).toInt ≤ 120; omega)
            refine Tot_gd (inb_t (by omega) (by omega)) ?_
            have : (u52.1 6).toInt = ((u2.1 6) + 1).toInt := by rw [e_u52]; rfl
            have : 0 ≤ (u.1 8).toInt ∧ (u.1 8).toInt ≤ 6 := hs_u.1.1 8
            have : (u52.1 8).toInt = (u2.1 8).toInt := by rw [e_u52]; rfl
            have : (u2.1 8).toInt = (u.1 8).toInt := congrArg Int32.toInt (hc_u2.2.1 8 (by decide))
            have : (u52.1 7).toInt = (u2.1 7).toInt := by rw [e_u52]; rfl
            have : (u2.1 7).toInt = (u.1 7).toInt := congrArg Int32.toInt (hc_u2.2.1 7 (by decide))
            have : (-1) ≤ (u.1 7).toInt ∧ (u.1 7).toInt ≤ 120 := hs_u.1.1 7
            exact Tot_some ⟨hs_u52, trivial, ⟨(by show (u.1 6).toInt ≤ (u52.1 6).toInt; omega), (by show (u.1 8).toInt ≤ (u52.1 8).toInt; omega), (by show ((u52.1 7).toInt = -1 → (u52.1 8).toInt = (u.1 8).toInt); omega)⟩⟩
        · have : ¬ (u2.1 10).toInt = (7 : Int) := neI c90
          exfalso
          omega

theorem RCrX12sumg_all : ∀ d, RCrX12sumg (rX12sumg d) d := by
  intro d
  induction d with
  | zero =>
    refine ⟨?_, ?_, ?_⟩
    · intro  u hI h0 hn
      have : 0 ≤ (u.1 8).toInt ∧ (u.1 8).toInt ≤ 6 := hI.1 8
      exfalso
      omega
    · intro  u hI h0 hn
      have : 0 ≤ (u.1 8).toInt ∧ (u.1 8).toInt ≤ 6 := hI.1 8
      exfalso
      omega
    · intro  u hI h0 hn
      have : 0 ≤ (u.1 8).toInt ∧ (u.1 8).toInt ≤ 6 := hI.1 8
      exfalso
      omega
  | succ d ih =>
    refine ⟨?_, ?_, ?_⟩
    · intro  u hI h0 hn
      rw [rX12sumg]
      rw [if_pos rfl]
      exact tfX12_sum_0 ih  u hI h0 (by omega)
    · intro  u hI h0 hn
      rw [rX12sumg]
      rw [if_neg (by decide)]; rw [if_pos rfl]
      exact tfX12_term_0 ih  u hI h0 (by omega)
    · intro  u hI h0 hn
      rw [rX12sumg]
      rw [if_neg (by decide)]; rw [if_neg (by decide)]; rw [if_pos rfl]
      exact tfX12_atom_0 ih  u hI h0 (by omega)

def mdX12_compares_0 : MD := ([6, 7, 8], [], [], [])
abbrev qX12_compares_0 (u : SX) (q : Int32 × SX) : Prop := StM mdX12_compares_0 u q.2 ∧ (0 ≤ q.1.toInt ∧ q.1.toInt ≤ 1) ∧ (((u.1 6).toInt ≤ (q.2.1 6).toInt) ∧ ((u.1 8).toInt ≤ (q.2.1 8).toInt) ∧ (((q.2.1 7).toInt = -1 → (q.2.1 8).toInt = (u.1 8).toInt)))
set_option maxHeartbeats 400000 in
set_option maxRecDepth 10000 in
theorem tGX12_compares_0_12 (u0 : SX)    (y0 : Int32) (u : SX) (hs_u : StM mdX12_compares_0 u0 u) (h0 : ((u.1 2).toInt = 2 → (u.1 4).toInt = 0)) (h1 : (u0.1 6).toInt ≤ (u.1 6).toInt) (h2 : (u0.1 8).toInt ≤ (u.1 8).toInt) (h3 : ((u.1 7).toInt = -1 → (u.1 8).toInt = (u0.1 8).toInt)) : Tot (GX12_compares_0_12 y0 u) (qX12_compares_0 u0) := by
  unfold GX12_compares_0_12
  have : 2 ≤ (u.1 2).toInt ∧ (u.1 2).toInt ≤ 3 := hs_u.1.1 2
  have : 0 ≤ (u.1 4).toInt ∧ (u.1 4).toInt ≤ 4200 := hs_u.1.1 4
  have : 0 ≤ (u.1 6).toInt ∧ (u.1 6).toInt ≤ 120 := hs_u.1.1 6
  have : 0 ≤ (u.1 8).toInt ∧ (u.1 8).toInt ≤ 6 := hs_u.1.1 8
  have : (-1) ≤ (u.1 7).toInt ∧ (u.1 7).toInt ≤ 120 := hs_u.1.1 7
  refine Tot_ite (fun c92 => ?_) (fun c92 => ?_)
  · have : (u.1 7).toInt = (-1 : Int) := eqI c92
    refine Tot_bind (tfX12_look_0 u hs_u.1 (by omega)) (fun q hq => ?_)
    obtain ⟨r4, u5⟩ := q
    have hc_u5 : StM mdX12_look_0 u u5 := hq.1
    have hs_u5 : StM mdX12_compares_0 u0 u5 := StM_tr hs_u hc_u5 (by decide)
    have : (-1) ≤ r4.toInt ∧ r4.toInt ≤ 255 := hq.2.1
    have : 0 ≤ (u5.1 6).toInt ∧ (u5.1 6).toInt ≤ 120 := hs_u5.1.1 6
    have : (u5.1 5).toInt = (u.1 5).toInt := congrArg Int32.toInt (hc_u5.2.1 5 (by decide))
    have : 0 ≤ (u.1 5).toInt ∧ (u.1 5).toInt ≤ 120 := hs_u.1.1 5
    have : r4.toInt ≠ (-1) → ((u5.1 6).toInt < (u5.1 5).toInt) := hq.2.2.1
    have : (u.1 6).toInt ≤ (u5.1 6).toInt := hq.2.2.2
    clear hq
    refine Tot_bind (tfX12_isSign r4 ⟨by omega, by omega⟩) (fun r7 hq => ?_)
    have : 0 ≤ r7.toInt ∧ r7.toInt ≤ 1 := hq.1
    have : r7.toInt ≠ 0 → ((60 : Int) ≤ r4.toInt ∧ r4.toInt ≤ (62 : Int)) := hq.2
    clear hq
    refine Tot_ite (fun c93 => ?_) (fun c93 => ?_)
    · have : r7.toInt = (0 : Int) := eqI c93
      refine Tot_bind (tfX12_fails_0 u5 hs_u5.1) (fun q hq => ?_)
      obtain ⟨r21, u22⟩ := q
      have hc_u22 : StM mdX12_fails_0 u5 u22 := hq.1
      have hs_u22 : StM mdX12_compares_0 u0 u22 := StM_tr hs_u5 hc_u22 (by decide)
      have : 0 ≤ r21.toInt ∧ r21.toInt ≤ 0 := hq.2.1
      have : (u22.1 6).toInt = (u5.1 6).toInt := congrArg Int32.toInt (hc_u22.2.1 6 (by decide))
      have : (u5.1 6).toInt ≤ (u22.1 6).toInt := hq.2.2.1
      have : (-1) ≤ (u22.1 7).toInt ∧ (u22.1 7).toInt ≤ 120 := hs_u22.1.1 7
      have : (u22.1 7).toInt ≠ -1 := hq.2.2.2
      clear hq
      refine Tot_gd (isB_t (by omega) (by omega)) ?_
      have : (u22.1 8).toInt = (u5.1 8).toInt := congrArg Int32.toInt (hc_u22.2.1 8 (by decide))
      have : (u5.1 8).toInt = (u.1 8).toInt := congrArg Int32.toInt (hc_u5.2.1 8 (by decide))
      exact Tot_some ⟨hs_u22, (by show 0 ≤ r21.toInt ∧ r21.toInt ≤ 1; omega), ⟨(by show (u0.1 6).toInt ≤ (u22.1 6).toInt; omega), (by show (u0.1 8).toInt ≤ (u22.1 8).toInt; omega), (by show ((u22.1 7).toInt = -1 → (u22.1 8).toInt = (u0.1 8).toInt); omega)⟩⟩
    · have : ¬ r7.toInt = (0 : Int) := neI c93
      have : ((u5.1 6) + 1).toInt = (u5.1 6).toInt + (1 : Int) := addc_t (by decide) (by omega) (by omega)
      refine Tot_lt (fun u10 e_u10 => ?_)
      have hs_u10 : StM mdX12_compares_0 u0 u10 := by rw [e_u10]; exact StM_sI hs_u5 (by decide) (by show 0 ≤ ((u5.1 6) + 1).toInt; omega) (by show ((u5.1 6) + 1).toInt ≤ 120; omega)
      have : (u10.1 2).toInt = (u5.1 2).toInt := by rw [e_u10]; rfl
      have : (u5.1 2).toInt = (u.1 2).toInt := congrArg Int32.toInt (hc_u5.2.1 2 (by decide))
      have : (u10.1 4).toInt = (u5.1 4).toInt := by rw [e_u10]; rfl
      have : (u5.1 4).toInt = (u.1 4).toInt := congrArg Int32.toInt (hc_u5.2.1 4 (by decide))
      have : (u10.1 8).toInt = (u5.1 8).toInt := by rw [e_u10]; rfl
      have : (u5.1 8).toInt = (u.1 8).toInt := congrArg Int32.toInt (hc_u5.2.1 8 (by decide))
      refine Tot_bind ((RCrX12sumg_all 64).1 u10 hs_u10.1 (by omega) (by show 3 * (6 - (u10.1 8).toInt) + 3 < ((64 : Nat) : Int); omega)) (fun q hq => ?_)
      obtain ⟨r12, u13⟩ := q
      have hc_u13 : StM mdX12_sum_0 u10 u13 := hq.1
      have hs_u13 : StM mdX12_compares_0 u0 u13 := StM_tr hs_u10 hc_u13 (by decide)
      have : (u10.1 6).toInt = ((u5.1 6) + 1).toInt := by rw [e_u10]; rfl
      have : 0 ≤ (u13.1 6).toInt ∧ (u13.1 6).toInt ≤ 120 := hs_u13.1.1 6
      have : (u10.1 6).toInt ≤ (u13.1 6).toInt := hq.2.2.1
      have : 0 ≤ (u13.1 8).toInt ∧ (u13.1 8).toInt ≤ 6 := hs_u13.1.1 8
      have : (u10.1 8).toInt ≤ (u13.1 8).toInt := hq.2.2.2.1
      have : (-1) ≤ (u13.1 7).toInt ∧ (u13.1 7).toInt ≤ 120 := hs_u13.1.1 7
      have : ((u13.1 7).toInt = -1 → (u13.1 8).toInt = (u10.1 8).toInt) := hq.2.2.2.2
      clear hq
      refine Tot_ite (fun c94 => ?_) (fun c94 => ?_)
      · have : r4.toInt = (61 : Int) := eqI c94
        refine Tot_ite (fun c95 => ?_) (fun c95 => ?_)
        · have : y0.toInt = r12.toInt := eqI c95
          refine Tot_gd (by decide) ?_
          exact Tot_some ⟨hs_u13, (by show 0 ≤ (1 : Int) ∧ (1 : Int) ≤ 1; omega), ⟨(by show (u0.1 6).toInt ≤ (u13.1 6).toInt; omega), (by show (u0.1 8).toInt ≤ (u13.1 8).toInt; omega), (by show ((u13.1 7).toInt = -1 → (u13.1 8).toInt = (u0.1 8).toInt); omega)⟩⟩
        · refine Tot_gd (by decide) ?_
          exact Tot_some ⟨hs_u13, (by show 0 ≤ (0 : Int) ∧ (0 : Int) ≤ 1; omega), ⟨(by show (u0.1 6).toInt ≤ (u13.1 6).toInt; omega), (by show (u0.1 8).toInt ≤ (u13.1 8).toInt; omega), (by show ((u13.1 7).toInt = -1 → (u13.1 8).toInt = (u0.1 8).toInt); omega)⟩⟩
      · refine Tot_ite (fun c96 => ?_) (fun c96 => ?_)
        · have : r4.toInt = (60 : Int) := eqI c96
          refine Tot_ite (fun c97 => ?_) (fun c97 => ?_)
          · have : r12.toInt ≤ y0.toInt := leI c97
            refine Tot_gd (by decide) ?_
            exact Tot_some ⟨hs_u13, (by show 0 ≤ (0 : Int) ∧ (0 : Int) ≤ 1; omega), ⟨(by show (u0.1 6).toInt ≤ (u13.1 6).toInt; omega), (by show (u0.1 8).toInt ≤ (u13.1 8).toInt; omega), (by show ((u13.1 7).toInt = -1 → (u13.1 8).toInt = (u0.1 8).toInt); omega)⟩⟩
          · have : ¬ r12.toInt ≤ y0.toInt := nleI c97
            refine Tot_gd (by decide) ?_
            exact Tot_some ⟨hs_u13, (by show 0 ≤ (1 : Int) ∧ (1 : Int) ≤ 1; omega), ⟨(by show (u0.1 6).toInt ≤ (u13.1 6).toInt; omega), (by show (u0.1 8).toInt ≤ (u13.1 8).toInt; omega), (by show ((u13.1 7).toInt = -1 → (u13.1 8).toInt = (u0.1 8).toInt); omega)⟩⟩
        · have : ¬ r4.toInt = (60 : Int) := neI c96
          refine Tot_ite (fun c98 => ?_) (fun c98 => ?_)
          · have : y0.toInt ≤ r12.toInt := leI c98
            refine Tot_gd (by decide) ?_
            exact Tot_some ⟨hs_u13, (by show 0 ≤ (0 : Int) ∧ (0 : Int) ≤ 1; omega), ⟨(by show (u0.1 6).toInt ≤ (u13.1 6).toInt; omega), (by show (u0.1 8).toInt ≤ (u13.1 8).toInt; omega), (by show ((u13.1 7).toInt = -1 → (u13.1 8).toInt = (u0.1 8).toInt); omega)⟩⟩
          · have : ¬ y0.toInt ≤ r12.toInt := nleI c98
            refine Tot_gd (by decide) ?_
            exact Tot_some ⟨hs_u13, (by show 0 ≤ (1 : Int) ∧ (1 : Int) ≤ 1; omega), ⟨(by show (u0.1 6).toInt ≤ (u13.1 6).toInt; omega), (by show (u0.1 8).toInt ≤ (u13.1 8).toInt; omega), (by show ((u13.1 7).toInt = -1 → (u13.1 8).toInt = (u0.1 8).toInt); omega)⟩⟩
  · have : ¬ (u.1 7).toInt = (-1 : Int) := neI c92
    refine Tot_gd (by decide) ?_
    exact Tot_some ⟨hs_u, (by show 0 ≤ (0 : Int) ∧ (0 : Int) ≤ 1; omega), ⟨(by show (u0.1 6).toInt ≤ (u.1 6).toInt; omega), (by show (u0.1 8).toInt ≤ (u.1 8).toInt; omega), (by show ((u.1 7).toInt = -1 → (u.1 8).toInt = (u0.1 8).toInt); omega)⟩⟩
set_option maxHeartbeats 400000 in
set_option maxRecDepth 10000 in
theorem tfX12_compares_0 (x1 : Int32) (x2 : Int32) (u : SX) (hI : IM u) (h0 : 0 ≤ x1.toInt ∧ x1.toInt ≤ 1) (h1 : ((u.1 2).toInt = 2 → (u.1 4).toInt = 0)) : Tot (fX12_compares_0 x1 x2 u) (qX12_compares_0 u) := by
  unfold fX12_compares_0
  have hs_u : StM mdX12_compares_0 u u := StM_rf hI
  have : 2 ≤ (u.1 2).toInt ∧ (u.1 2).toInt ≤ 3 := hs_u.1.1 2
  have : 0 ≤ (u.1 4).toInt ∧ (u.1 4).toInt ≤ 4200 := hs_u.1.1 4
  refine Tot_ite (fun c99 => ?_) (fun c99 => ?_)
  · have : x1.toInt = (0 : Int) := eqI c99
    have : 0 ≤ (u.1 8).toInt ∧ (u.1 8).toInt ≤ 6 := hs_u.1.1 8
    refine Tot_bind ((RCrX12sumg_all 64).1 u hs_u.1 (by omega) (by show 3 * (6 - (u.1 8).toInt) + 3 < ((64 : Nat) : Int); omega)) (fun q hq => ?_)
    obtain ⟨r1, u2⟩ := q
    have hc_u2 : StM mdX12_sum_0 u u2 := hq.1
    have hs_u2 : StM mdX12_compares_0 u u2 := StM_tr hs_u hc_u2 (by decide)
    have : 0 ≤ (u.1 6).toInt ∧ (u.1 6).toInt ≤ 120 := hs_u.1.1 6
    have : 0 ≤ (u2.1 6).toInt ∧ (u2.1 6).toInt ≤ 120 := hs_u2.1.1 6
    have : (u.1 6).toInt ≤ (u2.1 6).toInt := hq.2.2.1
    have : 0 ≤ (u2.1 8).toInt ∧ (u2.1 8).toInt ≤ 6 := hs_u2.1.1 8
    have : (u.1 8).toInt ≤ (u2.1 8).toInt := hq.2.2.2.1
    have : (-1) ≤ (u2.1 7).toInt ∧ (u2.1 7).toInt ≤ 120 := hs_u2.1.1 7
    have : ((u2.1 7).toInt = -1 → (u2.1 8).toInt = (u.1 8).toInt) := hq.2.2.2.2
    clear hq
    have : (u2.1 2).toInt = (u.1 2).toInt := congrArg Int32.toInt (hc_u2.2.1 2 (by decide))
    have : (u2.1 4).toInt = (u.1 4).toInt := congrArg Int32.toInt (hc_u2.2.1 4 (by decide))
    exact tGX12_compares_0_12 u r1 u2 hs_u2 (by omega) (by omega) (by omega) (by omega)
  · have : ¬ x1.toInt = (0 : Int) := neI c99
    have : 0 ≤ (u.1 6).toInt ∧ (u.1 6).toInt ≤ 120 := hs_u.1.1 6
    have : 0 ≤ (u.1 8).toInt ∧ (u.1 8).toInt ≤ 6 := hs_u.1.1 8
    have : (-1) ≤ (u.1 7).toInt ∧ (u.1 7).toInt ≤ 120 := hs_u.1.1 7
    exact tGX12_compares_0_12 u x2 u hs_u (by omega) (by omega) (by omega) (by omega)

def mdX12_condition_0 : MD := ([6, 7, 8], [], [], [])
abbrev qX12_condition_0 (u : SX) (q : Int32 × SX) : Prop := StM mdX12_condition_0 u q.2 ∧ (0 ≤ q.1.toInt ∧ q.1.toInt ≤ 1) ∧ (((u.1 6).toInt ≤ (q.2.1 6).toInt) ∧ ((u.1 8).toInt ≤ (q.2.1 8).toInt) ∧ (((q.2.1 7).toInt = -1 → (q.2.1 8).toInt = (u.1 8).toInt)))

def mdX12_part_0 : MD := ([6, 7, 8], [], [], [])
abbrev qX12_part_0 (u : SX) (q : Int32 × SX) : Prop := StM mdX12_part_0 u q.2 ∧ (0 ≤ q.1.toInt ∧ q.1.toInt ≤ 1) ∧ (((u.1 6).toInt ≤ (q.2.1 6).toInt) ∧ ((u.1 8).toInt ≤ (q.2.1 8).toInt) ∧ (((q.2.1 7).toInt = -1 → (q.2.1 8).toInt = (u.1 8).toInt)))

def mdX12_unit_0 : MD := ([6, 7, 8], [], [], [])
abbrev qX12_unit_0 (u : SX) (q : Int32 × SX) : Prop := StM mdX12_unit_0 u q.2 ∧ (0 ≤ q.1.toInt ∧ q.1.toInt ≤ 1) ∧ (((u.1 6).toInt ≤ (q.2.1 6).toInt) ∧ ((u.1 8).toInt ≤ (q.2.1 8).toInt) ∧ (((q.2.1 7).toInt = -1 → (q.2.1 8).toInt = (u.1 8).toInt)))

def RCrX12conditiong (rc : Nat → Int32 → Int32 → SX → Option (Int32 × SX)) (dd : Nat) : Prop := (∀ (x1 : Int32) (x2 : Int32) (u : SX), IM u → (0 ≤ x1.toInt ∧ x1.toInt ≤ 1) → (((u.1 2).toInt = 2 → (u.1 4).toInt = 0)) → (3 * (6 - (u.1 8).toInt) + 3 < (dd : Int)) → Tot (rc 0 x1 x2 u) (qX12_condition_0 u)) ∧ (∀ (x1 : Int32) (x2 : Int32) (u : SX), IM u → (0 ≤ x1.toInt ∧ x1.toInt ≤ 1) → (((u.1 2).toInt = 2 → (u.1 4).toInt = 0)) → (3 * (6 - (u.1 8).toInt) + 2 < (dd : Int)) → Tot (rc 1 x1 x2 u) (qX12_part_0 u)) ∧ (∀  (u : SX), IM u → (((u.1 2).toInt = 2 → (u.1 4).toInt = 0)) → (3 * (6 - (u.1 8).toInt) + 1 < (dd : Int)) → Tot (rc 2  0 0 u) (qX12_unit_0 u))

set_option maxHeartbeats 400000 in
set_option maxRecDepth 10000 in
theorem tGX12_condition_0_56 {rc : Nat → Int32 → Int32 → SX → Option (Int32 × SX)} {dd : Nat} (hrc : RCrX12conditiong rc dd) (u0 : SX) (g7 : Int) {k7 : Int32 → SX → Option (Int32 × SX)} (hk7 : ∀ (z3 : Int32) (u : SX), (StM mdX12_condition_0 u0 u) → (0 ≤ z3.toInt ∧ z3.toInt ≤ 1) → (((u.1 2).toInt = 2 → (u.1 4).toInt = 0)) → ((u0.1 6).toInt ≤ (u.1 6).toInt) → ((u0.1 8).toInt ≤ (u.1 8).toInt) → (((u.1 7).toInt = -1 → (u.1 8).toInt = (u0.1 8).toInt)) → (3 * (6 - (u0.1 8).toInt) + 3 ≤ (dd : Int)) → (g7 < (u.1 6).toInt) → Tot (k7 z3 u) (qX12_condition_0 u0)) (y0 : Int32) (u : SX) (hs_u : StM mdX12_condition_0 u0 u) (h0 : 0 ≤ y0.toInt ∧ y0.toInt ≤ 1) (h1 : ((u.1 2).toInt = 2 → (u.1 4).toInt = 0)) (h2 : (u0.1 6).toInt ≤ (u.1 6).toInt) (h3 : (u0.1 8).toInt ≤ (u.1 8).toInt) (h4 : ((u.1 7).toInt = -1 → (u.1 8).toInt = (u0.1 8).toInt)) (h5 : g7 < (u.1 6).toInt) (h6 : g7 ≤ (u.1 6).toInt) (h7 : 3 * (6 - (u0.1 8).toInt) + 3 ≤ (dd : Int)) : Tot (GX12_condition_0_56 rc k7 y0 u) (qX12_condition_0 u0) := by
  unfold GX12_condition_0_56
  have : 2 ≤ (u.1 2).toInt ∧ (u.1 2).toInt ≤ 3 := hs_u.1.1 2
  have : 0 ≤ (u.1 4).toInt ∧ (u.1 4).toInt ≤ 4200 := hs_u.1.1 4
  have : 0 ≤ (u.1 6).toInt ∧ (u.1 6).toInt ≤ 120 := hs_u.1.1 6
  have : 0 ≤ (u.1 8).toInt ∧ (u.1 8).toInt ≤ 6 := hs_u.1.1 8
  have : (-1) ≤ (u.1 7).toInt ∧ (u.1 7).toInt ≤ 120 := hs_u.1.1 7
  exact hk7 y0 u hs_u ⟨by omega, by omega⟩ (by omega) (by omega) (by omega) (by omega) (by omega) (by omega)
set_option maxHeartbeats 400000 in
set_option maxRecDepth 10000 in
theorem tGX12_condition_0_51 {rc : Nat → Int32 → Int32 → SX → Option (Int32 × SX)} {dd : Nat} (hrc : RCrX12conditiong rc dd) (u0 : SX) (g7 : Int) {k7 : Int32 → SX → Option (Int32 × SX)} (hk7 : ∀ (z3 : Int32) (u : SX), (StM mdX12_condition_0 u0 u) → (0 ≤ z3.toInt ∧ z3.toInt ≤ 1) → (((u.1 2).toInt = 2 → (u.1 4).toInt = 0)) → ((u0.1 6).toInt ≤ (u.1 6).toInt) → ((u0.1 8).toInt ≤ (u.1 8).toInt) → (((u.1 7).toInt = -1 → (u.1 8).toInt = (u0.1 8).toInt)) → (3 * (6 - (u0.1 8).toInt) + 3 ≤ (dd : Int)) → (g7 < (u.1 6).toInt) → Tot (k7 z3 u) (qX12_condition_0 u0))  (u : SX) (hs_u : StM mdX12_condition_0 u0 u) (h0 : ((u.1 2).toInt = 2 → (u.1 4).toInt = 0)) (h1 : (u0.1 6).toInt ≤ (u.1 6).toInt) (h2 : (u0.1 8).toInt ≤ (u.1 8).toInt) (h3 : ((u.1 7).toInt = -1 → (u.1 8).toInt = (u0.1 8).toInt)) (h4 : g7 < (u.1 6).toInt) (h5 : g7 ≤ (u.1 6).toInt) (h6 : 3 * (6 - (u0.1 8).toInt) + 3 ≤ (dd : Int)) : Tot (GX12_condition_0_51 rc k7  u) (qX12_condition_0 u0) := by
  unfold GX12_condition_0_51
  have : 2 ≤ (u.1 2).toInt ∧ (u.1 2).toInt ≤ 3 := hs_u.1.1 2
  have : 0 ≤ (u.1 4).toInt ∧ (u.1 4).toInt ≤ 4200 := hs_u.1.1 4
  have : 0 ≤ (u.1 6).toInt ∧ (u.1 6).toInt ≤ 120 := hs_u.1.1 6
  have : 0 ≤ (u.1 8).toInt ∧ (u.1 8).toInt ≤ 6 := hs_u.1.1 8
  have : (-1) ≤ (u.1 7).toInt ∧ (u.1 7).toInt ≤ 120 := hs_u.1.1 7
  exact tGX12_condition_0_56 hrc u0 g7 hk7 1 u hs_u (by show 0 ≤ (1 : Int) ∧ (1 : Int) ≤ 1; omega) (by omega) (by omega) (by omega) (by omega) (by omega) (by omega) (by omega)
set_option maxHeartbeats 400000 in
set_option maxRecDepth 10000 in
theorem tLX12_condition_0_7 {rc : Nat → Int32 → Int32 → SX → Option (Int32 × SX)} {dd : Nat} (hrc : RCrX12conditiong rc dd) (u0 : SX)    : ∀ (n : Nat) (z3 : Int32) (u : SX), (StM mdX12_condition_0 u0 u) → (0 ≤ z3.toInt ∧ z3.toInt ≤ 1) → (((u.1 2).toInt = 2 → (u.1 4).toInt = 0)) → ((u0.1 6).toInt ≤ (u.1 6).toInt) → ((u0.1 8).toInt ≤ (u.1 8).toInt) → (((u.1 7).toInt = -1 → (u.1 8).toInt = (u0.1 8).toInt)) → (3 * (6 - (u0.1 8).toInt) + 3 ≤ (dd : Int)) → (120 - (u.1 6).toInt < (n : Int)) → Tot (LX12_condition_0_7 rc n z3 u) (qX12_condition_0 u0) := by
  intro n
  induction n with
  | zero =>
    intro z3 u hs_u h0 h1 h2 h3 h4 h5 hm
    have : 0 ≤ (u.1 6).toInt ∧ (u.1 6).toInt ≤ 120 := hs_u.1.1 6
    exfalso
    omega
  | succ n ih =>
    intro z3 u hs_u h0 h1 h2 h3 h4 h5 hm
    rw [LX12_condition_0_7]
    have : 0 ≤ (u.1 6).toInt ∧ (u.1 6).toInt ≤ 120 := hs_u.1.1 6
    have : 2 ≤ (u.1 2).toInt ∧ (u.1 2).toInt ≤ 3 := hs_u.1.1 2
    have : 0 ≤ (u.1 4).toInt ∧ (u.1 4).toInt ≤ 4200 := hs_u.1.1 4
    have : 0 ≤ (u.1 8).toInt ∧ (u.1 8).toInt ≤ 6 := hs_u.1.1 8
    have : (-1) ≤ (u.1 7).toInt ∧ (u.1 7).toInt ≤ 120 := hs_u.1.1 7
    refine Tot_ite (fun c100 => ?_) (fun c100 => ?_)
    · have : (u.1 7).toInt = (-1 : Int) := eqI c100
      refine Tot_bind (tfX12_look_0 u hs_u.1 (by omega)) (fun q hq => ?_)
      obtain ⟨r5, u6⟩ := q
      have hc_u6 : StM mdX12_look_0 u u6 := hq.1
      have hs_u6 : StM mdX12_condition_0 u0 u6 := StM_tr hs_u hc_u6 (by decide)
      have : (-1) ≤ r5.toInt ∧ r5.toInt ≤ 255 := hq.2.1
      have : 0 ≤ (u6.1 6).toInt ∧ (u6.1 6).toInt ≤ 120 := hs_u6.1.1 6
      have : (u6.1 5).toInt = (u.1 5).toInt := congrArg Int32.toInt (hc_u6.2.1 5 (by decide))
      have : 0 ≤ (u.1 5).toInt ∧ (u.1 5).toInt ≤ 120 := hs_u.1.1 5
      have : r5.toInt ≠ (-1) → ((u6.1 6).toInt < (u6.1 5).toInt) := hq.2.2.1
      have : (u.1 6).toInt ≤ (u6.1 6).toInt := hq.2.2.2
      clear hq
      refine Tot_ite (fun c101 => ?_) (fun c101 => ?_)
      · have : r5.toInt = (124 : Int) := eqI c101
        have : ((u6.1 6) + 1).toInt = (u6.1 6).toInt + (1 : Int) := addc_t (by decide) (by omega) (by omega)
        refine Tot_lt (fun u9 e_u9 => ?_)
        have hs_u9 : StM mdX12_condition_0 u0 u9 := by rw [e_u9]; exact StM_sI hs_u6 (by decide) (by show 0 ≤ ((u6.1 6) + 1).toInt; omega) (by show ((u6.1 6) + 1).toInt ≤ 120; omega)
        have : (u9.1 2).toInt = (u6.1 2).toInt := by rw [e_u9]; rfl
        have : (u6.1 2).toInt = (u.1 2).toInt := congrArg Int32.toInt (hc_u6.2.1 2 (by decide))
        have : (u9.1 4).toInt = (u6.1 4).toInt := by rw [e_u9]; rfl
        have : (u6.1 4).toInt = (u.1 4).toInt := congrArg Int32.toInt (hc_u6.2.1 4 (by decide))
        have : (u9.1 8).toInt = (u6.1 8).toInt := by rw [e_u9]; rfl
        have : (u6.1 8).toInt = (u.1 8).toInt := congrArg Int32.toInt (hc_u6.2.1 8 (by decide))
        refine Tot_bind (hrc.2.1 0 0 u9 hs_u9.1 (by show 0 ≤ (0 : Int) ∧ (0 : Int) ≤ 1; omega) (by omega) (by show 3 * (6 - (u9.1 8).toInt) + 2 < (dd : Int); omega)) (fun q hq => ?_)
        obtain ⟨r11, u12⟩ := q
        have hc_u12 : StM mdX12_part_0 u9 u12 := hq.1
        have hs_u12 : StM mdX12_condition_0 u0 u12 := StM_tr hs_u9 hc_u12 (by decide)
        have : 0 ≤ r11.toInt ∧ r11.toInt ≤ 1 := hq.2.1
        have : (u9.1 6).toInt = ((u6.1 6) + 1).toInt := by rw [e_u9]; rfl
        have : 0 ≤ (u12.1 6).toInt ∧ (u12.1 6).toInt ≤ 120 := hs_u12.1.1 6
        have : (u9.1 6).toInt ≤ (u12.1 6).toInt := hq.2.2.1
        have : 0 ≤ (u12.1 8).toInt ∧ (u12.1 8).toInt ≤ 6 := hs_u12.1.1 8
        have : (u9.1 8).toInt ≤ (u12.1 8).toInt := hq.2.2.2.1
        have : (-1) ≤ (u12.1 7).toInt ∧ (u12.1 7).toInt ≤ 120 := hs_u12.1.1 7
        have : ((u12.1 7).toInt = -1 → (u12.1 8).toInt = (u9.1 8).toInt) := hq.2.2.2.2
        clear hq
        refine Tot_ite (fun c102 => ?_) (fun c102 => ?_)
        · have : z3.toInt = (0 : Int) := eqI c102
          refine Tot_ite (fun c103 => ?_) (fun c103 => ?_)
          · have : r11.toInt = (0 : Int) := eqI c103
            have : (u12.1 2).toInt = (u9.1 2).toInt := congrArg Int32.toInt (hc_u12.2.1 2 (by decide))
            have : (u12.1 4).toInt = (u9.1 4).toInt := congrArg Int32.toInt (hc_u12.2.1 4 (by decide))
            exact tGX12_condition_0_56 hrc u0 ((u.1 6).toInt) (fun a104 w105 hw105 p106 p107 p108 p109 p110 p111 p112 => ih a104 w105 hw105 p106 p107 p108 p109 p110 p111 (by omega)) 0 u12 hs_u12 (by show 0 ≤ (0 : Int) ∧ (0 : Int) ≤ 1; omega) (by omega) (by omega) (by omega) (by omega) (by omega) (by omega) (by omega)
          · have : ¬ r11.toInt = (0 : Int) := neI c103
            have : (u12.1 2).toInt = (u9.1 2).toInt := congrArg Int32.toInt (hc_u12.2.1 2 (by decide))
            have : (u12.1 4).toInt = (u9.1 4).toInt := congrArg Int32.toInt (hc_u12.2.1 4 (by decide))
            exact tGX12_condition_0_51 hrc u0 ((u.1 6).toInt) (fun a113 w114 hw114 p115 p116 p117 p118 p119 p120 p121 => ih a113 w114 hw114 p115 p116 p117 p118 p119 p120 (by omega)) u12 hs_u12 (by omega) (by omega) (by omega) (by omega) (by omega) (by omega) (by omega)
        · have : ¬ z3.toInt = (0 : Int) := neI c102
          have : (u12.1 2).toInt = (u9.1 2).toInt := congrArg Int32.toInt (hc_u12.2.1 2 (by decide))
          have : (u12.1 4).toInt = (u9.1 4).toInt := congrArg Int32.toInt (hc_u12.2.1 4 (by decide))
          exact tGX12_condition_0_51 hrc u0 ((u.1 6).toInt) (fun a122 w123 hw123 p124 p125 p126 p127 p128 p129 p130 => ih a122 w123 hw123 p124 p125 p126 p127 p128 p129 (by omega)) u12 hs_u12 (by omega) (by omega) (by omega) (by omega) (by omega) (by omega) (by omega)
      · have : ¬ r5.toInt = (124 : Int) := neI c101
        refine Tot_gd (isB_t (by omega) (by omega)) ?_
        have : (u6.1 8).toInt = (u.1 8).toInt := congrArg Int32.toInt (hc_u6.2.1 8 (by decide))
        have : (u6.1 7).toInt = (u.1 7).toInt := congrArg Int32.toInt (hc_u6.2.1 7 (by decide))
        exact Tot_some ⟨hs_u6, (by show 0 ≤ z3.toInt ∧ z3.toInt ≤ 1; omega), ⟨(by show (u0.1 6).toInt ≤ (u6.1 6).toInt; omega), (by show (u0.1 8).toInt ≤ (u6.1 8).toInt; omega), (by show ((u6.1 7).toInt = -1 → (u6.1 8).toInt = (u0.1 8).toInt); omega)⟩⟩
    · have : ¬ (u.1 7).toInt = (-1 : Int) := neI c100
      refine Tot_gd (isB_t (by omega) (by omega)) ?_
      exact Tot_some ⟨hs_u, (by show 0 ≤ z3.toInt ∧ z3.toInt ≤ 1; omega), ⟨(by show (u0.1 6).toInt ≤ (u.1 6).toInt; omega), (by show (u0.1 8).toInt ≤ (u.1 8).toInt; omega), (by show ((u.1 7).toInt = -1 → (u.1 8).toInt = (u0.1 8).toInt); omega)⟩⟩
set_option maxHeartbeats 400000 in
set_option maxRecDepth 10000 in
theorem tfX12_condition_0 {rc : Nat → Int32 → Int32 → SX → Option (Int32 × SX)} {dd : Nat} (hrc : RCrX12conditiong rc dd) (x1 : Int32) (x2 : Int32) (u : SX) (hI : IM u) (h0 : 0 ≤ x1.toInt ∧ x1.toInt ≤ 1) (h1 : ((u.1 2).toInt = 2 → (u.1 4).toInt = 0)) (h2 : 3 * (6 - (u.1 8).toInt) + 3 ≤ (dd : Int)) : Tot (fX12_condition_0 rc x1 x2 u) (qX12_condition_0 u) := by
  unfold fX12_condition_0
  have hs_u : StM mdX12_condition_0 u u := StM_rf hI
  have : 2 ≤ (u.1 2).toInt ∧ (u.1 2).toInt ≤ 3 := hs_u.1.1 2
  have : 0 ≤ (u.1 4).toInt ∧ (u.1 4).toInt ≤ 4200 := hs_u.1.1 4
  have : 0 ≤ (u.1 8).toInt ∧ (u.1 8).toInt ≤ 6 := hs_u.1.1 8
  refine Tot_bind (hrc.2.1 x1 x2 u hs_u.1 ⟨by omega, by omega⟩ (by omega) (by show 3 * (6 - (u.1 8).toInt) + 2 < (dd : Int); omega)) (fun q hq => ?_)
  obtain ⟨r1, u2⟩ := q
  have hc_u2 : StM mdX12_part_0 u u2 := hq.1
  have hs_u2 : StM mdX12_condition_0 u u2 := StM_tr hs_u hc_u2 (by decide)
  have : 0 ≤ r1.toInt ∧ r1.toInt ≤ 1 := hq.2.1
  have : 0 ≤ (u.1 6).toInt ∧ (u.1 6).toInt ≤ 120 := hs_u.1.1 6
  have : 0 ≤ (u2.1 6).toInt ∧ (u2.1 6).toInt ≤ 120 := hs_u2.1.1 6
  have : (u.1 6).toInt ≤ (u2.1 6).toInt := hq.2.2.1
  have : 0 ≤ (u2.1 8).toInt ∧ (u2.1 8).toInt ≤ 6 := hs_u2.1.1 8
  have : (u.1 8).toInt ≤ (u2.1 8).toInt := hq.2.2.2.1
  have : (-1) ≤ (u2.1 7).toInt ∧ (u2.1 7).toInt ≤ 120 := hs_u2.1.1 7
  have : ((u2.1 7).toInt = -1 → (u2.1 8).toInt = (u.1 8).toInt) := hq.2.2.2.2
  clear hq
  have : (u2.1 2).toInt = (u.1 2).toInt := congrArg Int32.toInt (hc_u2.2.1 2 (by decide))
  have : (u2.1 4).toInt = (u.1 4).toInt := congrArg Int32.toInt (hc_u2.2.1 4 (by decide))
  exact tLX12_condition_0_7 hrc u 5000 r1 u2 hs_u2 ⟨by omega, by omega⟩ (by omega) (by omega) (by omega) (by omega) (by omega) (by show 120 - (u2.1 6).toInt < ((5000 : Nat) : Int); omega)
