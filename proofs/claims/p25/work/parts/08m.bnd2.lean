/-! What a text is worth lies within bounds: conditions, clauses, worths. -/
theorem cmp12 {y0 r : Int32} {u u' : SX} (hL : LB u) (h : GX12_compares_0_12 y0 u = some (r, u')) : Kf u u' := by
  unfold GX12_compares_0_12 at h
  by_cases c : u.1 7 = -1
  · rw [if_pos c] at h
    obtain ⟨⟨r4, u5⟩, a4, h⟩ := bd_some h
    have e5 := lookR a4
    obtain ⟨r7, a7, h⟩ := bd_some h
    have h : (if r7 = 0 then ((fX12_fails_0  u5).bind fun q => match q with | (r21, u22) => (gd (isB r21) (some (r21, u22)))) else (lt (sI u5 6 ((u5.1 6) + 1)) fun u10 => ((rX12sumg 64 0  0 u10).bind fun q => match q with | (r12, u13) => (if r4 = 61 then (if y0 = r12 then (gd (isB 1) (some ((1 : Int32), u13))) else (gd (isB 0) (some ((0 : Int32), u13)))) else (if r4 = 60 then (if r12 ≤ y0 then (gd (isB 0) (some ((0 : Int32), u13))) else (gd (isB 1) (some ((1 : Int32), u13)))) else (if y0 ≤ r12 then (gd (isB 0) (some ((0 : Int32), u13))) else (gd (isB 1) (some ((1 : Int32), u13))))))))) = some (r, u') := h
    by_cases c7 : r7 = 0
    · rw [if_pos c7] at h
      obtain ⟨⟨r21, u22⟩, a21, h⟩ := bd_some h
      have e : u22 = u' := by cases (gd_some h).2; rfl
      rw [← e]
      exact (failsR a21).trans e5
    · rw [if_neg c7] at h
      obtain ⟨u10, i10, h⟩ := lt_some h
      have e10 : Kf u u10 := by rw [i10]; exact e5
      obtain ⟨⟨r12, u13⟩, a12, h⟩ := bd_some h
      have e13 := (HB_all 64 0 u10 u13 r12 (LB_r e10 hL) a12).1.trans e10
      have h : (if r4 = 61 then (if y0 = r12 then (gd (isB 1) (some ((1 : Int32), u13))) else (gd (isB 0) (some ((0 : Int32), u13)))) else (if r4 = 60 then (if r12 ≤ y0 then (gd (isB 0) (some ((0 : Int32), u13))) else (gd (isB 1) (some ((1 : Int32), u13)))) else (if y0 ≤ r12 then (gd (isB 0) (some ((0 : Int32), u13))) else (gd (isB 1) (some ((1 : Int32), u13)))))) = some (r, u') := h
      have fin : ∀ (b : Bool) (x : Int32), gd b (some (x, u13)) = some (r, u') → Kf u u' := fun b x g => by
        have e : u13 = u' := by cases (gd_some g).2; rfl
        rw [← e]
        exact e13
      by_cases d1 : r4 = 61
      · rw [if_pos d1] at h
        by_cases d : y0 = r12
        · rw [if_pos d] at h
          exact fin _ _ h
        · rw [if_neg d] at h
          exact fin _ _ h
      · rw [if_neg d1] at h
        by_cases d2 : r4 = 60
        · rw [if_pos d2] at h
          by_cases d : r12 ≤ y0
          · rw [if_pos d] at h
            exact fin _ _ h
          · rw [if_neg d] at h
            exact fin _ _ h
        · rw [if_neg d2] at h
          by_cases d : y0 ≤ r12
          · rw [if_pos d] at h
            exact fin _ _ h
          · rw [if_neg d] at h
            exact fin _ _ h
  · rw [if_neg c] at h
    have e : u = u' := by cases (gd_some h).2; rfl
    rw [← e]
    exact Kf_rf
theorem cmpR {x1 x2 r : Int32} {u u' : SX} (hL : LB u) (h : fX12_compares_0 x1 x2 u = some (r, u')) : Kf u u' := by
  unfold fX12_compares_0 at h
  by_cases c : x1 = 0
  · rw [if_pos c] at h
    obtain ⟨⟨r1, u2⟩, a1, h⟩ := bd_some h
    have e2 := (HB_all 64 0 u u2 r1 hL a1).1
    exact (cmp12 (LB_r e2 hL) h).trans e2
  · rw [if_neg c] at h
    exact cmp12 hL h
def HC (rc : Nat → Int32 → Int32 → SX → Option (Int32 × SX)) : Prop := ∀ (t : Nat) (a0 a1 : Int32) (u u' : SX) (r : Int32), LB u → rc t a0 a1 u = some (r, u') → Kf u u'
theorem cond7 {rc : Nat → Int32 → Int32 → SX → Option (Int32 × SX)} (H : HC rc) : ∀ (n : Nat) (z3 r : Int32) (u u' : SX), LB u → LX12_condition_0_7 rc n z3 u = some (r, u') → Kf u u' := by
  intro n
  induction n with
  | zero => intro z3 r u u' _ h; cases h
  | succ n ih =>
    intro z3 r u u' hL h
    have h : (if (u.1 7) = (-1) then ((fX12_look_0  u).bind fun q => match q with | (r5, u6) => (if r5 = 124 then (lt (sI u6 6 ((u6.1 6) + 1)) fun u9 => ((rc 1 0 0 u9).bind fun q => match q with | (r11, u12) => (if z3 = 0 then (if r11 = 0 then (GX12_condition_0_56 rc (LX12_condition_0_7 rc n) 0 u12) else (GX12_condition_0_51 rc (LX12_condition_0_7 rc n) u12)) else (GX12_condition_0_51 rc (LX12_condition_0_7 rc n) u12)))) else (gd (isB z3) (some (z3, u6))))) else (gd (isB z3) (some (z3, u)))) = some (r, u') := h
    by_cases c : u.1 7 = -1
    · rw [if_pos c] at h
      obtain ⟨⟨r5, u6⟩, a5, h⟩ := bd_some h
      have e6 := lookR a5
      have h : (if r5 = 124 then (lt (sI u6 6 ((u6.1 6) + 1)) fun u9 => ((rc 1 0 0 u9).bind fun q => match q with | (r11, u12) => (if z3 = 0 then (if r11 = 0 then (GX12_condition_0_56 rc (LX12_condition_0_7 rc n) 0 u12) else (GX12_condition_0_51 rc (LX12_condition_0_7 rc n) u12)) else (GX12_condition_0_51 rc (LX12_condition_0_7 rc n) u12)))) else (gd (isB z3) (some (z3, u6)))) = some (r, u') := h
      by_cases c5 : r5 = 124
      · rw [if_pos c5] at h
        obtain ⟨u9, i9, h⟩ := lt_some h
        have e9 : Kf u u9 := by rw [i9]; exact e6
        obtain ⟨⟨r11, u12⟩, a11, h⟩ := bd_some h
        have e12 := (H 1 0 0 u9 u12 r11 (LB_r e9 hL) a11).trans e9
        have h : (if z3 = 0 then (if r11 = 0 then (LX12_condition_0_7 rc n 0 u12) else (LX12_condition_0_7 rc n 1 u12)) else (LX12_condition_0_7 rc n 1 u12)) = some (r, u') := h
        have fin : ∀ y0 : Int32, LX12_condition_0_7 rc n y0 u12 = some (r, u') → Kf u u' := fun y0 g => (ih y0 r u12 u' (LB_r e12 hL) g).trans e12
        by_cases d : z3 = 0
        · rw [if_pos d] at h
          by_cases d2 : r11 = 0
          · rw [if_pos d2] at h
            exact fin _ h
          · rw [if_neg d2] at h
            exact fin _ h
        · rw [if_neg d] at h
          exact fin _ h
      · rw [if_neg c5] at h
        have e : u6 = u' := by cases (gd_some h).2; rfl
        rw [← e]
        exact e6
    · rw [if_neg c] at h
      have e : u = u' := by cases (gd_some h).2; rfl
      rw [← e]
      exact Kf_rf
theorem part18 {rc : Nat → Int32 → Int32 → SX → Option (Int32 × SX)} (H : HC rc) : ∀ (n : Nat) (z3 r : Int32) (u u' : SX), LB u → LX12_part_0_18 rc n z3 u = some (r, u') → Kf u u' := by
  intro n
  induction n with
  | zero => intro z3 r u u' _ h; cases h
  | succ n ih =>
    intro z3 r u u' hL h
    have h : (if (u.1 7) = (-1) then ((fX12_look_0  u).bind fun q => match q with | (r5, u6) => (if r5 = 38 then (lt (sI u6 6 ((u6.1 6) + 1)) fun u9 => ((rc 2  0 0 u9).bind fun q => match q with | (r11, u12) => (if z3 = 0 then (GX12_part_0_64 rc (LX12_part_0_18 rc n) u12) else (if r11 = 0 then (GX12_part_0_64 rc (LX12_part_0_18 rc n) u12) else (GX12_part_0_65 rc (LX12_part_0_18 rc n) 1 u12))))) else (gd (isB z3) (some (z3, u6))))) else (gd (isB z3) (some (z3, u)))) = some (r, u') := h
    by_cases c : u.1 7 = -1
    · rw [if_pos c] at h
      obtain ⟨⟨r5, u6⟩, a5, h⟩ := bd_some h
      have e6 := lookR a5
      have h : (if r5 = 38 then (lt (sI u6 6 ((u6.1 6) + 1)) fun u9 => ((rc 2  0 0 u9).bind fun q => match q with | (r11, u12) => (if z3 = 0 then (GX12_part_0_64 rc (LX12_part_0_18 rc n) u12) else (if r11 = 0 then (GX12_part_0_64 rc (LX12_part_0_18 rc n) u12) else (GX12_part_0_65 rc (LX12_part_0_18 rc n) 1 u12))))) else (gd (isB z3) (some (z3, u6)))) = some (r, u') := h
      by_cases c5 : r5 = 38
      · rw [if_pos c5] at h
        obtain ⟨u9, i9, h⟩ := lt_some h
        have e9 : Kf u u9 := by rw [i9]; exact e6
        obtain ⟨⟨r11, u12⟩, a11, h⟩ := bd_some h
        have e12 := (H 2 0 0 u9 u12 r11 (LB_r e9 hL) a11).trans e9
        have h : (if z3 = 0 then (LX12_part_0_18 rc n 0 u12) else (if r11 = 0 then (LX12_part_0_18 rc n 0 u12) else (LX12_part_0_18 rc n 1 u12))) = some (r, u') := h
        have fin : ∀ y0 : Int32, LX12_part_0_18 rc n y0 u12 = some (r, u') → Kf u u' := fun y0 g => (ih y0 r u12 u' (LB_r e12 hL) g).trans e12
        by_cases d : z3 = 0
        · rw [if_pos d] at h
          exact fin _ h
        · rw [if_neg d] at h
          by_cases d2 : r11 = 0
          · rw [if_pos d2] at h
            exact fin _ h
          · rw [if_neg d2] at h
            exact fin _ h
      · rw [if_neg c5] at h
        have e : u6 = u' := by cases (gd_some h).2; rfl
        rw [← e]
        exact e6
    · rw [if_neg c] at h
      have e : u = u' := by cases (gd_some h).2; rfl
      rw [← e]
      exact Kf_rf
theorem unitR {rc : Nat → Int32 → Int32 → SX → Option (Int32 × SX)} (H : HC rc) {r : Int32} {u u' : SX} (hL : LB u) (h : fX12_unit_0 rc u = some (r, u')) : Kf u u' := by
  unfold fX12_unit_0 at h
  obtain ⟨⟨r1, u2⟩, a1, h⟩ := bd_some h
  have e2 := lookR a1
  have fin : ∀ (b : Bool) (x : Int32) (w : SX), Kf u w → gd b (some (x, w)) = some (r, u') → Kf u u' := fun b x w hw g => by
    have e : w = u' := by cases (gd_some g).2; rfl
    rw [← e]
    exact hw
  have h : (if r1 = 33 then ((fX12_goesIn_0  u2).bind fun q => match q with | (r22, u23) => (if r22 = 0 then (gd (isB 0) (some ((0 : Int32), u23))) else ((rc 2  0 0 u23).bind fun q => match q with | (r25, u26) => (lt (sI u26 8 ((u26.1 8) - 1)) fun u28 => (if r25 = 0 then (gd (isB 1) (some ((1 : Int32), u28))) else (gd (isB 0) (some ((0 : Int32), u28)))))))) else (if r1 = 40 then ((fX12_goesIn_0  u2).bind fun q => match q with | (r8, u9) => (if r8 = 0 then (gd (isB 0) (some ((0 : Int32), u9))) else ((rc 0 0 0 u9).bind fun q => match q with | (r11, u12) => ((fX12_takes_0 41 u12).bind fun q => match q with | (r14, u15) => (if r14 = 0 then (gd (isB 0) (some ((0 : Int32), u15))) else (lt (sI u15 8 ((u15.1 8) - 1)) fun u17 => (gd (isB r11) (some (r11, u17))))))))) else ((fX12_compares_0 0 0 u2).bind fun q => match q with | (r4, u5) => (gd (isB r4) (some (r4, u5)))))) = some (r, u') := h
  by_cases c1 : r1 = 33
  · rw [if_pos c1] at h
    obtain ⟨⟨r22, u23⟩, a22, h⟩ := bd_some h
    have e23 := (goesInR a22).trans e2
    have h : (if r22 = 0 then (gd (isB 0) (some ((0 : Int32), u23))) else ((rc 2  0 0 u23).bind fun q => match q with | (r25, u26) => (lt (sI u26 8 ((u26.1 8) - 1)) fun u28 => (if r25 = 0 then (gd (isB 1) (some ((1 : Int32), u28))) else (gd (isB 0) (some ((0 : Int32), u28))))))) = some (r, u') := h
    by_cases d : r22 = 0
    · rw [if_pos d] at h
      exact fin _ _ _ e23 h
    · rw [if_neg d] at h
      obtain ⟨⟨r25, u26⟩, a25, h⟩ := bd_some h
      have e26 := (H 2 0 0 u23 u26 r25 (LB_r e23 hL) a25).trans e23
      obtain ⟨u28, i28, h⟩ := lt_some h
      have e28 : Kf u u28 := by rw [i28]; exact e26
      by_cases d2 : r25 = 0
      · rw [if_pos d2] at h
        exact fin _ _ _ e28 h
      · rw [if_neg d2] at h
        exact fin _ _ _ e28 h
  · rw [if_neg c1] at h
    by_cases c2 : r1 = 40
    · rw [if_pos c2] at h
      obtain ⟨⟨r8, u9⟩, a8, h⟩ := bd_some h
      have e9 := (goesInR a8).trans e2
      have h : (if r8 = 0 then (gd (isB 0) (some ((0 : Int32), u9))) else ((rc 0 0 0 u9).bind fun q => match q with | (r11, u12) => ((fX12_takes_0 41 u12).bind fun q => match q with | (r14, u15) => (if r14 = 0 then (gd (isB 0) (some ((0 : Int32), u15))) else (lt (sI u15 8 ((u15.1 8) - 1)) fun u17 => (gd (isB r11) (some (r11, u17)))))))) = some (r, u') := h
      by_cases d : r8 = 0
      · rw [if_pos d] at h
        exact fin _ _ _ e9 h
      · rw [if_neg d] at h
        obtain ⟨⟨r11, u12⟩, a11, h⟩ := bd_some h
        have e12 := (H 0 0 0 u9 u12 r11 (LB_r e9 hL) a11).trans e9
        obtain ⟨⟨r14, u15⟩, a14, h⟩ := bd_some h
        have e15 := (takesR a14).trans e12
        have h : (if r14 = 0 then (gd (isB 0) (some ((0 : Int32), u15))) else (lt (sI u15 8 ((u15.1 8) - 1)) fun u17 => (gd (isB r11) (some (r11, u17))))) = some (r, u') := h
        by_cases d2 : r14 = 0
        · rw [if_pos d2] at h
          exact fin _ _ _ e15 h
        · rw [if_neg d2] at h
          obtain ⟨u17, i17, h⟩ := lt_some h
          have e17 : Kf u u17 := by rw [i17]; exact e15
          exact fin _ _ _ e17 h
    · rw [if_neg c2] at h
      obtain ⟨⟨r4, u5⟩, a4, h⟩ := bd_some h
      exact fin _ _ _ ((cmpR (LB_r e2 hL) a4).trans e2) h
theorem HC_all : ∀ d : Nat, HC (rX12conditiong d) := by
  intro d
  induction d with
  | zero => intro t a0 a1 u u' r _ h; cases h
  | succ d ih =>
    intro t a0 a1 u u' r hL h
    rw [rX12conditiong] at h
    by_cases c0 : t = 0
    · rw [if_pos c0] at h
      unfold fX12_condition_0 at h
      obtain ⟨⟨r1, u2⟩, b1, h⟩ := bd_some h
      have e2 := ih 1 a0 a1 u u2 r1 hL b1
      have h : LX12_condition_0_7 (rX12conditiong d) 5000 r1 u2 = some (r, u') := h
      generalize (5000 : Nat) = N at h
      exact (cond7 ih N r1 r u2 u' (LB_r e2 hL) h).trans e2
    · rw [if_neg c0] at h
      by_cases c1 : t = 1
      · rw [if_pos c1] at h
        unfold fX12_part_0 GX12_part_0_17 at h
        by_cases c : a0 = 0
        · rw [if_pos c] at h
          obtain ⟨⟨r1, u2⟩, b1, h⟩ := bd_some h
          have e2 := ih 2 0 0 u u2 r1 hL b1
          have h : LX12_part_0_18 (rX12conditiong d) 5000 r1 u2 = some (r, u') := h
          generalize (5000 : Nat) = N at h
          exact (part18 ih N r1 r u2 u' (LB_r e2 hL) h).trans e2
        · rw [if_neg c] at h
          obtain ⟨⟨r1, u2⟩, b1, h⟩ := bd_some h
          have e2 := cmpR hL b1
          have h : LX12_part_0_18 (rX12conditiong d) 5000 r1 u2 = some (r, u') := h
          generalize (5000 : Nat) = N at h
          exact (part18 ih N r1 r u2 u' (LB_r e2 hL) h).trans e2
      · rw [if_neg c1] at h
        by_cases c2 : t = 2
        · rw [if_pos c2] at h
          exact unitR ih hL h
        · rw [if_neg c2] at h
          cases h
/-- the rows stay, and what is found lies within bounds -/
abbrev Kb (u u' : SX) : Prop := u'.2 = u.2 ∧ Bw (u'.1 9)
theorem Kb_of {u u' : SX} (h : Kf u u') (b : Bw (u.1 9)) : Kb u u' := ⟨h.1, by rw [h.2]; exact b⟩
theorem Kb_l {u u1 u2 : SX} (h1 : Kf u u1) (h2 : Kb u1 u2) : Kb u u2 := ⟨h2.1.trans h1.1, h2.2⟩
theorem cl131 {z2 z3 r : Int32} {u u' : SX} (hz : Bw z3) (b : Bw (u.1 9)) (h : GX12_clause_0_131 z2 z3 u = some (r, u')) : Kb u u' := by
  unfold GX12_clause_0_131 at h
  have stop : some ((0 : Int32), u) = some (r, u') → Kb u u' := fun g => by
    have e : u = u' := by cases g; rfl
    rw [← e]
    exact ⟨rfl, b⟩
  by_cases c1 : u.1 7 = -1
  · rw [if_pos c1] at h
    by_cases c2 : u.1 11 = 0
    · rw [if_pos c2] at h
      by_cases c3 : z2 = 0
      · rw [if_pos c3] at h
        exact stop h
      · rw [if_neg c3] at h
        have h := (gd_some h).2
        obtain ⟨u22, i22, h⟩ := lt_some h
        obtain ⟨u24, i24, h⟩ := lt_some h
        have e : u24 = u' := by cases h; rfl
        rw [← e, i24, i22]
        exact ⟨rfl, hz⟩
    · rw [if_neg c2] at h
      exact stop h
  · rw [if_neg c1] at h
    exact stop h
theorem cl61 {r : Int32} {u u' : SX} (hL : LB u) (b : Bw (u.1 9)) (h : GX12_clause_0_61 u = some (r, u')) : Kb u u' := by
  unfold GX12_clause_0_61 at h
  obtain ⟨⟨r12, u13⟩, a12, h⟩ := bd_some h
  have e13 := HC_all 64 0 0 0 u u13 r12 hL a12
  obtain ⟨⟨r15, u16⟩, a15, h⟩ := bd_some h
  have e16 := (takesR a15).trans e13
  have h : (if r15 = 0 then (some ((0 : Int32), u16)) else ((rX12sumg 64 0  0 u16).bind fun q => match q with | (r18, u19) => (GX12_clause_0_131 r12 r18 u19))) = some (r, u') := h
  by_cases c : r15 = 0
  · rw [if_pos c] at h
    have e : u16 = u' := by cases h; rfl
    rw [← e]
    exact Kb_of e16 b
  · rw [if_neg c] at h
    obtain ⟨⟨r18, u19⟩, a18, h⟩ := bd_some h
    obtain ⟨e19, b18⟩ := HB_all 64 0 u16 u19 r18 (LB_r e16 hL) a18
    have e19 := e19.trans e16
    exact Kb_l e19 (cl131 b18 (by rw [e19.2]; exact b) h)
theorem clauseB {r : Int32} {u u' : SX} (hL : LB u) (b : Bw (u.1 9)) (h : fX12_clause_0 u = some (r, u')) : Kb u u' := by
  unfold fX12_clause_0 at h
  obtain ⟨⟨r1, u2⟩, a1, h⟩ := bd_some h
  have e2 := lookR a1
  have stop : ∀ w : SX, Kf u w → some ((0 : Int32), w) = some (r, u') → Kb u u' := fun w hw g => by
    have e : w = u' := by cases g; rfl
    rw [← e]
    exact Kb_of hw b
  have h : (if r1 = 121 then (lt (sI u2 6 ((u2.1 6) + 1)) fun u4 => ((fX12_takes_0 58 u4).bind fun q => match q with | (r6, u7) => (if r6 = 0 then (some ((0 : Int32), u7)) else ((fX12_look_0  u7).bind fun q => match q with | (r9, u10) => (if r9 = 33 then (GX12_clause_0_61 u10) else (if r9 = 40 then (GX12_clause_0_61 u10) else ((rX12sumg 64 0  0 u10).bind fun q => match q with | (r26, u27) => (if (u27.1 7) = (-1) then ((fX12_look_0  u27).bind fun q => match q with | (r29, u30) => ((fX12_isSign r29).bind fun r32 => (if r32 = 0 then (GX12_clause_0_131 1 r26 u30) else ((rX12conditiong 64 0 1 r26 u30).bind fun q => match q with | (r35, u36) => ((fX12_takes_0 63 u36).bind fun q => match q with | (r38, u39) => (if r38 = 0 then (some ((0 : Int32), u39)) else ((rX12sumg 64 0  0 u39).bind fun q => match q with | (r41, u42) => (GX12_clause_0_131 r35 r41 u42)))))))) else (GX12_clause_0_131 1 r26 u27))))))))) else ((fX12_fails_0  u2).bind fun q => match q with | (r44, u45) => (some ((0 : Int32), u45)))) = some (r, u') := h
  by_cases c1 : r1 = 121
  · rw [if_pos c1] at h
    obtain ⟨u4, i4, h⟩ := lt_some h
    have e4 : Kf u u4 := by rw [i4]; exact e2
    obtain ⟨⟨r6, u7⟩, a6, h⟩ := bd_some h
    have e7 := (takesR a6).trans e4
    have h : (if r6 = 0 then (some ((0 : Int32), u7)) else ((fX12_look_0  u7).bind fun q => match q with | (r9, u10) => (if r9 = 33 then (GX12_clause_0_61 u10) else (if r9 = 40 then (GX12_clause_0_61 u10) else ((rX12sumg 64 0  0 u10).bind fun q => match q with | (r26, u27) => (if (u27.1 7) = (-1) then ((fX12_look_0  u27).bind fun q => match q with | (r29, u30) => ((fX12_isSign r29).bind fun r32 => (if r32 = 0 then (GX12_clause_0_131 1 r26 u30) else ((rX12conditiong 64 0 1 r26 u30).bind fun q => match q with | (r35, u36) => ((fX12_takes_0 63 u36).bind fun q => match q with | (r38, u39) => (if r38 = 0 then (some ((0 : Int32), u39)) else ((rX12sumg 64 0  0 u39).bind fun q => match q with | (r41, u42) => (GX12_clause_0_131 r35 r41 u42)))))))) else (GX12_clause_0_131 1 r26 u27))))))) = some (r, u') := h
    by_cases c6 : r6 = 0
    · rw [if_pos c6] at h
      exact stop u7 e7 h
    · rw [if_neg c6] at h
      obtain ⟨⟨r9, u10⟩, a9, h⟩ := bd_some h
      have e10 := (lookR a9).trans e7
      have b10 : Bw (u10.1 9) := by rw [e10.2]; exact b
      have h : (if r9 = 33 then (GX12_clause_0_61 u10) else (if r9 = 40 then (GX12_clause_0_61 u10) else ((rX12sumg 64 0  0 u10).bind fun q => match q with | (r26, u27) => (if (u27.1 7) = (-1) then ((fX12_look_0  u27).bind fun q => match q with | (r29, u30) => ((fX12_isSign r29).bind fun r32 => (if r32 = 0 then (GX12_clause_0_131 1 r26 u30) else ((rX12conditiong 64 0 1 r26 u30).bind fun q => match q with | (r35, u36) => ((fX12_takes_0 63 u36).bind fun q => match q with | (r38, u39) => (if r38 = 0 then (some ((0 : Int32), u39)) else ((rX12sumg 64 0  0 u39).bind fun q => match q with | (r41, u42) => (GX12_clause_0_131 r35 r41 u42)))))))) else (GX12_clause_0_131 1 r26 u27))))) = some (r, u') := h
      by_cases c9 : r9 = 33
      · rw [if_pos c9] at h
        exact Kb_l e10 (cl61 (LB_r e10 hL) b10 h)
      · rw [if_neg c9] at h
        by_cases c40 : r9 = 40
        · rw [if_pos c40] at h
          exact Kb_l e10 (cl61 (LB_r e10 hL) b10 h)
        · rw [if_neg c40] at h
          obtain ⟨⟨r26, u27⟩, a26, h⟩ := bd_some h
          obtain ⟨e27, b26⟩ := HB_all 64 0 u10 u27 r26 (LB_r e10 hL) a26
          have e27 := e27.trans e10
          have h : (if (u27.1 7) = (-1) then ((fX12_look_0  u27).bind fun q => match q with | (r29, u30) => ((fX12_isSign r29).bind fun r32 => (if r32 = 0 then (GX12_clause_0_131 1 r26 u30) else ((rX12conditiong 64 0 1 r26 u30).bind fun q => match q with | (r35, u36) => ((fX12_takes_0 63 u36).bind fun q => match q with | (r38, u39) => (if r38 = 0 then (some ((0 : Int32), u39)) else ((rX12sumg 64 0  0 u39).bind fun q => match q with | (r41, u42) => (GX12_clause_0_131 r35 r41 u42)))))))) else (GX12_clause_0_131 1 r26 u27)) = some (r, u') := h
          by_cases cf : u27.1 7 = -1
          · rw [if_pos cf] at h
            obtain ⟨⟨r29, u30⟩, a29, h⟩ := bd_some h
            have e30 := (lookR a29).trans e27
            obtain ⟨r32, a32, h⟩ := bd_some h
            have h : (if r32 = 0 then (GX12_clause_0_131 1 r26 u30) else ((rX12conditiong 64 0 1 r26 u30).bind fun q => match q with | (r35, u36) => ((fX12_takes_0 63 u36).bind fun q => match q with | (r38, u39) => (if r38 = 0 then (some ((0 : Int32), u39)) else ((rX12sumg 64 0  0 u39).bind fun q => match q with | (r41, u42) => (GX12_clause_0_131 r35 r41 u42)))))) = some (r, u') := h
            by_cases c32 : r32 = 0
            · rw [if_pos c32] at h
              exact Kb_l e30 (cl131 b26 (by rw [e30.2]; exact b) h)
            · rw [if_neg c32] at h
              obtain ⟨⟨r35, u36⟩, a35, h⟩ := bd_some h
              have e36 := (HC_all 64 0 1 r26 u30 u36 r35 (LB_r e30 hL) a35).trans e30
              obtain ⟨⟨r38, u39⟩, a38, h⟩ := bd_some h
              have e39 := (takesR a38).trans e36
              have h : (if r38 = 0 then (some ((0 : Int32), u39)) else ((rX12sumg 64 0  0 u39).bind fun q => match q with | (r41, u42) => (GX12_clause_0_131 r35 r41 u42))) = some (r, u') := h
              by_cases c38 : r38 = 0
              · rw [if_pos c38] at h
                exact stop u39 e39 h
              · rw [if_neg c38] at h
                obtain ⟨⟨r41, u42⟩, a41, h⟩ := bd_some h
                obtain ⟨e42, b41⟩ := HB_all 64 0 u39 u42 r41 (LB_r e39 hL) a41
                have e42 := e42.trans e39
                exact Kb_l e42 (cl131 b41 (by rw [e42.2]; exact b) h)
          · rw [if_neg cf] at h
            exact Kb_l e27 (cl131 b26 (by rw [e27.2]; exact b) h)
  · rw [if_neg c1] at h
    obtain ⟨⟨r44, u45⟩, a44, h⟩ := bd_some h
    exact stop u45 ((failsR a44).trans e2) h
theorem go73 : ∀ (n : Nat) (r : Int32) (u u' : SX), LB u → Bw (u.1 9) → LX12_goThrough_0_a2_73 GX12_goThrough_0_a2_107 n u = some (r, u') → Kb u u' := by
  intro n
  induction n with
  | zero => intro r u u' _ _ h; cases h
  | succ n ih =>
    intro r u u' hL b h
    have h : (if (u.1 7) = (-1) then ((fX12_look_0  u).bind fun q => match q with | (r23, u24) => (if r23 = 59 then (lt (sI u24 6 ((u24.1 6) + 1)) fun u26 => ((fX12_clause_0  u26).bind fun q => match q with | (r28, u29) => ((LX12_goThrough_0_a2_73 GX12_goThrough_0_a2_107 n) u29))) else (GX12_goThrough_0_a2_107 u24))) else (GX12_goThrough_0_a2_107 u)) = some (r, u') := h
    have f107 : ∀ w : SX, Kf u w → GX12_goThrough_0_a2_107 w = some (r, u') → Kb u u' := fun w hw g => by
      unfold GX12_goThrough_0_a2_107 at g
      by_cases c : w.1 7 = -1
      · rw [if_pos c] at g
        obtain ⟨⟨r31, u32⟩, a31, g⟩ := bd_some g
        have e32 := (lookR a31).trans hw
        have g : (if r31 = (-1) then (some ((0 : Int32), u32)) else ((fX12_fails_0  u32).bind fun q => match q with | (r34, u35) => (some ((0 : Int32), u35)))) = some (r, u') := g
        by_cases d : r31 = -1
        · rw [if_pos d] at g
          have e : u32 = u' := by cases g; rfl
          rw [← e]
          exact Kb_of e32 b
        · rw [if_neg d] at g
          obtain ⟨⟨r34, u35⟩, a34, g⟩ := bd_some g
          have e : u35 = u' := by cases g; rfl
          rw [← e]
          exact Kb_of ((failsR a34).trans e32) b
      · rw [if_neg c] at g
        have e : w = u' := by cases g; rfl
        rw [← e]
        exact Kb_of hw b
    by_cases c : u.1 7 = -1
    · rw [if_pos c] at h
      obtain ⟨⟨r23, u24⟩, a23, h⟩ := bd_some h
      have e24 := lookR a23
      have h : (if r23 = 59 then (lt (sI u24 6 ((u24.1 6) + 1)) fun u26 => ((fX12_clause_0  u26).bind fun q => match q with | (r28, u29) => ((LX12_goThrough_0_a2_73 GX12_goThrough_0_a2_107 n) u29))) else (GX12_goThrough_0_a2_107 u24)) = some (r, u') := h
      by_cases d : r23 = 59
      · rw [if_pos d] at h
        obtain ⟨u26, i26, h⟩ := lt_some h
        have e26 : Kf u u26 := by rw [i26]; exact e24
        obtain ⟨⟨r28, u29⟩, a28, h⟩ := bd_some h
        obtain ⟨p1, p2⟩ := clauseB (LB_r e26 hL) (by rw [e26.2]; exact b) a28
        have p1 := p1.trans e26.1
        obtain ⟨q1, q2⟩ := ih r u29 u' (fun i hi => by
          rw [show u29.2.1 = u.2.1 by rw [p1]]
          exact hL i hi) p2 h
        exact ⟨q1.trans p1, q2⟩
      · rw [if_neg d] at h
        exact f107 u24 e24 h
    · rw [if_neg c] at h
      exact f107 u Kf_rf h
theorem goB {x2 x3 x4 r : Int32} {u u' : SX} (hL : LB u) (h : fX12_goThrough_0_a2 x2 x3 x4 u = some (r, u')) : Bw (u'.1 9) := by
  unfold fX12_goThrough_0_a2 at h
  obtain ⟨u1, i1, h⟩ := lt_some h
  obtain ⟨u3, i3, h⟩ := lt_some h
  obtain ⟨u5, i5, h⟩ := lt_some h
  have e5 : u5.2 = u.2 := by rw [i5, i3, i1]; rfl
  have fin : ∀ w : SX, w.2 = u.2 → w.1 9 = 0 → ((fX12_clause_0 w).bind fun q => match q with | (r20, u21) => (LX12_goThrough_0_a2_73 GX12_goThrough_0_a2_107 5000 u21)) = some (r, u') → Bw (u'.1 9) := fun w hw h9 g => by
    have Lw : LB w := fun i hi => by
      rw [show w.2.1 = u.2.1 by rw [hw]]
      exact hL i hi
    obtain ⟨⟨r20, u21⟩, a20, g⟩ := bd_some g
    obtain ⟨p1, p2⟩ := clauseB Lw (by rw [h9]; exact Bw_0) a20
    have g : LX12_goThrough_0_a2_73 GX12_goThrough_0_a2_107 5000 u21 = some (r, u') := g
    generalize (5000 : Nat) = N at g
    exact (go73 N r u21 u' (fun i hi => by
      rw [show u21.2.1 = w.2.1 by rw [p1]]
      exact Lw i hi) p2 g).2
  by_cases c0 : x4 = 0
  · rw [if_pos c0] at h
    unfold GX12_goThrough_0_a2_41b at h
    obtain ⟨w1, j1, h⟩ := lt_some h
    obtain ⟨w2, j2, h⟩ := lt_some h
    obtain ⟨w3, j3, h⟩ := lt_some h
    obtain ⟨w4, j4, h⟩ := lt_some h
    have h := (gd_some h).2
    obtain ⟨w5, j5, h⟩ := lt_some h
    obtain ⟨w6, j6, h⟩ := lt_some h
    refine fin w6 ?_ ?_ h
    · rw [j6, j5, j4, j3, j2, j1]
      exact e5
    · rw [j6]
      rfl
  · rw [if_neg c0] at h
    by_cases c1 : x4 = 1
    · rw [if_pos c1] at h
      unfold GX12_goThrough_0_a2_41a at h
      obtain ⟨w1, j1, h⟩ := lt_some h
      obtain ⟨w2, j2, h⟩ := lt_some h
      obtain ⟨w3, j3, h⟩ := lt_some h
      obtain ⟨w4, j4, h⟩ := lt_some h
      have h := (gd_some h).2
      obtain ⟨w5, j5, h⟩ := lt_some h
      obtain ⟨w6, j6, h⟩ := lt_some h
      refine fin w6 ?_ ?_ h
      · rw [j6, j5, j4, j3, j2, j1]
        exact e5
      · rw [j6]
        rfl
    · rw [if_neg c1] at h
      unfold GX12_goThrough_0_a2_41 at h
      obtain ⟨w1, j1, h⟩ := lt_some h
      obtain ⟨w2, j2, h⟩ := lt_some h
      obtain ⟨w3, j3, h⟩ := lt_some h
      obtain ⟨w4, j4, h⟩ := lt_some h
      have h := (gd_some h).2
      obtain ⟨w5, j5, h⟩ := lt_some h
      obtain ⟨w6, j6, h⟩ := lt_some h
      refine fin w6 ?_ ?_ h
      · rw [j6, j5, j4, j3, j2, j1]
        exact e5
      · rw [j6]
        rfl
theorem worthOfB {x1 x2 r : Int32} {v v' : SX} (hL : LB v) (h : fX12_worthOf_0 x1 x2 v = some (r, v')) : Bw r := by
  unfold fX12_worthOf_0 at h
  obtain ⟨P, iP, h⟩ := lt_some h
  have h := (gd_some h).2
  obtain ⟨⟨q4, z5⟩, b4, h⟩ := bd_some h
  have e : z5.1 9 = r := by cases h; rfl
  rw [← e]
  exact goB hL b4
theorem noL2 : ∀ (n : Nat) (z r : Int32) (u u' : SX), 0 ≤ z.toInt → LX12_noLetters_0_2 n z u = some (r, u') → ∀ i : Nat, i < 128 → (z.toInt ≤ (i : Int) ∨ u.2.1 5 i = 0) → u'.2.1 5 i = 0 := by
  intro n
  induction n with
  | zero => intro z r u u' _ h; cases h
  | succ n ih =>
    intro z r u u' h0 h i hi hq
    have h : (if 128 ≤ z then (some (0, u)) else (gd (inb z 128) (lt (sA u 5 (upd (u.2.1 5) z.toNatClampNeg 0)) fun u2 => ((LX12_noLetters_0_2 n) (z + 1) u2)))) = some (r, u') := h
    by_cases c : 128 ≤ z
    · rw [if_pos c] at h
      have c9 : (128 : Int) ≤ z.toInt := leI c
      have e : u = u' := by cases h; rfl
      rw [← e]
      rcases hq with q | q
      · omega
      · exact q
    · rw [if_neg c] at h
      have c9 : ¬ (128 : Int) ≤ z.toInt := nleI c
      have h := (gd_some h).2
      obtain ⟨u2, i2, h⟩ := lt_some h
      have et : (z + 1).toInt = z.toInt + 1 := addc_t (by decide) (by omega) (by omega)
      have k2 : u2.2.1 5 = upd (u.2.1 5) z.toNatClampNeg 0 := by rw [i2]; rfl
      refine ih (z + 1) r u2 u' (by rw [et]; omega) h i hi ?_
      rw [et, k2]
      by_cases ci : i = z.toNatClampNeg
      · exact Or.inr (by rw [ci, upd_at])
      · rw [upd_ne ci]
        have ci : ¬ i = z.toInt.toNat := ci
        rcases hq with q | q
        · exact Or.inl (by omega)
        · exact Or.inr q
theorem noL_B {r : Int32} {u u' : SX} (h : fX12_noLetters_0 u = some (r, u')) : LB u' := fun i hi => by
  unfold fX12_noLetters_0 at h
  generalize (5000 : Nat) = N at h
  rw [noL2 N 0 r u u' (by decide) h i hi (Or.inl (by show (0 : Int) ≤ _; omega))]
  exact Bw_0
theorem LB_up {u u' : SX} {k : Nat} {x : Int32} (hL : LB u) (hx : Bw x) (e : u' = sA u 5 (upd (u.2.1 5) k x)) : LB u' := fun i hi => by
  have e2 : u'.2.1 5 = upd (u.2.1 5) k x := by rw [e]; rfl
  rw [e2]
  by_cases c : i = k
  · rw [c, upd_at]
    exact hx
  · rw [upd_ne c]
    exact hL i hi
theorem Bw_n {x : Int32} (h : Bn x) : Bw x := ⟨by have := h.1; omega, by have := h.2; omega⟩
theorem lawB {x1 d a h e w l r' : Int32} {v v' : SX} (bd : Bn d) (ba : Bn a) (bh : Bn h) (be : Bn e) (bw : Bn w) (bl : Bn l) (h2 : fX12_lawWorth_0 x1 d a h e w l v = some (r', v')) : Bw r' := by
  unfold fX12_lawWorth_0 at h2
  obtain ⟨⟨q1, y2⟩, b1, h2⟩ := bd_some h2
  have L2 := noL_B b1
  obtain ⟨-, h2⟩ := gd_some h2
  obtain ⟨y5, i5, h2⟩ := lt_some h2
  have L5 := LB_up L2 (Bw_n bd) i5
  obtain ⟨-, h2⟩ := gd_some h2
  obtain ⟨y8, i8, h2⟩ := lt_some h2
  have L8 := LB_up L5 (Bw_n ba) i8
  obtain ⟨-, h2⟩ := gd_some h2
  obtain ⟨y11, i11, h2⟩ := lt_some h2
  have L11 := LB_up L8 (Bw_n bh) i11
  obtain ⟨-, h2⟩ := gd_some h2
  obtain ⟨y14, i14, h2⟩ := lt_some h2
  have L14 := LB_up L11 (Bw_n be) i14
  obtain ⟨-, h2⟩ := gd_some h2
  obtain ⟨y17, i17, h2⟩ := lt_some h2
  have L17 := LB_up L14 (Bw_n bw) i17
  obtain ⟨-, h2⟩ := gd_some h2
  obtain ⟨y20, i20, h2⟩ := lt_some h2
  have L20 := LB_up L17 (Bw_n bl) i20
  obtain ⟨⟨q22, y23⟩, b22, h2⟩ := bd_some h2
  have e2 : q22 = r' := by cases h2; rfl
  rw [← e2]
  exact worthOfB L20 b22
theorem gueB {x1 x2 x3 r' : Int32} {v v' : SX} (b2 : Bw x2) (b3 : Bw x3) (h : fX12_guessWorth_0 x1 x2 x3 v = some (r', v')) : Bw r' := by
  unfold fX12_guessWorth_0 at h
  obtain ⟨⟨q1, y2⟩, b1, h⟩ := bd_some h
  have L2 := noL_B b1
  obtain ⟨-, h⟩ := gd_some h
  obtain ⟨y5, i5, h⟩ := lt_some h
  have L5 := LB_up L2 b2 i5
  obtain ⟨-, h⟩ := gd_some h
  obtain ⟨y8, i8, h⟩ := lt_some h
  have L8 := LB_up L5 b3 i8
  obtain ⟨⟨q10, y11⟩, b10, h⟩ := bd_some h
  have er : q10 = r' := by cases h; rfl
  rw [← er]
  exact worthOfB L8 b10
/-- what a law is worth at a reading's aim lies within bounds -/
theorem wvB {u v : SX} (hI : IX u) (hJ : IM v) (hV : TieV u v) (hG : TieG u v) {n g : Nat} (hn : (n : Int) < (u.1 13).toInt) (hg : (g : Int) < (u.1 5).toInt) : Bw (wv u n g) := by
  have b5 : (u.1 5).toInt ≤ (12 : Int) := (hI.1 5).2
  obtain ⟨-, -, -, d, a, hh, e, w, l, ⟨bd, ba, bh, be, bw, bl⟩, qa, -⟩ := hG.1 n hn
  have eg : (Int32.ofNat g).toInt = (g : Int) := Int32.toInt_ofNat_of_lt (by omega)
  have en : (Int32.ofNat g).toNatClampNeg = g := by
    show (Int32.ofNat g).toInt.toNat = g
    rw [eg]
    rfl
  obtain ⟨⟨r', v'⟩, er, -⟩ := tfX12_lawWorth_0 (Int32.ofNat g) d a hh e w l v hJ ⟨by omega, by omega⟩ bd ba bh be bw bl
  have hs := law_say (n := n) hJ hV (by omega) (by omega) b5 qa er
  rw [en] at hs
  rw [wv_eq hI hs]
  exact lawB bd ba bh be bw bl er
theorem wwB {u v : SX} (hI : IX u) (hJ : IM v) (hV : TieV u v) (hG : TieG u v) (hPL : PL u) {n i : Nat} (hn : (n : Int) < (u.1 13).toInt) (hi : (i : Int) < (u.1 8).toInt) : Bw (ww u n i) := by
  obtain ⟨l0, l1⟩ := hPL i hi
  exact wvB hI hJ hV hG hn (by show (((u.2.1 24 i).toInt.toNat : Nat) : Int) < _; omega)
