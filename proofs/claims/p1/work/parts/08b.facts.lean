/-! On new objects both sides answer alike. -/
def agr (x y : Option (Int32 × SX)) : Bool := match x, y with
  | some (a, _), some (b, _) => decide (a = b)
  | _, _ => false
theorem agr_ex {x y : Option (Int32 × SX)} (h : agr x y = true) : ∃ (r : Int32) (u u' : SX), x = some (r, u) ∧ y = some (r, u') := by
  cases x with
  | none => cases h
  | some p =>
    cases y with
    | none => obtain ⟨a, u⟩ := p; cases h
    | some q =>
      obtain ⟨a, u⟩ := p
      obtain ⟨b, u'⟩ := q
      have e : a = b := of_decide_eq_true h
      subst e
      exact ⟨a, u, u', rfl, rfl⟩
theorem agr_of {r : Int32} {u u' : SX} {x y : Option (Int32 × SX)} (h1 : x = some (r, u)) (h2 : y = some (r, u')) : agr x y = true := by
  rw [h1, h2]; exact decide_eq_true rfl
theorem i_toInt {x y : Int32} (h : x.toInt = y.toInt) : x = y := Int32.toInt_inj.mp h
theorem one_ne : ((1 : Int32) = 0) = False := eq_false (by decide)
/-- the answers of a test -/
theorem wi_cases (a b c : Int32) : fX11_within a b c = some 0 ∨ (fX11_within a b c = some 1 ∧ ¬ a < b ∧ ¬ c < a) := by
  unfold fX11_within
  by_cases h1 : a < b
  · rw [if_pos h1]; exact Or.inl rfl
  · by_cases h2 : c < a
    · rw [if_neg h1, if_pos h2]; exact Or.inl rfl
    · rw [if_neg h1, if_neg h2]; exact Or.inr ⟨rfl, h1, h2⟩
theorem isIn_eq : fX12_isIn = fX11_within := rfl
theorem isAim_eq : fX12_isAim = fX11_isAim := rfl
theorem aim_cases (a b c d e : Int32) : fX11_isAim a b c d e = some 0 ∨ fX11_isAim a b c d e = some 1 := by
  unfold fX11_isAim
  rcases wi_cases a 0 15 with h | ⟨h, -⟩ <;> rw [h]
  · exact Or.inl rfl
  rcases wi_cases b 0 9 with h | ⟨h, -⟩ <;> rw [h]
  · exact Or.inl rfl
  rcases wi_cases c 0 23 with h | ⟨h, -⟩ <;> rw [h]
  · exact Or.inl rfl
  rcases wi_cases d 0 9 with h | ⟨h, -⟩ <;> rw [h]
  · exact Or.inl rfl
  rcases wi_cases e 1 40 with h | ⟨h, -⟩ <;> rw [h]
  · exact Or.inl rfl
  · exact Or.inr rfl
theorem lt_toInt {a b : Int32} : a < b ↔ a.toInt < b.toInt := Int32.lt_iff_toInt_lt
/-- a number from 0 to n -/
theorem in_nat {x : Int32} (n : Nat) (hn : n < 1000) (h1 : ¬ x < 0) (h2 : ¬ Int32.ofNat n < x) : ∃ k, k < n + 1 ∧ x = Int32.ofNat k := by
  have e0 : (0 : Int32).toInt = 0 := rfl
  have en : (Int32.ofNat n).toInt = (n : Int) := Int32.toInt_ofNat_of_lt (by omega)
  rw [lt_toInt] at h1 h2
  refine ⟨x.toInt.toNat, by omega, i_toInt ?_⟩
  rw [Int32.toInt_ofNat_of_lt (by omega)]
  omega
theorem q_zero {q : Int32} (h1 : ¬ q < 0) (h2 : ¬ 0 < q) : q = 0 := by
  rw [lt_toInt] at h1 h2
  have e0 : (0 : Int32).toInt = 0 := rfl
  exact i_toInt (by omega)
theorem isDay_no {q : Int32} (h : fX11_within q 0 0 = some 0) : fX11_isDay_0 q uX = some (0, uX) := by
  show (fX11_within q 0 0).bind _ = _
  rw [h]; rfl
theorem isDay_yes : fX11_isDay_0 0 uX = some (1, uX) := rfl
theorem isDay_c (q : Int32) : fX11_isDay_0 q uX = some (0, uX) ∨ fX11_isDay_0 q uX = some (1, uX) := by
  rcases wi_cases q 0 0 with h | ⟨h, -⟩
  · exact Or.inl (isDay_no h)
  · refine Or.inr ?_
    show (fX11_within q 0 0).bind _ = _
    rw [h]; rfl
theorem ei_cases (w : Int32) : (fX11_isEither w = some 0 ∧ fX11_within w 0 1 = some 0) ∨ (fX11_isEither w = some 1 ∧ (w = 0 ∨ w = 1)) := by
  by_cases h0 : w = 0
  · subst h0; exact Or.inr ⟨rfl, Or.inl rfl⟩
  · by_cases h1 : w = 1
    · subst h1; exact Or.inr ⟨rfl, Or.inr rfl⟩
    · refine Or.inl ⟨?_, ?_⟩
      · unfold fX11_isEither; rw [if_neg h0, if_neg h1]; rfl
      · rcases wi_cases w 0 1 with h | ⟨-, a, b⟩
        · exact h
        · obtain ⟨k, hk, e⟩ := in_nat 1 (by omega) a b
          have : k = 0 ∨ k = 1 := by omega
          rcases this with rfl | rfl
          · exact absurd e h0
          · exact absurd e h1
theorem ei_c (w : Int32) : fX11_isEither w = some 0 ∨ fX11_isEither w = some 1 := (ei_cases w).elim (fun h => Or.inl h.1) (fun h => Or.inr h.1)
theorem has0 (x z : Int32) (hz : z = 0) (u : SX) : (if x < 0 then (gd (isB 0) (some ((0 : Int32), u))) else (if z ≤ x then (gd (isB 0) (some (0, u))) else (gd (isB 1) (some (1, u))))) = some (0, u) := by
  subst hz
  by_cases h : x < 0
  · rw [if_pos h]; rfl
  · rw [if_neg h, if_pos (Int32.not_lt.mp h)]; rfl
theorem wi_empty (x : Int32) : fX11_within x 0 (-1) = some 0 := by
  rcases wi_cases x 0 (-1) with h | ⟨-, a, b⟩
  · exact h
  · rw [lt_toInt] at a b
    have e0 : (0 : Int32).toInt = 0 := rfl
    have e1 : (-1 : Int32).toInt = -1 := rfl
    omega
def uN : SX := sI uM 0 0

theorem nX8_has_3 (x : Int32) : fX8_has_3 x uX = some (0, uX) := has0 x _ rfl uX
theorem nX8_has_4 (x : Int32) : fX8_has_4 x uX = some (0, uX) := has0 x _ rfl uX
theorem nX8_has_5 (x : Int32) : fX8_has_5 x uX = some (0, uX) := has0 x _ rfl uX
theorem nX6_has_6 (x : Int32) : fX6_has_6 x uX = some (0, uX) := has0 x _ rfl uX
theorem nX7_has_7 (x : Int32) : fX7_has_7 x uX = some (0, uX) := has0 x _ rfl uX
theorem nX3_has_10 (x : Int32) : fX3_has_10 x uX = some (0, uX) := has0 x _ rfl uX
theorem nX2_has_11 (x : Int32) : fX2_has_11 x uX = some (0, uX) := has0 x _ rfl uX
theorem nM_isPart (x : Int32) : fX12_isPart_0 x uN = some (0, uN) := has0 x _ rfl uN
theorem nM_isReading (x : Int32) : fX12_isReading_0 x uN = some (0, uN) := has0 x _ rfl uN
theorem nM_isLook (x : Int32) : fX12_isLook_0 x uN = some (0, uN) := has0 x _ rfl uN
theorem nM_isHouse (x : Int32) : fX12_isHouse_0 x uN = some (0, uN) := has0 x _ rfl uN
theorem nM_isGuess (x : Int32) : fX12_isGuess_0 x uN = some (0, uN) := by
  show (fX11_within x 0 (-1)).bind (fun r2 => gd (isB r2) (some (r2, uN))) = _
  rw [wi_empty]; rfl

theorem pf_part (x1 x2 x3 x4 : Int32) : agr (fX11_part_0 x1 x2 x3 x4 uX) (fX12_part__0 x1 x2 x3 x4 uM) = true := by
  have eX : fX11_part_0 x1 x2 x3 x4 uX = some (-1, uX) := by
    unfold fX11_part_0
    rw [nX8_has_3]
    rfl
  have eM : ∃ u, fX12_part__0 x1 x2 x3 x4 uM = some (-1, u) := by
    unfold fX12_part__0
    show ∃ u, (fX11_within x1 0 (-1)).bind _ = _
    rw [wi_empty]
    exact ⟨_, rfl⟩
  obtain ⟨u, eM⟩ := eM
  exact agr_of eX eM
theorem pf_span (x1 x2 x3 : Int32) : agr (fX11_span_0 x1 x2 x3 uX) (fX12_span_0 x1 x2 x3 uM) = true := by
  have eX : fX11_span_0 x1 x2 x3 uX = some (-1, uX) := by
    unfold fX11_span_0
    rcases isDay_c x2 with h | h <;> rw [h]
    · rfl
    show (fX11_isEither x3).bind _ = _
    rcases ei_c x3 with h | h <;> rw [h]
    · rfl
    show (fX6_has_6 x1 uX).bind _ = _
    rw [nX6_has_6]
    rfl
  have eM : ∃ u, fX12_span_0 x1 x2 x3 uM = some (-1, u) := by
    unfold fX12_span_0
    show ∃ u, (fX12_isPart_0 x1 uN).bind _ = _
    rw [nM_isPart]
    exact ⟨_, rfl⟩
  obtain ⟨u, eM⟩ := eM
  exact agr_of eX eM
theorem pf_left (x1 x2 x3 : Int32) : agr (fX11_left_0 x1 x2 x3 uX) (fX12_left_0 x1 x2 x3 uM) = true := by
  have eX : fX11_left_0 x1 x2 x3 uX = some (-100000000, uX) := by
    unfold fX11_left_0
    rcases isDay_c x2 with h | h <;> rw [h]
    · rfl
    show (fX11_isEither x3).bind _ = _
    rcases ei_c x3 with h | h <;> rw [h]
    · rfl
    show (fX7_has_7 x1 uX).bind _ = _
    rw [nX7_has_7]
    rfl
  have eM : ∃ u, fX12_left_0 x1 x2 x3 uM = some (-100000000, u) := by
    unfold fX12_left_0
    show ∃ u, (fX12_isReading_0 x1 uN).bind _ = _
    rw [nM_isReading]
    exact ⟨_, rfl⟩
  obtain ⟨u, eM⟩ := eM
  exact agr_of eX eM
theorem pf_most (x1 x2 : Int32) : agr (fX11_most_0 x1 x2 uX) (fX12_most__0 x1 x2 uM) = true := by
  have eX : fX11_most_0 x1 x2 uX = some (-1, uX) := by
    unfold fX11_most_0
    rcases isDay_c x2 with h | h <;> rw [h]
    · rfl
    show (fX7_has_7 x1 uX).bind _ = _
    rw [nX7_has_7]
    rfl
  have eM : ∃ u, fX12_most__0 x1 x2 uM = some (-1, u) := by
    unfold fX12_most__0
    show ∃ u, (fX12_isReading_0 x1 uN).bind _ = _
    rw [nM_isReading]
    exact ⟨_, rfl⟩
  obtain ⟨u, eM⟩ := eM
  exact agr_of eX eM
theorem pf_could (x1 x2 x3 : Int32) : agr (fX11_could_0 x1 x2 x3 uX) (fX12_could_0 x1 x2 x3 uM) = true := by
  have eX : fX11_could_0 x1 x2 x3 uX = some (-1, uX) := by
    unfold fX11_could_0
    rcases isDay_c x2 with h | h <;> rw [h]
    · rfl
    show (fX11_isEither x3).bind _ = _
    rcases ei_c x3 with h | h <;> rw [h]
    · rfl
    show (fX6_has_6 x1 uX).bind _ = _
    rw [nX6_has_6]
    rfl
  have eM : ∃ u, fX12_could_0 x1 x2 x3 uM = some (-1, u) := by
    unfold fX12_could_0
    show ∃ u, (fX12_isPart_0 x1 uN).bind _ = _
    rw [nM_isPart]
    exact ⟨_, rfl⟩
  obtain ⟨u, eM⟩ := eM
  exact agr_of eX eM
theorem pf_look (x1 x2 x3 x4 : Int32) : agr (fX11_look_0 x1 x2 x3 x4 uX) (fX12_look__0 x1 x2 x3 x4 uM) = true := by
  have eX : fX11_look_0 x1 x2 x3 x4 uX = some (-1, uX) := by
    unfold fX11_look_0
    rw [nX6_has_6]
    rfl
  have eM : ∃ u, fX12_look__0 x1 x2 x3 x4 uM = some (-1, u) := by
    unfold fX12_look__0
    show ∃ u, (fX12_isPart_0 x1 uN).bind _ = _
    rw [nM_isPart]
    exact ⟨_, rfl⟩
  obtain ⟨u, eM⟩ := eM
  exact agr_of eX eM
theorem pf_done (x1 : Int32) : agr (fX11_done_0 x1 uX) (fX12_done_0 x1 uM) = true := by
  have eX : fX11_done_0 x1 uX = some (0, uX) := by
    unfold fX11_done_0
    rw [nX3_has_10]
    rfl
  have eM : ∃ u, fX12_done_0 x1 uM = some (0, u) := by
    unfold fX12_done_0
    show ∃ u, (fX12_isLook_0 x1 uN).bind _ = _
    rw [nM_isLook]
    exact ⟨_, rfl⟩
  obtain ⟨u, eM⟩ := eM
  exact agr_of eX eM
theorem pf_clean (x1 x2 x3 x4 : Int32) : agr (fX11_clean_0 x1 x2 x3 x4 uX) (fX12_clean_0 x1 x2 x3 x4 uM) = true := by
  have eX : fX11_clean_0 x1 x2 x3 x4 uX = some (0, uX) := by
    unfold fX11_clean_0
    rw [nX6_has_6]
    rfl
  have eM : ∃ u, fX12_clean_0 x1 x2 x3 x4 uM = some (0, u) := by
    unfold fX12_clean_0
    show ∃ u, (fX12_isPart_0 x1 uN).bind _ = _
    rw [nM_isPart]
    exact ⟨_, rfl⟩
  obtain ⟨u, eM⟩ := eM
  exact agr_of eX eM
theorem pf_narrows (x1 x2 : Int32) : agr (fX11_narrows_0 x1 x2 uX) (fX12_narrows_0 x1 x2 uM) = true := by
  have eX : fX11_narrows_0 x1 x2 uX = some (-100000000, uX) := by
    unfold fX11_narrows_0
    rw [nX3_has_10]
    rfl
  have eM : ∃ u, fX12_narrows_0 x1 x2 uM = some (-100000000, u) := by
    unfold fX12_narrows_0
    show ∃ u, (fX12_isLook_0 x1 uN).bind _ = _
    rw [nM_isLook]
    exact ⟨_, rfl⟩
  obtain ⟨u, eM⟩ := eM
  exact agr_of eX eM
theorem pf_plan (x1 x2 x3 : Int32) : agr (fX11_plan_0 x1 x2 x3 uX) (fX12_plan_0 x1 x2 x3 uM) = true := by
  have eX : fX11_plan_0 x1 x2 x3 uX = some (-1, uX) := by
    unfold fX11_plan_0
    rw [nX7_has_7]
    rfl
  have eM : ∃ u, fX12_plan_0 x1 x2 x3 uM = some (-1, u) := by
    unfold fX12_plan_0
    show ∃ u, (fX12_isReading_0 x1 uN).bind _ = _
    rw [nM_isReading]
    exact ⟨_, rfl⟩
  obtain ⟨u, eM⟩ := eM
  exact agr_of eX eM
theorem pf_judge (x1 x2 : Int32) : agr (fX11_judge_0 x1 x2 uX) (fX12_judge_0 x1 x2 uM) = true := by
  have eX : fX11_judge_0 x1 x2 uX = some (-2, uX) := by
    unfold fX11_judge_0
    rw [nX7_has_7]
    rfl
  have eM : ∃ u, fX12_judge_0 x1 x2 uM = some (-2, u) := by
    unfold fX12_judge_0
    show ∃ u, (fX12_isReading_0 x2 uN).bind _ = _
    rw [nM_isReading]
    exact ⟨_, rfl⟩
  obtain ⟨u, eM⟩ := eM
  exact agr_of eX eM
theorem pf_leans (x1 x2 : Int32) : agr (fX11_leans_0 x1 x2 uX) (fX12_leans_0 x1 x2 uM) = true := by
  have eX : fX11_leans_0 x1 x2 uX = some (-100000000, uX) := by
    unfold fX11_leans_0
    rw [nX7_has_7]
    rfl
  have eM : ∃ u, fX12_leans_0 x1 x2 uM = some (-100000000, u) := by
    unfold fX12_leans_0
    show ∃ u, (fX12_isReading_0 x1 uN).bind _ = _
    rw [nM_isReading]
    exact ⟨_, rfl⟩
  obtain ⟨u, eM⟩ := eM
  exact agr_of eX eM
theorem pf_fits (x1 x2 x3 : Int32) : agr (fX11_fits_0 x1 x2 x3 uX) (fX12_fits_0 x1 x2 x3 uM) = true := by
  have eX : fX11_fits_0 x1 x2 x3 uX = some (-1, uX) := by
    unfold fX11_fits_0
    rcases isDay_c x2 with h | h <;> rw [h]
    · rfl
    show (fX8_has_4 x1 uX).bind _ = _
    rw [nX8_has_4]
    rfl
  have eM : ∃ u, fX12_fits_0 x1 x2 x3 uM = some (-1, u) := by
    unfold fX12_fits_0
    show ∃ u, (fX12_isGuess_0 x1 uN).bind _ = _
    rw [nM_isGuess]
    exact ⟨_, rfl⟩
  obtain ⟨u, eM⟩ := eM
  exact agr_of eX eM
theorem pf_next (x1 x2 x3 x4 : Int32) : agr (fX11_next_0 x1 x2 x3 x4 uX) (fX12_next_0 x1 x2 x3 x4 uM) = true := by
  have eX : fX11_next_0 x1 x2 x3 x4 uX = some (-1, uX) := by
    unfold fX11_next_0
    rcases isDay_c x3 with h | h <;> rw [h]
    · rfl
    show (fX8_has_4 x1 uX).bind _ = _
    rw [nX8_has_4]
    rfl
  have eM : ∃ u, fX12_next_0 x1 x2 x3 x4 uM = some (-1, u) := by
    unfold fX12_next_0
    show ∃ u, (fX12_isGuess_0 x1 uN).bind _ = _
    rw [nM_isGuess]
    exact ⟨_, rfl⟩
  obtain ⟨u, eM⟩ := eM
  exact agr_of eX eM
theorem pf_print (x1 x2 x3 x4 : Int32) : agr (fX11_print_0 x1 x2 x3 x4 uX) (fX12_print_0 x1 x2 x3 x4 uM) = true := by
  have eX : fX11_print_0 x1 x2 x3 x4 uX = some (-1, uX) := by
    unfold fX11_print_0
    rw [nX2_has_11]
    rfl
  have eM : ∃ u, fX12_print_0 x1 x2 x3 x4 uM = some (-1, u) := by
    unfold fX12_print_0
    show ∃ u, (fX12_isHouse_0 x1 uN).bind _ = _
    rw [nM_isHouse]
    exact ⟨_, rfl⟩
  obtain ⟨u, eM⟩ := eM
  exact agr_of eX eM
theorem pf_letter (x1 x2 : Int32) : agr (fX11_letter_0 x1 x2 uX) (fX12_letter_0 x1 x2 uM) = true := by
  have eX : fX11_letter_0 x1 x2 uX = some (0, uX) := by
    unfold fX11_letter_0
    rw [nX2_has_11]
    rfl
  have eM : ∃ u, fX12_letter_0 x1 x2 uM = some (0, u) := by
    unfold fX12_letter_0
    show ∃ u, (fX12_isHouse_0 x1 uN).bind _ = _
    rw [nM_isHouse]
    exact ⟨_, rfl⟩
  obtain ⟨u, eM⟩ := eM
  exact agr_of eX eM
theorem kn_X (x1 x2 x3 x4 v : Int32) : GX11_knows_0_21 x1 x2 x3 x4 v uX = some (-1, uX) := by
  unfold GX11_knows_0_21
  first | (rw [nX2_has_11]; rfl) | (show (fX2_has_11 x1 uX).bind _ = _; rw [nX2_has_11]; rfl)
theorem pf_knows (x1 x2 x3 x4 : Int32) : agr (fX11_knows_0 x1 x2 x3 x4 uX) (fX12_knows_0 x1 x2 x3 x4 uM) = true := by
  have eX : fX11_knows_0 x1 x2 x3 x4 uX = some (-1, uX) := by
    unfold fX11_knows_0
    by_cases h : x2 = 0
    · rw [if_pos h]; exact kn_X _ _ _ _ _
    · rw [if_neg h]; exact kn_X _ _ _ _ _
  have eM : ∃ u, fX12_knows_0 x1 x2 x3 x4 uM = some (-1, u) := by
    unfold fX12_knows_0
    show ∃ u, (fX12_isHouse_0 x1 uN).bind _ = _
    rw [nM_isHouse]
    exact ⟨_, rfl⟩
  obtain ⟨u, eM⟩ := eM
  exact agr_of eX eM
theorem pf_say (x1 : Int32) : agr (fX11_say_0 x1 uX) (fX12_say_0 x1 uM) = true := by
  have eX : fX11_say_0 x1 uX = some (-1, uX) := by
    unfold fX11_say_0
    rw [nX8_has_5]
    rfl
  have eM : ∃ u, fX12_say_0 x1 uM = some (-1, u) := by
    unfold fX12_say_0
    show ∃ u, (fX11_within x1 0 (-1)).bind _ = _
    rw [wi_empty]
    exact ⟨_, rfl⟩
  obtain ⟨u, eM⟩ := eM
  exact agr_of eX eM
set_option maxRecDepth 100000 in
theorem pf_nothing : agr (fX11_nothing_0 uX) (fX12_nothing_0 uM) = true := by decide +kernel
set_option maxRecDepth 100000 in
theorem pf_house : agr (fX11_house_0 uX) (fX12_house_0 uM) = true := by decide +kernel
set_option maxRecDepth 100000 in
theorem pf_met : agr (fX11_met_0 uX) (fX12_met_0 uM) = true := by decide +kernel
set_option maxRecDepth 100000 in
theorem pk_alike : ∀ k, k < 2 → agr (fX11_alike_0 0 (Int32.ofNat k) uX) (fX12_alike_0 0 (Int32.ofNat k) uM) = true := by decide +kernel
theorem pf_alike (x1 x2 : Int32) : agr (fX11_alike_0 x1 x2 uX) (fX12_alike_0 x1 x2 uM) = true := by
  rcases wi_cases x1 0 0 with h | ⟨h, a, b⟩
  · refine agr_of (r := -100000000) (u := uX) (u' := uN) ?_ ?_
    · unfold fX11_alike_0; rw [isDay_no h]; rfl
    · show (fX11_within x1 0 0).bind _ = _
      rw [h]; rfl
  · obtain rfl := q_zero a b
    rcases ei_cases x2 with ⟨e1, e2⟩ | ⟨-, e | e⟩
    · refine agr_of (r := -100000000) (u := uX) (u' := uN) ?_ ?_
      · show (fX11_isEither x2).bind _ = _
        rw [e1]; rfl
      · show (fX11_within x2 0 1).bind _ = _
        rw [e2]; rfl
    · subst e; exact pk_alike 0 (by omega)
    · subst e; exact pk_alike 1 (by omega)
set_option maxRecDepth 100000 in
theorem pk_goes : ∀ k, k < 6 → agr (fX11_goes_0 0 (Int32.ofNat k) uX) (fX12_goes_0 0 (Int32.ofNat k) uM) = true := by decide +kernel
theorem pf_goes (x1 x2 : Int32) : agr (fX11_goes_0 x1 x2 uX) (fX12_goes_0 x1 x2 uM) = true := by
  rcases wi_cases x1 0 0 with h | ⟨h, a, b⟩
  · refine agr_of (r := -100000000) (u := uX) (u' := uN) ?_ ?_
    · unfold fX11_goes_0; rw [isDay_no h]; rfl
    · show (fX11_within x1 0 0).bind _ = _
      rw [h]; rfl
  · obtain rfl := q_zero a b
    rcases wi_cases x2 0 5 with e1 | ⟨-, c, d⟩
    · refine agr_of (r := -100000000) (u := uX) (u' := uN) ?_ ?_
      · show (fX11_within x2 0 5).bind _ = _
        rw [e1]; rfl
      · show (fX11_within x2 0 5).bind _ = _
        rw [e1]; rfl
    · obtain ⟨k, hk, rfl⟩ := in_nat 5 (by omega) c d
      exact pk_goes k hk
set_option maxRecDepth 100000 in
theorem pk_had : ∀ k, k < 2 → agr (fX11_had_0 0 (Int32.ofNat k) uX) (fX12_had_0 0 (Int32.ofNat k) uM) = true := by decide +kernel
theorem pf_had (x1 x2 : Int32) : agr (fX11_had_0 x1 x2 uX) (fX12_had_0 x1 x2 uM) = true := by
  rcases wi_cases x1 0 0 with h | ⟨h, a, b⟩
  · refine agr_of (r := -1) (u := uX) (u' := uN) ?_ ?_
    · unfold fX11_had_0; rw [isDay_no h]; rfl
    · show (fX11_within x1 0 0).bind _ = _
      rw [h]; rfl
  · obtain rfl := q_zero a b
    rcases ei_cases x2 with ⟨e1, e2⟩ | ⟨-, e | e⟩
    · refine agr_of (r := -1) (u := uX) (u' := uN) ?_ ?_
      · show (fX11_isEither x2).bind _ = _
        rw [e1]; rfl
      · show (fX11_within x2 0 1).bind _ = _
        rw [e2]; rfl
    · subst e; exact pk_had 0 (by omega)
    · subst e; exact pk_had 1 (by omega)
set_option maxRecDepth 100000 in
theorem pk_even : ∀ k, k < 2 → agr (fX11_even_0 0 (Int32.ofNat k) uX) (fX12_even_0 0 (Int32.ofNat k) uM) = true := by decide +kernel
theorem pf_even (x1 x2 : Int32) : agr (fX11_even_0 x1 x2 uX) (fX12_even_0 x1 x2 uM) = true := by
  rcases wi_cases x1 0 0 with h | ⟨h, a, b⟩
  · refine agr_of (r := -100000000) (u := uX) (u' := uN) ?_ ?_
    · unfold fX11_even_0; rw [isDay_no h]; rfl
    · show (fX11_within x1 0 0).bind _ = _
      rw [h]; rfl
  · obtain rfl := q_zero a b
    rcases ei_cases x2 with ⟨e1, e2⟩ | ⟨-, e | e⟩
    · refine agr_of (r := -100000000) (u := uX) (u' := uN) ?_ ?_
      · show (fX11_isEither x2).bind _ = _
        rw [e1]; rfl
      · show (fX11_within x2 0 1).bind _ = _
        rw [e2]; rfl
    · subst e; exact pk_even 0 (by omega)
    · subst e; exact pk_even 1 (by omega)
set_option maxRecDepth 100000 in
theorem pk_sets : agr (fX11_sets_0 0 uX) (fX12_sets_0 0 uM) = true := by decide +kernel
theorem pf_sets (x1 : Int32) : agr (fX11_sets_0 x1 uX) (fX12_sets_0 x1 uM) = true := by
  rcases wi_cases x1 0 0 with h | ⟨h, a, b⟩
  · refine agr_of (r := -1) (u := uX) (u' := uN) ?_ ?_
    · unfold fX11_sets_0; rw [isDay_no h]; rfl
    · show (fX11_within x1 0 0).bind _ = _
      rw [h]; rfl
  · obtain rfl := q_zero a b
    exact pk_sets
set_option maxRecDepth 100000 in
theorem pk_sooner : ∀ k, k < 4 → agr (fX11_sooner_0 (Int32.ofNat k) uX) (fX12_sooner_0 (Int32.ofNat k) uM) = true := by decide +kernel
theorem pf_sooner (x1 : Int32) : agr (fX11_sooner_0 x1 uX) (fX12_sooner_0 x1 uM) = true := by
  rcases wi_cases x1 0 3 with h | ⟨h, a, b⟩
  · refine agr_of (r := -1) (u := uX) (u' := uN) ?_ ?_
    · unfold fX11_sooner_0; rw [h]; rfl
    · show (fX11_within x1 0 3).bind _ = _
      rw [h]; rfl
  · obtain ⟨k, hk, rfl⟩ := in_nat 3 (by omega) a b
    exact pk_sooner k hk

set_option maxRecDepth 100000 in
theorem pk_fault : ∀ k, k < 3 → agr (fX11_fault_0 (Int32.ofNat k) uX) (fX12_fault_0 (Int32.ofNat k) uM) = true := by decide +kernel
theorem pf_fault (x1 : Int32) : agr (fX11_fault_0 x1 uX) (fX12_fault_0 x1 uM) = true := by
  rcases wi_cases x1 0 2 with h | ⟨h, a, b⟩
  · have h0 : ¬ x1 = 0 := fun e => by rw [e] at h; cases h
    have h1 : ¬ x1 = 1 := fun e => by rw [e] at h; cases h
    have h2 : ¬ x1 = 2 := fun e => by rw [e] at h; cases h
    have hs : fX11_shelfOf_0 x1 uX = some (0, uX) := by unfold fX11_shelfOf_0; rw [if_neg h0, if_neg h1, if_neg h2]
    refine agr_of (r := -2) (u := uX) (u' := uN) ?_ ?_
    · unfold fX11_fault_0; rw [hs]; rfl
    · show (fX11_within x1 0 2).bind _ = _
      rw [h]; rfl
  · obtain ⟨k, hk, rfl⟩ := in_nat 2 (by omega) a b
    exact pk_fault k hk
set_option maxRecDepth 100000 in
theorem pk_text : ∀ k, k < 3 → agr (fX11_text_0 (Int32.ofNat k) uX) (fX12_text_0 (Int32.ofNat k) uM) = true := by decide +kernel
theorem pf_text (x1 : Int32) : agr (fX11_text_0 x1 uX) (fX12_text_0 x1 uM) = true := by
  rcases wi_cases x1 0 2 with h | ⟨h, a, b⟩
  · have h0 : ¬ x1 = 0 := fun e => by rw [e] at h; cases h
    have h1 : ¬ x1 = 1 := fun e => by rw [e] at h; cases h
    have h2 : ¬ x1 = 2 := fun e => by rw [e] at h; cases h
    have hs : fX11_shelfOf_0 x1 uX = some (0, uX) := by unfold fX11_shelfOf_0; rw [if_neg h0, if_neg h1, if_neg h2]
    refine agr_of (r := -1) (u := uX) (u' := uN) ?_ ?_
    · unfold fX11_text_0; rw [hs]; rfl
    · show (fX11_within x1 0 2).bind _ = _
      rw [h]; rfl
  · obtain ⟨k, hk, rfl⟩ := in_nat 2 (by omega) a b
    exact pk_text k hk
set_option maxRecDepth 100000 in
theorem pk_count : ∀ k, k < 14 → agr (fX11_count_0 (Int32.ofNat k) uX) (fX12_count_0 (Int32.ofNat k) uM) = true := by decide +kernel
theorem pf_count (x1 : Int32) : agr (fX11_count_0 x1 uX) (fX12_count_0 x1 uM) = true := by
  rcases wi_cases x1 0 13 with h | ⟨h, a, b⟩
  · have h0 : ¬ x1 = 0 := fun e => by rw [e] at h; cases h
    have h1 : ¬ x1 = 1 := fun e => by rw [e] at h; cases h
    have h2 : ¬ x1 = 2 := fun e => by rw [e] at h; cases h
    have h3 : ¬ x1 = 3 := fun e => by rw [e] at h; cases h
    have h4 : ¬ x1 = 4 := fun e => by rw [e] at h; cases h
    have h5 : ¬ x1 = 5 := fun e => by rw [e] at h; cases h
    have h6 : ¬ x1 = 6 := fun e => by rw [e] at h; cases h
    have h7 : ¬ x1 = 7 := fun e => by rw [e] at h; cases h
    have h8 : ¬ x1 = 8 := fun e => by rw [e] at h; cases h
    have h9 : ¬ x1 = 9 := fun e => by rw [e] at h; cases h
    have h10 : ¬ x1 = 10 := fun e => by rw [e] at h; cases h
    have h11 : ¬ x1 = 11 := fun e => by rw [e] at h; cases h
    have h12 : ¬ x1 = 12 := fun e => by rw [e] at h; cases h
    have h13 : ¬ x1 = 13 := fun e => by rw [e] at h; cases h
    refine agr_of (r := -1) (u := uX) (u' := uN) ?_ ?_
    · unfold fX11_count_0; rw [if_neg h0, if_neg h1, if_neg h2, if_neg h3, if_neg h4, if_neg h5, if_neg h6, if_neg h7, if_neg h8, if_neg h9, if_neg h10, if_neg h11, if_neg h12, if_neg h13]
    · unfold fX12_count_0 lt; dsimp only; rw [if_neg h0, if_neg h1, if_neg h2, if_neg h3, if_neg h4, if_neg h5, if_neg h6, if_neg h7, if_neg h8, if_neg h9, if_neg h10, if_neg h11, if_neg h12, if_neg h13]; rfl
  · obtain ⟨k, hk, rfl⟩ := in_nat 13 (by omega) a b
    exact pk_count k hk
theorem pf_days (x1 : Int32) : agr (fX11_days_0 x1 uX) (fX12_days_0 x1 uM) = true := by
  rcases wi_cases x1 0 60 with h | ⟨h, a, b⟩
  · refine agr_of (r := -1) (u := uX) (u' := uN) ?_ ?_
    · unfold fX11_days_0; rw [h]; rfl
    · show (fX11_within x1 0 60).bind _ = _
      rw [h]; rfl
  · by_cases c : (0 : Int32) + x1 ≤ 120
    · refine agr_of (r := 0 + x1) (u := sI uX 0 (0 + x1)) (u' := sI uN 1 (0 + x1)) ?_ ?_
      · unfold fX11_days_0; rw [h]
        show (if (0 : Int32) + x1 ≤ 120 then some (0 + x1, sI uX 0 (0 + x1)) else some (-1, uX)) = _
        rw [if_pos c]
      · show (fX11_within x1 0 60).bind _ = _
        rw [h]
        show (if (0 : Int32) + x1 ≤ 120 then some (0 + x1, sI uN 1 (0 + x1)) else some (-1, uN)) = _
        rw [if_pos c]
    · refine agr_of (r := -1) (u := uX) (u' := uN) ?_ ?_
      · unfold fX11_days_0; rw [h]
        show (if (0 : Int32) + x1 ≤ 120 then some (0 + x1, sI uX 0 (0 + x1)) else some (-1, uX)) = _
        rw [if_neg c]
      · show (fX11_within x1 0 60).bind _ = _
        rw [h]
        show (if (0 : Int32) + x1 ≤ 120 then some (0 + x1, sI uN 1 (0 + x1)) else some (-1, uN)) = _
        rw [if_neg c]
theorem pf_end (x1 : Int32) : agr (fX11_end_0 x1 uX) (fX12_end_0 x1 uM) = true := by
  have hX : fX11_end_0 x1 uX = (fX11_within x1 0 0).bind (fun r1 => if r1 = 0 then some (0, uX) else some (1, sI uX 1 x1)) := rfl
  have hM : fX12_end_0 x1 uM = (if x1 < 0 then some (0, uN) else (if x1 ≤ 0 then some (1, sI uN 3 x1) else some (0, uN))) := rfl
  by_cases h1 : x1 < 0
  · refine agr_of (r := 0) (u := uX) (u' := uN) ?_ ?_
    · rw [hX]; unfold fX11_within; rw [if_pos h1]; rfl
    · rw [hM, if_pos h1]
  · by_cases h2 : 0 < x1
    · refine agr_of (r := 0) (u := uX) (u' := uN) ?_ ?_
      · rw [hX]; unfold fX11_within; rw [if_neg h1, if_pos h2]; rfl
      · rw [hM, if_neg h1, if_neg (Int32.not_le.mpr h2)]
    · refine agr_of (r := 1) (u := sI uX 1 x1) (u' := sI uN 3 x1) ?_ ?_
      · rw [hX]; unfold fX11_within; rw [if_neg h1, if_neg h2]; rfl
      · rw [hM, if_neg h1, if_pos (Int32.not_lt.mp h2)]
theorem setAim_X (a b c d e f : Int32) : ∃ u, fX8_setAim_3 a b c d e f uX = some (0, u) ∧ u.1 = uX.1 := by
  have s : ∀ (k : Int32) (hk : ¬ k < 0) (hk2 : ¬ 6 ≤ k) (hk3 : inb k 6 = true) (x : Int32) (u : SX), ∃ u', fX8_set_3 k x u = some (0, u') ∧ u'.1 = u.1 := fun k hk hk2 hk3 x u => by
    refine ⟨sA u 16 (upd (u.2.1 16) k.toNatClampNeg x), ?_, rfl⟩
    unfold fX8_set_3 lt; rw [if_neg hk, if_neg hk2, hk3]; rfl
  obtain ⟨u1, e1, g1⟩ := s 0 (by decide) (by decide) (by decide) a uX
  obtain ⟨u2, e2, g2⟩ := s 1 (by decide) (by decide) (by decide) b u1
  obtain ⟨u3, e3, g3⟩ := s 2 (by decide) (by decide) (by decide) c u2
  obtain ⟨u4, e4, g4⟩ := s 3 (by decide) (by decide) (by decide) d u3
  obtain ⟨u5, e5, g5⟩ := s 4 (by decide) (by decide) (by decide) e u4
  obtain ⟨u6, e6, g6⟩ := s 5 (by decide) (by decide) (by decide) f u5
  refine ⟨u6, ?_, by rw [g6, g5, g4, g3, g2, g1]⟩
  unfold fX8_setAim_3
  simp only [e1, e2, e3, e4, e5, e6, Option.bind_some]
theorem trueSum_X {u : SX} (h : u.1 = uX.1) : fX11_trueSum_0 u = some (0, u) := by
  have h8 : u.1 8 = 0 := by rw [h]; rfl
  unfold fX11_trueSum_0
  rw [LX11_trueSum_0_4, h8]; rfl
theorem season_some (d : Int32) : fX11_seasonOf d = some ((d / 30) - (d / 30) / 4 * 4) := rfl
theorem seasonM_some (d : Int32) : fX12_season d = some ((d / 30) - (d / 30) / 4 * 4) := rfl
theorem trueSum_M (x1 x2 x3 x4 x5 x6 : Int32) : fX12_trueSum_0 x1 x2 x3 x4 x5 x6 uN = some (0, uN) := by
  have e : ∀ s : Int32, fX12_layWorths_0 x2 x3 x4 s x5 x6 uN = some (0, uN) := fun s => by
    unfold fX12_layWorths_0
    rw [LX12_layWorths_0_3]; rfl
  unfold fX12_trueSum_0
  simp only [seasonM_some, e, Option.bind_some]
  rw [LX12_trueSum_0_22]; rfl
theorem pf_sum (x1 x2 x3 x4 x5 x6 : Int32) : agr (fX11_sum_0 x1 x2 x3 x4 x5 x6 uX) (fX12_sum__0 x1 x2 x3 x4 x5 x6 uM) = true := by
  have tM : ∀ d : Int32, fX12_trueSum_0 d x2 x3 x4 x5 x6 (sI uM 0 0) = some (0, uN) := fun d => trueSum_M d x2 x3 x4 x5 x6
  rcases wi_cases x1 0 120 with h | ⟨h, -⟩
  · refine agr_of (r := -100000000) (u := uX) (u' := uN) ?_ ?_
    · unfold fX11_sum_0; rw [h]; rfl
    · unfold fX12_sum__0 lt; simp only [isIn_eq, h, Option.bind_some]; rfl
  · rcases aim_cases x2 x3 x4 x5 x6 with g | g
    · refine agr_of (r := -100000000) (u := uX) (u' := uN) ?_ ?_
      · unfold fX11_sum_0; simp only [h, g, Option.bind_some, one_ne, ↓reduceIte]
      · unfold fX12_sum__0 lt; simp only [isIn_eq, isAim_eq, h, g, Option.bind_some, one_ne, ↓reduceIte]; rfl
    · obtain ⟨u, e1, e2⟩ := setAim_X x2 x3 x4 ((x1 / 30) - (x1 / 30) / 4 * 4) x5 x6
      refine agr_of (r := 0) (u := u) (u' := uN) ?_ ?_
      · unfold fX11_sum_0; simp only [h, g, season_some, e1, trueSum_X e2, Option.bind_some, one_ne, ↓reduceIte]
      · unfold fX12_sum__0 lt; simp only [isIn_eq, isAim_eq, h, g, tM, Option.bind_some, one_ne, ↓reduceIte]
theorem nz_all : ∀ k, k < 51 → nzL (((2 * Int32.ofNat k) + 1).toInt64) = true := by decide +kernel
theorem pf_heard (x1 x2 x3 x4 x5 x6 : Int32) (x7 : Int64) : agr (fX11_heard_0 x1 x2 x3 x4 x5 x6 x7 uX) (fX12_heard_0 x1 x2 x3 x4 x5 x6 x7 uM) = true := by
  have tM : ∀ d : Int32, fX12_trueSum_0 d x1 x2 x3 x4 x5 (sI uM 0 0) = some (0, uN) := fun d => trueSum_M d x1 x2 x3 x4 x5
  have u0 : uX.1 0 = 0 := rfl
  rcases aim_cases x1 x2 x3 x4 x5 with g | g
  · refine agr_of (r := -100000000) (u := uX) (u' := uN) ?_ ?_
    · unfold fX11_heard_0; rw [g]; rfl
    · unfold fX12_heard_0 lt; simp only [isAim_eq, g, Option.bind_some]; rfl
  · rcases wi_cases x6 0 50 with h | ⟨h, a, b⟩
    · refine agr_of (r := -100000000) (u := uX) (u' := uN) ?_ ?_
      · unfold fX11_heard_0; simp only [h, g, Option.bind_some, one_ne, ↓reduceIte]
      · unfold fX12_heard_0 lt; simp only [isIn_eq, isAim_eq, h, g, Option.bind_some, one_ne, ↓reduceIte]; rfl
    · obtain ⟨k, hk, e6⟩ := in_nat 50 (by omega) a b
      have hz : nzL (((2 * x6) + 1).toInt64) = true := by rw [e6]; exact nz_all k hk
      obtain ⟨u, e1, e2⟩ := setAim_X x1 x2 x3 (((0 : Int32) / 30) - ((0 : Int32) / 30) / 4 * 4) x4 x5
      have hX : fX11_heard_0 x1 x2 x3 x4 x5 x6 x7 uX = some ((0 + (((((x7 * 6364136223846793005) + 1442695040888963407).toUInt64 >>> ((33 : Int32).toInt64.toUInt64 &&& Int64.toUInt64 63)).toInt64 - ((((x7 * 6364136223846793005) + 1442695040888963407).toUInt64 >>> ((33 : Int32).toInt64.toUInt64 &&& Int64.toUInt64 63)).toInt64) / (((2 * x6) + 1).toInt64) * (((2 * x6) + 1).toInt64)).toInt32)) - x6, u) := by
        unfold fX11_heard_0 lt
        simp only [h, g, u0, season_some, e1, trueSum_X e2, Option.bind_some, one_ne, ↓reduceIte]
        rw [hz]; rfl
      have hM : fX12_heard_0 x1 x2 x3 x4 x5 x6 x7 uM = some ((0 + (((((x7 * 6364136223846793005) + 1442695040888963407).toUInt64 >>> ((33 : Int32).toInt64.toUInt64 &&& Int64.toUInt64 63)).toInt64 - ((((x7 * 6364136223846793005) + 1442695040888963407).toUInt64 >>> ((33 : Int32).toInt64.toUInt64 &&& Int64.toUInt64 63)).toInt64) / (((2 * x6) + 1).toInt64) * (((2 * x6) + 1).toInt64)).toInt32)) - x6, uN) := by
        unfold fX12_heard_0 lt
        simp only [isIn_eq, isAim_eq, h, g, tM, Option.bind_some, one_ne, ↓reduceIte]
        rw [hz]; rfl
      exact agr_of hX hM
theorem add_X {u : SX} (x y : Int32) (h : u.1 = uX.1) : ∃ u', fX7_add_7 x y u = some (0, u') := by
  have h13 : u.1 13 = 0 := by rw [h]; rfl
  unfold fX7_add_7 lt sA sI
  dsimp only
  simp only [h13]
  exact ⟨_, rfl⟩
theorem sA_1 (u : SX) (k : Nat) (f : Nat → Int32) : (sA u k f).1 = u.1 := rfl
theorem sI_same (u : SX) (k : Nat) (v : Int32) : (sI u k v).1 k = v := by
  show (bif Nat.beq k k then v else u.1 k) = v
  rw [Nat.beq_refl]; rfl
theorem m15v : (sI uM 0 0).1 15 = 0 := rfl
theorem i50 : inb (5 * 0) 400 = true := by decide
theorem i51 : inb (5 * 0 + 1) 400 = true := by decide
theorem i52 : inb (5 * 0 + 2) 400 = true := by decide
theorem i53 : inb (5 * 0 + 3) 400 = true := by decide
theorem i54 : inb (5 * 0 + 4) 400 = true := by decide
theorem i80 : inb 0 80 = true := by decide
theorem gd_t {α : Type} (k : Option α) : gd true k = k := rfl
theorem pf_read (x1 x2 x3 x4 x5 x6 : Int32) : agr (fX11_read_0 x1 x2 x3 x4 x5 x6 uX) (fX12_read_0 x1 x2 x3 x4 x5 x6 uM) = true := by
  have u0 : uX.1 0 = 0 := rfl
  have u13 : (uX.1 13 < 80) = True := eq_true (by decide)
  have m15 : ((sI uM 0 0).1 15 = 80) = False := eq_false (by decide)
  rcases aim_cases x1 x2 x3 x4 x5 with g | g
  · refine agr_of (r := -1) (u := uX) (u' := uN) ?_ ?_
    · unfold fX11_read_0; rw [g]; rfl
    · unfold fX12_read_0 lt; simp only [isAim_eq, g, m15, Option.bind_some, ↓reduceIte]; rfl
  · rcases wi_cases x6 (-100000) 100000 with h | ⟨h, -⟩
    · refine agr_of (r := -1) (u := uX) (u' := uN) ?_ ?_
      · unfold fX11_read_0; simp only [h, g, Option.bind_some, one_ne, ↓reduceIte]
      · unfold fX12_read_0 lt; simp only [isIn_eq, isAim_eq, h, g, m15, Option.bind_some, one_ne, ↓reduceIte]; rfl
    · obtain ⟨u, e1, e2⟩ := setAim_X x1 x2 x3 (((0 : Int32) / 30) - ((0 : Int32) / 30) / 4 * 4) x4 x5
      obtain ⟨u2, e3⟩ := add_X (u := u) x6 (u.1 0) e2
      have eM : ∃ u', fX12_read_0 x1 x2 x3 x4 x5 x6 uM = some (0, u') := by
        unfold fX12_read_0 lt
        simp only [isIn_eq, isAim_eq, h, g, m15, Option.bind_some, one_ne, ↓reduceIte, sA_1, sI_same, m15v, i50, i51, i52, i53, i54, i80, gd_t]
        exact ⟨_, rfl⟩
      obtain ⟨u', eM⟩ := eM
      refine agr_of (r := 0) (u := u2) (u' := u') ?_ eM
      unfold fX11_read_0
      simp only [h, g, u0, u13, season_some, e1, e3, Option.bind_some, one_ne, ↓reduceIte]

