def mdX12_could_0 : MD := ([0, 2, 4, 5, 6, 7, 8, 9, 10, 11, 16, 17], [5, 16, 17, 18, 24], [], [])
abbrev qX12_could_0 (u : SX) (q : Int32 × SX) : Prop := StM mdX12_could_0 u q.2 ∧ ((-1) ≤ q.1.toInt ∧ q.1.toInt ≤ 400) ∧ (True)
set_option maxHeartbeats 400000 in
set_option maxRecDepth 10000 in
theorem tLX12_could_0_54 (u0 : SX)  {k76 : Int32 → Int32 → Int32 → Int32 → Int32 → SX → Option (Int32 × SX)} (hk76 : ∀ (z1 : Int32) (z2 : Int32) (z3 : Int32) (z4 : Int32) (z5 : Int32) (u : SX), (StM mdX12_could_0 u0 u) → (0 ≤ z1.toInt ∧ z1.toInt ≤ 11) → (0 ≤ z2.toInt ∧ z2.toInt ≤ 120) → (0 ≤ z3.toInt ∧ z3.toInt ≤ 1) → (0 ≤ z4.toInt ∧ z4.toInt ≤ 0) → (400 ≤ z5.toInt ∧ z5.toInt ≤ 400) → Tot (k76 z1 z2 z3 z4 z5 u) (qX12_could_0 u0)) : ∀ (n : Nat) (z1 : Int32) (z2 : Int32) (z3 : Int32) (z4 : Int32) (z5 : Int32) (z6 : Int32) (u : SX), (StM mdX12_could_0 u0 u) → (0 ≤ z1.toInt ∧ z1.toInt ≤ 11) → (0 ≤ z2.toInt ∧ z2.toInt ≤ 120) → (0 ≤ z3.toInt ∧ z3.toInt ≤ 1) → (0 ≤ z4.toInt ∧ z4.toInt ≤ 0) → (400 ≤ z5.toInt ∧ z5.toInt ≤ 400) → (0 ≤ z6.toInt ∧ z6.toInt ≤ 401) → (401 - z6.toInt < (n : Int)) → Tot (LX12_could_0_54 k76 n z1 z2 z3 z4 z5 z6 u) (qX12_could_0 u0) := by
  intro n
  induction n with
  | zero =>
    intro z1 z2 z3 z4 z5 z6 u hs_u h0 h1 h2 h3 h4 h5 hm
    exfalso
    omega
  | succ n ih =>
    intro z1 z2 z3 z4 z5 z6 u hs_u h0 h1 h2 h3 h4 h5 hm
    rw [LX12_could_0_54]
    refine Tot_ite (fun c406 => ?_) (fun c406 => ?_)
    · have : (400 : Int) < z6.toInt := ltI c406
      exact hk76 z1 z2 z3 z4 z5 u hs_u ⟨by omega, by omega⟩ ⟨by omega, by omega⟩ ⟨by omega, by omega⟩ ⟨by omega, by omega⟩ ⟨by omega, by omega⟩
    · have : ¬ (400 : Int) < z6.toInt := nltI c406
      refine Tot_gd (inb_t (by omega) (by omega)) ?_
      have := narz_t 1
      refine Tot_lt (fun u17 e_u17 => ?_)
      have hs_u17 : StM mdX12_could_0 u0 u17 := by rw [e_u17]; exact StM_sA hs_u (by decide) (by show 0 ≤ (vp_nar .boolean 1).toInt; omega) (by show (vp_nar .boolean 1).toInt ≤ 1; omega) (by decide)
      have : (z6 + 1).toInt = z6.toInt + (1 : Int) := addc_t (by decide) (by omega) (by omega)
      exact ih z1 z2 z3 z4 z5 (z6 + 1) u17 hs_u17 ⟨by omega, by omega⟩ ⟨by omega, by omega⟩ ⟨by omega, by omega⟩ ⟨by omega, by omega⟩ ⟨by omega, by omega⟩ ⟨by omega, by omega⟩ (by omega)
set_option maxHeartbeats 400000 in
set_option maxRecDepth 10000 in
theorem tGX12_could_0_197 (u0 : SX) (g136 : Int) (g79 : Int) {k136 : Int32 → Int32 → Int32 → Int32 → Int32 → Int32 → Int32 → Int32 → Int32 → SX → Option (Int32 × SX)} (hk136 : ∀ (z1 : Int32) (z2 : Int32) (z3 : Int32) (z4 : Int32) (z5 : Int32) (z6 : Int32) (z7 : Int32) (z8 : Int32) (z9 : Int32) (u : SX), (StM mdX12_could_0 u0 u) → (0 ≤ z1.toInt ∧ z1.toInt ≤ 11) → (0 ≤ z2.toInt ∧ z2.toInt ≤ 120) → (0 ≤ z3.toInt ∧ z3.toInt ≤ 1) → (0 ≤ z4.toInt ∧ z4.toInt ≤ 0) → (400 ≤ z5.toInt ∧ z5.toInt ≤ 400) → (0 ≤ z6.toInt ∧ z6.toInt ≤ 79) → (0 ≤ z9.toInt ∧ z9.toInt ≤ 401) → (g79 ≤ z6.toInt) → (g136 < z9.toInt) → Tot (k136 z1 z2 z3 z4 z5 z6 z7 z8 z9 u) (qX12_could_0 u0)) (z1 : Int32) (z2 : Int32) (z3 : Int32) (z4 : Int32) (z5 : Int32) (z6 : Int32) (z7 : Int32) (z8 : Int32) (z9 : Int32) (y0 : Int32) (y1 : Int32) (u : SX) (hs_u : StM mdX12_could_0 u0 u) (h0 : 0 ≤ z1.toInt ∧ z1.toInt ≤ 11) (h1 : 0 ≤ z2.toInt ∧ z2.toInt ≤ 120) (h2 : 0 ≤ z3.toInt ∧ z3.toInt ≤ 1) (h3 : 0 ≤ z4.toInt ∧ z4.toInt ≤ 0) (h4 : 400 ≤ z5.toInt ∧ z5.toInt ≤ 400) (h5 : 0 ≤ z6.toInt ∧ z6.toInt ≤ 79) (h6 : 0 ≤ z9.toInt ∧ z9.toInt ≤ 400) (h7 : 0 ≤ y0.toInt ∧ y0.toInt ≤ 1) (h8 : 0 ≤ y1.toInt ∧ y1.toInt ≤ 400) (h9 : g136 ≤ z9.toInt) (h10 : g79 ≤ z6.toInt) : Tot (GX12_could_0_197 k136 z1 z2 z3 z4 z5 z6 z7 z8 z9 y0 y1 u) (qX12_could_0 u0) := by
  unfold GX12_could_0_197
  refine Tot_gd (inb_t (by omega) (by omega)) ?_
  have := narz_t y0
  refine Tot_lt (fun u35 e_u35 => ?_)
  have hs_u35 : StM mdX12_could_0 u0 u35 := by rw [e_u35]; exact StM_sA hs_u (by decide) (by show 0 ≤ (vp_nar .boolean y0).toInt; omega) (by show (vp_nar .boolean y0).toInt ≤ 1; omega) (by decide)
  have : (z9 + 1).toInt = z9.toInt + (1 : Int) := addc_t (by decide) (by omega) (by omega)
  exact hk136 z1 z2 z3 z4 z5 z6 z7 z8 (z9 + 1) u35 hs_u35 ⟨by omega, by omega⟩ ⟨by omega, by omega⟩ ⟨by omega, by omega⟩ ⟨by omega, by omega⟩ ⟨by omega, by omega⟩ ⟨by omega, by omega⟩ ⟨by omega, by omega⟩ (by omega) (by omega)
set_option maxHeartbeats 400000 in
set_option maxRecDepth 10000 in
theorem tGX12_could_0_196 (u0 : SX) (g136 : Int) (g79 : Int) {k136 : Int32 → Int32 → Int32 → Int32 → Int32 → Int32 → Int32 → Int32 → Int32 → SX → Option (Int32 × SX)} (hk136 : ∀ (z1 : Int32) (z2 : Int32) (z3 : Int32) (z4 : Int32) (z5 : Int32) (z6 : Int32) (z7 : Int32) (z8 : Int32) (z9 : Int32) (u : SX), (StM mdX12_could_0 u0 u) → (0 ≤ z1.toInt ∧ z1.toInt ≤ 11) → (0 ≤ z2.toInt ∧ z2.toInt ≤ 120) → (0 ≤ z3.toInt ∧ z3.toInt ≤ 1) → (0 ≤ z4.toInt ∧ z4.toInt ≤ 0) → (400 ≤ z5.toInt ∧ z5.toInt ≤ 400) → (0 ≤ z6.toInt ∧ z6.toInt ≤ 79) → (0 ≤ z9.toInt ∧ z9.toInt ≤ 401) → (g79 ≤ z6.toInt) → (g136 < z9.toInt) → Tot (k136 z1 z2 z3 z4 z5 z6 z7 z8 z9 u) (qX12_could_0 u0)) (z1 : Int32) (z2 : Int32) (z3 : Int32) (z4 : Int32) (z5 : Int32) (z6 : Int32) (z7 : Int32) (z8 : Int32) (z9 : Int32) (y0 : Int32) (u : SX) (hs_u : StM mdX12_could_0 u0 u) (h0 : 0 ≤ z1.toInt ∧ z1.toInt ≤ 11) (h1 : 0 ≤ z2.toInt ∧ z2.toInt ≤ 120) (h2 : 0 ≤ z3.toInt ∧ z3.toInt ≤ 1) (h3 : 0 ≤ z4.toInt ∧ z4.toInt ≤ 0) (h4 : 400 ≤ z5.toInt ∧ z5.toInt ≤ 400) (h5 : 0 ≤ z6.toInt ∧ z6.toInt ≤ 79) (h6 : 0 ≤ z9.toInt ∧ z9.toInt ≤ 400) (h7 : 0 ≤ y0.toInt ∧ y0.toInt ≤ 400) (h8 : g136 ≤ z9.toInt) (h9 : g79 ≤ z6.toInt) : Tot (GX12_could_0_196 k136 z1 z2 z3 z4 z5 z6 z7 z8 z9 y0 u) (qX12_could_0 u0) := by
  unfold GX12_could_0_196
  exact tGX12_could_0_197 u0 g136 g79 hk136 z1 z2 z3 z4 z5 z6 z7 z8 z9 0 y0 u hs_u ⟨by omega, by omega⟩ ⟨by omega, by omega⟩ ⟨by omega, by omega⟩ ⟨by omega, by omega⟩ ⟨by omega, by omega⟩ ⟨by omega, by omega⟩ ⟨by omega, by omega⟩ (by show 0 ≤ (0 : Int) ∧ (0 : Int) ≤ 1; omega) ⟨by omega, by omega⟩ (by omega) (by omega)
set_option maxHeartbeats 400000 in
set_option maxRecDepth 10000 in
theorem tLX12_could_0_136 (u0 : SX) (g79 : Int) {k204 : Int32 → Int32 → Int32 → Int32 → Int32 → Int32 → SX → Option (Int32 × SX)} (hk204 : ∀ (z1 : Int32) (z2 : Int32) (z3 : Int32) (z4 : Int32) (z5 : Int32) (z6 : Int32) (u : SX), (StM mdX12_could_0 u0 u) → (0 ≤ z1.toInt ∧ z1.toInt ≤ 11) → (0 ≤ z2.toInt ∧ z2.toInt ≤ 120) → (0 ≤ z3.toInt ∧ z3.toInt ≤ 1) → (0 ≤ z4.toInt ∧ z4.toInt ≤ 0) → (400 ≤ z5.toInt ∧ z5.toInt ≤ 400) → (0 ≤ z6.toInt ∧ z6.toInt ≤ 79) → (g79 ≤ z6.toInt) → Tot (k204 z1 z2 z3 z4 z5 z6 u) (qX12_could_0 u0)) : ∀ (n : Nat) (z1 : Int32) (z2 : Int32) (z3 : Int32) (z4 : Int32) (z5 : Int32) (z6 : Int32) (z7 : Int32) (z8 : Int32) (z9 : Int32) (u : SX), (StM mdX12_could_0 u0 u) → (0 ≤ z1.toInt ∧ z1.toInt ≤ 11) → (0 ≤ z2.toInt ∧ z2.toInt ≤ 120) → (0 ≤ z3.toInt ∧ z3.toInt ≤ 1) → (0 ≤ z4.toInt ∧ z4.toInt ≤ 0) → (400 ≤ z5.toInt ∧ z5.toInt ≤ 400) → (0 ≤ z6.toInt ∧ z6.toInt ≤ 79) → (0 ≤ z9.toInt ∧ z9.toInt ≤ 401) → (g79 ≤ z6.toInt) → (401 - z9.toInt < (n : Int)) → Tot (LX12_could_0_136 k204 n z1 z2 z3 z4 z5 z6 z7 z8 z9 u) (qX12_could_0 u0) := by
  intro n
  induction n with
  | zero =>
    intro z1 z2 z3 z4 z5 z6 z7 z8 z9 u hs_u h0 h1 h2 h3 h4 h5 h6 h7 hm
    exfalso
    omega
  | succ n ih =>
    intro z1 z2 z3 z4 z5 z6 z7 z8 z9 u hs_u h0 h1 h2 h3 h4 h5 h6 h7 hm
    rw [LX12_could_0_136]
    refine Tot_ite (fun c407 => ?_) (fun c407 => ?_)
    · have : (400 : Int) < z9.toInt := ltI c407
      exact hk204 z1 z2 z3 z4 z5 z6 u hs_u ⟨by omega, by omega⟩ ⟨by omega, by omega⟩ ⟨by omega, by omega⟩ ⟨by omega, by omega⟩ ⟨by omega, by omega⟩ ⟨by omega, by omega⟩ (by omega)
    · have : ¬ (400 : Int) < z9.toInt := nltI c407
      refine Tot_gd (inb_t (by omega) (by omega)) ?_
      have : 0 ≤ (u.2.1 24 z9.toNatClampNeg).toInt ∧ (u.2.1 24 z9.toNatClampNeg).toInt ≤ 1 := hs_u.1.2.1 24 z9.toNatClampNeg
      refine Tot_ite (fun c408 => ?_) (fun c408 => ?_)
      · have : (u.2.1 24 z9.toNatClampNeg).toInt = (0 : Int) := eqI c408
        exact tGX12_could_0_196 u0 (z9.toInt) g79 (fun a409 a410 a411 a412 a413 a414 a415 a416 a417 w418 hw418 p419 p420 p421 p422 p423 p424 p425 p426 p427 => ih a409 a410 a411 a412 a413 a414 a415 a416 a417 w418 hw418 p419 p420 p421 p422 p423 p424 p425 p426 (by omega)) z1 z2 z3 z4 z5 z6 z7 z8 z9 z9 u hs_u ⟨by omega, by omega⟩ ⟨by omega, by omega⟩ ⟨by omega, by omega⟩ ⟨by omega, by omega⟩ ⟨by omega, by omega⟩ ⟨by omega, by omega⟩ ⟨by omega, by omega⟩ ⟨by omega, by omega⟩ (by omega) (by omega)
      · have : ¬ (u.2.1 24 z9.toNatClampNeg).toInt = (0 : Int) := neI c408
        refine Tot_gd (inb_t (by omega) (by omega)) ?_
        refine Tot_bind (tfX12_shines z9 (u.2.1 18 z1.toNatClampNeg)) (fun r38 hq => ?_)
        clear hq
        refine Tot_ite (fun c428 => ?_) (fun c428 => ?_)
        · exact tGX12_could_0_196 u0 (z9.toInt) g79 (fun a429 a430 a431 a432 a433 a434 a435 a436 a437 w438 hw438 p439 p440 p441 p442 p443 p444 p445 p446 p447 => ih a429 a430 a431 a432 a433 a434 a435 a436 a437 w438 hw438 p439 p440 p441 p442 p443 p444 p445 p446 (by omega)) z1 z2 z3 z4 z5 z6 z7 z8 z9 z9 u hs_u ⟨by omega, by omega⟩ ⟨by omega, by omega⟩ ⟨by omega, by omega⟩ ⟨by omega, by omega⟩ ⟨by omega, by omega⟩ ⟨by omega, by omega⟩ ⟨by omega, by omega⟩ ⟨by omega, by omega⟩ (by omega) (by omega)
        · refine Tot_gd (inb_t (by omega) (by omega)) ?_
          refine Tot_bind (tfX12_shines z9 (u.2.1 18 z1.toNatClampNeg)) (fun r42 hq => ?_)
          clear hq
          refine Tot_ite (fun c448 => ?_) (fun c448 => ?_)
          · exact tGX12_could_0_196 u0 (z9.toInt) g79 (fun a449 a450 a451 a452 a453 a454 a455 a456 a457 w458 hw458 p459 p460 p461 p462 p463 p464 p465 p466 p467 => ih a449 a450 a451 a452 a453 a454 a455 a456 a457 w458 hw458 p459 p460 p461 p462 p463 p464 p465 p466 (by omega)) z1 z2 z3 z4 z5 z6 z7 z8 z9 z9 u hs_u ⟨by omega, by omega⟩ ⟨by omega, by omega⟩ ⟨by omega, by omega⟩ ⟨by omega, by omega⟩ ⟨by omega, by omega⟩ ⟨by omega, by omega⟩ ⟨by omega, by omega⟩ ⟨by omega, by omega⟩ (by omega) (by omega)
          · exact tGX12_could_0_197 u0 (z9.toInt) g79 (fun a468 a469 a470 a471 a472 a473 a474 a475 a476 w477 hw477 p478 p479 p480 p481 p482 p483 p484 p485 p486 => ih a468 a469 a470 a471 a472 a473 a474 a475 a476 w477 hw477 p478 p479 p480 p481 p482 p483 p484 p485 (by omega)) z1 z2 z3 z4 z5 z6 z7 z8 z9 1 z9 u hs_u ⟨by omega, by omega⟩ ⟨by omega, by omega⟩ ⟨by omega, by omega⟩ ⟨by omega, by omega⟩ ⟨by omega, by omega⟩ ⟨by omega, by omega⟩ ⟨by omega, by omega⟩ (by show 0 ≤ (1 : Int) ∧ (1 : Int) ≤ 1; omega) ⟨by omega, by omega⟩ (by omega) (by omega)
set_option maxHeartbeats 400000 in
set_option maxRecDepth 10000 in
theorem tGX12_could_0_204 (u0 : SX) (g79 : Int) {k79 : Int32 → Int32 → Int32 → Int32 → Int32 → Int32 → SX → Option (Int32 × SX)} (hk79 : ∀ (z1 : Int32) (z2 : Int32) (z3 : Int32) (z4 : Int32) (z5 : Int32) (z6 : Int32) (u : SX), (StM mdX12_could_0 u0 u) → (0 ≤ z1.toInt ∧ z1.toInt ≤ 11) → (0 ≤ z2.toInt ∧ z2.toInt ≤ 120) → (0 ≤ z3.toInt ∧ z3.toInt ≤ 1) → (0 ≤ z4.toInt ∧ z4.toInt ≤ 0) → (400 ≤ z5.toInt ∧ z5.toInt ≤ 400) → (0 ≤ z6.toInt ∧ z6.toInt ≤ 80) → (g79 < z6.toInt) → Tot (k79 z1 z2 z3 z4 z5 z6 u) (qX12_could_0 u0)) (z1 : Int32) (z2 : Int32) (z3 : Int32) (z4 : Int32) (z5 : Int32) (z6 : Int32) (u : SX) (hs_u : StM mdX12_could_0 u0 u) (h0 : 0 ≤ z1.toInt ∧ z1.toInt ≤ 11) (h1 : 0 ≤ z2.toInt ∧ z2.toInt ≤ 120) (h2 : 0 ≤ z3.toInt ∧ z3.toInt ≤ 1) (h3 : 0 ≤ z4.toInt ∧ z4.toInt ≤ 0) (h4 : 400 ≤ z5.toInt ∧ z5.toInt ≤ 400) (h5 : 0 ≤ z6.toInt ∧ z6.toInt ≤ 79) (h6 : g79 ≤ z6.toInt) : Tot (GX12_could_0_204 k79 z1 z2 z3 z4 z5 z6 u) (qX12_could_0 u0) := by
  unfold GX12_could_0_204
  have : (z6 + 1).toInt = z6.toInt + (1 : Int) := addc_t (by decide) (by omega) (by omega)
  exact hk79 z1 z2 z3 z4 z5 (z6 + 1) u hs_u ⟨by omega, by omega⟩ ⟨by omega, by omega⟩ ⟨by omega, by omega⟩ ⟨by omega, by omega⟩ ⟨by omega, by omega⟩ ⟨by omega, by omega⟩ (by omega)
set_option maxHeartbeats 400000 in
set_option maxRecDepth 10000 in
theorem tLX12_could_0_79 (u0 : SX)  {k210 : Int32 → Int32 → Int32 → SX → Option (Int32 × SX)} (hk210 : ∀ (z3 : Int32) (z4 : Int32) (z5 : Int32) (u : SX), (StM mdX12_could_0 u0 u) → (0 ≤ z3.toInt ∧ z3.toInt ≤ 1) → (0 ≤ z4.toInt ∧ z4.toInt ≤ 401) → (400 ≤ z5.toInt ∧ z5.toInt ≤ 400) → Tot (k210 z3 z4 z5 u) (qX12_could_0 u0)) : ∀ (n : Nat) (z1 : Int32) (z2 : Int32) (z3 : Int32) (z4 : Int32) (z5 : Int32) (z6 : Int32) (u : SX), (StM mdX12_could_0 u0 u) → (0 ≤ z1.toInt ∧ z1.toInt ≤ 11) → (0 ≤ z2.toInt ∧ z2.toInt ≤ 120) → (0 ≤ z3.toInt ∧ z3.toInt ≤ 1) → (0 ≤ z4.toInt ∧ z4.toInt ≤ 0) → (400 ≤ z5.toInt ∧ z5.toInt ≤ 400) → (0 ≤ z6.toInt ∧ z6.toInt ≤ 80) → (80 - z6.toInt < (n : Int)) → Tot (LX12_could_0_79 k210 n z1 z2 z3 z4 z5 z6 u) (qX12_could_0 u0) := by
  intro n
  induction n with
  | zero =>
    intro z1 z2 z3 z4 z5 z6 u hs_u h0 h1 h2 h3 h4 h5 hm
    exfalso
    omega
  | succ n ih =>
    intro z1 z2 z3 z4 z5 z6 u hs_u h0 h1 h2 h3 h4 h5 hm
    rw [LX12_could_0_79]
    have : 0 ≤ (u.1 15).toInt ∧ (u.1 15).toInt ≤ 80 := hs_u.1.1 15
    refine Tot_ite (fun c487 => ?_) (fun c487 => ?_)
    · have : (u.1 15).toInt ≤ z6.toInt := leI c487
      exact hk210 z3 z4 z5 u hs_u ⟨by omega, by omega⟩ ⟨by omega, by omega⟩ ⟨by omega, by omega⟩
    · have : ¬ (u.1 15).toInt ≤ z6.toInt := nleI c487
      refine Tot_gd (inb_t (by omega) (by omega)) ?_
      have : 0 ≤ (u.2.1 21 z6.toNatClampNeg).toInt ∧ (u.2.1 21 z6.toNatClampNeg).toInt ≤ 120 := hs_u.1.2.1 21 z6.toNatClampNeg
      refine Tot_ite (fun c488 => ?_) (fun c488 => ?_)
      · have : (u.2.1 21 z6.toNatClampNeg).toInt ≤ z2.toInt := leI c488
        refine Tot_bind (tfX12_layLeft_0 z6 z2 u hs_u.1 ⟨by omega, by omega⟩ ⟨by omega, by omega⟩) (fun q hq => ?_)
        obtain ⟨r20, u21⟩ := q
        have hc_u21 : StM mdX12_layLeft_0 u u21 := hq.1
        have hs_u21 : StM mdX12_could_0 u0 u21 := StM_tr hs_u hc_u21 (by decide)
        have : 0 ≤ r20.toInt ∧ r20.toInt ≤ 0 := hq.2.1
        clear hq
        refine Tot_bind (tfX12_most_0 z1 u21 hs_u21.1 ⟨by omega, by omega⟩) (fun q hq => ?_)
        obtain ⟨r23, u24⟩ := q
        have hc_u24 : StM mdX12_most_0 u21 u24 := hq.1
        have hs_u24 : StM mdX12_could_0 u0 u24 := StM_tr hs_u21 hc_u24 (by decide)
        clear hq
        refine Tot_lt (fun v26 e_v26 => ?_)
        refine Tot_bind (tfX12_least_0 z1 u24 hs_u24.1 ⟨by omega, by omega⟩) (fun q hq => ?_)
        obtain ⟨r28, u29⟩ := q
        have hc_u29 : StM mdX12_least_0 u24 u29 := hq.1
        have hs_u29 : StM mdX12_could_0 u0 u29 := StM_tr hs_u24 hc_u29 (by decide)
        clear hq
        have : (u24.1 17).toInt = (u21.1 17).toInt := congrArg Int32.toInt (hc_u24.2.1 17 (by decide))
        refine Tot_lt (fun v31 e_v31 => ?_)
        exact tLX12_could_0_136 u0 (z6.toInt) (tGX12_could_0_204 u0 (z6.toInt) (fun a489 a490 a491 a492 a493 a494 w495 hw495 p496 p497 p498 p499 p500 p501 p502 => ih a489 a490 a491 a492 a493 a494 w495 hw495 p496 p497 p498 p499 p500 p501 (by omega))) 5000 z1 z2 z3 z4 z5 z6 v26 v31 0 u29 hs_u29 ⟨by omega, by omega⟩ ⟨by omega, by omega⟩ ⟨by omega, by omega⟩ ⟨by omega, by omega⟩ ⟨by omega, by omega⟩ ⟨by omega, by omega⟩ (by show 0 ≤ (0 : Int) ∧ (0 : Int) ≤ 401; omega) (by omega) (by show 401 - (0 : Int) < ((5000 : Nat) : Int); omega)
      · have : ¬ (u.2.1 21 z6.toNatClampNeg).toInt ≤ z2.toInt := nleI c488
        exact tGX12_could_0_204 u0 (z6.toInt) (fun a503 a504 a505 a506 a507 a508 w509 hw509 p510 p511 p512 p513 p514 p515 p516 => ih a503 a504 a505 a506 a507 a508 w509 hw509 p510 p511 p512 p513 p514 p515 (by omega)) z1 z2 z3 z4 z5 z6 u hs_u ⟨by omega, by omega⟩ ⟨by omega, by omega⟩ ⟨by omega, by omega⟩ ⟨by omega, by omega⟩ ⟨by omega, by omega⟩ ⟨by omega, by omega⟩ (by omega)
set_option maxHeartbeats 400000 in
set_option maxRecDepth 10000 in
theorem tLX12_could_0_210 (u0 : SX)  {k234 : Int32 → Int32 → Int32 → SX → Option (Int32 × SX)} (hk234 : ∀ (z3 : Int32) (z4 : Int32) (z5 : Int32) (u : SX), (StM mdX12_could_0 u0 u) → (0 ≤ z3.toInt ∧ z3.toInt ≤ 1) → (0 ≤ z4.toInt ∧ z4.toInt ≤ 401) → ((-1) ≤ z5.toInt ∧ z5.toInt ≤ 400) → Tot (k234 z3 z4 z5 u) (qX12_could_0 u0)) : ∀ (n : Nat) (z3 : Int32) (z4 : Int32) (z5 : Int32) (u : SX), (StM mdX12_could_0 u0 u) → (0 ≤ z3.toInt ∧ z3.toInt ≤ 1) → (0 ≤ z4.toInt ∧ z4.toInt ≤ 401) → (400 ≤ z5.toInt ∧ z5.toInt ≤ 400) → (401 - z4.toInt < (n : Int)) → Tot (LX12_could_0_210 k234 n z3 z4 z5 u) (qX12_could_0 u0) := by
  intro n
  induction n with
  | zero =>
    intro z3 z4 z5 u hs_u h0 h1 h2 hm
    exfalso
    omega
  | succ n ih =>
    intro z3 z4 z5 u hs_u h0 h1 h2 hm
    rw [LX12_could_0_210]
    refine Tot_ite (fun c517 => ?_) (fun c517 => ?_)
    · have : (400 : Int) < z4.toInt := ltI c517
      exact hk234 z3 z4 z5 u hs_u ⟨by omega, by omega⟩ ⟨by omega, by omega⟩ ⟨by omega, by omega⟩
    · have : ¬ (400 : Int) < z4.toInt := nltI c517
      refine Tot_gd (inb_t (by omega) (by omega)) ?_
      have : 0 ≤ (u.2.1 24 z4.toNatClampNeg).toInt ∧ (u.2.1 24 z4.toNatClampNeg).toInt ≤ 1 := hs_u.1.2.1 24 z4.toNatClampNeg
      refine Tot_ite (fun c518 => ?_) (fun c518 => ?_)
      · have : (u.2.1 24 z4.toNatClampNeg).toInt = (0 : Int) := eqI c518
        have : (z4 + 1).toInt = z4.toInt + (1 : Int) := addc_t (by decide) (by omega) (by omega)
        exact ih z3 (z4 + 1) z5 u hs_u ⟨by omega, by omega⟩ ⟨by omega, by omega⟩ ⟨by omega, by omega⟩ (by omega)
      · have : ¬ (u.2.1 24 z4.toNatClampNeg).toInt = (0 : Int) := neI c518
        exact hk234 z3 z4 z5 u hs_u ⟨by omega, by omega⟩ ⟨by omega, by omega⟩ ⟨by omega, by omega⟩
set_option maxHeartbeats 400000 in
set_option maxRecDepth 10000 in
theorem tLX12_could_0_234 (u0 : SX)  {k255 : Int32 → Int32 → Int32 → SX → Option (Int32 × SX)} (hk255 : ∀ (z3 : Int32) (z4 : Int32) (z5 : Int32) (u : SX), (StM mdX12_could_0 u0 u) → (0 ≤ z3.toInt ∧ z3.toInt ≤ 1) → (0 ≤ z4.toInt ∧ z4.toInt ≤ 401) → ((-1) ≤ z5.toInt ∧ z5.toInt ≤ 400) → Tot (k255 z3 z4 z5 u) (qX12_could_0 u0)) : ∀ (n : Nat) (z3 : Int32) (z4 : Int32) (z5 : Int32) (u : SX), (StM mdX12_could_0 u0 u) → (0 ≤ z3.toInt ∧ z3.toInt ≤ 1) → (0 ≤ z4.toInt ∧ z4.toInt ≤ 401) → ((-1) ≤ z5.toInt ∧ z5.toInt ≤ 400) → (z5.toInt - (-1) < (n : Int)) → Tot (LX12_could_0_234 k255 n z3 z4 z5 u) (qX12_could_0 u0) := by
  intro n
  induction n with
  | zero =>
    intro z3 z4 z5 u hs_u h0 h1 h2 hm
    exfalso
    omega
  | succ n ih =>
    intro z3 z4 z5 u hs_u h0 h1 h2 hm
    rw [LX12_could_0_234]
    refine Tot_ite (fun c519 => ?_) (fun c519 => ?_)
    · have : z5.toInt < (0 : Int) := ltI c519
      exact hk255 z3 z4 z5 u hs_u ⟨by omega, by omega⟩ ⟨by omega, by omega⟩ ⟨by omega, by omega⟩
    · have : ¬ z5.toInt < (0 : Int) := nltI c519
      refine Tot_gd (inb_t (by omega) (by omega)) ?_
      have : 0 ≤ (u.2.1 24 z5.toNatClampNeg).toInt ∧ (u.2.1 24 z5.toNatClampNeg).toInt ≤ 1 := hs_u.1.2.1 24 z5.toNatClampNeg
      refine Tot_ite (fun c520 => ?_) (fun c520 => ?_)
      · have : (u.2.1 24 z5.toNatClampNeg).toInt = (0 : Int) := eqI c520
        have : (z5 + (-1)).toInt = z5.toInt + (-1 : Int) := addc_t (by decide) (by omega) (by omega)
        exact ih z3 z4 (z5 + (-1)) u hs_u ⟨by omega, by omega⟩ ⟨by omega, by omega⟩ ⟨by omega, by omega⟩ (by omega)
      · have : ¬ (u.2.1 24 z5.toNatClampNeg).toInt = (0 : Int) := neI c520
        exact hk255 z3 z4 z5 u hs_u ⟨by omega, by omega⟩ ⟨by omega, by omega⟩ ⟨by omega, by omega⟩
set_option maxHeartbeats 400000 in
set_option maxRecDepth 10000 in
theorem tGX12_could_0_255 (u0 : SX)    (z3 : Int32) (z4 : Int32) (z5 : Int32) (u : SX) (hs_u : StM mdX12_could_0 u0 u) (h0 : 0 ≤ z3.toInt ∧ z3.toInt ≤ 1) (h1 : 0 ≤ z4.toInt ∧ z4.toInt ≤ 401) (h2 : (-1) ≤ z5.toInt ∧ z5.toInt ≤ 400) : Tot (GX12_could_0_255 z3 z4 z5 u) (qX12_could_0 u0) := by
  unfold GX12_could_0_255
  refine Tot_ite (fun c521 => ?_) (fun c521 => ?_)
  · have : z4.toInt ≤ (400 : Int) := leI c521
    refine Tot_ite (fun c522 => ?_) (fun c522 => ?_)
    · have : z3.toInt = (0 : Int) := eqI c522
      exact Tot_some ⟨hs_u, (by show (-1) ≤ z4.toInt ∧ z4.toInt ≤ 400; omega), trivial⟩
    · have : ¬ z3.toInt = (0 : Int) := neI c522
      exact Tot_some ⟨hs_u, (by show (-1) ≤ z5.toInt ∧ z5.toInt ≤ 400; omega), trivial⟩
  · have : ¬ z4.toInt ≤ (400 : Int) := nleI c521
    exact Tot_some ⟨hs_u, (by show (-1) ≤ (-1 : Int) ∧ (-1 : Int) ≤ 400; omega), trivial⟩
set_option maxHeartbeats 400000 in
set_option maxRecDepth 10000 in
theorem tGX12_could_0_76 (u0 : SX)    (z1 : Int32) (z2 : Int32) (z3 : Int32) (z4 : Int32) (z5 : Int32) (u : SX) (hs_u : StM mdX12_could_0 u0 u) (h0 : 0 ≤ z1.toInt ∧ z1.toInt ≤ 11) (h1 : 0 ≤ z2.toInt ∧ z2.toInt ≤ 120) (h2 : 0 ≤ z3.toInt ∧ z3.toInt ≤ 1) (h3 : 0 ≤ z4.toInt ∧ z4.toInt ≤ 0) (h4 : 400 ≤ z5.toInt ∧ z5.toInt ≤ 400) : Tot (GX12_could_0_76 z1 z2 z3 z4 z5 u) (qX12_could_0 u0) := by
  unfold GX12_could_0_76
  exact tLX12_could_0_79 u0 (fun a523 a524 a525 w526 hw526 p527 p528 p529 => tLX12_could_0_210 u0 (fun a530 a531 a532 w533 hw533 p534 p535 p536 => tLX12_could_0_234 u0 (tGX12_could_0_255 u0) 5000 a530 a531 a532 w533 hw533 p534 p535 p536 (by omega)) 5000 a523 a524 a525 w526 hw526 p527 p528 p529 (by omega)) 5000 z1 z2 z3 z4 z5 0 u hs_u ⟨by omega, by omega⟩ ⟨by omega, by omega⟩ ⟨by omega, by omega⟩ ⟨by omega, by omega⟩ ⟨by omega, by omega⟩ (by show 0 ≤ (0 : Int) ∧ (0 : Int) ≤ 80; omega) (by show 80 - (0 : Int) < ((5000 : Nat) : Int); omega)
set_option maxHeartbeats 400000 in
set_option maxRecDepth 10000 in
theorem tfX12_could_0 (x1 : Int32) (x2 : Int32) (x3 : Int32) (u : SX) (hI : IM u)  : Tot (fX12_could_0 x1 x2 x3 u) (qX12_could_0 u) := by
  unfold fX12_could_0
  have hs_u : StM mdX12_could_0 u u := StM_rf hI
  refine Tot_lt (fun u1 e_u1 => ?_)
  have hs_u1 : StM mdX12_could_0 u u1 := by rw [e_u1]; exact StM_sI hs_u (by decide) (by show 0 ≤ (0 : Int); omega) (by show (0 : Int) ≤ 1; omega)
  refine Tot_bind (tfX12_isPart_0 x1 u1 hs_u1.1) (fun q hq => ?_)
  obtain ⟨r3, u4⟩ := q
  have hc_u4 : StM mdX12_isPart_0 u1 u4 := hq.1
  have hs_u4 : StM mdX12_could_0 u u4 := StM_tr hs_u1 hc_u4 (by decide)
  have : 0 ≤ r3.toInt ∧ r3.toInt ≤ 1 := hq.2.1
  have : (u1.1 12).toInt = (u.1 12).toInt := by rw [e_u1]; rfl
  have : 0 ≤ (u.1 12).toInt ∧ (u.1 12).toInt ≤ 12 := hs_u.1.1 12
  have : r3.toInt ≠ 0 → ((0 : Int) ≤ x1.toInt ∧ x1.toInt < (u1.1 12).toInt) := hq.2.2
  clear hq
  refine Tot_ite (fun c537 => ?_) (fun c537 => ?_)
  · have : r3.toInt = (0 : Int) := eqI c537
    exact Tot_some ⟨hs_u4, (by show (-1) ≤ (-1 : Int) ∧ (-1 : Int) ≤ 400; omega), trivial⟩
  · have : ¬ r3.toInt = (0 : Int) := neI c537
    refine Tot_gd (inb_t (by omega) (by omega)) ?_
    have : 0 ≤ (u4.2.1 10 x1.toNatClampNeg).toInt ∧ (u4.2.1 10 x1.toNatClampNeg).toInt ≤ 120 := hs_u4.1.2.1 10 x1.toNatClampNeg
    refine Tot_bind (tfX12_isKnown_0 (u4.2.1 10 x1.toNatClampNeg) x2 u4 hs_u4.1 ⟨by omega, by omega⟩) (fun q hq => ?_)
    obtain ⟨r7, u8⟩ := q
    have hc_u8 : StM mdX12_isKnown_0 u4 u8 := hq.1
    have hs_u8 : StM mdX12_could_0 u u8 := StM_tr hs_u4 hc_u8 (by decide)
    have : 0 ≤ r7.toInt ∧ r7.toInt ≤ 1 := hq.2.1
    have : (u4.1 1).toInt = (u1.1 1).toInt := congrArg Int32.toInt (hc_u4.2.1 1 (by decide))
    have : (u1.1 1).toInt = (u.1 1).toInt := by rw [e_u1]; rfl
    have : 0 ≤ (u.1 1).toInt ∧ (u.1 1).toInt ≤ 120 := hs_u.1.1 1
    have : r7.toInt ≠ 0 → ((0 : Int) ≤ x2.toInt ∧ x2.toInt ≤ (u4.1 1).toInt ∧ (u4.2.1 10 x1.toNatClampNeg).toInt ≤ x2.toInt) := hq.2.2
    clear hq
    refine Tot_ite (fun c538 => ?_) (fun c538 => ?_)
    · have : r7.toInt = (0 : Int) := eqI c538
      exact Tot_some ⟨hs_u8, (by show (-1) ≤ (-1 : Int) ∧ (-1 : Int) ≤ 400; omega), trivial⟩
    · have : ¬ r7.toInt = (0 : Int) := neI c538
      refine Tot_bind (tfX12_isIn x3 0 1 (by show (-100000) ≤ (0 : Int) ∧ (0 : Int) ≤ 400; omega) (by show (-1) ≤ (1 : Int) ∧ (1 : Int) ≤ 100000; omega)) (fun r10 hq => ?_)
      have : 0 ≤ r10.toInt ∧ r10.toInt ≤ 1 := hq.1
      have : r10.toInt ≠ 0 → ((0 : Int) ≤ x3.toInt ∧ x3.toInt ≤ (1 : Int)) := hq.2
      clear hq
      refine Tot_ite (fun c539 => ?_) (fun c539 => ?_)
      · have : r10.toInt = (0 : Int) := eqI c539
        exact Tot_some ⟨hs_u8, (by show (-1) ≤ (-1 : Int) ∧ (-1 : Int) ≤ 400; omega), trivial⟩
      · have : ¬ r10.toInt = (0 : Int) := neI c539
        refine Tot_bind (tfX12_laySpansOf_0 x2 u8 hs_u8.1 ⟨by omega, by omega⟩) (fun q hq => ?_)
        obtain ⟨r13, u14⟩ := q
        have hc_u14 : StM mdX12_laySpansOf_0 u8 u14 := hq.1
        have hs_u14 : StM mdX12_could_0 u u14 := StM_tr hs_u8 hc_u14 (by decide)
        have : 0 ≤ r13.toInt ∧ r13.toInt ≤ 0 := hq.2.1
        clear hq
        exact tLX12_could_0_54 u (tGX12_could_0_76 u) 5000 x1 x2 x3 0 400 0 u14 hs_u14 ⟨by omega, by omega⟩ ⟨by omega, by omega⟩ ⟨by omega, by omega⟩ (by show 0 ≤ (0 : Int) ∧ (0 : Int) ≤ 0; omega) (by show 400 ≤ (400 : Int) ∧ (400 : Int) ≤ 400; omega) (by show 0 ≤ (0 : Int) ∧ (0 : Int) ≤ 401; omega) (by show 401 - (0 : Int) < ((5000 : Nat) : Int); omega)

abbrev qJ6_bitCount_0f7a4 (q : Int32) : Prop := (0 ≤ q.toInt ∧ q.toInt ≤ 63) ∧ (True)
set_option maxHeartbeats 400000 in
set_option maxRecDepth 10000 in
theorem tfJ6_bitCount_0f7a4 (x0 : Int32) (h0 : 0 ≤ x0.toInt ∧ x0.toInt ≤ 4319) : Tot (fJ6_bitCount_0f7a4 x0) (qJ6_bitCount_0f7a4 ) := by
  unfold fJ6_bitCount_0f7a4
  have : 0 ≤ (((x0.toUInt32 >>> (((1 : Int32)).toUInt32 &&& (Int32.toUInt32 31)))).toInt32 &&& 1431655765).toInt ∧ (((x0.toUInt32 >>> (((1 : Int32)).toUInt32 &&& (Int32.toUInt32 31)))).toInt32 &&& 1431655765).toInt ≤ ((1431655765 : Nat) : Int) := andn_t (((x0.toUInt32 >>> (((1 : Int32)).toUInt32 &&& (Int32.toUInt32 31)))).toInt32) 1431655765 1431655765 (by decide) (by decide)
  have : (x0 - (((x0.toUInt32 >>> (((1 : Int32)).toUInt32 &&& (Int32.toUInt32 31)))).toInt32 &&& 1431655765)).toInt = x0.toInt - (((x0.toUInt32 >>> (((1 : Int32)).toUInt32 &&& (Int32.toUInt32 31)))).toInt32 &&& 1431655765).toInt := sub_t (by omega) (by omega)
  refine Tot_lt (fun v1 e_v1 => ?_)
  have : v1.toInt = (x0 - (((x0.toUInt32 >>> (((1 : Int32)).toUInt32 &&& (Int32.toUInt32 31)))).toInt32 &&& 1431655765)).toInt := congrArg Int32.toInt e_v1
  have : 0 ≤ (v1 &&& 858993459).toInt ∧ (v1 &&& 858993459).toInt ≤ ((858993459 : Nat) : Int) := andn_t v1 858993459 858993459 (by decide) (by decide)
  have : 0 ≤ (((v1.toUInt32 >>> (((2 : Int32)).toUInt32 &&& (Int32.toUInt32 31)))).toInt32 &&& 858993459).toInt ∧ (((v1.toUInt32 >>> (((2 : Int32)).toUInt32 &&& (Int32.toUInt32 31)))).toInt32 &&& 858993459).toInt ≤ ((858993459 : Nat) : Int) := andn_t (((v1.toUInt32 >>> (((2 : Int32)).toUInt32 &&& (Int32.toUInt32 31)))).toInt32) 858993459 858993459 (by decide) (by decide)
  have : ((v1 &&& 858993459) + (((v1.toUInt32 >>> (((2 : Int32)).toUInt32 &&& (Int32.toUInt32 31)))).toInt32 &&& 858993459)).toInt = (v1 &&& 858993459).toInt + (((v1.toUInt32 >>> (((2 : Int32)).toUInt32 &&& (Int32.toUInt32 31)))).toInt32 &&& 858993459).toInt := add_t (by omega) (by omega)
  refine Tot_lt (fun v3 e_v3 => ?_)
  have : v3.toInt = ((v1 &&& 858993459) + (((v1.toUInt32 >>> (((2 : Int32)).toUInt32 &&& (Int32.toUInt32 31)))).toInt32 &&& 858993459)).toInt := congrArg Int32.toInt e_v3
  have : 0 ≤ ((v3 + ((v3.toUInt32 >>> (((4 : Int32)).toUInt32 &&& (Int32.toUInt32 31)))).toInt32) &&& 252645135).toInt ∧ ((v3 + ((v3.toUInt32 >>> (((4 : Int32)).toUInt32 &&& (Int32.toUInt32 31)))).toInt32) &&& 252645135).toInt ≤ ((252645135 : Nat) : Int) := andn_t (v3 + ((v3.toUInt32 >>> (((4 : Int32)).toUInt32 &&& (Int32.toUInt32 31)))).toInt32) 252645135 252645135 (by decide) (by decide)
  refine Tot_lt (fun v5 e_v5 => ?_)
  have : v5.toInt = ((v3 + ((v3.toUInt32 >>> (((4 : Int32)).toUInt32 &&& (Int32.toUInt32 31)))).toInt32) &&& 252645135).toInt := congrArg Int32.toInt e_v5
  refine Tot_lt (fun v7 e_v7 => ?_)
  refine Tot_lt (fun v9 e_v9 => ?_)
  have : 0 ≤ (v9 &&& 63).toInt ∧ (v9 &&& 63).toInt ≤ ((63 : Nat) : Int) := andn_t v9 63 63 (by decide) (by decide)
  exact Tot_some ⟨(by show 0 ≤ (v9 &&& 63).toInt ∧ (v9 &&& 63).toInt ≤ 63; omega), trivial⟩

abbrev qX12_isBetter (q : Int32) : Prop := (0 ≤ q.toInt ∧ q.toInt ≤ 1) ∧ (True)
set_option maxHeartbeats 400000 in
set_option maxRecDepth 10000 in
theorem tGX12_isBetter_18    (z0 : Int32) (z1 : Int32) (y0 : Int32) (h0 : 0 ≤ z0.toInt ∧ z0.toInt ≤ 4319) (h1 : (-1) ≤ z1.toInt ∧ z1.toInt ≤ 4319) (h2 : (-63) ≤ y0.toInt ∧ y0.toInt ≤ 63) : Tot (GX12_isBetter_18 z0 z1 y0) (qX12_isBetter ) := by
  unfold GX12_isBetter_18
  refine Tot_ite (fun c540 => ?_) (fun c540 => ?_)
  · have : y0.toInt < (0 : Int) := ltI c540
    refine Tot_gd (by decide) ?_
    exact Tot_some ⟨(by show 0 ≤ (1 : Int) ∧ (1 : Int) ≤ 1; omega), trivial⟩
  · have : ¬ y0.toInt < (0 : Int) := nltI c540
    refine Tot_ite (fun c541 => ?_) (fun c541 => ?_)
    · have : y0.toInt = (0 : Int) := eqI c541
      refine Tot_ite (fun c542 => ?_) (fun c542 => ?_)
      · have : ((z0 &&& (z0 ^^^ z1)) &&& (-(z0 ^^^ z1))).toInt = (0 : Int) := eqI c542
        refine Tot_gd (by decide) ?_
        exact Tot_some ⟨(by show 0 ≤ (0 : Int) ∧ (0 : Int) ≤ 1; omega), trivial⟩
      · refine Tot_gd (by decide) ?_
        exact Tot_some ⟨(by show 0 ≤ (1 : Int) ∧ (1 : Int) ≤ 1; omega), trivial⟩
    · have : ¬ y0.toInt = (0 : Int) := neI c541
      refine Tot_gd (by decide) ?_
      exact Tot_some ⟨(by show 0 ≤ (0 : Int) ∧ (0 : Int) ≤ 1; omega), trivial⟩
set_option maxHeartbeats 400000 in
set_option maxRecDepth 10000 in
theorem tfX12_isBetter (x0 : Int32) (x1 : Int32) (h0 : 0 ≤ x0.toInt ∧ x0.toInt ≤ 4319) (h1 : (-1) ≤ x1.toInt ∧ x1.toInt ≤ 4319) : Tot (fX12_isBetter x0 x1) (qX12_isBetter ) := by
  unfold fX12_isBetter
  refine Tot_ite (fun c543 => ?_) (fun c543 => ?_)
  · have : x1.toInt = (-1 : Int) := eqI c543
    exact tGX12_isBetter_18 x0 x1 (-1) ⟨by omega, by omega⟩ ⟨by omega, by omega⟩ (by show (-63) ≤ (-1 : Int) ∧ (-1 : Int) ≤ 63; omega)
  · have : ¬ x1.toInt = (-1 : Int) := neI c543
    refine Tot_bind (tfJ6_bitCount_0f7a4 x0 ⟨by omega, by omega⟩) (fun r1 hq => ?_)
    have : 0 ≤ r1.toInt ∧ r1.toInt ≤ 63 := hq.1
    clear hq
    refine Tot_bind (tfJ6_bitCount_0f7a4 x1 ⟨by omega, by omega⟩) (fun r4 hq => ?_)
    have : 0 ≤ r4.toInt ∧ r4.toInt ≤ 63 := hq.1
    clear hq
    have : (r1 - r4).toInt = r1.toInt - r4.toInt := sub_t (by omega) (by omega)
    exact tGX12_isBetter_18 x0 x1 (r1 - r4) ⟨by omega, by omega⟩ ⟨by omega, by omega⟩ ⟨by omega, by omega⟩

def mdX12_isSet_0 : MD := ([], [], [], [])
abbrev qX12_isSet_0 (u : SX) (q : Int32 × SX) : Prop := StM mdX12_isSet_0 u q.2 ∧ (0 ≤ q.1.toInt ∧ q.1.toInt ≤ 1) ∧ (True)
set_option maxHeartbeats 400000 in
set_option maxRecDepth 10000 in
theorem tGX12_isSet_0_156 (u0 : SX) (g2 : Int) (g42 : Int) {k42 : Int32 → Int32 → Int32 → Int32 → Int32 → Int32 → SX → Option (Int32 × SX)} (hk42 : ∀ (z1 : Int32) (z2 : Int32) (z3 : Int32) (z4 : Int32) (z5 : Int32) (z6 : Int32) (u : SX), (StM mdX12_isSet_0 u0 u) → (0 ≤ z1.toInt ∧ z1.toInt ≤ 4319) → (0 ≤ z2.toInt ∧ z2.toInt ≤ 120) → (0 ≤ z3.toInt ∧ z3.toInt ≤ 79) → (0 ≤ z6.toInt ∧ z6.toInt ≤ 12) → (g2 ≤ z3.toInt) → (g42 < z6.toInt) → Tot (k42 z1 z2 z3 z4 z5 z6 u) (qX12_isSet_0 u0)) (z1 : Int32) (z2 : Int32) (z3 : Int32) (z4 : Int32) (z5 : Int32) (z6 : Int32) (u : SX) (hs_u : StM mdX12_isSet_0 u0 u) (h0 : 0 ≤ z1.toInt ∧ z1.toInt ≤ 4319) (h1 : 0 ≤ z2.toInt ∧ z2.toInt ≤ 120) (h2 : 0 ≤ z3.toInt ∧ z3.toInt ≤ 79) (h3 : 0 ≤ z6.toInt ∧ z6.toInt ≤ 11) (h4 : g2 ≤ z3.toInt) (h5 : g42 ≤ z6.toInt) : Tot (GX12_isSet_0_156 k42 z1 z2 z3 z4 z5 z6 u) (qX12_isSet_0 u0) := by
  unfold GX12_isSet_0_156
  have : (z6 + 1).toInt = z6.toInt + (1 : Int) := addc_t (by decide) (by omega) (by omega)
  exact hk42 z1 z2 z3 z4 z5 (z6 + 1) u hs_u ⟨by omega, by omega⟩ ⟨by omega, by omega⟩ ⟨by omega, by omega⟩ ⟨by omega, by omega⟩ (by omega) (by omega)
set_option maxHeartbeats 400000 in
set_option maxRecDepth 10000 in
theorem tGX12_isSet_0_153 (u0 : SX) (g2 : Int) (g42 : Int) {k42 : Int32 → Int32 → Int32 → Int32 → Int32 → Int32 → SX → Option (Int32 × SX)} (hk42 : ∀ (z1 : Int32) (z2 : Int32) (z3 : Int32) (z4 : Int32) (z5 : Int32) (z6 : Int32) (u : SX), (StM mdX12_isSet_0 u0 u) → (0 ≤ z1.toInt ∧ z1.toInt ≤ 4319) → (0 ≤ z2.toInt ∧ z2.toInt ≤ 120) → (0 ≤ z3.toInt ∧ z3.toInt ≤ 79) → (0 ≤ z6.toInt ∧ z6.toInt ≤ 12) → (g2 ≤ z3.toInt) → (g42 < z6.toInt) → Tot (k42 z1 z2 z3 z4 z5 z6 u) (qX12_isSet_0 u0)) (z1 : Int32) (z2 : Int32) (z3 : Int32) (z4 : Int32) (z6 : Int32) (y0 : Int32) (y1 : Int32) (u : SX) (hs_u : StM mdX12_isSet_0 u0 u) (h0 : 0 ≤ z1.toInt ∧ z1.toInt ≤ 4319) (h1 : 0 ≤ z2.toInt ∧ z2.toInt ≤ 120) (h2 : 0 ≤ z3.toInt ∧ z3.toInt ≤ 79) (h3 : 0 ≤ z6.toInt ∧ z6.toInt ≤ 11) (h4 : g2 ≤ z3.toInt) (h5 : g42 ≤ z6.toInt) : Tot (GX12_isSet_0_153 k42 z1 z2 z3 z4 z6 y0 y1 u) (qX12_isSet_0 u0) := by
  unfold GX12_isSet_0_153
  refine Tot_lt (fun v14 e_v14 => ?_)
  exact tGX12_isSet_0_156 u0 g2 g42 hk42 z1 z2 z3 z4 v14 z6 u hs_u ⟨by omega, by omega⟩ ⟨by omega, by omega⟩ ⟨by omega, by omega⟩ ⟨by omega, by omega⟩ (by omega) (by omega)
set_option maxHeartbeats 400000 in
set_option maxRecDepth 10000 in
theorem tGX12_isSet_0_116 (u0 : SX) (g2 : Int) (g42 : Int) {k42 : Int32 → Int32 → Int32 → Int32 → Int32 → Int32 → SX → Option (Int32 × SX)} (hk42 : ∀ (z1 : Int32) (z2 : Int32) (z3 : Int32) (z4 : Int32) (z5 : Int32) (z6 : Int32) (u : SX), (StM mdX12_isSet_0 u0 u) → (0 ≤ z1.toInt ∧ z1.toInt ≤ 4319) → (0 ≤ z2.toInt ∧ z2.toInt ≤ 120) → (0 ≤ z3.toInt ∧ z3.toInt ≤ 79) → (0 ≤ z6.toInt ∧ z6.toInt ≤ 12) → (g2 ≤ z3.toInt) → (g42 < z6.toInt) → Tot (k42 z1 z2 z3 z4 z5 z6 u) (qX12_isSet_0 u0)) (z1 : Int32) (z2 : Int32) (z3 : Int32) (z5 : Int32) (z6 : Int32) (z7 : Int32) (y0 : Int32) (y1 : Int32) (u : SX) (hs_u : StM mdX12_isSet_0 u0 u) (h0 : 0 ≤ z1.toInt ∧ z1.toInt ≤ 4319) (h1 : 0 ≤ z2.toInt ∧ z2.toInt ≤ 120) (h2 : 0 ≤ z3.toInt ∧ z3.toInt ≤ 79) (h3 : 0 ≤ z6.toInt ∧ z6.toInt ≤ 11) (h4 : 0 ≤ z7.toInt ∧ z7.toInt ≤ 1) (h5 : g2 ≤ z3.toInt) (h6 : g42 ≤ z6.toInt) : Tot (GX12_isSet_0_116 k42 z1 z2 z3 z5 z6 z7 y0 y1 u) (qX12_isSet_0 u0) := by
  unfold GX12_isSet_0_116
  refine Tot_lt (fun v11 e_v11 => ?_)
  refine Tot_ite (fun c544 => ?_) (fun c544 => ?_)
  · have : z7.toInt = (0 : Int) := eqI c544
    have : (12 * z3).toInt = 12 * z3.toInt := cmul_t (by decide) (by omega) (by omega)
    have : ((12 * z3) + z6).toInt = (12 * z3).toInt + z6.toInt := add_t (by omega) (by omega)
    refine Tot_gd (inb_t (by omega) (by omega)) ?_
    exact tGX12_isSet_0_153 u0 g2 g42 hk42 z1 z2 z3 v11 z6 (u.2.1 25 (((12 * z3) + z6)).toNatClampNeg) z5 u hs_u ⟨by omega, by omega⟩ ⟨by omega, by omega⟩ ⟨by omega, by omega⟩ ⟨by omega, by omega⟩ (by omega) (by omega)
  · have : ¬ z7.toInt = (0 : Int) := neI c544
    have : (12 * z3).toInt = 12 * z3.toInt := cmul_t (by decide) (by omega) (by omega)
    have : ((12 * z3) + z6).toInt = (12 * z3).toInt + z6.toInt := add_t (by omega) (by omega)
    refine Tot_gd (inb_t (by omega) (by omega)) ?_
    exact tGX12_isSet_0_153 u0 g2 g42 hk42 z1 z2 z3 v11 z6 (u.2.1 27 (((12 * z3) + z6)).toNatClampNeg) z5 u hs_u ⟨by omega, by omega⟩ ⟨by omega, by omega⟩ ⟨by omega, by omega⟩ ⟨by omega, by omega⟩ (by omega) (by omega)
set_option maxHeartbeats 400000 in
set_option maxRecDepth 10000 in
theorem tGX12_isSet_0_80 (u0 : SX) (g2 : Int) (g42 : Int) {k42 : Int32 → Int32 → Int32 → Int32 → Int32 → Int32 → SX → Option (Int32 × SX)} (hk42 : ∀ (z1 : Int32) (z2 : Int32) (z3 : Int32) (z4 : Int32) (z5 : Int32) (z6 : Int32) (u : SX), (StM mdX12_isSet_0 u0 u) → (0 ≤ z1.toInt ∧ z1.toInt ≤ 4319) → (0 ≤ z2.toInt ∧ z2.toInt ≤ 120) → (0 ≤ z3.toInt ∧ z3.toInt ≤ 79) → (0 ≤ z6.toInt ∧ z6.toInt ≤ 12) → (g2 ≤ z3.toInt) → (g42 < z6.toInt) → Tot (k42 z1 z2 z3 z4 z5 z6 u) (qX12_isSet_0 u0)) (z1 : Int32) (z2 : Int32) (z3 : Int32) (z4 : Int32) (z5 : Int32) (z6 : Int32) (y0 : Int32) (u : SX) (hs_u : StM mdX12_isSet_0 u0 u) (h0 : 0 ≤ z1.toInt ∧ z1.toInt ≤ 4319) (h1 : 0 ≤ z2.toInt ∧ z2.toInt ≤ 120) (h2 : 0 ≤ z3.toInt ∧ z3.toInt ≤ 79) (h3 : 0 ≤ z6.toInt ∧ z6.toInt ≤ 11) (h4 : 0 ≤ y0.toInt ∧ y0.toInt ≤ 1) (h5 : g2 ≤ z3.toInt) (h6 : g42 ≤ z6.toInt) : Tot (GX12_isSet_0_80 k42 z1 z2 z3 z4 z5 z6 y0 u) (qX12_isSet_0 u0) := by
  unfold GX12_isSet_0_80
  refine Tot_ite (fun c545 => ?_) (fun c545 => ?_)
  · have : y0.toInt = (0 : Int) := eqI c545
    have : (12 * z3).toInt = 12 * z3.toInt := cmul_t (by decide) (by omega) (by omega)
    have : ((12 * z3) + z6).toInt = (12 * z3).toInt + z6.toInt := add_t (by omega) (by omega)
    refine Tot_gd (inb_t (by omega) (by omega)) ?_
    exact tGX12_isSet_0_116 u0 g2 g42 hk42 z1 z2 z3 z5 z6 y0 (u.2.1 26 (((12 * z3) + z6)).toNatClampNeg) z4 u hs_u ⟨by omega, by omega⟩ ⟨by omega, by omega⟩ ⟨by omega, by omega⟩ ⟨by omega, by omega⟩ ⟨by omega, by omega⟩ (by omega) (by omega)
  · have : ¬ y0.toInt = (0 : Int) := neI c545
    have : (12 * z3).toInt = 12 * z3.toInt := cmul_t (by decide) (by omega) (by omega)
    have : ((12 * z3) + z6).toInt = (12 * z3).toInt + z6.toInt := add_t (by omega) (by omega)
    refine Tot_gd (inb_t (by omega) (by omega)) ?_
    exact tGX12_isSet_0_116 u0 g2 g42 hk42 z1 z2 z3 z5 z6 y0 (u.2.1 28 (((12 * z3) + z6)).toNatClampNeg) z4 u hs_u ⟨by omega, by omega⟩ ⟨by omega, by omega⟩ ⟨by omega, by omega⟩ ⟨by omega, by omega⟩ ⟨by omega, by omega⟩ (by omega) (by omega)
set_option maxHeartbeats 400000 in
set_option maxRecDepth 10000 in
theorem tLX12_isSet_0_42 (u0 : SX) (g2 : Int) {k162 : Int32 → Int32 → Int32 → Int32 → Int32 → SX → Option (Int32 × SX)} (hk162 : ∀ (z1 : Int32) (z2 : Int32) (z3 : Int32) (z4 : Int32) (z5 : Int32) (u : SX), (StM mdX12_isSet_0 u0 u) → (0 ≤ z1.toInt ∧ z1.toInt ≤ 4319) → (0 ≤ z2.toInt ∧ z2.toInt ≤ 120) → (0 ≤ z3.toInt ∧ z3.toInt ≤ 79) → (g2 ≤ z3.toInt) → Tot (k162 z1 z2 z3 z4 z5 u) (qX12_isSet_0 u0)) : ∀ (n : Nat) (z1 : Int32) (z2 : Int32) (z3 : Int32) (z4 : Int32) (z5 : Int32) (z6 : Int32) (u : SX), (StM mdX12_isSet_0 u0 u) → (0 ≤ z1.toInt ∧ z1.toInt ≤ 4319) → (0 ≤ z2.toInt ∧ z2.toInt ≤ 120) → (0 ≤ z3.toInt ∧ z3.toInt ≤ 79) → (0 ≤ z6.toInt ∧ z6.toInt ≤ 12) → (g2 ≤ z3.toInt) → (12 - z6.toInt < (n : Int)) → Tot (LX12_isSet_0_42 k162 n z1 z2 z3 z4 z5 z6 u) (qX12_isSet_0 u0) := by
  intro n
  induction n with
  | zero =>
    intro z1 z2 z3 z4 z5 z6 u hs_u h0 h1 h2 h3 h4 hm
    exfalso
    omega
  | succ n ih =>
    intro z1 z2 z3 z4 z5 z6 u hs_u h0 h1 h2 h3 h4 hm
    rw [LX12_isSet_0_42]
    have : 0 ≤ (u.1 12).toInt ∧ (u.1 12).toInt ≤ 12 := hs_u.1.1 12
    refine Tot_ite (fun c546 => ?_) (fun c546 => ?_)
    · have : (u.1 12).toInt ≤ z6.toInt := leI c546
      exact hk162 z1 z2 z3 z4 z5 u hs_u ⟨by omega, by omega⟩ ⟨by omega, by omega⟩ ⟨by omega, by omega⟩ (by omega)
    · have : ¬ (u.1 12).toInt ≤ z6.toInt := nleI c546
      refine Tot_gd (inb_t (by omega) (by omega)) ?_
      have : 0 ≤ (u.2.1 10 z6.toNatClampNeg).toInt ∧ (u.2.1 10 z6.toNatClampNeg).toInt ≤ 120 := hs_u.1.2.1 10 z6.toNatClampNeg
      refine Tot_ite (fun c547 => ?_) (fun c547 => ?_)
      · have : (u.2.1 10 z6.toNatClampNeg).toInt ≤ z2.toInt := leI c547
        have := and1_t (z1 >>> (z6 &&& 31))
        refine Tot_ite (fun c548 => ?_) (fun c548 => ?_)
        · have : ((z1 >>> (z6 &&& 31)) &&& 1).toInt = (1 : Int) := eqI c548
          exact tGX12_isSet_0_80 u0 g2 (z6.toInt) (fun a549 a550 a551 a552 a553 a554 w555 hw555 p556 p557 p558 p559 p560 p561 => ih a549 a550 a551 a552 a553 a554 w555 hw555 p556 p557 p558 p559 p560 (by omega)) z1 z2 z3 z4 z5 z6 1 u hs_u ⟨by omega, by omega⟩ ⟨by omega, by omega⟩ ⟨by omega, by omega⟩ ⟨by omega, by omega⟩ (by show 0 ≤ (1 : Int) ∧ (1 : Int) ≤ 1; omega) (by omega) (by omega)
        · have : ¬ ((z1 >>> (z6 &&& 31)) &&& 1).toInt = (1 : Int) := neI c548
          exact tGX12_isSet_0_80 u0 g2 (z6.toInt) (fun a562 a563 a564 a565 a566 a567 w568 hw568 p569 p570 p571 p572 p573 p574 => ih a562 a563 a564 a565 a566 a567 w568 hw568 p569 p570 p571 p572 p573 (by omega)) z1 z2 z3 z4 z5 z6 0 u hs_u ⟨by omega, by omega⟩ ⟨by omega, by omega⟩ ⟨by omega, by omega⟩ ⟨by omega, by omega⟩ (by show 0 ≤ (0 : Int) ∧ (0 : Int) ≤ 1; omega) (by omega) (by omega)
      · have : ¬ (u.2.1 10 z6.toNatClampNeg).toInt ≤ z2.toInt := nleI c547
        exact tGX12_isSet_0_156 u0 g2 (z6.toInt) (fun a575 a576 a577 a578 a579 a580 w581 hw581 p582 p583 p584 p585 p586 p587 => ih a575 a576 a577 a578 a579 a580 w581 hw581 p582 p583 p584 p585 p586 (by omega)) z1 z2 z3 z4 z5 z6 u hs_u ⟨by omega, by omega⟩ ⟨by omega, by omega⟩ ⟨by omega, by omega⟩ ⟨by omega, by omega⟩ (by omega) (by omega)
set_option maxHeartbeats 400000 in
set_option maxRecDepth 10000 in
theorem tGX12_isSet_0_174 (u0 : SX) (g2 : Int) {k2 : Int32 → Int32 → Int32 → SX → Option (Int32 × SX)} (hk2 : ∀ (z1 : Int32) (z2 : Int32) (z3 : Int32) (u : SX), (StM mdX12_isSet_0 u0 u) → (0 ≤ z1.toInt ∧ z1.toInt ≤ 4319) → (0 ≤ z2.toInt ∧ z2.toInt ≤ 120) → (0 ≤ z3.toInt ∧ z3.toInt ≤ 80) → (g2 < z3.toInt) → Tot (k2 z1 z2 z3 u) (qX12_isSet_0 u0)) (z1 : Int32) (z2 : Int32) (z3 : Int32) (u : SX) (hs_u : StM mdX12_isSet_0 u0 u) (h0 : 0 ≤ z1.toInt ∧ z1.toInt ≤ 4319) (h1 : 0 ≤ z2.toInt ∧ z2.toInt ≤ 120) (h2 : 0 ≤ z3.toInt ∧ z3.toInt ≤ 79) (h3 : g2 ≤ z3.toInt) : Tot (GX12_isSet_0_174 k2 z1 z2 z3 u) (qX12_isSet_0 u0) := by
  unfold GX12_isSet_0_174
  have : (z3 + 1).toInt = z3.toInt + (1 : Int) := addc_t (by decide) (by omega) (by omega)
  exact hk2 z1 z2 (z3 + 1) u hs_u ⟨by omega, by omega⟩ ⟨by omega, by omega⟩ ⟨by omega, by omega⟩ (by omega)
set_option maxHeartbeats 400000 in
set_option maxRecDepth 10000 in
theorem tGX12_isSet_0_162 (u0 : SX) (g2 : Int) {k2 : Int32 → Int32 → Int32 → SX → Option (Int32 × SX)} (hk2 : ∀ (z1 : Int32) (z2 : Int32) (z3 : Int32) (u : SX), (StM mdX12_isSet_0 u0 u) → (0 ≤ z1.toInt ∧ z1.toInt ≤ 4319) → (0 ≤ z2.toInt ∧ z2.toInt ≤ 120) → (0 ≤ z3.toInt ∧ z3.toInt ≤ 80) → (g2 < z3.toInt) → Tot (k2 z1 z2 z3 u) (qX12_isSet_0 u0)) (z1 : Int32) (z2 : Int32) (z3 : Int32) (z4 : Int32) (z5 : Int32) (u : SX) (hs_u : StM mdX12_isSet_0 u0 u) (h0 : 0 ≤ z1.toInt ∧ z1.toInt ≤ 4319) (h1 : 0 ≤ z2.toInt ∧ z2.toInt ≤ 120) (h2 : 0 ≤ z3.toInt ∧ z3.toInt ≤ 79) (h3 : g2 ≤ z3.toInt) : Tot (GX12_isSet_0_162 k2 z1 z2 z3 z4 z5 u) (qX12_isSet_0 u0) := by
  unfold GX12_isSet_0_162
  refine Tot_ite (fun c588 => ?_) (fun c588 => ?_)
  · have : (0 : Int) < z4.toInt := ltI c588
    refine Tot_gd (by decide) ?_
    exact Tot_some ⟨hs_u, (by show 0 ≤ (0 : Int) ∧ (0 : Int) ≤ 1; omega), trivial⟩
  · have : ¬ (0 : Int) < z4.toInt := nltI c588
    refine Tot_ite (fun c589 => ?_) (fun c589 => ?_)
    · have : (0 : Int) ≤ z5.toInt := leI c589
      exact tGX12_isSet_0_174 u0 g2 hk2 z1 z2 z3 u hs_u ⟨by omega, by omega⟩ ⟨by omega, by omega⟩ ⟨by omega, by omega⟩ (by omega)
    · have : ¬ (0 : Int) ≤ z5.toInt := nleI c589
      refine Tot_gd (by decide) ?_
      exact Tot_some ⟨hs_u, (by show 0 ≤ (0 : Int) ∧ (0 : Int) ≤ 1; omega), trivial⟩
set_option maxHeartbeats 400000 in
set_option maxRecDepth 10000 in
theorem tLX12_isSet_0_2 (u0 : SX)    : ∀ (n : Nat) (z1 : Int32) (z2 : Int32) (z3 : Int32) (u : SX), (StM mdX12_isSet_0 u0 u) → (0 ≤ z1.toInt ∧ z1.toInt ≤ 4319) → (0 ≤ z2.toInt ∧ z2.toInt ≤ 120) → (0 ≤ z3.toInt ∧ z3.toInt ≤ 80) → (80 - z3.toInt < (n : Int)) → Tot (LX12_isSet_0_2 n z1 z2 z3 u) (qX12_isSet_0 u0) := by
  intro n
  induction n with
  | zero =>
    intro z1 z2 z3 u hs_u h0 h1 h2 hm
    exfalso
    omega
  | succ n ih =>
    intro z1 z2 z3 u hs_u h0 h1 h2 hm
    rw [LX12_isSet_0_2]
    have : 0 ≤ (u.1 15).toInt ∧ (u.1 15).toInt ≤ 80 := hs_u.1.1 15
    refine Tot_ite (fun c590 => ?_) (fun c590 => ?_)
    · have : (u.1 15).toInt ≤ z3.toInt := leI c590
      refine Tot_gd (by decide) ?_
      exact Tot_some ⟨hs_u, (by show 0 ≤ (1 : Int) ∧ (1 : Int) ≤ 1; omega), trivial⟩
    · have : ¬ (u.1 15).toInt ≤ z3.toInt := nleI c590
      refine Tot_gd (inb_t (by omega) (by omega)) ?_
      have : 0 ≤ (u.2.1 21 z3.toNatClampNeg).toInt ∧ (u.2.1 21 z3.toNatClampNeg).toInt ≤ 120 := hs_u.1.2.1 21 z3.toNatClampNeg
      refine Tot_ite (fun c591 => ?_) (fun c591 => ?_)
      · have : (u.2.1 21 z3.toNatClampNeg).toInt ≤ z2.toInt := leI c591
        refine Tot_gd (inb_t (by omega) (by omega)) ?_
        have : (-100000) ≤ (u.2.1 20 z3.toNatClampNeg).toInt ∧ (u.2.1 20 z3.toNatClampNeg).toInt ≤ 100000 := hs_u.1.2.1 20 z3.toNatClampNeg
        refine Tot_lt (fun v4 e_v4 => ?_)
        have : v4.toInt = (u.2.1 20 z3.toNatClampNeg).toInt := congrArg Int32.toInt e_v4
        refine Tot_gd (inb_t (by omega) (by omega)) ?_
        refine Tot_lt (fun v7 e_v7 => ?_)
        have : v7.toInt = (u.2.1 20 z3.toNatClampNeg).toInt := congrArg Int32.toInt e_v7
        exact tLX12_isSet_0_42 u0 (z3.toInt) (tGX12_isSet_0_162 u0 (z3.toInt) (fun a592 a593 a594 w595 hw595 p596 p597 p598 p599 => ih a592 a593 a594 w595 hw595 p596 p597 p598 (by omega))) 5000 z1 z2 z3 v4 v7 0 u hs_u ⟨by omega, by omega⟩ ⟨by omega, by omega⟩ ⟨by omega, by omega⟩ (by show 0 ≤ (0 : Int) ∧ (0 : Int) ≤ 12; omega) (by omega) (by show 12 - (0 : Int) < ((5000 : Nat) : Int); omega)
      · have : ¬ (u.2.1 21 z3.toNatClampNeg).toInt ≤ z2.toInt := nleI c591
        exact tGX12_isSet_0_174 u0 (z3.toInt) (fun a600 a601 a602 w603 hw603 p604 p605 p606 p607 => ih a600 a601 a602 w603 hw603 p604 p605 p606 (by omega)) z1 z2 z3 u hs_u ⟨by omega, by omega⟩ ⟨by omega, by omega⟩ ⟨by omega, by omega⟩ (by omega)
set_option maxHeartbeats 400000 in
set_option maxRecDepth 10000 in
theorem tfX12_isSet_0 (x1 : Int32) (x2 : Int32) (u : SX) (hI : IM u) (h0 : 0 ≤ x1.toInt ∧ x1.toInt ≤ 4319) (h1 : 0 ≤ x2.toInt ∧ x2.toInt ≤ 120) : Tot (fX12_isSet_0 x1 x2 u) (qX12_isSet_0 u) := by
  unfold fX12_isSet_0
  have hs_u : StM mdX12_isSet_0 u u := StM_rf hI
  exact tLX12_isSet_0_2 u 5000 x1 x2 0 u hs_u ⟨by omega, by omega⟩ ⟨by omega, by omega⟩ (by show 0 ≤ (0 : Int) ∧ (0 : Int) ≤ 80; omega) (by show 80 - (0 : Int) < ((5000 : Nat) : Int); omega)

def mdX12_sets_0 : MD := ([0, 2, 4, 5, 6, 7, 8, 9, 10, 11], [5, 16, 17, 18, 25, 26, 27, 28], [], [])
abbrev qX12_sets_0 (u : SX) (q : Int32 × SX) : Prop := StM mdX12_sets_0 u q.2 ∧ ((-1) ≤ q.1.toInt ∧ q.1.toInt ≤ 4319) ∧ (True)
set_option maxHeartbeats 400000 in
set_option maxRecDepth 10000 in
theorem tGX12_sets_0_54 (u0 : SX) (g28 : Int) {k28 : Int32 → Int32 → Int32 → SX → Option (Int32 × SX)} (hk28 : ∀ (z1 : Int32) (z2 : Int32) (z3 : Int32) (u : SX), (StM mdX12_sets_0 u0 u) → (0 ≤ z1.toInt ∧ z1.toInt ≤ 120) → (0 ≤ z3.toInt ∧ z3.toInt ≤ 12) → (g28 < z3.toInt) → Tot (k28 z1 z2 z3 u) (qX12_sets_0 u0)) (z1 : Int32) (z3 : Int32) (y0 : Int32) (y1 : Int32) (u : SX) (hs_u : StM mdX12_sets_0 u0 u) (h0 : 0 ≤ z1.toInt ∧ z1.toInt ≤ 120) (h1 : 0 ≤ z3.toInt ∧ z3.toInt ≤ 11) (h2 : 0 ≤ y0.toInt ∧ y0.toInt ≤ 4096) (h3 : g28 ≤ z3.toInt) : Tot (GX12_sets_0_54 k28 z1 z3 y0 y1 u) (qX12_sets_0 u0) := by
  unfold GX12_sets_0_54
  refine Tot_lt (fun v10 e_v10 => ?_)
  have : (z3 + 1).toInt = z3.toInt + (1 : Int) := addc_t (by decide) (by omega) (by omega)
  exact hk28 z1 v10 (z3 + 1) u hs_u ⟨by omega, by omega⟩ ⟨by omega, by omega⟩ (by omega)
set_option maxHeartbeats 400000 in
set_option maxRecDepth 10000 in
theorem tLX12_sets_0_28 (u0 : SX)  {k62 : Int32 → Int32 → SX → Option (Int32 × SX)} (hk62 : ∀ (z1 : Int32) (z2 : Int32) (u : SX), (StM mdX12_sets_0 u0 u) → (0 ≤ z1.toInt ∧ z1.toInt ≤ 120) → Tot (k62 z1 z2 u) (qX12_sets_0 u0)) : ∀ (n : Nat) (z1 : Int32) (z2 : Int32) (z3 : Int32) (u : SX), (StM mdX12_sets_0 u0 u) → (0 ≤ z1.toInt ∧ z1.toInt ≤ 120) → (0 ≤ z3.toInt ∧ z3.toInt ≤ 12) → (12 - z3.toInt < (n : Int)) → Tot (LX12_sets_0_28 k62 n z1 z2 z3 u) (qX12_sets_0 u0) := by
  intro n
  induction n with
  | zero =>
    intro z1 z2 z3 u hs_u h0 h1 hm
    exfalso
    omega
  | succ n ih =>
    intro z1 z2 z3 u hs_u h0 h1 hm
    rw [LX12_sets_0_28]
    have : 0 ≤ (u.1 12).toInt ∧ (u.1 12).toInt ≤ 12 := hs_u.1.1 12
    refine Tot_ite (fun c608 => ?_) (fun c608 => ?_)
    · have : (u.1 12).toInt ≤ z3.toInt := leI c608
      exact hk62 z1 z2 u hs_u ⟨by omega, by omega⟩
    · have : ¬ (u.1 12).toInt ≤ z3.toInt := nleI c608
      refine Tot_gd (inb_t (by omega) (by omega)) ?_
      have : 0 ≤ (u.2.1 10 z3.toNatClampNeg).toInt ∧ (u.2.1 10 z3.toNatClampNeg).toInt ≤ 120 := hs_u.1.2.1 10 z3.toNatClampNeg
      refine Tot_ite (fun c609 => ?_) (fun c609 => ?_)
      · have : z1.toInt < (u.2.1 10 z3.toNatClampNeg).toInt := ltI c609
        exact tGX12_sets_0_54 u0 (z3.toInt) (fun a610 a611 a612 w613 hw613 p614 p615 p616 => ih a610 a611 a612 w613 hw613 p614 p615 (by omega)) z1 z3 0 z2 u hs_u ⟨by omega, by omega⟩ ⟨by omega, by omega⟩ (by show 0 ≤ (0 : Int) ∧ (0 : Int) ≤ 4096; omega) (by omega)
      · have : ¬ z1.toInt < (u.2.1 10 z3.toNatClampNeg).toInt := nltI c609
        have := shl1_t (p := z3) (by omega) (by omega)
        exact tGX12_sets_0_54 u0 (z3.toInt) (fun a617 a618 a619 w620 hw620 p621 p622 p623 => ih a617 a618 a619 w620 hw620 p621 p622 (by omega)) z1 z3 (1 <<< (z3 &&& 31)) z2 u hs_u ⟨by omega, by omega⟩ ⟨by omega, by omega⟩ ⟨by omega, by omega⟩ (by omega)
set_option maxHeartbeats 400000 in
set_option maxRecDepth 10000 in
theorem tLX12_sets_0_93 (u0 : SX) (g64 : Int) {k202 : Int32 → Int32 → Int32 → SX → Option (Int32 × SX)} (hk202 : ∀ (z1 : Int32) (z2 : Int32) (z3 : Int32) (u : SX), (StM mdX12_sets_0 u0 u) → (0 ≤ z1.toInt ∧ z1.toInt ≤ 120) → (0 ≤ z3.toInt ∧ z3.toInt ≤ 79) → (g64 ≤ z3.toInt) → Tot (k202 z1 z2 z3 u) (qX12_sets_0 u0)) : ∀ (n : Nat) (z1 : Int32) (z2 : Int32) (z3 : Int32) (z4 : Int32) (u : SX), (StM mdX12_sets_0 u0 u) → (0 ≤ z1.toInt ∧ z1.toInt ≤ 120) → (0 ≤ z3.toInt ∧ z3.toInt ≤ 79) → (0 ≤ z4.toInt ∧ z4.toInt ≤ 12) → (g64 ≤ z3.toInt) → (12 - z4.toInt < (n : Int)) → Tot (LX12_sets_0_93 k202 n z1 z2 z3 z4 u) (qX12_sets_0 u0) := by
  intro n
  induction n with
  | zero =>
    intro z1 z2 z3 z4 u hs_u h0 h1 h2 h3 hm
    exfalso
    omega
  | succ n ih =>
    intro z1 z2 z3 z4 u hs_u h0 h1 h2 h3 hm
    rw [LX12_sets_0_93]
    have : 0 ≤ (u.1 12).toInt ∧ (u.1 12).toInt ≤ 12 := hs_u.1.1 12
    refine Tot_ite (fun c624 => ?_) (fun c624 => ?_)
    · have : (u.1 12).toInt ≤ z4.toInt := leI c624
      exact hk202 z1 z2 z3 u hs_u ⟨by omega, by omega⟩ ⟨by omega, by omega⟩ (by omega)
    · have : ¬ (u.1 12).toInt ≤ z4.toInt := nleI c624
      refine Tot_bind (tfX12_least_0 z4 u hs_u.1 ⟨by omega, by omega⟩) (fun q hq => ?_)
      obtain ⟨r16, u17⟩ := q
      have hc_u17 : StM mdX12_least_0 u u17 := hq.1
      have hs_u17 : StM mdX12_sets_0 u0 u17 := StM_tr hs_u hc_u17 (by decide)
      clear hq
      have : (12 * z3).toInt = 12 * z3.toInt := cmul_t (by decide) (by omega) (by omega)
      have : ((12 * z3) + z4).toInt = (12 * z3).toInt + z4.toInt := add_t (by omega) (by omega)
      refine Tot_gd (inb_t (by omega) (by omega)) ?_
      refine Tot_lt (fun u20 e_u20 => ?_)
      have hs_u20 : StM mdX12_sets_0 u0 u20 := by rw [e_u20]; exact StM_sAf hs_u17 (by decide) rfl rfl (by decide)
      refine Tot_bind (tfX12_most_0 z4 u20 hs_u20.1 ⟨by omega, by omega⟩) (fun q hq => ?_)
      obtain ⟨r22, u23⟩ := q
      have hc_u23 : StM mdX12_most_0 u20 u23 := hq.1
      have hs_u23 : StM mdX12_sets_0 u0 u23 := StM_tr hs_u20 hc_u23 (by decide)
      clear hq
      refine Tot_gd (inb_t (by omega) (by omega)) ?_
      refine Tot_lt (fun u26 e_u26 => ?_)
      have hs_u26 : StM mdX12_sets_0 u0 u26 := by rw [e_u26]; exact StM_sAf hs_u23 (by decide) rfl rfl (by decide)
      refine Tot_gd (inb_t (by omega) (by omega)) ?_
      refine Tot_bind (tfX12_shines 400 (u26.2.1 18 z4.toNatClampNeg)) (fun r29 hq => ?_)
      clear hq
      refine Tot_gd (inb_t (by omega) (by omega)) ?_
      refine Tot_lt (fun u33 e_u33 => ?_)
      have hs_u33 : StM mdX12_sets_0 u0 u33 := by rw [e_u33]; exact StM_sAf hs_u26 (by decide) rfl rfl (by decide)
      refine Tot_gd (inb_t (by omega) (by omega)) ?_
      refine Tot_bind (tfX12_shines 400 (u33.2.1 18 z4.toNatClampNeg)) (fun r36 hq => ?_)
      clear hq
      refine Tot_gd (inb_t (by omega) (by omega)) ?_
      refine Tot_lt (fun u40 e_u40 => ?_)
      have hs_u40 : StM mdX12_sets_0 u0 u40 := by rw [e_u40]; exact StM_sAf hs_u33 (by decide) rfl rfl (by decide)
      have : (z4 + 1).toInt = z4.toInt + (1 : Int) := addc_t (by decide) (by omega) (by omega)
      exact ih z1 z2 z3 (z4 + 1) u40 hs_u40 ⟨by omega, by omega⟩ ⟨by omega, by omega⟩ ⟨by omega, by omega⟩ (by omega) (by omega)
set_option maxHeartbeats 400000 in
set_option maxRecDepth 10000 in
theorem tGX12_sets_0_202 (u0 : SX) (g64 : Int) {k64 : Int32 → Int32 → Int32 → SX → Option (Int32 × SX)} (hk64 : ∀ (z1 : Int32) (z2 : Int32) (z3 : Int32) (u : SX), (StM mdX12_sets_0 u0 u) → (0 ≤ z1.toInt ∧ z1.toInt ≤ 120) → (0 ≤ z3.toInt ∧ z3.toInt ≤ 80) → (g64 < z3.toInt) → Tot (k64 z1 z2 z3 u) (qX12_sets_0 u0)) (z1 : Int32) (z2 : Int32) (z3 : Int32) (u : SX) (hs_u : StM mdX12_sets_0 u0 u) (h0 : 0 ≤ z1.toInt ∧ z1.toInt ≤ 120) (h1 : 0 ≤ z3.toInt ∧ z3.toInt ≤ 79) (h2 : g64 ≤ z3.toInt) : Tot (GX12_sets_0_202 k64 z1 z2 z3 u) (qX12_sets_0 u0) := by
  unfold GX12_sets_0_202
  have : (z3 + 1).toInt = z3.toInt + (1 : Int) := addc_t (by decide) (by omega) (by omega)
  exact hk64 z1 z2 (z3 + 1) u hs_u ⟨by omega, by omega⟩ ⟨by omega, by omega⟩ (by omega)
set_option maxHeartbeats 400000 in
set_option maxRecDepth 10000 in
theorem tLX12_sets_0_64 (u0 : SX)  {k208 : Int32 → Int32 → SX → Option (Int32 × SX)} (hk208 : ∀ (z1 : Int32) (z2 : Int32) (u : SX), (StM mdX12_sets_0 u0 u) → (0 ≤ z1.toInt ∧ z1.toInt ≤ 120) → Tot (k208 z1 z2 u) (qX12_sets_0 u0)) : ∀ (n : Nat) (z1 : Int32) (z2 : Int32) (z3 : Int32) (u : SX), (StM mdX12_sets_0 u0 u) → (0 ≤ z1.toInt ∧ z1.toInt ≤ 120) → (0 ≤ z3.toInt ∧ z3.toInt ≤ 80) → (80 - z3.toInt < (n : Int)) → Tot (LX12_sets_0_64 k208 n z1 z2 z3 u) (qX12_sets_0 u0) := by
  intro n
  induction n with
  | zero =>
    intro z1 z2 z3 u hs_u h0 h1 hm
    exfalso
    omega
  | succ n ih =>
    intro z1 z2 z3 u hs_u h0 h1 hm
    rw [LX12_sets_0_64]
    have : 0 ≤ (u.1 15).toInt ∧ (u.1 15).toInt ≤ 80 := hs_u.1.1 15
    refine Tot_ite (fun c625 => ?_) (fun c625 => ?_)
    · have : (u.1 15).toInt ≤ z3.toInt := leI c625
      exact hk208 z1 z2 u hs_u ⟨by omega, by omega⟩
    · have : ¬ (u.1 15).toInt ≤ z3.toInt := nleI c625
      refine Tot_gd (inb_t (by omega) (by omega)) ?_
      have : 0 ≤ (u.2.1 21 z3.toNatClampNeg).toInt ∧ (u.2.1 21 z3.toNatClampNeg).toInt ≤ 120 := hs_u.1.2.1 21 z3.toNatClampNeg
      refine Tot_ite (fun c626 => ?_) (fun c626 => ?_)
      · have : (u.2.1 21 z3.toNatClampNeg).toInt ≤ z1.toInt := leI c626
        refine Tot_bind (tfX12_layWorthsOf_0 z3 u hs_u.1 ⟨by omega, by omega⟩) (fun q hq => ?_)
        obtain ⟨r13, u14⟩ := q
        have hc_u14 : StM mdX12_layWorthsOf_0 u u14 := hq.1
        have hs_u14 : StM mdX12_sets_0 u0 u14 := StM_tr hs_u hc_u14 (by decide)
        have : 0 ≤ r13.toInt ∧ r13.toInt ≤ 0 := hq.2.1
        clear hq
        exact tLX12_sets_0_93 u0 (z3.toInt) (tGX12_sets_0_202 u0 (z3.toInt) (fun a627 a628 a629 w630 hw630 p631 p632 p633 => ih a627 a628 a629 w630 hw630 p631 p632 (by omega))) 5000 z1 z2 z3 0 u14 hs_u14 ⟨by omega, by omega⟩ ⟨by omega, by omega⟩ (by show 0 ≤ (0 : Int) ∧ (0 : Int) ≤ 12; omega) (by omega) (by show 12 - (0 : Int) < ((5000 : Nat) : Int); omega)
      · have : ¬ (u.2.1 21 z3.toNatClampNeg).toInt ≤ z1.toInt := nleI c626
        exact tGX12_sets_0_202 u0 (z3.toInt) (fun a634 a635 a636 w637 hw637 p638 p639 p640 => ih a634 a635 a636 w637 hw637 p638 p639 (by omega)) z1 z2 z3 u hs_u ⟨by omega, by omega⟩ ⟨by omega, by omega⟩ (by omega)
set_option maxHeartbeats 400000 in
set_option maxRecDepth 10000 in
theorem tGX12_sets_0_255 (u0 : SX) (g213 : Int) {k213 : Int32 → Int32 → Int32 → Int32 → SX → Option (Int32 × SX)} (hk213 : ∀ (z1 : Int32) (z2 : Int32) (z3 : Int32) (z4 : Int32) (u : SX), (StM mdX12_sets_0 u0 u) → (0 ≤ z1.toInt ∧ z1.toInt ≤ 120) → ((-1) ≤ z3.toInt ∧ z3.toInt ≤ 4319) → (0 ≤ z4.toInt ∧ z4.toInt ≤ 4320) → (g213 < z4.toInt) → Tot (k213 z1 z2 z3 z4 u) (qX12_sets_0 u0)) (z1 : Int32) (z2 : Int32) (z3 : Int32) (z4 : Int32) (u : SX) (hs_u : StM mdX12_sets_0 u0 u) (h0 : 0 ≤ z1.toInt ∧ z1.toInt ≤ 120) (h1 : (-1) ≤ z3.toInt ∧ z3.toInt ≤ 4319) (h2 : 0 ≤ z4.toInt ∧ z4.toInt ≤ 4319) (h3 : g213 ≤ z4.toInt) : Tot (GX12_sets_0_255 k213 z1 z2 z3 z4 u) (qX12_sets_0 u0) := by
  unfold GX12_sets_0_255
  have : (z4 + 1).toInt = z4.toInt + (1 : Int) := addc_t (by decide) (by omega) (by omega)
  exact hk213 z1 z2 z3 (z4 + 1) u hs_u ⟨by omega, by omega⟩ ⟨by omega, by omega⟩ ⟨by omega, by omega⟩ (by omega)
set_option maxHeartbeats 400000 in
set_option maxRecDepth 10000 in
theorem tLX12_sets_0_213 (u0 : SX)    : ∀ (n : Nat) (z1 : Int32) (z2 : Int32) (z3 : Int32) (z4 : Int32) (u : SX), (StM mdX12_sets_0 u0 u) → (0 ≤ z1.toInt ∧ z1.toInt ≤ 120) → ((-1) ≤ z3.toInt ∧ z3.toInt ≤ 4319) → (0 ≤ z4.toInt ∧ z4.toInt ≤ 4320) → (4320 - z4.toInt < (n : Int)) → Tot (LX12_sets_0_213 n z1 z2 z3 z4 u) (qX12_sets_0 u0) := by
  intro n
  induction n with
  | zero =>
    intro z1 z2 z3 z4 u hs_u h0 h1 h2 hm
    exfalso
    omega
  | succ n ih =>
    intro z1 z2 z3 z4 u hs_u h0 h1 h2 hm
    rw [LX12_sets_0_213]
    have : 0 ≤ (u.1 12).toInt ∧ (u.1 12).toInt ≤ 12 := hs_u.1.1 12
    have := shl1_t (p := (u.1 12)) (by omega) (by omega)
    refine Tot_ite (fun c641 => ?_) (fun c641 => ?_)
    · have : (1 <<< ((u.1 12) &&& 31)).toInt ≤ z4.toInt := leI c641
      exact Tot_some ⟨hs_u, (by show (-1) ≤ z3.toInt ∧ z3.toInt ≤ 4319; omega), trivial⟩
    · have : ¬ (1 <<< ((u.1 12) &&& 31)).toInt ≤ z4.toInt := nleI c641
      refine Tot_ite (fun c642 => ?_) (fun c642 => ?_)
      · have : (z4 &&& (z2 ^^^ (-1))).toInt = (0 : Int) := eqI c642
        refine Tot_bind (tfX12_isBetter z4 z3 ⟨by omega, by omega⟩ ⟨by omega, by omega⟩) (fun r42 hq => ?_)
        have : 0 ≤ r42.toInt ∧ r42.toInt ≤ 1 := hq.1
        clear hq
        refine Tot_ite (fun c643 => ?_) (fun c643 => ?_)
        · have : r42.toInt = (0 : Int) := eqI c643
          exact tGX12_sets_0_255 u0 (z4.toInt) (fun a644 a645 a646 a647 w648 hw648 p649 p650 p651 p652 => ih a644 a645 a646 a647 w648 hw648 p649 p650 p651 (by omega)) z1 z2 z3 z4 u hs_u ⟨by omega, by omega⟩ ⟨by omega, by omega⟩ ⟨by omega, by omega⟩ (by omega)
        · have : ¬ r42.toInt = (0 : Int) := neI c643
          refine Tot_bind (tfX12_isSet_0 z4 z1 u hs_u.1 ⟨by omega, by omega⟩ ⟨by omega, by omega⟩) (fun q hq => ?_)
          obtain ⟨r45, u46⟩ := q
          have hc_u46 : StM mdX12_isSet_0 u u46 := hq.1
          have hs_u46 : StM mdX12_sets_0 u0 u46 := StM_tr hs_u hc_u46 (by decide)
          have : 0 ≤ r45.toInt ∧ r45.toInt ≤ 1 := hq.2.1
          clear hq
          refine Tot_ite (fun c653 => ?_) (fun c653 => ?_)
          · have : r45.toInt = (0 : Int) := eqI c653
            exact tGX12_sets_0_255 u0 (z4.toInt) (fun a654 a655 a656 a657 w658 hw658 p659 p660 p661 p662 => ih a654 a655 a656 a657 w658 hw658 p659 p660 p661 (by omega)) z1 z2 z3 z4 u46 hs_u46 ⟨by omega, by omega⟩ ⟨by omega, by omega⟩ ⟨by omega, by omega⟩ (by omega)
          · have : ¬ r45.toInt = (0 : Int) := neI c653
            exact tGX12_sets_0_255 u0 (z4.toInt) (fun a663 a664 a665 a666 w667 hw667 p668 p669 p670 p671 => ih a663 a664 a665 a666 w667 hw667 p668 p669 p670 (by omega)) z1 z2 z4 z4 u46 hs_u46 ⟨by omega, by omega⟩ ⟨by omega, by omega⟩ ⟨by omega, by omega⟩ (by omega)
      · exact tGX12_sets_0_255 u0 (z4.toInt) (fun a672 a673 a674 a675 w676 hw676 p677 p678 p679 p680 => ih a672 a673 a674 a675 w676 hw676 p677 p678 p679 (by omega)) z1 z2 z3 z4 u hs_u ⟨by omega, by omega⟩ ⟨by omega, by omega⟩ ⟨by omega, by omega⟩ (by omega)
set_option maxHeartbeats 400000 in
set_option maxRecDepth 10000 in
theorem tGX12_sets_0_208 (u0 : SX)    (z1 : Int32) (z2 : Int32) (u : SX) (hs_u : StM mdX12_sets_0 u0 u) (h0 : 0 ≤ z1.toInt ∧ z1.toInt ≤ 120) : Tot (GX12_sets_0_208 z1 z2 u) (qX12_sets_0 u0) := by
  unfold GX12_sets_0_208
  exact tLX12_sets_0_213 u0 5000 z1 z2 (-1) 0 u hs_u ⟨by omega, by omega⟩ (by show (-1) ≤ (-1 : Int) ∧ (-1 : Int) ≤ 4319; omega) (by show 0 ≤ (0 : Int) ∧ (0 : Int) ≤ 4320; omega) (by show 4320 - (0 : Int) < ((5000 : Nat) : Int); omega)
set_option maxHeartbeats 400000 in
set_option maxRecDepth 10000 in
theorem tGX12_sets_0_62 (u0 : SX)    (z1 : Int32) (z2 : Int32) (u : SX) (hs_u : StM mdX12_sets_0 u0 u) (h0 : 0 ≤ z1.toInt ∧ z1.toInt ≤ 120) : Tot (GX12_sets_0_62 z1 z2 u) (qX12_sets_0 u0) := by
  unfold GX12_sets_0_62
  exact tLX12_sets_0_64 u0 (tGX12_sets_0_208 u0) 5000 z1 z2 0 u hs_u ⟨by omega, by omega⟩ (by show 0 ≤ (0 : Int) ∧ (0 : Int) ≤ 80; omega) (by show 80 - (0 : Int) < ((5000 : Nat) : Int); omega)
set_option maxHeartbeats 400000 in
set_option maxRecDepth 10000 in
theorem tfX12_sets_0 (x1 : Int32) (u : SX) (hI : IM u)  : Tot (fX12_sets_0 x1 u) (qX12_sets_0 u) := by
  unfold fX12_sets_0
  have hs_u : StM mdX12_sets_0 u u := StM_rf hI
  refine Tot_lt (fun u1 e_u1 => ?_)
  have hs_u1 : StM mdX12_sets_0 u u1 := by rw [e_u1]; exact StM_sI hs_u (by decide) (by show 0 ≤ (0 : Int); omega) (by show (0 : Int) ≤ 1; omega)
  have : (u1.1 1).toInt = (u.1 1).toInt := by rw [e_u1]; rfl
  have : 0 ≤ (u.1 1).toInt ∧ (u.1 1).toInt ≤ 120 := hs_u.1.1 1
  refine Tot_bind (tfX12_isIn x1 0 (u1.1 1) (by show (-100000) ≤ (0 : Int) ∧ (0 : Int) ≤ 400; omega) ⟨by omega, by omega⟩) (fun r3 hq => ?_)
  have : 0 ≤ r3.toInt ∧ r3.toInt ≤ 1 := hq.1
  have : r3.toInt ≠ 0 → ((0 : Int) ≤ x1.toInt ∧ x1.toInt ≤ (u1.1 1).toInt) := hq.2
  clear hq
  refine Tot_ite (fun c681 => ?_) (fun c681 => ?_)
  · have : r3.toInt = (0 : Int) := eqI c681
    exact Tot_some ⟨hs_u1, (by show (-1) ≤ (-1 : Int) ∧ (-1 : Int) ≤ 4319; omega), trivial⟩
  · have : ¬ r3.toInt = (0 : Int) := neI c681
    refine Tot_bind (tfX12_laySpansOf_0 x1 u1 hs_u1.1 ⟨by omega, by omega⟩) (fun q hq => ?_)
    obtain ⟨r6, u7⟩ := q
    have hc_u7 : StM mdX12_laySpansOf_0 u1 u7 := hq.1
    have hs_u7 : StM mdX12_sets_0 u u7 := StM_tr hs_u1 hc_u7 (by decide)
    have : 0 ≤ r6.toInt ∧ r6.toInt ≤ 0 := hq.2.1
    clear hq
    exact tLX12_sets_0_28 u (tGX12_sets_0_62 u) 5000 x1 0 0 u7 hs_u7 ⟨by omega, by omega⟩ (by show 0 ≤ (0 : Int) ∧ (0 : Int) ≤ 12; omega) (by show 12 - (0 : Int) < ((5000 : Nat) : Int); omega)

def mdX12_isLook_0 : MD := ([], [], [], [])
abbrev qX12_isLook_0 (x1 : Int32) (u : SX) (q : Int32 × SX) : Prop := StM mdX12_isLook_0 u q.2 ∧ (0 ≤ q.1.toInt ∧ q.1.toInt ≤ 1) ∧ ((q.1.toInt ≠ 0 → ((0 : Int) ≤ x1.toInt ∧ x1.toInt < (u.1 21).toInt)))
set_option maxHeartbeats 400000 in
set_option maxRecDepth 10000 in
theorem tfX12_isLook_0 (x1 : Int32) (u : SX) (hI : IM u)  : Tot (fX12_isLook_0 x1 u) (qX12_isLook_0 x1 u) := by
  unfold fX12_isLook_0
  have hs_u : StM mdX12_isLook_0 u u := StM_rf hI
  refine Tot_ite (fun c682 => ?_) (fun c682 => ?_)
  · have : x1.toInt < (0 : Int) := ltI c682
    refine Tot_gd (by decide) ?_
    have : 0 ≤ (u.1 21).toInt ∧ (u.1 21).toInt ≤ 10 := hs_u.1.1 21
    exact Tot_some ⟨hs_u, (by show 0 ≤ (0 : Int) ∧ (0 : Int) ≤ 1; omega), (by show (0 : Int) ≠ 0 → ((0 : Int) ≤ x1.toInt ∧ x1.toInt < (u.1 21).toInt); omega)⟩
  · have : ¬ x1.toInt < (0 : Int) := nltI c682
    have : 0 ≤ (u.1 21).toInt ∧ (u.1 21).toInt ≤ 10 := hs_u.1.1 21
    refine Tot_ite (fun c683 => ?_) (fun c683 => ?_)
    · have : (u.1 21).toInt ≤ x1.toInt := leI c683
      refine Tot_gd (by decide) ?_
      exact Tot_some ⟨hs_u, (by show 0 ≤ (0 : Int) ∧ (0 : Int) ≤ 1; omega), (by show (0 : Int) ≠ 0 → ((0 : Int) ≤ x1.toInt ∧ x1.toInt < (u.1 21).toInt); omega)⟩
    · have : ¬ (u.1 21).toInt ≤ x1.toInt := nleI c683
      refine Tot_gd (by decide) ?_
      exact Tot_some ⟨hs_u, (by show 0 ≤ (1 : Int) ∧ (1 : Int) ≤ 1; omega), (by show (1 : Int) ≠ 0 → ((0 : Int) ≤ x1.toInt ∧ x1.toInt < (u.1 21).toInt); omega)⟩

def mdX12_look__0 : MD := ([0, 21], [29, 30, 31, 32, 33], [], [])
abbrev qX12_look__0 (u : SX) (q : Int32 × SX) : Prop := StM mdX12_look__0 u q.2 ∧ ((-1) ≤ q.1.toInt ∧ q.1.toInt ≤ 9) ∧ (True)
set_option maxHeartbeats 400000 in
set_option maxRecDepth 10000 in
theorem tfX12_look__0 (x1 : Int32) (x2 : Int32) (x3 : Int32) (x4 : Int32) (u : SX) (hI : IM u)  : Tot (fX12_look__0 x1 x2 x3 x4 u) (qX12_look__0 u) := by
  unfold fX12_look__0
  have hs_u : StM mdX12_look__0 u u := StM_rf hI
  refine Tot_lt (fun u1 e_u1 => ?_)
  have hs_u1 : StM mdX12_look__0 u u1 := by rw [e_u1]; exact StM_sI hs_u (by decide) (by show 0 ≤ (0 : Int); omega) (by show (0 : Int) ≤ 1; omega)
  have : (u1.1 21).toInt = (u.1 21).toInt := by rw [e_u1]; rfl
  have : 0 ≤ (u.1 21).toInt ∧ (u.1 21).toInt ≤ 10 := hs_u.1.1 21
  refine Tot_ite (fun c684 => ?_) (fun c684 => ?_)
  · have : (u1.1 21).toInt = (10 : Int) := eqI c684
    exact Tot_some ⟨hs_u1, (by show (-1) ≤ (-1 : Int) ∧ (-1 : Int) ≤ 9; omega), trivial⟩
  · have : ¬ (u1.1 21).toInt = (10 : Int) := neI c684
    refine Tot_bind (tfX12_isPart_0 x1 u1 hs_u1.1) (fun q hq => ?_)
    obtain ⟨r3, u4⟩ := q
    have hc_u4 : StM mdX12_isPart_0 u1 u4 := hq.1
    have hs_u4 : StM mdX12_look__0 u u4 := StM_tr hs_u1 hc_u4 (by decide)
    have : 0 ≤ r3.toInt ∧ r3.toInt ≤ 1 := hq.2.1
    have : (u1.1 12).toInt = (u.1 12).toInt := by rw [e_u1]; rfl
    have : 0 ≤ (u.1 12).toInt ∧ (u.1 12).toInt ≤ 12 := hs_u.1.1 12
    have : r3.toInt ≠ 0 → ((0 : Int) ≤ x1.toInt ∧ x1.toInt < (u1.1 12).toInt) := hq.2.2
    clear hq
    refine Tot_ite (fun c685 => ?_) (fun c685 => ?_)
    · have : r3.toInt = (0 : Int) := eqI c685
      exact Tot_some ⟨hs_u4, (by show (-1) ≤ (-1 : Int) ∧ (-1 : Int) ≤ 9; omega), trivial⟩
    · have : ¬ r3.toInt = (0 : Int) := neI c685
      refine Tot_bind (tfX12_isSpan x2 x3) (fun r6 hq => ?_)
      have : 0 ≤ r6.toInt ∧ r6.toInt ≤ 1 := hq.1
      have : r6.toInt ≠ 0 → ((0 : Int) ≤ x2.toInt ∧ x2.toInt ≤ x3.toInt ∧ x3.toInt ≤ (400 : Int)) := hq.2
      clear hq
      refine Tot_ite (fun c686 => ?_) (fun c686 => ?_)
      · have : r6.toInt = (0 : Int) := eqI c686
        exact Tot_some ⟨hs_u4, (by show (-1) ≤ (-1 : Int) ∧ (-1 : Int) ≤ 9; omega), trivial⟩
      · have : ¬ r6.toInt = (0 : Int) := neI c686
        refine Tot_bind (tfX12_isIn x4 1 50 (by show (-100000) ≤ (1 : Int) ∧ (1 : Int) ≤ 400; omega) (by show (-1) ≤ (50 : Int) ∧ (50 : Int) ≤ 100000; omega)) (fun r9 hq => ?_)
        have : 0 ≤ r9.toInt ∧ r9.toInt ≤ 1 := hq.1
        have : r9.toInt ≠ 0 → ((1 : Int) ≤ x4.toInt ∧ x4.toInt ≤ (50 : Int)) := hq.2
        clear hq
        refine Tot_ite (fun c687 => ?_) (fun c687 => ?_)
        · have : r9.toInt = (0 : Int) := eqI c687
          exact Tot_some ⟨hs_u4, (by show (-1) ≤ (-1 : Int) ∧ (-1 : Int) ≤ 9; omega), trivial⟩
        · have : ¬ r9.toInt = (0 : Int) := neI c687
          have : (u4.1 21).toInt = (u1.1 21).toInt := congrArg Int32.toInt (hc_u4.2.1 21 (by decide))
          refine Tot_gd (inb_t (by omega) (by omega)) ?_
          refine Tot_lt (fun u13 e_u13 => ?_)
          have hs_u13 : StM mdX12_look__0 u u13 := by rw [e_u13]; exact StM_sA hs_u4 (by decide) (by show 0 ≤ x1.toInt; omega) (by show x1.toInt ≤ 11; omega) (by decide)
          have : (u13.1 21).toInt = (u4.1 21).toInt := by rw [e_u13]; rfl
          refine Tot_gd (inb_t (by omega) (by omega)) ?_
          refine Tot_lt (fun u16 e_u16 => ?_)
          have hs_u16 : StM mdX12_look__0 u u16 := by rw [e_u16]; exact StM_sAf hs_u13 (by decide) rfl rfl (by decide)
          have : (u16.1 21).toInt = (u13.1 21).toInt := by rw [e_u16]; rfl
          refine Tot_gd (inb_t (by omega) (by omega)) ?_
          refine Tot_lt (fun u19 e_u19 => ?_)
          have hs_u19 : StM mdX12_look__0 u u19 := by rw [e_u19]; exact StM_sA hs_u16 (by decide) (by show 0 ≤ x3.toInt; omega) (by show x3.toInt ≤ 400; omega) (by decide)
          have : (u19.1 21).toInt = (u16.1 21).toInt := by rw [e_u19]; rfl
          refine Tot_gd (inb_t (by omega) (by omega)) ?_
          refine Tot_lt (fun u22 e_u22 => ?_)
          have hs_u22 : StM mdX12_look__0 u u22 := by rw [e_u22]; exact StM_sA hs_u19 (by decide) (by show 0 ≤ x4.toInt; omega) (by show x4.toInt ≤ 50; omega) (by decide)
          have : (u22.1 21).toInt = (u19.1 21).toInt := by rw [e_u22]; rfl
          refine Tot_gd (inb_t (by omega) (by omega)) ?_
          refine Tot_lt (fun u25 e_u25 => ?_)
          have hs_u25 : StM mdX12_look__0 u u25 := by rw [e_u25]; exact StM_sA hs_u22 (by decide) (by show (-1) ≤ (-1 : Int); omega) (by show (-1 : Int) ≤ 29; omega) (by decide)
          have : (u25.1 21).toInt = (u22.1 21).toInt := by rw [e_u25]; rfl
          have : ((u25.1 21) + 1).toInt = (u25.1 21).toInt + (1 : Int) := addc_t (by decide) (by omega) (by omega)
          refine Tot_lt (fun u27 e_u27 => ?_)
          have hs_u27 : StM mdX12_look__0 u u27 := by rw [e_u27]; exact StM_sI hs_u25 (by decide) (by show 0 ≤ ((u25.1 21) + 1).toInt; omega) (by show ((u25.1 21) + 1).toInt ≤ 10; omega)
          have : (u27.1 21).toInt = ((u25.1 21) + 1).toInt := by rw [e_u27]; rfl
          have : ((u27.1 21) - 1).toInt = (u27.1 21).toInt - (1 : Int) := subc_t (by decide) (by omega) (by omega)
          exact Tot_some ⟨hs_u27, (by show (-1) ≤ ((u27.1 21) - 1).toInt ∧ ((u27.1 21) - 1).toInt ≤ 9; omega), trivial⟩

def mdX12_happens_0 : MD := ([13], [11, 12, 13, 14, 15], [], [])
abbrev qX12_happens_0 (u : SX) (q : Int32 × SX) : Prop := StM mdX12_happens_0 u q.2 ∧ (0 ≤ q.1.toInt ∧ q.1.toInt ≤ 0) ∧ (True)
set_option maxHeartbeats 400000 in
set_option maxRecDepth 10000 in
theorem tfX12_happens_0 (x1 : Int32) (x2 : Int32) (x3 : Int32) (x4 : Int32) (u : SX) (hI : IM u) (h0 : (-1) ≤ x1.toInt ∧ x1.toInt ≤ 9) (h1 : 0 ≤ x2.toInt ∧ x2.toInt ≤ 11) (h2 : 0 ≤ x4.toInt ∧ x4.toInt ≤ 400) (h3 : (u.1 13).toInt < (30 : Int)) : Tot (fX12_happens_0 x1 x2 x3 x4 u) (qX12_happens_0 u) := by
  unfold fX12_happens_0
  have hs_u : StM mdX12_happens_0 u u := StM_rf hI
  have : 0 ≤ (u.1 13).toInt ∧ (u.1 13).toInt ≤ 30 := hs_u.1.1 13
  refine Tot_gd (inb_t (by omega) (by omega)) ?_
  refine Tot_lt (fun u2 e_u2 => ?_)
  have hs_u2 : StM mdX12_happens_0 u u2 := by rw [e_u2]; exact StM_sA hs_u (by decide) (by show (-1) ≤ x1.toInt; omega) (by show x1.toInt ≤ 9; omega) (by decide)
  have : (u2.1 13).toInt = (u.1 13).toInt := by rw [e_u2]; rfl
  refine Tot_gd (inb_t (by omega) (by omega)) ?_
  refine Tot_lt (fun u5 e_u5 => ?_)
  have hs_u5 : StM mdX12_happens_0 u u5 := by rw [e_u5]; exact StM_sA hs_u2 (by decide) (by show 0 ≤ x2.toInt; omega) (by show x2.toInt ≤ 11; omega) (by decide)
  have : (u5.1 13).toInt = (u2.1 13).toInt := by rw [e_u5]; rfl
  refine Tot_gd (inb_t (by omega) (by omega)) ?_
  refine Tot_lt (fun u8 e_u8 => ?_)
  have hs_u8 : StM mdX12_happens_0 u u8 := by rw [e_u8]; exact StM_sAf hs_u5 (by decide) rfl rfl (by decide)
  have : (u8.1 13).toInt = (u5.1 13).toInt := by rw [e_u8]; rfl
  refine Tot_gd (inb_t (by omega) (by omega)) ?_
  refine Tot_lt (fun u11 e_u11 => ?_)
  have hs_u11 : StM mdX12_happens_0 u u11 := by rw [e_u11]; exact StM_sA hs_u8 (by decide) (by show 0 ≤ x4.toInt; omega) (by show x4.toInt ≤ 400; omega) (by decide)
  have : (u11.1 13).toInt = (u8.1 13).toInt := by rw [e_u11]; rfl
  refine Tot_gd (inb_t (by omega) (by omega)) ?_
  have : (u11.1 1).toInt = (u8.1 1).toInt := by rw [e_u11]; rfl
  have : (u8.1 1).toInt = (u5.1 1).toInt := by rw [e_u8]; rfl
  have : (u5.1 1).toInt = (u2.1 1).toInt := by rw [e_u5]; rfl
  have : (u2.1 1).toInt = (u.1 1).toInt := by rw [e_u2]; rfl
  have : 0 ≤ (u.1 1).toInt ∧ (u.1 1).toInt ≤ 120 := hs_u.1.1 1
  refine Tot_lt (fun u14 e_u14 => ?_)
  have hs_u14 : StM mdX12_happens_0 u u14 := by rw [e_u14]; exact StM_sA hs_u11 (by decide) (by show 0 ≤ (u11.1 1).toInt; omega) (by show (u11.1 1).toInt ≤ 120; omega) (by decide)
  have : (u14.1 13).toInt = (u11.1 13).toInt := by rw [e_u14]; rfl
  have : ((u14.1 13) + 1).toInt = (u14.1 13).toInt + (1 : Int) := addc_t (by decide) (by omega) (by omega)
  refine Tot_lt (fun u16 e_u16 => ?_)
  have hs_u16 : StM mdX12_happens_0 u u16 := by rw [e_u16]; exact StM_sI hs_u14 (by decide) (by show 0 ≤ ((u14.1 13) + 1).toInt; omega) (by show ((u14.1 13) + 1).toInt ≤ 30; omega)
  exact Tot_some ⟨hs_u16, (by show 0 ≤ (0 : Int) ∧ (0 : Int) ≤ 0; omega), trivial⟩

def mdX12_done_0 : MD := ([0, 13], [11, 12, 13, 14, 15, 33], [], [])
abbrev qX12_done_0 (u : SX) (q : Int32 × SX) : Prop := StM mdX12_done_0 u q.2 ∧ (0 ≤ q.1.toInt ∧ q.1.toInt ≤ 1) ∧ (True)
set_option maxHeartbeats 400000 in
set_option maxRecDepth 10000 in
theorem tfX12_done_0 (x1 : Int32) (u : SX) (hI : IM u) (h0 : ((0 ≤ x1.toInt ∧ x1.toInt < (u.1 21).toInt ∧ (u.2.1 33 x1.toNatClampNeg).toInt = -1) → (u.1 13).toInt < 30)) : Tot (fX12_done_0 x1 u) (qX12_done_0 u) := by
  unfold fX12_done_0
  have hs_u : StM mdX12_done_0 u u := StM_rf hI
  have : 0 ≤ (u.1 21).toInt ∧ (u.1 21).toInt ≤ 10 := hs_u.1.1 21
  have : 0 ≤ (u.1 13).toInt ∧ (u.1 13).toInt ≤ 30 := hs_u.1.1 13
  refine Tot_lt (fun u1 e_u1 => ?_)
  have hs_u1 : StM mdX12_done_0 u u1 := by rw [e_u1]; exact StM_sI hs_u (by decide) (by show 0 ≤ (0 : Int); omega) (by show (0 : Int) ≤ 1; omega)
  refine Tot_bind (tfX12_isLook_0 x1 u1 hs_u1.1) (fun q hq => ?_)
  obtain ⟨r3, u4⟩ := q
  have hc_u4 : StM mdX12_isLook_0 u1 u4 := hq.1
  have hs_u4 : StM mdX12_done_0 u u4 := StM_tr hs_u1 hc_u4 (by decide)
  have : 0 ≤ r3.toInt ∧ r3.toInt ≤ 1 := hq.2.1
  have : (u1.1 21).toInt = (u.1 21).toInt := by rw [e_u1]; rfl
  have : r3.toInt ≠ 0 → ((0 : Int) ≤ x1.toInt ∧ x1.toInt < (u1.1 21).toInt) := hq.2.2
  clear hq
  refine Tot_ite (fun c688 => ?_) (fun c688 => ?_)
  · have : r3.toInt = (0 : Int) := eqI c688
    refine Tot_gd (by decide) ?_
    exact Tot_some ⟨hs_u4, (by show 0 ≤ (0 : Int) ∧ (0 : Int) ≤ 1; omega), trivial⟩
  · have : ¬ r3.toInt = (0 : Int) := neI c688
    refine Tot_gd (inb_t (by omega) (by omega)) ?_
    have : (u4.2.1 33 x1.toNatClampNeg).toInt = (u1.2.1 33 x1.toNatClampNeg).toInt := congrArg (fun f : Nat → Int32 => (f x1.toNatClampNeg).toInt) (hc_u4.2.2.1 33 (by decide))
    have : (u1.2.1 33 x1.toNatClampNeg).toInt = (u.2.1 33 x1.toNatClampNeg).toInt := by rw [e_u1]; rfl
    have : (-1) ≤ (u4.2.1 33 x1.toNatClampNeg).toInt ∧ (u4.2.1 33 x1.toNatClampNeg).toInt ≤ 29 := hs_u4.1.2.1 33 x1.toNatClampNeg
    refine Tot_ite (fun c689 => ?_) (fun c689 => ?_)
    · have : (u4.2.1 33 x1.toNatClampNeg).toInt = (-1 : Int) := eqI c689
      refine Tot_gd (inb_t (by omega) (by omega)) ?_
      have : (u4.1 13).toInt = (u1.1 13).toInt := congrArg Int32.toInt (hc_u4.2.1 13 (by decide))
      have : (u1.1 13).toInt = (u.1 13).toInt := by rw [e_u1]; rfl
      refine Tot_lt (fun u9 e_u9 => ?_)
      have hs_u9 : StM mdX12_done_0 u u9 := by rw [e_u9]; exact StM_sA hs_u4 (by decide) (by show (-1) ≤ (u4.1 13).toInt; omega) (by show (u4.1 13).toInt ≤ 29; omega) (by decide)
      refine Tot_gd (inb_t (by omega) (by omega)) ?_
      refine Tot_gd (inb_t (by omega) (by omega)) ?_
      refine Tot_gd (inb_t (by omega) (by omega)) ?_
      have : 0 ≤ (u9.2.1 29 x1.toNatClampNeg).toInt ∧ (u9.2.1 29 x1.toNatClampNeg).toInt ≤ 11 := hs_u9.1.2.1 29 x1.toNatClampNeg
      have : 0 ≤ (u9.2.1 31 x1.toNatClampNeg).toInt ∧ (u9.2.1 31 x1.toNatClampNeg).toInt ≤ 400 := hs_u9.1.2.1 31 x1.toNatClampNeg
      have : (u9.1 13).toInt = (u4.1 13).toInt := by rw [e_u9]; rfl
      refine Tot_bind (tfX12_happens_0 x1 (u9.2.1 29 x1.toNatClampNeg) (u9.2.1 30 x1.toNatClampNeg) (u9.2.1 31 x1.toNatClampNeg) u9 hs_u9.1 ⟨by omega, by omega⟩ ⟨by omega, by omega⟩ ⟨by omega, by omega⟩ (by show (u9.1 13).toInt < (30 : Int); omega)) (fun q hq => ?_)
      obtain ⟨r14, u15⟩ := q
      have hc_u15 : StM mdX12_happens_0 u9 u15 := hq.1
      have hs_u15 : StM mdX12_done_0 u u15 := StM_tr hs_u9 hc_u15 (by decide)
      have : 0 ≤ r14.toInt ∧ r14.toInt ≤ 0 := hq.2.1
      clear hq
      refine Tot_gd (by decide) ?_
      exact Tot_some ⟨hs_u15, (by show 0 ≤ (1 : Int) ∧ (1 : Int) ≤ 1; omega), trivial⟩
    · have : ¬ (u4.2.1 33 x1.toNatClampNeg).toInt = (-1 : Int) := neI c689
      refine Tot_gd (by decide) ?_
      exact Tot_some ⟨hs_u4, (by show 0 ≤ (0 : Int) ∧ (0 : Int) ≤ 1; omega), trivial⟩

def mdX12_clean_0 : MD := ([0, 13, 14], [9, 11, 12, 13, 14, 15], [], [])
abbrev qX12_clean_0 (u : SX) (q : Int32 × SX) : Prop := StM mdX12_clean_0 u q.2 ∧ (0 ≤ q.1.toInt ∧ q.1.toInt ≤ 1) ∧ (True)
set_option maxHeartbeats 400000 in
set_option maxRecDepth 10000 in
theorem tfX12_clean_0 (x1 : Int32) (x2 : Int32) (x3 : Int32) (x4 : Int32) (u : SX) (hI : IM u) (h0 : ((u.1 14).toInt < 20 → (u.1 13).toInt < 30)) : Tot (fX12_clean_0 x1 x2 x3 x4 u) (qX12_clean_0 u) := by
  unfold fX12_clean_0
  have hs_u : StM mdX12_clean_0 u u := StM_rf hI
  have : 0 ≤ (u.1 14).toInt ∧ (u.1 14).toInt ≤ 20 := hs_u.1.1 14
  have : 0 ≤ (u.1 13).toInt ∧ (u.1 13).toInt ≤ 30 := hs_u.1.1 13
  refine Tot_lt (fun u1 e_u1 => ?_)
  have hs_u1 : StM mdX12_clean_0 u u1 := by rw [e_u1]; exact StM_sI hs_u (by decide) (by show 0 ≤ (0 : Int); omega) (by show (0 : Int) ≤ 1; omega)
  have : (u1.1 14).toInt = (u.1 14).toInt := by rw [e_u1]; rfl
  refine Tot_ite (fun c690 => ?_) (fun c690 => ?_)
  · have : (u1.1 14).toInt = (20 : Int) := eqI c690
    refine Tot_gd (by decide) ?_
    exact Tot_some ⟨hs_u1, (by show 0 ≤ (0 : Int) ∧ (0 : Int) ≤ 1; omega), trivial⟩
  · have : ¬ (u1.1 14).toInt = (20 : Int) := neI c690
    refine Tot_bind (tfX12_isPart_0 x1 u1 hs_u1.1) (fun q hq => ?_)
    obtain ⟨r4, u5⟩ := q
    have hc_u5 : StM mdX12_isPart_0 u1 u5 := hq.1
    have hs_u5 : StM mdX12_clean_0 u u5 := StM_tr hs_u1 hc_u5 (by decide)
    have : 0 ≤ r4.toInt ∧ r4.toInt ≤ 1 := hq.2.1
    have : (u1.1 12).toInt = (u.1 12).toInt := by rw [e_u1]; rfl
    have : 0 ≤ (u.1 12).toInt ∧ (u.1 12).toInt ≤ 12 := hs_u.1.1 12
    have : r4.toInt ≠ 0 → ((0 : Int) ≤ x1.toInt ∧ x1.toInt < (u1.1 12).toInt) := hq.2.2
    clear hq
    refine Tot_ite (fun c691 => ?_) (fun c691 => ?_)
    · have : r4.toInt = (0 : Int) := eqI c691
      refine Tot_gd (by decide) ?_
      exact Tot_some ⟨hs_u5, (by show 0 ≤ (0 : Int) ∧ (0 : Int) ≤ 1; omega), trivial⟩
    · have : ¬ r4.toInt = (0 : Int) := neI c691
      refine Tot_bind (tfX12_isSpan x2 x3) (fun r8 hq => ?_)
      have : 0 ≤ r8.toInt ∧ r8.toInt ≤ 1 := hq.1
      have : r8.toInt ≠ 0 → ((0 : Int) ≤ x2.toInt ∧ x2.toInt ≤ x3.toInt ∧ x3.toInt ≤ (400 : Int)) := hq.2
      clear hq
      refine Tot_ite (fun c692 => ?_) (fun c692 => ?_)
      · have : r8.toInt = (0 : Int) := eqI c692
        refine Tot_gd (by decide) ?_
        exact Tot_some ⟨hs_u5, (by show 0 ≤ (0 : Int) ∧ (0 : Int) ≤ 1; omega), trivial⟩
      · have : ¬ r8.toInt = (0 : Int) := neI c692
        refine Tot_bind (tfX12_isIn x4 0 400 (by show (-100000) ≤ (0 : Int) ∧ (0 : Int) ≤ 400; omega) (by show (-1) ≤ (400 : Int) ∧ (400 : Int) ≤ 100000; omega)) (fun r12 hq => ?_)
        have : 0 ≤ r12.toInt ∧ r12.toInt ≤ 1 := hq.1
        have : r12.toInt ≠ 0 → ((0 : Int) ≤ x4.toInt ∧ x4.toInt ≤ (400 : Int)) := hq.2
        clear hq
        refine Tot_ite (fun c693 => ?_) (fun c693 => ?_)
        · have : r12.toInt = (0 : Int) := eqI c693
          refine Tot_gd (by decide) ?_
          exact Tot_some ⟨hs_u5, (by show 0 ≤ (0 : Int) ∧ (0 : Int) ≤ 1; omega), trivial⟩
        · have : ¬ r12.toInt = (0 : Int) := neI c693
          have : (u5.1 13).toInt = (u1.1 13).toInt := congrArg Int32.toInt (hc_u5.2.1 13 (by decide))
          have : (u1.1 13).toInt = (u.1 13).toInt := by rw [e_u1]; rfl
          refine Tot_bind (tfX12_happens_0 (-1) x1 x2 x3 u5 hs_u5.1 (by show (-1) ≤ (-1 : Int) ∧ (-1 : Int) ≤ 9; omega) ⟨by omega, by omega⟩ ⟨by omega, by omega⟩ (by show (u5.1 13).toInt < (30 : Int); omega)) (fun q hq => ?_)
          obtain ⟨r15, u16⟩ := q
          have hc_u16 : StM mdX12_happens_0 u5 u16 := hq.1
          have hs_u16 : StM mdX12_clean_0 u u16 := StM_tr hs_u5 hc_u16 (by decide)
          have : 0 ≤ r15.toInt ∧ r15.toInt ≤ 0 := hq.2.1
          clear hq
          refine Tot_gd (inb_t (by omega) (by omega)) ?_
          refine Tot_lt (fun u19 e_u19 => ?_)
          have hs_u19 : StM mdX12_clean_0 u u19 := by rw [e_u19]; exact StM_sA hs_u16 (by decide) (by show 0 ≤ x4.toInt; omega) (by show x4.toInt ≤ 400; omega) (by decide)
          have : (u19.1 14).toInt = (u16.1 14).toInt := by rw [e_u19]; rfl
          have : (u16.1 14).toInt = (u5.1 14).toInt := congrArg Int32.toInt (hc_u16.2.1 14 (by decide))
          have : (u5.1 14).toInt = (u1.1 14).toInt := congrArg Int32.toInt (hc_u5.2.1 14 (by decide))
          have : ((u19.1 14) + 1).toInt = (u19.1 14).toInt + (1 : Int) := addc_t (by decide) (by omega) (by omega)
          refine Tot_lt (fun u21 e_u21 => ?_)
          have hs_u21 : StM mdX12_clean_0 u u21 := by rw [e_u21]; exact StM_sI hs_u19 (by decide) (by show 0 ≤ ((u19.1 14) + 1).toInt; omega) (by show ((u19.1 14) + 1).toInt ≤ 20; omega)
          refine Tot_gd (by decide) ?_
          exact Tot_some ⟨hs_u21, (by show 0 ≤ (1 : Int) ∧ (1 : Int) ≤ 1; omega), trivial⟩

def mdX12_wide_0 : MD := ([2, 4, 5, 6, 7, 8, 9, 10, 11, 16, 17], [5, 18], [], [])
abbrev qX12_wide_0 (u : SX) (q : Int32 × SX) : Prop := StM mdX12_wide_0 u q.2 ∧ (True) ∧ (True)
set_option maxHeartbeats 400000 in
set_option maxRecDepth 10000 in
theorem tfX12_wide_0 (x1 : Int32) (u : SX) (hI : IM u) (h0 : 0 ≤ x1.toInt ∧ x1.toInt ≤ 79) : Tot (fX12_wide_0 x1 u) (qX12_wide_0 u) := by
  unfold fX12_wide_0
  have hs_u : StM mdX12_wide_0 u u := StM_rf hI
  have : 0 ≤ (u.1 1).toInt ∧ (u.1 1).toInt ≤ 120 := hs_u.1.1 1
  refine Tot_bind (tfX12_layLeft_0 x1 (u.1 1) u hs_u.1 ⟨by omega, by omega⟩ ⟨by omega, by omega⟩) (fun q hq => ?_)
  obtain ⟨r1, u2⟩ := q
  have hc_u2 : StM mdX12_layLeft_0 u u2 := hq.1
  have hs_u2 : StM mdX12_wide_0 u u2 := StM_tr hs_u hc_u2 (by decide)
  have : 0 ≤ r1.toInt ∧ r1.toInt ≤ 0 := hq.2.1
  clear hq
  exact Tot_some ⟨hs_u2, trivial, trivial⟩

def mdX12_wideBy_0 : MD := ([2, 4, 5, 6, 7, 8, 9, 10, 11, 16, 17], [5, 16, 17, 18], [], [])
abbrev qX12_wideBy_0 (u : SX) (q : Int32 × SX) : Prop := StM mdX12_wideBy_0 u q.2 ∧ (True) ∧ (True)
set_option maxHeartbeats 400000 in
set_option maxRecDepth 10000 in
theorem tfX12_wideBy_0 (x1 : Int32) (x2 : Int32) (x3 : Int32) (u : SX) (hI : IM u) (h0 : 0 ≤ x1.toInt ∧ x1.toInt ≤ 79) (h1 : 0 ≤ x2.toInt ∧ x2.toInt ≤ 11) (h2 : 0 ≤ x3.toInt ∧ x3.toInt ≤ 30) : Tot (fX12_wideBy_0 x1 x2 x3 u) (qX12_wideBy_0 u) := by
  unfold fX12_wideBy_0
  have hs_u : StM mdX12_wideBy_0 u u := StM_rf hI
  refine Tot_bind (tfX12_laySpans_0 x3 u hs_u.1 ⟨by omega, by omega⟩) (fun q hq => ?_)
  obtain ⟨r1, u2⟩ := q
  have hc_u2 : StM mdX12_laySpans_0 u u2 := hq.1
  have hs_u2 : StM mdX12_wideBy_0 u u2 := StM_tr hs_u hc_u2 (by decide)
  have : 0 ≤ r1.toInt ∧ r1.toInt ≤ 0 := hq.2.1
  clear hq
  refine Tot_gd (inb_t (by omega) (by omega)) ?_
  refine Tot_lt (fun v5 e_v5 => ?_)
  refine Tot_gd (inb_t (by omega) (by omega)) ?_
  have : 0 ≤ (u2.2.1 17 x2.toNatClampNeg).toInt ∧ (u2.2.1 17 x2.toNatClampNeg).toInt ≤ 400 := hs_u2.1.2.1 17 x2.toNatClampNeg
  refine Tot_lt (fun v8 e_v8 => ?_)
  have : v8.toInt = (u2.2.1 17 x2.toNatClampNeg).toInt := congrArg Int32.toInt e_v8
  have : (u2.1 13).toInt = (u.1 13).toInt := congrArg Int32.toInt (hc_u2.2.1 13 (by decide))
  have : 0 ≤ (u.1 13).toInt ∧ (u.1 13).toInt ≤ 30 := hs_u.1.1 13
  refine Tot_bind (tfX12_laySpans_0 (u2.1 13) u2 hs_u2.1 ⟨by omega, by omega⟩) (fun q hq => ?_)
  obtain ⟨r10, u11⟩ := q
  have hc_u11 : StM mdX12_laySpans_0 u2 u11 := hq.1
  have hs_u11 : StM mdX12_wideBy_0 u u11 := StM_tr hs_u2 hc_u11 (by decide)
  have : 0 ≤ r10.toInt ∧ r10.toInt ≤ 0 := hq.2.1
  clear hq
  refine Tot_gd (inb_t (by omega) (by omega)) ?_
  refine Tot_lt (fun u14 e_u14 => ?_)
  have hs_u14 : StM mdX12_wideBy_0 u u14 := by rw [e_u14]; exact StM_sAf hs_u11 (by decide) rfl rfl (by decide)
  refine Tot_gd (inb_t (by omega) (by omega)) ?_
  refine Tot_lt (fun u17 e_u17 => ?_)
  have hs_u17 : StM mdX12_wideBy_0 u u17 := by rw [e_u17]; exact StM_sA hs_u14 (by decide) (by show 0 ≤ v8.toInt; omega) (by show v8.toInt ≤ 400; omega) (by decide)
  refine Tot_bind (tfX12_wide_0 x1 u17 hs_u17.1 ⟨by omega, by omega⟩) (fun q hq => ?_)
  obtain ⟨r19, u20⟩ := q
  have hc_u20 : StM mdX12_wide_0 u17 u20 := hq.1
  have hs_u20 : StM mdX12_wideBy_0 u u20 := StM_tr hs_u17 hc_u20 (by decide)
  clear hq
  exact Tot_some ⟨hs_u20, trivial, trivial⟩

def mdX12_narrows_0 : MD := ([0, 2, 4, 5, 6, 7, 8, 9, 10, 11, 16, 17], [5, 16, 17, 18], [], [])
abbrev qX12_narrows_0 (u : SX) (q : Int32 × SX) : Prop := StM mdX12_narrows_0 u q.2 ∧ (True) ∧ (True)
set_option maxHeartbeats 400000 in
set_option maxRecDepth 10000 in
theorem tfX12_narrows_0 (x1 : Int32) (x2 : Int32) (u : SX) (hI : IM u)  : Tot (fX12_narrows_0 x1 x2 u) (qX12_narrows_0 u) := by
  unfold fX12_narrows_0
  have hs_u : StM mdX12_narrows_0 u u := StM_rf hI
  refine Tot_lt (fun u1 e_u1 => ?_)
  have hs_u1 : StM mdX12_narrows_0 u u1 := by rw [e_u1]; exact StM_sI hs_u (by decide) (by show 0 ≤ (0 : Int); omega) (by show (0 : Int) ≤ 1; omega)
  refine Tot_bind (tfX12_isLook_0 x1 u1 hs_u1.1) (fun q hq => ?_)
  obtain ⟨r3, u4⟩ := q
  have hc_u4 : StM mdX12_isLook_0 u1 u4 := hq.1
  have hs_u4 : StM mdX12_narrows_0 u u4 := StM_tr hs_u1 hc_u4 (by decide)
  have : 0 ≤ r3.toInt ∧ r3.toInt ≤ 1 := hq.2.1
  have : (u1.1 21).toInt = (u.1 21).toInt := by rw [e_u1]; rfl
  have : 0 ≤ (u.1 21).toInt ∧ (u.1 21).toInt ≤ 10 := hs_u.1.1 21
  have : r3.toInt ≠ 0 → ((0 : Int) ≤ x1.toInt ∧ x1.toInt < (u1.1 21).toInt) := hq.2.2
  clear hq
  refine Tot_ite (fun c694 => ?_) (fun c694 => ?_)
  · have : r3.toInt = (0 : Int) := eqI c694
    exact Tot_some ⟨hs_u4, trivial, trivial⟩
  · have : ¬ r3.toInt = (0 : Int) := neI c694
    refine Tot_bind (tfX12_isReading_0 x2 u4 hs_u4.1) (fun q hq => ?_)
    obtain ⟨r6, u7⟩ := q
    have hc_u7 : StM mdX12_isReading_0 u4 u7 := hq.1
    have hs_u7 : StM mdX12_narrows_0 u u7 := StM_tr hs_u4 hc_u7 (by decide)
    have : 0 ≤ r6.toInt ∧ r6.toInt ≤ 1 := hq.2.1
    have : (u4.1 15).toInt = (u1.1 15).toInt := congrArg Int32.toInt (hc_u4.2.1 15 (by decide))
    have : (u1.1 15).toInt = (u.1 15).toInt := by rw [e_u1]; rfl
    have : 0 ≤ (u.1 15).toInt ∧ (u.1 15).toInt ≤ 80 := hs_u.1.1 15
    have : r6.toInt ≠ 0 → ((0 : Int) ≤ x2.toInt ∧ x2.toInt < (u4.1 15).toInt) := hq.2.2
    clear hq
    refine Tot_ite (fun c695 => ?_) (fun c695 => ?_)
    · have : r6.toInt = (0 : Int) := eqI c695
      exact Tot_some ⟨hs_u7, trivial, trivial⟩
    · have : ¬ r6.toInt = (0 : Int) := neI c695
      refine Tot_gd (inb_t (by omega) (by omega)) ?_
      have : (u7.2.1 33 x1.toNatClampNeg).toInt = (u4.2.1 33 x1.toNatClampNeg).toInt := congrArg (fun f : Nat → Int32 => (f x1.toNatClampNeg).toInt) (hc_u7.2.2.1 33 (by decide))
      have : (u4.2.1 33 x1.toNatClampNeg).toInt = (u1.2.1 33 x1.toNatClampNeg).toInt := congrArg (fun f : Nat → Int32 => (f x1.toNatClampNeg).toInt) (hc_u4.2.2.1 33 (by decide))
      have : (u1.2.1 33 x1.toNatClampNeg).toInt = (u.2.1 33 x1.toNatClampNeg).toInt := by rw [e_u1]; rfl
      have : (-1) ≤ (u7.2.1 33 x1.toNatClampNeg).toInt ∧ (u7.2.1 33 x1.toNatClampNeg).toInt ≤ 29 := hs_u7.1.2.1 33 x1.toNatClampNeg
      refine Tot_ite (fun c696 => ?_) (fun c696 => ?_)
      · have : (u7.2.1 33 x1.toNatClampNeg).toInt = (-1 : Int) := eqI c696
        exact Tot_some ⟨hs_u7, trivial, trivial⟩
      · have : ¬ (u7.2.1 33 x1.toNatClampNeg).toInt = (-1 : Int) := neI c696
        refine Tot_gd (inb_t (by omega) (by omega)) ?_
        refine Tot_gd (inb_t (by omega) (by omega)) ?_
        have : 0 ≤ (u7.2.1 29 x1.toNatClampNeg).toInt ∧ (u7.2.1 29 x1.toNatClampNeg).toInt ≤ 11 := hs_u7.1.2.1 29 x1.toNatClampNeg
        refine Tot_bind (tfX12_wideBy_0 x2 (u7.2.1 29 x1.toNatClampNeg) (u7.2.1 33 x1.toNatClampNeg) u7 hs_u7.1 ⟨by omega, by omega⟩ ⟨by omega, by omega⟩ ⟨by omega, by omega⟩) (fun q hq => ?_)
        obtain ⟨r12, u13⟩ := q
        have hc_u13 : StM mdX12_wideBy_0 u7 u13 := hq.1
        have hs_u13 : StM mdX12_narrows_0 u u13 := StM_tr hs_u7 hc_u13 (by decide)
        clear hq
        refine Tot_gd (inb_t (by omega) (by omega)) ?_
        refine Tot_gd (inb_t (by omega) (by omega)) ?_
        have : 0 ≤ (u13.2.1 29 x1.toNatClampNeg).toInt ∧ (u13.2.1 29 x1.toNatClampNeg).toInt ≤ 11 := hs_u13.1.2.1 29 x1.toNatClampNeg
        have : (u13.2.1 33 x1.toNatClampNeg).toInt = (u7.2.1 33 x1.toNatClampNeg).toInt := congrArg (fun f : Nat → Int32 => (f x1.toNatClampNeg).toInt) (hc_u13.2.2.1 33 (by decide))
        have : (-1) ≤ (u13.2.1 33 x1.toNatClampNeg).toInt ∧ (u13.2.1 33 x1.toNatClampNeg).toInt ≤ 29 := hs_u13.1.2.1 33 x1.toNatClampNeg
        have : ((u13.2.1 33 x1.toNatClampNeg) + 1).toInt = (u13.2.1 33 x1.toNatClampNeg).toInt + (1 : Int) := addc_t (by decide) (by omega) (by omega)
        refine Tot_bind (tfX12_wideBy_0 x2 (u13.2.1 29 x1.toNatClampNeg) ((u13.2.1 33 x1.toNatClampNeg) + 1) u13 hs_u13.1 ⟨by omega, by omega⟩ ⟨by omega, by omega⟩ ⟨by omega, by omega⟩) (fun q hq => ?_)
        obtain ⟨r17, u18⟩ := q
        have hc_u18 : StM mdX12_wideBy_0 u13 u18 := hq.1
        have hs_u18 : StM mdX12_narrows_0 u u18 := StM_tr hs_u13 hc_u18 (by decide)
        clear hq
        exact Tot_some ⟨hs_u18, trivial, trivial⟩

def mdX12_nothing_0 : MD := ([0], [16, 17], [], [])
abbrev qX12_nothing_0 (u : SX) (q : Int32 × SX) : Prop := StM mdX12_nothing_0 u q.2 ∧ (True) ∧ (True)
set_option maxHeartbeats 400000 in
set_option maxRecDepth 10000 in
theorem tGX12_nothing_0_128 (u0 : SX) (g9 : Int) {k9 : Int32 → Int32 → SX → Option (Int32 × SX)} (hk9 : ∀ (z1 : Int32) (z2 : Int32) (u : SX), (StM mdX12_nothing_0 u0 u) → (0 ≤ z2.toInt ∧ z2.toInt ≤ 10) → (g9 < z2.toInt) → Tot (k9 z1 z2 u) (qX12_nothing_0 u0)) (z1 : Int32) (z2 : Int32) (u : SX) (hs_u : StM mdX12_nothing_0 u0 u) (h0 : 0 ≤ z2.toInt ∧ z2.toInt ≤ 9) (h1 : g9 ≤ z2.toInt) : Tot (GX12_nothing_0_128 k9 z1 z2 u) (qX12_nothing_0 u0) := by
  unfold GX12_nothing_0_128
  have : (z2 + 1).toInt = z2.toInt + (1 : Int) := addc_t (by decide) (by omega) (by omega)
  exact hk9 z1 (z2 + 1) u hs_u ⟨by omega, by omega⟩ (by omega)
set_option maxHeartbeats 400000 in
set_option maxRecDepth 10000 in
theorem tGX12_nothing_0_126 (u0 : SX) (g9 : Int) {k9 : Int32 → Int32 → SX → Option (Int32 × SX)} (hk9 : ∀ (z1 : Int32) (z2 : Int32) (u : SX), (StM mdX12_nothing_0 u0 u) → (0 ≤ z2.toInt ∧ z2.toInt ≤ 10) → (g9 < z2.toInt) → Tot (k9 z1 z2 u) (qX12_nothing_0 u0)) (z2 : Int32) (y0 : Int32) (y1 : Int32) (u : SX) (hs_u : StM mdX12_nothing_0 u0 u) (h0 : 0 ≤ z2.toInt ∧ z2.toInt ≤ 9) (h1 : 0 ≤ y0.toInt ∧ y0.toInt ≤ 4096) (h2 : g9 ≤ z2.toInt) : Tot (GX12_nothing_0_126 k9 z2 y0 y1 u) (qX12_nothing_0 u0) := by
  unfold GX12_nothing_0_126
  refine Tot_lt (fun v24 e_v24 => ?_)
  exact tGX12_nothing_0_128 u0 g9 hk9 v24 z2 u hs_u ⟨by omega, by omega⟩ (by omega)
set_option maxHeartbeats 400000 in
set_option maxRecDepth 10000 in
theorem tGX12_nothing_0_125 (u0 : SX) (g9 : Int) {k9 : Int32 → Int32 → SX → Option (Int32 × SX)} (hk9 : ∀ (z1 : Int32) (z2 : Int32) (u : SX), (StM mdX12_nothing_0 u0 u) → (0 ≤ z2.toInt ∧ z2.toInt ≤ 10) → (g9 < z2.toInt) → Tot (k9 z1 z2 u) (qX12_nothing_0 u0)) (z2 : Int32) (y0 : Int32) (u : SX) (hs_u : StM mdX12_nothing_0 u0 u) (h0 : 0 ≤ z2.toInt ∧ z2.toInt ≤ 9) (h1 : g9 ≤ z2.toInt) : Tot (GX12_nothing_0_125 k9 z2 y0 u) (qX12_nothing_0 u0) := by
  unfold GX12_nothing_0_125
  exact tGX12_nothing_0_126 u0 g9 hk9 z2 0 y0 u hs_u ⟨by omega, by omega⟩ (by show 0 ≤ (0 : Int) ∧ (0 : Int) ≤ 4096; omega) (by omega)
set_option maxHeartbeats 400000 in
set_option maxRecDepth 10000 in
theorem tLX12_nothing_0_9 (u0 : SX)    : ∀ (n : Nat) (z1 : Int32) (z2 : Int32) (u : SX), (StM mdX12_nothing_0 u0 u) → (0 ≤ z2.toInt ∧ z2.toInt ≤ 10) → (10 - z2.toInt < (n : Int)) → Tot (LX12_nothing_0_9 n z1 z2 u) (qX12_nothing_0 u0) := by
  intro n
  induction n with
  | zero =>
    intro z1 z2 u hs_u h0 hm
    exfalso
    omega
  | succ n ih =>
    intro z1 z2 u hs_u h0 hm
    rw [LX12_nothing_0_9]
    have : 0 ≤ (u.1 21).toInt ∧ (u.1 21).toInt ≤ 10 := hs_u.1.1 21
    refine Tot_ite (fun c697 => ?_) (fun c697 => ?_)
    · have : (u.1 21).toInt ≤ z2.toInt := leI c697
      exact Tot_some ⟨hs_u, trivial, trivial⟩
    · have : ¬ (u.1 21).toInt ≤ z2.toInt := nleI c697
      refine Tot_gd (inb_t (by omega) (by omega)) ?_
      have : (-1) ≤ (u.2.1 33 z2.toNatClampNeg).toInt ∧ (u.2.1 33 z2.toNatClampNeg).toInt ≤ 29 := hs_u.1.2.1 33 z2.toNatClampNeg
      refine Tot_ite (fun c698 => ?_) (fun c698 => ?_)
      · have : (u.2.1 33 z2.toNatClampNeg).toInt = (-1 : Int) := eqI c698
        exact tGX12_nothing_0_128 u0 (z2.toInt) (fun a699 a700 w701 hw701 p702 p703 => ih a699 a700 w701 hw701 p702 (by omega)) z1 z2 u hs_u ⟨by omega, by omega⟩ (by omega)
      · have : ¬ (u.2.1 33 z2.toNatClampNeg).toInt = (-1 : Int) := neI c698
        refine Tot_gd (inb_t (by omega) (by omega)) ?_
        refine Tot_bind (tfX12_laySpans_0 (u.2.1 33 z2.toNatClampNeg) u hs_u.1 ⟨by omega, by omega⟩) (fun q hq => ?_)
        obtain ⟨r5, u6⟩ := q
        have hc_u6 : StM mdX12_laySpans_0 u u6 := hq.1
        have hs_u6 : StM mdX12_nothing_0 u0 u6 := StM_tr hs_u hc_u6 (by decide)
        have : 0 ≤ r5.toInt ∧ r5.toInt ≤ 0 := hq.2.1
        clear hq
        refine Tot_gd (inb_t (by omega) (by omega)) ?_
        have : 0 ≤ (u6.2.1 29 z2.toNatClampNeg).toInt ∧ (u6.2.1 29 z2.toNatClampNeg).toInt ≤ 11 := hs_u6.1.2.1 29 z2.toNatClampNeg
        refine Tot_gd (inb_t (by omega) (by omega)) ?_
        refine Tot_lt (fun v10 e_v10 => ?_)
        refine Tot_gd (inb_t (by omega) (by omega)) ?_
        refine Tot_gd (inb_t (by omega) (by omega)) ?_
        have : 0 ≤ (u6.2.1 17 ((u6.2.1 29 z2.toNatClampNeg)).toNatClampNeg).toInt ∧ (u6.2.1 17 ((u6.2.1 29 z2.toNatClampNeg)).toNatClampNeg).toInt ≤ 400 := hs_u6.1.2.1 17 ((u6.2.1 29 z2.toNatClampNeg)).toNatClampNeg
        refine Tot_lt (fun v14 e_v14 => ?_)
        have : v14.toInt = (u6.2.1 17 ((u6.2.1 29 z2.toNatClampNeg)).toNatClampNeg).toInt := congrArg Int32.toInt e_v14
        refine Tot_gd (inb_t (by omega) (by omega)) ?_
        refine Tot_gd (inb_t (by omega) (by omega)) ?_
        refine Tot_gd (inb_t (by omega) (by omega)) ?_
        have : 0 ≤ (u6.2.1 31 z2.toNatClampNeg).toInt ∧ (u6.2.1 31 z2.toNatClampNeg).toInt ≤ 400 := hs_u6.1.2.1 31 z2.toNatClampNeg
        refine Tot_bind (tfX12_cutDown_0 (u6.2.1 29 z2.toNatClampNeg) (u6.2.1 30 z2.toNatClampNeg) (u6.2.1 31 z2.toNatClampNeg) u6 hs_u6.1 ⟨by omega, by omega⟩ ⟨by omega, by omega⟩) (fun q hq => ?_)
        obtain ⟨r19, u20⟩ := q
        have hc_u20 : StM mdX12_cutDown_0 u6 u20 := hq.1
        have hs_u20 : StM mdX12_nothing_0 u0 u20 := StM_tr hs_u6 hc_u20 (by decide)
        have : 0 ≤ r19.toInt ∧ r19.toInt ≤ 0 := hq.2.1
        clear hq
        refine Tot_gd (inb_t (by omega) (by omega)) ?_
        have : 0 ≤ (u20.2.1 29 z2.toNatClampNeg).toInt ∧ (u20.2.1 29 z2.toNatClampNeg).toInt ≤ 11 := hs_u20.1.2.1 29 z2.toNatClampNeg
        refine Tot_gd (inb_t (by omega) (by omega)) ?_
        refine Tot_ite (fun c704 => ?_) (fun c704 => ?_)
        · refine Tot_gd (inb_t (by omega) (by omega)) ?_
          refine Tot_gd (inb_t (by omega) (by omega)) ?_
          have : 0 ≤ (u20.2.1 17 ((u20.2.1 29 z2.toNatClampNeg)).toNatClampNeg).toInt ∧ (u20.2.1 17 ((u20.2.1 29 z2.toNatClampNeg)).toNatClampNeg).toInt ≤ 400 := hs_u20.1.2.1 17 ((u20.2.1 29 z2.toNatClampNeg)).toNatClampNeg
          refine Tot_ite (fun c705 => ?_) (fun c705 => ?_)
          · have : (u20.2.1 17 ((u20.2.1 29 z2.toNatClampNeg)).toNatClampNeg).toInt = v14.toInt := eqI c705
            have := shl1_t (p := z2) (by omega) (by omega)
            exact tGX12_nothing_0_126 u0 (z2.toInt) (fun a706 a707 w708 hw708 p709 p710 => ih a706 a707 w708 hw708 p709 (by omega)) z2 (1 <<< (z2 &&& 31)) z1 u20 hs_u20 ⟨by omega, by omega⟩ ⟨by omega, by omega⟩ (by omega)
          · exact tGX12_nothing_0_125 u0 (z2.toInt) (fun a711 a712 w713 hw713 p714 p715 => ih a711 a712 w713 hw713 p714 (by omega)) z2 z1 u20 hs_u20 ⟨by omega, by omega⟩ (by omega)
        · exact tGX12_nothing_0_125 u0 (z2.toInt) (fun a716 a717 w718 hw718 p719 p720 => ih a716 a717 w718 hw718 p719 (by omega)) z2 z1 u20 hs_u20 ⟨by omega, by omega⟩ (by omega)
set_option maxHeartbeats 400000 in
set_option maxRecDepth 10000 in
theorem tfX12_nothing_0  (u : SX) (hI : IM u)  : Tot (fX12_nothing_0  u) (qX12_nothing_0 u) := by
  unfold fX12_nothing_0
  have hs_u : StM mdX12_nothing_0 u u := StM_rf hI
  refine Tot_lt (fun u1 e_u1 => ?_)
  have hs_u1 : StM mdX12_nothing_0 u u1 := by rw [e_u1]; exact StM_sI hs_u (by decide) (by show 0 ≤ (0 : Int); omega) (by show (0 : Int) ≤ 1; omega)
  exact tLX12_nothing_0_9 u 5000 0 0 u1 hs_u1 (by show 0 ≤ (0 : Int) ∧ (0 : Int) ≤ 10; omega) (by show 10 - (0 : Int) < ((5000 : Nat) : Int); omega)

def mdX12_judged_0 : MD := ([2, 4, 5, 6, 7, 8, 9, 10, 11, 16, 17], [5, 16, 17, 18], [], [])
abbrev qX12_judged_0 (u : SX) (q : Int32 × SX) : Prop := StM mdX12_judged_0 u q.2 ∧ (True) ∧ (True)
set_option maxHeartbeats 400000 in
set_option maxRecDepth 10000 in
theorem tGX12_judged_0_49 (u0 : SX) (g10 : Int) {k10 : Int32 → Int32 → Int32 → SX → Option (Int32 × SX)} (hk10 : ∀ (z1 : Int32) (z2 : Int32) (z3 : Int32) (u : SX), (StM mdX12_judged_0 u0 u) → (0 ≤ z2.toInt ∧ z2.toInt ≤ 79) → (0 ≤ z3.toInt ∧ z3.toInt ≤ 10) → (g10 < z3.toInt) → Tot (k10 z1 z2 z3 u) (qX12_judged_0 u0)) (z1 : Int32) (z2 : Int32) (z3 : Int32) (u : SX) (hs_u : StM mdX12_judged_0 u0 u) (h0 : 0 ≤ z2.toInt ∧ z2.toInt ≤ 79) (h1 : 0 ≤ z3.toInt ∧ z3.toInt ≤ 9) (h2 : g10 ≤ z3.toInt) : Tot (GX12_judged_0_49 k10 z1 z2 z3 u) (qX12_judged_0 u0) := by
  unfold GX12_judged_0_49
  have : (z3 + 1).toInt = z3.toInt + (1 : Int) := addc_t (by decide) (by omega) (by omega)
  exact hk10 z1 z2 (z3 + 1) u hs_u ⟨by omega, by omega⟩ ⟨by omega, by omega⟩ (by omega)
set_option maxHeartbeats 400000 in
set_option maxRecDepth 10000 in
theorem tLX12_judged_0_10 (u0 : SX)  {k55 : Int32 → SX → Option (Int32 × SX)} (hk55 : ∀ (z2 : Int32) (u : SX), (StM mdX12_judged_0 u0 u) → (0 ≤ z2.toInt ∧ z2.toInt ≤ 79) → Tot (k55 z2 u) (qX12_judged_0 u0)) : ∀ (n : Nat) (z1 : Int32) (z2 : Int32) (z3 : Int32) (u : SX), (StM mdX12_judged_0 u0 u) → (0 ≤ z2.toInt ∧ z2.toInt ≤ 79) → (0 ≤ z3.toInt ∧ z3.toInt ≤ 10) → (10 - z3.toInt < (n : Int)) → Tot (LX12_judged_0_10 k55 n z1 z2 z3 u) (qX12_judged_0 u0) := by
  intro n
  induction n with
  | zero =>
    intro z1 z2 z3 u hs_u h0 h1 hm
    exfalso
    omega
  | succ n ih =>
    intro z1 z2 z3 u hs_u h0 h1 hm
    rw [LX12_judged_0_10]
    have : 0 ≤ (u.1 21).toInt ∧ (u.1 21).toInt ≤ 10 := hs_u.1.1 21
    refine Tot_ite (fun c721 => ?_) (fun c721 => ?_)
    · have : (u.1 21).toInt ≤ z3.toInt := leI c721
      exact hk55 z2 u hs_u ⟨by omega, by omega⟩
    · have : ¬ (u.1 21).toInt ≤ z3.toInt := nleI c721
      have := and1_t (z1 >>> (z3 &&& 31))
      refine Tot_ite (fun c722 => ?_) (fun c722 => ?_)
      · have : ((z1 >>> (z3 &&& 31)) &&& 1).toInt = (1 : Int) := eqI c722
        refine Tot_gd (inb_t (by omega) (by omega)) ?_
        refine Tot_gd (inb_t (by omega) (by omega)) ?_
        refine Tot_gd (inb_t (by omega) (by omega)) ?_
        have : 0 ≤ (u.2.1 29 z3.toNatClampNeg).toInt ∧ (u.2.1 29 z3.toNatClampNeg).toInt ≤ 11 := hs_u.1.2.1 29 z3.toNatClampNeg
        have : 0 ≤ (u.2.1 31 z3.toNatClampNeg).toInt ∧ (u.2.1 31 z3.toNatClampNeg).toInt ≤ 400 := hs_u.1.2.1 31 z3.toNatClampNeg
        refine Tot_bind (tfX12_cutDown_0 (u.2.1 29 z3.toNatClampNeg) (u.2.1 30 z3.toNatClampNeg) (u.2.1 31 z3.toNatClampNeg) u hs_u.1 ⟨by omega, by omega⟩ ⟨by omega, by omega⟩) (fun q hq => ?_)
        obtain ⟨r7, u8⟩ := q
        have hc_u8 : StM mdX12_cutDown_0 u u8 := hq.1
        have hs_u8 : StM mdX12_judged_0 u0 u8 := StM_tr hs_u hc_u8 (by decide)
        have : 0 ≤ r7.toInt ∧ r7.toInt ≤ 0 := hq.2.1
        clear hq
        exact tGX12_judged_0_49 u0 (z3.toInt) (fun a723 a724 a725 w726 hw726 p727 p728 p729 => ih a723 a724 a725 w726 hw726 p727 p728 (by omega)) z1 z2 z3 u8 hs_u8 ⟨by omega, by omega⟩ ⟨by omega, by omega⟩ (by omega)
      · have : ¬ ((z1 >>> (z3 &&& 31)) &&& 1).toInt = (1 : Int) := neI c722
        exact tGX12_judged_0_49 u0 (z3.toInt) (fun a730 a731 a732 w733 hw733 p734 p735 p736 => ih a730 a731 a732 w733 hw733 p734 p735 (by omega)) z1 z2 z3 u hs_u ⟨by omega, by omega⟩ ⟨by omega, by omega⟩ (by omega)
set_option maxHeartbeats 400000 in
set_option maxRecDepth 10000 in
theorem tGX12_judged_0_55 (u0 : SX)    (z2 : Int32) (u : SX) (hs_u : StM mdX12_judged_0 u0 u) (h0 : 0 ≤ z2.toInt ∧ z2.toInt ≤ 79) : Tot (GX12_judged_0_55 z2 u) (qX12_judged_0 u0) := by
  unfold GX12_judged_0_55
  refine Tot_bind (tfX12_wide_0 z2 u hs_u.1 ⟨by omega, by omega⟩) (fun q hq => ?_)
  obtain ⟨r10, u11⟩ := q
  have hc_u11 : StM mdX12_wide_0 u u11 := hq.1
  have hs_u11 : StM mdX12_judged_0 u0 u11 := StM_tr hs_u hc_u11 (by decide)
  clear hq
  exact Tot_some ⟨hs_u11, trivial, trivial⟩
set_option maxHeartbeats 400000 in
set_option maxRecDepth 10000 in
theorem tfX12_judged_0 (x1 : Int32) (x2 : Int32) (u : SX) (hI : IM u) (h0 : 0 ≤ x2.toInt ∧ x2.toInt ≤ 79) : Tot (fX12_judged_0 x1 x2 u) (qX12_judged_0 u) := by
  unfold fX12_judged_0
  have hs_u : StM mdX12_judged_0 u u := StM_rf hI
  have : 0 ≤ (u.1 13).toInt ∧ (u.1 13).toInt ≤ 30 := hs_u.1.1 13
  refine Tot_bind (tfX12_laySpans_0 (u.1 13) u hs_u.1 ⟨by omega, by omega⟩) (fun q hq => ?_)
  obtain ⟨r1, u2⟩ := q
  have hc_u2 : StM mdX12_laySpans_0 u u2 := hq.1
  have hs_u2 : StM mdX12_judged_0 u u2 := StM_tr hs_u hc_u2 (by decide)
  have : 0 ≤ r1.toInt ∧ r1.toInt ≤ 0 := hq.2.1
  clear hq
  exact tLX12_judged_0_10 u (tGX12_judged_0_55 u) 5000 x1 x2 0 u2 hs_u2 ⟨by omega, by omega⟩ (by show 0 ≤ (0 : Int) ∧ (0 : Int) ≤ 10; omega) (by show 10 - (0 : Int) < ((5000 : Nat) : Int); omega)

def mdX12_isRow_0 : MD := ([], [], [], [])
abbrev qX12_isRow_0 (u : SX) (q : Int32 × SX) : Prop := StM mdX12_isRow_0 u q.2 ∧ (0 ≤ q.1.toInt ∧ q.1.toInt ≤ 1) ∧ (True)
set_option maxHeartbeats 400000 in
set_option maxRecDepth 10000 in
theorem tGX12_isRow_0_47 (u0 : SX) (g18 : Int) {k18 : Int32 → Int32 → SX → Option (Int32 × SX)} (hk18 : ∀ (z1 : Int32) (z2 : Int32) (u : SX), (StM mdX12_isRow_0 u0 u) → (0 ≤ z1.toInt ∧ z1.toInt ≤ 4095) → (0 ≤ z2.toInt ∧ z2.toInt ≤ 10) → (g18 < z2.toInt) → Tot (k18 z1 z2 u) (qX12_isRow_0 u0)) (z1 : Int32) (z2 : Int32) (u : SX) (hs_u : StM mdX12_isRow_0 u0 u) (h0 : 0 ≤ z1.toInt ∧ z1.toInt ≤ 4095) (h1 : 0 ≤ z2.toInt ∧ z2.toInt ≤ 9) (h2 : g18 ≤ z2.toInt) : Tot (GX12_isRow_0_47 k18 z1 z2 u) (qX12_isRow_0 u0) := by
  unfold GX12_isRow_0_47
  have : (z2 + 1).toInt = z2.toInt + (1 : Int) := addc_t (by decide) (by omega) (by omega)
  exact hk18 z1 (z2 + 1) u hs_u ⟨by omega, by omega⟩ ⟨by omega, by omega⟩ (by omega)
set_option maxHeartbeats 400000 in
set_option maxRecDepth 10000 in
theorem tLX12_isRow_0_18 (u0 : SX)    : ∀ (n : Nat) (z1 : Int32) (z2 : Int32) (u : SX), (StM mdX12_isRow_0 u0 u) → (0 ≤ z1.toInt ∧ z1.toInt ≤ 4095) → (0 ≤ z2.toInt ∧ z2.toInt ≤ 10) → (10 - z2.toInt < (n : Int)) → Tot (LX12_isRow_0_18 n z1 z2 u) (qX12_isRow_0 u0) := by
  intro n
  induction n with
  | zero =>
    intro z1 z2 u hs_u h0 h1 hm
    exfalso
    omega
  | succ n ih =>
    intro z1 z2 u hs_u h0 h1 hm
    rw [LX12_isRow_0_18]
    have : 0 ≤ (u.1 21).toInt ∧ (u.1 21).toInt ≤ 10 := hs_u.1.1 21
    refine Tot_ite (fun c737 => ?_) (fun c737 => ?_)
    · have : (u.1 21).toInt ≤ z2.toInt := leI c737
      refine Tot_gd (by decide) ?_
      exact Tot_some ⟨hs_u, (by show 0 ≤ (1 : Int) ∧ (1 : Int) ≤ 1; omega), trivial⟩
    · have : ¬ (u.1 21).toInt ≤ z2.toInt := nleI c737
      have := and1_t (z1 >>> (z2 &&& 31))
      refine Tot_ite (fun c738 => ?_) (fun c738 => ?_)
      · have : ((z1 >>> (z2 &&& 31)) &&& 1).toInt = (1 : Int) := eqI c738
        refine Tot_gd (inb_t (by omega) (by omega)) ?_
        have : (-1) ≤ (u.2.1 33 z2.toNatClampNeg).toInt ∧ (u.2.1 33 z2.toNatClampNeg).toInt ≤ 29 := hs_u.1.2.1 33 z2.toNatClampNeg
        refine Tot_ite (fun c739 => ?_) (fun c739 => ?_)
        · have : (u.2.1 33 z2.toNatClampNeg).toInt = (-1 : Int) := eqI c739
          exact tGX12_isRow_0_47 u0 (z2.toInt) (fun a740 a741 w742 hw742 p743 p744 p745 => ih a740 a741 w742 hw742 p743 p744 (by omega)) z1 z2 u hs_u ⟨by omega, by omega⟩ ⟨by omega, by omega⟩ (by omega)
        · have : ¬ (u.2.1 33 z2.toNatClampNeg).toInt = (-1 : Int) := neI c739
          refine Tot_gd (by decide) ?_
          exact Tot_some ⟨hs_u, (by show 0 ≤ (0 : Int) ∧ (0 : Int) ≤ 1; omega), trivial⟩
      · have : ¬ ((z1 >>> (z2 &&& 31)) &&& 1).toInt = (1 : Int) := neI c738
        exact tGX12_isRow_0_47 u0 (z2.toInt) (fun a746 a747 w748 hw748 p749 p750 p751 => ih a746 a747 w748 hw748 p749 p750 (by omega)) z1 z2 u hs_u ⟨by omega, by omega⟩ ⟨by omega, by omega⟩ (by omega)
set_option maxHeartbeats 400000 in
set_option maxRecDepth 10000 in
theorem tfX12_isRow_0 (x1 : Int32) (u : SX) (hI : IM u)  : Tot (fX12_isRow_0 x1 u) (qX12_isRow_0 u) := by
  unfold fX12_isRow_0
  have hs_u : StM mdX12_isRow_0 u u := StM_rf hI
  refine Tot_ite (fun c752 => ?_) (fun c752 => ?_)
  · have : x1.toInt < (0 : Int) := ltI c752
    refine Tot_gd (by decide) ?_
    exact Tot_some ⟨hs_u, (by show 0 ≤ (0 : Int) ∧ (0 : Int) ≤ 1; omega), trivial⟩
  · have : ¬ x1.toInt < (0 : Int) := nltI c752
    have : 0 ≤ (u.1 21).toInt ∧ (u.1 21).toInt ≤ 10 := hs_u.1.1 21
    have := shl1_t (p := (u.1 21)) (by omega) (by omega)
    refine Tot_ite (fun c753 => ?_) (fun c753 => ?_)
    · have : x1.toInt < (1 <<< ((u.1 21) &&& 31)).toInt := ltI c753
      exact tLX12_isRow_0_18 u 5000 x1 0 u hs_u ⟨by omega, by omega⟩ (by show 0 ≤ (0 : Int) ∧ (0 : Int) ≤ 10; omega) (by show 10 - (0 : Int) < ((5000 : Nat) : Int); omega)
    · have : ¬ x1.toInt < (1 <<< ((u.1 21) &&& 31)).toInt := nltI c753
      refine Tot_gd (by decide) ?_
      exact Tot_some ⟨hs_u, (by show 0 ≤ (0 : Int) ∧ (0 : Int) ≤ 1; omega), trivial⟩

def mdX12_plan_0 : MD := ([0, 2, 4, 5, 6, 7, 8, 9, 10, 11, 16, 17], [5, 16, 17, 18], [], [])
abbrev qX12_plan_0 (u : SX) (q : Int32 × SX) : Prop := StM mdX12_plan_0 u q.2 ∧ (True) ∧ (True)
set_option maxHeartbeats 400000 in
set_option maxRecDepth 10000 in
theorem tGX12_plan_0_109 (u0 : SX) (g47 : Int) (g76 : Int) {k76 : Int32 → Int32 → Int32 → Int32 → Int32 → Int32 → Int32 → Int32 → Int32 → SX → Option (Int32 × SX)} (hk76 : ∀ (z1 : Int32) (z2 : Int32) (z3 : Int32) (z4 : Int32) (z5 : Int32) (z6 : Int32) (z7 : Int32) (z8 : Int32) (z9 : Int32) (u : SX), (StM mdX12_plan_0 u0 u) → (0 ≤ z1.toInt ∧ z1.toInt ≤ 79) → (0 ≤ z2.toInt ∧ z2.toInt ≤ 500) → (0 ≤ z3.toInt ∧ z3.toInt ≤ 1) → ((-1) ≤ z4.toInt ∧ z4.toInt ≤ 4319) → (z6.toInt ≤ 500) → (0 ≤ z7.toInt ∧ z7.toInt ≤ 4319) → (0 ≤ z9.toInt ∧ z9.toInt ≤ 10) → (g47 ≤ z7.toInt) → (g76 < z9.toInt) → Tot (k76 z1 z2 z3 z4 z5 z6 z7 z8 z9 u) (qX12_plan_0 u0)) (z1 : Int32) (z2 : Int32) (z3 : Int32) (z4 : Int32) (z5 : Int32) (z6 : Int32) (z7 : Int32) (z9 : Int32) (y0 : Int32) (y1 : Int32) (u : SX) (hs_u : StM mdX12_plan_0 u0 u) (h0 : 0 ≤ z1.toInt ∧ z1.toInt ≤ 79) (h1 : 0 ≤ z2.toInt ∧ z2.toInt ≤ 500) (h2 : 0 ≤ z3.toInt ∧ z3.toInt ≤ 1) (h3 : (-1) ≤ z4.toInt ∧ z4.toInt ≤ 4319) (h4 : z6.toInt ≤ 500) (h5 : 0 ≤ z7.toInt ∧ z7.toInt ≤ 4319) (h6 : 0 ≤ z9.toInt ∧ z9.toInt ≤ 9) (h7 : 0 ≤ y0.toInt ∧ y0.toInt ≤ 50) (h8 : g47 ≤ z7.toInt) (h9 : g76 ≤ z9.toInt) : Tot (GX12_plan_0_109 k76 z1 z2 z3 z4 z5 z6 z7 z9 y0 y1 u) (qX12_plan_0 u0) := by
  unfold GX12_plan_0_109
  refine Tot_lt (fun v15 e_v15 => ?_)
  have : (z9 + 1).toInt = z9.toInt + (1 : Int) := addc_t (by decide) (by omega) (by omega)
  exact hk76 z1 z2 z3 z4 z5 z6 z7 v15 (z9 + 1) u hs_u ⟨by omega, by omega⟩ ⟨by omega, by omega⟩ ⟨by omega, by omega⟩ ⟨by omega, by omega⟩ (by omega) ⟨by omega, by omega⟩ ⟨by omega, by omega⟩ (by omega) (by omega)
set_option maxHeartbeats 400000 in
set_option maxRecDepth 10000 in
theorem tLX12_plan_0_76 (u0 : SX) (g47 : Int) {k118 : Int32 → Int32 → Int32 → Int32 → Int32 → Int32 → Int32 → Int32 → SX → Option (Int32 × SX)} (hk118 : ∀ (z1 : Int32) (z2 : Int32) (z3 : Int32) (z4 : Int32) (z5 : Int32) (z6 : Int32) (z7 : Int32) (z8 : Int32) (u : SX), (StM mdX12_plan_0 u0 u) → (0 ≤ z1.toInt ∧ z1.toInt ≤ 79) → (0 ≤ z2.toInt ∧ z2.toInt ≤ 500) → (0 ≤ z3.toInt ∧ z3.toInt ≤ 1) → ((-1) ≤ z4.toInt ∧ z4.toInt ≤ 4319) → (z6.toInt ≤ 500) → (0 ≤ z7.toInt ∧ z7.toInt ≤ 4319) → (g47 ≤ z7.toInt) → Tot (k118 z1 z2 z3 z4 z5 z6 z7 z8 u) (qX12_plan_0 u0)) : ∀ (n : Nat) (z1 : Int32) (z2 : Int32) (z3 : Int32) (z4 : Int32) (z5 : Int32) (z6 : Int32) (z7 : Int32) (z8 : Int32) (z9 : Int32) (u : SX), (StM mdX12_plan_0 u0 u) → (0 ≤ z1.toInt ∧ z1.toInt ≤ 79) → (0 ≤ z2.toInt ∧ z2.toInt ≤ 500) → (0 ≤ z3.toInt ∧ z3.toInt ≤ 1) → ((-1) ≤ z4.toInt ∧ z4.toInt ≤ 4319) → (z6.toInt ≤ 500) → (0 ≤ z7.toInt ∧ z7.toInt ≤ 4319) → (0 ≤ z9.toInt ∧ z9.toInt ≤ 10) → (g47 ≤ z7.toInt) → (10 - z9.toInt < (n : Int)) → Tot (LX12_plan_0_76 k118 n z1 z2 z3 z4 z5 z6 z7 z8 z9 u) (qX12_plan_0 u0) := by
  intro n
  induction n with
  | zero =>
    intro z1 z2 z3 z4 z5 z6 z7 z8 z9 u hs_u h0 h1 h2 h3 h4 h5 h6 h7 hm
    exfalso
    omega
  | succ n ih =>
    intro z1 z2 z3 z4 z5 z6 z7 z8 z9 u hs_u h0 h1 h2 h3 h4 h5 h6 h7 hm
    rw [LX12_plan_0_76]
    have : 0 ≤ (u.1 21).toInt ∧ (u.1 21).toInt ≤ 10 := hs_u.1.1 21
    refine Tot_ite (fun c754 => ?_) (fun c754 => ?_)
    · have : (u.1 21).toInt ≤ z9.toInt := leI c754
      exact hk118 z1 z2 z3 z4 z5 z6 z7 z8 u hs_u ⟨by omega, by omega⟩ ⟨by omega, by omega⟩ ⟨by omega, by omega⟩ ⟨by omega, by omega⟩ (by omega) ⟨by omega, by omega⟩ (by omega)
    · have : ¬ (u.1 21).toInt ≤ z9.toInt := nleI c754
      have := and1_t (z7 >>> (z9 &&& 31))
      refine Tot_ite (fun c755 => ?_) (fun c755 => ?_)
      · have : ((z7 >>> (z9 &&& 31)) &&& 1).toInt = (1 : Int) := eqI c755
        refine Tot_gd (inb_t (by omega) (by omega)) ?_
        have : 0 ≤ (u.2.1 32 z9.toNatClampNeg).toInt ∧ (u.2.1 32 z9.toNatClampNeg).toInt ≤ 50 := hs_u.1.2.1 32 z9.toNatClampNeg
        exact tGX12_plan_0_109 u0 g47 (z9.toInt) (fun a756 a757 a758 a759 a760 a761 a762 a763 a764 w765 hw765 p766 p767 p768 p769 p770 p771 p772 p773 p774 => ih a756 a757 a758 a759 a760 a761 a762 a763 a764 w765 hw765 p766 p767 p768 p769 p770 p771 p772 p773 (by omega)) z1 z2 z3 z4 z5 z6 z7 z9 (u.2.1 32 z9.toNatClampNeg) z8 u hs_u ⟨by omega, by omega⟩ ⟨by omega, by omega⟩ ⟨by omega, by omega⟩ ⟨by omega, by omega⟩ (by omega) ⟨by omega, by omega⟩ ⟨by omega, by omega⟩ ⟨by omega, by omega⟩ (by omega) (by omega)
      · have : ¬ ((z7 >>> (z9 &&& 31)) &&& 1).toInt = (1 : Int) := neI c755
        exact tGX12_plan_0_109 u0 g47 (z9.toInt) (fun a775 a776 a777 a778 a779 a780 a781 a782 a783 w784 hw784 p785 p786 p787 p788 p789 p790 p791 p792 p793 => ih a775 a776 a777 a778 a779 a780 a781 a782 a783 w784 hw784 p785 p786 p787 p788 p789 p790 p791 p792 (by omega)) z1 z2 z3 z4 z5 z6 z7 z9 0 z8 u hs_u ⟨by omega, by omega⟩ ⟨by omega, by omega⟩ ⟨by omega, by omega⟩ ⟨by omega, by omega⟩ (by omega) ⟨by omega, by omega⟩ ⟨by omega, by omega⟩ (by show 0 ≤ (0 : Int) ∧ (0 : Int) ≤ 50; omega) (by omega) (by omega)
set_option maxHeartbeats 400000 in
set_option maxRecDepth 10000 in
theorem tGX12_plan_0_221 (u0 : SX) (g47 : Int) {k47 : Int32 → Int32 → Int32 → Int32 → Int32 → Int32 → Int32 → SX → Option (Int32 × SX)} (hk47 : ∀ (z1 : Int32) (z2 : Int32) (z3 : Int32) (z4 : Int32) (z5 : Int32) (z6 : Int32) (z7 : Int32) (u : SX), (StM mdX12_plan_0 u0 u) → (0 ≤ z1.toInt ∧ z1.toInt ≤ 79) → (0 ≤ z2.toInt ∧ z2.toInt ≤ 500) → (0 ≤ z3.toInt ∧ z3.toInt ≤ 1) → ((-1) ≤ z4.toInt ∧ z4.toInt ≤ 4319) → (z6.toInt ≤ 500) → (0 ≤ z7.toInt ∧ z7.toInt ≤ 4320) → (g47 < z7.toInt) → Tot (k47 z1 z2 z3 z4 z5 z6 z7 u) (qX12_plan_0 u0)) (z1 : Int32) (z2 : Int32) (z3 : Int32) (z4 : Int32) (z5 : Int32) (z6 : Int32) (z7 : Int32) (u : SX) (hs_u : StM mdX12_plan_0 u0 u) (h0 : 0 ≤ z1.toInt ∧ z1.toInt ≤ 79) (h1 : 0 ≤ z2.toInt ∧ z2.toInt ≤ 500) (h2 : 0 ≤ z3.toInt ∧ z3.toInt ≤ 1) (h3 : (-1) ≤ z4.toInt ∧ z4.toInt ≤ 4319) (h4 : z6.toInt ≤ 500) (h5 : 0 ≤ z7.toInt ∧ z7.toInt ≤ 4319) (h6 : g47 ≤ z7.toInt) : Tot (GX12_plan_0_221 k47 z1 z2 z3 z4 z5 z6 z7 u) (qX12_plan_0 u0) := by
  unfold GX12_plan_0_221
  have : (z7 + 1).toInt = z7.toInt + (1 : Int) := addc_t (by decide) (by omega) (by omega)
  exact hk47 z1 z2 z3 z4 z5 z6 (z7 + 1) u hs_u ⟨by omega, by omega⟩ ⟨by omega, by omega⟩ ⟨by omega, by omega⟩ ⟨by omega, by omega⟩ (by omega) ⟨by omega, by omega⟩ (by omega)
set_option maxHeartbeats 400000 in
set_option maxRecDepth 10000 in
theorem tGX12_plan_0_199 (u0 : SX) (g47 : Int) {k47 : Int32 → Int32 → Int32 → Int32 → Int32 → Int32 → Int32 → SX → Option (Int32 × SX)} (hk47 : ∀ (z1 : Int32) (z2 : Int32) (z3 : Int32) (z4 : Int32) (z5 : Int32) (z6 : Int32) (z7 : Int32) (u : SX), (StM mdX12_plan_0 u0 u) → (0 ≤ z1.toInt ∧ z1.toInt ≤ 79) → (0 ≤ z2.toInt ∧ z2.toInt ≤ 500) → (0 ≤ z3.toInt ∧ z3.toInt ≤ 1) → ((-1) ≤ z4.toInt ∧ z4.toInt ≤ 4319) → (z6.toInt ≤ 500) → (0 ≤ z7.toInt ∧ z7.toInt ≤ 4320) → (g47 < z7.toInt) → Tot (k47 z1 z2 z3 z4 z5 z6 z7 u) (qX12_plan_0 u0)) (z1 : Int32) (z2 : Int32) (z3 : Int32) (z4 : Int32) (z5 : Int32) (z6 : Int32) (z7 : Int32) (z8 : Int32) (z9 : Int32) (y0 : Int32) (u : SX) (hs_u : StM mdX12_plan_0 u0 u) (h0 : 0 ≤ z1.toInt ∧ z1.toInt ≤ 79) (h1 : 0 ≤ z2.toInt ∧ z2.toInt ≤ 500) (h2 : 0 ≤ z3.toInt ∧ z3.toInt ≤ 1) (h3 : (-1) ≤ z4.toInt ∧ z4.toInt ≤ 4319) (h4 : z6.toInt ≤ 500) (h5 : 0 ≤ z7.toInt ∧ z7.toInt ≤ 4319) (h6 : z8.toInt ≤ 500) (h7 : g47 ≤ z7.toInt) : Tot (GX12_plan_0_199 k47 z1 z2 z3 z4 z5 z6 z7 z8 z9 y0 u) (qX12_plan_0 u0) := by
  unfold GX12_plan_0_199
  refine Tot_ite (fun c794 => ?_) (fun c794 => ?_)
  · have : y0.toInt ≤ (0 : Int) := leI c794
    exact tGX12_plan_0_221 u0 g47 hk47 z1 z2 z3 z7 z9 z8 z7 u hs_u ⟨by omega, by omega⟩ ⟨by omega, by omega⟩ ⟨by omega, by omega⟩ ⟨by omega, by omega⟩ (by omega) ⟨by omega, by omega⟩ (by omega)
  · have : ¬ y0.toInt ≤ (0 : Int) := nleI c794
    exact tGX12_plan_0_221 u0 g47 hk47 z1 z2 z3 z4 z5 z6 z7 u hs_u ⟨by omega, by omega⟩ ⟨by omega, by omega⟩ ⟨by omega, by omega⟩ ⟨by omega, by omega⟩ (by omega) ⟨by omega, by omega⟩ (by omega)
set_option maxHeartbeats 400000 in
set_option maxRecDepth 10000 in
theorem tGX12_plan_0_118 (u0 : SX) (g47 : Int) {k47 : Int32 → Int32 → Int32 → Int32 → Int32 → Int32 → Int32 → SX → Option (Int32 × SX)} (hk47 : ∀ (z1 : Int32) (z2 : Int32) (z3 : Int32) (z4 : Int32) (z5 : Int32) (z6 : Int32) (z7 : Int32) (u : SX), (StM mdX12_plan_0 u0 u) → (0 ≤ z1.toInt ∧ z1.toInt ≤ 79) → (0 ≤ z2.toInt ∧ z2.toInt ≤ 500) → (0 ≤ z3.toInt ∧ z3.toInt ≤ 1) → ((-1) ≤ z4.toInt ∧ z4.toInt ≤ 4319) → (z6.toInt ≤ 500) → (0 ≤ z7.toInt ∧ z7.toInt ≤ 4320) → (g47 < z7.toInt) → Tot (k47 z1 z2 z3 z4 z5 z6 z7 u) (qX12_plan_0 u0)) (z1 : Int32) (z2 : Int32) (z3 : Int32) (z4 : Int32) (z5 : Int32) (z6 : Int32) (z7 : Int32) (z8 : Int32) (u : SX) (hs_u : StM mdX12_plan_0 u0 u) (h0 : 0 ≤ z1.toInt ∧ z1.toInt ≤ 79) (h1 : 0 ≤ z2.toInt ∧ z2.toInt ≤ 500) (h2 : 0 ≤ z3.toInt ∧ z3.toInt ≤ 1) (h3 : (-1) ≤ z4.toInt ∧ z4.toInt ≤ 4319) (h4 : z6.toInt ≤ 500) (h5 : 0 ≤ z7.toInt ∧ z7.toInt ≤ 4319) (h6 : g47 ≤ z7.toInt) : Tot (GX12_plan_0_118 k47 z1 z2 z3 z4 z5 z6 z7 z8 u) (qX12_plan_0 u0) := by
  unfold GX12_plan_0_118
  refine Tot_ite (fun c795 => ?_) (fun c795 => ?_)
  · have : z8.toInt ≤ z2.toInt := leI c795
    refine Tot_bind (tfX12_judged_0 z7 z1 u hs_u.1 ⟨by omega, by omega⟩) (fun q hq => ?_)
    obtain ⟨r18, u19⟩ := q
    have hc_u19 : StM mdX12_judged_0 u u19 := hq.1
    have hs_u19 : StM mdX12_plan_0 u0 u19 := StM_tr hs_u hc_u19 (by decide)
    clear hq
    refine Tot_ite (fun c796 => ?_) (fun c796 => ?_)
    · have : z4.toInt = (-1 : Int) := eqI c796
      exact tGX12_plan_0_199 u0 g47 hk47 z1 z2 z3 z4 z5 z6 z7 z8 r18 (-1) u19 hs_u19 ⟨by omega, by omega⟩ ⟨by omega, by omega⟩ ⟨by omega, by omega⟩ ⟨by omega, by omega⟩ (by omega) ⟨by omega, by omega⟩ (by omega) (by omega)
    · have : ¬ z4.toInt = (-1 : Int) := neI c796
      refine Tot_ite (fun c797 => ?_) (fun c797 => ?_)
      · refine Tot_ite (fun c798 => ?_) (fun c798 => ?_)
        · have : z8.toInt = z6.toInt := eqI c798
          refine Tot_ite (fun c799 => ?_) (fun c799 => ?_)
          · have : ((z7 &&& (z7 ^^^ z4)) &&& (-(z7 ^^^ z4))).toInt = (0 : Int) := eqI c799
            exact tGX12_plan_0_199 u0 g47 hk47 z1 z2 z3 z4 z5 z6 z7 z8 r18 1 u19 hs_u19 ⟨by omega, by omega⟩ ⟨by omega, by omega⟩ ⟨by omega, by omega⟩ ⟨by omega, by omega⟩ (by omega) ⟨by omega, by omega⟩ (by omega) (by omega)
          · exact tGX12_plan_0_199 u0 g47 hk47 z1 z2 z3 z4 z5 z6 z7 z8 r18 (-1) u19 hs_u19 ⟨by omega, by omega⟩ ⟨by omega, by omega⟩ ⟨by omega, by omega⟩ ⟨by omega, by omega⟩ (by omega) ⟨by omega, by omega⟩ (by omega) (by omega)
        · exact tGX12_plan_0_199 u0 g47 hk47 z1 z2 z3 z4 z5 z6 z7 z8 r18 (z8 - z6) u19 hs_u19 ⟨by omega, by omega⟩ ⟨by omega, by omega⟩ ⟨by omega, by omega⟩ ⟨by omega, by omega⟩ (by omega) ⟨by omega, by omega⟩ (by omega) (by omega)
      · exact tGX12_plan_0_199 u0 g47 hk47 z1 z2 z3 z4 z5 z6 z7 z8 r18 (r18 - z5) u19 hs_u19 ⟨by omega, by omega⟩ ⟨by omega, by omega⟩ ⟨by omega, by omega⟩ ⟨by omega, by omega⟩ (by omega) ⟨by omega, by omega⟩ (by omega) (by omega)
  · have : ¬ z8.toInt ≤ z2.toInt := nleI c795
    exact tGX12_plan_0_221 u0 g47 hk47 z1 z2 z3 z4 z5 z6 z7 u hs_u ⟨by omega, by omega⟩ ⟨by omega, by omega⟩ ⟨by omega, by omega⟩ ⟨by omega, by omega⟩ (by omega) ⟨by omega, by omega⟩ (by omega)
set_option maxHeartbeats 400000 in
set_option maxRecDepth 10000 in
theorem tLX12_plan_0_47 (u0 : SX)  {k227 : Int32 → Int32 → Int32 → SX → Option (Int32 × SX)} (hk227 : ∀ (z3 : Int32) (z4 : Int32) (z5 : Int32) (u : SX), (StM mdX12_plan_0 u0 u) → (0 ≤ z3.toInt ∧ z3.toInt ≤ 1) → ((-1) ≤ z4.toInt ∧ z4.toInt ≤ 4319) → Tot (k227 z3 z4 z5 u) (qX12_plan_0 u0)) : ∀ (n : Nat) (z1 : Int32) (z2 : Int32) (z3 : Int32) (z4 : Int32) (z5 : Int32) (z6 : Int32) (z7 : Int32) (u : SX), (StM mdX12_plan_0 u0 u) → (0 ≤ z1.toInt ∧ z1.toInt ≤ 79) → (0 ≤ z2.toInt ∧ z2.toInt ≤ 500) → (0 ≤ z3.toInt ∧ z3.toInt ≤ 1) → ((-1) ≤ z4.toInt ∧ z4.toInt ≤ 4319) → (z6.toInt ≤ 500) → (0 ≤ z7.toInt ∧ z7.toInt ≤ 4320) → (4320 - z7.toInt < (n : Int)) → Tot (LX12_plan_0_47 k227 n z1 z2 z3 z4 z5 z6 z7 u) (qX12_plan_0 u0) := by
  intro n
  induction n with
  | zero =>
    intro z1 z2 z3 z4 z5 z6 z7 u hs_u h0 h1 h2 h3 h4 h5 hm
    exfalso
    omega
  | succ n ih =>
    intro z1 z2 z3 z4 z5 z6 z7 u hs_u h0 h1 h2 h3 h4 h5 hm
    rw [LX12_plan_0_47]
    have : 0 ≤ (u.1 21).toInt ∧ (u.1 21).toInt ≤ 10 := hs_u.1.1 21
    have := shl1_t (p := (u.1 21)) (by omega) (by omega)
    refine Tot_ite (fun c800 => ?_) (fun c800 => ?_)
    · have : (1 <<< ((u.1 21) &&& 31)).toInt ≤ z7.toInt := leI c800
      exact hk227 z3 z4 z5 u hs_u ⟨by omega, by omega⟩ ⟨by omega, by omega⟩
    · have : ¬ (1 <<< ((u.1 21) &&& 31)).toInt ≤ z7.toInt := nleI c800
      refine Tot_bind (tfX12_isRow_0 z7 u hs_u.1) (fun q hq => ?_)
      obtain ⟨r12, u13⟩ := q
      have hc_u13 : StM mdX12_isRow_0 u u13 := hq.1
      have hs_u13 : StM mdX12_plan_0 u0 u13 := StM_tr hs_u hc_u13 (by decide)
      have : 0 ≤ r12.toInt ∧ r12.toInt ≤ 1 := hq.2.1
      clear hq
      refine Tot_ite (fun c801 => ?_) (fun c801 => ?_)
      · have : r12.toInt = (0 : Int) := eqI c801
        exact tGX12_plan_0_221 u0 (z7.toInt) (fun a802 a803 a804 a805 a806 a807 a808 w809 hw809 p810 p811 p812 p813 p814 p815 p816 => ih a802 a803 a804 a805 a806 a807 a808 w809 hw809 p810 p811 p812 p813 p814 p815 (by omega)) z1 z2 z3 z4 z5 z6 z7 u13 hs_u13 ⟨by omega, by omega⟩ ⟨by omega, by omega⟩ ⟨by omega, by omega⟩ ⟨by omega, by omega⟩ (by omega) ⟨by omega, by omega⟩ (by omega)
      · have : ¬ r12.toInt = (0 : Int) := neI c801
        exact tLX12_plan_0_76 u0 (z7.toInt) (tGX12_plan_0_118 u0 (z7.toInt) (fun a817 a818 a819 a820 a821 a822 a823 w824 hw824 p825 p826 p827 p828 p829 p830 p831 => ih a817 a818 a819 a820 a821 a822 a823 w824 hw824 p825 p826 p827 p828 p829 p830 (by omega))) 5000 z1 z2 z3 z4 z5 z6 z7 0 0 u13 hs_u13 ⟨by omega, by omega⟩ ⟨by omega, by omega⟩ ⟨by omega, by omega⟩ ⟨by omega, by omega⟩ (by omega) ⟨by omega, by omega⟩ (by show 0 ≤ (0 : Int) ∧ (0 : Int) ≤ 10; omega) (by omega) (by show 10 - (0 : Int) < ((5000 : Nat) : Int); omega)
set_option maxHeartbeats 400000 in
set_option maxRecDepth 10000 in
theorem tGX12_plan_0_227 (u0 : SX)    (z3 : Int32) (z4 : Int32) (z5 : Int32) (u : SX) (hs_u : StM mdX12_plan_0 u0 u) (h0 : 0 ≤ z3.toInt ∧ z3.toInt ≤ 1) (h1 : (-1) ≤ z4.toInt ∧ z4.toInt ≤ 4319) : Tot (GX12_plan_0_227 z3 z4 z5 u) (qX12_plan_0 u0) := by
  unfold GX12_plan_0_227
  refine Tot_ite (fun c832 => ?_) (fun c832 => ?_)
  · have : z3.toInt = (0 : Int) := eqI c832
    exact Tot_some ⟨hs_u, trivial, trivial⟩
  · have : ¬ z3.toInt = (0 : Int) := neI c832
    exact Tot_some ⟨hs_u, trivial, trivial⟩
set_option maxHeartbeats 400000 in
set_option maxRecDepth 10000 in
theorem tfX12_plan_0 (x1 : Int32) (x2 : Int32) (x3 : Int32) (u : SX) (hI : IM u)  : Tot (fX12_plan_0 x1 x2 x3 u) (qX12_plan_0 u) := by
  unfold fX12_plan_0
  have hs_u : StM mdX12_plan_0 u u := StM_rf hI
  refine Tot_lt (fun u1 e_u1 => ?_)
  have hs_u1 : StM mdX12_plan_0 u u1 := by rw [e_u1]; exact StM_sI hs_u (by decide) (by show 0 ≤ (0 : Int); omega) (by show (0 : Int) ≤ 1; omega)
  refine Tot_bind (tfX12_isReading_0 x1 u1 hs_u1.1) (fun q hq => ?_)
  obtain ⟨r3, u4⟩ := q
  have hc_u4 : StM mdX12_isReading_0 u1 u4 := hq.1
  have hs_u4 : StM mdX12_plan_0 u u4 := StM_tr hs_u1 hc_u4 (by decide)
  have : 0 ≤ r3.toInt ∧ r3.toInt ≤ 1 := hq.2.1
  have : (u1.1 15).toInt = (u.1 15).toInt := by rw [e_u1]; rfl
  have : 0 ≤ (u.1 15).toInt ∧ (u.1 15).toInt ≤ 80 := hs_u.1.1 15
  have : r3.toInt ≠ 0 → ((0 : Int) ≤ x1.toInt ∧ x1.toInt < (u1.1 15).toInt) := hq.2.2
  clear hq
  refine Tot_ite (fun c833 => ?_) (fun c833 => ?_)
  · have : r3.toInt = (0 : Int) := eqI c833
    exact Tot_some ⟨hs_u4, trivial, trivial⟩
  · have : ¬ r3.toInt = (0 : Int) := neI c833
    refine Tot_bind (tfX12_isIn x2 0 500 (by show (-100000) ≤ (0 : Int) ∧ (0 : Int) ≤ 400; omega) (by show (-1) ≤ (500 : Int) ∧ (500 : Int) ≤ 100000; omega)) (fun r6 hq => ?_)
    have : 0 ≤ r6.toInt ∧ r6.toInt ≤ 1 := hq.1
    have : r6.toInt ≠ 0 → ((0 : Int) ≤ x2.toInt ∧ x2.toInt ≤ (500 : Int)) := hq.2
    clear hq
    refine Tot_ite (fun c834 => ?_) (fun c834 => ?_)
    · have : r6.toInt = (0 : Int) := eqI c834
      exact Tot_some ⟨hs_u4, trivial, trivial⟩
    · have : ¬ r6.toInt = (0 : Int) := neI c834
      refine Tot_bind (tfX12_isIn x3 0 1 (by show (-100000) ≤ (0 : Int) ∧ (0 : Int) ≤ 400; omega) (by show (-1) ≤ (1 : Int) ∧ (1 : Int) ≤ 100000; omega)) (fun r9 hq => ?_)
      have : 0 ≤ r9.toInt ∧ r9.toInt ≤ 1 := hq.1
      have : r9.toInt ≠ 0 → ((0 : Int) ≤ x3.toInt ∧ x3.toInt ≤ (1 : Int)) := hq.2
      clear hq
      refine Tot_ite (fun c835 => ?_) (fun c835 => ?_)
      · have : r9.toInt = (0 : Int) := eqI c835
        exact Tot_some ⟨hs_u4, trivial, trivial⟩
      · have : ¬ r9.toInt = (0 : Int) := neI c835
        exact tLX12_plan_0_47 u (tGX12_plan_0_227 u) 5000 x1 x2 x3 (-1) 0 0 0 u4 hs_u4 ⟨by omega, by omega⟩ ⟨by omega, by omega⟩ ⟨by omega, by omega⟩ (by show (-1) ≤ (-1 : Int) ∧ (-1 : Int) ≤ 4319; omega) (by show (0 : Int) ≤ 500; omega) (by show 0 ≤ (0 : Int) ∧ (0 : Int) ≤ 4320; omega) (by show 4320 - (0 : Int) < ((5000 : Nat) : Int); omega)

def mdX12_judge_0 : MD := ([0, 2, 4, 5, 6, 7, 8, 9, 10, 11, 16, 17], [5, 16, 17, 18], [], [])
abbrev qX12_judge_0 (u : SX) (q : Int32 × SX) : Prop := StM mdX12_judge_0 u q.2 ∧ (True) ∧ (True)
set_option maxHeartbeats 400000 in
set_option maxRecDepth 10000 in
theorem tfX12_judge_0 (x1 : Int32) (x2 : Int32) (u : SX) (hI : IM u)  : Tot (fX12_judge_0 x1 x2 u) (qX12_judge_0 u) := by
  unfold fX12_judge_0
  have hs_u : StM mdX12_judge_0 u u := StM_rf hI
  refine Tot_lt (fun u1 e_u1 => ?_)
  have hs_u1 : StM mdX12_judge_0 u u1 := by rw [e_u1]; exact StM_sI hs_u (by decide) (by show 0 ≤ (0 : Int); omega) (by show (0 : Int) ≤ 1; omega)
  refine Tot_bind (tfX12_isReading_0 x2 u1 hs_u1.1) (fun q hq => ?_)
  obtain ⟨r3, u4⟩ := q
  have hc_u4 : StM mdX12_isReading_0 u1 u4 := hq.1
  have hs_u4 : StM mdX12_judge_0 u u4 := StM_tr hs_u1 hc_u4 (by decide)
  have : 0 ≤ r3.toInt ∧ r3.toInt ≤ 1 := hq.2.1
  have : (u1.1 15).toInt = (u.1 15).toInt := by rw [e_u1]; rfl
  have : 0 ≤ (u.1 15).toInt ∧ (u.1 15).toInt ≤ 80 := hs_u.1.1 15
  have : r3.toInt ≠ 0 → ((0 : Int) ≤ x2.toInt ∧ x2.toInt < (u1.1 15).toInt) := hq.2.2
  clear hq
  refine Tot_ite (fun c836 => ?_) (fun c836 => ?_)
  · have : r3.toInt = (0 : Int) := eqI c836
    exact Tot_some ⟨hs_u4, trivial, trivial⟩
  · have : ¬ r3.toInt = (0 : Int) := neI c836
    refine Tot_bind (tfX12_isRow_0 x1 u4 hs_u4.1) (fun q hq => ?_)
    obtain ⟨r6, u7⟩ := q
    have hc_u7 : StM mdX12_isRow_0 u4 u7 := hq.1
    have hs_u7 : StM mdX12_judge_0 u u7 := StM_tr hs_u4 hc_u7 (by decide)
    have : 0 ≤ r6.toInt ∧ r6.toInt ≤ 1 := hq.2.1
    clear hq
    refine Tot_ite (fun c837 => ?_) (fun c837 => ?_)
    · have : r6.toInt = (0 : Int) := eqI c837
      exact Tot_some ⟨hs_u7, trivial, trivial⟩
    · have : ¬ r6.toInt = (0 : Int) := neI c837
      refine Tot_bind (tfX12_judged_0 x1 x2 u7 hs_u7.1 ⟨by omega, by omega⟩) (fun q hq => ?_)
      obtain ⟨r9, u10⟩ := q
      have hc_u10 : StM mdX12_judged_0 u7 u10 := hq.1
      have hs_u10 : StM mdX12_judge_0 u u10 := StM_tr hs_u7 hc_u10 (by decide)
      clear hq
      exact Tot_some ⟨hs_u10, trivial, trivial⟩

def mdX12_leans_0 : MD := ([0, 2, 4, 5, 6, 7, 8, 9, 10, 11], [5, 18], [], [])
abbrev qX12_leans_0 (u : SX) (q : Int32 × SX) : Prop := StM mdX12_leans_0 u q.2 ∧ (True) ∧ (True)
set_option maxHeartbeats 400000 in
set_option maxRecDepth 10000 in
theorem tfX12_leans_0 (x1 : Int32) (x2 : Int32) (u : SX) (hI : IM u)  : Tot (fX12_leans_0 x1 x2 u) (qX12_leans_0 u) := by
  unfold fX12_leans_0
  have hs_u : StM mdX12_leans_0 u u := StM_rf hI
  refine Tot_lt (fun u1 e_u1 => ?_)
  have hs_u1 : StM mdX12_leans_0 u u1 := by rw [e_u1]; exact StM_sI hs_u (by decide) (by show 0 ≤ (0 : Int); omega) (by show (0 : Int) ≤ 1; omega)
  refine Tot_bind (tfX12_isReading_0 x1 u1 hs_u1.1) (fun q hq => ?_)
  obtain ⟨r3, u4⟩ := q
  have hc_u4 : StM mdX12_isReading_0 u1 u4 := hq.1
  have hs_u4 : StM mdX12_leans_0 u u4 := StM_tr hs_u1 hc_u4 (by decide)
  have : 0 ≤ r3.toInt ∧ r3.toInt ≤ 1 := hq.2.1
  have : (u1.1 15).toInt = (u.1 15).toInt := by rw [e_u1]; rfl
  have : 0 ≤ (u.1 15).toInt ∧ (u.1 15).toInt ≤ 80 := hs_u.1.1 15
  have : r3.toInt ≠ 0 → ((0 : Int) ≤ x1.toInt ∧ x1.toInt < (u1.1 15).toInt) := hq.2.2
  clear hq
  refine Tot_ite (fun c838 => ?_) (fun c838 => ?_)
  · have : r3.toInt = (0 : Int) := eqI c838
    exact Tot_some ⟨hs_u4, trivial, trivial⟩
  · have : ¬ r3.toInt = (0 : Int) := neI c838
    refine Tot_bind (tfX12_isPart_0 x2 u4 hs_u4.1) (fun q hq => ?_)
    obtain ⟨r6, u7⟩ := q
    have hc_u7 : StM mdX12_isPart_0 u4 u7 := hq.1
    have hs_u7 : StM mdX12_leans_0 u u7 := StM_tr hs_u4 hc_u7 (by decide)
    have : 0 ≤ r6.toInt ∧ r6.toInt ≤ 1 := hq.2.1
    have : (u4.1 12).toInt = (u1.1 12).toInt := congrArg Int32.toInt (hc_u4.2.1 12 (by decide))
    have : (u1.1 12).toInt = (u.1 12).toInt := by rw [e_u1]; rfl
    have : 0 ≤ (u.1 12).toInt ∧ (u.1 12).toInt ≤ 12 := hs_u.1.1 12
    have : r6.toInt ≠ 0 → ((0 : Int) ≤ x2.toInt ∧ x2.toInt < (u4.1 12).toInt) := hq.2.2
    clear hq
    refine Tot_ite (fun c839 => ?_) (fun c839 => ?_)
    · have : r6.toInt = (0 : Int) := eqI c839
      exact Tot_some ⟨hs_u7, trivial, trivial⟩
    · have : ¬ r6.toInt = (0 : Int) := neI c839
      refine Tot_bind (tfX12_layWorthsOf_0 x1 u7 hs_u7.1 ⟨by omega, by omega⟩) (fun q hq => ?_)
      obtain ⟨r9, u10⟩ := q
      have hc_u10 : StM mdX12_layWorthsOf_0 u7 u10 := hq.1
      have hs_u10 : StM mdX12_leans_0 u u10 := StM_tr hs_u7 hc_u10 (by decide)
      have : 0 ≤ r9.toInt ∧ r9.toInt ≤ 0 := hq.2.1
      clear hq
      refine Tot_gd (inb_t (by omega) (by omega)) ?_
      exact Tot_some ⟨hs_u10, trivial, trivial⟩

def mdX12_guessWorth_0 : MD := ([2, 4, 5, 6, 7, 8, 9, 10, 11], [5], [], [])
abbrev qX12_guessWorth_0 (u : SX) (q : Int32 × SX) : Prop := StM mdX12_guessWorth_0 u q.2 ∧ (True) ∧ (True)
set_option maxHeartbeats 400000 in
set_option maxRecDepth 10000 in
theorem tfX12_guessWorth_0 (x1 : Int32) (x2 : Int32) (x3 : Int32) (u : SX) (hI : IM u) (h0 : 0 ≤ x1.toInt ∧ x1.toInt ≤ 11) (h1 : 0 ≤ x3.toInt ∧ x3.toInt ≤ 40) : Tot (fX12_guessWorth_0 x1 x2 x3 u) (qX12_guessWorth_0 u) := by
  unfold fX12_guessWorth_0
  have hs_u : StM mdX12_guessWorth_0 u u := StM_rf hI
  refine Tot_bind (tfX12_noLetters_0 u hs_u.1) (fun q hq => ?_)
  obtain ⟨r1, u2⟩ := q
  have hc_u2 : StM mdX12_noLetters_0 u u2 := hq.1
  have hs_u2 : StM mdX12_guessWorth_0 u u2 := StM_tr hs_u hc_u2 (by decide)
  have : 0 ≤ r1.toInt ∧ r1.toInt ≤ 0 := hq.2.1
  clear hq
  refine Tot_gd (by decide) ?_
  refine Tot_lt (fun u5 e_u5 => ?_)
  have hs_u5 : StM mdX12_guessWorth_0 u u5 := by rw [e_u5]; exact StM_sAf hs_u2 (by decide) rfl rfl (by decide)
  refine Tot_gd (by decide) ?_
  refine Tot_lt (fun u8 e_u8 => ?_)
  have hs_u8 : StM mdX12_guessWorth_0 u u8 := by rw [e_u8]; exact StM_sAf hs_u5 (by decide) rfl rfl (by decide)
  refine Tot_bind (tfX12_worthOf_0 1 x1 u8 hs_u8.1 (by show 0 ≤ (1 : Int) ∧ (1 : Int) ≤ 2; omega) ⟨by omega, by omega⟩) (fun q hq => ?_)
  obtain ⟨r10, u11⟩ := q
  have hc_u11 : StM mdX12_worthOf_0 u8 u11 := hq.1
  have hs_u11 : StM mdX12_guessWorth_0 u u11 := StM_tr hs_u8 hc_u11 (by decide)
  clear hq
  exact Tot_some ⟨hs_u11, trivial, trivial⟩
