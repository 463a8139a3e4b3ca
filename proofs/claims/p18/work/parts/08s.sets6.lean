/-! The reference's table of what parts can shine. -/
abbrev md25 : MD := ([], [25, 26, 27, 28], [], [])
def TB (u : SX) (S : Nat → Int32 × Int32) (v : SX) (m i : Nat) : Prop := v.2.1 25 (12 * m + i) = mnS (ww u m i) (S i) ∧ v.2.1 26 (12 * m + i) = mxS (ww u m i) (S i) ∧ v.2.1 27 (12 * m + i) = mn0 (ww u m i) ∧ v.2.1 28 (12 * m + i) = mx0 (ww u m i)
theorem se93 {u : SX} {S : Nat → Int32 × Int32} {k202 : Int32 → Int32 → Int32 → SX → Option (Int32 × SX)} {z1 z2 z3 r : Int32} {v' : SX} (hI : IX u) (a0 : 0 ≤ z3.toInt) (a9 : z3.toInt < 80) : ∀ (n : Nat) (z4 : Int32) (v : SX), IM v → v.1 12 = u.1 8 → SPv u S v → (∀ i : Nat, (i : Int) < (u.1 8).toInt → v.2.1 18 i = ww u z3.toNatClampNeg i) → 0 ≤ z4.toInt → z4.toInt ≤ (u.1 8).toInt → LX12_sets_0_93 k202 n z1 z2 z3 z4 v = some (r, v') → ∃ w : SX, StM md25 v w ∧ (∀ j : Nat, ((j : Int) < 12 * z3.toInt + z4.toInt ∨ 12 * z3.toInt + 12 ≤ (j : Int)) → w.2.1 25 j = v.2.1 25 j ∧ w.2.1 26 j = v.2.1 26 j ∧ w.2.1 27 j = v.2.1 27 j ∧ w.2.1 28 j = v.2.1 28 j) ∧ (∀ i : Nat, z4.toInt ≤ (i : Int) → (i : Int) < (u.1 8).toInt → TB u S w z3.toNatClampNeg i) ∧ k202 z1 z2 z3 w = some (r, v') := by
  intro n
  induction n with
  | zero => intro z4 v _ _ _ _ _ _ h; cases h
  | succ n ih =>
    intro z4 v hJ e12 hsp hw h0 h9 h
    have b8 : (u.1 8).toInt ≤ (12 : Int) := (hI.1 8).2
    have h : (if (v.1 12) ≤ z4 then (k202 z1 z2 z3 v) else ((fX12_least_0 z4 v).bind fun q => match q with | (r16, u17) => (gd (inb ((12 * z3) + z4) 960) (lt (sA u17 25 (upd (u17.2.1 25) ((12 * z3) + z4).toNatClampNeg r16)) fun u20 => ((fX12_most_0 z4 u20).bind fun q => match q with | (r22, u23) => (gd (inb ((12 * z3) + z4) 960) (lt (sA u23 26 (upd (u23.2.1 26) ((12 * z3) + z4).toNatClampNeg r22)) fun u26 => (gd (inb z4 12) ((fX12_shines 400 (u26.2.1 18 z4.toNatClampNeg)).bind fun r29 => (gd (inb ((12 * z3) + z4) 960) (lt (sA u26 27 (upd (u26.2.1 27) ((12 * z3) + z4).toNatClampNeg (if r29 < 0 then r29 else 0))) fun u33 => (gd (inb z4 12) ((fX12_shines 400 (u33.2.1 18 z4.toNatClampNeg)).bind fun r36 => (gd (inb ((12 * z3) + z4) 960) (lt (sA u33 28 (upd (u33.2.1 28) ((12 * z3) + z4).toNatClampNeg (if 0 < r36 then r36 else 0))) fun u40 => ((LX12_sets_0_93 k202 n) z1 z2 z3 (z4 + 1) u40)))))))))))))))) = some (r, v') := h
    rw [e12] at h
    have t4 := tnS h0
    have t3 := tnS a0
    by_cases c : u.1 8 ≤ z4
    · rw [if_pos c] at h
      have c9 := leI c
      exact ⟨v, StM_rf hJ, fun _ _ => ⟨rfl, rfl, rfl, rfl⟩, fun i h1 h2 => by omega, h⟩
    · rw [if_neg c] at h
      have c9 := nleI c
      have et : (z4 + 1).toInt = z4.toInt + 1 := addc_t (by decide) (by omega) (by omega)
      have m1 : (12 * z3).toInt = 12 * z3.toInt := by
        have c : (12 : Int32).toInt = 12 := by decide
        rw [Int32.toInt_mul, c]
        exact bm_t (by omega) (by omega)
      have m2 : (12 * z3 + z4).toInt = 12 * z3.toInt + z4.toInt := by rw [add_t (by omega) (by omega), m1]
      have mn : (12 * z3 + z4).toNatClampNeg = 12 * z3.toNatClampNeg + z4.toNatClampNeg := by
        show (12 * z3 + z4).toInt.toNat = 12 * z3.toInt.toNat + z4.toInt.toNat
        omega
      rw [mn] at h
      have w4 := hw z4.toNatClampNeg (by omega)
      have s4 := hsp z4.toNatClampNeg (by omega)
      obtain ⟨⟨r16, u17⟩, a16, h⟩ := bd_some h
      obtain ⟨f17, s16⟩ := leastM a16
      rw [f17] at h
      obtain ⟨-, h⟩ := gd_some h
      obtain ⟨u20, j20, h⟩ := lt_some h
      obtain ⟨⟨r22, u23⟩, a22, h⟩ := bd_some h
      obtain ⟨f23, s22⟩ := mostM a22
      rw [f23] at h
      obtain ⟨-, h⟩ := gd_some h
      obtain ⟨u26, j26, h⟩ := lt_some h
      obtain ⟨-, h⟩ := gd_some h
      obtain ⟨r29, a29, h⟩ := bd_some h
      obtain ⟨-, h⟩ := gd_some h
      obtain ⟨u33, j33, h⟩ := lt_some h
      obtain ⟨-, h⟩ := gd_some h
      obtain ⟨r36, a36, h⟩ := bd_some h
      obtain ⟨-, h⟩ := gd_some h
      obtain ⟨u40, j40, h⟩ := lt_some h
      have s29 := shn_X (show fX11_shine 400 (u26.2.1 18 z4.toNatClampNeg) = some r29 from a29)
      have s36 := shn_X (show fX11_shine 400 (u33.2.1 18 z4.toNatClampNeg) = some r36 from a36)
      have v18 : u20.2.1 18 = v.2.1 18 := by rw [j20]; rfl
      have v16 : u20.2.1 16 = v.2.1 16 := by rw [j20]; rfl
      have v17 : u20.2.1 17 = v.2.1 17 := by rw [j20]; rfl
      rw [w4, s4] at s16
      rw [v16, v17, v18, w4, s4] at s22
      rw [show u26.2.1 18 = v.2.1 18 from by rw [j26, j20]; rfl, w4] at s29
      rw [show u33.2.1 18 = v.2.1 18 from by rw [j33, j26, j20]; rfl, w4] at s36
      have s40 : StM md25 v u40 := by
        rw [j40, j33, j26, j20]
        exact StM_sAf (StM_sAf (StM_sAf (StM_sAf (StM_rf hJ) (by decide) rfl rfl (by decide)) (by decide) rfl rfl (by decide)) (by decide) rfl rfl (by decide)) (by decide) rfl rfl (by decide)
      have p25 : u40.2.1 25 = upd (v.2.1 25) (12 * z3.toNatClampNeg + z4.toNatClampNeg) r16 := by rw [j40, j33, j26, j20]; rfl
      have p26 : u40.2.1 26 = upd (v.2.1 26) (12 * z3.toNatClampNeg + z4.toNatClampNeg) r22 := by rw [j40, j33, j26, j20]; rfl
      have p27 : u40.2.1 27 = upd (v.2.1 27) (12 * z3.toNatClampNeg + z4.toNatClampNeg) (if r29 < 0 then r29 else 0) := by rw [j40, j33, j26, j20]; rfl
      have p28 : u40.2.1 28 = upd (v.2.1 28) (12 * z3.toNatClampNeg + z4.toNatClampNeg) (if 0 < r36 then r36 else 0) := by rw [j40, j33, j26, j20]; rfl
      obtain ⟨w, sw, q1, q2, q3⟩ := ih (z4 + 1) u40 s40.1 (by rw [s40.2.1 12 (by decide)]; exact e12) (SPv_fr (s40.2.2.1 16 (by decide)) (s40.2.2.1 17 (by decide)) hsp) (fun i hi => by rw [s40.2.2.1 18 (by decide)]; exact hw i hi) (by rw [et]; omega) (by rw [et]; omega) h
      rw [et] at q1 q2
      refine ⟨w, StM_tr s40 sw (by decide), fun j hj => ?_, fun i h1 h2 => ?_, q3⟩
      · obtain ⟨y1, y2, y3, y4⟩ := q1 j (by omega)
        have ne : ¬ j = 12 * z3.toNatClampNeg + z4.toNatClampNeg := by omega
        rw [y1, y2, y3, y4, p25, p26, p27, p28, upd_ne ne, upd_ne ne, upd_ne ne, upd_ne ne]
        exact ⟨rfl, rfl, rfl, rfl⟩
      · by_cases ci : i = z4.toNatClampNeg
        · obtain ⟨y1, y2, y3, y4⟩ := q1 (12 * z3.toNatClampNeg + z4.toNatClampNeg) (by omega)
          unfold TB
          rw [ci, y1, y2, y3, y4, p25, p26, p27, p28, upd_at, upd_at, upd_at, upd_at, s16, s22, s29, s36]
          exact ⟨rfl, rfl, rfl, rfl⟩
        · exact q2 i (by omega) h2
