/-! Readings: aims alike, worths kept. -/
theorem lawV {x1 d a h e w l r' : Int32} {u v v' : SX} (hJ : IM v) (hV : TieV u v) (hx0 : 0 ≤ x1.toInt) (hx1 : x1.toInt < (u.1 5).toInt) (h12 : (u.1 5).toInt ≤ 12) (h2 : fX12_lawWorth_0 x1 d a h e w l v = some (r', v')) : ∃ (k : Nat) (hh : Int32), tQ u 15 x1.toNatClampNeg = some k ∧ k < tN u ∧ tL u k ≤ 120 ∧ ∀ ρ : Nat → Int32, ρ 0 = d → ρ 1 = a → ρ 2 = h → ρ 3 = e → ρ 4 = w → ρ 5 = l → SAY ρ 6 (tC u k) (tL u k) hh r' := by
  have en : x1.toNatClampNeg = x1.toInt.toNat := rfl
  obtain ⟨k, t1, t2, t3⟩ := hV.1 x1.toNatClampNeg (by rw [en]; omega)
  unfold fX12_lawWorth_0 at h2
  obtain ⟨⟨q1, y2⟩, b1, h2⟩ := bd_some h2
  have fy : StM mdX12_noLetters_0 v y2 := (Tot_at (tfX12_noLetters_0 v hJ) b1).1
  obtain ⟨-, h2⟩ := gd_some h2
  obtain ⟨y5, i5, h2⟩ := lt_some h2
  obtain ⟨-, h2⟩ := gd_some h2
  obtain ⟨y8, i8, h2⟩ := lt_some h2
  obtain ⟨-, h2⟩ := gd_some h2
  obtain ⟨y11, i11, h2⟩ := lt_some h2
  obtain ⟨-, h2⟩ := gd_some h2
  obtain ⟨y14, i14, h2⟩ := lt_some h2
  obtain ⟨-, h2⟩ := gd_some h2
  obtain ⟨y17, i17, h2⟩ := lt_some h2
  obtain ⟨-, h2⟩ := gd_some h2
  obtain ⟨y20, i20, h2⟩ := lt_some h2
  obtain ⟨⟨q22, y23⟩, b22, h2⟩ := bd_some h2
  have e2 : q22 = r' := by cases h2; rfl
  unfold fX12_worthOf_0 at b22
  obtain ⟨P, iP, b22⟩ := lt_some b22
  obtain ⟨-, b22⟩ := gd_some b22
  obtain ⟨⟨q4, z5⟩, b4, b22⟩ := bd_some b22
  have e22 : z5.1 9 = q22 := by cases b22; rfl
  have r2 : y20.2.1 2 = v.2.1 2 := by
    rw [i20, i17, i14, i11, i8, i5]
    exact fy.2.2.1 2 (by decide)
  have r3 : y20.2.1 3 = v.2.1 3 := by
    rw [i20, i17, i14, i11, i8, i5]
    exact fy.2.2.1 3 (by decide)
  have r5 : y20.2.1 5 = upd (upd (upd (upd (upd (upd (y2.2.1 5) 100 d) 97 a) 104 h) 101 e) 119 w) 108 l := by
    rw [i20, i17, i14, i11, i8, i5]
    rfl
  have tP : P.toInt = x1.toInt := by
    rw [iP, cadd_t (n := 0) (by decide) (by omega) (by omega)]
    omega
  have nP : P.toNatClampNeg = 12 * 0 + x1.toNatClampNeg := by
    show P.toInt.toNat = 12 * 0 + x1.toInt.toNat
    omega
  have tB : (120 * P).toInt = 120 * P.toInt := cmul_t (by decide) (by omega) (by omega)
  have nB : (120 * P).toNatClampNeg = 120 * (12 * 0 + x1.toNatClampNeg) := by
    show (120 * P).toInt.toNat = 120 * (12 * 0 + x1.toInt.toNat)
    rw [tB, tP]
    omega
  rw [nP, r3] at b4
  have all : ∀ ρ : Nat → Int32, ρ 0 = d → ρ 1 = a → ρ 2 = h → ρ 3 = e → ρ 4 = w → ρ 5 = l → SAY ρ 6 (tC u k) (tL u k) (z5.1 11) r' ∧ tL u k ≤ 120 := fun ρ p0 p1 p2 p3 p4 p5 => by
    have hL : LetR ρ (y20.2.1 5) 6 (srtT 0) := by
      refine LetR_4 ?_ ?_ ?_ ?_ ?_ ?_
      · rw [p0, r5]; rfl
      · rw [p1, r5]; rfl
      · rw [p2, r5]; rfl
      · rw [p3, r5]; rfl
      · rw [p4, r5]; rfl
      · rw [p5, r5]; rfl
    obtain ⟨g1, g2⟩ := t3 ρ (y20.2.1 5) 6 (120 * P) y20 z5 q4 hL rfl ⟨by rw [tB]; omega, by rw [tB]; omega⟩ (fun i _ => by rw [nB, r2]) b4
    rw [e22, e2] at g1
    exact ⟨g1, g2⟩
  refine ⟨k, z5.1 11, t1, t2, ?_, fun ρ p0 p1 p2 p3 p4 p5 => (all ρ p0 p1 p2 p3 p4 p5).1⟩
  exact (all (fun j => if j = 0 then d else if j = 1 then a else if j = 2 then h else if j = 3 then e else if j = 4 then w else l) rfl rfl rfl rfl rfl rfl).2
theorem SAY_uq {u : SX} {k : Nat} {ρ : Nat → Int32} {h w h' w' : Int32} (hI : IX u) (hk : k < tN u) (hl : tL u k ≤ 120) (bρ : ∀ j, 0 ≤ (ρ j).toInt ∧ (ρ j).toInt ≤ 40) (s1 : SAY ρ 6 (tC u k) (tL u k) h w) (s2 : SAY ρ 6 (tC u k) (tL u k) h' w') : w = w' := by
  have I0 : IX (sA u 16 ρ) := (StX_row (md := ([], [16], [], [])) (k := 16) (f := ρ) (StX_rf hI) (by decide) bρ (fun z => absurd z (by decide))).1
  obtain ⟨⟨r, u1⟩, e1, -⟩ := tfX10_worthBy_T_a16_a17 k (sA u 16 ρ) I0 hk
  have a := worthV0 (u := sA u 16 ρ) (x0 := k) s1 (fun _ _ => rfl) hl e1
  have b := worthV0 (u := sA u 16 ρ) (x0 := k) s2 (fun _ _ => rfl) hl e1
  rw [← a, ← b]
