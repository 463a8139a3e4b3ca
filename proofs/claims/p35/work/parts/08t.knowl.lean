/-! All of it, as the law's loop carries it. -/
def TieH (u v : SX) : Prop := TieK u v ∧ SL u
theorem TieH_0 : TieH uX uM := ⟨TieK_0, fun i j _ hj => by
  have hj : (j : Int) < 0 := hj
  omega, fun i hi => by
  have hi : (i : Int) < 0 := hi
  omega⟩
theorem TieH_fr {u u' v v' : SX} {mx mm : MD} (hx : FrM mx u u') (hm : FrM mm v v') (c : (([35, 36, 37, 38, 39].all (fun k => !mx.1.contains k)) && (([59, 60, 61, 62, 63, 64, 65, 66, 67].all (fun k => !mx.2.1.contains k)) && ((!mx.2.2.1.contains 0) && (([68, 69, 70].all (fun k => !mx.2.2.2.contains k)) && (([22, 23, 24, 25].all (fun k => !mm.1.contains k)) && [35, 36, 37, 38, 39, 40, 41].all (fun k => !mm.2.1.contains k)))))) = true) (c2 : ((!mx.1.contains 38) && ((!mx.1.contains 0) && !mx.2.1.contains 62)) = true) (h : TieH u v) : TieH u' v' := ⟨TieK_fr hx hm c h.1, SL_39 hx c2 h.2⟩
theorem daysH {u u' v v' : SX} {x1 r : Int32} (hI : IX u) (hx : FrM mdX11_days_0 u u') (hm : FrM mdX12_days_0 v v') (h1 : fX11_days_0 x1 u = some (r, u')) (h : TieH u v) : TieH u' v' := by
  refine ⟨TieK_fr hx hm (by decide) h.1, ?_⟩
  have up : (u.1 0).toInt ≤ (u'.1 0).toInt := by
    unfold fX11_days_0 at h1
    obtain ⟨q1, a1, h1⟩ := bd_some h1
    have b0 : (0 : Int) ≤ (u.1 0).toInt := (hI.1 0).1
    have b9 : (u.1 0).toInt ≤ (120 : Int) := (hI.1 0).2
    rcases win a1 with ⟨z, -⟩ | ⟨z, w0, w9⟩
    · rw [if_pos z] at h1
      cases h1
      exact Int.le_refl _
    · rw [if_neg (ne01 z)] at h1
      have w0 : (0 : Int) ≤ x1.toInt := w0
      have w9 : x1.toInt ≤ (60 : Int) := w9
      by_cases c : u.1 0 + x1 ≤ 120
      · rw [if_pos c] at h1
        obtain ⟨u4, e4, h1⟩ := lt_some h1
        have e : u4 = u' := by cases h1; rfl
        have e1 : u'.1 0 = u.1 0 + x1 := by
          rw [← e, e4]
          rfl
        rw [e1, add_t (by omega) (by omega)]
        omega
      · rw [if_neg c] at h1
        cases h1
        exact Int.le_refl _
  obtain ⟨a, b⟩ := h.2
  unfold SL
  rw [hx.1 38 (by decide), hx.2.1 62 (by decide)]
  exact ⟨a, fun i hi => Int.le_trans (b i hi) up⟩
theorem houseH {r r' : Int32} {u u' v v' : SX} (hI : IX u) (hJ : IM v) (hx : FrM mdX11_house_0 u u') (h : TieH u v) (h1 : fX11_house_0 u = some (r, u')) (h2 : fX12_house_0 v = some (r', v')) : TieH u' v' := ⟨houseK hI hJ h.1 h1 h2, SL_39 hx (by decide) h.2⟩
theorem letterH {x1 x2 r r' : Int32} {u u' v v' : SX} (hI : IX u) (hJ : IM v) (ht : Tie u v) (hx : FrM mdX11_letter_0 u u') (h : TieH u v) (er : r = r') (h1 : fX11_letter_0 x1 x2 u = some (r, u')) (h2 : fX12_letter_0 x1 x2 v = some (r', v')) : TieH u' v' := by
  refine ⟨letterK hI hJ ht h.1 er h1 h2, ?_⟩
  rcases letterX h1 with ⟨-, e1⟩ | ⟨-, c1, s, g1⟩
  · rw [e1]
    exact h.2
  · obtain ⟨-, w38, -, -, -, -, w62, -⟩ := sendX c1 g1
    have b38 : (0 : Int) ≤ (u.1 38).toInt := (hI.1 38).1
    have c38 : (u.1 38).toInt < (60 : Int) := ltI c1
    have tc := tn b38
    have ts : (u.1 38 + 1).toInt = (u.1 38).toInt + 1 := addc_t (by decide) (by omega) (by omega)
    obtain ⟨a, b⟩ := h.2
    unfold SL
    rw [w38, w62, ts, hx.1 0 (by decide)]
    refine ⟨fun i j hij hj => ?_, fun i hi => ?_⟩
    · by_cases cj : j = (u.1 38).toNatClampNeg
      · rw [cj, upd_at, upd_ne (by omega)]
        exact b i (by omega)
      · rw [upd_ne cj, upd_ne (by omega)]
        exact a i j hij (by omega)
    · by_cases ci : i = (u.1 38).toNatClampNeg
      · rw [ci, upd_at]
        exact Int.le_refl _
      · rw [upd_ne ci]
        exact b i (by omega)
theorem printH {x1 x2 x3 x4 r r' : Int32} {u u' v v' : SX} (hI : IX u) (hJ : IM v) (ht : Tie u v) (hR : TieR u v) (hx : FrM mdX11_print_0 u u') (h : TieH u v) (er : r = r') (h1 : fX11_print_0 x1 x2 x3 x4 u = some (r, u')) (h2 : fX12_print_0 x1 x2 x3 x4 v = some (r', v')) : TieH u' v' := ⟨printK hI hJ ht hR h.1 er h1 h2, SL_39 hx (by decide) h.2⟩
theorem knowsH {x1 x2 x3 x4 r r' : Int32} {u u' v v' : SX} (hI : IX u) (hJ : IM v) (ht : Tie u v) (hx : FrM mdX11_knows_0 u u') (hm : FrM mdX12_knows_0 v v') (h : TieH u v) (h1 : fX11_knows_0 x1 x2 x3 x4 u = some (r, u')) (h2 : fX12_knows_0 x1 x2 x3 x4 v = some (r', v')) : r = r' ∧ TieH u' v' := by
  obtain ⟨e, k⟩ := knows_eq hI hJ ht h.1 h1 h2
  exact ⟨e, TieK_fr (mx := ([], [], [], [])) FrM_rf hm (by decide) k, SL_39 hx (by decide) h.2⟩
theorem metH {r r' : Int32} {u u' v v' : SX} (hI : IX u) (hJ : IM v) (ht : Tie u v) (hR : TieR u v) (hx : FrM mdX11_met_0 u u') (hm : FrM mdX12_met_0 v v') (h : TieH u v) (h1 : fX11_met_0 u = some (r, u')) (h2 : fX12_met_0 v = some (r', v')) : r = r' ∧ TieH u' v' := by
  obtain ⟨e, k⟩ := met_eq hI hJ ht hR h.1 h1 h2
  exact ⟨e, TieK_fr (mx := ([], [], [], [])) FrM_rf hm (by decide) k, SL_39 hx (by decide) h.2⟩
theorem soonerH {x1 r r' : Int32} {u u' v v' : SX} (hI : IX u) (hJ : IM v) (ht : Tie u v) (hR : TieR u v) (h : TieH u v) (h1 : fX11_sooner_0 x1 u = some (r, u')) (h2 : fX12_sooner_0 x1 v = some (r', v')) : r = r' ∧ TieH u' v' := by
  obtain ⟨e, k, l⟩ := sooner_eq hI hJ ht hR h.1 h.2 h1 h2
  exact ⟨e, k, l⟩
/-- text leaves all of this -/
theorem TieH_tx {u uA v v' : SX} {mm : MD} (hx1 : ∀ k, mdT.1.contains k = false → uA.1 k = u.1 k) (hx2 : ∀ k, mdT.2.1.contains k = false → uA.2.1 k = u.2.1 k) (hx3 : (∀ k, uA.2.2.1 k = u.2.2.1 k) ∧ ∀ k, uA.2.2.2.1 k = u.2.2.2.1 k) (hm : FrM mm v v') (c : (([22, 23, 24, 25].all (fun k => !mm.1.contains k)) && [35, 36, 37, 38, 39, 40, 41].all (fun k => !mm.2.1.contains k)) = true) (h : TieH u v) : TieH uA v' := by
  have hF : FrM mdT u (uA.1, uA.2.1, uA.2.2.1, uA.2.2.2.1, u.2.2.2.2) := ⟨hx1, hx2, fun k _ => hx3.1 k, fun k _ => hx3.2 k, rfl⟩
  have hh : TieH (uA.1, uA.2.1, uA.2.2.1, uA.2.2.2.1, u.2.2.2.2) v' := TieH_fr hF hm (by
    simp only [Bool.and_eq_true] at c ⊢
    exact ⟨by decide, by decide, by decide, by decide, c⟩) (by decide) h
  obtain ⟨⟨⟨k1, k2, k3⟩, kb, kc, km⟩, l⟩ := hh
  exact ⟨⟨⟨k1, k2, k3⟩, kb, kc, km⟩, l⟩
