set_option maxHeartbeats 4000000 in
set_option maxRecDepth 100000 in
theorem case_30 {p : Program} {e : Env} {s : State} {m : MethodId} {below : List Frame} {meth : Method} {c : Code} (l : Launch) (hfl : l.stackTraces = false) {b L : Nat} {xs : Nat → Int32} {D : va_G} {cy : Nat → ClassId} {st aM : Nat → Nat} {o x0 : Nat} {aX : Nat → Nat} {u v : SX} {f : Nat → Int64} {H : Heap} {locs : List Loc} {ls : Array Slot} {i : Int32} {cells slots : Nat} {Q : State → Prop} (F : LF p s m meth c b L xs D cy st aM o) (I : LI s D cy st aM o x0 aX u v f H locs) (hi0 : 0 ≤ i.toInt) (hi9 : i.toInt + 9 ≤ (L : Int)) (hcl : cells + 2 ≤ room_1.cells) (hsl : slots + 122 ≤ room_1.slots) (hl : lv_has ls 7 [(0, .ref b), (1, .ref x0), (2, .ref (aM 0)), (3, .ref o), (4, .int i)]) (kk : ∀ (aX : Nat → Nat) (u v : SX) (f : Nat → Int64) (H : Heap) (locs : List Loc) (ls : Array Slot), LI s D cy st aM o x0 aX u v f H locs → lv_has ls 7 [(0, .ref b), (1, .ref x0), (2, .ref (aM 0)), (3, .ref o), (4, .int i)] → W p l e room_1 s m #[Value.ref b] below meth c H locs (cells + 2) (slots + 122) Q (F0 m 1930 ls [])) : W p l e room_1 s m #[Value.ref b] below meth c H locs cells slots Q (F0 m 1691 ls []) := by
  obtain ⟨C0, hL, hK, hJM, hAM, hoM, hso, hst, hE, hCL⟩ := F
  obtain ⟨hx, hb, hr, hml, hown, hts0, hX, hbl, hlocks, hgv⟩ := C0
  obtain ⟨hx0, hJX, hAX, hdis, hoX, hPX, hPM, hPo, hS, hIX, hIM, hEv, htie, hrow, htape, hcnt, hpar⟩ := I
  have hts : ∀ w ∈ wsL_law, w.before #[Value.ref b] s = true := fun w h => hts0 w (wsL_law_in w h)
  have hbA : ¬ (fun q : Nat => s.heap.size ≤ q) b := Nat.not_le.mpr hbl
  have hA0 : ∀ q, (fun q : Nat => s.heap.size ≤ q) q → st 100 ≤ q := fun q h => by rw [hst]; exact h
  have hfit : cells ≤ room_1.cells ∧ slots ≤ room_1.slots := ⟨Nat.le_trans (Nat.le_add_right _ _) hcl, Nat.le_trans (Nat.le_add_right _ _) hsl⟩
  subst hx0
  obtain ⟨y1, hy1⟩ : ∃ y, xs (i + 1).toNatClampNeg = y := ⟨_, rfl⟩
  have hin1 : vp_in (i + 1) L := in9 (show (1 : Int32).toInt = 1 by decide) hi0 hi9 hL (by decide) (by decide)
  obtain ⟨y2, hy2⟩ : ∃ y, xs (i + 2).toNatClampNeg = y := ⟨_, rfl⟩
  have hin2 : vp_in (i + 2) L := in9 (show (2 : Int32).toInt = 2 by decide) hi0 hi9 hL (by decide) (by decide)
  refine lv_aload_n hx hb dL_law_1691 rfl (lv_at hl 1 rfl) ?_
  refine lv_aload_n hx hb dL_law_1692 rfl (lv_at hl 0 rfl) ?_
  refine lv_iload hx hb dL_law_1693 (lv_at hl 4 rfl) ?_
  refine lv_iconst (v := 1) hx hb dL_law_1695 (by decide) ?_
  refine lv_iadd hx hb dL_law_1696 ?_
  refine sld9 (v := y1) hx hb hX hbl hbA hS hin1 hy1 dL_law_1697 ?_
  refine lv_aload_n hx hb dL_law_1698 rfl (lv_at hl 0 rfl) ?_
  refine lv_iload hx hb dL_law_1699 (lv_at hl 4 rfl) ?_
  refine lv_iconst (v := 2) hx hb dL_law_1701 (by decide) ?_
  refine lv_iadd hx hb dL_law_1702 ?_
  refine sld9 (v := y2) hx hb hX hbl hbA hS hin2 hy2 dL_law_1703 ?_
  obtain ⟨⟨r, uA⟩, hfX, hqX⟩ := tfX11_letter_0 y1 y2 u hIX
  refine lg_i (V := VX cy aX st) (Ad := AX aX) (As := [.int y1, .int y2]) (rest := []) ⟨hx, hb, hml, hown, fun w h => hts0 w (gw_X11_letter w h)⟩ hA0 hK hPX hS (fun q h => h.elim (hAX q) (fun z => Nat.le_trans hS.1 z)) (metX11_letter_0 l D cy aX st hJX H.size y1 y2 hfX) (cwV 2 (fun w h => hts0 w (gw_X11_letter w h)) gx_X11_letter rfl rfl rfl (by decide +kernel) ⟨Nat.le_of_ble_eq_true rfl, Nat.le_of_ble_eq_true rfl⟩) 0 11 rfl rfl rfl hl.1 rfl (Nat.le_of_ble_eq_true rfl) dL_law_1704 hfit (fun H1 locs1 hP1 hkeep hS1 => ?_)
  have hPM1 := hkeep _ hPM (fun k q hq => hdis _ (VM_mem hq))
  have hPo1 := hkeep _ hPo (fun k q hq => by rw [oat hq]; exact hoX)
  have hIX1 : IX uA := hqX.1.1
  have hFX := hqX.1.2
  have hfrX := hqX.1.2.1
  have hrwX := hqX.1.2.2.1
  clear hPX hPM hPo hS hkeep
  have hPX := hP1
  have hPM := hPM1
  have hPo := hPo1
  have hS := hS1
  clear hP1 hPM1 hPo1 hS1 hqX
  generalize H1 = H at hPX hPo hPM hS ⊢
  generalize locs1 = locs at hS ⊢
  refine lv_pop hx hb dL_law_1707 rfl ?_
  refine lv_aload_n hx hb dL_law_1708 rfl (lv_at hl 2 rfl) ?_
  refine lv_aload_n hx hb dL_law_1709 rfl (lv_at hl 0 rfl) ?_
  refine lv_iload hx hb dL_law_1710 (lv_at hl 4 rfl) ?_
  refine lv_iconst (v := 1) hx hb dL_law_1712 (by decide) ?_
  refine lv_iadd hx hb dL_law_1713 ?_
  refine sld9 (v := y1) hx hb hX hbl hbA hS hin1 hy1 dL_law_1714 ?_
  refine lv_aload_n hx hb dL_law_1715 rfl (lv_at hl 0 rfl) ?_
  refine lv_iload hx hb dL_law_1716 (lv_at hl 4 rfl) ?_
  refine lv_iconst (v := 2) hx hb dL_law_1718 (by decide) ?_
  refine lv_iadd hx hb dL_law_1719 ?_
  refine sld9 (v := y2) hx hb hX hbl hbA hS hin2 hy2 dL_law_1720 ?_
  obtain ⟨⟨rM, vA⟩, hfM, hqM⟩ := tfX12_letter_0 y1 y2 v hIM
  refine lg_i (V := VM cy aM st) (Ad := AM aM) (As := [.int y1, .int y2]) (rest := []) ⟨hx, hb, hml, hown, fun w h => hts0 w (gw_X12_letter w h)⟩ hA0 hK hPM hS (fun q h => h.elim (hAM q) (fun z => Nat.le_trans hS.1 z)) (metX12_letter_0 l D cy aM st hJM H.size y1 y2 hfM) (cwV 2 (fun w h => hts0 w (gw_X12_letter w h)) gx_X12_letter rfl rfl rfl (by decide +kernel) ⟨Nat.le_of_ble_eq_true rfl, Nat.le_of_ble_eq_true rfl⟩) 0 12 rfl rfl rfl hl.1 rfl (Nat.le_of_ble_eq_true rfl) dL_law_1721 hfit (fun H1 locs1 hP1 hkeep hS1 => ?_)
  have hPX1 := hkeep _ hPX (fun k q hq hz => hdis _ hz ⟨k, (VX_adr hq).1⟩)
  have hPo1 := hkeep _ hPo (fun k q hq => by rw [oat hq]; exact hoM)
  have hEv1 : EvM vA := EvM_fr (hqM.1.2.1 13 (by decide)) (hqM.1.2.1 14 (by decide)) (hqM.1.2.1 21 (by decide)) (hqM.1.2.2.1 33 (by decide)) hEv
  obtain ⟨er, htie1⟩ := letter_eq hIX hIM htie hfX hfM
  have hrow1 : TieR uA vA := TieR_fr (hfrX 36 (by decide)) (hrwX 63 (by decide)) (hrwX 64 (by decide)) (hrwX 65 (by decide)) (hqM.1.2.2.1 36 (by decide)) (hqM.1.2.2.1 37 (by decide)) (hqM.1.2.2.1 38 (by decide)) hrow
  have htape1 : TieT uA vA := TieT_fr (hfrX 1 (by decide)) (hrwX 13 (by decide)) (hqM.1.2.1 3 (by decide)) (hqM.1.2.2.1 1 (by decide)) htape
  have hcnt1 : TieC uA vA := TieC_fr (hfrX 5 (by decide)) (hfrX 6 (by decide)) (hfrX 7 (by decide)) (hqM.1.2.2.1 4 (by decide)) hcnt
  have hpar1 : TieP uA vA := TieP_fr (hfrX 8 (by decide)) (hfrX 29 (by decide)) (hfrX 9 (by decide)) (hfrX 0 (by decide)) (hrwX 52 (by decide)) (hqM.1.2.1 12 (by decide)) (hqM.1.2.1 21 (by decide)) (hqM.1.2.1 14 (by decide)) (hqM.1.2.2.1 33 (by decide)) hpar
  have hIM1 : IM vA := hqM.1.1
  clear hPX hPM hPo hS hIM hEv htie hrow htape hcnt hpar hkeep hfrX hrwX hIX
  have hPX := hPX1
  have hPM := hP1
  have hPo := hPo1
  have hS := hS1
  have hIM := hIM1
  have hEv := hEv1
  have htie := htie1
  have hrow := hrow1
  have htape := htape1
  have hcnt := hcnt1
  have hpar := hpar1
  have hIX := hIX1
  clear hIX1
  clear hP1 hPX1 hPo1 hS1 hIM1 hEv1 htie1 hrow1 htape1 hcnt1 hpar1 hqM
  generalize H1 = H at hPX hPo hPM hS ⊢
  generalize locs1 = locs at hS ⊢
  refine lv_pop hx hb dL_law_1724 rfl ?_
  refine lv_goto (tgt := 1930) hx hb dL_law_1725 (by decide) ?_
  refine W.widen (k := cells + 2) (n := slots + 122) (Nat.le_add_right _ _) (Nat.le_add_right _ _) ?_
  exact kk aX uA vA f H locs ls ⟨rfl, hJX, hAX, hdis, hoX, hPX, hPM, hPo, hS, hIX, hIM, hEv, htie, hrow, htape, hcnt, hpar⟩ hl
set_option maxHeartbeats 4000000 in
set_option maxRecDepth 100000 in
theorem case_31 {p : Program} {e : Env} {s : State} {m : MethodId} {below : List Frame} {meth : Method} {c : Code} (l : Launch) (hfl : l.stackTraces = false) {b L : Nat} {xs : Nat → Int32} {D : va_G} {cy : Nat → ClassId} {st aM : Nat → Nat} {o x0 : Nat} {aX : Nat → Nat} {u v : SX} {f : Nat → Int64} {H : Heap} {locs : List Loc} {ls : Array Slot} {i : Int32} {cells slots : Nat} {Q : State → Prop} (F : LF p s m meth c b L xs D cy st aM o) (I : LI s D cy st aM o x0 aX u v f H locs) (hi0 : 0 ≤ i.toInt) (hi9 : i.toInt + 9 ≤ (L : Int)) (hcl : cells + 2 ≤ room_1.cells) (hsl : slots + 122 ≤ room_1.slots) (hl : lv_has ls 7 [(0, .ref b), (1, .ref x0), (2, .ref (aM 0)), (3, .ref o), (4, .int i)]) (kk : ∀ (aX : Nat → Nat) (u v : SX) (f : Nat → Int64) (H : Heap) (locs : List Loc) (ls : Array Slot), LI s D cy st aM o x0 aX u v f H locs → lv_has ls 7 [(0, .ref b), (1, .ref x0), (2, .ref (aM 0)), (3, .ref o), (4, .int i)] → W p l e room_1 s m #[Value.ref b] below meth c H locs (cells + 2) (slots + 122) Q (F0 m 1930 ls [])) : W p l e room_1 s m #[Value.ref b] below meth c H locs cells slots Q (F0 m 1728 ls []) := by
  obtain ⟨C0, hL, hK, hJM, hAM, hoM, hso, hst, hE, hCL⟩ := F
  obtain ⟨hx, hb, hr, hml, hown, hts0, hX, hbl, hlocks, hgv⟩ := C0
  obtain ⟨hx0, hJX, hAX, hdis, hoX, hPX, hPM, hPo, hS, hIX, hIM, hEv, htie, hrow, htape, hcnt, hpar⟩ := I
  have hts : ∀ w ∈ wsL_law, w.before #[Value.ref b] s = true := fun w h => hts0 w (wsL_law_in w h)
  have hbA : ¬ (fun q : Nat => s.heap.size ≤ q) b := Nat.not_le.mpr hbl
  have hA0 : ∀ q, (fun q : Nat => s.heap.size ≤ q) q → st 100 ≤ q := fun q h => by rw [hst]; exact h
  have hfit : cells ≤ room_1.cells ∧ slots ≤ room_1.slots := ⟨Nat.le_trans (Nat.le_add_right _ _) hcl, Nat.le_trans (Nat.le_add_right _ _) hsl⟩
  subst hx0
  obtain ⟨y1, hy1⟩ : ∃ y, xs (i + 1).toNatClampNeg = y := ⟨_, rfl⟩
  have hin1 : vp_in (i + 1) L := in9 (show (1 : Int32).toInt = 1 by decide) hi0 hi9 hL (by decide) (by decide)
  obtain ⟨y2, hy2⟩ : ∃ y, xs (i + 2).toNatClampNeg = y := ⟨_, rfl⟩
  have hin2 : vp_in (i + 2) L := in9 (show (2 : Int32).toInt = 2 by decide) hi0 hi9 hL (by decide) (by decide)
  obtain ⟨y3, hy3⟩ : ∃ y, xs (i + 3).toNatClampNeg = y := ⟨_, rfl⟩
  have hin3 : vp_in (i + 3) L := in9 (show (3 : Int32).toInt = 3 by decide) hi0 hi9 hL (by decide) (by decide)
  obtain ⟨y4, hy4⟩ : ∃ y, xs (i + 4).toNatClampNeg = y := ⟨_, rfl⟩
  have hin4 : vp_in (i + 4) L := in9 (show (4 : Int32).toInt = 4 by decide) hi0 hi9 hL (by decide) (by decide)
  refine lv_aload_n hx hb dL_law_1728 rfl (lv_at hl 1 rfl) ?_
  refine lv_aload_n hx hb dL_law_1729 rfl (lv_at hl 0 rfl) ?_
  refine lv_iload hx hb dL_law_1730 (lv_at hl 4 rfl) ?_
  refine lv_iconst (v := 1) hx hb dL_law_1732 (by decide) ?_
  refine lv_iadd hx hb dL_law_1733 ?_
  refine sld9 (v := y1) hx hb hX hbl hbA hS hin1 hy1 dL_law_1734 ?_
  refine lv_aload_n hx hb dL_law_1735 rfl (lv_at hl 0 rfl) ?_
  refine lv_iload hx hb dL_law_1736 (lv_at hl 4 rfl) ?_
  refine lv_iconst (v := 2) hx hb dL_law_1738 (by decide) ?_
  refine lv_iadd hx hb dL_law_1739 ?_
  refine sld9 (v := y2) hx hb hX hbl hbA hS hin2 hy2 dL_law_1740 ?_
  refine lv_if_eq (tgt := 1748) hx hb dL_law_1741 (by decide) (fun c1 => ?_) (fun c1 => ?_)
  · refine lv_iconst (v := 0) hx hb dL_law_1748 (by decide) ?_
    refine lv_aload_n hx hb dL_law_1749 rfl (lv_at hl 0 rfl) ?_
    refine lv_iload hx hb dL_law_1750 (lv_at hl 4 rfl) ?_
    refine lv_iconst (v := 3) hx hb dL_law_1752 (by decide) ?_
    refine lv_iadd hx hb dL_law_1753 ?_
    refine sld9 (v := y3) hx hb hX hbl hbA hS hin3 hy3 dL_law_1754 ?_
    refine lv_aload_n hx hb dL_law_1755 rfl (lv_at hl 0 rfl) ?_
    refine lv_iload hx hb dL_law_1756 (lv_at hl 4 rfl) ?_
    refine lv_iconst (v := 4) hx hb dL_law_1758 (by decide) ?_
    refine lv_iadd hx hb dL_law_1759 ?_
    refine sld9 (v := y4) hx hb hX hbl hbA hS hin4 hy4 dL_law_1760 ?_
    obtain ⟨⟨r, uA⟩, hfX, hqX⟩ := tfX11_knows_0 y1 0 y3 y4 u hIX (by decide)
    refine lg_i (V := VX cy aX st) (Ad := AX aX) (As := [.int y1, .int 0, .int y3, .int y4]) (rest := []) ⟨hx, hb, hml, hown, fun w h => hts0 w (gw_X11_knows w h)⟩ hA0 hK hPX hS (fun q h => h.elim (hAX q) (fun z => Nat.le_trans hS.1 z)) (metX11_knows_0 l D cy aX st hJX H.size y1 0 y3 y4 hfX) (cwV 4 (fun w h => hts0 w (gw_X11_knows w h)) gx_X11_knows rfl rfl rfl (by decide +kernel) ⟨Nat.le_of_ble_eq_true rfl, Nat.le_of_ble_eq_true rfl⟩) 0 11 rfl rfl rfl hl.1 rfl (Nat.le_of_ble_eq_true rfl) dL_law_1761 hfit (fun H1 locs1 hP1 hkeep hS1 => ?_)
    have hPM1 := hkeep _ hPM (fun k q hq => hdis _ (VM_mem hq))
    have hPo1 := hkeep _ hPo (fun k q hq => by rw [oat hq]; exact hoX)
    have hIX1 : IX uA := hqX.1.1
    have hFX := hqX.1.2
    have hfrX := hqX.1.2.1
    have hrwX := hqX.1.2.2.1
    clear hPX hPM hPo hS hkeep
    have hPX := hP1
    have hPM := hPM1
    have hPo := hPo1
    have hS := hS1
    clear hP1 hPM1 hPo1 hS1 hqX
    generalize H1 = H at hPX hPo hPM hS ⊢
    generalize locs1 = locs at hS ⊢
    refine lv_pop hx hb dL_law_1764 rfl ?_
    refine lv_aload_n hx hb dL_law_1765 rfl (lv_at hl 2 rfl) ?_
    refine lv_aload_n hx hb dL_law_1766 rfl (lv_at hl 0 rfl) ?_
    refine lv_iload hx hb dL_law_1767 (lv_at hl 4 rfl) ?_
    refine lv_iconst (v := 1) hx hb dL_law_1769 (by decide) ?_
    refine lv_iadd hx hb dL_law_1770 ?_
    refine sld9 (v := y1) hx hb hX hbl hbA hS hin1 hy1 dL_law_1771 ?_
    refine lv_aload_n hx hb dL_law_1772 rfl (lv_at hl 0 rfl) ?_
    refine lv_iload hx hb dL_law_1773 (lv_at hl 4 rfl) ?_
    refine lv_iconst (v := 2) hx hb dL_law_1775 (by decide) ?_
    refine lv_iadd hx hb dL_law_1776 ?_
    refine sld9 (v := y2) hx hb hX hbl hbA hS hin2 hy2 dL_law_1777 ?_
    refine lv_if_eq (tgt := 1785) hx hb dL_law_1778 (by decide) (fun _ => ?_) (fun h => absurd c1 h)
    refine lv_iconst (v := 0) hx hb dL_law_1785 (by decide) ?_
    refine lv_aload_n hx hb dL_law_1786 rfl (lv_at hl 0 rfl) ?_
    refine lv_iload hx hb dL_law_1787 (lv_at hl 4 rfl) ?_
    refine lv_iconst (v := 3) hx hb dL_law_1789 (by decide) ?_
    refine lv_iadd hx hb dL_law_1790 ?_
    refine sld9 (v := y3) hx hb hX hbl hbA hS hin3 hy3 dL_law_1791 ?_
    refine lv_aload_n hx hb dL_law_1792 rfl (lv_at hl 0 rfl) ?_
    refine lv_iload hx hb dL_law_1793 (lv_at hl 4 rfl) ?_
    refine lv_iconst (v := 4) hx hb dL_law_1795 (by decide) ?_
    refine lv_iadd hx hb dL_law_1796 ?_
    refine sld9 (v := y4) hx hb hX hbl hbA hS hin4 hy4 dL_law_1797 ?_
    obtain ⟨⟨rM, vA⟩, hfM, hqM⟩ := tfX12_knows_0 y1 0 y3 y4 v hIM (by decide)
    refine lg_i (V := VM cy aM st) (Ad := AM aM) (As := [.int y1, .int 0, .int y3, .int y4]) (rest := []) ⟨hx, hb, hml, hown, fun w h => hts0 w (gw_X12_knows w h)⟩ hA0 hK hPM hS (fun q h => h.elim (hAM q) (fun z => Nat.le_trans hS.1 z)) (metX12_knows_0 l D cy aM st hJM H.size y1 0 y3 y4 hfM) (cwV 4 (fun w h => hts0 w (gw_X12_knows w h)) gx_X12_knows rfl rfl rfl (by decide +kernel) ⟨Nat.le_of_ble_eq_true rfl, Nat.le_of_ble_eq_true rfl⟩) 0 12 rfl rfl rfl hl.1 rfl (Nat.le_of_ble_eq_true rfl) dL_law_1798 hfit (fun H1 locs1 hP1 hkeep hS1 => ?_)
    have hPX1 := hkeep _ hPX (fun k q hq hz => hdis _ hz ⟨k, (VX_adr hq).1⟩)
    have hPo1 := hkeep _ hPo (fun k q hq => by rw [oat hq]; exact hoM)
    have hEv1 : EvM vA := EvM_fr (hqM.1.2.1 13 (by decide)) (hqM.1.2.1 14 (by decide)) (hqM.1.2.1 21 (by decide)) (hqM.1.2.2.1 33 (by decide)) hEv
    have htie1 : Tie uA vA := Tie_fr hfrX hqM.1.2.1 (by decide) htie
    have hrow1 : TieR uA vA := TieR_fr (hfrX 36 (by decide)) (hrwX 63 (by decide)) (hrwX 64 (by decide)) (hrwX 65 (by decide)) (hqM.1.2.2.1 36 (by decide)) (hqM.1.2.2.1 37 (by decide)) (hqM.1.2.2.1 38 (by decide)) hrow
    have htape1 : TieT uA vA := TieT_fr (hfrX 1 (by decide)) (hrwX 13 (by decide)) (hqM.1.2.1 3 (by decide)) (hqM.1.2.2.1 1 (by decide)) htape
    have hcnt1 : TieC uA vA := TieC_fr (hfrX 5 (by decide)) (hfrX 6 (by decide)) (hfrX 7 (by decide)) (hqM.1.2.2.1 4 (by decide)) hcnt
    have hpar1 : TieP uA vA := TieP_fr (hfrX 8 (by decide)) (hfrX 29 (by decide)) (hfrX 9 (by decide)) (hfrX 0 (by decide)) (hrwX 52 (by decide)) (hqM.1.2.1 12 (by decide)) (hqM.1.2.1 21 (by decide)) (hqM.1.2.1 14 (by decide)) (hqM.1.2.2.1 33 (by decide)) hpar
    have hIM1 : IM vA := hqM.1.1
    clear hPX hPM hPo hS hIM hEv htie hrow htape hcnt hpar hkeep hfrX hrwX hIX
    have hPX := hPX1
    have hPM := hP1
    have hPo := hPo1
    have hS := hS1
    have hIM := hIM1
    have hEv := hEv1
    have htie := htie1
    have hrow := hrow1
    have htape := htape1
    have hcnt := hcnt1
    have hpar := hpar1
    have hIX := hIX1
    clear hIX1
    clear hP1 hPX1 hPo1 hS1 hIM1 hEv1 htie1 hrow1 htape1 hcnt1 hpar1 hqM
    generalize H1 = H at hPX hPo hPM hS ⊢
    generalize locs1 = locs at hS ⊢
    refine lv_pop hx hb dL_law_1801 rfl ?_
    refine lv_goto (tgt := 1930) hx hb dL_law_1802 (by decide) ?_
    refine W.widen (k := cells + 2) (n := slots + 122) (Nat.le_add_right _ _) (Nat.le_add_right _ _) ?_
    exact kk aX uA vA f H locs ls ⟨rfl, hJX, hAX, hdis, hoX, hPX, hPM, hPo, hS, hIX, hIM, hEv, htie, hrow, htape, hcnt, hpar⟩ hl
  · refine lv_iconst (v := 1) hx hb dL_law_1744 (by decide) ?_
    refine lv_goto (tgt := 1749) hx hb dL_law_1745 (by decide) ?_
    refine lv_aload_n hx hb dL_law_1749 rfl (lv_at hl 0 rfl) ?_
    refine lv_iload hx hb dL_law_1750 (lv_at hl 4 rfl) ?_
    refine lv_iconst (v := 3) hx hb dL_law_1752 (by decide) ?_
    refine lv_iadd hx hb dL_law_1753 ?_
    refine sld9 (v := y3) hx hb hX hbl hbA hS hin3 hy3 dL_law_1754 ?_
    refine lv_aload_n hx hb dL_law_1755 rfl (lv_at hl 0 rfl) ?_
    refine lv_iload hx hb dL_law_1756 (lv_at hl 4 rfl) ?_
    refine lv_iconst (v := 4) hx hb dL_law_1758 (by decide) ?_
    refine lv_iadd hx hb dL_law_1759 ?_
    refine sld9 (v := y4) hx hb hX hbl hbA hS hin4 hy4 dL_law_1760 ?_
    obtain ⟨⟨r, uA⟩, hfX, hqX⟩ := tfX11_knows_0 y1 1 y3 y4 u hIX (by decide)
    refine lg_i (V := VX cy aX st) (Ad := AX aX) (As := [.int y1, .int 1, .int y3, .int y4]) (rest := []) ⟨hx, hb, hml, hown, fun w h => hts0 w (gw_X11_knows w h)⟩ hA0 hK hPX hS (fun q h => h.elim (hAX q) (fun z => Nat.le_trans hS.1 z)) (metX11_knows_0 l D cy aX st hJX H.size y1 1 y3 y4 hfX) (cwV 4 (fun w h => hts0 w (gw_X11_knows w h)) gx_X11_knows rfl rfl rfl (by decide +kernel) ⟨Nat.le_of_ble_eq_true rfl, Nat.le_of_ble_eq_true rfl⟩) 0 11 rfl rfl rfl hl.1 rfl (Nat.le_of_ble_eq_true rfl) dL_law_1761 hfit (fun H1 locs1 hP1 hkeep hS1 => ?_)
    have hPM1 := hkeep _ hPM (fun k q hq => hdis _ (VM_mem hq))
    have hPo1 := hkeep _ hPo (fun k q hq => by rw [oat hq]; exact hoX)
    have hIX1 : IX uA := hqX.1.1
    have hFX := hqX.1.2
    have hfrX := hqX.1.2.1
    have hrwX := hqX.1.2.2.1
    clear hPX hPM hPo hS hkeep
    have hPX := hP1
    have hPM := hPM1
    have hPo := hPo1
    have hS := hS1
    clear hP1 hPM1 hPo1 hS1 hqX
    generalize H1 = H at hPX hPo hPM hS ⊢
    generalize locs1 = locs at hS ⊢
    refine lv_pop hx hb dL_law_1764 rfl ?_
    refine lv_aload_n hx hb dL_law_1765 rfl (lv_at hl 2 rfl) ?_
    refine lv_aload_n hx hb dL_law_1766 rfl (lv_at hl 0 rfl) ?_
    refine lv_iload hx hb dL_law_1767 (lv_at hl 4 rfl) ?_
    refine lv_iconst (v := 1) hx hb dL_law_1769 (by decide) ?_
    refine lv_iadd hx hb dL_law_1770 ?_
    refine sld9 (v := y1) hx hb hX hbl hbA hS hin1 hy1 dL_law_1771 ?_
    refine lv_aload_n hx hb dL_law_1772 rfl (lv_at hl 0 rfl) ?_
    refine lv_iload hx hb dL_law_1773 (lv_at hl 4 rfl) ?_
    refine lv_iconst (v := 2) hx hb dL_law_1775 (by decide) ?_
    refine lv_iadd hx hb dL_law_1776 ?_
    refine sld9 (v := y2) hx hb hX hbl hbA hS hin2 hy2 dL_law_1777 ?_
    refine lv_if_eq (tgt := 1785) hx hb dL_law_1778 (by decide) (fun h => absurd h c1) (fun _ => ?_)
    refine lv_iconst (v := 1) hx hb dL_law_1781 (by decide) ?_
    refine lv_goto (tgt := 1786) hx hb dL_law_1782 (by decide) ?_
    refine lv_aload_n hx hb dL_law_1786 rfl (lv_at hl 0 rfl) ?_
    refine lv_iload hx hb dL_law_1787 (lv_at hl 4 rfl) ?_
    refine lv_iconst (v := 3) hx hb dL_law_1789 (by decide) ?_
    refine lv_iadd hx hb dL_law_1790 ?_
    refine sld9 (v := y3) hx hb hX hbl hbA hS hin3 hy3 dL_law_1791 ?_
    refine lv_aload_n hx hb dL_law_1792 rfl (lv_at hl 0 rfl) ?_
    refine lv_iload hx hb dL_law_1793 (lv_at hl 4 rfl) ?_
    refine lv_iconst (v := 4) hx hb dL_law_1795 (by decide) ?_
    refine lv_iadd hx hb dL_law_1796 ?_
    refine sld9 (v := y4) hx hb hX hbl hbA hS hin4 hy4 dL_law_1797 ?_
    obtain ⟨⟨rM, vA⟩, hfM, hqM⟩ := tfX12_knows_0 y1 1 y3 y4 v hIM (by decide)
    refine lg_i (V := VM cy aM st) (Ad := AM aM) (As := [.int y1, .int 1, .int y3, .int y4]) (rest := []) ⟨hx, hb, hml, hown, fun w h => hts0 w (gw_X12_knows w h)⟩ hA0 hK hPM hS (fun q h => h.elim (hAM q) (fun z => Nat.le_trans hS.1 z)) (metX12_knows_0 l D cy aM st hJM H.size y1 1 y3 y4 hfM) (cwV 4 (fun w h => hts0 w (gw_X12_knows w h)) gx_X12_knows rfl rfl rfl (by decide +kernel) ⟨Nat.le_of_ble_eq_true rfl, Nat.le_of_ble_eq_true rfl⟩) 0 12 rfl rfl rfl hl.1 rfl (Nat.le_of_ble_eq_true rfl) dL_law_1798 hfit (fun H1 locs1 hP1 hkeep hS1 => ?_)
    have hPX1 := hkeep _ hPX (fun k q hq hz => hdis _ hz ⟨k, (VX_adr hq).1⟩)
    have hPo1 := hkeep _ hPo (fun k q hq => by rw [oat hq]; exact hoM)
    have hEv1 : EvM vA := EvM_fr (hqM.1.2.1 13 (by decide)) (hqM.1.2.1 14 (by decide)) (hqM.1.2.1 21 (by decide)) (hqM.1.2.2.1 33 (by decide)) hEv
    have htie1 : Tie uA vA := Tie_fr hfrX hqM.1.2.1 (by decide) htie
    have hrow1 : TieR uA vA := TieR_fr (hfrX 36 (by decide)) (hrwX 63 (by decide)) (hrwX 64 (by decide)) (hrwX 65 (by decide)) (hqM.1.2.2.1 36 (by decide)) (hqM.1.2.2.1 37 (by decide)) (hqM.1.2.2.1 38 (by decide)) hrow
    have htape1 : TieT uA vA := TieT_fr (hfrX 1 (by decide)) (hrwX 13 (by decide)) (hqM.1.2.1 3 (by decide)) (hqM.1.2.2.1 1 (by decide)) htape
    have hcnt1 : TieC uA vA := TieC_fr (hfrX 5 (by decide)) (hfrX 6 (by decide)) (hfrX 7 (by decide)) (hqM.1.2.2.1 4 (by decide)) hcnt
    have hpar1 : TieP uA vA := TieP_fr (hfrX 8 (by decide)) (hfrX 29 (by decide)) (hfrX 9 (by decide)) (hfrX 0 (by decide)) (hrwX 52 (by decide)) (hqM.1.2.1 12 (by decide)) (hqM.1.2.1 21 (by decide)) (hqM.1.2.1 14 (by decide)) (hqM.1.2.2.1 33 (by decide)) hpar
    have hIM1 : IM vA := hqM.1.1
    clear hPX hPM hPo hS hIM hEv htie hrow htape hcnt hpar hkeep hfrX hrwX hIX
    have hPX := hPX1
    have hPM := hP1
    have hPo := hPo1
    have hS := hS1
    have hIM := hIM1
    have hEv := hEv1
    have htie := htie1
    have hrow := hrow1
    have htape := htape1
    have hcnt := hcnt1
    have hpar := hpar1
    have hIX := hIX1
    clear hIX1
    clear hP1 hPX1 hPo1 hS1 hIM1 hEv1 htie1 hrow1 htape1 hcnt1 hpar1 hqM
    generalize H1 = H at hPX hPo hPM hS ⊢
    generalize locs1 = locs at hS ⊢
    refine lv_pop hx hb dL_law_1801 rfl ?_
    refine lv_goto (tgt := 1930) hx hb dL_law_1802 (by decide) ?_
    refine W.widen (k := cells + 2) (n := slots + 122) (Nat.le_add_right _ _) (Nat.le_add_right _ _) ?_
    exact kk aX uA vA f H locs ls ⟨rfl, hJX, hAX, hdis, hoX, hPX, hPM, hPo, hS, hIX, hIM, hEv, htie, hrow, htape, hcnt, hpar⟩ hl
set_option maxHeartbeats 4000000 in
set_option maxRecDepth 100000 in
theorem case_32 {p : Program} {e : Env} {s : State} {m : MethodId} {below : List Frame} {meth : Method} {c : Code} (l : Launch) (hfl : l.stackTraces = false) {b L : Nat} {xs : Nat → Int32} {D : va_G} {cy : Nat → ClassId} {st aM : Nat → Nat} {o x0 : Nat} {aX : Nat → Nat} {u v : SX} {f : Nat → Int64} {H : Heap} {locs : List Loc} {ls : Array Slot} {i : Int32} {cells slots : Nat} {Q : State → Prop} (F : LF p s m meth c b L xs D cy st aM o) (I : LI s D cy st aM o x0 aX u v f H locs) (hi0 : 0 ≤ i.toInt) (hi9 : i.toInt + 9 ≤ (L : Int)) (hcl : cells + 2 ≤ room_1.cells) (hsl : slots + 122 ≤ room_1.slots) (hl : lv_has ls 7 [(0, .ref b), (1, .ref x0), (2, .ref (aM 0)), (3, .ref o), (4, .int i)]) (kk : ∀ (aX : Nat → Nat) (u v : SX) (f : Nat → Int64) (H : Heap) (locs : List Loc) (ls : Array Slot), LI s D cy st aM o x0 aX u v f H locs → lv_has ls 7 [(0, .ref b), (1, .ref x0), (2, .ref (aM 0)), (3, .ref o), (4, .int i)] → W p l e room_1 s m #[Value.ref b] below meth c H locs (cells + 2) (slots + 122) Q (F0 m 1930 ls [])) : W p l e room_1 s m #[Value.ref b] below meth c H locs cells slots Q (F0 m 1805 ls []) := by
  obtain ⟨C0, hL, hK, hJM, hAM, hoM, hso, hst, hE, hCL⟩ := F
  obtain ⟨hx, hb, hr, hml, hown, hts0, hX, hbl, hlocks, hgv⟩ := C0
  obtain ⟨hx0, hJX, hAX, hdis, hoX, hPX, hPM, hPo, hS, hIX, hIM, hEv, htie, hrow, htape, hcnt, hpar⟩ := I
  have hts : ∀ w ∈ wsL_law, w.before #[Value.ref b] s = true := fun w h => hts0 w (wsL_law_in w h)
  have hbA : ¬ (fun q : Nat => s.heap.size ≤ q) b := Nat.not_le.mpr hbl
  have hA0 : ∀ q, (fun q : Nat => s.heap.size ≤ q) q → st 100 ≤ q := fun q h => by rw [hst]; exact h
  have hfit : cells ≤ room_1.cells ∧ slots ≤ room_1.slots := ⟨Nat.le_trans (Nat.le_add_right _ _) hcl, Nat.le_trans (Nat.le_add_right _ _) hsl⟩
  subst hx0
  refine lv_aload_n hx hb dL_law_1805 rfl (lv_at hl 1 rfl) ?_
  obtain ⟨⟨r, uA⟩, hfX, hqX⟩ := tfX11_met_0  u hIX
  refine lg_i (V := VX cy aX st) (Ad := AX aX) (As := []) (rest := []) ⟨hx, hb, hml, hown, fun w h => hts0 w (gw_X11_met w h)⟩ hA0 hK hPX hS (fun q h => h.elim (hAX q) (fun z => Nat.le_trans hS.1 z)) (metX11_met_0 l D cy aX st hJX H.size  hfX) (cwV 0 (fun w h => hts0 w (gw_X11_met w h)) gx_X11_met rfl rfl rfl (by decide +kernel) ⟨Nat.le_of_ble_eq_true rfl, Nat.le_of_ble_eq_true rfl⟩) 0 11 rfl rfl rfl hl.1 rfl (Nat.le_of_ble_eq_true rfl) dL_law_1806 hfit (fun H1 locs1 hP1 hkeep hS1 => ?_)
  have hPM1 := hkeep _ hPM (fun k q hq => hdis _ (VM_mem hq))
  have hPo1 := hkeep _ hPo (fun k q hq => by rw [oat hq]; exact hoX)
  have hIX1 : IX uA := hqX.1.1
  have hFX := hqX.1.2
  have hfrX := hqX.1.2.1
  have hrwX := hqX.1.2.2.1
  clear hPX hPM hPo hS hkeep
  have hPX := hP1
  have hPM := hPM1
  have hPo := hPo1
  have hS := hS1
  clear hP1 hPM1 hPo1 hS1 hqX
  generalize H1 = H at hPX hPo hPM hS ⊢
  generalize locs1 = locs at hS ⊢
  refine lv_pop hx hb dL_law_1809 rfl ?_
  refine lv_aload_n hx hb dL_law_1810 rfl (lv_at hl 2 rfl) ?_
  obtain ⟨⟨rM, vA⟩, hfM, hqM⟩ := tfX12_met_0  v hIM
  refine lg_i (V := VM cy aM st) (Ad := AM aM) (As := []) (rest := []) ⟨hx, hb, hml, hown, fun w h => hts0 w (gw_X12_met w h)⟩ hA0 hK hPM hS (fun q h => h.elim (hAM q) (fun z => Nat.le_trans hS.1 z)) (metX12_met_0 l D cy aM st hJM H.size  hfM) (cwV 0 (fun w h => hts0 w (gw_X12_met w h)) gx_X12_met rfl rfl rfl (by decide +kernel) ⟨Nat.le_of_ble_eq_true rfl, Nat.le_of_ble_eq_true rfl⟩) 0 12 rfl rfl rfl hl.1 rfl (Nat.le_of_ble_eq_true rfl) dL_law_1811 hfit (fun H1 locs1 hP1 hkeep hS1 => ?_)
  have hPX1 := hkeep _ hPX (fun k q hq hz => hdis _ hz ⟨k, (VX_adr hq).1⟩)
  have hPo1 := hkeep _ hPo (fun k q hq => by rw [oat hq]; exact hoM)
  have hEv1 : EvM vA := EvM_fr (hqM.1.2.1 13 (by decide)) (hqM.1.2.1 14 (by decide)) (hqM.1.2.1 21 (by decide)) (hqM.1.2.2.1 33 (by decide)) hEv
  have htie1 : Tie uA vA := Tie_fr hfrX hqM.1.2.1 (by decide) htie
  have hrow1 : TieR uA vA := TieR_fr (hfrX 36 (by decide)) (hrwX 63 (by decide)) (hrwX 64 (by decide)) (hrwX 65 (by decide)) (hqM.1.2.2.1 36 (by decide)) (hqM.1.2.2.1 37 (by decide)) (hqM.1.2.2.1 38 (by decide)) hrow
  have htape1 : TieT uA vA := TieT_fr (hfrX 1 (by decide)) (hrwX 13 (by decide)) (hqM.1.2.1 3 (by decide)) (hqM.1.2.2.1 1 (by decide)) htape
  have hcnt1 : TieC uA vA := TieC_fr (hfrX 5 (by decide)) (hfrX 6 (by decide)) (hfrX 7 (by decide)) (hqM.1.2.2.1 4 (by decide)) hcnt
  have hpar1 : TieP uA vA := TieP_fr (hfrX 8 (by decide)) (hfrX 29 (by decide)) (hfrX 9 (by decide)) (hfrX 0 (by decide)) (hrwX 52 (by decide)) (hqM.1.2.1 12 (by decide)) (hqM.1.2.1 21 (by decide)) (hqM.1.2.1 14 (by decide)) (hqM.1.2.2.1 33 (by decide)) hpar
  have hIM1 : IM vA := hqM.1.1
  clear hPX hPM hPo hS hIM hEv htie hrow htape hcnt hpar hkeep hfrX hrwX hIX
  have hPX := hPX1
  have hPM := hP1
  have hPo := hPo1
  have hS := hS1
  have hIM := hIM1
  have hEv := hEv1
  have htie := htie1
  have hrow := hrow1
  have htape := htape1
  have hcnt := hcnt1
  have hpar := hpar1
  have hIX := hIX1
  clear hIX1
  clear hP1 hPX1 hPo1 hS1 hIM1 hEv1 htie1 hrow1 htape1 hcnt1 hpar1 hqM
  generalize H1 = H at hPX hPo hPM hS ⊢
  generalize locs1 = locs at hS ⊢
  refine lv_pop hx hb dL_law_1814 rfl ?_
  refine lv_goto (tgt := 1930) hx hb dL_law_1815 (by decide) ?_
  refine W.widen (k := cells + 2) (n := slots + 122) (Nat.le_add_right _ _) (Nat.le_add_right _ _) ?_
  exact kk aX uA vA f H locs ls ⟨rfl, hJX, hAX, hdis, hoX, hPX, hPM, hPo, hS, hIX, hIM, hEv, htie, hrow, htape, hcnt, hpar⟩ hl
set_option maxHeartbeats 4000000 in
set_option maxRecDepth 100000 in
theorem case_33 {p : Program} {e : Env} {s : State} {m : MethodId} {below : List Frame} {meth : Method} {c : Code} (l : Launch) (hfl : l.stackTraces = false) {b L : Nat} {xs : Nat → Int32} {D : va_G} {cy : Nat → ClassId} {st aM : Nat → Nat} {o x0 : Nat} {aX : Nat → Nat} {u v : SX} {f : Nat → Int64} {H : Heap} {locs : List Loc} {ls : Array Slot} {i : Int32} {cells slots : Nat} {Q : State → Prop} (F : LF p s m meth c b L xs D cy st aM o) (I : LI s D cy st aM o x0 aX u v f H locs) (hi0 : 0 ≤ i.toInt) (hi9 : i.toInt + 9 ≤ (L : Int)) (hcl : cells + 2 ≤ room_1.cells) (hsl : slots + 122 ≤ room_1.slots) (hl : lv_has ls 7 [(0, .ref b), (1, .ref x0), (2, .ref (aM 0)), (3, .ref o), (4, .int i)]) (kk : ∀ (aX : Nat → Nat) (u v : SX) (f : Nat → Int64) (H : Heap) (locs : List Loc) (ls : Array Slot), LI s D cy st aM o x0 aX u v f H locs → lv_has ls 7 [(0, .ref b), (1, .ref x0), (2, .ref (aM 0)), (3, .ref o), (4, .int i)] → W p l e room_1 s m #[Value.ref b] below meth c H locs (cells + 2) (slots + 122) Q (F0 m 1930 ls [])) : W p l e room_1 s m #[Value.ref b] below meth c H locs cells slots Q (F0 m 1818 ls []) := by
  obtain ⟨C0, hL, hK, hJM, hAM, hoM, hso, hst, hE, hCL⟩ := F
  obtain ⟨hx, hb, hr, hml, hown, hts0, hX, hbl, hlocks, hgv⟩ := C0
  obtain ⟨hx0, hJX, hAX, hdis, hoX, hPX, hPM, hPo, hS, hIX, hIM, hEv, htie, hrow, htape, hcnt, hpar⟩ := I
  have hts : ∀ w ∈ wsL_law, w.before #[Value.ref b] s = true := fun w h => hts0 w (wsL_law_in w h)
  have hbA : ¬ (fun q : Nat => s.heap.size ≤ q) b := Nat.not_le.mpr hbl
  have hA0 : ∀ q, (fun q : Nat => s.heap.size ≤ q) q → st 100 ≤ q := fun q h => by rw [hst]; exact h
  have hfit : cells ≤ room_1.cells ∧ slots ≤ room_1.slots := ⟨Nat.le_trans (Nat.le_add_right _ _) hcl, Nat.le_trans (Nat.le_add_right _ _) hsl⟩
  subst hx0
  obtain ⟨y1, hy1⟩ : ∃ y, xs (i + 1).toNatClampNeg = y := ⟨_, rfl⟩
  have hin1 : vp_in (i + 1) L := in9 (show (1 : Int32).toInt = 1 by decide) hi0 hi9 hL (by decide) (by decide)
  refine lv_aload_n hx hb dL_law_1818 rfl (lv_at hl 1 rfl) ?_
  refine lv_aload_n hx hb dL_law_1819 rfl (lv_at hl 0 rfl) ?_
  refine lv_iload hx hb dL_law_1820 (lv_at hl 4 rfl) ?_
  refine lv_iconst (v := 1) hx hb dL_law_1822 (by decide) ?_
  refine lv_iadd hx hb dL_law_1823 ?_
  refine sld9 (v := y1) hx hb hX hbl hbA hS hin1 hy1 dL_law_1824 ?_
  obtain ⟨⟨r, uA⟩, hfX, hqX⟩ := tfX11_sooner_0 y1 u hIX
  refine lg_i (V := VX cy aX st) (Ad := AX aX) (As := [.int y1]) (rest := []) ⟨hx, hb, hml, hown, fun w h => hts0 w (gw_X11_sooner w h)⟩ hA0 hK hPX hS (fun q h => h.elim (hAX q) (fun z => Nat.le_trans hS.1 z)) (metX11_sooner_0 l D cy aX st hJX H.size y1 hfX) (cwV 1 (fun w h => hts0 w (gw_X11_sooner w h)) gx_X11_sooner rfl rfl rfl (by decide +kernel) ⟨Nat.le_of_ble_eq_true rfl, Nat.le_of_ble_eq_true rfl⟩) 0 11 rfl rfl rfl hl.1 rfl (Nat.le_of_ble_eq_true rfl) dL_law_1825 hfit (fun H1 locs1 hP1 hkeep hS1 => ?_)
  have hPM1 := hkeep _ hPM (fun k q hq => hdis _ (VM_mem hq))
  have hPo1 := hkeep _ hPo (fun k q hq => by rw [oat hq]; exact hoX)
  have hIX1 : IX uA := hqX.1.1
  have hFX := hqX.1.2
  have hfrX := hqX.1.2.1
  have hrwX := hqX.1.2.2.1
  clear hPX hPM hPo hS hkeep
  have hPX := hP1
  have hPM := hPM1
  have hPo := hPo1
  have hS := hS1
  clear hP1 hPM1 hPo1 hS1 hqX
  generalize H1 = H at hPX hPo hPM hS ⊢
  generalize locs1 = locs at hS ⊢
  refine lv_pop hx hb dL_law_1828 rfl ?_
  refine lv_aload_n hx hb dL_law_1829 rfl (lv_at hl 2 rfl) ?_
  refine lv_aload_n hx hb dL_law_1830 rfl (lv_at hl 0 rfl) ?_
  refine lv_iload hx hb dL_law_1831 (lv_at hl 4 rfl) ?_
  refine lv_iconst (v := 1) hx hb dL_law_1833 (by decide) ?_
  refine lv_iadd hx hb dL_law_1834 ?_
  refine sld9 (v := y1) hx hb hX hbl hbA hS hin1 hy1 dL_law_1835 ?_
  obtain ⟨⟨rM, vA⟩, hfM, hqM⟩ := tfX12_sooner_0 y1 v hIM
  refine lg_i (V := VM cy aM st) (Ad := AM aM) (As := [.int y1]) (rest := []) ⟨hx, hb, hml, hown, fun w h => hts0 w (gw_X12_sooner w h)⟩ hA0 hK hPM hS (fun q h => h.elim (hAM q) (fun z => Nat.le_trans hS.1 z)) (metX12_sooner_0 l D cy aM st hJM H.size y1 hfM) (cwV 1 (fun w h => hts0 w (gw_X12_sooner w h)) gx_X12_sooner rfl rfl rfl (by decide +kernel) ⟨Nat.le_of_ble_eq_true rfl, Nat.le_of_ble_eq_true rfl⟩) 0 12 rfl rfl rfl hl.1 rfl (Nat.le_of_ble_eq_true rfl) dL_law_1836 hfit (fun H1 locs1 hP1 hkeep hS1 => ?_)
  have hPX1 := hkeep _ hPX (fun k q hq hz => hdis _ hz ⟨k, (VX_adr hq).1⟩)
  have hPo1 := hkeep _ hPo (fun k q hq => by rw [oat hq]; exact hoM)
  have hEv1 : EvM vA := EvM_fr (hqM.1.2.1 13 (by decide)) (hqM.1.2.1 14 (by decide)) (hqM.1.2.1 21 (by decide)) (hqM.1.2.2.1 33 (by decide)) hEv
  have htie1 : Tie uA vA := Tie_fr hfrX hqM.1.2.1 (by decide) htie
  have hrow1 : TieR uA vA := TieR_fr (hfrX 36 (by decide)) (hrwX 63 (by decide)) (hrwX 64 (by decide)) (hrwX 65 (by decide)) (hqM.1.2.2.1 36 (by decide)) (hqM.1.2.2.1 37 (by decide)) (hqM.1.2.2.1 38 (by decide)) hrow
  have htape1 : TieT uA vA := TieT_fr (hfrX 1 (by decide)) (hrwX 13 (by decide)) (hqM.1.2.1 3 (by decide)) (hqM.1.2.2.1 1 (by decide)) htape
  have hcnt1 : TieC uA vA := TieC_fr (hfrX 5 (by decide)) (hfrX 6 (by decide)) (hfrX 7 (by decide)) (hqM.1.2.2.1 4 (by decide)) hcnt
  have hpar1 : TieP uA vA := TieP_fr (hfrX 8 (by decide)) (hfrX 29 (by decide)) (hfrX 9 (by decide)) (hfrX 0 (by decide)) (hrwX 52 (by decide)) (hqM.1.2.1 12 (by decide)) (hqM.1.2.1 21 (by decide)) (hqM.1.2.1 14 (by decide)) (hqM.1.2.2.1 33 (by decide)) hpar
  have hIM1 : IM vA := hqM.1.1
  clear hPX hPM hPo hS hIM hEv htie hrow htape hcnt hpar hkeep hfrX hrwX hIX
  have hPX := hPX1
  have hPM := hP1
  have hPo := hPo1
  have hS := hS1
  have hIM := hIM1
  have hEv := hEv1
  have htie := htie1
  have hrow := hrow1
  have htape := htape1
  have hcnt := hcnt1
  have hpar := hpar1
  have hIX := hIX1
  clear hIX1
  clear hP1 hPX1 hPo1 hS1 hIM1 hEv1 htie1 hrow1 htape1 hcnt1 hpar1 hqM
  generalize H1 = H at hPX hPo hPM hS ⊢
  generalize locs1 = locs at hS ⊢
  refine lv_pop hx hb dL_law_1839 rfl ?_
  refine lv_goto (tgt := 1930) hx hb dL_law_1840 (by decide) ?_
  refine W.widen (k := cells + 2) (n := slots + 122) (Nat.le_add_right _ _) (Nat.le_add_right _ _) ?_
  exact kk aX uA vA f H locs ls ⟨rfl, hJX, hAX, hdis, hoX, hPX, hPM, hPo, hS, hIX, hIM, hEv, htie, hrow, htape, hcnt, hpar⟩ hl
set_option maxHeartbeats 4000000 in
set_option maxRecDepth 100000 in
theorem case_34 {p : Program} {e : Env} {s : State} {m : MethodId} {below : List Frame} {meth : Method} {c : Code} (l : Launch) (hfl : l.stackTraces = false) {b L : Nat} {xs : Nat → Int32} {D : va_G} {cy : Nat → ClassId} {st aM : Nat → Nat} {o x0 : Nat} {aX : Nat → Nat} {u v : SX} {f : Nat → Int64} {H : Heap} {locs : List Loc} {ls : Array Slot} {i : Int32} {cells slots : Nat} {Q : State → Prop} (F : LF p s m meth c b L xs D cy st aM o) (I : LI s D cy st aM o x0 aX u v f H locs) (hi0 : 0 ≤ i.toInt) (hi9 : i.toInt + 9 ≤ (L : Int)) (hcl : cells + 2 ≤ room_1.cells) (hsl : slots + 122 ≤ room_1.slots) (hl : lv_has ls 7 [(0, .ref b), (1, .ref x0), (2, .ref (aM 0)), (3, .ref o), (4, .int i)]) (kk : ∀ (aX : Nat → Nat) (u v : SX) (f : Nat → Int64) (H : Heap) (locs : List Loc) (ls : Array Slot), LI s D cy st aM o x0 aX u v f H locs → lv_has ls 7 [(0, .ref b), (1, .ref x0), (2, .ref (aM 0)), (3, .ref o), (4, .int i)] → W p l e room_1 s m #[Value.ref b] below meth c H locs (cells + 2) (slots + 122) Q (F0 m 1930 ls [])) : W p l e room_1 s m #[Value.ref b] below meth c H locs cells slots Q (F0 m 1843 ls []) := by
  obtain ⟨C0, hL, hK, hJM, hAM, hoM, hso, hst, hE, hCL⟩ := F
  obtain ⟨hx, hb, hr, hml, hown, hts0, hX, hbl, hlocks, hgv⟩ := C0
  obtain ⟨hx0, hJX, hAX, hdis, hoX, hPX, hPM, hPo, hS, hIX, hIM, hEv, htie, hrow, htape, hcnt, hpar⟩ := I
  have hts : ∀ w ∈ wsL_law, w.before #[Value.ref b] s = true := fun w h => hts0 w (wsL_law_in w h)
  have hbA : ¬ (fun q : Nat => s.heap.size ≤ q) b := Nat.not_le.mpr hbl
  have hA0 : ∀ q, (fun q : Nat => s.heap.size ≤ q) q → st 100 ≤ q := fun q h => by rw [hst]; exact h
  have hfit : cells ≤ room_1.cells ∧ slots ≤ room_1.slots := ⟨Nat.le_trans (Nat.le_add_right _ _) hcl, Nat.le_trans (Nat.le_add_right _ _) hsl⟩
  subst hx0
  obtain ⟨y1, hy1⟩ : ∃ y, xs (i + 1).toNatClampNeg = y := ⟨_, rfl⟩
  have hin1 : vp_in (i + 1) L := in9 (show (1 : Int32).toInt = 1 by decide) hi0 hi9 hL (by decide) (by decide)
  obtain ⟨y2, hy2⟩ : ∃ y, xs (i + 2).toNatClampNeg = y := ⟨_, rfl⟩
  have hin2 : vp_in (i + 2) L := in9 (show (2 : Int32).toInt = 2 by decide) hi0 hi9 hL (by decide) (by decide)
  refine lv_aload_n hx hb dL_law_1843 rfl (lv_at hl 1 rfl) ?_
  refine lv_aload_n hx hb dL_law_1844 rfl (lv_at hl 0 rfl) ?_
  refine lv_iload hx hb dL_law_1845 (lv_at hl 4 rfl) ?_
  refine lv_iconst (v := 1) hx hb dL_law_1847 (by decide) ?_
  refine lv_iadd hx hb dL_law_1848 ?_
  refine sld9 (v := y1) hx hb hX hbl hbA hS hin1 hy1 dL_law_1849 ?_
  refine lv_aload_n hx hb dL_law_1850 rfl (lv_at hl 0 rfl) ?_
  refine lv_iload hx hb dL_law_1851 (lv_at hl 4 rfl) ?_
  refine lv_iconst (v := 2) hx hb dL_law_1853 (by decide) ?_
  refine lv_iadd hx hb dL_law_1854 ?_
  refine sld9 (v := y2) hx hb hX hbl hbA hS hin2 hy2 dL_law_1855 ?_
  obtain ⟨⟨r, uA⟩, hfX, hqX⟩ := tfX11_even_0 y1 y2 u hIX
  refine lg_i (V := VX cy aX st) (Ad := AX aX) (As := [.int y1, .int y2]) (rest := []) ⟨hx, hb, hml, hown, fun w h => hts0 w (gw_X11_even w h)⟩ hA0 hK hPX hS (fun q h => h.elim (hAX q) (fun z => Nat.le_trans hS.1 z)) (metX11_even_0 l D cy aX st hJX H.size y1 y2 hfX) (cwV 2 (fun w h => hts0 w (gw_X11_even w h)) gx_X11_even rfl rfl rfl (by decide +kernel) ⟨Nat.le_of_ble_eq_true rfl, Nat.le_of_ble_eq_true rfl⟩) 0 11 rfl rfl rfl hl.1 rfl (Nat.le_of_ble_eq_true rfl) dL_law_1856 hfit (fun H1 locs1 hP1 hkeep hS1 => ?_)
  have hPM1 := hkeep _ hPM (fun k q hq => hdis _ (VM_mem hq))
  have hPo1 := hkeep _ hPo (fun k q hq => by rw [oat hq]; exact hoX)
  have hIX1 : IX uA := hqX.1.1
  have hFX := hqX.1.2
  have hfrX := hqX.1.2.1
  have hrwX := hqX.1.2.2.1
  clear hPX hPM hPo hS hkeep
  have hPX := hP1
  have hPM := hPM1
  have hPo := hPo1
  have hS := hS1
  clear hP1 hPM1 hPo1 hS1 hqX
  generalize H1 = H at hPX hPo hPM hS ⊢
  generalize locs1 = locs at hS ⊢
  refine lv_pop hx hb dL_law_1859 rfl ?_
  refine lv_aload_n hx hb dL_law_1860 rfl (lv_at hl 2 rfl) ?_
  refine lv_aload_n hx hb dL_law_1861 rfl (lv_at hl 0 rfl) ?_
  refine lv_iload hx hb dL_law_1862 (lv_at hl 4 rfl) ?_
  refine lv_iconst (v := 1) hx hb dL_law_1864 (by decide) ?_
  refine lv_iadd hx hb dL_law_1865 ?_
  refine sld9 (v := y1) hx hb hX hbl hbA hS hin1 hy1 dL_law_1866 ?_
  refine lv_aload_n hx hb dL_law_1867 rfl (lv_at hl 0 rfl) ?_
  refine lv_iload hx hb dL_law_1868 (lv_at hl 4 rfl) ?_
  refine lv_iconst (v := 2) hx hb dL_law_1870 (by decide) ?_
  refine lv_iadd hx hb dL_law_1871 ?_
  refine sld9 (v := y2) hx hb hX hbl hbA hS hin2 hy2 dL_law_1872 ?_
  obtain ⟨⟨rM, vA⟩, hfM, hqM⟩ := tfX12_even_0 y1 y2 v hIM
  refine lg_i (V := VM cy aM st) (Ad := AM aM) (As := [.int y1, .int y2]) (rest := []) ⟨hx, hb, hml, hown, fun w h => hts0 w (gw_X12_even w h)⟩ hA0 hK hPM hS (fun q h => h.elim (hAM q) (fun z => Nat.le_trans hS.1 z)) (metX12_even_0 l D cy aM st hJM H.size y1 y2 hfM) (cwV 2 (fun w h => hts0 w (gw_X12_even w h)) gx_X12_even rfl rfl rfl (by decide +kernel) ⟨Nat.le_of_ble_eq_true rfl, Nat.le_of_ble_eq_true rfl⟩) 0 12 rfl rfl rfl hl.1 rfl (Nat.le_of_ble_eq_true rfl) dL_law_1873 hfit (fun H1 locs1 hP1 hkeep hS1 => ?_)
  have hPX1 := hkeep _ hPX (fun k q hq hz => hdis _ hz ⟨k, (VX_adr hq).1⟩)
  have hPo1 := hkeep _ hPo (fun k q hq => by rw [oat hq]; exact hoM)
  have hEv1 : EvM vA := EvM_fr (hqM.1.2.1 13 (by decide)) (hqM.1.2.1 14 (by decide)) (hqM.1.2.1 21 (by decide)) (hqM.1.2.2.1 33 (by decide)) hEv
  have htie1 : Tie uA vA := Tie_fr hfrX hqM.1.2.1 (by decide) htie
  have hrow1 : TieR uA vA := TieR_fr (hfrX 36 (by decide)) (hrwX 63 (by decide)) (hrwX 64 (by decide)) (hrwX 65 (by decide)) (hqM.1.2.2.1 36 (by decide)) (hqM.1.2.2.1 37 (by decide)) (hqM.1.2.2.1 38 (by decide)) hrow
  have htape1 : TieT uA vA := TieT_fr (hfrX 1 (by decide)) (hrwX 13 (by decide)) (hqM.1.2.1 3 (by decide)) (hqM.1.2.2.1 1 (by decide)) htape
  have hcnt1 : TieC uA vA := TieC_fr (hfrX 5 (by decide)) (hfrX 6 (by decide)) (hfrX 7 (by decide)) (hqM.1.2.2.1 4 (by decide)) hcnt
  have hpar1 : TieP uA vA := TieP_fr (hfrX 8 (by decide)) (hfrX 29 (by decide)) (hfrX 9 (by decide)) (hfrX 0 (by decide)) (hrwX 52 (by decide)) (hqM.1.2.1 12 (by decide)) (hqM.1.2.1 21 (by decide)) (hqM.1.2.1 14 (by decide)) (hqM.1.2.2.1 33 (by decide)) hpar
  have hIM1 : IM vA := hqM.1.1
  clear hPX hPM hPo hS hIM hEv htie hrow htape hcnt hpar hkeep hfrX hrwX hIX
  have hPX := hPX1
  have hPM := hP1
  have hPo := hPo1
  have hS := hS1
  have hIM := hIM1
  have hEv := hEv1
  have htie := htie1
  have hrow := hrow1
  have htape := htape1
  have hcnt := hcnt1
  have hpar := hpar1
  have hIX := hIX1
  clear hIX1
  clear hP1 hPX1 hPo1 hS1 hIM1 hEv1 htie1 hrow1 htape1 hcnt1 hpar1 hqM
  generalize H1 = H at hPX hPo hPM hS ⊢
  generalize locs1 = locs at hS ⊢
  refine lv_pop hx hb dL_law_1876 rfl ?_
  refine lv_goto (tgt := 1930) hx hb dL_law_1877 (by decide) ?_
  refine W.widen (k := cells + 2) (n := slots + 122) (Nat.le_add_right _ _) (Nat.le_add_right _ _) ?_
  exact kk aX uA vA f H locs ls ⟨rfl, hJX, hAX, hdis, hoX, hPX, hPM, hPo, hS, hIX, hIM, hEv, htie, hrow, htape, hcnt, hpar⟩ hl
set_option maxHeartbeats 4000000 in
set_option maxRecDepth 100000 in
theorem case_35 {p : Program} {e : Env} {s : State} {m : MethodId} {below : List Frame} {meth : Method} {c : Code} (l : Launch) (hfl : l.stackTraces = false) {b L : Nat} {xs : Nat → Int32} {D : va_G} {cy : Nat → ClassId} {st aM : Nat → Nat} {o x0 : Nat} {aX : Nat → Nat} {u v : SX} {f : Nat → Int64} {H : Heap} {locs : List Loc} {ls : Array Slot} {i : Int32} {cells slots : Nat} {Q : State → Prop} (F : LF p s m meth c b L xs D cy st aM o) (I : LI s D cy st aM o x0 aX u v f H locs) (hi0 : 0 ≤ i.toInt) (hi9 : i.toInt + 9 ≤ (L : Int)) (hcl : cells + 2 ≤ room_1.cells) (hsl : slots + 122 ≤ room_1.slots) (hl : lv_has ls 7 [(0, .ref b), (1, .ref x0), (2, .ref (aM 0)), (3, .ref o), (4, .int i)]) (kk : ∀ (aX : Nat → Nat) (u v : SX) (f : Nat → Int64) (H : Heap) (locs : List Loc) (ls : Array Slot), LI s D cy st aM o x0 aX u v f H locs → lv_has ls 7 [(0, .ref b), (1, .ref x0), (2, .ref (aM 0)), (3, .ref o), (4, .int i)] → W p l e room_1 s m #[Value.ref b] below meth c H locs (cells + 2) (slots + 122) Q (F0 m 1930 ls [])) : W p l e room_1 s m #[Value.ref b] below meth c H locs cells slots Q (F0 m 1880 ls []) := by
  obtain ⟨C0, hL, hK, hJM, hAM, hoM, hso, hst, hE, hCL⟩ := F
  obtain ⟨hx, hb, hr, hml, hown, hts0, hX, hbl, hlocks, hgv⟩ := C0
  obtain ⟨hx0, hJX, hAX, hdis, hoX, hPX, hPM, hPo, hS, hIX, hIM, hEv, htie, hrow, htape, hcnt, hpar⟩ := I
  have hts : ∀ w ∈ wsL_law, w.before #[Value.ref b] s = true := fun w h => hts0 w (wsL_law_in w h)
  have hbA : ¬ (fun q : Nat => s.heap.size ≤ q) b := Nat.not_le.mpr hbl
  have hA0 : ∀ q, (fun q : Nat => s.heap.size ≤ q) q → st 100 ≤ q := fun q h => by rw [hst]; exact h
  have hfit : cells ≤ room_1.cells ∧ slots ≤ room_1.slots := ⟨Nat.le_trans (Nat.le_add_right _ _) hcl, Nat.le_trans (Nat.le_add_right _ _) hsl⟩
  subst hx0
  obtain ⟨y1, hy1⟩ : ∃ y, xs (i + 1).toNatClampNeg = y := ⟨_, rfl⟩
  have hin1 : vp_in (i + 1) L := in9 (show (1 : Int32).toInt = 1 by decide) hi0 hi9 hL (by decide) (by decide)
  refine lv_aload_n hx hb dL_law_1880 rfl (lv_at hl 1 rfl) ?_
  refine lv_aload_n hx hb dL_law_1881 rfl (lv_at hl 0 rfl) ?_
  refine lv_iload hx hb dL_law_1882 (lv_at hl 4 rfl) ?_
  refine lv_iconst (v := 1) hx hb dL_law_1884 (by decide) ?_
  refine lv_iadd hx hb dL_law_1885 ?_
  refine sld9 (v := y1) hx hb hX hbl hbA hS hin1 hy1 dL_law_1886 ?_
  obtain ⟨⟨r, uA⟩, hfX, hqX⟩ := tfX11_say_0 y1 u hIX
  refine lg_i (V := VX cy aX st) (Ad := AX aX) (As := [.int y1]) (rest := []) ⟨hx, hb, hml, hown, fun w h => hts0 w (gw_X11_say w h)⟩ hA0 hK hPX hS (fun q h => h.elim (hAX q) (fun z => Nat.le_trans hS.1 z)) (metX11_say_0 l D cy aX st hJX H.size y1 hfX) (cwV 1 (fun w h => hts0 w (gw_X11_say w h)) gx_X11_say rfl rfl rfl (by decide +kernel) ⟨Nat.le_of_ble_eq_true rfl, Nat.le_of_ble_eq_true rfl⟩) 0 11 rfl rfl rfl hl.1 rfl (Nat.le_of_ble_eq_true rfl) dL_law_1887 hfit (fun H1 locs1 hP1 hkeep hS1 => ?_)
  have hPM1 := hkeep _ hPM (fun k q hq => hdis _ (VM_mem hq))
  have hPo1 := hkeep _ hPo (fun k q hq => by rw [oat hq]; exact hoX)
  have hIX1 : IX uA := hqX.1.1
  have hFX := hqX.1.2
  have hfrX := hqX.1.2.1
  have hrwX := hqX.1.2.2.1
  clear hPX hPM hPo hS hkeep
  have hPX := hP1
  have hPM := hPM1
  have hPo := hPo1
  have hS := hS1
  clear hP1 hPM1 hPo1 hS1 hqX
  generalize H1 = H at hPX hPo hPM hS ⊢
  generalize locs1 = locs at hS ⊢
  refine lv_pop hx hb dL_law_1890 rfl ?_
  refine lv_aload_n hx hb dL_law_1891 rfl (lv_at hl 2 rfl) ?_
  refine lv_aload_n hx hb dL_law_1892 rfl (lv_at hl 0 rfl) ?_
  refine lv_iload hx hb dL_law_1893 (lv_at hl 4 rfl) ?_
  refine lv_iconst (v := 1) hx hb dL_law_1895 (by decide) ?_
  refine lv_iadd hx hb dL_law_1896 ?_
  refine sld9 (v := y1) hx hb hX hbl hbA hS hin1 hy1 dL_law_1897 ?_
  obtain ⟨⟨rM, vA⟩, hfM, hqM⟩ := tfX12_say_0 y1 v hIM
  refine lg_i (V := VM cy aM st) (Ad := AM aM) (As := [.int y1]) (rest := []) ⟨hx, hb, hml, hown, fun w h => hts0 w (gw_X12_say w h)⟩ hA0 hK hPM hS (fun q h => h.elim (hAM q) (fun z => Nat.le_trans hS.1 z)) (metX12_say_0 l D cy aM st hJM H.size y1 hfM) (cwV 1 (fun w h => hts0 w (gw_X12_say w h)) gx_X12_say rfl rfl rfl (by decide +kernel) ⟨Nat.le_of_ble_eq_true rfl, Nat.le_of_ble_eq_true rfl⟩) 0 12 rfl rfl rfl hl.1 rfl (Nat.le_of_ble_eq_true rfl) dL_law_1898 hfit (fun H1 locs1 hP1 hkeep hS1 => ?_)
  have hPX1 := hkeep _ hPX (fun k q hq hz => hdis _ hz ⟨k, (VX_adr hq).1⟩)
  have hPo1 := hkeep _ hPo (fun k q hq => by rw [oat hq]; exact hoM)
  have hEv1 : EvM vA := EvM_fr (hqM.1.2.1 13 (by decide)) (hqM.1.2.1 14 (by decide)) (hqM.1.2.1 21 (by decide)) (hqM.1.2.2.1 33 (by decide)) hEv
  have htie1 : Tie uA vA := Tie_fr hfrX hqM.1.2.1 (by decide) htie
  have hrow1 : TieR uA vA := TieR_fr (hfrX 36 (by decide)) (hrwX 63 (by decide)) (hrwX 64 (by decide)) (hrwX 65 (by decide)) (hqM.1.2.2.1 36 (by decide)) (hqM.1.2.2.1 37 (by decide)) (hqM.1.2.2.1 38 (by decide)) hrow
  have htape1 : TieT uA vA := TieT_fr (hfrX 1 (by decide)) (hrwX 13 (by decide)) (hqM.1.2.1 3 (by decide)) (hqM.1.2.2.1 1 (by decide)) htape
  have hcnt1 : TieC uA vA := TieC_fr (hfrX 5 (by decide)) (hfrX 6 (by decide)) (hfrX 7 (by decide)) (hqM.1.2.2.1 4 (by decide)) hcnt
  have hpar1 : TieP uA vA := TieP_fr (hfrX 8 (by decide)) (hfrX 29 (by decide)) (hfrX 9 (by decide)) (hfrX 0 (by decide)) (hrwX 52 (by decide)) (hqM.1.2.1 12 (by decide)) (hqM.1.2.1 21 (by decide)) (hqM.1.2.1 14 (by decide)) (hqM.1.2.2.1 33 (by decide)) hpar
  have hIM1 : IM vA := hqM.1.1
  clear hPX hPM hPo hS hIM hEv htie hrow htape hcnt hpar hkeep hfrX hrwX hIX
  have hPX := hPX1
  have hPM := hP1
  have hPo := hPo1
  have hS := hS1
  have hIM := hIM1
  have hEv := hEv1
  have htie := htie1
  have hrow := hrow1
  have htape := htape1
  have hcnt := hcnt1
  have hpar := hpar1
  have hIX := hIX1
  clear hIX1
  clear hP1 hPX1 hPo1 hS1 hIM1 hEv1 htie1 hrow1 htape1 hcnt1 hpar1 hqM
  generalize H1 = H at hPX hPo hPM hS ⊢
  generalize locs1 = locs at hS ⊢
  refine lv_pop hx hb dL_law_1901 rfl ?_
  refine lv_goto (tgt := 1930) hx hb dL_law_1902 (by decide) ?_
  refine W.widen (k := cells + 2) (n := slots + 122) (Nat.le_add_right _ _) (Nat.le_add_right _ _) ?_
  exact kk aX uA vA f H locs ls ⟨rfl, hJX, hAX, hdis, hoX, hPX, hPM, hPo, hS, hIX, hIM, hEv, htie, hrow, htape, hcnt, hpar⟩ hl
set_option maxHeartbeats 4000000 in
set_option maxRecDepth 100000 in
theorem case_36 {p : Program} {e : Env} {s : State} {m : MethodId} {below : List Frame} {meth : Method} {c : Code} (l : Launch) (hfl : l.stackTraces = false) {b L : Nat} {xs : Nat → Int32} {D : va_G} {cy : Nat → ClassId} {st aM : Nat → Nat} {o x0 : Nat} {aX : Nat → Nat} {u v : SX} {f : Nat → Int64} {H : Heap} {locs : List Loc} {ls : Array Slot} {i : Int32} {cells slots : Nat} {Q : State → Prop} (F : LF p s m meth c b L xs D cy st aM o) (I : LI s D cy st aM o x0 aX u v f H locs) (hi0 : 0 ≤ i.toInt) (hi9 : i.toInt + 9 ≤ (L : Int)) (hcl : cells + 2 ≤ room_1.cells) (hsl : slots + 122 ≤ room_1.slots) (hl : lv_has ls 7 [(0, .ref b), (1, .ref x0), (2, .ref (aM 0)), (3, .ref o), (4, .int i)]) (kk : ∀ (aX : Nat → Nat) (u v : SX) (f : Nat → Int64) (H : Heap) (locs : List Loc) (ls : Array Slot), LI s D cy st aM o x0 aX u v f H locs → lv_has ls 7 [(0, .ref b), (1, .ref x0), (2, .ref (aM 0)), (3, .ref o), (4, .int i)] → W p l e room_1 s m #[Value.ref b] below meth c H locs (cells + 2) (slots + 122) Q (F0 m 1930 ls [])) : W p l e room_1 s m #[Value.ref b] below meth c H locs cells slots Q (F0 m 1905 ls []) := by
  obtain ⟨C0, hL, hK, hJM, hAM, hoM, hso, hst, hE, hCL⟩ := F
  obtain ⟨hx, hb, hr, hml, hown, hts0, hX, hbl, hlocks, hgv⟩ := C0
  obtain ⟨hx0, hJX, hAX, hdis, hoX, hPX, hPM, hPo, hS, hIX, hIM, hEv, htie, hrow, htape, hcnt, hpar⟩ := I
  have hts : ∀ w ∈ wsL_law, w.before #[Value.ref b] s = true := fun w h => hts0 w (wsL_law_in w h)
  have hbA : ¬ (fun q : Nat => s.heap.size ≤ q) b := Nat.not_le.mpr hbl
  have hA0 : ∀ q, (fun q : Nat => s.heap.size ≤ q) q → st 100 ≤ q := fun q h => by rw [hst]; exact h
  have hfit : cells ≤ room_1.cells ∧ slots ≤ room_1.slots := ⟨Nat.le_trans (Nat.le_add_right _ _) hcl, Nat.le_trans (Nat.le_add_right _ _) hsl⟩
  subst hx0
  obtain ⟨y1, hy1⟩ : ∃ y, xs (i + 1).toNatClampNeg = y := ⟨_, rfl⟩
  have hin1 : vp_in (i + 1) L := in9 (show (1 : Int32).toInt = 1 by decide) hi0 hi9 hL (by decide) (by decide)
  refine lv_aload_n hx hb dL_law_1905 rfl (lv_at hl 1 rfl) ?_
  refine lv_aload_n hx hb dL_law_1906 rfl (lv_at hl 0 rfl) ?_
  refine lv_iload hx hb dL_law_1907 (lv_at hl 4 rfl) ?_
  refine lv_iconst (v := 1) hx hb dL_law_1909 (by decide) ?_
  refine lv_iadd hx hb dL_law_1910 ?_
  refine sld9 (v := y1) hx hb hX hbl hbA hS hin1 hy1 dL_law_1911 ?_
  obtain ⟨⟨r, uA⟩, hfX, hqX⟩ := tfX11_count_0 y1 u hIX
  refine lg_i (V := VX cy aX st) (Ad := AX aX) (As := [.int y1]) (rest := []) ⟨hx, hb, hml, hown, fun w h => hts0 w (gw_X11_count w h)⟩ hA0 hK hPX hS (fun q h => h.elim (hAX q) (fun z => Nat.le_trans hS.1 z)) (metX11_count_0 l D cy aX st hJX H.size y1 hfX) (cwV 1 (fun w h => hts0 w (gw_X11_count w h)) gx_X11_count rfl rfl rfl (by decide +kernel) ⟨Nat.le_of_ble_eq_true rfl, Nat.le_of_ble_eq_true rfl⟩) 0 11 rfl rfl rfl hl.1 rfl (Nat.le_of_ble_eq_true rfl) dL_law_1912 hfit (fun H1 locs1 hP1 hkeep hS1 => ?_)
  have hPM1 := hkeep _ hPM (fun k q hq => hdis _ (VM_mem hq))
  have hPo1 := hkeep _ hPo (fun k q hq => by rw [oat hq]; exact hoX)
  have hIX1 : IX uA := hqX.1.1
  have hFX := hqX.1.2
  have hfrX := hqX.1.2.1
  have hrwX := hqX.1.2.2.1
  clear hPX hPM hPo hS hkeep
  have hPX := hP1
  have hPM := hPM1
  have hPo := hPo1
  have hS := hS1
  clear hP1 hPM1 hPo1 hS1 hqX
  generalize H1 = H at hPX hPo hPM hS ⊢
  generalize locs1 = locs at hS ⊢
  refine lv_pop hx hb dL_law_1915 rfl ?_
  refine lv_aload_n hx hb dL_law_1916 rfl (lv_at hl 2 rfl) ?_
  refine lv_aload_n hx hb dL_law_1917 rfl (lv_at hl 0 rfl) ?_
  refine lv_iload hx hb dL_law_1918 (lv_at hl 4 rfl) ?_
  refine lv_iconst (v := 1) hx hb dL_law_1920 (by decide) ?_
  refine lv_iadd hx hb dL_law_1921 ?_
  refine sld9 (v := y1) hx hb hX hbl hbA hS hin1 hy1 dL_law_1922 ?_
  obtain ⟨⟨rM, vA⟩, hfM, hqM⟩ := tfX12_count_0 y1 v hIM
  refine lg_i (V := VM cy aM st) (Ad := AM aM) (As := [.int y1]) (rest := []) ⟨hx, hb, hml, hown, fun w h => hts0 w (gw_X12_count w h)⟩ hA0 hK hPM hS (fun q h => h.elim (hAM q) (fun z => Nat.le_trans hS.1 z)) (metX12_count_0 l D cy aM st hJM H.size y1 hfM) (cwV 1 (fun w h => hts0 w (gw_X12_count w h)) gx_X12_count rfl rfl rfl (by decide +kernel) ⟨Nat.le_of_ble_eq_true rfl, Nat.le_of_ble_eq_true rfl⟩) 0 12 rfl rfl rfl hl.1 rfl (Nat.le_of_ble_eq_true rfl) dL_law_1923 hfit (fun H1 locs1 hP1 hkeep hS1 => ?_)
  have hPX1 := hkeep _ hPX (fun k q hq hz => hdis _ hz ⟨k, (VX_adr hq).1⟩)
  have hPo1 := hkeep _ hPo (fun k q hq => by rw [oat hq]; exact hoM)
  have hEv1 : EvM vA := EvM_fr (hqM.1.2.1 13 (by decide)) (hqM.1.2.1 14 (by decide)) (hqM.1.2.1 21 (by decide)) (hqM.1.2.2.1 33 (by decide)) hEv
  have htie1 : Tie uA vA := Tie_fr hfrX hqM.1.2.1 (by decide) htie
  have hrow1 : TieR uA vA := TieR_fr (hfrX 36 (by decide)) (hrwX 63 (by decide)) (hrwX 64 (by decide)) (hrwX 65 (by decide)) (hqM.1.2.2.1 36 (by decide)) (hqM.1.2.2.1 37 (by decide)) (hqM.1.2.2.1 38 (by decide)) hrow
  have htape1 : TieT uA vA := TieT_fr (hfrX 1 (by decide)) (hrwX 13 (by decide)) (hqM.1.2.1 3 (by decide)) (hqM.1.2.2.1 1 (by decide)) htape
  have hcnt1 : TieC uA vA := TieC_fr (hfrX 5 (by decide)) (hfrX 6 (by decide)) (hfrX 7 (by decide)) (hqM.1.2.2.1 4 (by decide)) hcnt
  have hpar1 : TieP uA vA := TieP_fr (hfrX 8 (by decide)) (hfrX 29 (by decide)) (hfrX 9 (by decide)) (hfrX 0 (by decide)) (hrwX 52 (by decide)) (hqM.1.2.1 12 (by decide)) (hqM.1.2.1 21 (by decide)) (hqM.1.2.1 14 (by decide)) (hqM.1.2.2.1 33 (by decide)) hpar
  have hIM1 : IM vA := hqM.1.1
  clear hPX hPM hPo hS hIM hEv htie hrow htape hcnt hpar hkeep hfrX hrwX hIX
  have hPX := hPX1
  have hPM := hP1
  have hPo := hPo1
  have hS := hS1
  have hIM := hIM1
  have hEv := hEv1
  have htie := htie1
  have hrow := hrow1
  have htape := htape1
  have hcnt := hcnt1
  have hpar := hpar1
  have hIX := hIX1
  clear hIX1
  clear hP1 hPX1 hPo1 hS1 hIM1 hEv1 htie1 hrow1 htape1 hcnt1 hpar1 hqM
  generalize H1 = H at hPX hPo hPM hS ⊢
  generalize locs1 = locs at hS ⊢
  refine lv_pop hx hb dL_law_1926 rfl ?_
  refine lv_goto (tgt := 1930) hx hb dL_law_1927 (by decide) ?_
  refine W.widen (k := cells + 2) (n := slots + 122) (Nat.le_add_right _ _) (Nat.le_add_right _ _) ?_
  exact kk aX uA vA f H locs ls ⟨rfl, hJX, hAX, hdis, hoX, hPX, hPM, hPo, hS, hIX, hIM, hEv, htie, hrow, htape, hcnt, hpar⟩ hl
