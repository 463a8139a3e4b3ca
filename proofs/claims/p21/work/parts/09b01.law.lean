set_option maxHeartbeats 4000000 in
set_option maxRecDepth 100000 in
theorem case_10 {p : Program} {e : Env} {s : State} {m : MethodId} {below : List Frame} {meth : Method} {c : Code} (l : Launch) (hfl : l.stackTraces = false) {b L : Nat} {xs : Nat → Int32} {D : va_G} {cy : Nat → ClassId} {st aM : Nat → Nat} {o x0 : Nat} {aX : Nat → Nat} {u v : SX} {f : Nat → Int64} {H : Heap} {locs : List Loc} {ls : Array Slot} {i : Int32} {cells slots : Nat} {Q : State → Prop} (F : LF p s m meth c b L xs D cy st aM o) (I : LI s D cy st aM o x0 aX u v f H locs) (hi0 : 0 ≤ i.toInt) (hi9 : i.toInt + 9 ≤ (L : Int)) (hcl : cells + 2 ≤ room_1.cells) (hsl : slots + 122 ≤ room_1.slots) (hl : lv_has ls 7 [(0, .ref b), (1, .ref x0), (2, .ref (aM 0)), (3, .ref o), (4, .int i)]) (kk : ∀ (aX : Nat → Nat) (u v : SX) (f : Nat → Int64) (H : Heap) (locs : List Loc) (ls : Array Slot), LI s D cy st aM o x0 aX u v f H locs → lv_has ls 7 [(0, .ref b), (1, .ref x0), (2, .ref (aM 0)), (3, .ref o), (4, .int i)] → W p l e room_1 s m #[Value.ref b] below meth c H locs (cells + 2) (slots + 122) Q (F0 m 1930 ls [])) : W p l e room_1 s m #[Value.ref b] below meth c H locs cells slots Q (F0 m 813 ls []) := by
  obtain ⟨C0, hL, hK, hJM, hAM, hoM, hso, hst, hE, hCL⟩ := F
  obtain ⟨hx, hb, hr, hml, hown, hts0, hX, hbl, hlocks, hgv⟩ := C0
  obtain ⟨hx0, hJX, hAX, hdis, hoX, hPX, hPM, hPo, hS, hIX, hIM, hEv, htie, hrow, htape, hcnt, hpar⟩ := I
  have hts : ∀ w ∈ wsL_law, w.before #[Value.ref b] s = true := fun w h => hts0 w (wsL_law_in w h)
  have hbA : ¬ (fun q : Nat => s.heap.size ≤ q) b := Nat.not_le.mpr hbl
  have hA0 : ∀ q, (fun q : Nat => s.heap.size ≤ q) q → st 100 ≤ q := fun q h => by rw [hst]; exact h
  have hfit : cells ≤ room_1.cells ∧ slots ≤ room_1.slots := ⟨Nat.le_trans (Nat.le_add_right _ _) hcl, Nat.le_trans (Nat.le_add_right _ _) hsl⟩
  subst hx0
  obtain ⟨y1, hy1⟩ : ∃ y, xs (i + 1).toNatClampNeg = y := ⟨_, rfl⟩
  have hin1 : vp_in (i + 1) L := in9 (show (1 : Int32).toInt = 1 by decide) hi0 hi9 hL (by decide) (by decide)
  obtain ⟨y2, hy2⟩ : ∃ y, xs (i + 2).toNatClampNeg = y := ⟨_, rfl⟩
  have hin2 : vp_in (i + 2) L := in9 (show (2 : Int32).toInt = 2 by decide) hi0 hi9 hL (by decide) (by decide)
  obtain ⟨y3, hy3⟩ : ∃ y, xs (i + 3).toNatClampNeg = y := ⟨_, rfl⟩
  have hin3 : vp_in (i + 3) L := in9 (show (3 : Int32).toInt = 3 by decide) hi0 hi9 hL (by decide) (by decide)
  obtain ⟨y4, hy4⟩ : ∃ y, xs (i + 4).toNatClampNeg = y := ⟨_, rfl⟩
  have hin4 : vp_in (i + 4) L := in9 (show (4 : Int32).toInt = 4 by decide) hi0 hi9 hL (by decide) (by decide)
  obtain ⟨y5, hy5⟩ : ∃ y, xs (i + 5).toNatClampNeg = y := ⟨_, rfl⟩
  have hin5 : vp_in (i + 5) L := in9 (show (5 : Int32).toInt = 5 by decide) hi0 hi9 hL (by decide) (by decide)
  obtain ⟨y6, hy6⟩ : ∃ y, xs (i + 6).toNatClampNeg = y := ⟨_, rfl⟩
  have hin6 : vp_in (i + 6) L := in9 (show (6 : Int32).toInt = 6 by decide) hi0 hi9 hL (by decide) (by decide)
  refine lv_aload_n hx hb dL_law_813 rfl (lv_at hl 1 rfl) ?_
  refine lv_aload_n hx hb dL_law_814 rfl (lv_at hl 0 rfl) ?_
  refine lv_iload hx hb dL_law_815 (lv_at hl 4 rfl) ?_
  refine lv_iconst (v := 1) hx hb dL_law_817 (by decide) ?_
  refine lv_iadd hx hb dL_law_818 ?_
  refine sld9 (v := y1) hx hb hX hbl hbA hS hin1 hy1 dL_law_819 ?_
  refine lv_aload_n hx hb dL_law_820 rfl (lv_at hl 0 rfl) ?_
  refine lv_iload hx hb dL_law_821 (lv_at hl 4 rfl) ?_
  refine lv_iconst (v := 2) hx hb dL_law_823 (by decide) ?_
  refine lv_iadd hx hb dL_law_824 ?_
  refine sld9 (v := y2) hx hb hX hbl hbA hS hin2 hy2 dL_law_825 ?_
  refine lv_aload_n hx hb dL_law_826 rfl (lv_at hl 0 rfl) ?_
  refine lv_iload hx hb dL_law_827 (lv_at hl 4 rfl) ?_
  refine lv_iconst (v := 3) hx hb dL_law_829 (by decide) ?_
  refine lv_iadd hx hb dL_law_830 ?_
  refine sld9 (v := y3) hx hb hX hbl hbA hS hin3 hy3 dL_law_831 ?_
  refine lv_aload_n hx hb dL_law_832 rfl (lv_at hl 0 rfl) ?_
  refine lv_iload hx hb dL_law_833 (lv_at hl 4 rfl) ?_
  refine lv_iconst (v := 4) hx hb dL_law_835 (by decide) ?_
  refine lv_iadd hx hb dL_law_836 ?_
  refine sld9 (v := y4) hx hb hX hbl hbA hS hin4 hy4 dL_law_837 ?_
  refine lv_aload_n hx hb dL_law_838 rfl (lv_at hl 0 rfl) ?_
  refine lv_iload hx hb dL_law_839 (lv_at hl 4 rfl) ?_
  refine lv_iconst (v := 5) hx hb dL_law_841 (by decide) ?_
  refine lv_iadd hx hb dL_law_842 ?_
  refine sld9 (v := y5) hx hb hX hbl hbA hS hin5 hy5 dL_law_843 ?_
  refine lv_aload_n hx hb dL_law_844 rfl (lv_at hl 0 rfl) ?_
  refine lv_iload hx hb dL_law_845 (lv_at hl 4 rfl) ?_
  refine lv_bipush (v := 6) hx hb dL_law_847 (by decide) ?_
  refine lv_iadd hx hb dL_law_849 ?_
  refine sld9 (v := y6) hx hb hX hbl hbA hS hin6 hy6 dL_law_850 ?_
  obtain ⟨⟨r, uA⟩, hfX, hqX⟩ := tfX11_read_0 y1 y2 y3 y4 y5 y6 u hIX
  refine lg_i (V := VX cy aX st) (Ad := AX aX) (As := [.int y1, .int y2, .int y3, .int y4, .int y5, .int y6]) (rest := []) ⟨hx, hb, hml, hown, fun w h => hts0 w (gw_X11_read w h)⟩ hA0 hK hPX hS (fun q h => h.elim (hAX q) (fun z => Nat.le_trans hS.1 z)) (metX11_read_0 l D cy aX st hJX H.size y1 y2 y3 y4 y5 y6 hfX) (cwV 6 (fun w h => hts0 w (gw_X11_read w h)) gx_X11_read rfl rfl rfl (by decide +kernel) ⟨Nat.le_of_ble_eq_true rfl, Nat.le_of_ble_eq_true rfl⟩) 0 11 rfl rfl rfl hl.1 rfl (Nat.le_of_ble_eq_true rfl) dL_law_851 hfit (fun H1 locs1 hP1 hkeep hS1 => ?_)
  have hPM1 := hkeep _ hPM (fun k q hq => hdis _ (VM_mem hq))
  have hPo1 := hkeep _ hPo (fun k q hq => by rw [oat hq]; exact hoX)
  have hIX1 : IX uA := hqX.1.1
  have hFX := hqX.1.2
  have hfrX := hqX.1.2.1
  have hrwX := hqX.1.2.2.1
  clear hPX hPM hPo hS hkeep
  have hPX := hP1
  have hPM := hPM1
  have hPo := hPo1
  have hS := hS1
  clear hP1 hPM1 hPo1 hS1 hqX
  generalize H1 = H at hPX hPo hPM hS ⊢
  generalize locs1 = locs at hS ⊢
  refine lv_pop hx hb dL_law_854 rfl ?_
  refine lv_aload_n hx hb dL_law_855 rfl (lv_at hl 2 rfl) ?_
  refine lv_aload_n hx hb dL_law_856 rfl (lv_at hl 0 rfl) ?_
  refine lv_iload hx hb dL_law_857 (lv_at hl 4 rfl) ?_
  refine lv_iconst (v := 1) hx hb dL_law_859 (by decide) ?_
  refine lv_iadd hx hb dL_law_860 ?_
  refine sld9 (v := y1) hx hb hX hbl hbA hS hin1 hy1 dL_law_861 ?_
  refine lv_aload_n hx hb dL_law_862 rfl (lv_at hl 0 rfl) ?_
  refine lv_iload hx hb dL_law_863 (lv_at hl 4 rfl) ?_
  refine lv_iconst (v := 2) hx hb dL_law_865 (by decide) ?_
  refine lv_iadd hx hb dL_law_866 ?_
  refine sld9 (v := y2) hx hb hX hbl hbA hS hin2 hy2 dL_law_867 ?_
  refine lv_aload_n hx hb dL_law_868 rfl (lv_at hl 0 rfl) ?_
  refine lv_iload hx hb dL_law_869 (lv_at hl 4 rfl) ?_
  refine lv_iconst (v := 3) hx hb dL_law_871 (by decide) ?_
  refine lv_iadd hx hb dL_law_872 ?_
  refine sld9 (v := y3) hx hb hX hbl hbA hS hin3 hy3 dL_law_873 ?_
  refine lv_aload_n hx hb dL_law_874 rfl (lv_at hl 0 rfl) ?_
  refine lv_iload hx hb dL_law_875 (lv_at hl 4 rfl) ?_
  refine lv_iconst (v := 4) hx hb dL_law_877 (by decide) ?_
  refine lv_iadd hx hb dL_law_878 ?_
  refine sld9 (v := y4) hx hb hX hbl hbA hS hin4 hy4 dL_law_879 ?_
  refine lv_aload_n hx hb dL_law_880 rfl (lv_at hl 0 rfl) ?_
  refine lv_iload hx hb dL_law_881 (lv_at hl 4 rfl) ?_
  refine lv_iconst (v := 5) hx hb dL_law_883 (by decide) ?_
  refine lv_iadd hx hb dL_law_884 ?_
  refine sld9 (v := y5) hx hb hX hbl hbA hS hin5 hy5 dL_law_885 ?_
  refine lv_aload_n hx hb dL_law_886 rfl (lv_at hl 0 rfl) ?_
  refine lv_iload hx hb dL_law_887 (lv_at hl 4 rfl) ?_
  refine lv_bipush (v := 6) hx hb dL_law_889 (by decide) ?_
  refine lv_iadd hx hb dL_law_891 ?_
  refine sld9 (v := y6) hx hb hX hbl hbA hS hin6 hy6 dL_law_892 ?_
  obtain ⟨⟨rM, vA⟩, hfM, hqM⟩ := tfX12_read_0 y1 y2 y3 y4 y5 y6 v hIM
  refine lg_i (V := VM cy aM st) (Ad := AM aM) (As := [.int y1, .int y2, .int y3, .int y4, .int y5, .int y6]) (rest := []) ⟨hx, hb, hml, hown, fun w h => hts0 w (gw_X12_read w h)⟩ hA0 hK hPM hS (fun q h => h.elim (hAM q) (fun z => Nat.le_trans hS.1 z)) (metX12_read_0 l D cy aM st hJM H.size y1 y2 y3 y4 y5 y6 hfM) (cwV 6 (fun w h => hts0 w (gw_X12_read w h)) gx_X12_read rfl rfl rfl (by decide +kernel) ⟨Nat.le_of_ble_eq_true rfl, Nat.le_of_ble_eq_true rfl⟩) 0 12 rfl rfl rfl hl.1 rfl (Nat.le_of_ble_eq_true rfl) dL_law_893 hfit (fun H1 locs1 hP1 hkeep hS1 => ?_)
  have hPX1 := hkeep _ hPX (fun k q hq hz => hdis _ hz ⟨k, (VX_adr hq).1⟩)
  have hPo1 := hkeep _ hPo (fun k q hq => by rw [oat hq]; exact hoM)
  have hEv1 : EvM vA := EvM_fr (hqM.1.2.1 13 (by decide)) (hqM.1.2.1 14 (by decide)) (hqM.1.2.1 21 (by decide)) (hqM.1.2.2.1 33 (by decide)) hEv
  obtain ⟨er, htie1⟩ := read_eq hIX hIM htie hfX hfM
  have hrow1 : TieR uA vA := TieR_fr (hfrX 36 (by decide)) (hrwX 63 (by decide)) (hrwX 64 (by decide)) (hrwX 65 (by decide)) (hqM.1.2.2.1 36 (by decide)) (hqM.1.2.2.1 37 (by decide)) (hqM.1.2.2.1 38 (by decide)) hrow
  have htape1 : TieT uA vA := TieT_fr (hfrX 1 (by decide)) (hrwX 13 (by decide)) (hqM.1.2.1 3 (by decide)) (hqM.1.2.2.1 1 (by decide)) htape
  have hcnt1 : TieC uA vA := TieC_fr (hfrX 5 (by decide)) (hfrX 6 (by decide)) (hfrX 7 (by decide)) (hqM.1.2.2.1 4 (by decide)) hcnt
  have hpar1 : TieP uA vA := TieP_fr (hfrX 8 (by decide)) (hfrX 29 (by decide)) (hfrX 9 (by decide)) (hfrX 0 (by decide)) (hrwX 52 (by decide)) (hqM.1.2.1 12 (by decide)) (hqM.1.2.1 21 (by decide)) (hqM.1.2.1 14 (by decide)) (hqM.1.2.2.1 33 (by decide)) hpar
  have hIM1 : IM vA := hqM.1.1
  clear hPX hPM hPo hS hIM hEv htie hrow htape hcnt hpar hkeep hfrX hrwX hIX
  have hPX := hPX1
  have hPM := hP1
  have hPo := hPo1
  have hS := hS1
  have hIM := hIM1
  have hEv := hEv1
  have htie := htie1
  have hrow := hrow1
  have htape := htape1
  have hcnt := hcnt1
  have hpar := hpar1
  have hIX := hIX1
  clear hIX1
  clear hP1 hPX1 hPo1 hS1 hIM1 hEv1 htie1 hrow1 htape1 hcnt1 hpar1 hqM
  generalize H1 = H at hPX hPo hPM hS ⊢
  generalize locs1 = locs at hS ⊢
  refine lv_pop hx hb dL_law_896 rfl ?_
  refine lv_goto (tgt := 1930) hx hb dL_law_897 (by decide) ?_
  refine W.widen (k := cells + 2) (n := slots + 122) (Nat.le_add_right _ _) (Nat.le_add_right _ _) ?_
  exact kk aX uA vA f H locs ls ⟨rfl, hJX, hAX, hdis, hoX, hPX, hPM, hPo, hS, hIX, hIM, hEv, htie, hrow, htape, hcnt, hpar⟩ hl
set_option maxHeartbeats 4000000 in
set_option maxRecDepth 100000 in
theorem case_11 {p : Program} {e : Env} {s : State} {m : MethodId} {below : List Frame} {meth : Method} {c : Code} (l : Launch) (hfl : l.stackTraces = false) {b L : Nat} {xs : Nat → Int32} {D : va_G} {cy : Nat → ClassId} {st aM : Nat → Nat} {o x0 : Nat} {aX : Nat → Nat} {u v : SX} {f : Nat → Int64} {H : Heap} {locs : List Loc} {ls : Array Slot} {i : Int32} {cells slots : Nat} {Q : State → Prop} (F : LF p s m meth c b L xs D cy st aM o) (I : LI s D cy st aM o x0 aX u v f H locs) (hi0 : 0 ≤ i.toInt) (hi9 : i.toInt + 9 ≤ (L : Int)) (hcl : cells + 2 ≤ room_1.cells) (hsl : slots + 122 ≤ room_1.slots) (hl : lv_has ls 7 [(0, .ref b), (1, .ref x0), (2, .ref (aM 0)), (3, .ref o), (4, .int i)]) (kk : ∀ (aX : Nat → Nat) (u v : SX) (f : Nat → Int64) (H : Heap) (locs : List Loc) (ls : Array Slot), LI s D cy st aM o x0 aX u v f H locs → lv_has ls 7 [(0, .ref b), (1, .ref x0), (2, .ref (aM 0)), (3, .ref o), (4, .int i)] → W p l e room_1 s m #[Value.ref b] below meth c H locs (cells + 2) (slots + 122) Q (F0 m 1930 ls [])) : W p l e room_1 s m #[Value.ref b] below meth c H locs cells slots Q (F0 m 900 ls []) := by
  obtain ⟨C0, hL, hK, hJM, hAM, hoM, hso, hst, hE, hCL⟩ := F
  obtain ⟨hx, hb, hr, hml, hown, hts0, hX, hbl, hlocks, hgv⟩ := C0
  obtain ⟨hx0, hJX, hAX, hdis, hoX, hPX, hPM, hPo, hS, hIX, hIM, hEv, htie, hrow, htape, hcnt, hpar⟩ := I
  have hts : ∀ w ∈ wsL_law, w.before #[Value.ref b] s = true := fun w h => hts0 w (wsL_law_in w h)
  have hbA : ¬ (fun q : Nat => s.heap.size ≤ q) b := Nat.not_le.mpr hbl
  have hA0 : ∀ q, (fun q : Nat => s.heap.size ≤ q) q → st 100 ≤ q := fun q h => by rw [hst]; exact h
  have hfit : cells ≤ room_1.cells ∧ slots ≤ room_1.slots := ⟨Nat.le_trans (Nat.le_add_right _ _) hcl, Nat.le_trans (Nat.le_add_right _ _) hsl⟩
  subst hx0
  obtain ⟨y1, hy1⟩ : ∃ y, xs (i + 1).toNatClampNeg = y := ⟨_, rfl⟩
  have hin1 : vp_in (i + 1) L := in9 (show (1 : Int32).toInt = 1 by decide) hi0 hi9 hL (by decide) (by decide)
  obtain ⟨y2, hy2⟩ : ∃ y, xs (i + 2).toNatClampNeg = y := ⟨_, rfl⟩
  have hin2 : vp_in (i + 2) L := in9 (show (2 : Int32).toInt = 2 by decide) hi0 hi9 hL (by decide) (by decide)
  obtain ⟨y3, hy3⟩ : ∃ y, xs (i + 3).toNatClampNeg = y := ⟨_, rfl⟩
  have hin3 : vp_in (i + 3) L := in9 (show (3 : Int32).toInt = 3 by decide) hi0 hi9 hL (by decide) (by decide)
  refine lv_aload_n hx hb dL_law_900 rfl (lv_at hl 1 rfl) ?_
  refine lv_aload_n hx hb dL_law_901 rfl (lv_at hl 0 rfl) ?_
  refine lv_iload hx hb dL_law_902 (lv_at hl 4 rfl) ?_
  refine lv_iconst (v := 1) hx hb dL_law_904 (by decide) ?_
  refine lv_iadd hx hb dL_law_905 ?_
  refine sld9 (v := y1) hx hb hX hbl hbA hS hin1 hy1 dL_law_906 ?_
  refine lv_aload_n hx hb dL_law_907 rfl (lv_at hl 0 rfl) ?_
  refine lv_iload hx hb dL_law_908 (lv_at hl 4 rfl) ?_
  refine lv_iconst (v := 2) hx hb dL_law_910 (by decide) ?_
  refine lv_iadd hx hb dL_law_911 ?_
  refine sld9 (v := y2) hx hb hX hbl hbA hS hin2 hy2 dL_law_912 ?_
  refine lv_aload_n hx hb dL_law_913 rfl (lv_at hl 0 rfl) ?_
  refine lv_iload hx hb dL_law_914 (lv_at hl 4 rfl) ?_
  refine lv_iconst (v := 3) hx hb dL_law_916 (by decide) ?_
  refine lv_iadd hx hb dL_law_917 ?_
  refine sld9 (v := y3) hx hb hX hbl hbA hS hin3 hy3 dL_law_918 ?_
  obtain ⟨⟨r, uA⟩, hfX, hqX⟩ := tfX11_left_0 y1 y2 y3 u hIX
  refine lg_i (V := VX cy aX st) (Ad := AX aX) (As := [.int y1, .int y2, .int y3]) (rest := []) ⟨hx, hb, hml, hown, fun w h => hts0 w (gw_X11_left w h)⟩ hA0 hK hPX hS (fun q h => h.elim (hAX q) (fun z => Nat.le_trans hS.1 z)) (metX11_left_0 l D cy aX st hJX H.size y1 y2 y3 hfX) (cwV 3 (fun w h => hts0 w (gw_X11_left w h)) gx_X11_left rfl rfl rfl (by decide +kernel) ⟨Nat.le_of_ble_eq_true rfl, Nat.le_of_ble_eq_true rfl⟩) 0 11 rfl rfl rfl hl.1 rfl (Nat.le_of_ble_eq_true rfl) dL_law_919 hfit (fun H1 locs1 hP1 hkeep hS1 => ?_)
  have hPM1 := hkeep _ hPM (fun k q hq => hdis _ (VM_mem hq))
  have hPo1 := hkeep _ hPo (fun k q hq => by rw [oat hq]; exact hoX)
  have hIX1 : IX uA := hqX.1.1
  have hFX := hqX.1.2
  have hfrX := hqX.1.2.1
  have hrwX := hqX.1.2.2.1
  clear hPX hPM hPo hS hkeep
  have hPX := hP1
  have hPM := hPM1
  have hPo := hPo1
  have hS := hS1
  clear hP1 hPM1 hPo1 hS1 hqX
  generalize H1 = H at hPX hPo hPM hS ⊢
  generalize locs1 = locs at hS ⊢
  refine lv_pop hx hb dL_law_922 rfl ?_
  refine lv_aload_n hx hb dL_law_923 rfl (lv_at hl 2 rfl) ?_
  refine lv_aload_n hx hb dL_law_924 rfl (lv_at hl 0 rfl) ?_
  refine lv_iload hx hb dL_law_925 (lv_at hl 4 rfl) ?_
  refine lv_iconst (v := 1) hx hb dL_law_927 (by decide) ?_
  refine lv_iadd hx hb dL_law_928 ?_
  refine sld9 (v := y1) hx hb hX hbl hbA hS hin1 hy1 dL_law_929 ?_
  refine lv_aload_n hx hb dL_law_930 rfl (lv_at hl 0 rfl) ?_
  refine lv_iload hx hb dL_law_931 (lv_at hl 4 rfl) ?_
  refine lv_iconst (v := 2) hx hb dL_law_933 (by decide) ?_
  refine lv_iadd hx hb dL_law_934 ?_
  refine sld9 (v := y2) hx hb hX hbl hbA hS hin2 hy2 dL_law_935 ?_
  refine lv_aload_n hx hb dL_law_936 rfl (lv_at hl 0 rfl) ?_
  refine lv_iload hx hb dL_law_937 (lv_at hl 4 rfl) ?_
  refine lv_iconst (v := 3) hx hb dL_law_939 (by decide) ?_
  refine lv_iadd hx hb dL_law_940 ?_
  refine sld9 (v := y3) hx hb hX hbl hbA hS hin3 hy3 dL_law_941 ?_
  obtain ⟨⟨rM, vA⟩, hfM, hqM⟩ := tfX12_left_0 y1 y2 y3 v hIM
  refine lg_i (V := VM cy aM st) (Ad := AM aM) (As := [.int y1, .int y2, .int y3]) (rest := []) ⟨hx, hb, hml, hown, fun w h => hts0 w (gw_X12_left w h)⟩ hA0 hK hPM hS (fun q h => h.elim (hAM q) (fun z => Nat.le_trans hS.1 z)) (metX12_left_0 l D cy aM st hJM H.size y1 y2 y3 hfM) (cwV 3 (fun w h => hts0 w (gw_X12_left w h)) gx_X12_left rfl rfl rfl (by decide +kernel) ⟨Nat.le_of_ble_eq_true rfl, Nat.le_of_ble_eq_true rfl⟩) 0 12 rfl rfl rfl hl.1 rfl (Nat.le_of_ble_eq_true rfl) dL_law_942 hfit (fun H1 locs1 hP1 hkeep hS1 => ?_)
  have hPX1 := hkeep _ hPX (fun k q hq hz => hdis _ hz ⟨k, (VX_adr hq).1⟩)
  have hPo1 := hkeep _ hPo (fun k q hq => by rw [oat hq]; exact hoM)
  have hEv1 : EvM vA := EvM_fr (hqM.1.2.1 13 (by decide)) (hqM.1.2.1 14 (by decide)) (hqM.1.2.1 21 (by decide)) (hqM.1.2.2.1 33 (by decide)) hEv
  have htie1 : Tie uA vA := Tie_fr hfrX hqM.1.2.1 (by decide) htie
  have hrow1 : TieR uA vA := TieR_fr (hfrX 36 (by decide)) (hrwX 63 (by decide)) (hrwX 64 (by decide)) (hrwX 65 (by decide)) (hqM.1.2.2.1 36 (by decide)) (hqM.1.2.2.1 37 (by decide)) (hqM.1.2.2.1 38 (by decide)) hrow
  have htape1 : TieT uA vA := TieT_fr (hfrX 1 (by decide)) (hrwX 13 (by decide)) (hqM.1.2.1 3 (by decide)) (hqM.1.2.2.1 1 (by decide)) htape
  have hcnt1 : TieC uA vA := TieC_fr (hfrX 5 (by decide)) (hfrX 6 (by decide)) (hfrX 7 (by decide)) (hqM.1.2.2.1 4 (by decide)) hcnt
  have hpar1 : TieP uA vA := TieP_fr (hfrX 8 (by decide)) (hfrX 29 (by decide)) (hfrX 9 (by decide)) (hfrX 0 (by decide)) (hrwX 52 (by decide)) (hqM.1.2.1 12 (by decide)) (hqM.1.2.1 21 (by decide)) (hqM.1.2.1 14 (by decide)) (hqM.1.2.2.1 33 (by decide)) hpar
  have hIM1 : IM vA := hqM.1.1
  clear hPX hPM hPo hS hIM hEv htie hrow htape hcnt hpar hkeep hfrX hrwX hIX
  have hPX := hPX1
  have hPM := hP1
  have hPo := hPo1
  have hS := hS1
  have hIM := hIM1
  have hEv := hEv1
  have htie := htie1
  have hrow := hrow1
  have htape := htape1
  have hcnt := hcnt1
  have hpar := hpar1
  have hIX := hIX1
  clear hIX1
  clear hP1 hPX1 hPo1 hS1 hIM1 hEv1 htie1 hrow1 htape1 hcnt1 hpar1 hqM
  generalize H1 = H at hPX hPo hPM hS ⊢
  generalize locs1 = locs at hS ⊢
  refine lv_pop hx hb dL_law_945 rfl ?_
  refine lv_goto (tgt := 1930) hx hb dL_law_946 (by decide) ?_
  refine W.widen (k := cells + 2) (n := slots + 122) (Nat.le_add_right _ _) (Nat.le_add_right _ _) ?_
  exact kk aX uA vA f H locs ls ⟨rfl, hJX, hAX, hdis, hoX, hPX, hPM, hPo, hS, hIX, hIM, hEv, htie, hrow, htape, hcnt, hpar⟩ hl
set_option maxHeartbeats 4000000 in
set_option maxRecDepth 100000 in
theorem case_12 {p : Program} {e : Env} {s : State} {m : MethodId} {below : List Frame} {meth : Method} {c : Code} (l : Launch) (hfl : l.stackTraces = false) {b L : Nat} {xs : Nat → Int32} {D : va_G} {cy : Nat → ClassId} {st aM : Nat → Nat} {o x0 : Nat} {aX : Nat → Nat} {u v : SX} {f : Nat → Int64} {H : Heap} {locs : List Loc} {ls : Array Slot} {i : Int32} {cells slots : Nat} {Q : State → Prop} (F : LF p s m meth c b L xs D cy st aM o) (I : LI s D cy st aM o x0 aX u v f H locs) (hi0 : 0 ≤ i.toInt) (hi9 : i.toInt + 9 ≤ (L : Int)) (hcl : cells + 2 ≤ room_1.cells) (hsl : slots + 122 ≤ room_1.slots) (hl : lv_has ls 7 [(0, .ref b), (1, .ref x0), (2, .ref (aM 0)), (3, .ref o), (4, .int i)]) (kk : ∀ (aX : Nat → Nat) (u v : SX) (f : Nat → Int64) (H : Heap) (locs : List Loc) (ls : Array Slot), LI s D cy st aM o x0 aX u v f H locs → lv_has ls 7 [(0, .ref b), (1, .ref x0), (2, .ref (aM 0)), (3, .ref o), (4, .int i)] → W p l e room_1 s m #[Value.ref b] below meth c H locs (cells + 2) (slots + 122) Q (F0 m 1930 ls [])) : W p l e room_1 s m #[Value.ref b] below meth c H locs cells slots Q (F0 m 949 ls []) := by
  obtain ⟨C0, hL, hK, hJM, hAM, hoM, hso, hst, hE, hCL⟩ := F
  obtain ⟨hx, hb, hr, hml, hown, hts0, hX, hbl, hlocks, hgv⟩ := C0
  obtain ⟨hx0, hJX, hAX, hdis, hoX, hPX, hPM, hPo, hS, hIX, hIM, hEv, htie, hrow, htape, hcnt, hpar⟩ := I
  have hts : ∀ w ∈ wsL_law, w.before #[Value.ref b] s = true := fun w h => hts0 w (wsL_law_in w h)
  have hbA : ¬ (fun q : Nat => s.heap.size ≤ q) b := Nat.not_le.mpr hbl
  have hA0 : ∀ q, (fun q : Nat => s.heap.size ≤ q) q → st 100 ≤ q := fun q h => by rw [hst]; exact h
  have hfit : cells ≤ room_1.cells ∧ slots ≤ room_1.slots := ⟨Nat.le_trans (Nat.le_add_right _ _) hcl, Nat.le_trans (Nat.le_add_right _ _) hsl⟩
  subst hx0
  obtain ⟨y1, hy1⟩ : ∃ y, xs (i + 1).toNatClampNeg = y := ⟨_, rfl⟩
  have hin1 : vp_in (i + 1) L := in9 (show (1 : Int32).toInt = 1 by decide) hi0 hi9 hL (by decide) (by decide)
  obtain ⟨y2, hy2⟩ : ∃ y, xs (i + 2).toNatClampNeg = y := ⟨_, rfl⟩
  have hin2 : vp_in (i + 2) L := in9 (show (2 : Int32).toInt = 2 by decide) hi0 hi9 hL (by decide) (by decide)
  refine lv_aload_n hx hb dL_law_949 rfl (lv_at hl 1 rfl) ?_
  refine lv_aload_n hx hb dL_law_950 rfl (lv_at hl 0 rfl) ?_
  refine lv_iload hx hb dL_law_951 (lv_at hl 4 rfl) ?_
  refine lv_iconst (v := 1) hx hb dL_law_953 (by decide) ?_
  refine lv_iadd hx hb dL_law_954 ?_
  refine sld9 (v := y1) hx hb hX hbl hbA hS hin1 hy1 dL_law_955 ?_
  refine lv_aload_n hx hb dL_law_956 rfl (lv_at hl 0 rfl) ?_
  refine lv_iload hx hb dL_law_957 (lv_at hl 4 rfl) ?_
  refine lv_iconst (v := 2) hx hb dL_law_959 (by decide) ?_
  refine lv_iadd hx hb dL_law_960 ?_
  refine sld9 (v := y2) hx hb hX hbl hbA hS hin2 hy2 dL_law_961 ?_
  obtain ⟨⟨r, uA⟩, hfX, hqX⟩ := tfX11_most_0 y1 y2 u hIX
  refine lg_i (V := VX cy aX st) (Ad := AX aX) (As := [.int y1, .int y2]) (rest := []) ⟨hx, hb, hml, hown, fun w h => hts0 w (gw_X11_most w h)⟩ hA0 hK hPX hS (fun q h => h.elim (hAX q) (fun z => Nat.le_trans hS.1 z)) (metX11_most_0 l D cy aX st hJX H.size y1 y2 hfX) (cwV 2 (fun w h => hts0 w (gw_X11_most w h)) gx_X11_most rfl rfl rfl (by decide +kernel) ⟨Nat.le_of_ble_eq_true rfl, Nat.le_of_ble_eq_true rfl⟩) 0 11 rfl rfl rfl hl.1 rfl (Nat.le_of_ble_eq_true rfl) dL_law_962 hfit (fun H1 locs1 hP1 hkeep hS1 => ?_)
  have hPM1 := hkeep _ hPM (fun k q hq => hdis _ (VM_mem hq))
  have hPo1 := hkeep _ hPo (fun k q hq => by rw [oat hq]; exact hoX)
  have hIX1 : IX uA := hqX.1.1
  have hFX := hqX.1.2
  have hfrX := hqX.1.2.1
  have hrwX := hqX.1.2.2.1
  clear hPX hPM hPo hS hkeep
  have hPX := hP1
  have hPM := hPM1
  have hPo := hPo1
  have hS := hS1
  clear hP1 hPM1 hPo1 hS1 hqX
  generalize H1 = H at hPX hPo hPM hS ⊢
  generalize locs1 = locs at hS ⊢
  refine lv_pop hx hb dL_law_965 rfl ?_
  refine lv_aload_n hx hb dL_law_966 rfl (lv_at hl 2 rfl) ?_
  refine lv_aload_n hx hb dL_law_967 rfl (lv_at hl 0 rfl) ?_
  refine lv_iload hx hb dL_law_968 (lv_at hl 4 rfl) ?_
  refine lv_iconst (v := 1) hx hb dL_law_970 (by decide) ?_
  refine lv_iadd hx hb dL_law_971 ?_
  refine sld9 (v := y1) hx hb hX hbl hbA hS hin1 hy1 dL_law_972 ?_
  refine lv_aload_n hx hb dL_law_973 rfl (lv_at hl 0 rfl) ?_
  refine lv_iload hx hb dL_law_974 (lv_at hl 4 rfl) ?_
  refine lv_iconst (v := 2) hx hb dL_law_976 (by decide) ?_
  refine lv_iadd hx hb dL_law_977 ?_
  refine sld9 (v := y2) hx hb hX hbl hbA hS hin2 hy2 dL_law_978 ?_
  obtain ⟨⟨rM, vA⟩, hfM, hqM⟩ := tfX12_most__0 y1 y2 v hIM
  refine lg_i (V := VM cy aM st) (Ad := AM aM) (As := [.int y1, .int y2]) (rest := []) ⟨hx, hb, hml, hown, fun w h => hts0 w (gw_X12_most_ w h)⟩ hA0 hK hPM hS (fun q h => h.elim (hAM q) (fun z => Nat.le_trans hS.1 z)) (metX12_most__0 l D cy aM st hJM H.size y1 y2 hfM) (cwV 2 (fun w h => hts0 w (gw_X12_most_ w h)) gx_X12_most_ rfl rfl rfl (by decide +kernel) ⟨Nat.le_of_ble_eq_true rfl, Nat.le_of_ble_eq_true rfl⟩) 0 12 rfl rfl rfl hl.1 rfl (Nat.le_of_ble_eq_true rfl) dL_law_979 hfit (fun H1 locs1 hP1 hkeep hS1 => ?_)
  have hPX1 := hkeep _ hPX (fun k q hq hz => hdis _ hz ⟨k, (VX_adr hq).1⟩)
  have hPo1 := hkeep _ hPo (fun k q hq => by rw [oat hq]; exact hoM)
  have hEv1 : EvM vA := EvM_fr (hqM.1.2.1 13 (by decide)) (hqM.1.2.1 14 (by decide)) (hqM.1.2.1 21 (by decide)) (hqM.1.2.2.1 33 (by decide)) hEv
  have htie1 : Tie uA vA := Tie_fr hfrX hqM.1.2.1 (by decide) htie
  have hrow1 : TieR uA vA := TieR_fr (hfrX 36 (by decide)) (hrwX 63 (by decide)) (hrwX 64 (by decide)) (hrwX 65 (by decide)) (hqM.1.2.2.1 36 (by decide)) (hqM.1.2.2.1 37 (by decide)) (hqM.1.2.2.1 38 (by decide)) hrow
  have htape1 : TieT uA vA := TieT_fr (hfrX 1 (by decide)) (hrwX 13 (by decide)) (hqM.1.2.1 3 (by decide)) (hqM.1.2.2.1 1 (by decide)) htape
  have hcnt1 : TieC uA vA := TieC_fr (hfrX 5 (by decide)) (hfrX 6 (by decide)) (hfrX 7 (by decide)) (hqM.1.2.2.1 4 (by decide)) hcnt
  have hpar1 : TieP uA vA := TieP_fr (hfrX 8 (by decide)) (hfrX 29 (by decide)) (hfrX 9 (by decide)) (hfrX 0 (by decide)) (hrwX 52 (by decide)) (hqM.1.2.1 12 (by decide)) (hqM.1.2.1 21 (by decide)) (hqM.1.2.1 14 (by decide)) (hqM.1.2.2.1 33 (by decide)) hpar
  have hIM1 : IM vA := hqM.1.1
  clear hPX hPM hPo hS hIM hEv htie hrow htape hcnt hpar hkeep hfrX hrwX hIX
  have hPX := hPX1
  have hPM := hP1
  have hPo := hPo1
  have hS := hS1
  have hIM := hIM1
  have hEv := hEv1
  have htie := htie1
  have hrow := hrow1
  have htape := htape1
  have hcnt := hcnt1
  have hpar := hpar1
  have hIX := hIX1
  clear hIX1
  clear hP1 hPX1 hPo1 hS1 hIM1 hEv1 htie1 hrow1 htape1 hcnt1 hpar1 hqM
  generalize H1 = H at hPX hPo hPM hS ⊢
  generalize locs1 = locs at hS ⊢
  refine lv_pop hx hb dL_law_982 rfl ?_
  refine lv_goto (tgt := 1930) hx hb dL_law_983 (by decide) ?_
  refine W.widen (k := cells + 2) (n := slots + 122) (Nat.le_add_right _ _) (Nat.le_add_right _ _) ?_
  exact kk aX uA vA f H locs ls ⟨rfl, hJX, hAX, hdis, hoX, hPX, hPM, hPo, hS, hIX, hIM, hEv, htie, hrow, htape, hcnt, hpar⟩ hl
set_option maxHeartbeats 4000000 in
set_option maxRecDepth 100000 in
theorem case_13 {p : Program} {e : Env} {s : State} {m : MethodId} {below : List Frame} {meth : Method} {c : Code} (l : Launch) (hfl : l.stackTraces = false) {b L : Nat} {xs : Nat → Int32} {D : va_G} {cy : Nat → ClassId} {st aM : Nat → Nat} {o x0 : Nat} {aX : Nat → Nat} {u v : SX} {f : Nat → Int64} {H : Heap} {locs : List Loc} {ls : Array Slot} {i : Int32} {cells slots : Nat} {Q : State → Prop} (F : LF p s m meth c b L xs D cy st aM o) (I : LI s D cy st aM o x0 aX u v f H locs) (hi0 : 0 ≤ i.toInt) (hi9 : i.toInt + 9 ≤ (L : Int)) (hcl : cells + 2 ≤ room_1.cells) (hsl : slots + 122 ≤ room_1.slots) (hl : lv_has ls 7 [(0, .ref b), (1, .ref x0), (2, .ref (aM 0)), (3, .ref o), (4, .int i)]) (kk : ∀ (aX : Nat → Nat) (u v : SX) (f : Nat → Int64) (H : Heap) (locs : List Loc) (ls : Array Slot), LI s D cy st aM o x0 aX u v f H locs → lv_has ls 7 [(0, .ref b), (1, .ref x0), (2, .ref (aM 0)), (3, .ref o), (4, .int i)] → W p l e room_1 s m #[Value.ref b] below meth c H locs (cells + 2) (slots + 122) Q (F0 m 1930 ls [])) : W p l e room_1 s m #[Value.ref b] below meth c H locs cells slots Q (F0 m 986 ls []) := by
  obtain ⟨C0, hL, hK, hJM, hAM, hoM, hso, hst, hE, hCL⟩ := F
  obtain ⟨hx, hb, hr, hml, hown, hts0, hX, hbl, hlocks, hgv⟩ := C0
  obtain ⟨hx0, hJX, hAX, hdis, hoX, hPX, hPM, hPo, hS, hIX, hIM, hEv, htie, hrow, htape, hcnt, hpar⟩ := I
  have hts : ∀ w ∈ wsL_law, w.before #[Value.ref b] s = true := fun w h => hts0 w (wsL_law_in w h)
  have hbA : ¬ (fun q : Nat => s.heap.size ≤ q) b := Nat.not_le.mpr hbl
  have hA0 : ∀ q, (fun q : Nat => s.heap.size ≤ q) q → st 100 ≤ q := fun q h => by rw [hst]; exact h
  have hfit : cells ≤ room_1.cells ∧ slots ≤ room_1.slots := ⟨Nat.le_trans (Nat.le_add_right _ _) hcl, Nat.le_trans (Nat.le_add_right _ _) hsl⟩
  subst hx0
  obtain ⟨y1, hy1⟩ : ∃ y, xs (i + 1).toNatClampNeg = y := ⟨_, rfl⟩
  have hin1 : vp_in (i + 1) L := in9 (show (1 : Int32).toInt = 1 by decide) hi0 hi9 hL (by decide) (by decide)
  obtain ⟨y2, hy2⟩ : ∃ y, xs (i + 2).toNatClampNeg = y := ⟨_, rfl⟩
  have hin2 : vp_in (i + 2) L := in9 (show (2 : Int32).toInt = 2 by decide) hi0 hi9 hL (by decide) (by decide)
  refine lv_aload_n hx hb dL_law_986 rfl (lv_at hl 1 rfl) ?_
  refine lv_aload_n hx hb dL_law_987 rfl (lv_at hl 0 rfl) ?_
  refine lv_iload hx hb dL_law_988 (lv_at hl 4 rfl) ?_
  refine lv_iconst (v := 1) hx hb dL_law_990 (by decide) ?_
  refine lv_iadd hx hb dL_law_991 ?_
  refine sld9 (v := y1) hx hb hX hbl hbA hS hin1 hy1 dL_law_992 ?_
  refine lv_aload_n hx hb dL_law_993 rfl (lv_at hl 0 rfl) ?_
  refine lv_iload hx hb dL_law_994 (lv_at hl 4 rfl) ?_
  refine lv_iconst (v := 2) hx hb dL_law_996 (by decide) ?_
  refine lv_iadd hx hb dL_law_997 ?_
  refine sld9 (v := y2) hx hb hX hbl hbA hS hin2 hy2 dL_law_998 ?_
  obtain ⟨⟨r, uA⟩, hfX, hqX⟩ := tfX11_alike_0 y1 y2 u hIX
  refine lg_i (V := VX cy aX st) (Ad := AX aX) (As := [.int y1, .int y2]) (rest := []) ⟨hx, hb, hml, hown, fun w h => hts0 w (gw_X11_alike w h)⟩ hA0 hK hPX hS (fun q h => h.elim (hAX q) (fun z => Nat.le_trans hS.1 z)) (metX11_alike_0 l D cy aX st hJX H.size y1 y2 hfX) (cwV 2 (fun w h => hts0 w (gw_X11_alike w h)) gx_X11_alike rfl rfl rfl (by decide +kernel) ⟨Nat.le_of_ble_eq_true rfl, Nat.le_of_ble_eq_true rfl⟩) 0 11 rfl rfl rfl hl.1 rfl (Nat.le_of_ble_eq_true rfl) dL_law_999 hfit (fun H1 locs1 hP1 hkeep hS1 => ?_)
  have hPM1 := hkeep _ hPM (fun k q hq => hdis _ (VM_mem hq))
  have hPo1 := hkeep _ hPo (fun k q hq => by rw [oat hq]; exact hoX)
  have hIX1 : IX uA := hqX.1.1
  have hFX := hqX.1.2
  have hfrX := hqX.1.2.1
  have hrwX := hqX.1.2.2.1
  clear hPX hPM hPo hS hkeep
  have hPX := hP1
  have hPM := hPM1
  have hPo := hPo1
  have hS := hS1
  clear hP1 hPM1 hPo1 hS1 hqX
  generalize H1 = H at hPX hPo hPM hS ⊢
  generalize locs1 = locs at hS ⊢
  refine lv_pop hx hb dL_law_1002 rfl ?_
  refine lv_aload_n hx hb dL_law_1003 rfl (lv_at hl 2 rfl) ?_
  refine lv_aload_n hx hb dL_law_1004 rfl (lv_at hl 0 rfl) ?_
  refine lv_iload hx hb dL_law_1005 (lv_at hl 4 rfl) ?_
  refine lv_iconst (v := 1) hx hb dL_law_1007 (by decide) ?_
  refine lv_iadd hx hb dL_law_1008 ?_
  refine sld9 (v := y1) hx hb hX hbl hbA hS hin1 hy1 dL_law_1009 ?_
  refine lv_aload_n hx hb dL_law_1010 rfl (lv_at hl 0 rfl) ?_
  refine lv_iload hx hb dL_law_1011 (lv_at hl 4 rfl) ?_
  refine lv_iconst (v := 2) hx hb dL_law_1013 (by decide) ?_
  refine lv_iadd hx hb dL_law_1014 ?_
  refine sld9 (v := y2) hx hb hX hbl hbA hS hin2 hy2 dL_law_1015 ?_
  obtain ⟨⟨rM, vA⟩, hfM, hqM⟩ := tfX12_alike_0 y1 y2 v hIM
  refine lg_i (V := VM cy aM st) (Ad := AM aM) (As := [.int y1, .int y2]) (rest := []) ⟨hx, hb, hml, hown, fun w h => hts0 w (gw_X12_alike w h)⟩ hA0 hK hPM hS (fun q h => h.elim (hAM q) (fun z => Nat.le_trans hS.1 z)) (metX12_alike_0 l D cy aM st hJM H.size y1 y2 hfM) (cwV 2 (fun w h => hts0 w (gw_X12_alike w h)) gx_X12_alike rfl rfl rfl (by decide +kernel) ⟨Nat.le_of_ble_eq_true rfl, Nat.le_of_ble_eq_true rfl⟩) 0 12 rfl rfl rfl hl.1 rfl (Nat.le_of_ble_eq_true rfl) dL_law_1016 hfit (fun H1 locs1 hP1 hkeep hS1 => ?_)
  have hPX1 := hkeep _ hPX (fun k q hq hz => hdis _ hz ⟨k, (VX_adr hq).1⟩)
  have hPo1 := hkeep _ hPo (fun k q hq => by rw [oat hq]; exact hoM)
  have hEv1 : EvM vA := EvM_fr (hqM.1.2.1 13 (by decide)) (hqM.1.2.1 14 (by decide)) (hqM.1.2.1 21 (by decide)) (hqM.1.2.2.1 33 (by decide)) hEv
  have htie1 : Tie uA vA := Tie_fr hfrX hqM.1.2.1 (by decide) htie
  have hrow1 : TieR uA vA := TieR_fr (hfrX 36 (by decide)) (hrwX 63 (by decide)) (hrwX 64 (by decide)) (hrwX 65 (by decide)) (hqM.1.2.2.1 36 (by decide)) (hqM.1.2.2.1 37 (by decide)) (hqM.1.2.2.1 38 (by decide)) hrow
  have htape1 : TieT uA vA := TieT_fr (hfrX 1 (by decide)) (hrwX 13 (by decide)) (hqM.1.2.1 3 (by decide)) (hqM.1.2.2.1 1 (by decide)) htape
  have hcnt1 : TieC uA vA := TieC_fr (hfrX 5 (by decide)) (hfrX 6 (by decide)) (hfrX 7 (by decide)) (hqM.1.2.2.1 4 (by decide)) hcnt
  have hpar1 : TieP uA vA := TieP_fr (hfrX 8 (by decide)) (hfrX 29 (by decide)) (hfrX 9 (by decide)) (hfrX 0 (by decide)) (hrwX 52 (by decide)) (hqM.1.2.1 12 (by decide)) (hqM.1.2.1 21 (by decide)) (hqM.1.2.1 14 (by decide)) (hqM.1.2.2.1 33 (by decide)) hpar
  have hIM1 : IM vA := hqM.1.1
  clear hPX hPM hPo hS hIM hEv htie hrow htape hcnt hpar hkeep hfrX hrwX hIX
  have hPX := hPX1
  have hPM := hP1
  have hPo := hPo1
  have hS := hS1
  have hIM := hIM1
  have hEv := hEv1
  have htie := htie1
  have hrow := hrow1
  have htape := htape1
  have hcnt := hcnt1
  have hpar := hpar1
  have hIX := hIX1
  clear hIX1
  clear hP1 hPX1 hPo1 hS1 hIM1 hEv1 htie1 hrow1 htape1 hcnt1 hpar1 hqM
  generalize H1 = H at hPX hPo hPM hS ⊢
  generalize locs1 = locs at hS ⊢
  refine lv_pop hx hb dL_law_1019 rfl ?_
  refine lv_goto (tgt := 1930) hx hb dL_law_1020 (by decide) ?_
  refine W.widen (k := cells + 2) (n := slots + 122) (Nat.le_add_right _ _) (Nat.le_add_right _ _) ?_
  exact kk aX uA vA f H locs ls ⟨rfl, hJX, hAX, hdis, hoX, hPX, hPM, hPo, hS, hIX, hIM, hEv, htie, hrow, htape, hcnt, hpar⟩ hl
set_option maxHeartbeats 4000000 in
set_option maxRecDepth 100000 in
theorem case_14 {p : Program} {e : Env} {s : State} {m : MethodId} {below : List Frame} {meth : Method} {c : Code} (l : Launch) (hfl : l.stackTraces = false) {b L : Nat} {xs : Nat → Int32} {D : va_G} {cy : Nat → ClassId} {st aM : Nat → Nat} {o x0 : Nat} {aX : Nat → Nat} {u v : SX} {f : Nat → Int64} {H : Heap} {locs : List Loc} {ls : Array Slot} {i : Int32} {cells slots : Nat} {Q : State → Prop} (F : LF p s m meth c b L xs D cy st aM o) (I : LI s D cy st aM o x0 aX u v f H locs) (hi0 : 0 ≤ i.toInt) (hi9 : i.toInt + 9 ≤ (L : Int)) (hcl : cells + 2 ≤ room_1.cells) (hsl : slots + 122 ≤ room_1.slots) (hl : lv_has ls 7 [(0, .ref b), (1, .ref x0), (2, .ref (aM 0)), (3, .ref o), (4, .int i)]) (kk : ∀ (aX : Nat → Nat) (u v : SX) (f : Nat → Int64) (H : Heap) (locs : List Loc) (ls : Array Slot), LI s D cy st aM o x0 aX u v f H locs → lv_has ls 7 [(0, .ref b), (1, .ref x0), (2, .ref (aM 0)), (3, .ref o), (4, .int i)] → W p l e room_1 s m #[Value.ref b] below meth c H locs (cells + 2) (slots + 122) Q (F0 m 1930 ls [])) : W p l e room_1 s m #[Value.ref b] below meth c H locs cells slots Q (F0 m 1023 ls []) := by
  obtain ⟨C0, hL, hK, hJM, hAM, hoM, hso, hst, hE, hCL⟩ := F
  obtain ⟨hx, hb, hr, hml, hown, hts0, hX, hbl, hlocks, hgv⟩ := C0
  obtain ⟨hx0, hJX, hAX, hdis, hoX, hPX, hPM, hPo, hS, hIX, hIM, hEv, htie, hrow, htape, hcnt, hpar⟩ := I
  have hts : ∀ w ∈ wsL_law, w.before #[Value.ref b] s = true := fun w h => hts0 w (wsL_law_in w h)
  have hbA : ¬ (fun q : Nat => s.heap.size ≤ q) b := Nat.not_le.mpr hbl
  have hA0 : ∀ q, (fun q : Nat => s.heap.size ≤ q) q → st 100 ≤ q := fun q h => by rw [hst]; exact h
  have hfit : cells ≤ room_1.cells ∧ slots ≤ room_1.slots := ⟨Nat.le_trans (Nat.le_add_right _ _) hcl, Nat.le_trans (Nat.le_add_right _ _) hsl⟩
  subst hx0
  obtain ⟨y1, hy1⟩ : ∃ y, xs (i + 1).toNatClampNeg = y := ⟨_, rfl⟩
  have hin1 : vp_in (i + 1) L := in9 (show (1 : Int32).toInt = 1 by decide) hi0 hi9 hL (by decide) (by decide)
  obtain ⟨y2, hy2⟩ : ∃ y, xs (i + 2).toNatClampNeg = y := ⟨_, rfl⟩
  have hin2 : vp_in (i + 2) L := in9 (show (2 : Int32).toInt = 2 by decide) hi0 hi9 hL (by decide) (by decide)
  refine lv_aload_n hx hb dL_law_1023 rfl (lv_at hl 1 rfl) ?_
  refine lv_aload_n hx hb dL_law_1024 rfl (lv_at hl 0 rfl) ?_
  refine lv_iload hx hb dL_law_1025 (lv_at hl 4 rfl) ?_
  refine lv_iconst (v := 1) hx hb dL_law_1027 (by decide) ?_
  refine lv_iadd hx hb dL_law_1028 ?_
  refine sld9 (v := y1) hx hb hX hbl hbA hS hin1 hy1 dL_law_1029 ?_
  refine lv_aload_n hx hb dL_law_1030 rfl (lv_at hl 0 rfl) ?_
  refine lv_iload hx hb dL_law_1031 (lv_at hl 4 rfl) ?_
  refine lv_iconst (v := 2) hx hb dL_law_1033 (by decide) ?_
  refine lv_iadd hx hb dL_law_1034 ?_
  refine sld9 (v := y2) hx hb hX hbl hbA hS hin2 hy2 dL_law_1035 ?_
  obtain ⟨⟨r, uA⟩, hfX, hqX⟩ := tfX11_goes_0 y1 y2 u hIX
  refine lg_i (V := VX cy aX st) (Ad := AX aX) (As := [.int y1, .int y2]) (rest := []) ⟨hx, hb, hml, hown, fun w h => hts0 w (gw_X11_goes w h)⟩ hA0 hK hPX hS (fun q h => h.elim (hAX q) (fun z => Nat.le_trans hS.1 z)) (metX11_goes_0 l D cy aX st hJX H.size y1 y2 hfX) (cwV 2 (fun w h => hts0 w (gw_X11_goes w h)) gx_X11_goes rfl rfl rfl (by decide +kernel) ⟨Nat.le_of_ble_eq_true rfl, Nat.le_of_ble_eq_true rfl⟩) 0 11 rfl rfl rfl hl.1 rfl (Nat.le_of_ble_eq_true rfl) dL_law_1036 hfit (fun H1 locs1 hP1 hkeep hS1 => ?_)
  have hPM1 := hkeep _ hPM (fun k q hq => hdis _ (VM_mem hq))
  have hPo1 := hkeep _ hPo (fun k q hq => by rw [oat hq]; exact hoX)
  have hIX1 : IX uA := hqX.1.1
  have hFX := hqX.1.2
  have hfrX := hqX.1.2.1
  have hrwX := hqX.1.2.2.1
  clear hPX hPM hPo hS hkeep
  have hPX := hP1
  have hPM := hPM1
  have hPo := hPo1
  have hS := hS1
  clear hP1 hPM1 hPo1 hS1 hqX
  generalize H1 = H at hPX hPo hPM hS ⊢
  generalize locs1 = locs at hS ⊢
  refine lv_pop hx hb dL_law_1039 rfl ?_
  refine lv_aload_n hx hb dL_law_1040 rfl (lv_at hl 2 rfl) ?_
  refine lv_aload_n hx hb dL_law_1041 rfl (lv_at hl 0 rfl) ?_
  refine lv_iload hx hb dL_law_1042 (lv_at hl 4 rfl) ?_
  refine lv_iconst (v := 1) hx hb dL_law_1044 (by decide) ?_
  refine lv_iadd hx hb dL_law_1045 ?_
  refine sld9 (v := y1) hx hb hX hbl hbA hS hin1 hy1 dL_law_1046 ?_
  refine lv_aload_n hx hb dL_law_1047 rfl (lv_at hl 0 rfl) ?_
  refine lv_iload hx hb dL_law_1048 (lv_at hl 4 rfl) ?_
  refine lv_iconst (v := 2) hx hb dL_law_1050 (by decide) ?_
  refine lv_iadd hx hb dL_law_1051 ?_
  refine sld9 (v := y2) hx hb hX hbl hbA hS hin2 hy2 dL_law_1052 ?_
  obtain ⟨⟨rM, vA⟩, hfM, hqM⟩ := tfX12_goes_0 y1 y2 v hIM
  refine lg_i (V := VM cy aM st) (Ad := AM aM) (As := [.int y1, .int y2]) (rest := []) ⟨hx, hb, hml, hown, fun w h => hts0 w (gw_X12_goes w h)⟩ hA0 hK hPM hS (fun q h => h.elim (hAM q) (fun z => Nat.le_trans hS.1 z)) (metX12_goes_0 l D cy aM st hJM H.size y1 y2 hfM) (cwV 2 (fun w h => hts0 w (gw_X12_goes w h)) gx_X12_goes rfl rfl rfl (by decide +kernel) ⟨Nat.le_of_ble_eq_true rfl, Nat.le_of_ble_eq_true rfl⟩) 0 12 rfl rfl rfl hl.1 rfl (Nat.le_of_ble_eq_true rfl) dL_law_1053 hfit (fun H1 locs1 hP1 hkeep hS1 => ?_)
  have hPX1 := hkeep _ hPX (fun k q hq hz => hdis _ hz ⟨k, (VX_adr hq).1⟩)
  have hPo1 := hkeep _ hPo (fun k q hq => by rw [oat hq]; exact hoM)
  have hEv1 : EvM vA := EvM_fr (hqM.1.2.1 13 (by decide)) (hqM.1.2.1 14 (by decide)) (hqM.1.2.1 21 (by decide)) (hqM.1.2.2.1 33 (by decide)) hEv
  have htie1 : Tie uA vA := Tie_fr hfrX hqM.1.2.1 (by decide) htie
  have hrow1 : TieR uA vA := TieR_fr (hfrX 36 (by decide)) (hrwX 63 (by decide)) (hrwX 64 (by decide)) (hrwX 65 (by decide)) (hqM.1.2.2.1 36 (by decide)) (hqM.1.2.2.1 37 (by decide)) (hqM.1.2.2.1 38 (by decide)) hrow
  have htape1 : TieT uA vA := TieT_fr (hfrX 1 (by decide)) (hrwX 13 (by decide)) (hqM.1.2.1 3 (by decide)) (hqM.1.2.2.1 1 (by decide)) htape
  have hcnt1 : TieC uA vA := TieC_fr (hfrX 5 (by decide)) (hfrX 6 (by decide)) (hfrX 7 (by decide)) (hqM.1.2.2.1 4 (by decide)) hcnt
  have hpar1 : TieP uA vA := TieP_fr (hfrX 8 (by decide)) (hfrX 29 (by decide)) (hfrX 9 (by decide)) (hfrX 0 (by decide)) (hrwX 52 (by decide)) (hqM.1.2.1 12 (by decide)) (hqM.1.2.1 21 (by decide)) (hqM.1.2.1 14 (by decide)) (hqM.1.2.2.1 33 (by decide)) hpar
  have hIM1 : IM vA := hqM.1.1
  clear hPX hPM hPo hS hIM hEv htie hrow htape hcnt hpar hkeep hfrX hrwX hIX
  have hPX := hPX1
  have hPM := hP1
  have hPo := hPo1
  have hS := hS1
  have hIM := hIM1
  have hEv := hEv1
  have htie := htie1
  have hrow := hrow1
  have htape := htape1
  have hcnt := hcnt1
  have hpar := hpar1
  have hIX := hIX1
  clear hIX1
  clear hP1 hPX1 hPo1 hS1 hIM1 hEv1 htie1 hrow1 htape1 hcnt1 hpar1 hqM
  generalize H1 = H at hPX hPo hPM hS ⊢
  generalize locs1 = locs at hS ⊢
  refine lv_pop hx hb dL_law_1056 rfl ?_
  refine lv_goto (tgt := 1930) hx hb dL_law_1057 (by decide) ?_
  refine W.widen (k := cells + 2) (n := slots + 122) (Nat.le_add_right _ _) (Nat.le_add_right _ _) ?_
  exact kk aX uA vA f H locs ls ⟨rfl, hJX, hAX, hdis, hoX, hPX, hPM, hPo, hS, hIX, hIM, hEv, htie, hrow, htape, hcnt, hpar⟩ hl
set_option maxHeartbeats 4000000 in
set_option maxRecDepth 100000 in
theorem case_15 {p : Program} {e : Env} {s : State} {m : MethodId} {below : List Frame} {meth : Method} {c : Code} (l : Launch) (hfl : l.stackTraces = false) {b L : Nat} {xs : Nat → Int32} {D : va_G} {cy : Nat → ClassId} {st aM : Nat → Nat} {o x0 : Nat} {aX : Nat → Nat} {u v : SX} {f : Nat → Int64} {H : Heap} {locs : List Loc} {ls : Array Slot} {i : Int32} {cells slots : Nat} {Q : State → Prop} (F : LF p s m meth c b L xs D cy st aM o) (I : LI s D cy st aM o x0 aX u v f H locs) (hi0 : 0 ≤ i.toInt) (hi9 : i.toInt + 9 ≤ (L : Int)) (hcl : cells + 2 ≤ room_1.cells) (hsl : slots + 122 ≤ room_1.slots) (hl : lv_has ls 7 [(0, .ref b), (1, .ref x0), (2, .ref (aM 0)), (3, .ref o), (4, .int i)]) (kk : ∀ (aX : Nat → Nat) (u v : SX) (f : Nat → Int64) (H : Heap) (locs : List Loc) (ls : Array Slot), LI s D cy st aM o x0 aX u v f H locs → lv_has ls 7 [(0, .ref b), (1, .ref x0), (2, .ref (aM 0)), (3, .ref o), (4, .int i)] → W p l e room_1 s m #[Value.ref b] below meth c H locs (cells + 2) (slots + 122) Q (F0 m 1930 ls [])) : W p l e room_1 s m #[Value.ref b] below meth c H locs cells slots Q (F0 m 1060 ls []) := by
  obtain ⟨C0, hL, hK, hJM, hAM, hoM, hso, hst, hE, hCL⟩ := F
  obtain ⟨hx, hb, hr, hml, hown, hts0, hX, hbl, hlocks, hgv⟩ := C0
  obtain ⟨hx0, hJX, hAX, hdis, hoX, hPX, hPM, hPo, hS, hIX, hIM, hEv, htie, hrow, htape, hcnt, hpar⟩ := I
  have hts : ∀ w ∈ wsL_law, w.before #[Value.ref b] s = true := fun w h => hts0 w (wsL_law_in w h)
  have hbA : ¬ (fun q : Nat => s.heap.size ≤ q) b := Nat.not_le.mpr hbl
  have hA0 : ∀ q, (fun q : Nat => s.heap.size ≤ q) q → st 100 ≤ q := fun q h => by rw [hst]; exact h
  have hfit : cells ≤ room_1.cells ∧ slots ≤ room_1.slots := ⟨Nat.le_trans (Nat.le_add_right _ _) hcl, Nat.le_trans (Nat.le_add_right _ _) hsl⟩
  subst hx0
  obtain ⟨y1, hy1⟩ : ∃ y, xs (i + 1).toNatClampNeg = y := ⟨_, rfl⟩
  have hin1 : vp_in (i + 1) L := in9 (show (1 : Int32).toInt = 1 by decide) hi0 hi9 hL (by decide) (by decide)
  obtain ⟨y2, hy2⟩ : ∃ y, xs (i + 2).toNatClampNeg = y := ⟨_, rfl⟩
  have hin2 : vp_in (i + 2) L := in9 (show (2 : Int32).toInt = 2 by decide) hi0 hi9 hL (by decide) (by decide)
  obtain ⟨y3, hy3⟩ : ∃ y, xs (i + 3).toNatClampNeg = y := ⟨_, rfl⟩
  have hin3 : vp_in (i + 3) L := in9 (show (3 : Int32).toInt = 3 by decide) hi0 hi9 hL (by decide) (by decide)
  refine lv_aload_n hx hb dL_law_1060 rfl (lv_at hl 1 rfl) ?_
  refine lv_aload_n hx hb dL_law_1061 rfl (lv_at hl 0 rfl) ?_
  refine lv_iload hx hb dL_law_1062 (lv_at hl 4 rfl) ?_
  refine lv_iconst (v := 1) hx hb dL_law_1064 (by decide) ?_
  refine lv_iadd hx hb dL_law_1065 ?_
  refine sld9 (v := y1) hx hb hX hbl hbA hS hin1 hy1 dL_law_1066 ?_
  refine lv_aload_n hx hb dL_law_1067 rfl (lv_at hl 0 rfl) ?_
  refine lv_iload hx hb dL_law_1068 (lv_at hl 4 rfl) ?_
  refine lv_iconst (v := 2) hx hb dL_law_1070 (by decide) ?_
  refine lv_iadd hx hb dL_law_1071 ?_
  refine sld9 (v := y2) hx hb hX hbl hbA hS hin2 hy2 dL_law_1072 ?_
  refine lv_aload_n hx hb dL_law_1073 rfl (lv_at hl 0 rfl) ?_
  refine lv_iload hx hb dL_law_1074 (lv_at hl 4 rfl) ?_
  refine lv_iconst (v := 3) hx hb dL_law_1076 (by decide) ?_
  refine lv_iadd hx hb dL_law_1077 ?_
  refine sld9 (v := y3) hx hb hX hbl hbA hS hin3 hy3 dL_law_1078 ?_
  obtain ⟨⟨r, uA⟩, hfX, hqX⟩ := tfX11_could_0 y1 y2 y3 u hIX
  refine lg_i (V := VX cy aX st) (Ad := AX aX) (As := [.int y1, .int y2, .int y3]) (rest := []) ⟨hx, hb, hml, hown, fun w h => hts0 w (gw_X11_could w h)⟩ hA0 hK hPX hS (fun q h => h.elim (hAX q) (fun z => Nat.le_trans hS.1 z)) (metX11_could_0 l D cy aX st hJX H.size y1 y2 y3 hfX) (cwV 3 (fun w h => hts0 w (gw_X11_could w h)) gx_X11_could rfl rfl rfl (by decide +kernel) ⟨Nat.le_of_ble_eq_true rfl, Nat.le_of_ble_eq_true rfl⟩) 0 11 rfl rfl rfl hl.1 rfl (Nat.le_of_ble_eq_true rfl) dL_law_1079 hfit (fun H1 locs1 hP1 hkeep hS1 => ?_)
  have hPM1 := hkeep _ hPM (fun k q hq => hdis _ (VM_mem hq))
  have hPo1 := hkeep _ hPo (fun k q hq => by rw [oat hq]; exact hoX)
  have hIX1 : IX uA := hqX.1.1
  have hFX := hqX.1.2
  have hfrX := hqX.1.2.1
  have hrwX := hqX.1.2.2.1
  clear hPX hPM hPo hS hkeep
  have hPX := hP1
  have hPM := hPM1
  have hPo := hPo1
  have hS := hS1
  clear hP1 hPM1 hPo1 hS1 hqX
  generalize H1 = H at hPX hPo hPM hS ⊢
  generalize locs1 = locs at hS ⊢
  refine lv_pop hx hb dL_law_1082 rfl ?_
  refine lv_aload_n hx hb dL_law_1083 rfl (lv_at hl 2 rfl) ?_
  refine lv_aload_n hx hb dL_law_1084 rfl (lv_at hl 0 rfl) ?_
  refine lv_iload hx hb dL_law_1085 (lv_at hl 4 rfl) ?_
  refine lv_iconst (v := 1) hx hb dL_law_1087 (by decide) ?_
  refine lv_iadd hx hb dL_law_1088 ?_
  refine sld9 (v := y1) hx hb hX hbl hbA hS hin1 hy1 dL_law_1089 ?_
  refine lv_aload_n hx hb dL_law_1090 rfl (lv_at hl 0 rfl) ?_
  refine lv_iload hx hb dL_law_1091 (lv_at hl 4 rfl) ?_
  refine lv_iconst (v := 2) hx hb dL_law_1093 (by decide) ?_
  refine lv_iadd hx hb dL_law_1094 ?_
  refine sld9 (v := y2) hx hb hX hbl hbA hS hin2 hy2 dL_law_1095 ?_
  refine lv_aload_n hx hb dL_law_1096 rfl (lv_at hl 0 rfl) ?_
  refine lv_iload hx hb dL_law_1097 (lv_at hl 4 rfl) ?_
  refine lv_iconst (v := 3) hx hb dL_law_1099 (by decide) ?_
  refine lv_iadd hx hb dL_law_1100 ?_
  refine sld9 (v := y3) hx hb hX hbl hbA hS hin3 hy3 dL_law_1101 ?_
  obtain ⟨⟨rM, vA⟩, hfM, hqM⟩ := tfX12_could_0 y1 y2 y3 v hIM
  refine lg_i (V := VM cy aM st) (Ad := AM aM) (As := [.int y1, .int y2, .int y3]) (rest := []) ⟨hx, hb, hml, hown, fun w h => hts0 w (gw_X12_could w h)⟩ hA0 hK hPM hS (fun q h => h.elim (hAM q) (fun z => Nat.le_trans hS.1 z)) (metX12_could_0 l D cy aM st hJM H.size y1 y2 y3 hfM) (cwV 3 (fun w h => hts0 w (gw_X12_could w h)) gx_X12_could rfl rfl rfl (by decide +kernel) ⟨Nat.le_of_ble_eq_true rfl, Nat.le_of_ble_eq_true rfl⟩) 0 12 rfl rfl rfl hl.1 rfl (Nat.le_of_ble_eq_true rfl) dL_law_1102 hfit (fun H1 locs1 hP1 hkeep hS1 => ?_)
  have hPX1 := hkeep _ hPX (fun k q hq hz => hdis _ hz ⟨k, (VX_adr hq).1⟩)
  have hPo1 := hkeep _ hPo (fun k q hq => by rw [oat hq]; exact hoM)
  have hEv1 : EvM vA := EvM_fr (hqM.1.2.1 13 (by decide)) (hqM.1.2.1 14 (by decide)) (hqM.1.2.1 21 (by decide)) (hqM.1.2.2.1 33 (by decide)) hEv
  have htie1 : Tie uA vA := Tie_fr hfrX hqM.1.2.1 (by decide) htie
  have hrow1 : TieR uA vA := TieR_fr (hfrX 36 (by decide)) (hrwX 63 (by decide)) (hrwX 64 (by decide)) (hrwX 65 (by decide)) (hqM.1.2.2.1 36 (by decide)) (hqM.1.2.2.1 37 (by decide)) (hqM.1.2.2.1 38 (by decide)) hrow
  have htape1 : TieT uA vA := TieT_fr (hfrX 1 (by decide)) (hrwX 13 (by decide)) (hqM.1.2.1 3 (by decide)) (hqM.1.2.2.1 1 (by decide)) htape
  have hcnt1 : TieC uA vA := TieC_fr (hfrX 5 (by decide)) (hfrX 6 (by decide)) (hfrX 7 (by decide)) (hqM.1.2.2.1 4 (by decide)) hcnt
  have hpar1 : TieP uA vA := TieP_fr (hfrX 8 (by decide)) (hfrX 29 (by decide)) (hfrX 9 (by decide)) (hfrX 0 (by decide)) (hrwX 52 (by decide)) (hqM.1.2.1 12 (by decide)) (hqM.1.2.1 21 (by decide)) (hqM.1.2.1 14 (by decide)) (hqM.1.2.2.1 33 (by decide)) hpar
  have hIM1 : IM vA := hqM.1.1
  clear hPX hPM hPo hS hIM hEv htie hrow htape hcnt hpar hkeep hfrX hrwX hIX
  have hPX := hPX1
  have hPM := hP1
  have hPo := hPo1
  have hS := hS1
  have hIM := hIM1
  have hEv := hEv1
  have htie := htie1
  have hrow := hrow1
  have htape := htape1
  have hcnt := hcnt1
  have hpar := hpar1
  have hIX := hIX1
  clear hIX1
  clear hP1 hPX1 hPo1 hS1 hIM1 hEv1 htie1 hrow1 htape1 hcnt1 hpar1 hqM
  generalize H1 = H at hPX hPo hPM hS ⊢
  generalize locs1 = locs at hS ⊢
  refine lv_pop hx hb dL_law_1105 rfl ?_
  refine lv_goto (tgt := 1930) hx hb dL_law_1106 (by decide) ?_
  refine W.widen (k := cells + 2) (n := slots + 122) (Nat.le_add_right _ _) (Nat.le_add_right _ _) ?_
  exact kk aX uA vA f H locs ls ⟨rfl, hJX, hAX, hdis, hoX, hPX, hPM, hPo, hS, hIX, hIM, hEv, htie, hrow, htape, hcnt, hpar⟩ hl
set_option maxHeartbeats 4000000 in
set_option maxRecDepth 100000 in
theorem case_16 {p : Program} {e : Env} {s : State} {m : MethodId} {below : List Frame} {meth : Method} {c : Code} (l : Launch) (hfl : l.stackTraces = false) {b L : Nat} {xs : Nat → Int32} {D : va_G} {cy : Nat → ClassId} {st aM : Nat → Nat} {o x0 : Nat} {aX : Nat → Nat} {u v : SX} {f : Nat → Int64} {H : Heap} {locs : List Loc} {ls : Array Slot} {i : Int32} {cells slots : Nat} {Q : State → Prop} (F : LF p s m meth c b L xs D cy st aM o) (I : LI s D cy st aM o x0 aX u v f H locs) (hi0 : 0 ≤ i.toInt) (hi9 : i.toInt + 9 ≤ (L : Int)) (hcl : cells + 2 ≤ room_1.cells) (hsl : slots + 122 ≤ room_1.slots) (hl : lv_has ls 7 [(0, .ref b), (1, .ref x0), (2, .ref (aM 0)), (3, .ref o), (4, .int i)]) (kk : ∀ (aX : Nat → Nat) (u v : SX) (f : Nat → Int64) (H : Heap) (locs : List Loc) (ls : Array Slot), LI s D cy st aM o x0 aX u v f H locs → lv_has ls 7 [(0, .ref b), (1, .ref x0), (2, .ref (aM 0)), (3, .ref o), (4, .int i)] → W p l e room_1 s m #[Value.ref b] below meth c H locs (cells + 2) (slots + 122) Q (F0 m 1930 ls [])) : W p l e room_1 s m #[Value.ref b] below meth c H locs cells slots Q (F0 m 1109 ls []) := by
  obtain ⟨C0, hL, hK, hJM, hAM, hoM, hso, hst, hE, hCL⟩ := F
  obtain ⟨hx, hb, hr, hml, hown, hts0, hX, hbl, hlocks, hgv⟩ := C0
  obtain ⟨hx0, hJX, hAX, hdis, hoX, hPX, hPM, hPo, hS, hIX, hIM, hEv, htie, hrow, htape, hcnt, hpar⟩ := I
  have hts : ∀ w ∈ wsL_law, w.before #[Value.ref b] s = true := fun w h => hts0 w (wsL_law_in w h)
  have hbA : ¬ (fun q : Nat => s.heap.size ≤ q) b := Nat.not_le.mpr hbl
  have hA0 : ∀ q, (fun q : Nat => s.heap.size ≤ q) q → st 100 ≤ q := fun q h => by rw [hst]; exact h
  have hfit : cells ≤ room_1.cells ∧ slots ≤ room_1.slots := ⟨Nat.le_trans (Nat.le_add_right _ _) hcl, Nat.le_trans (Nat.le_add_right _ _) hsl⟩
  subst hx0
  obtain ⟨y1, hy1⟩ : ∃ y, xs (i + 1).toNatClampNeg = y := ⟨_, rfl⟩
  have hin1 : vp_in (i + 1) L := in9 (show (1 : Int32).toInt = 1 by decide) hi0 hi9 hL (by decide) (by decide)
  refine lv_aload_n hx hb dL_law_1109 rfl (lv_at hl 1 rfl) ?_
  refine lv_aload_n hx hb dL_law_1110 rfl (lv_at hl 0 rfl) ?_
  refine lv_iload hx hb dL_law_1111 (lv_at hl 4 rfl) ?_
  refine lv_iconst (v := 1) hx hb dL_law_1113 (by decide) ?_
  refine lv_iadd hx hb dL_law_1114 ?_
  refine sld9 (v := y1) hx hb hX hbl hbA hS hin1 hy1 dL_law_1115 ?_
  obtain ⟨⟨r, uA⟩, hfX, hqX⟩ := tfX11_sets_0 y1 u hIX
  refine lg_i (V := VX cy aX st) (Ad := AX aX) (As := [.int y1]) (rest := []) ⟨hx, hb, hml, hown, fun w h => hts0 w (gw_X11_sets w h)⟩ hA0 hK hPX hS (fun q h => h.elim (hAX q) (fun z => Nat.le_trans hS.1 z)) (metX11_sets_0 l D cy aX st hJX H.size y1 hfX) (cwV 1 (fun w h => hts0 w (gw_X11_sets w h)) gx_X11_sets rfl rfl rfl (by decide +kernel) ⟨Nat.le_of_ble_eq_true rfl, Nat.le_of_ble_eq_true rfl⟩) 0 11 rfl rfl rfl hl.1 rfl (Nat.le_of_ble_eq_true rfl) dL_law_1116 hfit (fun H1 locs1 hP1 hkeep hS1 => ?_)
  have hPM1 := hkeep _ hPM (fun k q hq => hdis _ (VM_mem hq))
  have hPo1 := hkeep _ hPo (fun k q hq => by rw [oat hq]; exact hoX)
  have hIX1 : IX uA := hqX.1.1
  have hFX := hqX.1.2
  have hfrX := hqX.1.2.1
  have hrwX := hqX.1.2.2.1
  clear hPX hPM hPo hS hkeep
  have hPX := hP1
  have hPM := hPM1
  have hPo := hPo1
  have hS := hS1
  clear hP1 hPM1 hPo1 hS1 hqX
  generalize H1 = H at hPX hPo hPM hS ⊢
  generalize locs1 = locs at hS ⊢
  refine lv_pop hx hb dL_law_1119 rfl ?_
  refine lv_aload_n hx hb dL_law_1120 rfl (lv_at hl 2 rfl) ?_
  refine lv_aload_n hx hb dL_law_1121 rfl (lv_at hl 0 rfl) ?_
  refine lv_iload hx hb dL_law_1122 (lv_at hl 4 rfl) ?_
  refine lv_iconst (v := 1) hx hb dL_law_1124 (by decide) ?_
  refine lv_iadd hx hb dL_law_1125 ?_
  refine sld9 (v := y1) hx hb hX hbl hbA hS hin1 hy1 dL_law_1126 ?_
  obtain ⟨⟨rM, vA⟩, hfM, hqM⟩ := tfX12_sets_0 y1 v hIM
  refine lg_i (V := VM cy aM st) (Ad := AM aM) (As := [.int y1]) (rest := []) ⟨hx, hb, hml, hown, fun w h => hts0 w (gw_X12_sets w h)⟩ hA0 hK hPM hS (fun q h => h.elim (hAM q) (fun z => Nat.le_trans hS.1 z)) (metX12_sets_0 l D cy aM st hJM H.size y1 hfM) (cwV 1 (fun w h => hts0 w (gw_X12_sets w h)) gx_X12_sets rfl rfl rfl (by decide +kernel) ⟨Nat.le_of_ble_eq_true rfl, Nat.le_of_ble_eq_true rfl⟩) 0 12 rfl rfl rfl hl.1 rfl (Nat.le_of_ble_eq_true rfl) dL_law_1127 hfit (fun H1 locs1 hP1 hkeep hS1 => ?_)
  have hPX1 := hkeep _ hPX (fun k q hq hz => hdis _ hz ⟨k, (VX_adr hq).1⟩)
  have hPo1 := hkeep _ hPo (fun k q hq => by rw [oat hq]; exact hoM)
  have hEv1 : EvM vA := EvM_fr (hqM.1.2.1 13 (by decide)) (hqM.1.2.1 14 (by decide)) (hqM.1.2.1 21 (by decide)) (hqM.1.2.2.1 33 (by decide)) hEv
  have htie1 : Tie uA vA := Tie_fr hfrX hqM.1.2.1 (by decide) htie
  have hrow1 : TieR uA vA := TieR_fr (hfrX 36 (by decide)) (hrwX 63 (by decide)) (hrwX 64 (by decide)) (hrwX 65 (by decide)) (hqM.1.2.2.1 36 (by decide)) (hqM.1.2.2.1 37 (by decide)) (hqM.1.2.2.1 38 (by decide)) hrow
  have htape1 : TieT uA vA := TieT_fr (hfrX 1 (by decide)) (hrwX 13 (by decide)) (hqM.1.2.1 3 (by decide)) (hqM.1.2.2.1 1 (by decide)) htape
  have hcnt1 : TieC uA vA := TieC_fr (hfrX 5 (by decide)) (hfrX 6 (by decide)) (hfrX 7 (by decide)) (hqM.1.2.2.1 4 (by decide)) hcnt
  have hpar1 : TieP uA vA := TieP_fr (hfrX 8 (by decide)) (hfrX 29 (by decide)) (hfrX 9 (by decide)) (hfrX 0 (by decide)) (hrwX 52 (by decide)) (hqM.1.2.1 12 (by decide)) (hqM.1.2.1 21 (by decide)) (hqM.1.2.1 14 (by decide)) (hqM.1.2.2.1 33 (by decide)) hpar
  have hIM1 : IM vA := hqM.1.1
  clear hPX hPM hPo hS hIM hEv htie hrow htape hcnt hpar hkeep hfrX hrwX hIX
  have hPX := hPX1
  have hPM := hP1
  have hPo := hPo1
  have hS := hS1
  have hIM := hIM1
  have hEv := hEv1
  have htie := htie1
  have hrow := hrow1
  have htape := htape1
  have hcnt := hcnt1
  have hpar := hpar1
  have hIX := hIX1
  clear hIX1
  clear hP1 hPX1 hPo1 hS1 hIM1 hEv1 htie1 hrow1 htape1 hcnt1 hpar1 hqM
  generalize H1 = H at hPX hPo hPM hS ⊢
  generalize locs1 = locs at hS ⊢
  refine lv_pop hx hb dL_law_1130 rfl ?_
  refine lv_goto (tgt := 1930) hx hb dL_law_1131 (by decide) ?_
  refine W.widen (k := cells + 2) (n := slots + 122) (Nat.le_add_right _ _) (Nat.le_add_right _ _) ?_
  exact kk aX uA vA f H locs ls ⟨rfl, hJX, hAX, hdis, hoX, hPX, hPM, hPo, hS, hIX, hIM, hEv, htie, hrow, htape, hcnt, hpar⟩ hl
set_option maxHeartbeats 4000000 in
set_option maxRecDepth 100000 in
theorem case_17 {p : Program} {e : Env} {s : State} {m : MethodId} {below : List Frame} {meth : Method} {c : Code} (l : Launch) (hfl : l.stackTraces = false) {b L : Nat} {xs : Nat → Int32} {D : va_G} {cy : Nat → ClassId} {st aM : Nat → Nat} {o x0 : Nat} {aX : Nat → Nat} {u v : SX} {f : Nat → Int64} {H : Heap} {locs : List Loc} {ls : Array Slot} {i : Int32} {cells slots : Nat} {Q : State → Prop} (F : LF p s m meth c b L xs D cy st aM o) (I : LI s D cy st aM o x0 aX u v f H locs) (hi0 : 0 ≤ i.toInt) (hi9 : i.toInt + 9 ≤ (L : Int)) (hcl : cells + 2 ≤ room_1.cells) (hsl : slots + 122 ≤ room_1.slots) (hl : lv_has ls 7 [(0, .ref b), (1, .ref x0), (2, .ref (aM 0)), (3, .ref o), (4, .int i)]) (kk : ∀ (aX : Nat → Nat) (u v : SX) (f : Nat → Int64) (H : Heap) (locs : List Loc) (ls : Array Slot), LI s D cy st aM o x0 aX u v f H locs → lv_has ls 7 [(0, .ref b), (1, .ref x0), (2, .ref (aM 0)), (3, .ref o), (4, .int i)] → W p l e room_1 s m #[Value.ref b] below meth c H locs (cells + 2) (slots + 122) Q (F0 m 1930 ls [])) : W p l e room_1 s m #[Value.ref b] below meth c H locs cells slots Q (F0 m 1134 ls []) := by
  obtain ⟨C0, hL, hK, hJM, hAM, hoM, hso, hst, hE, hCL⟩ := F
  obtain ⟨hx, hb, hr, hml, hown, hts0, hX, hbl, hlocks, hgv⟩ := C0
  obtain ⟨hx0, hJX, hAX, hdis, hoX, hPX, hPM, hPo, hS, hIX, hIM, hEv, htie, hrow, htape, hcnt, hpar⟩ := I
  have hts : ∀ w ∈ wsL_law, w.before #[Value.ref b] s = true := fun w h => hts0 w (wsL_law_in w h)
  have hbA : ¬ (fun q : Nat => s.heap.size ≤ q) b := Nat.not_le.mpr hbl
  have hA0 : ∀ q, (fun q : Nat => s.heap.size ≤ q) q → st 100 ≤ q := fun q h => by rw [hst]; exact h
  have hfit : cells ≤ room_1.cells ∧ slots ≤ room_1.slots := ⟨Nat.le_trans (Nat.le_add_right _ _) hcl, Nat.le_trans (Nat.le_add_right _ _) hsl⟩
  subst hx0
  obtain ⟨y1, hy1⟩ : ∃ y, xs (i + 1).toNatClampNeg = y := ⟨_, rfl⟩
  have hin1 : vp_in (i + 1) L := in9 (show (1 : Int32).toInt = 1 by decide) hi0 hi9 hL (by decide) (by decide)
  obtain ⟨y2, hy2⟩ : ∃ y, xs (i + 2).toNatClampNeg = y := ⟨_, rfl⟩
  have hin2 : vp_in (i + 2) L := in9 (show (2 : Int32).toInt = 2 by decide) hi0 hi9 hL (by decide) (by decide)
  obtain ⟨y3, hy3⟩ : ∃ y, xs (i + 3).toNatClampNeg = y := ⟨_, rfl⟩
  have hin3 : vp_in (i + 3) L := in9 (show (3 : Int32).toInt = 3 by decide) hi0 hi9 hL (by decide) (by decide)
  obtain ⟨y4, hy4⟩ : ∃ y, xs (i + 4).toNatClampNeg = y := ⟨_, rfl⟩
  have hin4 : vp_in (i + 4) L := in9 (show (4 : Int32).toInt = 4 by decide) hi0 hi9 hL (by decide) (by decide)
  refine lv_aload_n hx hb dL_law_1134 rfl (lv_at hl 1 rfl) ?_
  refine lv_aload_n hx hb dL_law_1135 rfl (lv_at hl 0 rfl) ?_
  refine lv_iload hx hb dL_law_1136 (lv_at hl 4 rfl) ?_
  refine lv_iconst (v := 1) hx hb dL_law_1138 (by decide) ?_
  refine lv_iadd hx hb dL_law_1139 ?_
  refine sld9 (v := y1) hx hb hX hbl hbA hS hin1 hy1 dL_law_1140 ?_
  refine lv_aload_n hx hb dL_law_1141 rfl (lv_at hl 0 rfl) ?_
  refine lv_iload hx hb dL_law_1142 (lv_at hl 4 rfl) ?_
  refine lv_iconst (v := 2) hx hb dL_law_1144 (by decide) ?_
  refine lv_iadd hx hb dL_law_1145 ?_
  refine sld9 (v := y2) hx hb hX hbl hbA hS hin2 hy2 dL_law_1146 ?_
  refine lv_aload_n hx hb dL_law_1147 rfl (lv_at hl 0 rfl) ?_
  refine lv_iload hx hb dL_law_1148 (lv_at hl 4 rfl) ?_
  refine lv_iconst (v := 3) hx hb dL_law_1150 (by decide) ?_
  refine lv_iadd hx hb dL_law_1151 ?_
  refine sld9 (v := y3) hx hb hX hbl hbA hS hin3 hy3 dL_law_1152 ?_
  refine lv_aload_n hx hb dL_law_1153 rfl (lv_at hl 0 rfl) ?_
  refine lv_iload hx hb dL_law_1154 (lv_at hl 4 rfl) ?_
  refine lv_iconst (v := 4) hx hb dL_law_1156 (by decide) ?_
  refine lv_iadd hx hb dL_law_1157 ?_
  refine sld9 (v := y4) hx hb hX hbl hbA hS hin4 hy4 dL_law_1158 ?_
  obtain ⟨⟨r, uA⟩, hfX, hqX⟩ := tfX11_look_0 y1 y2 y3 y4 u hIX
  refine lg_i (V := VX cy aX st) (Ad := AX aX) (As := [.int y1, .int y2, .int y3, .int y4]) (rest := []) ⟨hx, hb, hml, hown, fun w h => hts0 w (gw_X11_look w h)⟩ hA0 hK hPX hS (fun q h => h.elim (hAX q) (fun z => Nat.le_trans hS.1 z)) (metX11_look_0 l D cy aX st hJX H.size y1 y2 y3 y4 hfX) (cwV 4 (fun w h => hts0 w (gw_X11_look w h)) gx_X11_look rfl rfl rfl (by decide +kernel) ⟨Nat.le_of_ble_eq_true rfl, Nat.le_of_ble_eq_true rfl⟩) 0 11 rfl rfl rfl hl.1 rfl (Nat.le_of_ble_eq_true rfl) dL_law_1159 hfit (fun H1 locs1 hP1 hkeep hS1 => ?_)
  have hPM1 := hkeep _ hPM (fun k q hq => hdis _ (VM_mem hq))
  have hPo1 := hkeep _ hPo (fun k q hq => by rw [oat hq]; exact hoX)
  have hIX1 : IX uA := hqX.1.1
  have hFX := hqX.1.2
  have hfrX := hqX.1.2.1
  have hrwX := hqX.1.2.2.1
  clear hPX hPM hPo hS hkeep
  have hPX := hP1
  have hPM := hPM1
  have hPo := hPo1
  have hS := hS1
  clear hP1 hPM1 hPo1 hS1 hqX
  generalize H1 = H at hPX hPo hPM hS ⊢
  generalize locs1 = locs at hS ⊢
  refine lv_pop hx hb dL_law_1162 rfl ?_
  refine lv_aload_n hx hb dL_law_1163 rfl (lv_at hl 2 rfl) ?_
  refine lv_aload_n hx hb dL_law_1164 rfl (lv_at hl 0 rfl) ?_
  refine lv_iload hx hb dL_law_1165 (lv_at hl 4 rfl) ?_
  refine lv_iconst (v := 1) hx hb dL_law_1167 (by decide) ?_
  refine lv_iadd hx hb dL_law_1168 ?_
  refine sld9 (v := y1) hx hb hX hbl hbA hS hin1 hy1 dL_law_1169 ?_
  refine lv_aload_n hx hb dL_law_1170 rfl (lv_at hl 0 rfl) ?_
  refine lv_iload hx hb dL_law_1171 (lv_at hl 4 rfl) ?_
  refine lv_iconst (v := 2) hx hb dL_law_1173 (by decide) ?_
  refine lv_iadd hx hb dL_law_1174 ?_
  refine sld9 (v := y2) hx hb hX hbl hbA hS hin2 hy2 dL_law_1175 ?_
  refine lv_aload_n hx hb dL_law_1176 rfl (lv_at hl 0 rfl) ?_
  refine lv_iload hx hb dL_law_1177 (lv_at hl 4 rfl) ?_
  refine lv_iconst (v := 3) hx hb dL_law_1179 (by decide) ?_
  refine lv_iadd hx hb dL_law_1180 ?_
  refine sld9 (v := y3) hx hb hX hbl hbA hS hin3 hy3 dL_law_1181 ?_
  refine lv_aload_n hx hb dL_law_1182 rfl (lv_at hl 0 rfl) ?_
  refine lv_iload hx hb dL_law_1183 (lv_at hl 4 rfl) ?_
  refine lv_iconst (v := 4) hx hb dL_law_1185 (by decide) ?_
  refine lv_iadd hx hb dL_law_1186 ?_
  refine sld9 (v := y4) hx hb hX hbl hbA hS hin4 hy4 dL_law_1187 ?_
  obtain ⟨⟨rM, vA⟩, hfM, hqM⟩ := tfX12_look__0 y1 y2 y3 y4 v hIM
  refine lg_i (V := VM cy aM st) (Ad := AM aM) (As := [.int y1, .int y2, .int y3, .int y4]) (rest := []) ⟨hx, hb, hml, hown, fun w h => hts0 w (gw_X12_look_ w h)⟩ hA0 hK hPM hS (fun q h => h.elim (hAM q) (fun z => Nat.le_trans hS.1 z)) (metX12_look__0 l D cy aM st hJM H.size y1 y2 y3 y4 hfM) (cwV 4 (fun w h => hts0 w (gw_X12_look_ w h)) gx_X12_look_ rfl rfl rfl (by decide +kernel) ⟨Nat.le_of_ble_eq_true rfl, Nat.le_of_ble_eq_true rfl⟩) 0 12 rfl rfl rfl hl.1 rfl (Nat.le_of_ble_eq_true rfl) dL_law_1188 hfit (fun H1 locs1 hP1 hkeep hS1 => ?_)
  have hPX1 := hkeep _ hPX (fun k q hq hz => hdis _ hz ⟨k, (VX_adr hq).1⟩)
  have hPo1 := hkeep _ hPo (fun k q hq => by rw [oat hq]; exact hoM)
  have hEv1 : EvM vA := ev_look hIM hEv hfM
  have htie1 : Tie uA vA := Tie_fr hfrX hqM.1.2.1 (by decide) htie
  have hrow1 : TieR uA vA := TieR_fr (hfrX 36 (by decide)) (hrwX 63 (by decide)) (hrwX 64 (by decide)) (hrwX 65 (by decide)) (hqM.1.2.2.1 36 (by decide)) (hqM.1.2.2.1 37 (by decide)) (hqM.1.2.2.1 38 (by decide)) hrow
  have htape1 : TieT uA vA := TieT_fr (hfrX 1 (by decide)) (hrwX 13 (by decide)) (hqM.1.2.1 3 (by decide)) (hqM.1.2.2.1 1 (by decide)) htape
  have hcnt1 : TieC uA vA := TieC_fr (hfrX 5 (by decide)) (hfrX 6 (by decide)) (hfrX 7 (by decide)) (hqM.1.2.2.1 4 (by decide)) hcnt
  obtain ⟨er, hpar1⟩ := look_eq hIX hpar hfX hfM
  have hIM1 : IM vA := hqM.1.1
  clear hPX hPM hPo hS hIM hEv htie hrow htape hcnt hpar hkeep hfrX hrwX hIX
  have hPX := hPX1
  have hPM := hP1
  have hPo := hPo1
  have hS := hS1
  have hIM := hIM1
  have hEv := hEv1
  have htie := htie1
  have hrow := hrow1
  have htape := htape1
  have hcnt := hcnt1
  have hpar := hpar1
  have hIX := hIX1
  clear hIX1
  clear hP1 hPX1 hPo1 hS1 hIM1 hEv1 htie1 hrow1 htape1 hcnt1 hpar1 hqM
  generalize H1 = H at hPX hPo hPM hS ⊢
  generalize locs1 = locs at hS ⊢
  refine lv_pop hx hb dL_law_1191 rfl ?_
  refine lv_goto (tgt := 1930) hx hb dL_law_1192 (by decide) ?_
  refine W.widen (k := cells + 2) (n := slots + 122) (Nat.le_add_right _ _) (Nat.le_add_right _ _) ?_
  exact kk aX uA vA f H locs ls ⟨rfl, hJX, hAX, hdis, hoX, hPX, hPM, hPo, hS, hIX, hIM, hEv, htie, hrow, htape, hcnt, hpar⟩ hl
set_option maxHeartbeats 4000000 in
set_option maxRecDepth 100000 in
theorem case_18 {p : Program} {e : Env} {s : State} {m : MethodId} {below : List Frame} {meth : Method} {c : Code} (l : Launch) (hfl : l.stackTraces = false) {b L : Nat} {xs : Nat → Int32} {D : va_G} {cy : Nat → ClassId} {st aM : Nat → Nat} {o x0 : Nat} {aX : Nat → Nat} {u v : SX} {f : Nat → Int64} {H : Heap} {locs : List Loc} {ls : Array Slot} {i : Int32} {cells slots : Nat} {Q : State → Prop} (F : LF p s m meth c b L xs D cy st aM o) (I : LI s D cy st aM o x0 aX u v f H locs) (hi0 : 0 ≤ i.toInt) (hi9 : i.toInt + 9 ≤ (L : Int)) (hcl : cells + 2 ≤ room_1.cells) (hsl : slots + 122 ≤ room_1.slots) (hl : lv_has ls 7 [(0, .ref b), (1, .ref x0), (2, .ref (aM 0)), (3, .ref o), (4, .int i)]) (kk : ∀ (aX : Nat → Nat) (u v : SX) (f : Nat → Int64) (H : Heap) (locs : List Loc) (ls : Array Slot), LI s D cy st aM o x0 aX u v f H locs → lv_has ls 7 [(0, .ref b), (1, .ref x0), (2, .ref (aM 0)), (3, .ref o), (4, .int i)] → W p l e room_1 s m #[Value.ref b] below meth c H locs (cells + 2) (slots + 122) Q (F0 m 1930 ls [])) : W p l e room_1 s m #[Value.ref b] below meth c H locs cells slots Q (F0 m 1195 ls []) := by
  obtain ⟨C0, hL, hK, hJM, hAM, hoM, hso, hst, hE, hCL⟩ := F
  obtain ⟨hx, hb, hr, hml, hown, hts0, hX, hbl, hlocks, hgv⟩ := C0
  obtain ⟨hx0, hJX, hAX, hdis, hoX, hPX, hPM, hPo, hS, hIX, hIM, hEv, htie, hrow, htape, hcnt, hpar⟩ := I
  have hts : ∀ w ∈ wsL_law, w.before #[Value.ref b] s = true := fun w h => hts0 w (wsL_law_in w h)
  have hbA : ¬ (fun q : Nat => s.heap.size ≤ q) b := Nat.not_le.mpr hbl
  have hA0 : ∀ q, (fun q : Nat => s.heap.size ≤ q) q → st 100 ≤ q := fun q h => by rw [hst]; exact h
  have hfit : cells ≤ room_1.cells ∧ slots ≤ room_1.slots := ⟨Nat.le_trans (Nat.le_add_right _ _) hcl, Nat.le_trans (Nat.le_add_right _ _) hsl⟩
  subst hx0
  obtain ⟨y1, hy1⟩ : ∃ y, xs (i + 1).toNatClampNeg = y := ⟨_, rfl⟩
  have hin1 : vp_in (i + 1) L := in9 (show (1 : Int32).toInt = 1 by decide) hi0 hi9 hL (by decide) (by decide)
  refine lv_aload_n hx hb dL_law_1195 rfl (lv_at hl 1 rfl) ?_
  refine lv_aload_n hx hb dL_law_1196 rfl (lv_at hl 0 rfl) ?_
  refine lv_iload hx hb dL_law_1197 (lv_at hl 4 rfl) ?_
  refine lv_iconst (v := 1) hx hb dL_law_1199 (by decide) ?_
  refine lv_iadd hx hb dL_law_1200 ?_
  refine sld9 (v := y1) hx hb hX hbl hbA hS hin1 hy1 dL_law_1201 ?_
  obtain ⟨⟨r, uA⟩, hfX, hqX⟩ := tfX11_done_0 y1 u hIX
  refine lg_i (V := VX cy aX st) (Ad := AX aX) (As := [.int y1]) (rest := []) ⟨hx, hb, hml, hown, fun w h => hts0 w (gw_X11_done w h)⟩ hA0 hK hPX hS (fun q h => h.elim (hAX q) (fun z => Nat.le_trans hS.1 z)) (metX11_done_0 l D cy aX st hJX H.size y1 hfX) (cwV 1 (fun w h => hts0 w (gw_X11_done w h)) gx_X11_done rfl rfl rfl (by decide +kernel) ⟨Nat.le_of_ble_eq_true rfl, Nat.le_of_ble_eq_true rfl⟩) 0 11 rfl rfl rfl hl.1 rfl (Nat.le_of_ble_eq_true rfl) dL_law_1202 hfit (fun H1 locs1 hP1 hkeep hS1 => ?_)
  have hPM1 := hkeep _ hPM (fun k q hq => hdis _ (VM_mem hq))
  have hPo1 := hkeep _ hPo (fun k q hq => by rw [oat hq]; exact hoX)
  have hIX1 : IX uA := hqX.1.1
  have hFX := hqX.1.2
  have hfrX := hqX.1.2.1
  have hrwX := hqX.1.2.2.1
  clear hPX hPM hPo hS hkeep
  have hPX := hP1
  have hPM := hPM1
  have hPo := hPo1
  have hS := hS1
  clear hP1 hPM1 hPo1 hS1 hqX
  generalize H1 = H at hPX hPo hPM hS ⊢
  generalize locs1 = locs at hS ⊢
  refine lv_pop hx hb dL_law_1205 rfl ?_
  refine lv_aload_n hx hb dL_law_1206 rfl (lv_at hl 2 rfl) ?_
  refine lv_aload_n hx hb dL_law_1207 rfl (lv_at hl 0 rfl) ?_
  refine lv_iload hx hb dL_law_1208 (lv_at hl 4 rfl) ?_
  refine lv_iconst (v := 1) hx hb dL_law_1210 (by decide) ?_
  refine lv_iadd hx hb dL_law_1211 ?_
  refine sld9 (v := y1) hx hb hX hbl hbA hS hin1 hy1 dL_law_1212 ?_
  obtain ⟨⟨rM, vA⟩, hfM, hqM⟩ := tfX12_done_0 y1 v hIM (ev_pd hIM hEv)
  refine lg_i (V := VM cy aM st) (Ad := AM aM) (As := [.int y1]) (rest := []) ⟨hx, hb, hml, hown, fun w h => hts0 w (gw_X12_done w h)⟩ hA0 hK hPM hS (fun q h => h.elim (hAM q) (fun z => Nat.le_trans hS.1 z)) (metX12_done_0 l D cy aM st hJM H.size y1 hfM) (cwV 1 (fun w h => hts0 w (gw_X12_done w h)) gx_X12_done rfl rfl rfl (by decide +kernel) ⟨Nat.le_of_ble_eq_true rfl, Nat.le_of_ble_eq_true rfl⟩) 0 12 rfl rfl rfl hl.1 rfl (Nat.le_of_ble_eq_true rfl) dL_law_1213 hfit (fun H1 locs1 hP1 hkeep hS1 => ?_)
  have hPX1 := hkeep _ hPX (fun k q hq hz => hdis _ hz ⟨k, (VX_adr hq).1⟩)
  have hPo1 := hkeep _ hPo (fun k q hq => by rw [oat hq]; exact hoM)
  have hEv1 : EvM vA := ev_done hIM hEv hfM
  have htie1 : Tie uA vA := Tie_fr hfrX hqM.1.2.1 (by decide) htie
  have hrow1 : TieR uA vA := TieR_fr (hfrX 36 (by decide)) (hrwX 63 (by decide)) (hrwX 64 (by decide)) (hrwX 65 (by decide)) (hqM.1.2.2.1 36 (by decide)) (hqM.1.2.2.1 37 (by decide)) (hqM.1.2.2.1 38 (by decide)) hrow
  have htape1 : TieT uA vA := TieT_fr (hfrX 1 (by decide)) (hrwX 13 (by decide)) (hqM.1.2.1 3 (by decide)) (hqM.1.2.2.1 1 (by decide)) htape
  have hcnt1 : TieC uA vA := TieC_fr (hfrX 5 (by decide)) (hfrX 6 (by decide)) (hfrX 7 (by decide)) (hqM.1.2.2.1 4 (by decide)) hcnt
  obtain ⟨er, hpar1⟩ := done_eq hIX hIM hpar hFX hqM.1.2 hfX hfM
  have hIM1 : IM vA := hqM.1.1
  clear hPX hPM hPo hS hIM hEv htie hrow htape hcnt hpar hkeep hfrX hrwX hIX
  have hPX := hPX1
  have hPM := hP1
  have hPo := hPo1
  have hS := hS1
  have hIM := hIM1
  have hEv := hEv1
  have htie := htie1
  have hrow := hrow1
  have htape := htape1
  have hcnt := hcnt1
  have hpar := hpar1
  have hIX := hIX1
  clear hIX1
  clear hP1 hPX1 hPo1 hS1 hIM1 hEv1 htie1 hrow1 htape1 hcnt1 hpar1 hqM
  generalize H1 = H at hPX hPo hPM hS ⊢
  generalize locs1 = locs at hS ⊢
  refine lv_pop hx hb dL_law_1216 rfl ?_
  refine lv_goto (tgt := 1930) hx hb dL_law_1217 (by decide) ?_
  refine W.widen (k := cells + 2) (n := slots + 122) (Nat.le_add_right _ _) (Nat.le_add_right _ _) ?_
  exact kk aX uA vA f H locs ls ⟨rfl, hJX, hAX, hdis, hoX, hPX, hPM, hPo, hS, hIX, hIM, hEv, htie, hrow, htape, hcnt, hpar⟩ hl
set_option maxHeartbeats 4000000 in
set_option maxRecDepth 100000 in
theorem case_19 {p : Program} {e : Env} {s : State} {m : MethodId} {below : List Frame} {meth : Method} {c : Code} (l : Launch) (hfl : l.stackTraces = false) {b L : Nat} {xs : Nat → Int32} {D : va_G} {cy : Nat → ClassId} {st aM : Nat → Nat} {o x0 : Nat} {aX : Nat → Nat} {u v : SX} {f : Nat → Int64} {H : Heap} {locs : List Loc} {ls : Array Slot} {i : Int32} {cells slots : Nat} {Q : State → Prop} (F : LF p s m meth c b L xs D cy st aM o) (I : LI s D cy st aM o x0 aX u v f H locs) (hi0 : 0 ≤ i.toInt) (hi9 : i.toInt + 9 ≤ (L : Int)) (hcl : cells + 2 ≤ room_1.cells) (hsl : slots + 122 ≤ room_1.slots) (hl : lv_has ls 7 [(0, .ref b), (1, .ref x0), (2, .ref (aM 0)), (3, .ref o), (4, .int i)]) (kk : ∀ (aX : Nat → Nat) (u v : SX) (f : Nat → Int64) (H : Heap) (locs : List Loc) (ls : Array Slot), LI s D cy st aM o x0 aX u v f H locs → lv_has ls 7 [(0, .ref b), (1, .ref x0), (2, .ref (aM 0)), (3, .ref o), (4, .int i)] → W p l e room_1 s m #[Value.ref b] below meth c H locs (cells + 2) (slots + 122) Q (F0 m 1930 ls [])) : W p l e room_1 s m #[Value.ref b] below meth c H locs cells slots Q (F0 m 1220 ls []) := by
  obtain ⟨C0, hL, hK, hJM, hAM, hoM, hso, hst, hE, hCL⟩ := F
  obtain ⟨hx, hb, hr, hml, hown, hts0, hX, hbl, hlocks, hgv⟩ := C0
  obtain ⟨hx0, hJX, hAX, hdis, hoX, hPX, hPM, hPo, hS, hIX, hIM, hEv, htie, hrow, htape, hcnt, hpar⟩ := I
  have hts : ∀ w ∈ wsL_law, w.before #[Value.ref b] s = true := fun w h => hts0 w (wsL_law_in w h)
  have hbA : ¬ (fun q : Nat => s.heap.size ≤ q) b := Nat.not_le.mpr hbl
  have hA0 : ∀ q, (fun q : Nat => s.heap.size ≤ q) q → st 100 ≤ q := fun q h => by rw [hst]; exact h
  have hfit : cells ≤ room_1.cells ∧ slots ≤ room_1.slots := ⟨Nat.le_trans (Nat.le_add_right _ _) hcl, Nat.le_trans (Nat.le_add_right _ _) hsl⟩
  subst hx0
  obtain ⟨y1, hy1⟩ : ∃ y, xs (i + 1).toNatClampNeg = y := ⟨_, rfl⟩
  have hin1 : vp_in (i + 1) L := in9 (show (1 : Int32).toInt = 1 by decide) hi0 hi9 hL (by decide) (by decide)
  obtain ⟨y2, hy2⟩ : ∃ y, xs (i + 2).toNatClampNeg = y := ⟨_, rfl⟩
  have hin2 : vp_in (i + 2) L := in9 (show (2 : Int32).toInt = 2 by decide) hi0 hi9 hL (by decide) (by decide)
  obtain ⟨y3, hy3⟩ : ∃ y, xs (i + 3).toNatClampNeg = y := ⟨_, rfl⟩
  have hin3 : vp_in (i + 3) L := in9 (show (3 : Int32).toInt = 3 by decide) hi0 hi9 hL (by decide) (by decide)
  obtain ⟨y4, hy4⟩ : ∃ y, xs (i + 4).toNatClampNeg = y := ⟨_, rfl⟩
  have hin4 : vp_in (i + 4) L := in9 (show (4 : Int32).toInt = 4 by decide) hi0 hi9 hL (by decide) (by decide)
  refine lv_aload_n hx hb dL_law_1220 rfl (lv_at hl 1 rfl) ?_
  refine lv_aload_n hx hb dL_law_1221 rfl (lv_at hl 0 rfl) ?_
  refine lv_iload hx hb dL_law_1222 (lv_at hl 4 rfl) ?_
  refine lv_iconst (v := 1) hx hb dL_law_1224 (by decide) ?_
  refine lv_iadd hx hb dL_law_1225 ?_
  refine sld9 (v := y1) hx hb hX hbl hbA hS hin1 hy1 dL_law_1226 ?_
  refine lv_aload_n hx hb dL_law_1227 rfl (lv_at hl 0 rfl) ?_
  refine lv_iload hx hb dL_law_1228 (lv_at hl 4 rfl) ?_
  refine lv_iconst (v := 2) hx hb dL_law_1230 (by decide) ?_
  refine lv_iadd hx hb dL_law_1231 ?_
  refine sld9 (v := y2) hx hb hX hbl hbA hS hin2 hy2 dL_law_1232 ?_
  refine lv_aload_n hx hb dL_law_1233 rfl (lv_at hl 0 rfl) ?_
  refine lv_iload hx hb dL_law_1234 (lv_at hl 4 rfl) ?_
  refine lv_iconst (v := 3) hx hb dL_law_1236 (by decide) ?_
  refine lv_iadd hx hb dL_law_1237 ?_
  refine sld9 (v := y3) hx hb hX hbl hbA hS hin3 hy3 dL_law_1238 ?_
  refine lv_aload_n hx hb dL_law_1239 rfl (lv_at hl 0 rfl) ?_
  refine lv_iload hx hb dL_law_1240 (lv_at hl 4 rfl) ?_
  refine lv_iconst (v := 4) hx hb dL_law_1242 (by decide) ?_
  refine lv_iadd hx hb dL_law_1243 ?_
  refine sld9 (v := y4) hx hb hX hbl hbA hS hin4 hy4 dL_law_1244 ?_
  obtain ⟨⟨r, uA⟩, hfX, hqX⟩ := tfX11_clean_0 y1 y2 y3 y4 u hIX
  refine lg_i (V := VX cy aX st) (Ad := AX aX) (As := [.int y1, .int y2, .int y3, .int y4]) (rest := []) ⟨hx, hb, hml, hown, fun w h => hts0 w (gw_X11_clean w h)⟩ hA0 hK hPX hS (fun q h => h.elim (hAX q) (fun z => Nat.le_trans hS.1 z)) (metX11_clean_0 l D cy aX st hJX H.size y1 y2 y3 y4 hfX) (cwV 4 (fun w h => hts0 w (gw_X11_clean w h)) gx_X11_clean rfl rfl rfl (by decide +kernel) ⟨Nat.le_of_ble_eq_true rfl, Nat.le_of_ble_eq_true rfl⟩) 0 11 rfl rfl rfl hl.1 rfl (Nat.le_of_ble_eq_true rfl) dL_law_1245 hfit (fun H1 locs1 hP1 hkeep hS1 => ?_)
  have hPM1 := hkeep _ hPM (fun k q hq => hdis _ (VM_mem hq))
  have hPo1 := hkeep _ hPo (fun k q hq => by rw [oat hq]; exact hoX)
  have hIX1 : IX uA := hqX.1.1
  have hFX := hqX.1.2
  have hfrX := hqX.1.2.1
  have hrwX := hqX.1.2.2.1
  clear hPX hPM hPo hS hkeep
  have hPX := hP1
  have hPM := hPM1
  have hPo := hPo1
  have hS := hS1
  clear hP1 hPM1 hPo1 hS1 hqX
  generalize H1 = H at hPX hPo hPM hS ⊢
  generalize locs1 = locs at hS ⊢
  refine lv_aload_n hx hb dL_law_1248 rfl (lv_at hl 2 rfl) ?_
  refine lv_aload_n hx hb dL_law_1249 rfl (lv_at hl 0 rfl) ?_
  refine lv_iload hx hb dL_law_1250 (lv_at hl 4 rfl) ?_
  refine lv_iconst (v := 1) hx hb dL_law_1252 (by decide) ?_
  refine lv_iadd hx hb dL_law_1253 ?_
  refine sld9 (v := y1) hx hb hX hbl hbA hS hin1 hy1 dL_law_1254 ?_
  refine lv_aload_n hx hb dL_law_1255 rfl (lv_at hl 0 rfl) ?_
  refine lv_iload hx hb dL_law_1256 (lv_at hl 4 rfl) ?_
  refine lv_iconst (v := 2) hx hb dL_law_1258 (by decide) ?_
  refine lv_iadd hx hb dL_law_1259 ?_
  refine sld9 (v := y2) hx hb hX hbl hbA hS hin2 hy2 dL_law_1260 ?_
  refine lv_aload_n hx hb dL_law_1261 rfl (lv_at hl 0 rfl) ?_
  refine lv_iload hx hb dL_law_1262 (lv_at hl 4 rfl) ?_
  refine lv_iconst (v := 3) hx hb dL_law_1264 (by decide) ?_
  refine lv_iadd hx hb dL_law_1265 ?_
  refine sld9 (v := y3) hx hb hX hbl hbA hS hin3 hy3 dL_law_1266 ?_
  refine lv_aload_n hx hb dL_law_1267 rfl (lv_at hl 0 rfl) ?_
  refine lv_iload hx hb dL_law_1268 (lv_at hl 4 rfl) ?_
  refine lv_iconst (v := 4) hx hb dL_law_1270 (by decide) ?_
  refine lv_iadd hx hb dL_law_1271 ?_
  refine sld9 (v := y4) hx hb hX hbl hbA hS hin4 hy4 dL_law_1272 ?_
  obtain ⟨⟨rM, vA⟩, hfM, hqM⟩ := tfX12_clean_0 y1 y2 y3 y4 v hIM (ev_pc hIM hEv)
  refine lg_i (V := VM cy aM st) (Ad := AM aM) (As := [.int y1, .int y2, .int y3, .int y4]) (rest := [.int r]) ⟨hx, hb, hml, hown, fun w h => hts0 w (gw_X12_clean w h)⟩ hA0 hK hPM hS (fun q h => h.elim (hAM q) (fun z => Nat.le_trans hS.1 z)) (metX12_clean_0 l D cy aM st hJM H.size y1 y2 y3 y4 hfM) (cwV 4 (fun w h => hts0 w (gw_X12_clean w h)) gx_X12_clean rfl rfl rfl (by decide +kernel) ⟨Nat.le_of_ble_eq_true rfl, Nat.le_of_ble_eq_true rfl⟩) 0 12 rfl rfl rfl hl.1 rfl (Nat.le_of_ble_eq_true rfl) dL_law_1273 hfit (fun H1 locs1 hP1 hkeep hS1 => ?_)
  have hPX1 := hkeep _ hPX (fun k q hq hz => hdis _ hz ⟨k, (VX_adr hq).1⟩)
  have hPo1 := hkeep _ hPo (fun k q hq => by rw [oat hq]; exact hoM)
  have hEv1 : EvM vA := ev_clean hIM hEv hfM
  have htie1 : Tie uA vA := Tie_fr hfrX hqM.1.2.1 (by decide) htie
  have hrow1 : TieR uA vA := TieR_fr (hfrX 36 (by decide)) (hrwX 63 (by decide)) (hrwX 64 (by decide)) (hrwX 65 (by decide)) (hqM.1.2.2.1 36 (by decide)) (hqM.1.2.2.1 37 (by decide)) (hqM.1.2.2.1 38 (by decide)) hrow
  have htape1 : TieT uA vA := TieT_fr (hfrX 1 (by decide)) (hrwX 13 (by decide)) (hqM.1.2.1 3 (by decide)) (hqM.1.2.2.1 1 (by decide)) htape
  have hcnt1 : TieC uA vA := TieC_fr (hfrX 5 (by decide)) (hfrX 6 (by decide)) (hfrX 7 (by decide)) (hqM.1.2.2.1 4 (by decide)) hcnt
  obtain ⟨er, hpar1⟩ := clean_eq hIX hpar hFX hqM.1.2 hfX hfM
  have hIM1 : IM vA := hqM.1.1
  clear hPX hPM hPo hS hIM hEv htie hrow htape hcnt hpar hkeep hfrX hrwX hIX
  have hPX := hPX1
  have hPM := hP1
  have hPo := hPo1
  have hS := hS1
  have hIM := hIM1
  have hEv := hEv1
  have htie := htie1
  have hrow := hrow1
  have htape := htape1
  have hcnt := hcnt1
  have hpar := hpar1
  have hIX := hIX1
  clear hIX1
  clear hP1 hPX1 hPo1 hS1 hIM1 hEv1 htie1 hrow1 htape1 hcnt1 hpar1 hqM
  generalize H1 = H at hPX hPo hPM hS ⊢
  generalize locs1 = locs at hS ⊢
  refine lv_icmp_eq (tgt := 1930) hx hb dL_law_1276 (by decide) (fun _ => ?_) (fun h => absurd er h)
  refine W.widen (k := cells + 2) (n := slots + 122) (Nat.le_add_right _ _) (Nat.le_add_right _ _) ?_
  exact kk aX uA vA f H locs ls ⟨rfl, hJX, hAX, hdis, hoX, hPX, hPM, hPo, hS, hIX, hIM, hEv, htie, hrow, htape, hcnt, hpar⟩ hl
