theorem dL_law_1014 : decode cL_law 1014 = .ok (.aload_n 1, 1) := by decide +kernel
theorem dL_law_1015 : decode cL_law 1015 = .ok (.aload_n 0, 1) := by decide +kernel
theorem dL_law_1016 : decode cL_law 1016 = .ok (.iload 4, 2) := by decide +kernel
theorem dL_law_1018 : decode cL_law 1018 = .ok (.iconst 1, 1) := by decide +kernel
theorem dL_law_1019 : decode cL_law 1019 = .ok (.iadd, 1) := by decide +kernel
theorem dL_law_1020 : decode cL_law 1020 = .ok (.iaload, 1) := by decide +kernel
theorem dL_law_1021 : decode cL_law 1021 = .ok (.aload_n 0, 1) := by decide +kernel
theorem dL_law_1022 : decode cL_law 1022 = .ok (.iload 4, 2) := by decide +kernel
theorem dL_law_1024 : decode cL_law 1024 = .ok (.iconst 2, 1) := by decide +kernel
theorem dL_law_1025 : decode cL_law 1025 = .ok (.iadd, 1) := by decide +kernel
theorem dL_law_1026 : decode cL_law 1026 = .ok (.iaload, 1) := by decide +kernel
theorem dL_law_1027 : decode cL_law 1027 = .ok (.invokevirtual 87, 3) := by decide +kernel
theorem dL_law_1030 : decode cL_law 1030 = .ok (.aload_n 2, 1) := by decide +kernel
theorem dL_law_1031 : decode cL_law 1031 = .ok (.aload_n 0, 1) := by decide +kernel
theorem dL_law_1032 : decode cL_law 1032 = .ok (.iload 4, 2) := by decide +kernel
theorem dL_law_1034 : decode cL_law 1034 = .ok (.iconst 1, 1) := by decide +kernel
theorem dL_law_1035 : decode cL_law 1035 = .ok (.iadd, 1) := by decide +kernel
theorem dL_law_1036 : decode cL_law 1036 = .ok (.iaload, 1) := by decide +kernel
theorem dL_law_1037 : decode cL_law 1037 = .ok (.aload_n 0, 1) := by decide +kernel
theorem dL_law_1038 : decode cL_law 1038 = .ok (.iload 4, 2) := by decide +kernel
theorem dL_law_1040 : decode cL_law 1040 = .ok (.iconst 2, 1) := by decide +kernel
theorem dL_law_1041 : decode cL_law 1041 = .ok (.iadd, 1) := by decide +kernel
theorem dL_law_1042 : decode cL_law 1042 = .ok (.iaload, 1) := by decide +kernel
theorem dL_law_1043 : decode cL_law 1043 = .ok (.invokevirtual 90, 3) := by decide +kernel
theorem dL_law_1046 : decode cL_law 1046 = .ok (.if_icmp .eq 912, 3) := by decide +kernel
set_option maxHeartbeats 4000000 in
set_option maxRecDepth 100000 in
theorem case_13 {p : Program} {e : Env} {s : State} {m : MethodId} {below : List Frame} {meth : Method} {c : Code} (l : Launch) {b : Nat} {xs : Nat → Int32} {D : va_G} {cy : Nat → ClassId} {st aX aM : Nat → Nat} {o : Nat} {H : Heap} {locs : List Loc} {ls : Array Slot} (hW : LW p s m meth c b xs D cy st aX aM o H locs) (hl : lv_has ls 7 [(0, .ref b), (1, .ref (aX 0)), (2, .ref (aM 0)), (3, .ref o), (4, .int 0)]) : W p l e room_1 s m #[Value.ref b] below meth c H locs 118 17833 (lw_Z below #[Value.ref b] s) (F0 m 1014 ls []) := by
  obtain ⟨C0, hK, hJX, hJM, hAX, hAM, hdis, hPX, hPM, hS⟩ := hW
  obtain ⟨hx, hb, hr, hml, hown, hts0, hX, hbl, hlocks, hgv⟩ := C0
  have hts : ∀ w ∈ wsL_law, w.before #[Value.ref b] s = true := fun w h => hts0 w (wsL_law_in w h)
  have hbA : ¬ (fun q : Nat => s.heap.size ≤ q) b := Nat.not_le.mpr hbl
  obtain ⟨y1, hy1⟩ : ∃ y, xs ((0 : Int32) + 1).toNatClampNeg = y := ⟨_, rfl⟩
  obtain ⟨y2, hy2⟩ : ∃ y, xs ((0 : Int32) + 2).toNatClampNeg = y := ⟨_, rfl⟩
  refine lv_aload_n hx hb dL_law_1014 rfl (lv_at hl 1 rfl) ?_
  refine lv_aload_n hx hb dL_law_1015 rfl (lv_at hl 0 rfl) ?_
  refine lv_iload hx hb dL_law_1016 (lv_at hl 4 rfl) ?_
  refine lv_iconst (v := 1) hx hb dL_law_1018 (by decide) ?_
  refine lv_iadd hx hb dL_law_1019 ?_
  refine sld9 (v := y1) hx hb hX hbl hbA hS (by show ¬ _; decide) hy1 dL_law_1020 ?_
  refine lv_aload_n hx hb dL_law_1021 rfl (lv_at hl 0 rfl) ?_
  refine lv_iload hx hb dL_law_1022 (lv_at hl 4 rfl) ?_
  refine lv_iconst (v := 2) hx hb dL_law_1024 (by decide) ?_
  refine lv_iadd hx hb dL_law_1025 ?_
  refine sld9 (v := y2) hx hb hX hbl hbA hS (by show ¬ _; decide) hy2 dL_law_1026 ?_
  obtain ⟨r, uA, uB, hfX, hfM⟩ := agr_ex (pf_alike y1 y2)
  refine lg_i (V := VX cy aX st) (Ad := AX aX) (As := [.int y1, .int y2]) (rest := []) ⟨hx, hb, hml, hown, fun w h => hts0 w (gw_X11_alike w h)⟩ hK hPX hS (fun q h => h.elim (hAX q) (fun z => Nat.le_trans hS.1 z)) (metX11_alike_0 l D cy aX st hJX H.size y1 y2 hfX) (cwV 2 (fun w h => hts0 w (gw_X11_alike w h)) gx_X11_alike rfl rfl rfl (by decide +kernel) ⟨Nat.le_of_ble_eq_true rfl, Nat.le_of_ble_eq_true rfl⟩) 0 11 rfl rfl rfl hl.1 rfl (Nat.le_of_ble_eq_true rfl) dL_law_1027 ⟨Nat.le_of_ble_eq_true rfl, Nat.le_of_ble_eq_true rfl⟩ (fun H locs hPX hkeep hS => ?_)
  have hPM := hkeep _ hPM (fun k q hq => hdis _ (VM_mem hq))
  refine lv_aload_n hx hb dL_law_1030 rfl (lv_at hl 2 rfl) ?_
  refine lv_aload_n hx hb dL_law_1031 rfl (lv_at hl 0 rfl) ?_
  refine lv_iload hx hb dL_law_1032 (lv_at hl 4 rfl) ?_
  refine lv_iconst (v := 1) hx hb dL_law_1034 (by decide) ?_
  refine lv_iadd hx hb dL_law_1035 ?_
  refine sld9 (v := y1) hx hb hX hbl hbA hS (by show ¬ _; decide) hy1 dL_law_1036 ?_
  refine lv_aload_n hx hb dL_law_1037 rfl (lv_at hl 0 rfl) ?_
  refine lv_iload hx hb dL_law_1038 (lv_at hl 4 rfl) ?_
  refine lv_iconst (v := 2) hx hb dL_law_1040 (by decide) ?_
  refine lv_iadd hx hb dL_law_1041 ?_
  refine sld9 (v := y2) hx hb hX hbl hbA hS (by show ¬ _; decide) hy2 dL_law_1042 ?_
  refine lg_i (V := VM cy aM st) (Ad := AM aM) (As := [.int y1, .int y2]) (rest := [.int r]) ⟨hx, hb, hml, hown, fun w h => hts0 w (gw_X12_alike w h)⟩ hK hPM hS (fun q h => h.elim (hAM q) (fun z => Nat.le_trans hS.1 z)) (metX12_alike_0 l D cy aM st hJM _ y1 y2 hfM) (cwV 2 (fun w h => hts0 w (gw_X12_alike w h)) gx_X12_alike rfl rfl rfl (by decide +kernel) ⟨Nat.le_of_ble_eq_true rfl, Nat.le_of_ble_eq_true rfl⟩) 0 12 rfl rfl rfl hl.1 rfl (Nat.le_of_ble_eq_true rfl) dL_law_1043 ⟨Nat.le_of_ble_eq_true rfl, Nat.le_of_ble_eq_true rfl⟩ (fun H locs hPM hkeep hS => ?_)
  refine lv_icmp_eq (tgt := 1958) hx hb dL_law_1046 (by decide) (fun _ => ?_) (fun h => absurd rfl h)
  exact law_end l (by decide) (by decide) hx hb hr hlocks hX hbl hbA hS hl
theorem dL_law_1051 : decode cL_law 1051 = .ok (.aload_n 1, 1) := by decide +kernel
theorem dL_law_1052 : decode cL_law 1052 = .ok (.aload_n 0, 1) := by decide +kernel
theorem dL_law_1053 : decode cL_law 1053 = .ok (.iload 4, 2) := by decide +kernel
theorem dL_law_1055 : decode cL_law 1055 = .ok (.iconst 1, 1) := by decide +kernel
theorem dL_law_1056 : decode cL_law 1056 = .ok (.iadd, 1) := by decide +kernel
theorem dL_law_1057 : decode cL_law 1057 = .ok (.iaload, 1) := by decide +kernel
theorem dL_law_1058 : decode cL_law 1058 = .ok (.aload_n 0, 1) := by decide +kernel
theorem dL_law_1059 : decode cL_law 1059 = .ok (.iload 4, 2) := by decide +kernel
theorem dL_law_1061 : decode cL_law 1061 = .ok (.iconst 2, 1) := by decide +kernel
theorem dL_law_1062 : decode cL_law 1062 = .ok (.iadd, 1) := by decide +kernel
theorem dL_law_1063 : decode cL_law 1063 = .ok (.iaload, 1) := by decide +kernel
theorem dL_law_1064 : decode cL_law 1064 = .ok (.invokevirtual 91, 3) := by decide +kernel
theorem dL_law_1067 : decode cL_law 1067 = .ok (.aload_n 2, 1) := by decide +kernel
theorem dL_law_1068 : decode cL_law 1068 = .ok (.aload_n 0, 1) := by decide +kernel
theorem dL_law_1069 : decode cL_law 1069 = .ok (.iload 4, 2) := by decide +kernel
theorem dL_law_1071 : decode cL_law 1071 = .ok (.iconst 1, 1) := by decide +kernel
theorem dL_law_1072 : decode cL_law 1072 = .ok (.iadd, 1) := by decide +kernel
theorem dL_law_1073 : decode cL_law 1073 = .ok (.iaload, 1) := by decide +kernel
theorem dL_law_1074 : decode cL_law 1074 = .ok (.aload_n 0, 1) := by decide +kernel
theorem dL_law_1075 : decode cL_law 1075 = .ok (.iload 4, 2) := by decide +kernel
theorem dL_law_1077 : decode cL_law 1077 = .ok (.iconst 2, 1) := by decide +kernel
theorem dL_law_1078 : decode cL_law 1078 = .ok (.iadd, 1) := by decide +kernel
theorem dL_law_1079 : decode cL_law 1079 = .ok (.iaload, 1) := by decide +kernel
theorem dL_law_1080 : decode cL_law 1080 = .ok (.invokevirtual 94, 3) := by decide +kernel
theorem dL_law_1083 : decode cL_law 1083 = .ok (.if_icmp .eq 875, 3) := by decide +kernel
set_option maxHeartbeats 4000000 in
set_option maxRecDepth 100000 in
theorem case_14 {p : Program} {e : Env} {s : State} {m : MethodId} {below : List Frame} {meth : Method} {c : Code} (l : Launch) {b : Nat} {xs : Nat → Int32} {D : va_G} {cy : Nat → ClassId} {st aX aM : Nat → Nat} {o : Nat} {H : Heap} {locs : List Loc} {ls : Array Slot} (hW : LW p s m meth c b xs D cy st aX aM o H locs) (hl : lv_has ls 7 [(0, .ref b), (1, .ref (aX 0)), (2, .ref (aM 0)), (3, .ref o), (4, .int 0)]) : W p l e room_1 s m #[Value.ref b] below meth c H locs 118 17833 (lw_Z below #[Value.ref b] s) (F0 m 1051 ls []) := by
  obtain ⟨C0, hK, hJX, hJM, hAX, hAM, hdis, hPX, hPM, hS⟩ := hW
  obtain ⟨hx, hb, hr, hml, hown, hts0, hX, hbl, hlocks, hgv⟩ := C0
  have hts : ∀ w ∈ wsL_law, w.before #[Value.ref b] s = true := fun w h => hts0 w (wsL_law_in w h)
  have hbA : ¬ (fun q : Nat => s.heap.size ≤ q) b := Nat.not_le.mpr hbl
  obtain ⟨y1, hy1⟩ : ∃ y, xs ((0 : Int32) + 1).toNatClampNeg = y := ⟨_, rfl⟩
  obtain ⟨y2, hy2⟩ : ∃ y, xs ((0 : Int32) + 2).toNatClampNeg = y := ⟨_, rfl⟩
  refine lv_aload_n hx hb dL_law_1051 rfl (lv_at hl 1 rfl) ?_
  refine lv_aload_n hx hb dL_law_1052 rfl (lv_at hl 0 rfl) ?_
  refine lv_iload hx hb dL_law_1053 (lv_at hl 4 rfl) ?_
  refine lv_iconst (v := 1) hx hb dL_law_1055 (by decide) ?_
  refine lv_iadd hx hb dL_law_1056 ?_
  refine sld9 (v := y1) hx hb hX hbl hbA hS (by show ¬ _; decide) hy1 dL_law_1057 ?_
  refine lv_aload_n hx hb dL_law_1058 rfl (lv_at hl 0 rfl) ?_
  refine lv_iload hx hb dL_law_1059 (lv_at hl 4 rfl) ?_
  refine lv_iconst (v := 2) hx hb dL_law_1061 (by decide) ?_
  refine lv_iadd hx hb dL_law_1062 ?_
  refine sld9 (v := y2) hx hb hX hbl hbA hS (by show ¬ _; decide) hy2 dL_law_1063 ?_
  obtain ⟨r, uA, uB, hfX, hfM⟩ := agr_ex (pf_goes y1 y2)
  refine lg_i (V := VX cy aX st) (Ad := AX aX) (As := [.int y1, .int y2]) (rest := []) ⟨hx, hb, hml, hown, fun w h => hts0 w (gw_X11_goes w h)⟩ hK hPX hS (fun q h => h.elim (hAX q) (fun z => Nat.le_trans hS.1 z)) (metX11_goes_0 l D cy aX st hJX H.size y1 y2 hfX) (cwV 2 (fun w h => hts0 w (gw_X11_goes w h)) gx_X11_goes rfl rfl rfl (by decide +kernel) ⟨Nat.le_of_ble_eq_true rfl, Nat.le_of_ble_eq_true rfl⟩) 0 11 rfl rfl rfl hl.1 rfl (Nat.le_of_ble_eq_true rfl) dL_law_1064 ⟨Nat.le_of_ble_eq_true rfl, Nat.le_of_ble_eq_true rfl⟩ (fun H locs hPX hkeep hS => ?_)
  have hPM := hkeep _ hPM (fun k q hq => hdis _ (VM_mem hq))
  refine lv_aload_n hx hb dL_law_1067 rfl (lv_at hl 2 rfl) ?_
  refine lv_aload_n hx hb dL_law_1068 rfl (lv_at hl 0 rfl) ?_
  refine lv_iload hx hb dL_law_1069 (lv_at hl 4 rfl) ?_
  refine lv_iconst (v := 1) hx hb dL_law_1071 (by decide) ?_
  refine lv_iadd hx hb dL_law_1072 ?_
  refine sld9 (v := y1) hx hb hX hbl hbA hS (by show ¬ _; decide) hy1 dL_law_1073 ?_
  refine lv_aload_n hx hb dL_law_1074 rfl (lv_at hl 0 rfl) ?_
  refine lv_iload hx hb dL_law_1075 (lv_at hl 4 rfl) ?_
  refine lv_iconst (v := 2) hx hb dL_law_1077 (by decide) ?_
  refine lv_iadd hx hb dL_law_1078 ?_
  refine sld9 (v := y2) hx hb hX hbl hbA hS (by show ¬ _; decide) hy2 dL_law_1079 ?_
  refine lg_i (V := VM cy aM st) (Ad := AM aM) (As := [.int y1, .int y2]) (rest := [.int r]) ⟨hx, hb, hml, hown, fun w h => hts0 w (gw_X12_goes w h)⟩ hK hPM hS (fun q h => h.elim (hAM q) (fun z => Nat.le_trans hS.1 z)) (metX12_goes_0 l D cy aM st hJM _ y1 y2 hfM) (cwV 2 (fun w h => hts0 w (gw_X12_goes w h)) gx_X12_goes rfl rfl rfl (by decide +kernel) ⟨Nat.le_of_ble_eq_true rfl, Nat.le_of_ble_eq_true rfl⟩) 0 12 rfl rfl rfl hl.1 rfl (Nat.le_of_ble_eq_true rfl) dL_law_1080 ⟨Nat.le_of_ble_eq_true rfl, Nat.le_of_ble_eq_true rfl⟩ (fun H locs hPM hkeep hS => ?_)
  refine lv_icmp_eq (tgt := 1958) hx hb dL_law_1083 (by decide) (fun _ => ?_) (fun h => absurd rfl h)
  exact law_end l (by decide) (by decide) hx hb hr hlocks hX hbl hbA hS hl
theorem dL_law_1088 : decode cL_law 1088 = .ok (.aload_n 1, 1) := by decide +kernel
theorem dL_law_1089 : decode cL_law 1089 = .ok (.aload_n 0, 1) := by decide +kernel
theorem dL_law_1090 : decode cL_law 1090 = .ok (.iload 4, 2) := by decide +kernel
theorem dL_law_1092 : decode cL_law 1092 = .ok (.iconst 1, 1) := by decide +kernel
theorem dL_law_1093 : decode cL_law 1093 = .ok (.iadd, 1) := by decide +kernel
theorem dL_law_1094 : decode cL_law 1094 = .ok (.iaload, 1) := by decide +kernel
theorem dL_law_1095 : decode cL_law 1095 = .ok (.aload_n 0, 1) := by decide +kernel
theorem dL_law_1096 : decode cL_law 1096 = .ok (.iload 4, 2) := by decide +kernel
theorem dL_law_1098 : decode cL_law 1098 = .ok (.iconst 2, 1) := by decide +kernel
theorem dL_law_1099 : decode cL_law 1099 = .ok (.iadd, 1) := by decide +kernel
theorem dL_law_1100 : decode cL_law 1100 = .ok (.iaload, 1) := by decide +kernel
theorem dL_law_1101 : decode cL_law 1101 = .ok (.aload_n 0, 1) := by decide +kernel
theorem dL_law_1102 : decode cL_law 1102 = .ok (.iload 4, 2) := by decide +kernel
theorem dL_law_1104 : decode cL_law 1104 = .ok (.iconst 3, 1) := by decide +kernel
theorem dL_law_1105 : decode cL_law 1105 = .ok (.iadd, 1) := by decide +kernel
theorem dL_law_1106 : decode cL_law 1106 = .ok (.iaload, 1) := by decide +kernel
theorem dL_law_1107 : decode cL_law 1107 = .ok (.invokevirtual 95, 3) := by decide +kernel
theorem dL_law_1110 : decode cL_law 1110 = .ok (.aload_n 2, 1) := by decide +kernel
theorem dL_law_1111 : decode cL_law 1111 = .ok (.aload_n 0, 1) := by decide +kernel
theorem dL_law_1112 : decode cL_law 1112 = .ok (.iload 4, 2) := by decide +kernel
theorem dL_law_1114 : decode cL_law 1114 = .ok (.iconst 1, 1) := by decide +kernel
theorem dL_law_1115 : decode cL_law 1115 = .ok (.iadd, 1) := by decide +kernel
theorem dL_law_1116 : decode cL_law 1116 = .ok (.iaload, 1) := by decide +kernel
theorem dL_law_1117 : decode cL_law 1117 = .ok (.aload_n 0, 1) := by decide +kernel
theorem dL_law_1118 : decode cL_law 1118 = .ok (.iload 4, 2) := by decide +kernel
theorem dL_law_1120 : decode cL_law 1120 = .ok (.iconst 2, 1) := by decide +kernel
theorem dL_law_1121 : decode cL_law 1121 = .ok (.iadd, 1) := by decide +kernel
theorem dL_law_1122 : decode cL_law 1122 = .ok (.iaload, 1) := by decide +kernel
theorem dL_law_1123 : decode cL_law 1123 = .ok (.aload_n 0, 1) := by decide +kernel
theorem dL_law_1124 : decode cL_law 1124 = .ok (.iload 4, 2) := by decide +kernel
theorem dL_law_1126 : decode cL_law 1126 = .ok (.iconst 3, 1) := by decide +kernel
theorem dL_law_1127 : decode cL_law 1127 = .ok (.iadd, 1) := by decide +kernel
theorem dL_law_1128 : decode cL_law 1128 = .ok (.iaload, 1) := by decide +kernel
theorem dL_law_1129 : decode cL_law 1129 = .ok (.invokevirtual 98, 3) := by decide +kernel
theorem dL_law_1132 : decode cL_law 1132 = .ok (.if_icmp .eq 826, 3) := by decide +kernel
set_option maxHeartbeats 4000000 in
set_option maxRecDepth 100000 in
theorem case_15 {p : Program} {e : Env} {s : State} {m : MethodId} {below : List Frame} {meth : Method} {c : Code} (l : Launch) {b : Nat} {xs : Nat → Int32} {D : va_G} {cy : Nat → ClassId} {st aX aM : Nat → Nat} {o : Nat} {H : Heap} {locs : List Loc} {ls : Array Slot} (hW : LW p s m meth c b xs D cy st aX aM o H locs) (hl : lv_has ls 7 [(0, .ref b), (1, .ref (aX 0)), (2, .ref (aM 0)), (3, .ref o), (4, .int 0)]) : W p l e room_1 s m #[Value.ref b] below meth c H locs 118 17833 (lw_Z below #[Value.ref b] s) (F0 m 1088 ls []) := by
  obtain ⟨C0, hK, hJX, hJM, hAX, hAM, hdis, hPX, hPM, hS⟩ := hW
  obtain ⟨hx, hb, hr, hml, hown, hts0, hX, hbl, hlocks, hgv⟩ := C0
  have hts : ∀ w ∈ wsL_law, w.before #[Value.ref b] s = true := fun w h => hts0 w (wsL_law_in w h)
  have hbA : ¬ (fun q : Nat => s.heap.size ≤ q) b := Nat.not_le.mpr hbl
  obtain ⟨y1, hy1⟩ : ∃ y, xs ((0 : Int32) + 1).toNatClampNeg = y := ⟨_, rfl⟩
  obtain ⟨y2, hy2⟩ : ∃ y, xs ((0 : Int32) + 2).toNatClampNeg = y := ⟨_, rfl⟩
  obtain ⟨y3, hy3⟩ : ∃ y, xs ((0 : Int32) + 3).toNatClampNeg = y := ⟨_, rfl⟩
  refine lv_aload_n hx hb dL_law_1088 rfl (lv_at hl 1 rfl) ?_
  refine lv_aload_n hx hb dL_law_1089 rfl (lv_at hl 0 rfl) ?_
  refine lv_iload hx hb dL_law_1090 (lv_at hl 4 rfl) ?_
  refine lv_iconst (v := 1) hx hb dL_law_1092 (by decide) ?_
  refine lv_iadd hx hb dL_law_1093 ?_
  refine sld9 (v := y1) hx hb hX hbl hbA hS (by show ¬ _; decide) hy1 dL_law_1094 ?_
  refine lv_aload_n hx hb dL_law_1095 rfl (lv_at hl 0 rfl) ?_
  refine lv_iload hx hb dL_law_1096 (lv_at hl 4 rfl) ?_
  refine lv_iconst (v := 2) hx hb dL_law_1098 (by decide) ?_
  refine lv_iadd hx hb dL_law_1099 ?_
  refine sld9 (v := y2) hx hb hX hbl hbA hS (by show ¬ _; decide) hy2 dL_law_1100 ?_
  refine lv_aload_n hx hb dL_law_1101 rfl (lv_at hl 0 rfl) ?_
  refine lv_iload hx hb dL_law_1102 (lv_at hl 4 rfl) ?_
  refine lv_iconst (v := 3) hx hb dL_law_1104 (by decide) ?_
  refine lv_iadd hx hb dL_law_1105 ?_
  refine sld9 (v := y3) hx hb hX hbl hbA hS (by show ¬ _; decide) hy3 dL_law_1106 ?_
  obtain ⟨r, uA, uB, hfX, hfM⟩ := agr_ex (pf_could y1 y2 y3)
  refine lg_i (V := VX cy aX st) (Ad := AX aX) (As := [.int y1, .int y2, .int y3]) (rest := []) ⟨hx, hb, hml, hown, fun w h => hts0 w (gw_X11_could w h)⟩ hK hPX hS (fun q h => h.elim (hAX q) (fun z => Nat.le_trans hS.1 z)) (metX11_could_0 l D cy aX st hJX H.size y1 y2 y3 hfX) (cwV 3 (fun w h => hts0 w (gw_X11_could w h)) gx_X11_could rfl rfl rfl (by decide +kernel) ⟨Nat.le_of_ble_eq_true rfl, Nat.le_of_ble_eq_true rfl⟩) 0 11 rfl rfl rfl hl.1 rfl (Nat.le_of_ble_eq_true rfl) dL_law_1107 ⟨Nat.le_of_ble_eq_true rfl, Nat.le_of_ble_eq_true rfl⟩ (fun H locs hPX hkeep hS => ?_)
  have hPM := hkeep _ hPM (fun k q hq => hdis _ (VM_mem hq))
  refine lv_aload_n hx hb dL_law_1110 rfl (lv_at hl 2 rfl) ?_
  refine lv_aload_n hx hb dL_law_1111 rfl (lv_at hl 0 rfl) ?_
  refine lv_iload hx hb dL_law_1112 (lv_at hl 4 rfl) ?_
  refine lv_iconst (v := 1) hx hb dL_law_1114 (by decide) ?_
  refine lv_iadd hx hb dL_law_1115 ?_
  refine sld9 (v := y1) hx hb hX hbl hbA hS (by show ¬ _; decide) hy1 dL_law_1116 ?_
  refine lv_aload_n hx hb dL_law_1117 rfl (lv_at hl 0 rfl) ?_
  refine lv_iload hx hb dL_law_1118 (lv_at hl 4 rfl) ?_
  refine lv_iconst (v := 2) hx hb dL_law_1120 (by decide) ?_
  refine lv_iadd hx hb dL_law_1121 ?_
  refine sld9 (v := y2) hx hb hX hbl hbA hS (by show ¬ _; decide) hy2 dL_law_1122 ?_
  refine lv_aload_n hx hb dL_law_1123 rfl (lv_at hl 0 rfl) ?_
  refine lv_iload hx hb dL_law_1124 (lv_at hl 4 rfl) ?_
  refine lv_iconst (v := 3) hx hb dL_law_1126 (by decide) ?_
  refine lv_iadd hx hb dL_law_1127 ?_
  refine sld9 (v := y3) hx hb hX hbl hbA hS (by show ¬ _; decide) hy3 dL_law_1128 ?_
  refine lg_i (V := VM cy aM st) (Ad := AM aM) (As := [.int y1, .int y2, .int y3]) (rest := [.int r]) ⟨hx, hb, hml, hown, fun w h => hts0 w (gw_X12_could w h)⟩ hK hPM hS (fun q h => h.elim (hAM q) (fun z => Nat.le_trans hS.1 z)) (metX12_could_0 l D cy aM st hJM _ y1 y2 y3 hfM) (cwV 3 (fun w h => hts0 w (gw_X12_could w h)) gx_X12_could rfl rfl rfl (by decide +kernel) ⟨Nat.le_of_ble_eq_true rfl, Nat.le_of_ble_eq_true rfl⟩) 0 12 rfl rfl rfl hl.1 rfl (Nat.le_of_ble_eq_true rfl) dL_law_1129 ⟨Nat.le_of_ble_eq_true rfl, Nat.le_of_ble_eq_true rfl⟩ (fun H locs hPM hkeep hS => ?_)
  refine lv_icmp_eq (tgt := 1958) hx hb dL_law_1132 (by decide) (fun _ => ?_) (fun h => absurd rfl h)
  exact law_end l (by decide) (by decide) hx hb hr hlocks hX hbl hbA hS hl
theorem dL_law_1137 : decode cL_law 1137 = .ok (.aload_n 1, 1) := by decide +kernel
theorem dL_law_1138 : decode cL_law 1138 = .ok (.aload_n 0, 1) := by decide +kernel
theorem dL_law_1139 : decode cL_law 1139 = .ok (.iload 4, 2) := by decide +kernel
theorem dL_law_1141 : decode cL_law 1141 = .ok (.iconst 1, 1) := by decide +kernel
theorem dL_law_1142 : decode cL_law 1142 = .ok (.iadd, 1) := by decide +kernel
theorem dL_law_1143 : decode cL_law 1143 = .ok (.iaload, 1) := by decide +kernel
theorem dL_law_1144 : decode cL_law 1144 = .ok (.invokevirtual 99, 3) := by decide +kernel
theorem dL_law_1147 : decode cL_law 1147 = .ok (.aload_n 2, 1) := by decide +kernel
theorem dL_law_1148 : decode cL_law 1148 = .ok (.aload_n 0, 1) := by decide +kernel
theorem dL_law_1149 : decode cL_law 1149 = .ok (.iload 4, 2) := by decide +kernel
theorem dL_law_1151 : decode cL_law 1151 = .ok (.iconst 1, 1) := by decide +kernel
theorem dL_law_1152 : decode cL_law 1152 = .ok (.iadd, 1) := by decide +kernel
theorem dL_law_1153 : decode cL_law 1153 = .ok (.iaload, 1) := by decide +kernel
theorem dL_law_1154 : decode cL_law 1154 = .ok (.invokevirtual 102, 3) := by decide +kernel
theorem dL_law_1157 : decode cL_law 1157 = .ok (.if_icmp .eq 801, 3) := by decide +kernel
set_option maxHeartbeats 4000000 in
set_option maxRecDepth 100000 in
theorem case_16 {p : Program} {e : Env} {s : State} {m : MethodId} {below : List Frame} {meth : Method} {c : Code} (l : Launch) {b : Nat} {xs : Nat → Int32} {D : va_G} {cy : Nat → ClassId} {st aX aM : Nat → Nat} {o : Nat} {H : Heap} {locs : List Loc} {ls : Array Slot} (hW : LW p s m meth c b xs D cy st aX aM o H locs) (hl : lv_has ls 7 [(0, .ref b), (1, .ref (aX 0)), (2, .ref (aM 0)), (3, .ref o), (4, .int 0)]) : W p l e room_1 s m #[Value.ref b] below meth c H locs 118 17833 (lw_Z below #[Value.ref b] s) (F0 m 1137 ls []) := by
  obtain ⟨C0, hK, hJX, hJM, hAX, hAM, hdis, hPX, hPM, hS⟩ := hW
  obtain ⟨hx, hb, hr, hml, hown, hts0, hX, hbl, hlocks, hgv⟩ := C0
  have hts : ∀ w ∈ wsL_law, w.before #[Value.ref b] s = true := fun w h => hts0 w (wsL_law_in w h)
  have hbA : ¬ (fun q : Nat => s.heap.size ≤ q) b := Nat.not_le.mpr hbl
  obtain ⟨y1, hy1⟩ : ∃ y, xs ((0 : Int32) + 1).toNatClampNeg = y := ⟨_, rfl⟩
  refine lv_aload_n hx hb dL_law_1137 rfl (lv_at hl 1 rfl) ?_
  refine lv_aload_n hx hb dL_law_1138 rfl (lv_at hl 0 rfl) ?_
  refine lv_iload hx hb dL_law_1139 (lv_at hl 4 rfl) ?_
  refine lv_iconst (v := 1) hx hb dL_law_1141 (by decide) ?_
  refine lv_iadd hx hb dL_law_1142 ?_
  refine sld9 (v := y1) hx hb hX hbl hbA hS (by show ¬ _; decide) hy1 dL_law_1143 ?_
  obtain ⟨r, uA, uB, hfX, hfM⟩ := agr_ex (pf_sets y1)
  refine lg_i (V := VX cy aX st) (Ad := AX aX) (As := [.int y1]) (rest := []) ⟨hx, hb, hml, hown, fun w h => hts0 w (gw_X11_sets w h)⟩ hK hPX hS (fun q h => h.elim (hAX q) (fun z => Nat.le_trans hS.1 z)) (metX11_sets_0 l D cy aX st hJX H.size y1 hfX) (cwV 1 (fun w h => hts0 w (gw_X11_sets w h)) gx_X11_sets rfl rfl rfl (by decide +kernel) ⟨Nat.le_of_ble_eq_true rfl, Nat.le_of_ble_eq_true rfl⟩) 0 11 rfl rfl rfl hl.1 rfl (Nat.le_of_ble_eq_true rfl) dL_law_1144 ⟨Nat.le_of_ble_eq_true rfl, Nat.le_of_ble_eq_true rfl⟩ (fun H locs hPX hkeep hS => ?_)
  have hPM := hkeep _ hPM (fun k q hq => hdis _ (VM_mem hq))
  refine lv_aload_n hx hb dL_law_1147 rfl (lv_at hl 2 rfl) ?_
  refine lv_aload_n hx hb dL_law_1148 rfl (lv_at hl 0 rfl) ?_
  refine lv_iload hx hb dL_law_1149 (lv_at hl 4 rfl) ?_
  refine lv_iconst (v := 1) hx hb dL_law_1151 (by decide) ?_
  refine lv_iadd hx hb dL_law_1152 ?_
  refine sld9 (v := y1) hx hb hX hbl hbA hS (by show ¬ _; decide) hy1 dL_law_1153 ?_
  refine lg_i (V := VM cy aM st) (Ad := AM aM) (As := [.int y1]) (rest := [.int r]) ⟨hx, hb, hml, hown, fun w h => hts0 w (gw_X12_sets w h)⟩ hK hPM hS (fun q h => h.elim (hAM q) (fun z => Nat.le_trans hS.1 z)) (metX12_sets_0 l D cy aM st hJM _ y1 hfM) (cwV 1 (fun w h => hts0 w (gw_X12_sets w h)) gx_X12_sets rfl rfl rfl (by decide +kernel) ⟨Nat.le_of_ble_eq_true rfl, Nat.le_of_ble_eq_true rfl⟩) 0 12 rfl rfl rfl hl.1 rfl (Nat.le_of_ble_eq_true rfl) dL_law_1154 ⟨Nat.le_of_ble_eq_true rfl, Nat.le_of_ble_eq_true rfl⟩ (fun H locs hPM hkeep hS => ?_)
  refine lv_icmp_eq (tgt := 1958) hx hb dL_law_1157 (by decide) (fun _ => ?_) (fun h => absurd rfl h)
  exact law_end l (by decide) (by decide) hx hb hr hlocks hX hbl hbA hS hl
theorem dL_law_1162 : decode cL_law 1162 = .ok (.aload_n 1, 1) := by decide +kernel
theorem dL_law_1163 : decode cL_law 1163 = .ok (.aload_n 0, 1) := by decide +kernel
theorem dL_law_1164 : decode cL_law 1164 = .ok (.iload 4, 2) := by decide +kernel
theorem dL_law_1166 : decode cL_law 1166 = .ok (.iconst 1, 1) := by decide +kernel
theorem dL_law_1167 : decode cL_law 1167 = .ok (.iadd, 1) := by decide +kernel
theorem dL_law_1168 : decode cL_law 1168 = .ok (.iaload, 1) := by decide +kernel
theorem dL_law_1169 : decode cL_law 1169 = .ok (.aload_n 0, 1) := by decide +kernel
theorem dL_law_1170 : decode cL_law 1170 = .ok (.iload 4, 2) := by decide +kernel
theorem dL_law_1172 : decode cL_law 1172 = .ok (.iconst 2, 1) := by decide +kernel
theorem dL_law_1173 : decode cL_law 1173 = .ok (.iadd, 1) := by decide +kernel
theorem dL_law_1174 : decode cL_law 1174 = .ok (.iaload, 1) := by decide +kernel
theorem dL_law_1175 : decode cL_law 1175 = .ok (.aload_n 0, 1) := by decide +kernel
theorem dL_law_1176 : decode cL_law 1176 = .ok (.iload 4, 2) := by decide +kernel
theorem dL_law_1178 : decode cL_law 1178 = .ok (.iconst 3, 1) := by decide +kernel
theorem dL_law_1179 : decode cL_law 1179 = .ok (.iadd, 1) := by decide +kernel
theorem dL_law_1180 : decode cL_law 1180 = .ok (.iaload, 1) := by decide +kernel
theorem dL_law_1181 : decode cL_law 1181 = .ok (.aload_n 0, 1) := by decide +kernel
theorem dL_law_1182 : decode cL_law 1182 = .ok (.iload 4, 2) := by decide +kernel
theorem dL_law_1184 : decode cL_law 1184 = .ok (.iconst 4, 1) := by decide +kernel
theorem dL_law_1185 : decode cL_law 1185 = .ok (.iadd, 1) := by decide +kernel
theorem dL_law_1186 : decode cL_law 1186 = .ok (.iaload, 1) := by decide +kernel
theorem dL_law_1187 : decode cL_law 1187 = .ok (.invokevirtual 103, 3) := by decide +kernel
theorem dL_law_1190 : decode cL_law 1190 = .ok (.aload_n 2, 1) := by decide +kernel
theorem dL_law_1191 : decode cL_law 1191 = .ok (.aload_n 0, 1) := by decide +kernel
theorem dL_law_1192 : decode cL_law 1192 = .ok (.iload 4, 2) := by decide +kernel
theorem dL_law_1194 : decode cL_law 1194 = .ok (.iconst 1, 1) := by decide +kernel
theorem dL_law_1195 : decode cL_law 1195 = .ok (.iadd, 1) := by decide +kernel
theorem dL_law_1196 : decode cL_law 1196 = .ok (.iaload, 1) := by decide +kernel
theorem dL_law_1197 : decode cL_law 1197 = .ok (.aload_n 0, 1) := by decide +kernel
theorem dL_law_1198 : decode cL_law 1198 = .ok (.iload 4, 2) := by decide +kernel
theorem dL_law_1200 : decode cL_law 1200 = .ok (.iconst 2, 1) := by decide +kernel
theorem dL_law_1201 : decode cL_law 1201 = .ok (.iadd, 1) := by decide +kernel
theorem dL_law_1202 : decode cL_law 1202 = .ok (.iaload, 1) := by decide +kernel
theorem dL_law_1203 : decode cL_law 1203 = .ok (.aload_n 0, 1) := by decide +kernel
theorem dL_law_1204 : decode cL_law 1204 = .ok (.iload 4, 2) := by decide +kernel
theorem dL_law_1206 : decode cL_law 1206 = .ok (.iconst 3, 1) := by decide +kernel
theorem dL_law_1207 : decode cL_law 1207 = .ok (.iadd, 1) := by decide +kernel
theorem dL_law_1208 : decode cL_law 1208 = .ok (.iaload, 1) := by decide +kernel
theorem dL_law_1209 : decode cL_law 1209 = .ok (.aload_n 0, 1) := by decide +kernel
theorem dL_law_1210 : decode cL_law 1210 = .ok (.iload 4, 2) := by decide +kernel
theorem dL_law_1212 : decode cL_law 1212 = .ok (.iconst 4, 1) := by decide +kernel
theorem dL_law_1213 : decode cL_law 1213 = .ok (.iadd, 1) := by decide +kernel
theorem dL_law_1214 : decode cL_law 1214 = .ok (.iaload, 1) := by decide +kernel
theorem dL_law_1215 : decode cL_law 1215 = .ok (.invokevirtual 106, 3) := by decide +kernel
theorem dL_law_1218 : decode cL_law 1218 = .ok (.if_icmp .eq 740, 3) := by decide +kernel
set_option maxHeartbeats 4000000 in
set_option maxRecDepth 100000 in
theorem case_17 {p : Program} {e : Env} {s : State} {m : MethodId} {below : List Frame} {meth : Method} {c : Code} (l : Launch) {b : Nat} {xs : Nat → Int32} {D : va_G} {cy : Nat → ClassId} {st aX aM : Nat → Nat} {o : Nat} {H : Heap} {locs : List Loc} {ls : Array Slot} (hW : LW p s m meth c b xs D cy st aX aM o H locs) (hl : lv_has ls 7 [(0, .ref b), (1, .ref (aX 0)), (2, .ref (aM 0)), (3, .ref o), (4, .int 0)]) : W p l e room_1 s m #[Value.ref b] below meth c H locs 118 17833 (lw_Z below #[Value.ref b] s) (F0 m 1162 ls []) := by
  obtain ⟨C0, hK, hJX, hJM, hAX, hAM, hdis, hPX, hPM, hS⟩ := hW
  obtain ⟨hx, hb, hr, hml, hown, hts0, hX, hbl, hlocks, hgv⟩ := C0
  have hts : ∀ w ∈ wsL_law, w.before #[Value.ref b] s = true := fun w h => hts0 w (wsL_law_in w h)
  have hbA : ¬ (fun q : Nat => s.heap.size ≤ q) b := Nat.not_le.mpr hbl
  obtain ⟨y1, hy1⟩ : ∃ y, xs ((0 : Int32) + 1).toNatClampNeg = y := ⟨_, rfl⟩
  obtain ⟨y2, hy2⟩ : ∃ y, xs ((0 : Int32) + 2).toNatClampNeg = y := ⟨_, rfl⟩
  obtain ⟨y3, hy3⟩ : ∃ y, xs ((0 : Int32) + 3).toNatClampNeg = y := ⟨_, rfl⟩
  obtain ⟨y4, hy4⟩ : ∃ y, xs ((0 : Int32) + 4).toNatClampNeg = y := ⟨_, rfl⟩
  refine lv_aload_n hx hb dL_law_1162 rfl (lv_at hl 1 rfl) ?_
  refine lv_aload_n hx hb dL_law_1163 rfl (lv_at hl 0 rfl) ?_
  refine lv_iload hx hb dL_law_1164 (lv_at hl 4 rfl) ?_
  refine lv_iconst (v := 1) hx hb dL_law_1166 (by decide) ?_
  refine lv_iadd hx hb dL_law_1167 ?_
  refine sld9 (v := y1) hx hb hX hbl hbA hS (by show ¬ _; decide) hy1 dL_law_1168 ?_
  refine lv_aload_n hx hb dL_law_1169 rfl (lv_at hl 0 rfl) ?_
  refine lv_iload hx hb dL_law_1170 (lv_at hl 4 rfl) ?_
  refine lv_iconst (v := 2) hx hb dL_law_1172 (by decide) ?_
  refine lv_iadd hx hb dL_law_1173 ?_
  refine sld9 (v := y2) hx hb hX hbl hbA hS (by show ¬ _; decide) hy2 dL_law_1174 ?_
  refine lv_aload_n hx hb dL_law_1175 rfl (lv_at hl 0 rfl) ?_
  refine lv_iload hx hb dL_law_1176 (lv_at hl 4 rfl) ?_
  refine lv_iconst (v := 3) hx hb dL_law_1178 (by decide) ?_
  refine lv_iadd hx hb dL_law_1179 ?_
  refine sld9 (v := y3) hx hb hX hbl hbA hS (by show ¬ _; decide) hy3 dL_law_1180 ?_
  refine lv_aload_n hx hb dL_law_1181 rfl (lv_at hl 0 rfl) ?_
  refine lv_iload hx hb dL_law_1182 (lv_at hl 4 rfl) ?_
  refine lv_iconst (v := 4) hx hb dL_law_1184 (by decide) ?_
  refine lv_iadd hx hb dL_law_1185 ?_
  refine sld9 (v := y4) hx hb hX hbl hbA hS (by show ¬ _; decide) hy4 dL_law_1186 ?_
  obtain ⟨r, uA, uB, hfX, hfM⟩ := agr_ex (pf_look y1 y2 y3 y4)
  refine lg_i (V := VX cy aX st) (Ad := AX aX) (As := [.int y1, .int y2, .int y3, .int y4]) (rest := []) ⟨hx, hb, hml, hown, fun w h => hts0 w (gw_X11_look w h)⟩ hK hPX hS (fun q h => h.elim (hAX q) (fun z => Nat.le_trans hS.1 z)) (metX11_look_0 l D cy aX st hJX H.size y1 y2 y3 y4 hfX) (cwV 4 (fun w h => hts0 w (gw_X11_look w h)) gx_X11_look rfl rfl rfl (by decide +kernel) ⟨Nat.le_of_ble_eq_true rfl, Nat.le_of_ble_eq_true rfl⟩) 0 11 rfl rfl rfl hl.1 rfl (Nat.le_of_ble_eq_true rfl) dL_law_1187 ⟨Nat.le_of_ble_eq_true rfl, Nat.le_of_ble_eq_true rfl⟩ (fun H locs hPX hkeep hS => ?_)
  have hPM := hkeep _ hPM (fun k q hq => hdis _ (VM_mem hq))
  refine lv_aload_n hx hb dL_law_1190 rfl (lv_at hl 2 rfl) ?_
  refine lv_aload_n hx hb dL_law_1191 rfl (lv_at hl 0 rfl) ?_
  refine lv_iload hx hb dL_law_1192 (lv_at hl 4 rfl) ?_
  refine lv_iconst (v := 1) hx hb dL_law_1194 (by decide) ?_
  refine lv_iadd hx hb dL_law_1195 ?_
  refine sld9 (v := y1) hx hb hX hbl hbA hS (by show ¬ _; decide) hy1 dL_law_1196 ?_
  refine lv_aload_n hx hb dL_law_1197 rfl (lv_at hl 0 rfl) ?_
  refine lv_iload hx hb dL_law_1198 (lv_at hl 4 rfl) ?_
  refine lv_iconst (v := 2) hx hb dL_law_1200 (by decide) ?_
  refine lv_iadd hx hb dL_law_1201 ?_
  refine sld9 (v := y2) hx hb hX hbl hbA hS (by show ¬ _; decide) hy2 dL_law_1202 ?_
  refine lv_aload_n hx hb dL_law_1203 rfl (lv_at hl 0 rfl) ?_
  refine lv_iload hx hb dL_law_1204 (lv_at hl 4 rfl) ?_
  refine lv_iconst (v := 3) hx hb dL_law_1206 (by decide) ?_
  refine lv_iadd hx hb dL_law_1207 ?_
  refine sld9 (v := y3) hx hb hX hbl hbA hS (by show ¬ _; decide) hy3 dL_law_1208 ?_
  refine lv_aload_n hx hb dL_law_1209 rfl (lv_at hl 0 rfl) ?_
  refine lv_iload hx hb dL_law_1210 (lv_at hl 4 rfl) ?_
  refine lv_iconst (v := 4) hx hb dL_law_1212 (by decide) ?_
  refine lv_iadd hx hb dL_law_1213 ?_
  refine sld9 (v := y4) hx hb hX hbl hbA hS (by show ¬ _; decide) hy4 dL_law_1214 ?_
  refine lg_i (V := VM cy aM st) (Ad := AM aM) (As := [.int y1, .int y2, .int y3, .int y4]) (rest := [.int r]) ⟨hx, hb, hml, hown, fun w h => hts0 w (gw_X12_look_ w h)⟩ hK hPM hS (fun q h => h.elim (hAM q) (fun z => Nat.le_trans hS.1 z)) (metX12_look__0 l D cy aM st hJM _ y1 y2 y3 y4 hfM) (cwV 4 (fun w h => hts0 w (gw_X12_look_ w h)) gx_X12_look_ rfl rfl rfl (by decide +kernel) ⟨Nat.le_of_ble_eq_true rfl, Nat.le_of_ble_eq_true rfl⟩) 0 12 rfl rfl rfl hl.1 rfl (Nat.le_of_ble_eq_true rfl) dL_law_1215 ⟨Nat.le_of_ble_eq_true rfl, Nat.le_of_ble_eq_true rfl⟩ (fun H locs hPM hkeep hS => ?_)
  refine lv_icmp_eq (tgt := 1958) hx hb dL_law_1218 (by decide) (fun _ => ?_) (fun h => absurd rfl h)
  exact law_end l (by decide) (by decide) hx hb hr hlocks hX hbl hbA hS hl
theorem dL_law_1223 : decode cL_law 1223 = .ok (.aload_n 1, 1) := by decide +kernel
theorem dL_law_1224 : decode cL_law 1224 = .ok (.aload_n 0, 1) := by decide +kernel
theorem dL_law_1225 : decode cL_law 1225 = .ok (.iload 4, 2) := by decide +kernel
theorem dL_law_1227 : decode cL_law 1227 = .ok (.iconst 1, 1) := by decide +kernel
theorem dL_law_1228 : decode cL_law 1228 = .ok (.iadd, 1) := by decide +kernel
theorem dL_law_1229 : decode cL_law 1229 = .ok (.iaload, 1) := by decide +kernel
theorem dL_law_1230 : decode cL_law 1230 = .ok (.invokevirtual 107, 3) := by decide +kernel
theorem dL_law_1233 : decode cL_law 1233 = .ok (.aload_n 2, 1) := by decide +kernel
theorem dL_law_1234 : decode cL_law 1234 = .ok (.aload_n 0, 1) := by decide +kernel
theorem dL_law_1235 : decode cL_law 1235 = .ok (.iload 4, 2) := by decide +kernel
theorem dL_law_1237 : decode cL_law 1237 = .ok (.iconst 1, 1) := by decide +kernel
theorem dL_law_1238 : decode cL_law 1238 = .ok (.iadd, 1) := by decide +kernel
theorem dL_law_1239 : decode cL_law 1239 = .ok (.iaload, 1) := by decide +kernel
theorem dL_law_1240 : decode cL_law 1240 = .ok (.invokevirtual 110, 3) := by decide +kernel
theorem dL_law_1243 : decode cL_law 1243 = .ok (.if_icmp .eq 715, 3) := by decide +kernel
set_option maxHeartbeats 4000000 in
set_option maxRecDepth 100000 in
theorem case_18 {p : Program} {e : Env} {s : State} {m : MethodId} {below : List Frame} {meth : Method} {c : Code} (l : Launch) {b : Nat} {xs : Nat → Int32} {D : va_G} {cy : Nat → ClassId} {st aX aM : Nat → Nat} {o : Nat} {H : Heap} {locs : List Loc} {ls : Array Slot} (hW : LW p s m meth c b xs D cy st aX aM o H locs) (hl : lv_has ls 7 [(0, .ref b), (1, .ref (aX 0)), (2, .ref (aM 0)), (3, .ref o), (4, .int 0)]) : W p l e room_1 s m #[Value.ref b] below meth c H locs 118 17833 (lw_Z below #[Value.ref b] s) (F0 m 1223 ls []) := by
  obtain ⟨C0, hK, hJX, hJM, hAX, hAM, hdis, hPX, hPM, hS⟩ := hW
  obtain ⟨hx, hb, hr, hml, hown, hts0, hX, hbl, hlocks, hgv⟩ := C0
  have hts : ∀ w ∈ wsL_law, w.before #[Value.ref b] s = true := fun w h => hts0 w (wsL_law_in w h)
  have hbA : ¬ (fun q : Nat => s.heap.size ≤ q) b := Nat.not_le.mpr hbl
  obtain ⟨y1, hy1⟩ : ∃ y, xs ((0 : Int32) + 1).toNatClampNeg = y := ⟨_, rfl⟩
  refine lv_aload_n hx hb dL_law_1223 rfl (lv_at hl 1 rfl) ?_
  refine lv_aload_n hx hb dL_law_1224 rfl (lv_at hl 0 rfl) ?_
  refine lv_iload hx hb dL_law_1225 (lv_at hl 4 rfl) ?_
  refine lv_iconst (v := 1) hx hb dL_law_1227 (by decide) ?_
  refine lv_iadd hx hb dL_law_1228 ?_
  refine sld9 (v := y1) hx hb hX hbl hbA hS (by show ¬ _; decide) hy1 dL_law_1229 ?_
  obtain ⟨r, uA, uB, hfX, hfM⟩ := agr_ex (pf_done y1)
  refine lg_i (V := VX cy aX st) (Ad := AX aX) (As := [.int y1]) (rest := []) ⟨hx, hb, hml, hown, fun w h => hts0 w (gw_X11_done w h)⟩ hK hPX hS (fun q h => h.elim (hAX q) (fun z => Nat.le_trans hS.1 z)) (metX11_done_0 l D cy aX st hJX H.size y1 hfX) (cwV 1 (fun w h => hts0 w (gw_X11_done w h)) gx_X11_done rfl rfl rfl (by decide +kernel) ⟨Nat.le_of_ble_eq_true rfl, Nat.le_of_ble_eq_true rfl⟩) 0 11 rfl rfl rfl hl.1 rfl (Nat.le_of_ble_eq_true rfl) dL_law_1230 ⟨Nat.le_of_ble_eq_true rfl, Nat.le_of_ble_eq_true rfl⟩ (fun H locs hPX hkeep hS => ?_)
  have hPM := hkeep _ hPM (fun k q hq => hdis _ (VM_mem hq))
  refine lv_aload_n hx hb dL_law_1233 rfl (lv_at hl 2 rfl) ?_
  refine lv_aload_n hx hb dL_law_1234 rfl (lv_at hl 0 rfl) ?_
  refine lv_iload hx hb dL_law_1235 (lv_at hl 4 rfl) ?_
  refine lv_iconst (v := 1) hx hb dL_law_1237 (by decide) ?_
  refine lv_iadd hx hb dL_law_1238 ?_
  refine sld9 (v := y1) hx hb hX hbl hbA hS (by show ¬ _; decide) hy1 dL_law_1239 ?_
  refine lg_i (V := VM cy aM st) (Ad := AM aM) (As := [.int y1]) (rest := [.int r]) ⟨hx, hb, hml, hown, fun w h => hts0 w (gw_X12_done w h)⟩ hK hPM hS (fun q h => h.elim (hAM q) (fun z => Nat.le_trans hS.1 z)) (metX12_done_0 l D cy aM st hJM _ y1 hfM) (cwV 1 (fun w h => hts0 w (gw_X12_done w h)) gx_X12_done rfl rfl rfl (by decide +kernel) ⟨Nat.le_of_ble_eq_true rfl, Nat.le_of_ble_eq_true rfl⟩) 0 12 rfl rfl rfl hl.1 rfl (Nat.le_of_ble_eq_true rfl) dL_law_1240 ⟨Nat.le_of_ble_eq_true rfl, Nat.le_of_ble_eq_true rfl⟩ (fun H locs hPM hkeep hS => ?_)
  refine lv_icmp_eq (tgt := 1958) hx hb dL_law_1243 (by decide) (fun _ => ?_) (fun h => absurd rfl h)
  exact law_end l (by decide) (by decide) hx hb hr hlocks hX hbl hbA hS hl
theorem dL_law_1248 : decode cL_law 1248 = .ok (.aload_n 1, 1) := by decide +kernel
theorem dL_law_1249 : decode cL_law 1249 = .ok (.aload_n 0, 1) := by decide +kernel
theorem dL_law_1250 : decode cL_law 1250 = .ok (.iload 4, 2) := by decide +kernel
theorem dL_law_1252 : decode cL_law 1252 = .ok (.iconst 1, 1) := by decide +kernel
theorem dL_law_1253 : decode cL_law 1253 = .ok (.iadd, 1) := by decide +kernel
theorem dL_law_1254 : decode cL_law 1254 = .ok (.iaload, 1) := by decide +kernel
theorem dL_law_1255 : decode cL_law 1255 = .ok (.aload_n 0, 1) := by decide +kernel
theorem dL_law_1256 : decode cL_law 1256 = .ok (.iload 4, 2) := by decide +kernel
theorem dL_law_1258 : decode cL_law 1258 = .ok (.iconst 2, 1) := by decide +kernel
theorem dL_law_1259 : decode cL_law 1259 = .ok (.iadd, 1) := by decide +kernel
theorem dL_law_1260 : decode cL_law 1260 = .ok (.iaload, 1) := by decide +kernel
theorem dL_law_1261 : decode cL_law 1261 = .ok (.aload_n 0, 1) := by decide +kernel
theorem dL_law_1262 : decode cL_law 1262 = .ok (.iload 4, 2) := by decide +kernel
theorem dL_law_1264 : decode cL_law 1264 = .ok (.iconst 3, 1) := by decide +kernel
theorem dL_law_1265 : decode cL_law 1265 = .ok (.iadd, 1) := by decide +kernel
theorem dL_law_1266 : decode cL_law 1266 = .ok (.iaload, 1) := by decide +kernel
theorem dL_law_1267 : decode cL_law 1267 = .ok (.aload_n 0, 1) := by decide +kernel
theorem dL_law_1268 : decode cL_law 1268 = .ok (.iload 4, 2) := by decide +kernel
theorem dL_law_1270 : decode cL_law 1270 = .ok (.iconst 4, 1) := by decide +kernel
theorem dL_law_1271 : decode cL_law 1271 = .ok (.iadd, 1) := by decide +kernel
theorem dL_law_1272 : decode cL_law 1272 = .ok (.iaload, 1) := by decide +kernel
theorem dL_law_1273 : decode cL_law 1273 = .ok (.invokevirtual 111, 3) := by decide +kernel
theorem dL_law_1276 : decode cL_law 1276 = .ok (.aload_n 2, 1) := by decide +kernel
theorem dL_law_1277 : decode cL_law 1277 = .ok (.aload_n 0, 1) := by decide +kernel
theorem dL_law_1278 : decode cL_law 1278 = .ok (.iload 4, 2) := by decide +kernel
theorem dL_law_1280 : decode cL_law 1280 = .ok (.iconst 1, 1) := by decide +kernel
theorem dL_law_1281 : decode cL_law 1281 = .ok (.iadd, 1) := by decide +kernel
theorem dL_law_1282 : decode cL_law 1282 = .ok (.iaload, 1) := by decide +kernel
theorem dL_law_1283 : decode cL_law 1283 = .ok (.aload_n 0, 1) := by decide +kernel
theorem dL_law_1284 : decode cL_law 1284 = .ok (.iload 4, 2) := by decide +kernel
theorem dL_law_1286 : decode cL_law 1286 = .ok (.iconst 2, 1) := by decide +kernel
theorem dL_law_1287 : decode cL_law 1287 = .ok (.iadd, 1) := by decide +kernel
theorem dL_law_1288 : decode cL_law 1288 = .ok (.iaload, 1) := by decide +kernel
theorem dL_law_1289 : decode cL_law 1289 = .ok (.aload_n 0, 1) := by decide +kernel
theorem dL_law_1290 : decode cL_law 1290 = .ok (.iload 4, 2) := by decide +kernel
theorem dL_law_1292 : decode cL_law 1292 = .ok (.iconst 3, 1) := by decide +kernel
theorem dL_law_1293 : decode cL_law 1293 = .ok (.iadd, 1) := by decide +kernel
theorem dL_law_1294 : decode cL_law 1294 = .ok (.iaload, 1) := by decide +kernel
theorem dL_law_1295 : decode cL_law 1295 = .ok (.aload_n 0, 1) := by decide +kernel
theorem dL_law_1296 : decode cL_law 1296 = .ok (.iload 4, 2) := by decide +kernel
theorem dL_law_1298 : decode cL_law 1298 = .ok (.iconst 4, 1) := by decide +kernel
theorem dL_law_1299 : decode cL_law 1299 = .ok (.iadd, 1) := by decide +kernel
theorem dL_law_1300 : decode cL_law 1300 = .ok (.iaload, 1) := by decide +kernel
theorem dL_law_1301 : decode cL_law 1301 = .ok (.invokevirtual 115, 3) := by decide +kernel
theorem dL_law_1304 : decode cL_law 1304 = .ok (.if_icmp .eq 654, 3) := by decide +kernel
set_option maxHeartbeats 4000000 in
set_option maxRecDepth 100000 in
theorem case_19 {p : Program} {e : Env} {s : State} {m : MethodId} {below : List Frame} {meth : Method} {c : Code} (l : Launch) {b : Nat} {xs : Nat → Int32} {D : va_G} {cy : Nat → ClassId} {st aX aM : Nat → Nat} {o : Nat} {H : Heap} {locs : List Loc} {ls : Array Slot} (hW : LW p s m meth c b xs D cy st aX aM o H locs) (hl : lv_has ls 7 [(0, .ref b), (1, .ref (aX 0)), (2, .ref (aM 0)), (3, .ref o), (4, .int 0)]) : W p l e room_1 s m #[Value.ref b] below meth c H locs 118 17833 (lw_Z below #[Value.ref b] s) (F0 m 1248 ls []) := by
  obtain ⟨C0, hK, hJX, hJM, hAX, hAM, hdis, hPX, hPM, hS⟩ := hW
  obtain ⟨hx, hb, hr, hml, hown, hts0, hX, hbl, hlocks, hgv⟩ := C0
  have hts : ∀ w ∈ wsL_law, w.before #[Value.ref b] s = true := fun w h => hts0 w (wsL_law_in w h)
  have hbA : ¬ (fun q : Nat => s.heap.size ≤ q) b := Nat.not_le.mpr hbl
  obtain ⟨y1, hy1⟩ : ∃ y, xs ((0 : Int32) + 1).toNatClampNeg = y := ⟨_, rfl⟩
  obtain ⟨y2, hy2⟩ : ∃ y, xs ((0 : Int32) + 2).toNatClampNeg = y := ⟨_, rfl⟩
  obtain ⟨y3, hy3⟩ : ∃ y, xs ((0 : Int32) + 3).toNatClampNeg = y := ⟨_, rfl⟩
  obtain ⟨y4, hy4⟩ : ∃ y, xs ((0 : Int32) + 4).toNatClampNeg = y := ⟨_, rfl⟩
  refine lv_aload_n hx hb dL_law_1248 rfl (lv_at hl 1 rfl) ?_
  refine lv_aload_n hx hb dL_law_1249 rfl (lv_at hl 0 rfl) ?_
  refine lv_iload hx hb dL_law_1250 (lv_at hl 4 rfl) ?_
  refine lv_iconst (v := 1) hx hb dL_law_1252 (by decide) ?_
  refine lv_iadd hx hb dL_law_1253 ?_
  refine sld9 (v := y1) hx hb hX hbl hbA hS (by show ¬ _; decide) hy1 dL_law_1254 ?_
  refine lv_aload_n hx hb dL_law_1255 rfl (lv_at hl 0 rfl) ?_
  refine lv_iload hx hb dL_law_1256 (lv_at hl 4 rfl) ?_
  refine lv_iconst (v := 2) hx hb dL_law_1258 (by decide) ?_
  refine lv_iadd hx hb dL_law_1259 ?_
  refine sld9 (v := y2) hx hb hX hbl hbA hS (by show ¬ _; decide) hy2 dL_law_1260 ?_
  refine lv_aload_n hx hb dL_law_1261 rfl (lv_at hl 0 rfl) ?_
  refine lv_iload hx hb dL_law_1262 (lv_at hl 4 rfl) ?_
  refine lv_iconst (v := 3) hx hb dL_law_1264 (by decide) ?_
  refine lv_iadd hx hb dL_law_1265 ?_
  refine sld9 (v := y3) hx hb hX hbl hbA hS (by show ¬ _; decide) hy3 dL_law_1266 ?_
  refine lv_aload_n hx hb dL_law_1267 rfl (lv_at hl 0 rfl) ?_
  refine lv_iload hx hb dL_law_1268 (lv_at hl 4 rfl) ?_
  refine lv_iconst (v := 4) hx hb dL_law_1270 (by decide) ?_
  refine lv_iadd hx hb dL_law_1271 ?_
  refine sld9 (v := y4) hx hb hX hbl hbA hS (by show ¬ _; decide) hy4 dL_law_1272 ?_
  obtain ⟨r, uA, uB, hfX, hfM⟩ := agr_ex (pf_clean y1 y2 y3 y4)
  refine lg_i (V := VX cy aX st) (Ad := AX aX) (As := [.int y1, .int y2, .int y3, .int y4]) (rest := []) ⟨hx, hb, hml, hown, fun w h => hts0 w (gw_X11_clean w h)⟩ hK hPX hS (fun q h => h.elim (hAX q) (fun z => Nat.le_trans hS.1 z)) (metX11_clean_0 l D cy aX st hJX H.size y1 y2 y3 y4 hfX) (cwV 4 (fun w h => hts0 w (gw_X11_clean w h)) gx_X11_clean rfl rfl rfl (by decide +kernel) ⟨Nat.le_of_ble_eq_true rfl, Nat.le_of_ble_eq_true rfl⟩) 0 11 rfl rfl rfl hl.1 rfl (Nat.le_of_ble_eq_true rfl) dL_law_1273 ⟨Nat.le_of_ble_eq_true rfl, Nat.le_of_ble_eq_true rfl⟩ (fun H locs hPX hkeep hS => ?_)
  have hPM := hkeep _ hPM (fun k q hq => hdis _ (VM_mem hq))
  refine lv_aload_n hx hb dL_law_1276 rfl (lv_at hl 2 rfl) ?_
  refine lv_aload_n hx hb dL_law_1277 rfl (lv_at hl 0 rfl) ?_
  refine lv_iload hx hb dL_law_1278 (lv_at hl 4 rfl) ?_
  refine lv_iconst (v := 1) hx hb dL_law_1280 (by decide) ?_
  refine lv_iadd hx hb dL_law_1281 ?_
  refine sld9 (v := y1) hx hb hX hbl hbA hS (by show ¬ _; decide) hy1 dL_law_1282 ?_
  refine lv_aload_n hx hb dL_law_1283 rfl (lv_at hl 0 rfl) ?_
  refine lv_iload hx hb dL_law_1284 (lv_at hl 4 rfl) ?_
  refine lv_iconst (v := 2) hx hb dL_law_1286 (by decide) ?_
  refine lv_iadd hx hb dL_law_1287 ?_
  refine sld9 (v := y2) hx hb hX hbl hbA hS (by show ¬ _; decide) hy2 dL_law_1288 ?_
  refine lv_aload_n hx hb dL_law_1289 rfl (lv_at hl 0 rfl) ?_
  refine lv_iload hx hb dL_law_1290 (lv_at hl 4 rfl) ?_
  refine lv_iconst (v := 3) hx hb dL_law_1292 (by decide) ?_
  refine lv_iadd hx hb dL_law_1293 ?_
  refine sld9 (v := y3) hx hb hX hbl hbA hS (by show ¬ _; decide) hy3 dL_law_1294 ?_
  refine lv_aload_n hx hb dL_law_1295 rfl (lv_at hl 0 rfl) ?_
  refine lv_iload hx hb dL_law_1296 (lv_at hl 4 rfl) ?_
  refine lv_iconst (v := 4) hx hb dL_law_1298 (by decide) ?_
  refine lv_iadd hx hb dL_law_1299 ?_
  refine sld9 (v := y4) hx hb hX hbl hbA hS (by show ¬ _; decide) hy4 dL_law_1300 ?_
  refine lg_i (V := VM cy aM st) (Ad := AM aM) (As := [.int y1, .int y2, .int y3, .int y4]) (rest := [.int r]) ⟨hx, hb, hml, hown, fun w h => hts0 w (gw_X12_clean w h)⟩ hK hPM hS (fun q h => h.elim (hAM q) (fun z => Nat.le_trans hS.1 z)) (metX12_clean_0 l D cy aM st hJM _ y1 y2 y3 y4 hfM) (cwV 4 (fun w h => hts0 w (gw_X12_clean w h)) gx_X12_clean rfl rfl rfl (by decide +kernel) ⟨Nat.le_of_ble_eq_true rfl, Nat.le_of_ble_eq_true rfl⟩) 0 12 rfl rfl rfl hl.1 rfl (Nat.le_of_ble_eq_true rfl) dL_law_1301 ⟨Nat.le_of_ble_eq_true rfl, Nat.le_of_ble_eq_true rfl⟩ (fun H locs hPM hkeep hS => ?_)
  refine lv_icmp_eq (tgt := 1958) hx hb dL_law_1304 (by decide) (fun _ => ?_) (fun h => absurd rfl h)
  exact law_end l (by decide) (by decide) hx hb hr hlocks hX hbl hbA hS hl
theorem dL_law_1309 : decode cL_law 1309 = .ok (.aload_n 1, 1) := by decide +kernel
theorem dL_law_1310 : decode cL_law 1310 = .ok (.aload_n 0, 1) := by decide +kernel
theorem dL_law_1311 : decode cL_law 1311 = .ok (.iload 4, 2) := by decide +kernel
theorem dL_law_1313 : decode cL_law 1313 = .ok (.iconst 1, 1) := by decide +kernel
theorem dL_law_1314 : decode cL_law 1314 = .ok (.iadd, 1) := by decide +kernel
theorem dL_law_1315 : decode cL_law 1315 = .ok (.iaload, 1) := by decide +kernel
theorem dL_law_1316 : decode cL_law 1316 = .ok (.aload_n 0, 1) := by decide +kernel
theorem dL_law_1317 : decode cL_law 1317 = .ok (.iload 4, 2) := by decide +kernel
theorem dL_law_1319 : decode cL_law 1319 = .ok (.iconst 2, 1) := by decide +kernel
theorem dL_law_1320 : decode cL_law 1320 = .ok (.iadd, 1) := by decide +kernel
theorem dL_law_1321 : decode cL_law 1321 = .ok (.iaload, 1) := by decide +kernel
theorem dL_law_1322 : decode cL_law 1322 = .ok (.invokevirtual 116, 3) := by decide +kernel
theorem dL_law_1325 : decode cL_law 1325 = .ok (.aload_n 2, 1) := by decide +kernel
theorem dL_law_1326 : decode cL_law 1326 = .ok (.aload_n 0, 1) := by decide +kernel
theorem dL_law_1327 : decode cL_law 1327 = .ok (.iload 4, 2) := by decide +kernel
theorem dL_law_1329 : decode cL_law 1329 = .ok (.iconst 1, 1) := by decide +kernel
theorem dL_law_1330 : decode cL_law 1330 = .ok (.iadd, 1) := by decide +kernel
theorem dL_law_1331 : decode cL_law 1331 = .ok (.iaload, 1) := by decide +kernel
theorem dL_law_1332 : decode cL_law 1332 = .ok (.aload_n 0, 1) := by decide +kernel
theorem dL_law_1333 : decode cL_law 1333 = .ok (.iload 4, 2) := by decide +kernel
theorem dL_law_1335 : decode cL_law 1335 = .ok (.iconst 2, 1) := by decide +kernel
theorem dL_law_1336 : decode cL_law 1336 = .ok (.iadd, 1) := by decide +kernel
theorem dL_law_1337 : decode cL_law 1337 = .ok (.iaload, 1) := by decide +kernel
theorem dL_law_1338 : decode cL_law 1338 = .ok (.invokevirtual 119, 3) := by decide +kernel
theorem dL_law_1341 : decode cL_law 1341 = .ok (.if_icmp .eq 617, 3) := by decide +kernel
set_option maxHeartbeats 4000000 in
set_option maxRecDepth 100000 in
theorem case_20 {p : Program} {e : Env} {s : State} {m : MethodId} {below : List Frame} {meth : Method} {c : Code} (l : Launch) {b : Nat} {xs : Nat → Int32} {D : va_G} {cy : Nat → ClassId} {st aX aM : Nat → Nat} {o : Nat} {H : Heap} {locs : List Loc} {ls : Array Slot} (hW : LW p s m meth c b xs D cy st aX aM o H locs) (hl : lv_has ls 7 [(0, .ref b), (1, .ref (aX 0)), (2, .ref (aM 0)), (3, .ref o), (4, .int 0)]) : W p l e room_1 s m #[Value.ref b] below meth c H locs 118 17833 (lw_Z below #[Value.ref b] s) (F0 m 1309 ls []) := by
  obtain ⟨C0, hK, hJX, hJM, hAX, hAM, hdis, hPX, hPM, hS⟩ := hW
  obtain ⟨hx, hb, hr, hml, hown, hts0, hX, hbl, hlocks, hgv⟩ := C0
  have hts : ∀ w ∈ wsL_law, w.before #[Value.ref b] s = true := fun w h => hts0 w (wsL_law_in w h)
  have hbA : ¬ (fun q : Nat => s.heap.size ≤ q) b := Nat.not_le.mpr hbl
  obtain ⟨y1, hy1⟩ : ∃ y, xs ((0 : Int32) + 1).toNatClampNeg = y := ⟨_, rfl⟩
  obtain ⟨y2, hy2⟩ : ∃ y, xs ((0 : Int32) + 2).toNatClampNeg = y := ⟨_, rfl⟩
  refine lv_aload_n hx hb dL_law_1309 rfl (lv_at hl 1 rfl) ?_
  refine lv_aload_n hx hb dL_law_1310 rfl (lv_at hl 0 rfl) ?_
  refine lv_iload hx hb dL_law_1311 (lv_at hl 4 rfl) ?_
  refine lv_iconst (v := 1) hx hb dL_law_1313 (by decide) ?_
  refine lv_iadd hx hb dL_law_1314 ?_
  refine sld9 (v := y1) hx hb hX hbl hbA hS (by show ¬ _; decide) hy1 dL_law_1315 ?_
  refine lv_aload_n hx hb dL_law_1316 rfl (lv_at hl 0 rfl) ?_
  refine lv_iload hx hb dL_law_1317 (lv_at hl 4 rfl) ?_
  refine lv_iconst (v := 2) hx hb dL_law_1319 (by decide) ?_
  refine lv_iadd hx hb dL_law_1320 ?_
  refine sld9 (v := y2) hx hb hX hbl hbA hS (by show ¬ _; decide) hy2 dL_law_1321 ?_
  obtain ⟨r, uA, uB, hfX, hfM⟩ := agr_ex (pf_narrows y1 y2)
  refine lg_i (V := VX cy aX st) (Ad := AX aX) (As := [.int y1, .int y2]) (rest := []) ⟨hx, hb, hml, hown, fun w h => hts0 w (gw_X11_narrows w h)⟩ hK hPX hS (fun q h => h.elim (hAX q) (fun z => Nat.le_trans hS.1 z)) (metX11_narrows_0 l D cy aX st hJX H.size y1 y2 hfX) (cwV 2 (fun w h => hts0 w (gw_X11_narrows w h)) gx_X11_narrows rfl rfl rfl (by decide +kernel) ⟨Nat.le_of_ble_eq_true rfl, Nat.le_of_ble_eq_true rfl⟩) 0 11 rfl rfl rfl hl.1 rfl (Nat.le_of_ble_eq_true rfl) dL_law_1322 ⟨Nat.le_of_ble_eq_true rfl, Nat.le_of_ble_eq_true rfl⟩ (fun H locs hPX hkeep hS => ?_)
  have hPM := hkeep _ hPM (fun k q hq => hdis _ (VM_mem hq))
  refine lv_aload_n hx hb dL_law_1325 rfl (lv_at hl 2 rfl) ?_
  refine lv_aload_n hx hb dL_law_1326 rfl (lv_at hl 0 rfl) ?_
  refine lv_iload hx hb dL_law_1327 (lv_at hl 4 rfl) ?_
  refine lv_iconst (v := 1) hx hb dL_law_1329 (by decide) ?_
  refine lv_iadd hx hb dL_law_1330 ?_
  refine sld9 (v := y1) hx hb hX hbl hbA hS (by show ¬ _; decide) hy1 dL_law_1331 ?_
  refine lv_aload_n hx hb dL_law_1332 rfl (lv_at hl 0 rfl) ?_
  refine lv_iload hx hb dL_law_1333 (lv_at hl 4 rfl) ?_
  refine lv_iconst (v := 2) hx hb dL_law_1335 (by decide) ?_
  refine lv_iadd hx hb dL_law_1336 ?_
  refine sld9 (v := y2) hx hb hX hbl hbA hS (by show ¬ _; decide) hy2 dL_law_1337 ?_
  refine lg_i (V := VM cy aM st) (Ad := AM aM) (As := [.int y1, .int y2]) (rest := [.int r]) ⟨hx, hb, hml, hown, fun w h => hts0 w (gw_X12_narrows w h)⟩ hK hPM hS (fun q h => h.elim (hAM q) (fun z => Nat.le_trans hS.1 z)) (metX12_narrows_0 l D cy aM st hJM _ y1 y2 hfM) (cwV 2 (fun w h => hts0 w (gw_X12_narrows w h)) gx_X12_narrows rfl rfl rfl (by decide +kernel) ⟨Nat.le_of_ble_eq_true rfl, Nat.le_of_ble_eq_true rfl⟩) 0 12 rfl rfl rfl hl.1 rfl (Nat.le_of_ble_eq_true rfl) dL_law_1338 ⟨Nat.le_of_ble_eq_true rfl, Nat.le_of_ble_eq_true rfl⟩ (fun H locs hPM hkeep hS => ?_)
  refine lv_icmp_eq (tgt := 1958) hx hb dL_law_1341 (by decide) (fun _ => ?_) (fun h => absurd rfl h)
  exact law_end l (by decide) (by decide) hx hb hr hlocks hX hbl hbA hS hl
theorem dL_law_1346 : decode cL_law 1346 = .ok (.aload_n 1, 1) := by decide +kernel
theorem dL_law_1347 : decode cL_law 1347 = .ok (.invokevirtual 120, 3) := by decide +kernel
theorem dL_law_1350 : decode cL_law 1350 = .ok (.aload_n 2, 1) := by decide +kernel
theorem dL_law_1351 : decode cL_law 1351 = .ok (.invokevirtual 123, 3) := by decide +kernel
theorem dL_law_1354 : decode cL_law 1354 = .ok (.if_icmp .eq 604, 3) := by decide +kernel
set_option maxHeartbeats 4000000 in
set_option maxRecDepth 100000 in
theorem case_21 {p : Program} {e : Env} {s : State} {m : MethodId} {below : List Frame} {meth : Method} {c : Code} (l : Launch) {b : Nat} {xs : Nat → Int32} {D : va_G} {cy : Nat → ClassId} {st aX aM : Nat → Nat} {o : Nat} {H : Heap} {locs : List Loc} {ls : Array Slot} (hW : LW p s m meth c b xs D cy st aX aM o H locs) (hl : lv_has ls 7 [(0, .ref b), (1, .ref (aX 0)), (2, .ref (aM 0)), (3, .ref o), (4, .int 0)]) : W p l e room_1 s m #[Value.ref b] below meth c H locs 118 17833 (lw_Z below #[Value.ref b] s) (F0 m 1346 ls []) := by
  obtain ⟨C0, hK, hJX, hJM, hAX, hAM, hdis, hPX, hPM, hS⟩ := hW
  obtain ⟨hx, hb, hr, hml, hown, hts0, hX, hbl, hlocks, hgv⟩ := C0
  have hts : ∀ w ∈ wsL_law, w.before #[Value.ref b] s = true := fun w h => hts0 w (wsL_law_in w h)
  have hbA : ¬ (fun q : Nat => s.heap.size ≤ q) b := Nat.not_le.mpr hbl
  refine lv_aload_n hx hb dL_law_1346 rfl (lv_at hl 1 rfl) ?_
  obtain ⟨r, uA, uB, hfX, hfM⟩ := agr_ex (pf_nothing )
  refine lg_i (V := VX cy aX st) (Ad := AX aX) (As := []) (rest := []) ⟨hx, hb, hml, hown, fun w h => hts0 w (gw_X11_nothing w h)⟩ hK hPX hS (fun q h => h.elim (hAX q) (fun z => Nat.le_trans hS.1 z)) (metX11_nothing_0 l D cy aX st hJX H.size  hfX) (cwV 0 (fun w h => hts0 w (gw_X11_nothing w h)) gx_X11_nothing rfl rfl rfl (by decide +kernel) ⟨Nat.le_of_ble_eq_true rfl, Nat.le_of_ble_eq_true rfl⟩) 0 11 rfl rfl rfl hl.1 rfl (Nat.le_of_ble_eq_true rfl) dL_law_1347 ⟨Nat.le_of_ble_eq_true rfl, Nat.le_of_ble_eq_true rfl⟩ (fun H locs hPX hkeep hS => ?_)
  have hPM := hkeep _ hPM (fun k q hq => hdis _ (VM_mem hq))
  refine lv_aload_n hx hb dL_law_1350 rfl (lv_at hl 2 rfl) ?_
  refine lg_i (V := VM cy aM st) (Ad := AM aM) (As := []) (rest := [.int r]) ⟨hx, hb, hml, hown, fun w h => hts0 w (gw_X12_nothing w h)⟩ hK hPM hS (fun q h => h.elim (hAM q) (fun z => Nat.le_trans hS.1 z)) (metX12_nothing_0 l D cy aM st hJM _  hfM) (cwV 0 (fun w h => hts0 w (gw_X12_nothing w h)) gx_X12_nothing rfl rfl rfl (by decide +kernel) ⟨Nat.le_of_ble_eq_true rfl, Nat.le_of_ble_eq_true rfl⟩) 0 12 rfl rfl rfl hl.1 rfl (Nat.le_of_ble_eq_true rfl) dL_law_1351 ⟨Nat.le_of_ble_eq_true rfl, Nat.le_of_ble_eq_true rfl⟩ (fun H locs hPM hkeep hS => ?_)
  refine lv_icmp_eq (tgt := 1958) hx hb dL_law_1354 (by decide) (fun _ => ?_) (fun h => absurd rfl h)
  exact law_end l (by decide) (by decide) hx hb hr hlocks hX hbl hbA hS hl
theorem dL_law_1359 : decode cL_law 1359 = .ok (.aload_n 1, 1) := by decide +kernel
theorem dL_law_1360 : decode cL_law 1360 = .ok (.aload_n 0, 1) := by decide +kernel
theorem dL_law_1361 : decode cL_law 1361 = .ok (.iload 4, 2) := by decide +kernel
theorem dL_law_1363 : decode cL_law 1363 = .ok (.iconst 1, 1) := by decide +kernel
theorem dL_law_1364 : decode cL_law 1364 = .ok (.iadd, 1) := by decide +kernel
theorem dL_law_1365 : decode cL_law 1365 = .ok (.iaload, 1) := by decide +kernel
theorem dL_law_1366 : decode cL_law 1366 = .ok (.aload_n 0, 1) := by decide +kernel
theorem dL_law_1367 : decode cL_law 1367 = .ok (.iload 4, 2) := by decide +kernel
theorem dL_law_1369 : decode cL_law 1369 = .ok (.iconst 2, 1) := by decide +kernel
theorem dL_law_1370 : decode cL_law 1370 = .ok (.iadd, 1) := by decide +kernel
theorem dL_law_1371 : decode cL_law 1371 = .ok (.iaload, 1) := by decide +kernel
theorem dL_law_1372 : decode cL_law 1372 = .ok (.aload_n 0, 1) := by decide +kernel
theorem dL_law_1373 : decode cL_law 1373 = .ok (.iload 4, 2) := by decide +kernel
theorem dL_law_1375 : decode cL_law 1375 = .ok (.iconst 3, 1) := by decide +kernel
theorem dL_law_1376 : decode cL_law 1376 = .ok (.iadd, 1) := by decide +kernel
theorem dL_law_1377 : decode cL_law 1377 = .ok (.iaload, 1) := by decide +kernel
theorem dL_law_1378 : decode cL_law 1378 = .ok (.invokevirtual 124, 3) := by decide +kernel
theorem dL_law_1381 : decode cL_law 1381 = .ok (.aload_n 2, 1) := by decide +kernel
theorem dL_law_1382 : decode cL_law 1382 = .ok (.aload_n 0, 1) := by decide +kernel
theorem dL_law_1383 : decode cL_law 1383 = .ok (.iload 4, 2) := by decide +kernel
theorem dL_law_1385 : decode cL_law 1385 = .ok (.iconst 1, 1) := by decide +kernel
theorem dL_law_1386 : decode cL_law 1386 = .ok (.iadd, 1) := by decide +kernel
theorem dL_law_1387 : decode cL_law 1387 = .ok (.iaload, 1) := by decide +kernel
theorem dL_law_1388 : decode cL_law 1388 = .ok (.aload_n 0, 1) := by decide +kernel
theorem dL_law_1389 : decode cL_law 1389 = .ok (.iload 4, 2) := by decide +kernel
theorem dL_law_1391 : decode cL_law 1391 = .ok (.iconst 2, 1) := by decide +kernel
theorem dL_law_1392 : decode cL_law 1392 = .ok (.iadd, 1) := by decide +kernel
theorem dL_law_1393 : decode cL_law 1393 = .ok (.iaload, 1) := by decide +kernel
theorem dL_law_1394 : decode cL_law 1394 = .ok (.aload_n 0, 1) := by decide +kernel
theorem dL_law_1395 : decode cL_law 1395 = .ok (.iload 4, 2) := by decide +kernel
theorem dL_law_1397 : decode cL_law 1397 = .ok (.iconst 3, 1) := by decide +kernel
theorem dL_law_1398 : decode cL_law 1398 = .ok (.iadd, 1) := by decide +kernel
theorem dL_law_1399 : decode cL_law 1399 = .ok (.iaload, 1) := by decide +kernel
theorem dL_law_1400 : decode cL_law 1400 = .ok (.invokevirtual 127, 3) := by decide +kernel
theorem dL_law_1403 : decode cL_law 1403 = .ok (.if_icmp .eq 555, 3) := by decide +kernel
set_option maxHeartbeats 4000000 in
set_option maxRecDepth 100000 in
theorem case_22 {p : Program} {e : Env} {s : State} {m : MethodId} {below : List Frame} {meth : Method} {c : Code} (l : Launch) {b : Nat} {xs : Nat → Int32} {D : va_G} {cy : Nat → ClassId} {st aX aM : Nat → Nat} {o : Nat} {H : Heap} {locs : List Loc} {ls : Array Slot} (hW : LW p s m meth c b xs D cy st aX aM o H locs) (hl : lv_has ls 7 [(0, .ref b), (1, .ref (aX 0)), (2, .ref (aM 0)), (3, .ref o), (4, .int 0)]) : W p l e room_1 s m #[Value.ref b] below meth c H locs 118 17833 (lw_Z below #[Value.ref b] s) (F0 m 1359 ls []) := by
  obtain ⟨C0, hK, hJX, hJM, hAX, hAM, hdis, hPX, hPM, hS⟩ := hW
  obtain ⟨hx, hb, hr, hml, hown, hts0, hX, hbl, hlocks, hgv⟩ := C0
  have hts : ∀ w ∈ wsL_law, w.before #[Value.ref b] s = true := fun w h => hts0 w (wsL_law_in w h)
  have hbA : ¬ (fun q : Nat => s.heap.size ≤ q) b := Nat.not_le.mpr hbl
  obtain ⟨y1, hy1⟩ : ∃ y, xs ((0 : Int32) + 1).toNatClampNeg = y := ⟨_, rfl⟩
  obtain ⟨y2, hy2⟩ : ∃ y, xs ((0 : Int32) + 2).toNatClampNeg = y := ⟨_, rfl⟩
  obtain ⟨y3, hy3⟩ : ∃ y, xs ((0 : Int32) + 3).toNatClampNeg = y := ⟨_, rfl⟩
  refine lv_aload_n hx hb dL_law_1359 rfl (lv_at hl 1 rfl) ?_
  refine lv_aload_n hx hb dL_law_1360 rfl (lv_at hl 0 rfl) ?_
  refine lv_iload hx hb dL_law_1361 (lv_at hl 4 rfl) ?_
  refine lv_iconst (v := 1) hx hb dL_law_1363 (by decide) ?_
  refine lv_iadd hx hb dL_law_1364 ?_
  refine sld9 (v := y1) hx hb hX hbl hbA hS (by show ¬ _; decide) hy1 dL_law_1365 ?_
  refine lv_aload_n hx hb dL_law_1366 rfl (lv_at hl 0 rfl) ?_
  refine lv_iload hx hb dL_law_1367 (lv_at hl 4 rfl) ?_
  refine lv_iconst (v := 2) hx hb dL_law_1369 (by decide) ?_
  refine lv_iadd hx hb dL_law_1370 ?_
  refine sld9 (v := y2) hx hb hX hbl hbA hS (by show ¬ _; decide) hy2 dL_law_1371 ?_
  refine lv_aload_n hx hb dL_law_1372 rfl (lv_at hl 0 rfl) ?_
  refine lv_iload hx hb dL_law_1373 (lv_at hl 4 rfl) ?_
  refine lv_iconst (v := 3) hx hb dL_law_1375 (by decide) ?_
  refine lv_iadd hx hb dL_law_1376 ?_
  refine sld9 (v := y3) hx hb hX hbl hbA hS (by show ¬ _; decide) hy3 dL_law_1377 ?_
  obtain ⟨r, uA, uB, hfX, hfM⟩ := agr_ex (pf_plan y1 y2 y3)
  refine lg_i (V := VX cy aX st) (Ad := AX aX) (As := [.int y1, .int y2, .int y3]) (rest := []) ⟨hx, hb, hml, hown, fun w h => hts0 w (gw_X11_plan w h)⟩ hK hPX hS (fun q h => h.elim (hAX q) (fun z => Nat.le_trans hS.1 z)) (metX11_plan_0 l D cy aX st hJX H.size y1 y2 y3 hfX) (cwV 3 (fun w h => hts0 w (gw_X11_plan w h)) gx_X11_plan rfl rfl rfl (by decide +kernel) ⟨Nat.le_of_ble_eq_true rfl, Nat.le_of_ble_eq_true rfl⟩) 0 11 rfl rfl rfl hl.1 rfl (Nat.le_of_ble_eq_true rfl) dL_law_1378 ⟨Nat.le_of_ble_eq_true rfl, Nat.le_of_ble_eq_true rfl⟩ (fun H locs hPX hkeep hS => ?_)
  have hPM := hkeep _ hPM (fun k q hq => hdis _ (VM_mem hq))
  refine lv_aload_n hx hb dL_law_1381 rfl (lv_at hl 2 rfl) ?_
  refine lv_aload_n hx hb dL_law_1382 rfl (lv_at hl 0 rfl) ?_
  refine lv_iload hx hb dL_law_1383 (lv_at hl 4 rfl) ?_
  refine lv_iconst (v := 1) hx hb dL_law_1385 (by decide) ?_
  refine lv_iadd hx hb dL_law_1386 ?_
  refine sld9 (v := y1) hx hb hX hbl hbA hS (by show ¬ _; decide) hy1 dL_law_1387 ?_
  refine lv_aload_n hx hb dL_law_1388 rfl (lv_at hl 0 rfl) ?_
  refine lv_iload hx hb dL_law_1389 (lv_at hl 4 rfl) ?_
  refine lv_iconst (v := 2) hx hb dL_law_1391 (by decide) ?_
  refine lv_iadd hx hb dL_law_1392 ?_
  refine sld9 (v := y2) hx hb hX hbl hbA hS (by show ¬ _; decide) hy2 dL_law_1393 ?_
  refine lv_aload_n hx hb dL_law_1394 rfl (lv_at hl 0 rfl) ?_
  refine lv_iload hx hb dL_law_1395 (lv_at hl 4 rfl) ?_
  refine lv_iconst (v := 3) hx hb dL_law_1397 (by decide) ?_
  refine lv_iadd hx hb dL_law_1398 ?_
  refine sld9 (v := y3) hx hb hX hbl hbA hS (by show ¬ _; decide) hy3 dL_law_1399 ?_
  refine lg_i (V := VM cy aM st) (Ad := AM aM) (As := [.int y1, .int y2, .int y3]) (rest := [.int r]) ⟨hx, hb, hml, hown, fun w h => hts0 w (gw_X12_plan w h)⟩ hK hPM hS (fun q h => h.elim (hAM q) (fun z => Nat.le_trans hS.1 z)) (metX12_plan_0 l D cy aM st hJM _ y1 y2 y3 hfM) (cwV 3 (fun w h => hts0 w (gw_X12_plan w h)) gx_X12_plan rfl rfl rfl (by decide +kernel) ⟨Nat.le_of_ble_eq_true rfl, Nat.le_of_ble_eq_true rfl⟩) 0 12 rfl rfl rfl hl.1 rfl (Nat.le_of_ble_eq_true rfl) dL_law_1400 ⟨Nat.le_of_ble_eq_true rfl, Nat.le_of_ble_eq_true rfl⟩ (fun H locs hPM hkeep hS => ?_)
  refine lv_icmp_eq (tgt := 1958) hx hb dL_law_1403 (by decide) (fun _ => ?_) (fun h => absurd rfl h)
  exact law_end l (by decide) (by decide) hx hb hr hlocks hX hbl hbA hS hl
theorem dL_law_1408 : decode cL_law 1408 = .ok (.aload_n 1, 1) := by decide +kernel
theorem dL_law_1409 : decode cL_law 1409 = .ok (.aload_n 0, 1) := by decide +kernel
theorem dL_law_1410 : decode cL_law 1410 = .ok (.iload 4, 2) := by decide +kernel
theorem dL_law_1412 : decode cL_law 1412 = .ok (.iconst 1, 1) := by decide +kernel
theorem dL_law_1413 : decode cL_law 1413 = .ok (.iadd, 1) := by decide +kernel
theorem dL_law_1414 : decode cL_law 1414 = .ok (.iaload, 1) := by decide +kernel
theorem dL_law_1415 : decode cL_law 1415 = .ok (.aload_n 0, 1) := by decide +kernel
theorem dL_law_1416 : decode cL_law 1416 = .ok (.iload 4, 2) := by decide +kernel
theorem dL_law_1418 : decode cL_law 1418 = .ok (.iconst 2, 1) := by decide +kernel
theorem dL_law_1419 : decode cL_law 1419 = .ok (.iadd, 1) := by decide +kernel
theorem dL_law_1420 : decode cL_law 1420 = .ok (.iaload, 1) := by decide +kernel
theorem dL_law_1421 : decode cL_law 1421 = .ok (.invokevirtual 128, 3) := by decide +kernel
theorem dL_law_1424 : decode cL_law 1424 = .ok (.aload_n 2, 1) := by decide +kernel
theorem dL_law_1425 : decode cL_law 1425 = .ok (.aload_n 0, 1) := by decide +kernel
theorem dL_law_1426 : decode cL_law 1426 = .ok (.iload 4, 2) := by decide +kernel
theorem dL_law_1428 : decode cL_law 1428 = .ok (.iconst 1, 1) := by decide +kernel
theorem dL_law_1429 : decode cL_law 1429 = .ok (.iadd, 1) := by decide +kernel
theorem dL_law_1430 : decode cL_law 1430 = .ok (.iaload, 1) := by decide +kernel
theorem dL_law_1431 : decode cL_law 1431 = .ok (.aload_n 0, 1) := by decide +kernel
theorem dL_law_1432 : decode cL_law 1432 = .ok (.iload 4, 2) := by decide +kernel
theorem dL_law_1434 : decode cL_law 1434 = .ok (.iconst 2, 1) := by decide +kernel
theorem dL_law_1435 : decode cL_law 1435 = .ok (.iadd, 1) := by decide +kernel
theorem dL_law_1436 : decode cL_law 1436 = .ok (.iaload, 1) := by decide +kernel
theorem dL_law_1437 : decode cL_law 1437 = .ok (.invokevirtual 131, 3) := by decide +kernel
theorem dL_law_1440 : decode cL_law 1440 = .ok (.if_icmp .eq 518, 3) := by decide +kernel
set_option maxHeartbeats 4000000 in
set_option maxRecDepth 100000 in
theorem case_23 {p : Program} {e : Env} {s : State} {m : MethodId} {below : List Frame} {meth : Method} {c : Code} (l : Launch) {b : Nat} {xs : Nat → Int32} {D : va_G} {cy : Nat → ClassId} {st aX aM : Nat → Nat} {o : Nat} {H : Heap} {locs : List Loc} {ls : Array Slot} (hW : LW p s m meth c b xs D cy st aX aM o H locs) (hl : lv_has ls 7 [(0, .ref b), (1, .ref (aX 0)), (2, .ref (aM 0)), (3, .ref o), (4, .int 0)]) : W p l e room_1 s m #[Value.ref b] below meth c H locs 118 17833 (lw_Z below #[Value.ref b] s) (F0 m 1408 ls []) := by
  obtain ⟨C0, hK, hJX, hJM, hAX, hAM, hdis, hPX, hPM, hS⟩ := hW
  obtain ⟨hx, hb, hr, hml, hown, hts0, hX, hbl, hlocks, hgv⟩ := C0
  have hts : ∀ w ∈ wsL_law, w.before #[Value.ref b] s = true := fun w h => hts0 w (wsL_law_in w h)
  have hbA : ¬ (fun q : Nat => s.heap.size ≤ q) b := Nat.not_le.mpr hbl
  obtain ⟨y1, hy1⟩ : ∃ y, xs ((0 : Int32) + 1).toNatClampNeg = y := ⟨_, rfl⟩
  obtain ⟨y2, hy2⟩ : ∃ y, xs ((0 : Int32) + 2).toNatClampNeg = y := ⟨_, rfl⟩
  refine lv_aload_n hx hb dL_law_1408 rfl (lv_at hl 1 rfl) ?_
  refine lv_aload_n hx hb dL_law_1409 rfl (lv_at hl 0 rfl) ?_
  refine lv_iload hx hb dL_law_1410 (lv_at hl 4 rfl) ?_
  refine lv_iconst (v := 1) hx hb dL_law_1412 (by decide) ?_
  refine lv_iadd hx hb dL_law_1413 ?_
  refine sld9 (v := y1) hx hb hX hbl hbA hS (by show ¬ _; decide) hy1 dL_law_1414 ?_
  refine lv_aload_n hx hb dL_law_1415 rfl (lv_at hl 0 rfl) ?_
  refine lv_iload hx hb dL_law_1416 (lv_at hl 4 rfl) ?_
  refine lv_iconst (v := 2) hx hb dL_law_1418 (by decide) ?_
  refine lv_iadd hx hb dL_law_1419 ?_
  refine sld9 (v := y2) hx hb hX hbl hbA hS (by show ¬ _; decide) hy2 dL_law_1420 ?_
  obtain ⟨r, uA, uB, hfX, hfM⟩ := agr_ex (pf_judge y1 y2)
  refine lg_i (V := VX cy aX st) (Ad := AX aX) (As := [.int y1, .int y2]) (rest := []) ⟨hx, hb, hml, hown, fun w h => hts0 w (gw_X11_judge w h)⟩ hK hPX hS (fun q h => h.elim (hAX q) (fun z => Nat.le_trans hS.1 z)) (metX11_judge_0 l D cy aX st hJX H.size y1 y2 hfX) (cwV 2 (fun w h => hts0 w (gw_X11_judge w h)) gx_X11_judge rfl rfl rfl (by decide +kernel) ⟨Nat.le_of_ble_eq_true rfl, Nat.le_of_ble_eq_true rfl⟩) 0 11 rfl rfl rfl hl.1 rfl (Nat.le_of_ble_eq_true rfl) dL_law_1421 ⟨Nat.le_of_ble_eq_true rfl, Nat.le_of_ble_eq_true rfl⟩ (fun H locs hPX hkeep hS => ?_)
  have hPM := hkeep _ hPM (fun k q hq => hdis _ (VM_mem hq))
  refine lv_aload_n hx hb dL_law_1424 rfl (lv_at hl 2 rfl) ?_
  refine lv_aload_n hx hb dL_law_1425 rfl (lv_at hl 0 rfl) ?_
  refine lv_iload hx hb dL_law_1426 (lv_at hl 4 rfl) ?_
  refine lv_iconst (v := 1) hx hb dL_law_1428 (by decide) ?_
  refine lv_iadd hx hb dL_law_1429 ?_
  refine sld9 (v := y1) hx hb hX hbl hbA hS (by show ¬ _; decide) hy1 dL_law_1430 ?_
  refine lv_aload_n hx hb dL_law_1431 rfl (lv_at hl 0 rfl) ?_
  refine lv_iload hx hb dL_law_1432 (lv_at hl 4 rfl) ?_
  refine lv_iconst (v := 2) hx hb dL_law_1434 (by decide) ?_
  refine lv_iadd hx hb dL_law_1435 ?_
  refine sld9 (v := y2) hx hb hX hbl hbA hS (by show ¬ _; decide) hy2 dL_law_1436 ?_
  refine lg_i (V := VM cy aM st) (Ad := AM aM) (As := [.int y1, .int y2]) (rest := [.int r]) ⟨hx, hb, hml, hown, fun w h => hts0 w (gw_X12_judge w h)⟩ hK hPM hS (fun q h => h.elim (hAM q) (fun z => Nat.le_trans hS.1 z)) (metX12_judge_0 l D cy aM st hJM _ y1 y2 hfM) (cwV 2 (fun w h => hts0 w (gw_X12_judge w h)) gx_X12_judge rfl rfl rfl (by decide +kernel) ⟨Nat.le_of_ble_eq_true rfl, Nat.le_of_ble_eq_true rfl⟩) 0 12 rfl rfl rfl hl.1 rfl (Nat.le_of_ble_eq_true rfl) dL_law_1437 ⟨Nat.le_of_ble_eq_true rfl, Nat.le_of_ble_eq_true rfl⟩ (fun H locs hPM hkeep hS => ?_)
  refine lv_icmp_eq (tgt := 1958) hx hb dL_law_1440 (by decide) (fun _ => ?_) (fun h => absurd rfl h)
  exact law_end l (by decide) (by decide) hx hb hr hlocks hX hbl hbA hS hl
theorem dL_law_1445 : decode cL_law 1445 = .ok (.aload_n 1, 1) := by decide +kernel
theorem dL_law_1446 : decode cL_law 1446 = .ok (.aload_n 0, 1) := by decide +kernel
theorem dL_law_1447 : decode cL_law 1447 = .ok (.iload 4, 2) := by decide +kernel
theorem dL_law_1449 : decode cL_law 1449 = .ok (.iconst 1, 1) := by decide +kernel
theorem dL_law_1450 : decode cL_law 1450 = .ok (.iadd, 1) := by decide +kernel
theorem dL_law_1451 : decode cL_law 1451 = .ok (.iaload, 1) := by decide +kernel
theorem dL_law_1452 : decode cL_law 1452 = .ok (.aload_n 0, 1) := by decide +kernel
theorem dL_law_1453 : decode cL_law 1453 = .ok (.iload 4, 2) := by decide +kernel
theorem dL_law_1455 : decode cL_law 1455 = .ok (.iconst 2, 1) := by decide +kernel
theorem dL_law_1456 : decode cL_law 1456 = .ok (.iadd, 1) := by decide +kernel
theorem dL_law_1457 : decode cL_law 1457 = .ok (.iaload, 1) := by decide +kernel
theorem dL_law_1458 : decode cL_law 1458 = .ok (.invokevirtual 132, 3) := by decide +kernel
theorem dL_law_1461 : decode cL_law 1461 = .ok (.aload_n 2, 1) := by decide +kernel
theorem dL_law_1462 : decode cL_law 1462 = .ok (.aload_n 0, 1) := by decide +kernel
theorem dL_law_1463 : decode cL_law 1463 = .ok (.iload 4, 2) := by decide +kernel
theorem dL_law_1465 : decode cL_law 1465 = .ok (.iconst 1, 1) := by decide +kernel
theorem dL_law_1466 : decode cL_law 1466 = .ok (.iadd, 1) := by decide +kernel
theorem dL_law_1467 : decode cL_law 1467 = .ok (.iaload, 1) := by decide +kernel
theorem dL_law_1468 : decode cL_law 1468 = .ok (.aload_n 0, 1) := by decide +kernel
theorem dL_law_1469 : decode cL_law 1469 = .ok (.iload 4, 2) := by decide +kernel
theorem dL_law_1471 : decode cL_law 1471 = .ok (.iconst 2, 1) := by decide +kernel
theorem dL_law_1472 : decode cL_law 1472 = .ok (.iadd, 1) := by decide +kernel
theorem dL_law_1473 : decode cL_law 1473 = .ok (.iaload, 1) := by decide +kernel
theorem dL_law_1474 : decode cL_law 1474 = .ok (.invokevirtual 135, 3) := by decide +kernel
theorem dL_law_1477 : decode cL_law 1477 = .ok (.if_icmp .eq 481, 3) := by decide +kernel
set_option maxHeartbeats 4000000 in
set_option maxRecDepth 100000 in
theorem case_24 {p : Program} {e : Env} {s : State} {m : MethodId} {below : List Frame} {meth : Method} {c : Code} (l : Launch) {b : Nat} {xs : Nat → Int32} {D : va_G} {cy : Nat → ClassId} {st aX aM : Nat → Nat} {o : Nat} {H : Heap} {locs : List Loc} {ls : Array Slot} (hW : LW p s m meth c b xs D cy st aX aM o H locs) (hl : lv_has ls 7 [(0, .ref b), (1, .ref (aX 0)), (2, .ref (aM 0)), (3, .ref o), (4, .int 0)]) : W p l e room_1 s m #[Value.ref b] below meth c H locs 118 17833 (lw_Z below #[Value.ref b] s) (F0 m 1445 ls []) := by
  obtain ⟨C0, hK, hJX, hJM, hAX, hAM, hdis, hPX, hPM, hS⟩ := hW
  obtain ⟨hx, hb, hr, hml, hown, hts0, hX, hbl, hlocks, hgv⟩ := C0
  have hts : ∀ w ∈ wsL_law, w.before #[Value.ref b] s = true := fun w h => hts0 w (wsL_law_in w h)
  have hbA : ¬ (fun q : Nat => s.heap.size ≤ q) b := Nat.not_le.mpr hbl
  obtain ⟨y1, hy1⟩ : ∃ y, xs ((0 : Int32) + 1).toNatClampNeg = y := ⟨_, rfl⟩
  obtain ⟨y2, hy2⟩ : ∃ y, xs ((0 : Int32) + 2).toNatClampNeg = y := ⟨_, rfl⟩
  refine lv_aload_n hx hb dL_law_1445 rfl (lv_at hl 1 rfl) ?_
  refine lv_aload_n hx hb dL_law_1446 rfl (lv_at hl 0 rfl) ?_
  refine lv_iload hx hb dL_law_1447 (lv_at hl 4 rfl) ?_
  refine lv_iconst (v := 1) hx hb dL_law_1449 (by decide) ?_
  refine lv_iadd hx hb dL_law_1450 ?_
  refine sld9 (v := y1) hx hb hX hbl hbA hS (by show ¬ _; decide) hy1 dL_law_1451 ?_
  refine lv_aload_n hx hb dL_law_1452 rfl (lv_at hl 0 rfl) ?_
  refine lv_iload hx hb dL_law_1453 (lv_at hl 4 rfl) ?_
  refine lv_iconst (v := 2) hx hb dL_law_1455 (by decide) ?_
  refine lv_iadd hx hb dL_law_1456 ?_
  refine sld9 (v := y2) hx hb hX hbl hbA hS (by show ¬ _; decide) hy2 dL_law_1457 ?_
  obtain ⟨r, uA, uB, hfX, hfM⟩ := agr_ex (pf_leans y1 y2)
  refine lg_i (V := VX cy aX st) (Ad := AX aX) (As := [.int y1, .int y2]) (rest := []) ⟨hx, hb, hml, hown, fun w h => hts0 w (gw_X11_leans w h)⟩ hK hPX hS (fun q h => h.elim (hAX q) (fun z => Nat.le_trans hS.1 z)) (metX11_leans_0 l D cy aX st hJX H.size y1 y2 hfX) (cwV 2 (fun w h => hts0 w (gw_X11_leans w h)) gx_X11_leans rfl rfl rfl (by decide +kernel) ⟨Nat.le_of_ble_eq_true rfl, Nat.le_of_ble_eq_true rfl⟩) 0 11 rfl rfl rfl hl.1 rfl (Nat.le_of_ble_eq_true rfl) dL_law_1458 ⟨Nat.le_of_ble_eq_true rfl, Nat.le_of_ble_eq_true rfl⟩ (fun H locs hPX hkeep hS => ?_)
  have hPM := hkeep _ hPM (fun k q hq => hdis _ (VM_mem hq))
  refine lv_aload_n hx hb dL_law_1461 rfl (lv_at hl 2 rfl) ?_
  refine lv_aload_n hx hb dL_law_1462 rfl (lv_at hl 0 rfl) ?_
  refine lv_iload hx hb dL_law_1463 (lv_at hl 4 rfl) ?_
  refine lv_iconst (v := 1) hx hb dL_law_1465 (by decide) ?_
  refine lv_iadd hx hb dL_law_1466 ?_
  refine sld9 (v := y1) hx hb hX hbl hbA hS (by show ¬ _; decide) hy1 dL_law_1467 ?_
  refine lv_aload_n hx hb dL_law_1468 rfl (lv_at hl 0 rfl) ?_
  refine lv_iload hx hb dL_law_1469 (lv_at hl 4 rfl) ?_
  refine lv_iconst (v := 2) hx hb dL_law_1471 (by decide) ?_
  refine lv_iadd hx hb dL_law_1472 ?_
  refine sld9 (v := y2) hx hb hX hbl hbA hS (by show ¬ _; decide) hy2 dL_law_1473 ?_
  refine lg_i (V := VM cy aM st) (Ad := AM aM) (As := [.int y1, .int y2]) (rest := [.int r]) ⟨hx, hb, hml, hown, fun w h => hts0 w (gw_X12_leans w h)⟩ hK hPM hS (fun q h => h.elim (hAM q) (fun z => Nat.le_trans hS.1 z)) (metX12_leans_0 l D cy aM st hJM _ y1 y2 hfM) (cwV 2 (fun w h => hts0 w (gw_X12_leans w h)) gx_X12_leans rfl rfl rfl (by decide +kernel) ⟨Nat.le_of_ble_eq_true rfl, Nat.le_of_ble_eq_true rfl⟩) 0 12 rfl rfl rfl hl.1 rfl (Nat.le_of_ble_eq_true rfl) dL_law_1474 ⟨Nat.le_of_ble_eq_true rfl, Nat.le_of_ble_eq_true rfl⟩ (fun H locs hPM hkeep hS => ?_)
  refine lv_icmp_eq (tgt := 1958) hx hb dL_law_1477 (by decide) (fun _ => ?_) (fun h => absurd rfl h)
  exact law_end l (by decide) (by decide) hx hb hr hlocks hX hbl hbA hS hl
