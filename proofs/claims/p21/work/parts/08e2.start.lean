set_option maxRecDepth 100000 in
theorem nests_in : ∀ q ∈ nests, Cond.methodLinkNest q.1 q.2.1 q.2.2 "HissHorn" ∈ lw_tbl := by decide +kernel
theorem texts_in : ∀ q ∈ texts, Cond.stringRef q.1 q.2.1 q.2.2.1 ∈ lw_tbl := by decide +kernel
theorem inst_X0 : Cond.instantiable RX0 9 ∈ lw_tbl := by decide +kernel
theorem inst_X1 : Cond.instantiable RX1 13 ∈ lw_tbl := by decide +kernel
theorem inst_X2 : Cond.instantiable RX2 18 ∈ lw_tbl := by decide +kernel
theorem inst_X3 : Cond.instantiable RX3 19 ∈ lw_tbl := by decide +kernel
theorem inst_X4 : Cond.instantiable RX4 7 ∈ lw_tbl := by decide +kernel
theorem inst_X5 : Cond.instantiable RX5 5 ∈ lw_tbl := by decide +kernel
theorem inst_X6 : Cond.instantiable RX6 17 ∈ lw_tbl := by decide +kernel
theorem inst_X7 : Cond.instantiable RX7 12 ∈ lw_tbl := by decide +kernel
theorem inst_X8 : Cond.instantiable RX8 5 ∈ lw_tbl := by decide +kernel
theorem inst_X9 : Cond.instantiable RX9 2 ∈ lw_tbl := by decide +kernel
theorem inst_X10 : Cond.instantiable RX10 1 ∈ lw_tbl := by decide +kernel
theorem inst_X11 : Cond.instantiable RX11 13 ∈ lw_tbl := by decide +kernel
theorem inst_X12 : Cond.instantiable RX12 69 ∈ lw_tbl := by decide +kernel
theorem arrc_0 : Cond.arrayClass .int ∈ lw_tbl := by decide +kernel
theorem arrc_1 : Cond.arrayClass .long ∈ lw_tbl := by decide +kernel
theorem arrc_2 : Cond.arrayClass .boolean ∈ lw_tbl := by decide +kernel
theorem arrc_3 : Cond.arrayClass .byte ∈ lw_tbl := by decide +kernel
theorem arro : Cond.arrayOver (.object "HissHorn$Text") ∈ lw_tbl := by decide +kernel
set_option maxHeartbeats 8000000 in
set_option maxRecDepth 100000 in
/-- classes, rows, strings as the tables have them -/
theorem start_K {s : State} {args : Array Value} (hts : ∀ w ∈ lw_tbl, w.before args s = true) : ∃ (D : va_G) (cy : Nat → ClassId) (st : Nat → Nat), Kx D [(cy 0, .int), (cy 1, .long), (cy 2, .boolean), (cy 3, .byte), (cy 4, .object "HissHorn$Text")] st s ∧ ∀ q ∈ texts, (Term.string q.1 q.2.1).eval args s none [] s = some (.ref (st q.2.2.2)) := by
  obtain ⟨c0, iS0, hKn0⟩ := u_known (C := RX0) (T := TX0) (N := 9) (n := 9) hts inX0 (hts _ inst_X0)
  obtain ⟨c1, iS1, hKn1⟩ := u_known (C := RX1) (T := TX1) (N := 13) (n := 13) hts inX1 (hts _ inst_X1)
  obtain ⟨c2, iS2, hKn2⟩ := u_known (C := RX2) (T := TX2) (N := 18) (n := 18) hts inX2 (hts _ inst_X2)
  obtain ⟨c3, iS3, hKn3⟩ := u_known (C := RX3) (T := TX3) (N := 19) (n := 19) hts inX3 (hts _ inst_X3)
  obtain ⟨c4, iS4, hKn4⟩ := u_known (C := RX4) (T := TX4) (N := 7) (n := 7) hts inX4 (hts _ inst_X4)
  obtain ⟨c5, iS5, hKn5⟩ := u_known (C := RX5) (T := TX5) (N := 5) (n := 5) hts inX5 (hts _ inst_X5)
  obtain ⟨c6, iS6, hKn6⟩ := u_known (C := RX6) (T := TX6) (N := 17) (n := 17) hts inX6 (hts _ inst_X6)
  obtain ⟨c7, iS7, hKn7⟩ := u_known (C := RX7) (T := TX7) (N := 12) (n := 12) hts inX7 (hts _ inst_X7)
  obtain ⟨c8, iS8, hKn8⟩ := u_known (C := RX8) (T := TX8) (N := 5) (n := 5) hts inX8 (hts _ inst_X8)
  obtain ⟨c9, iS9, hKn9⟩ := u_known (C := RX9) (T := TX9) (N := 2) (n := 2) hts inX9 (hts _ inst_X9)
  obtain ⟨c10, iS10, hKn10⟩ := u_known (C := RX10) (T := TX10) (N := 1) (n := 1) hts inX10 (hts _ inst_X10)
  obtain ⟨c11, iS11, hKn11⟩ := u_known (C := RX11) (T := TX11) (N := 13) (n := 13) hts inX11 (hts _ inst_X11)
  obtain ⟨c12, iS12, hKn12⟩ := u_known (C := RX12) (T := TX12) (N := 69) (n := 69) hts inX12 (hts _ inst_X12)
  obtain ⟨a0, ka0, co0, fa0, ga0, ha0⟩ := Cond.arrayClass_spec (hts _ arrc_0)
  obtain ⟨a1, ka1, co1, fa1, ga1, ha1⟩ := Cond.arrayClass_spec (hts _ arrc_1)
  obtain ⟨a2, ka2, co2, fa2, ga2, ha2⟩ := Cond.arrayClass_spec (hts _ arrc_2)
  obtain ⟨a3, ka3, co3, fa3, ga3, ha3⟩ := Cond.arrayClass_spec (hts _ arrc_3)
  obtain ⟨co4, a4, ka4, fc4, -, ga4, ha4, fa4⟩ := Cond.arrayOver_spec (hts _ arro)
  obtain ⟨-, -, -, s0, -, -, -, -, -, ev0⟩ := Cond.stringRef_spec hKn11.2.1 (hts (.stringRef RX11 27 "dahewl") (texts_in (RX11, 27, "dahewl", 0) (by decide)))
  obtain ⟨-, -, -, s1, -, -, -, -, -, ev1⟩ := Cond.stringRef_spec hKn11.2.1 (hts (.stringRef RX11 36 "la") (texts_in (RX11, 36, "la", 1) (by decide)))
  obtain ⟨-, -, -, s2, -, -, -, -, -, ev2⟩ := Cond.stringRef_spec hKn11.2.1 (hts (.stringRef RX11 41 "ngbkt") (texts_in (RX11, 41, "ngbkt", 2) (by decide)))
  obtain ⟨-, -, -, s3, -, -, -, -, -, ev3⟩ := Cond.stringRef_spec hKn5.2.1 (hts (.stringRef RX5 17 "") (texts_in (RX5, 17, "", 3) (by decide)))
  obtain ⟨-, -, -, s4, -, -, -, -, -, ev4⟩ := Cond.stringRef_spec hKn12.2.1 (hts (.stringRef RX12 29 "dahewl") (texts_in (RX12, 29, "dahewl", 4) (by decide)))
  obtain ⟨-, -, -, s5, -, -, -, -, -, ev5⟩ := Cond.stringRef_spec hKn12.2.1 (hts (.stringRef RX12 260 "la") (texts_in (RX12, 260, "la", 5) (by decide)))
  obtain ⟨-, -, -, s6, -, -, -, -, -, ev6⟩ := Cond.stringRef_spec hKn12.2.1 (hts (.stringRef RX12 262 "ngbkt") (texts_in (RX12, 262, "ngbkt", 6) (by decide)))
  refine ⟨(fun k => List.getD [c0, c1, c2, c3, c4, c5, c6, c7, c8, c9, c10, c11, c12] k c0, fun k => List.getD [iS0, iS1, iS2, iS3, iS4, iS5, iS6, iS7, iS8, iS9, iS10, iS11, iS12] k iS0), fun k => List.getD [a0, a1, a2, a3, a4] k a0, fun k => List.getD [s0, s1, s2, s3, s4, s5, s6] k 0, ⟨⟨?_, ?_⟩, fun q hq => va_Nw.of rfl (hts _ (nests_in q hq)), ?_⟩, ?_⟩
  · intro k q hq
    match k, hq with
    | 0, hq => cases hq; exact hKn0
    | 1, hq => cases hq; exact hKn1
    | 2, hq => cases hq; exact hKn2
    | 3, hq => cases hq; exact hKn3
    | 4, hq => cases hq; exact hKn4
    | 5, hq => cases hq; exact hKn5
    | 6, hq => cases hq; exact hKn6
    | 7, hq => cases hq; exact hKn7
    | 8, hq => cases hq; exact hKn8
    | 9, hq => cases hq; exact hKn9
    | 10, hq => cases hq; exact hKn10
    | 11, hq => cases hq; exact hKn11
    | 12, hq => cases hq; exact hKn12
    | k + 13, hq => simp [vwCl] at hq
  · intro k q hq
    match k, hq with
    | 0, hq => cases hq; exact ⟨fun N z => ⟨(fun k h => by cases h), ka0, ga0, co0, ha0⟩, fa0⟩
    | 1, hq => cases hq; exact ⟨fun N z => ⟨(fun k h => by cases h), ka1, ga1, co1, ha1⟩, fa1⟩
    | 2, hq => cases hq; exact ⟨fun N z => ⟨(fun k h => by cases h), ka2, ga2, co2, ha2⟩, fa2⟩
    | 3, hq => cases hq; exact ⟨fun N z => ⟨(fun k h => by cases h), ka3, ga3, co3, ha3⟩, fa3⟩
    | 4, hq => cases hq; exact ⟨fun N z => ⟨(fun k h => by cases h), ka4, ga4, co4, ha4⟩, ka4, co4, ga4, ha4, fc4, fa4⟩
    | k + 5, hq => simp at hq
  · intro q hq
    have h9 : q.1 = q.1 := rfl
    have hin := texts_in q hq
    simp only [texts, List.mem_cons, List.not_mem_nil, or_false] at hq
    rcases hq with rfl | rfl | rfl | rfl | rfl | rfl | rfl
    · exact vk_R.of (hts _ hin) ev0
    · exact vk_R.of (hts _ hin) ev1
    · exact vk_R.of (hts _ hin) ev2
    · exact vk_R.of (hts _ hin) ev3
    · exact vk_R.of (hts _ hin) ev4
    · exact vk_R.of (hts _ hin) ev5
    · exact vk_R.of (hts _ hin) ev6
  · intro q hq
    simp only [texts, List.mem_cons, List.not_mem_nil, or_false] at hq
    rcases hq with rfl | rfl | rfl | rfl | rfl | rfl | rfl
    · exact ev0
    · exact ev1
    · exact ev2
    · exact ev3
    · exact ev4
    · exact ev5
    · exact ev6
theorem lays_c : Cond.laysStatic "java/lang/String" "COMPACT_STRINGS" "Z" ∈ lw_tbl := by decide +kernel
theorem ini_s : Cond.initialized "java/lang/String" ∈ lw_tbl := by decide +kernel
theorem lays_u : Cond.laysStatic Bundle.tN "UNASSIGNED_STACK" Bundle.steD ∈ lw_tbl := by decide +kernel
theorem lays_n : Cond.laysStatic Bundle.tN "SUPPRESSED_SENTINEL" Bundle.listD ∈ lw_tbl := by decide +kernel
theorem ini_t : Cond.initialized Bundle.tN ∈ lw_tbl := by decide +kernel
theorem decl_r : Cond.declares ⟨"java/lang/RuntimeException", "<init>", "()V"⟩ ∈ lw_tbl := by decide +kernel
theorem decl_e : Cond.declares ⟨"java/lang/Exception", "<init>", "()V"⟩ ∈ lw_tbl := by decide +kernel
theorem decl_t : Cond.declares ⟨"java/lang/Throwable", "<init>", "()V"⟩ ∈ lw_tbl := by decide +kernel
theorem cast_n : Cond.castable "java/util/NoSuchElementException" "java/util/NoSuchElementException" ∈ lw_tbl := by decide +kernel
set_option maxHeartbeats 4000000 in
set_option maxRecDepth 100000 in
theorem start_S0 {s : State} {args : Array Value} (hgv : (Jvm.Cond.and given_1 narrow_1).before args s = true) {a : Nat} (ha : (Term.string RX11 27).eval args s none [] s = some (.ref a)) : ∃ v, va_O "java/lang/String" a (fun q : Nat => s.heap.size ≤ q) s s.heap ∧ va_OF "java/lang/String" "coder" "B" (.int 0) a (fun q : Nat => s.heap.size ≤ q) s s.heap ∧ va_OF "java/lang/String" "value" "[B" (.ref v) a (fun q : Nat => s.heap.size ≤ q) s s.heap ∧ va_T .byte v (zN 0) (fun j => .int (zB 0 j)) (fun q : Nat => s.heap.size ≤ q) s s.heap := by
  have hs := flat_of_before _ hgv
  obtain ⟨adK, adV, h1, h2⟩ := vk_Sof (N := 1) (tm := fun _ => .string RX11 27) (len := [6]) (byt := [[100, 97, 104, 101, 119, 108]]) (A := fun q : Nat => s.heap.size ≤ q) (args := args) (s := s) (fun i hi => (by decide : ∀ i, i < 1 → List.getD [6] i 0 < 2 ^ 31) i hi) (fun _ _ => hs _ (by decide +kernel)) (fun _ _ => hs _ (by decide +kernel)) (fun _ _ => hs _ (by decide +kernel)) (fun i hi => by
      obtain rfl : i = 0 := by omega
      exact hs _ (by decide +kernel)) (fun i hi j hj => by
      obtain rfl : i = 0 := by omega
      have hj : j < 6 := hj
      match j, hj with
      | 0, _ => exact hs _ (by decide +kernel)
      | 1, _ => exact hs _ (by decide +kernel)
      | 2, _ => exact hs _ (by decide +kernel)
      | 3, _ => exact hs _ (by decide +kernel)
      | 4, _ => exact hs _ (by decide +kernel)
      | 5, _ => exact hs _ (by decide +kernel)
      | k + 6, hj => omega) (fun i j hi hj hij => absurd (show i = j by omega) hij) (fun a h => Nat.not_le.mpr h)
  have e := h2 0 (by omega)
  obtain rfl : a = adK 0 := by
    have e2 := ha.symm.trans e
    cases e2
    rfl
  obtain ⟨z1, z2, z3, z4⟩ := h1.1 0 (by omega)
  exact ⟨adV 0, z1, z2, z3, z4⟩
set_option maxHeartbeats 4000000 in
set_option maxRecDepth 100000 in
theorem start_S1 {s : State} {args : Array Value} (hgv : (Jvm.Cond.and given_1 narrow_1).before args s = true) {a : Nat} (ha : (Term.string RX11 36).eval args s none [] s = some (.ref a)) : ∃ v, va_O "java/lang/String" a (fun q : Nat => s.heap.size ≤ q) s s.heap ∧ va_OF "java/lang/String" "coder" "B" (.int 0) a (fun q : Nat => s.heap.size ≤ q) s s.heap ∧ va_OF "java/lang/String" "value" "[B" (.ref v) a (fun q : Nat => s.heap.size ≤ q) s s.heap ∧ va_T .byte v (zN 1) (fun j => .int (zB 1 j)) (fun q : Nat => s.heap.size ≤ q) s s.heap := by
  have hs := flat_of_before _ hgv
  obtain ⟨adK, adV, h1, h2⟩ := vk_Sof (N := 1) (tm := fun _ => .string RX11 36) (len := [2]) (byt := [[108, 97]]) (A := fun q : Nat => s.heap.size ≤ q) (args := args) (s := s) (fun i hi => (by decide : ∀ i, i < 1 → List.getD [2] i 0 < 2 ^ 31) i hi) (fun _ _ => hs _ (by decide +kernel)) (fun _ _ => hs _ (by decide +kernel)) (fun _ _ => hs _ (by decide +kernel)) (fun i hi => by
      obtain rfl : i = 0 := by omega
      exact hs _ (by decide +kernel)) (fun i hi j hj => by
      obtain rfl : i = 0 := by omega
      have hj : j < 2 := hj
      match j, hj with
      | 0, _ => exact hs _ (by decide +kernel)
      | 1, _ => exact hs _ (by decide +kernel)
      | k + 2, hj => omega) (fun i j hi hj hij => absurd (show i = j by omega) hij) (fun a h => Nat.not_le.mpr h)
  have e := h2 0 (by omega)
  obtain rfl : a = adK 0 := by
    have e2 := ha.symm.trans e
    cases e2
    rfl
  obtain ⟨z1, z2, z3, z4⟩ := h1.1 0 (by omega)
  exact ⟨adV 0, z1, z2, z3, z4⟩
set_option maxHeartbeats 4000000 in
set_option maxRecDepth 100000 in
theorem start_S2 {s : State} {args : Array Value} (hgv : (Jvm.Cond.and given_1 narrow_1).before args s = true) {a : Nat} (ha : (Term.string RX11 41).eval args s none [] s = some (.ref a)) : ∃ v, va_O "java/lang/String" a (fun q : Nat => s.heap.size ≤ q) s s.heap ∧ va_OF "java/lang/String" "coder" "B" (.int 0) a (fun q : Nat => s.heap.size ≤ q) s s.heap ∧ va_OF "java/lang/String" "value" "[B" (.ref v) a (fun q : Nat => s.heap.size ≤ q) s s.heap ∧ va_T .byte v (zN 2) (fun j => .int (zB 2 j)) (fun q : Nat => s.heap.size ≤ q) s s.heap := by
  have hs := flat_of_before _ hgv
  obtain ⟨adK, adV, h1, h2⟩ := vk_Sof (N := 1) (tm := fun _ => .string RX11 41) (len := [5]) (byt := [[110, 103, 98, 107, 116]]) (A := fun q : Nat => s.heap.size ≤ q) (args := args) (s := s) (fun i hi => (by decide : ∀ i, i < 1 → List.getD [5] i 0 < 2 ^ 31) i hi) (fun _ _ => hs _ (by decide +kernel)) (fun _ _ => hs _ (by decide +kernel)) (fun _ _ => hs _ (by decide +kernel)) (fun i hi => by
      obtain rfl : i = 0 := by omega
      exact hs _ (by decide +kernel)) (fun i hi j hj => by
      obtain rfl : i = 0 := by omega
      have hj : j < 5 := hj
      match j, hj with
      | 0, _ => exact hs _ (by decide +kernel)
      | 1, _ => exact hs _ (by decide +kernel)
      | 2, _ => exact hs _ (by decide +kernel)
      | 3, _ => exact hs _ (by decide +kernel)
      | 4, _ => exact hs _ (by decide +kernel)
      | k + 5, hj => omega) (fun i j hi hj hij => absurd (show i = j by omega) hij) (fun a h => Nat.not_le.mpr h)
  have e := h2 0 (by omega)
  obtain rfl : a = adK 0 := by
    have e2 := ha.symm.trans e
    cases e2
    rfl
  obtain ⟨z1, z2, z3, z4⟩ := h1.1 0 (by omega)
  exact ⟨adV 0, z1, z2, z3, z4⟩
set_option maxHeartbeats 4000000 in
set_option maxRecDepth 100000 in
theorem start_S3 {s : State} {args : Array Value} (hgv : (Jvm.Cond.and given_1 narrow_1).before args s = true) {a : Nat} (ha : (Term.string RX5 17).eval args s none [] s = some (.ref a)) : ∃ v, va_O "java/lang/String" a (fun q : Nat => s.heap.size ≤ q) s s.heap ∧ va_OF "java/lang/String" "coder" "B" (.int 0) a (fun q : Nat => s.heap.size ≤ q) s s.heap ∧ va_OF "java/lang/String" "value" "[B" (.ref v) a (fun q : Nat => s.heap.size ≤ q) s s.heap ∧ va_T .byte v (zN 3) (fun j => .int (zB 3 j)) (fun q : Nat => s.heap.size ≤ q) s s.heap := by
  have hs := flat_of_before _ hgv
  obtain ⟨adK, adV, h1, h2⟩ := vk_Sof (N := 1) (tm := fun _ => .string RX5 17) (len := [0]) (byt := [[]]) (A := fun q : Nat => s.heap.size ≤ q) (args := args) (s := s) (fun i hi => (by decide : ∀ i, i < 1 → List.getD [0] i 0 < 2 ^ 31) i hi) (fun _ _ => hs _ (by decide +kernel)) (fun _ _ => hs _ (by decide +kernel)) (fun _ _ => hs _ (by decide +kernel)) (fun i hi => by
      obtain rfl : i = 0 := by omega
      exact hs _ (by decide +kernel)) (fun i hi j hj => by
      obtain rfl : i = 0 := by omega
      have hj : j < 0 := hj
      omega) (fun i j hi hj hij => absurd (show i = j by omega) hij) (fun a h => Nat.not_le.mpr h)
  have e := h2 0 (by omega)
  obtain rfl : a = adK 0 := by
    have e2 := ha.symm.trans e
    cases e2
    rfl
  obtain ⟨z1, z2, z3, z4⟩ := h1.1 0 (by omega)
  exact ⟨adV 0, z1, z2, z3, z4⟩
set_option maxHeartbeats 4000000 in
set_option maxRecDepth 100000 in
theorem start_S4 {s : State} {args : Array Value} (hgv : (Jvm.Cond.and given_1 narrow_1).before args s = true) {a : Nat} (ha : (Term.string RX12 29).eval args s none [] s = some (.ref a)) : ∃ v, va_O "java/lang/String" a (fun q : Nat => s.heap.size ≤ q) s s.heap ∧ va_OF "java/lang/String" "coder" "B" (.int 0) a (fun q : Nat => s.heap.size ≤ q) s s.heap ∧ va_OF "java/lang/String" "value" "[B" (.ref v) a (fun q : Nat => s.heap.size ≤ q) s s.heap ∧ va_T .byte v (zN 4) (fun j => .int (zB 4 j)) (fun q : Nat => s.heap.size ≤ q) s s.heap := by
  have hs := flat_of_before _ hgv
  obtain ⟨adK, adV, h1, h2⟩ := vk_Sof (N := 1) (tm := fun _ => .string RX12 29) (len := [6]) (byt := [[100, 97, 104, 101, 119, 108]]) (A := fun q : Nat => s.heap.size ≤ q) (args := args) (s := s) (fun i hi => (by decide : ∀ i, i < 1 → List.getD [6] i 0 < 2 ^ 31) i hi) (fun _ _ => hs _ (by decide +kernel)) (fun _ _ => hs _ (by decide +kernel)) (fun _ _ => hs _ (by decide +kernel)) (fun i hi => by
      obtain rfl : i = 0 := by omega
      exact hs _ (by decide +kernel)) (fun i hi j hj => by
      obtain rfl : i = 0 := by omega
      have hj : j < 6 := hj
      match j, hj with
      | 0, _ => exact hs _ (by decide +kernel)
      | 1, _ => exact hs _ (by decide +kernel)
      | 2, _ => exact hs _ (by decide +kernel)
      | 3, _ => exact hs _ (by decide +kernel)
      | 4, _ => exact hs _ (by decide +kernel)
      | 5, _ => exact hs _ (by decide +kernel)
      | k + 6, hj => omega) (fun i j hi hj hij => absurd (show i = j by omega) hij) (fun a h => Nat.not_le.mpr h)
  have e := h2 0 (by omega)
  obtain rfl : a = adK 0 := by
    have e2 := ha.symm.trans e
    cases e2
    rfl
  obtain ⟨z1, z2, z3, z4⟩ := h1.1 0 (by omega)
  exact ⟨adV 0, z1, z2, z3, z4⟩
set_option maxHeartbeats 4000000 in
set_option maxRecDepth 100000 in
theorem start_S5 {s : State} {args : Array Value} (hgv : (Jvm.Cond.and given_1 narrow_1).before args s = true) {a : Nat} (ha : (Term.string RX12 260).eval args s none [] s = some (.ref a)) : ∃ v, va_O "java/lang/String" a (fun q : Nat => s.heap.size ≤ q) s s.heap ∧ va_OF "java/lang/String" "coder" "B" (.int 0) a (fun q : Nat => s.heap.size ≤ q) s s.heap ∧ va_OF "java/lang/String" "value" "[B" (.ref v) a (fun q : Nat => s.heap.size ≤ q) s s.heap ∧ va_T .byte v (zN 5) (fun j => .int (zB 5 j)) (fun q : Nat => s.heap.size ≤ q) s s.heap := by
  have hs := flat_of_before _ hgv
  obtain ⟨adK, adV, h1, h2⟩ := vk_Sof (N := 1) (tm := fun _ => .string RX12 260) (len := [2]) (byt := [[108, 97]]) (A := fun q : Nat => s.heap.size ≤ q) (args := args) (s := s) (fun i hi => (by decide : ∀ i, i < 1 → List.getD [2] i 0 < 2 ^ 31) i hi) (fun _ _ => hs _ (by decide +kernel)) (fun _ _ => hs _ (by decide +kernel)) (fun _ _ => hs _ (by decide +kernel)) (fun i hi => by
      obtain rfl : i = 0 := by omega
      exact hs _ (by decide +kernel)) (fun i hi j hj => by
      obtain rfl : i = 0 := by omega
      have hj : j < 2 := hj
      match j, hj with
      | 0, _ => exact hs _ (by decide +kernel)
      | 1, _ => exact hs _ (by decide +kernel)
      | k + 2, hj => omega) (fun i j hi hj hij => absurd (show i = j by omega) hij) (fun a h => Nat.not_le.mpr h)
  have e := h2 0 (by omega)
  obtain rfl : a = adK 0 := by
    have e2 := ha.symm.trans e
    cases e2
    rfl
  obtain ⟨z1, z2, z3, z4⟩ := h1.1 0 (by omega)
  exact ⟨adV 0, z1, z2, z3, z4⟩
set_option maxHeartbeats 4000000 in
set_option maxRecDepth 100000 in
theorem start_S6 {s : State} {args : Array Value} (hgv : (Jvm.Cond.and given_1 narrow_1).before args s = true) {a : Nat} (ha : (Term.string RX12 262).eval args s none [] s = some (.ref a)) : ∃ v, va_O "java/lang/String" a (fun q : Nat => s.heap.size ≤ q) s s.heap ∧ va_OF "java/lang/String" "coder" "B" (.int 0) a (fun q : Nat => s.heap.size ≤ q) s s.heap ∧ va_OF "java/lang/String" "value" "[B" (.ref v) a (fun q : Nat => s.heap.size ≤ q) s s.heap ∧ va_T .byte v (zN 6) (fun j => .int (zB 6 j)) (fun q : Nat => s.heap.size ≤ q) s s.heap := by
  have hs := flat_of_before _ hgv
  obtain ⟨adK, adV, h1, h2⟩ := vk_Sof (N := 1) (tm := fun _ => .string RX12 262) (len := [5]) (byt := [[110, 103, 98, 107, 116]]) (A := fun q : Nat => s.heap.size ≤ q) (args := args) (s := s) (fun i hi => (by decide : ∀ i, i < 1 → List.getD [5] i 0 < 2 ^ 31) i hi) (fun _ _ => hs _ (by decide +kernel)) (fun _ _ => hs _ (by decide +kernel)) (fun _ _ => hs _ (by decide +kernel)) (fun i hi => by
      obtain rfl : i = 0 := by omega
      exact hs _ (by decide +kernel)) (fun i hi j hj => by
      obtain rfl : i = 0 := by omega
      have hj : j < 5 := hj
      match j, hj with
      | 0, _ => exact hs _ (by decide +kernel)
      | 1, _ => exact hs _ (by decide +kernel)
      | 2, _ => exact hs _ (by decide +kernel)
      | 3, _ => exact hs _ (by decide +kernel)
      | 4, _ => exact hs _ (by decide +kernel)
      | k + 5, hj => omega) (fun i j hi hj hij => absurd (show i = j by omega) hij) (fun a h => Nat.not_le.mpr h)
  have e := h2 0 (by omega)
  obtain rfl : a = adK 0 := by
    have e2 := ha.symm.trans e
    cases e2
    rfl
  obtain ⟨z1, z2, z3, z4⟩ := h1.1 0 (by omega)
  exact ⟨adV 0, z1, z2, z3, z4⟩
theorem start_C {s : State} {args : Array Value} (hts : ∀ w ∈ lw_tbl, w.before args s = true) (hgv : (Jvm.Cond.and given_1 narrow_1).before args s = true) : Zc (fun q : Nat => s.heap.size ≤ q) s := va_Zof (hts _ lays_c) (hts _ ini_s) (va_eqt (flat_of_before _ hgv (.eq (.static "java/lang/String" "COMPACT_STRINGS" "Z") (.int 1)) (by decide +kernel))) (fun a h => Nat.not_le.mpr h)
theorem start_E {s : State} {args : Array Value} (hts : ∀ w ∈ lw_tbl, w.before args s = true) (hgv : (Jvm.Cond.and given_1 narrow_1).before args s = true) : Exs (fun q : Nat => s.heap.size ≤ q) s := ⟨⟨va_Nw.of rfl (hts _ cast_n), va_Nw.of rfl (hts _ decl_r), va_Nw.of rfl (hts _ decl_e), va_Nw.of rfl (hts _ decl_t)⟩, vx_Zqof (hts _ lays_u) (hts _ ini_t) (flat_of_before _ hgv (.isRef (.static Bundle.tN "UNASSIGNED_STACK" Bundle.steD)) (by decide +kernel)) (fun a h => Nat.not_le.mpr h), vx_Zqof (hts _ lays_n) (hts _ ini_t) (flat_of_before _ hgv (.isRef (.static Bundle.tN "SUPPRESSED_SENTINEL" Bundle.listD)) (by decide +kernel)) (fun a h => Nat.not_le.mpr h)⟩
theorem cast_c : Cond.castable "[I" "java/lang/Cloneable" ∈ lw_tbl := by decide +kernel
set_option maxHeartbeats 4000000 in
/-- classes, rows, strings with their bytes; what was there before lies below st 100 -/
theorem start_Y {s : State} {args : Array Value} (hts : ∀ w ∈ lw_tbl, w.before args s = true) (hgv : (Jvm.Cond.and given_1 narrow_1).before args s = true) : ∃ (D : va_G) (cy : Nat → ClassId) (st : Nat → Nat), st 100 = s.heap.size ∧ Ky D [(cy 0, .int), (cy 1, .long), (cy 2, .boolean), (cy 3, .byte), (cy 4, .object "HissHorn$Text")] st s := by
  obtain ⟨D, cy, s0, hK, hev⟩ := start_K hts
  obtain ⟨v0, p0⟩ := start_S0 hgv (hev (RX11, 27, "dahewl", 0) (by decide))
  obtain ⟨v1, p1⟩ := start_S1 hgv (hev (RX11, 36, "la", 1) (by decide))
  obtain ⟨v2, p2⟩ := start_S2 hgv (hev (RX11, 41, "ngbkt", 2) (by decide))
  obtain ⟨v3, p3⟩ := start_S3 hgv (hev (RX5, 17, "", 3) (by decide))
  obtain ⟨v4, p4⟩ := start_S4 hgv (hev (RX12, 29, "dahewl", 4) (by decide))
  obtain ⟨v5, p5⟩ := start_S5 hgv (hev (RX12, 260, "la", 5) (by decide))
  obtain ⟨v6, p6⟩ := start_S6 hgv (hev (RX12, 262, "ngbkt", 6) (by decide))
  refine ⟨D, cy, fun k => List.getD [s0 0, s0 1, s0 2, s0 3, s0 4, s0 5, s0 6, 0, 0, 0, v0, v1, v2, v3, v4, v5, v6] k s.heap.size, rfl, hK.1, hK.2.1, ?_, Nat.le_refl _, start_C hts hgv, ?_⟩
  · intro q hq
    have h9 := hK.2.2 q hq
    simp only [texts, List.mem_cons, List.not_mem_nil, or_false] at hq
    rcases hq with rfl | rfl | rfl | rfl | rfl | rfl | rfl <;> exact h9
  · intro k hk
    match k, hk with
    | 0, _ => exact p0
    | 1, _ => exact p1
    | 2, _ => exact p2
    | 3, _ => exact p3
    | 4, _ => exact p4
    | 5, _ => exact p5
    | 6, _ => exact p6
    | k + 7, hk => omega
