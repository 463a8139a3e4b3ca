/-! The reference lets a day pass. -/
theorem narB {x : Int32} (h0 : 0 ≤ x.toInt) (h1 : x.toInt ≤ 1) : vp_nar .boolean x = x := by
  by_cases c : x.toInt = 0
  · rw [show x = 0 from Int32.toInt.inj (c.trans (by decide))]
    exact nar01.1
  · rw [show x = 1 from Int32.toInt.inj ((show x.toInt = 1 by omega).trans (by decide))]
    exact nar01.2
theorem ix60 {a b : Int32} (a0 : 0 ≤ a.toInt) (a9 : a.toInt ≤ 7) (b0 : 0 ≤ b.toInt) (b9 : b.toInt < 60) : (60 * a + b).toNatClampNeg = 60 * a.toNatClampNeg + b.toNatClampNeg := by
  have e1 : (60 * a).toInt = 60 * a.toInt := by
    have c : (60 : Int32).toInt = 60 := by decide
    rw [Int32.toInt_mul, c]
    exact bm_t (by omega) (by omega)
  have e2 : (60 * a + b).toInt = 60 * a.toInt + b.toInt := by rw [add_t (by omega) (by omega), e1]
  show (60 * a + b).toInt.toNat = 60 * a.toInt.toNat + b.toInt.toNat
  rw [e2]
  omega
def kn (v : SX) (h x : Nat) : Prop := ¬ v.2.1 42 (60 * h + x) = 0
def thM (v : SX) (x : Nat) : Prop := (x < 40 ∧ (x : Int) < (v.1 23).toInt) ∨ (40 ≤ x ∧ (x : Int) - 40 < (v.1 24).toInt)
/-- told by a house up to a day -/
def TN (v : SX) (d h x : Nat) : Prop := thM v x ∧ (v.2.1 35 x).toInt = (h : Int) ∧ (v.2.1 38 x).toInt ≤ (d : Int)
theorem there_sp {x1 r : Int32} {v v' : SX} (h0 : 0 ≤ x1.toInt) (h9 : x1.toInt < 60) (h : fX12_isThere_0 x1 v = some (r, v')) : v' = v ∧ ((r = 1 ∧ thM v x1.toNatClampNeg) ∨ (r = 0 ∧ ¬ thM v x1.toNatClampNeg)) := by
  have t := tn h0
  unfold fX12_isThere_0 at h
  unfold thM
  by_cases c : 40 ≤ x1
  · rw [if_pos c] at h
    have c9 : (40 : Int) ≤ x1.toInt := leI c
    have e : (x1 - 40).toInt = x1.toInt - 40 := subc_t (by decide) (by omega) (by omega)
    by_cases d : v.1 24 ≤ x1 - 40
    · rw [if_pos d] at h
      have d9 := leI d
      obtain ⟨-, h⟩ := gd_some h
      cases h
      exact ⟨rfl, Or.inr ⟨rfl, by omega⟩⟩
    · rw [if_neg d] at h
      have d9 := nleI d
      obtain ⟨-, h⟩ := gd_some h
      cases h
      exact ⟨rfl, Or.inl ⟨rfl, by omega⟩⟩
  · rw [if_neg c] at h
    have c9 : ¬ (40 : Int) ≤ x1.toInt := nleI c
    by_cases d : v.1 23 ≤ x1
    · rw [if_pos d] at h
      have d9 := leI d
      obtain ⟨-, h⟩ := gd_some h
      cases h
      exact ⟨rfl, Or.inr ⟨rfl, by omega⟩⟩
    · rw [if_neg d] at h
      have d9 := nleI d
      obtain ⟨-, h⟩ := gd_some h
      cases h
      exact ⟨rfl, Or.inl ⟨rfl, by omega⟩⟩
theorem know_sp {x1 x2 x3 r : Int32} {v v' : SX} (a0 : 0 ≤ x1.toInt) (a9 : x1.toInt ≤ 7) (b0 : 0 ≤ x2.toInt) (b9 : x2.toInt < 60) (d0 : 0 ≤ x3.toInt) (h : fX12_knowsNow_0 x1 x2 x3 v = some (r, v')) : v' = v ∧ (r = 0 ∨ r = 1) ∧ (¬ r = 0 ↔ (kn v x1.toNatClampNeg x2.toNatClampNeg ∨ TN v x3.toNatClampNeg x1.toNatClampNeg x2.toNatClampNeg)) := by
  unfold fX12_knowsNow_0 at h
  obtain ⟨-, h⟩ := gd_some h
  rw [ix60 a0 a9 b0 b9] at h
  have t1 := tn a0
  have t2 := tn b0
  have t3 := tn d0
  unfold kn
  by_cases c : v.2.1 42 (60 * x1.toNatClampNeg + x2.toNatClampNeg) = 0
  · rw [if_pos c] at h
    obtain ⟨⟨r3, u4⟩, a3, h⟩ := bd_some h
    obtain ⟨e4, k3⟩ := there_sp b0 b9 a3
    rw [e4] at h
    have h : (if r3 = 0 then (gd (isB 0) (some (0, v))) else (gd (inb x2 60) (if (v.2.1 35 x2.toNatClampNeg) = x1 then (gd (inb x2 60) (if x3 < (v.2.1 38 x2.toNatClampNeg) then (gd (isB 0) (some (0, v))) else (gd (isB 1) (some (1, v))))) else (gd (isB 0) (some ((0 : Int32), v)))))) = some (r, v') := h
    have no : ¬ TN v x3.toNatClampNeg x1.toNatClampNeg x2.toNatClampNeg → gd (isB 0) (some ((0 : Int32), v)) = some (r, v') → v' = v ∧ (r = 0 ∨ r = 1) ∧ (¬ r = 0 ↔ (¬ v.2.1 42 (60 * x1.toNatClampNeg + x2.toNatClampNeg) = 0 ∨ TN v x3.toNatClampNeg x1.toNatClampNeg x2.toNatClampNeg)) := by
      intro n g
      obtain ⟨-, g⟩ := gd_some g
      cases g
      exact ⟨rfl, Or.inl rfl, ⟨fun z => absurd rfl z, fun z => z.elim (fun z => absurd c z) (fun z => absurd z n)⟩⟩
    rcases k3 with ⟨z, k3⟩ | ⟨z, k3⟩
    · rw [if_neg (ne01 z)] at h
      obtain ⟨-, h⟩ := gd_some h
      by_cases co : v.2.1 35 x2.toNatClampNeg = x1
      · rw [if_pos co] at h
        obtain ⟨-, h⟩ := gd_some h
        by_cases cd : x3 < v.2.1 38 x2.toNatClampNeg
        · rw [if_pos cd] at h
          have := ltI cd
          exact no (fun z => by have := z.2.2; omega) h
        · rw [if_neg cd] at h
          have := nltI cd
          obtain ⟨-, h⟩ := gd_some h
          cases h
          exact ⟨rfl, Or.inr rfl, ⟨fun _ => Or.inr ⟨k3, by rw [co]; omega, by omega⟩, fun _ => by decide⟩⟩
      · rw [if_neg co] at h
        exact no (fun z => by
          have z := z.2.1
          exact co (Int32.toInt.inj (by omega))) h
    · rw [if_pos z] at h
      exact no (fun z => k3 z.1) h
  · rw [if_neg c] at h
    obtain ⟨-, h⟩ := gd_some h
    cases h
    exact ⟨rfl, Or.inr rfl, ⟨fun _ => Or.inl c, fun _ => by decide⟩⟩
abbrev md43 : MD := ([], [43], [], [])
/-- the copy's cell -/
def cp (v : SX) (h x : Nat) : Prop := ¬ v.2.1 43 (60 * h + x) = 0
theorem TN_fr {v w : SX} (s : StM md43 v w) {d h x : Nat} : TN w d h x ↔ TN v d h x := by
  have e23 : w.1 23 = v.1 23 := s.2.1 23 (by decide)
  have e24 : w.1 24 = v.1 24 := s.2.1 24 (by decide)
  have e35 : w.2.1 35 = v.2.1 35 := s.2.2.1 35 (by decide)
  have e38 : w.2.1 38 = v.2.1 38 := s.2.2.1 38 (by decide)
  unfold TN thM
  rw [e23, e24, e35, e38]
theorem kn_fr {v w : SX} (s : StM md43 v w) {h x : Nat} : kn w h x ↔ kn v h x := by
  have e42 : w.2.1 42 = v.2.1 42 := s.2.2.1 42 (by decide)
  unfold kn
  rw [e42]
theorem pas13 {k46 : Int32 → Int32 → Int32 → SX → Option (Int32 × SX)} {z1 z2 z3 r : Int32} {v' : SX} (d0 : 0 ≤ z1.toInt) (a0 : 0 ≤ z3.toInt) (a9 : z3.toInt ≤ 7) : ∀ (n : Nat) (z4 : Int32) (v : SX), IM v → 0 ≤ z4.toInt → z4.toInt ≤ 60 → LX12_passes_0_13 k46 n z1 z2 z3 z4 v = some (r, v') → ∃ w : SX, StM md43 v w ∧ k46 z1 z2 z3 w = some (r, v') ∧ (∀ h x : Nat, x < 60 → ¬ (h = z3.toNatClampNeg ∧ z4.toNatClampNeg ≤ x) → (cp w h x ↔ cp v h x)) ∧ ∀ x : Nat, z4.toNatClampNeg ≤ x → x < 60 → (cp w z3.toNatClampNeg x ↔ (kn v z3.toNatClampNeg x ∨ TN v z1.toNatClampNeg z3.toNatClampNeg x)) := by
  intro n
  induction n with
  | zero => intro z4 v _ _ _ h; cases h
  | succ n ih =>
    intro z4 v hJ h0 h9 h
    have h : (if 60 ≤ z4 then (k46 z1 z2 z3 v) else ((fX12_knowsNow_0 z3 z4 z1 v).bind fun q => match q with | (r1, u2) => (gd (inb ((60 * z3) + z4) 480) (lt (sA u2 43 (upd (u2.2.1 43) ((60 * z3) + z4).toNatClampNeg (vp_nar .boolean r1))) fun u5 => ((LX12_passes_0_13 k46 n) z1 z2 z3 (z4 + 1) u5))))) = some (r, v') := h
    have t3 := tn a0
    have t4 := tn h0
    by_cases c : 60 ≤ z4
    · rw [if_pos c] at h
      have c9 : (60 : Int) ≤ z4.toInt := leI c
      exact ⟨v, StM_rf hJ, h, fun _ _ _ _ => Iff.rfl, fun x g1 g2 => by omega⟩
    · rw [if_neg c] at h
      have c9 : ¬ (60 : Int) ≤ z4.toInt := nleI c
      have et : (z4 + 1).toInt = z4.toInt + 1 := addc_t (by decide) (by omega) (by omega)
      have en := ns1 h0 (show z4.toInt ≤ 5000 by omega)
      obtain ⟨⟨r1, u2⟩, a1, h⟩ := bd_some h
      obtain ⟨e2, k01, k1⟩ := know_sp a0 a9 h0 (by omega) d0 a1
      rw [e2] at h
      obtain ⟨-, h⟩ := gd_some h
      obtain ⟨u5, j5, h⟩ := lt_some h
      have n1 : vp_nar .boolean r1 = r1 := by
        rcases k01 with z | z
        · rw [z]
          exact nar01.1
        · rw [z]
          exact nar01.2
      rw [ix60 a0 a9 h0 (by omega), n1] at j5
      have s5 : StM md43 v u5 := by
        rw [j5]
        refine StM_sA (StM_rf hJ) (by decide) ?_ ?_ (by decide)
        · rcases k01 with z | z
          · rw [z]; decide
          · rw [z]; decide
        · rcases k01 with z | z
          · rw [z]; decide
          · rw [z]; decide
      have c5 : ∀ k x : Nat, u5.2.1 43 (60 * k + x) = if 60 * k + x = 60 * z3.toNatClampNeg + z4.toNatClampNeg then r1 else v.2.1 43 (60 * k + x) := by
        intro k x
        rw [j5]
        rfl
      obtain ⟨w, sw, bw, pw, qw⟩ := ih (z4 + 1) u5 s5.1 (by rw [et]; omega) (by rw [et]; omega) h
      refine ⟨w, StM_tr s5 sw (by decide), bw, ?_, ?_⟩
      · intro k x hx hk
        rw [pw k x hx (by rw [en]; omega)]
        unfold cp
        rw [c5, if_neg (by omega)]
      · intro x g1 g2
        by_cases cx : x = z4.toNatClampNeg
        · rw [pw _ x g2 (by rw [en]; omega)]
          unfold cp
          rw [c5, if_pos (by rw [cx]), k1, cx]
        · rw [qw x (by rw [en]; omega) g2, kn_fr s5, TN_fr s5]
theorem pas2 {k52 : Int32 → Int32 → SX → Option (Int32 × SX)} {z1 z2 r : Int32} {v' : SX} (d0 : 0 ≤ z1.toInt) : ∀ (n : Nat) (z3 : Int32) (v : SX), IM v → 0 ≤ z3.toInt → z3.toInt ≤ (v.1 22).toInt → LX12_passes_0_2 k52 n z1 z2 z3 v = some (r, v') → ∃ w : SX, StM md43 v w ∧ k52 z1 z2 w = some (r, v') ∧ (∀ h x : Nat, x < 60 → h < z3.toNatClampNeg → (cp w h x ↔ cp v h x)) ∧ ∀ h x : Nat, z3.toNatClampNeg ≤ h → (h : Int) < (v.1 22).toInt → x < 60 → (cp w h x ↔ (kn v h x ∨ TN v z1.toNatClampNeg h x)) := by
  intro n
  induction n with
  | zero => intro z3 v _ _ _ h; cases h
  | succ n ih =>
    intro z3 v hJ h0 h9 h
    have b22 : (v.1 22).toInt ≤ (8 : Int) := (hJ.1 22).2
    have h : (if (v.1 22) ≤ z3 then (k52 z1 z2 v) else (LX12_passes_0_13 (GX12_passes_0_46 (LX12_passes_0_2 k52 n)) 5000 z1 z2 z3 0 v)) = some (r, v') := h
    have t3 := tn h0
    by_cases c : v.1 22 ≤ z3
    · rw [if_pos c] at h
      have c9 := leI c
      exact ⟨v, StM_rf hJ, h, fun _ _ _ _ => Iff.rfl, fun k x g1 g2 => by omega⟩
    · rw [if_neg c] at h
      have c9 := nleI c
      have et : (z3 + 1).toInt = z3.toInt + 1 := addc_t (by decide) (by omega) (by omega)
      have en := ns1 h0 (show z3.toInt ≤ 5000 by omega)
      have n0 : (0 : Int32).toNatClampNeg = 0 := rfl
      obtain ⟨w, sw, bw, pw, qw⟩ := pas13 d0 h0 (by omega) 5000 0 v hJ (by decide) (by decide) h
      unfold GX12_passes_0_46 at bw
      have w22 : w.1 22 = v.1 22 := sw.2.1 22 (by decide)
      obtain ⟨y, sy, by', py, qy⟩ := ih (z3 + 1) w sw.1 (by rw [et]; omega) (by rw [et, w22]; omega) bw
      refine ⟨y, StM_tr sw sy (by decide), by', ?_, ?_⟩
      · intro k x hx hk
        rw [py k x hx (by omega), pw k x hx (by omega)]
      · intro k x g1 g2 hx
        by_cases ck : k = z3.toNatClampNeg
        · rw [py k x hx (by omega), ck, qw x (by omega) hx]
        · rw [qy k x (by omega) (by rw [w22]; exact g2) hx, kn_fr sw, TN_fr sw]
theorem pas75 {k126 : Int32 → Int32 → Int32 → SX → Option (Int32 × SX)} {z1 z2 z3 r : Int32} {v' : SX} (a0 : 0 ≤ z3.toInt) : ∀ (n : Nat) (z4 : Int32) (v : SX), IM v → 0 ≤ z4.toInt → z4.toInt ≤ 60 → LX12_passes_0_75 k126 n z1 z2 z3 z4 v = some (r, v') → ∃ w : SX, StM md43 v w ∧ k126 z1 z2 z3 w = some (r, v') ∧ ∀ h x : Nat, x < 60 → (cp w h x ↔ (cp v h x ∨ (z4.toNatClampNeg ≤ x ∧ h = (v.2.1 40 z3.toNatClampNeg).toNatClampNeg ∧ kn v (v.2.1 39 z3.toNatClampNeg).toNatClampNeg x))) := by
  intro n
  induction n with
  | zero => intro z4 v _ _ _ h; cases h
  | succ n ih =>
    intro z4 v hJ h0 h9 h
    have h : (if 60 ≤ z4 then (k126 z1 z2 z3 v) else (gd (inb z3 61) (gd (inb ((60 * (v.2.1 39 z3.toNatClampNeg)) + z4) 480) (if (v.2.1 42 ((60 * (v.2.1 39 z3.toNatClampNeg)) + z4).toNatClampNeg) = 0 then (LX12_passes_0_75 k126 n z1 z2 z3 (z4 + 1) v) else (gd (inb z3 61) (gd (inb ((60 * (v.2.1 40 z3.toNatClampNeg)) + z4) 480) (lt (sA v 43 (upd (v.2.1 43) ((60 * (v.2.1 40 z3.toNatClampNeg)) + z4).toNatClampNeg (vp_nar .boolean 1))) fun u12 => (LX12_passes_0_75 k126 n z1 z2 z3 (z4 + 1) u12)))))))) = some (r, v') := h
    have t4 := tn h0
    by_cases c : 60 ≤ z4
    · rw [if_pos c] at h
      have c9 : (60 : Int) ≤ z4.toInt := leI c
      exact ⟨v, StM_rf hJ, h, fun k x hx => ⟨Or.inl, fun g => g.elim id (fun g => by omega)⟩⟩
    · rw [if_neg c] at h
      have c9 : ¬ (60 : Int) ≤ z4.toInt := nleI c
      have et : (z4 + 1).toInt = z4.toInt + 1 := addc_t (by decide) (by omega) (by omega)
      have en := ns1 h0 (show z4.toInt ≤ 5000 by omega)
      obtain ⟨-, h⟩ := gd_some h
      obtain ⟨-, h⟩ := gd_some h
      have f0 : (0 : Int) ≤ (v.2.1 39 z3.toNatClampNeg).toInt := (hJ.2.1 39 _).1
      have f9 : (v.2.1 39 z3.toNatClampNeg).toInt ≤ (7 : Int) := (hJ.2.1 39 _).2
      have o0 : (0 : Int) ≤ (v.2.1 40 z3.toNatClampNeg).toInt := (hJ.2.1 40 _).1
      have o9 : (v.2.1 40 z3.toNatClampNeg).toInt ≤ (7 : Int) := (hJ.2.1 40 _).2
      rw [ix60 f0 f9 h0 (by omega), ix60 o0 o9 h0 (by omega)] at h
      by_cases ck : v.2.1 42 (60 * (v.2.1 39 z3.toNatClampNeg).toNatClampNeg + z4.toNatClampNeg) = 0
      · rw [if_pos ck] at h
        obtain ⟨w, sw, bw, qw⟩ := ih (z4 + 1) v hJ (by rw [et]; omega) (by rw [et]; omega) h
        refine ⟨w, sw, bw, fun k x hx => ?_⟩
        rw [qw k x hx, en]
        constructor
        · rintro (g | ⟨g1, g2⟩)
          · exact Or.inl g
          · exact Or.inr ⟨by omega, g2⟩
        · rintro (g | ⟨g1, g2, g3⟩)
          · exact Or.inl g
          · refine Or.inr ⟨?_, g2, g3⟩
            by_cases cx : x = z4.toNatClampNeg
            · rw [cx] at g3
              exact absurd ck g3
            · omega
      · rw [if_neg ck] at h
        obtain ⟨-, h⟩ := gd_some h
        obtain ⟨-, h⟩ := gd_some h
        obtain ⟨u12, j12, h⟩ := lt_some h
        rw [nar01.2] at j12
        have s12 : StM md43 v u12 := by
          rw [j12]
          exact StM_sA (StM_rf hJ) (by decide) (by decide) (by decide) (by decide)
        have c12 : ∀ k x : Nat, u12.2.1 43 (60 * k + x) = if 60 * k + x = 60 * (v.2.1 40 z3.toNatClampNeg).toNatClampNeg + z4.toNatClampNeg then 1 else v.2.1 43 (60 * k + x) := by
          intro k x
          rw [j12]
          rfl
        obtain ⟨w, sw, bw, qw⟩ := ih (z4 + 1) u12 s12.1 (by rw [et]; omega) (by rw [et]; omega) h
        refine ⟨w, StM_tr s12 sw (by decide), bw, fun k x hx => ?_⟩
        have w39 : u12.2.1 39 = v.2.1 39 := s12.2.2.1 39 (by decide)
        have w40 : u12.2.1 40 = v.2.1 40 := s12.2.2.1 40 (by decide)
        rw [qw k x hx, en, w39, w40, kn_fr s12]
        unfold cp
        rw [c12]
        by_cases cx : 60 * k + x = 60 * (v.2.1 40 z3.toNatClampNeg).toNatClampNeg + z4.toNatClampNeg
        · rw [if_pos cx]
          have e1 : k = (v.2.1 40 z3.toNatClampNeg).toNatClampNeg := by omega
          have e2 : x = z4.toNatClampNeg := by omega
          exact ⟨fun _ => Or.inr ⟨by omega, e1, by rw [e2]; exact ck⟩, fun _ => Or.inl (by decide)⟩
        · rw [if_neg cx]
          constructor
          · rintro (g | ⟨g1, g2⟩)
            · exact Or.inl g
            · exact Or.inr ⟨by omega, g2⟩
          · rintro (g | ⟨g1, g2, g3⟩)
            · exact Or.inl g
            · refine Or.inr ⟨?_, g2, g3⟩
              by_cases e2 : x = z4.toNatClampNeg
              · exact absurd (by rw [e2, g2]) cx
              · omega
