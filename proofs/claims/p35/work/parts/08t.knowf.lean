/-! The class lets a day pass beside what is known. -/
abbrev md712 : MD := ([], [], [], [71, 72])
def r71 (u : SX) (h : Nat) : Int64 := u.2.2.2.1 71 h
def r72 (u : SX) (h : Nat) : Int64 := u.2.2.2.1 72 h
theorem pd2 {k44 : Int32 → Int32 → SX → Option (Int32 × SX)} {z1 z2 r : Int32} {u' : SX} (d0 : 0 ≤ z1.toInt) (d9 : z1.toInt ≤ 120) : ∀ (n : Nat) (z3 : Int32) (u : SX), IX u → 0 ≤ z3.toInt → z3.toInt ≤ 8 → LX4_passDay_12_2 k44 n z1 z2 z3 u = some (r, u') → ∃ w : SX, StX md712 u w ∧ k44 z1 z2 w = some (r, u') ∧ (∀ h : Nat, h < z3.toNatClampNeg → r71 w h = r71 u h ∧ r72 w h = r72 u h) ∧ ∀ h : Nat, z3.toNatClampNeg ≤ h → h < 8 → r71 w h = r72 u h ∧ ∀ x : Nat, bt (r72 w h) x ↔ (bt (r72 u h) x ∨ bt (u.2.2.2.1 69 (z1.toNatClampNeg * 8 + h)) x) := by
  intro n
  induction n with
  | zero => intro z3 u _ _ _ h; cases h
  | succ n ih =>
    intro z3 u hI h0 h9 h
    have h : (if 8 ≤ z3 then (k44 z1 z2 u) else (gd (inb z3 8) (gd (inb z3 8) (lt (sB u 71 (vp_updL (u.2.2.2.1 71) z3.toNatClampNeg (u.2.2.2.1 72 z3.toNatClampNeg))) fun u3 => (gd (inb z3 8) ((fX2_toldBy_11 z3 z1 u3).bind fun q => match q with | (r6, u7) => (gd (inb z3 8) (lt (sB u7 72 (vp_updL (u7.2.2.2.1 72) z3.toNatClampNeg ((u3.2.2.2.1 72 z3.toNatClampNeg) ||| r6))) fun u10 => ((LX4_passDay_12_2 k44 n) z1 z2 (z3 + 1) u10))))))))) = some (r, u') := h
    have t3 := tn h0
    by_cases c : 8 ≤ z3
    · rw [if_pos c] at h
      have c9 : (8 : Int) ≤ z3.toInt := leI c
      exact ⟨u, StX_rf hI, h, fun k _ => ⟨rfl, rfl⟩, fun k g1 g2 => by omega⟩
    · rw [if_neg c] at h
      have c9 : ¬ (8 : Int) ≤ z3.toInt := nleI c
      have et : (z3 + 1).toInt = z3.toInt + 1 := addc_t (by decide) (by omega) (by omega)
      have en := ns1 h0 (show z3.toInt ≤ 5000 by omega)
      obtain ⟨-, h⟩ := gd_some h
      obtain ⟨-, h⟩ := gd_some h
      obtain ⟨u3, j3, h⟩ := lt_some h
      obtain ⟨-, h⟩ := gd_some h
      obtain ⟨⟨r6, u7⟩, a6, h⟩ := bd_some h
      unfold fX2_toldBy_11 at a6
      obtain ⟨-, a6⟩ := gd_some a6
      rw [ix8 d0 d9 h0 (by omega)] at a6
      have e6 : r6 = u3.2.2.2.1 69 (z1.toNatClampNeg * 8 + z3.toNatClampNeg) ∧ u7 = u3 := by cases a6; exact ⟨rfl, rfl⟩
      rw [e6.2] at h
      obtain ⟨-, h⟩ := gd_some h
      obtain ⟨u10, j10, h⟩ := lt_some h
      have s10 : StX md712 u u10 := by
        rw [j10, j3]
        exact StX_sB (StX_sB (StX_rf hI) (by decide)) (by decide)
      have e71 : ∀ k : Nat, r71 u10 k = if k = z3.toNatClampNeg then r72 u k else r71 u k := by
        intro k
        rw [j10, j3]
        show (if k = z3.toNatClampNeg then u.2.2.2.1 72 z3.toNatClampNeg else u.2.2.2.1 71 k) = _
        by_cases ck : k = z3.toNatClampNeg
        · rw [if_pos ck, if_pos ck, ck]
          rfl
        · rw [if_neg ck, if_neg ck]
          rfl
      have e72 : ∀ k : Nat, r72 u10 k = if k = z3.toNatClampNeg then (r72 u k ||| u.2.2.2.1 69 (z1.toNatClampNeg * 8 + k)) else r72 u k := by
        intro k
        rw [j10, e6.1, j3]
        show (if k = z3.toNatClampNeg then (u.2.2.2.1 72 z3.toNatClampNeg ||| u.2.2.2.1 69 (z1.toNatClampNeg * 8 + z3.toNatClampNeg)) else u.2.2.2.1 72 k) = _
        by_cases ck : k = z3.toNatClampNeg
        · rw [if_pos ck, if_pos ck, ck]
          rfl
        · rw [if_neg ck, if_neg ck]
          rfl
      obtain ⟨w, sw, bw, p1, q1⟩ := ih (z3 + 1) u10 s10.1 (by rw [et]; omega) (by rw [et]; omega) h
      refine ⟨w, StX_tr s10 sw (by decide), bw, ?_, ?_⟩
      · intro k hk
        obtain ⟨a, b⟩ := p1 k (by omega)
        rw [a, b, e71, e72, if_neg (by omega), if_neg (by omega)]
        exact ⟨rfl, rfl⟩
      · intro k g1 g2
        by_cases ck : k = z3.toNatClampNeg
        · obtain ⟨a, b⟩ := p1 k (by omega)
          rw [a, b, e71, e72, if_pos ck, if_pos ck]
          exact ⟨rfl, fun x => bt_or⟩
        · obtain ⟨a, b⟩ := q1 k (by omega) g2
          have e69 : u10.2.2.2.1 69 = u.2.2.2.1 69 := s10.2.2.2.2.1 69 (by decide)
          rw [e72, if_neg ck, e69] at b
          rw [a, e72, if_neg ck]
          exact ⟨rfl, b⟩
theorem pd46 {z1 r : Int32} {u' : SX} : ∀ (n : Nat) (z3 : Int32) (u : SX), IX u → 0 ≤ z3.toInt → z3.toInt ≤ (u.1 38).toInt → LX4_passDay_12_46 n z1 z3 u = some (r, u') → StX md712 u u' ∧ z3.toInt ≤ r.toInt ∧ r.toInt ≤ (u.1 38).toInt ∧ (∀ i : Nat, z3.toInt ≤ (i : Int) → (i : Int) < r.toInt → (u.2.1 62 i).toInt = z1.toInt) ∧ (r.toInt < (u.1 38).toInt → ¬ (u.2.1 62 r.toNatClampNeg).toInt = z1.toInt) ∧ (∀ h : Nat, r71 u' h = r71 u h) ∧ ∀ h x : Nat, bt (r72 u' h) x ↔ (bt (r72 u h) x ∨ ∃ i : Nat, z3.toInt ≤ (i : Int) ∧ (i : Int) < r.toInt ∧ (u.2.1 61 i).toInt = (h : Int) ∧ bt (r71 u (u.2.1 60 i).toNatClampNeg) x) := by
  intro n
  induction n with
  | zero => intro z3 u _ _ _ h; cases h
  | succ n ih =>
    intro z3 u hI h0 h9 h
    have b38 : (u.1 38).toInt ≤ (60 : Int) := (hI.1 38).2
    have h : (if (u.1 38) ≤ z3 then (some (z3, u)) else (gd (inb z3 60) (if (u.2.1 62 z3.toNatClampNeg) = z1 then (gd (inb z3 60) (gd (inb (u.2.1 61 z3.toNatClampNeg) 8) (gd (inb z3 60) (gd (inb (u.2.1 60 z3.toNatClampNeg) 8) (gd (inb (u.2.1 61 z3.toNatClampNeg) 8) (lt (sB u 72 (vp_updL (u.2.2.2.1 72) (u.2.1 61 z3.toNatClampNeg).toNatClampNeg ((u.2.2.2.1 72 (u.2.1 61 z3.toNatClampNeg).toNatClampNeg) ||| (u.2.2.2.1 71 (u.2.1 60 z3.toNatClampNeg).toNatClampNeg)))) fun u18 => ((LX4_passDay_12_46 n) z1 (z3 + 1) u18))))))) else (some (z3, u))))) = some (r, u') := h
    have t3 := tn h0
    have stop : z3 = r ∧ u = u' → (r.toInt < (u.1 38).toInt → ¬ (u.2.1 62 r.toNatClampNeg).toInt = z1.toInt) → StX md712 u u' ∧ z3.toInt ≤ r.toInt ∧ r.toInt ≤ (u.1 38).toInt ∧ (∀ i : Nat, z3.toInt ≤ (i : Int) → (i : Int) < r.toInt → (u.2.1 62 i).toInt = z1.toInt) ∧ (r.toInt < (u.1 38).toInt → ¬ (u.2.1 62 r.toNatClampNeg).toInt = z1.toInt) ∧ (∀ h : Nat, r71 u' h = r71 u h) ∧ ∀ h x : Nat, bt (r72 u' h) x ↔ (bt (r72 u h) x ∨ ∃ i : Nat, z3.toInt ≤ (i : Int) ∧ (i : Int) < r.toInt ∧ (u.2.1 61 i).toInt = (h : Int) ∧ bt (r71 u (u.2.1 60 i).toNatClampNeg) x) := by
      rintro ⟨e1, e2⟩ g
      rw [← e2]
      rw [← e1] at g ⊢
      exact ⟨StX_rf hI, Int.le_refl _, h9, fun i g1 g2 => by omega, g, fun _ => rfl, fun k x => ⟨Or.inl, fun z => z.elim id (fun ⟨i, g1, g2, _⟩ => by omega)⟩⟩
    by_cases c : u.1 38 ≤ z3
    · rw [if_pos c] at h
      have c9 := leI c
      have e : z3 = r ∧ u = u' := by cases h; exact ⟨rfl, rfl⟩
      exact stop e (fun g => by rw [← e.1] at g; omega)
    · rw [if_neg c] at h
      have c9 := nleI c
      have et : (z3 + 1).toInt = z3.toInt + 1 := addc_t (by decide) (by omega) (by omega)
      obtain ⟨-, h⟩ := gd_some h
      by_cases cd : u.2.1 62 z3.toNatClampNeg = z1
      · rw [if_pos cd] at h
        obtain ⟨-, h⟩ := gd_some h
        obtain ⟨-, h⟩ := gd_some h
        obtain ⟨-, h⟩ := gd_some h
        obtain ⟨-, h⟩ := gd_some h
        obtain ⟨-, h⟩ := gd_some h
        obtain ⟨u18, j18, h⟩ := lt_some h
        have s18 : StX md712 u u18 := by
          rw [j18]
          exact StX_sB (StX_rf hI) (by decide)
        have e71 : ∀ k : Nat, r71 u18 k = r71 u k := by
          intro k
          rw [j18]
          rfl
        have e72 : ∀ k : Nat, r72 u18 k = if k = (u.2.1 61 z3.toNatClampNeg).toNatClampNeg then (r72 u k ||| r71 u (u.2.1 60 z3.toNatClampNeg).toNatClampNeg) else r72 u k := by
          intro k
          rw [j18]
          show (if k = (u.2.1 61 z3.toNatClampNeg).toNatClampNeg then (u.2.2.2.1 72 (u.2.1 61 z3.toNatClampNeg).toNatClampNeg ||| u.2.2.2.1 71 (u.2.1 60 z3.toNatClampNeg).toNatClampNeg) else u.2.2.2.1 72 k) = _
          by_cases ck : k = (u.2.1 61 z3.toNatClampNeg).toNatClampNeg
          · rw [if_pos ck, if_pos ck, ck]
            rfl
          · rw [if_neg ck, if_neg ck]
            rfl
        have w38 : u18.1 38 = u.1 38 := s18.2.1 38 (by decide)
        have w60 : u18.2.1 60 = u.2.1 60 := s18.2.2.1 60 (by decide)
        have w61 : u18.2.1 61 = u.2.1 61 := s18.2.2.1 61 (by decide)
        have w62 : u18.2.1 62 = u.2.1 62 := s18.2.2.1 62 (by decide)
        obtain ⟨s1, l1, l2, p1, p2, p3, p4⟩ := ih (z3 + 1) u18 s18.1 (by rw [et]; omega) (by rw [et, w38]; omega) h
        rw [w38] at l2 p2
        rw [w62] at p1 p2
        rw [et] at l1 p1
        have o0 : (0 : Int) ≤ (u.2.1 61 z3.toNatClampNeg).toInt := (hI.2.1 61 _).1
        have to := tn o0
        refine ⟨StX_tr s18 s1 (by decide), by omega, l2, ?_, p2, fun k => (p3 k).trans (e71 k), ?_⟩
        · intro i g1 g2
          by_cases ci : i = z3.toNatClampNeg
          · rw [ci, cd]
          · exact p1 i (by omega) g2
        · intro k x
          rw [p4 k x, e72, w60, w61, et]
          have eq1 : ∀ i : Nat, r71 u18 (u.2.1 60 i).toNatClampNeg = r71 u (u.2.1 60 i).toNatClampNeg := fun i => e71 _
          constructor
          · rintro (g | ⟨i, g1, g2, g3, g4⟩)
            · by_cases ck : k = (u.2.1 61 z3.toNatClampNeg).toNatClampNeg
              · rw [if_pos ck, bt_or] at g
                exact g.elim Or.inl (fun g => Or.inr ⟨z3.toNatClampNeg, by omega, by omega, by omega, g⟩)
              · rw [if_neg ck] at g
                exact Or.inl g
            · rw [eq1] at g4
              exact Or.inr ⟨i, by omega, g2, g3, g4⟩
          · rintro (g | ⟨i, g1, g2, g3, g4⟩)
            · left
              by_cases ck : k = (u.2.1 61 z3.toNatClampNeg).toNatClampNeg
              · rw [if_pos ck, bt_or]
                exact Or.inl g
              · rw [if_neg ck]
                exact g
            · by_cases ci : i = z3.toNatClampNeg
              · left
                rw [ci] at g3 g4
                rw [if_pos (by omega), bt_or]
                exact Or.inr g4
              · exact Or.inr ⟨i, by omega, g2, g3, by rw [eq1]; exact g4⟩
      · rw [if_neg cd] at h
        have e : z3 = r ∧ u = u' := by cases h; exact ⟨rfl, rfl⟩
        exact stop e (fun _ g => cd (Int32.toInt.inj (by rw [e.1]; exact g)))
/-- letters in the order of their days -/
def SL (u : SX) : Prop := (∀ i j : Nat, i < j → (j : Int) < (u.1 38).toInt → (u.2.1 62 i).toInt ≤ (u.2.1 62 j).toInt) ∧ ∀ i : Nat, (i : Int) < (u.1 38).toInt → (u.2.1 62 i).toInt ≤ (u.1 0).toInt
/-- the first letter of a day or a later one -/
def PT (u : SX) (p d : Int) : Prop := 0 ≤ p ∧ p ≤ (u.1 38).toInt ∧ ∀ i : Nat, (i : Int) < (u.1 38).toInt → ((i : Int) < p ↔ (u.2.1 62 i).toInt < d)
theorem passX {z1 z2 r : Int32} {u u' : SX} (hI : IX u) (hL : SL u) (d0 : 0 ≤ z1.toInt) (d9 : z1.toInt ≤ 120) (hp : PT u z2.toInt z1.toInt) (h : fX4_passDay_12 z1 z2 u = some (r, u')) : StX md712 u u' ∧ PT u r.toInt (z1.toInt + 1) ∧ (∀ k : Nat, k < 8 → r71 u' k = r72 u k) ∧ ∀ k x : Nat, k < 8 → (bt (r72 u' k) x ↔ (bt (r72 u k) x ∨ bt (u.2.2.2.1 69 (z1.toNatClampNeg * 8 + k)) x ∨ ∃ i : Nat, (i : Int) < (u.1 38).toInt ∧ (u.2.1 62 i).toInt = z1.toInt ∧ (u.2.1 61 i).toInt = (k : Int) ∧ bt (r72 u (u.2.1 60 i).toNatClampNeg) x)) := by
  unfold fX4_passDay_12 at h
  have n0 : (0 : Int32).toNatClampNeg = 0 := rfl
  obtain ⟨w, sw, bw, -, q1⟩ := pd2 d0 d9 5000 0 u hI (by decide) (by decide) h
  unfold GX4_passDay_12_44 at bw
  have w38 : w.1 38 = u.1 38 := sw.2.1 38 (by decide)
  have w60 : w.2.1 60 = u.2.1 60 := sw.2.2.1 60 (by decide)
  have w61 : w.2.1 61 = u.2.1 61 := sw.2.2.1 61 (by decide)
  have w62 : w.2.1 62 = u.2.1 62 := sw.2.2.1 62 (by decide)
  obtain ⟨p0, p9, pi⟩ := hp
  obtain ⟨s1, l1, l2, m1, m2, m3, m4⟩ := pd46 5000 z2 w sw.1 p0 (by rw [w38]; exact p9) bw
  rw [w38] at l2 m2
  rw [w62] at m1 m2
  have tr := tn (a := r) (by omega)
  have pt : PT u r.toInt (z1.toInt + 1) := by
    refine ⟨by omega, l2, fun i hi => ?_⟩
    constructor
    · intro g
      by_cases g2 : (i : Int) < z2.toInt
      · have := (pi i hi).mp g2
        omega
      · have := m1 i (by omega) g
        omega
    · intro g
      refine Classical.byContradiction fun g2 => ?_
      have r1 : r.toInt < (u.1 38).toInt := by omega
      have a1 := m2 r1
      have a2 : ¬ (u.2.1 62 r.toNatClampNeg).toInt < z1.toInt := fun z => by
        have := (pi r.toNatClampNeg (by omega)).mpr z
        omega
      by_cases e : i = r.toNatClampNeg
      · rw [e] at g
        omega
      · have := hL.1 r.toNatClampNeg i (by omega) hi
        omega
  refine ⟨StX_tr sw s1 (by decide), pt, fun k hk => (m3 k).trans (q1 k (by omega) hk).1, fun k x hk => ?_⟩
  have lf : ∀ i : Nat, (u.2.1 60 i).toNatClampNeg < 8 := by
    intro i
    have z0 : (0 : Int) ≤ (u.2.1 60 i).toInt := (hI.2.1 60 _).1
    have z9 : (u.2.1 60 i).toInt ≤ (7 : Int) := (hI.2.1 60 _).2
    show (u.2.1 60 i).toInt.toNat < 8
    omega
  rw [m4 k x, (q1 k (by omega) hk).2 x, w60, w61]
  constructor
  · rintro ((g | g) | ⟨i, g1, g2, g3, g4⟩)
    · exact Or.inl g
    · exact Or.inr (Or.inl g)
    · rw [(q1 _ (by omega) (lf i)).1] at g4
      exact Or.inr (Or.inr ⟨i, by omega, m1 i g1 g2, g3, g4⟩)
  · rintro (g | g | ⟨i, g1, g2, g3, g4⟩)
    · exact Or.inl (Or.inl g)
    · exact Or.inl (Or.inr g)
    · refine Or.inr ⟨i, ?_, ?_, g3, ?_⟩
      · refine Classical.byContradiction fun g => ?_
        have := (pi i g1).mp (by omega)
        omega
      · exact (pt.2.2 i g1).mpr (by omega)
      · rw [(q1 _ (by omega) (lf i)).1]
        exact g4
theorem any2 {r : Int32} {u u' v : SX} (hI : IX u) (e36 : u.1 36 = v.1 23) (hM : TieM u v) : ∀ (n : Nat) (z1 : Int32), 0 ≤ z1.toInt → (∀ k : Nat, k < z1.toNatClampNeg → (r72 u k = r71 u k ∨ ¬ MetS v (bt (r72 u k)))) → LX4_anyMet_12_2 n z1 u = some (r, u') → u' = u ∧ ((r = 1 ∧ ∃ k : Nat, (k : Int) < (u.1 35).toInt ∧ MetS v (bt (r72 u k))) ∨ (r = 0 ∧ ∀ k : Nat, (k : Int) < (u.1 35).toInt → (r72 u k = r71 u k ∨ ¬ MetS v (bt (r72 u k))))) := by
  intro n
  induction n with
  | zero => intro z1 _ _ h; cases h
  | succ n ih =>
    intro z1 h0 hb h
    have b35 : (u.1 35).toInt ≤ (8 : Int) := (hI.1 35).2
    have h : (if (u.1 35) ≤ z1 then (gd (isB 0) (some (0, u))) else (gd (inb z1 8) (gd (inb z1 8) (if (lg_cmp (u.2.2.2.1 72 z1.toNatClampNeg) (u.2.2.2.1 71 z1.toNatClampNeg)) = 0 then (LX4_anyMet_12_2 n (z1 + 1) u) else (gd (inb z1 8) ((fX2_areMet_11 (u.2.2.2.1 72 z1.toNatClampNeg) u).bind fun q => match q with | (r5, u6) => (if r5 = 0 then (LX4_anyMet_12_2 n (z1 + 1) u6) else (gd (isB 1) (some (1, u6)))))))))) = some (r, u') := h
    have t1 := tn h0
    by_cases c : u.1 35 ≤ z1
    · rw [if_pos c] at h
      have c9 := leI c
      obtain ⟨-, h⟩ := gd_some h
      have e : r = 0 ∧ u' = u := by cases h; exact ⟨rfl, rfl⟩
      exact ⟨e.2, Or.inr ⟨e.1, fun k hk => hb k (by omega)⟩⟩
    · rw [if_neg c] at h
      have c9 := nleI c
      have et : (z1 + 1).toInt = z1.toInt + 1 := addc_t (by decide) (by omega) (by omega)
      have en := ns1 h0 (show z1.toInt ≤ 5000 by omega)
      obtain ⟨-, h⟩ := gd_some h
      obtain ⟨-, h⟩ := gd_some h
      have nx : (r72 u z1.toNatClampNeg = r71 u z1.toNatClampNeg ∨ ¬ MetS v (bt (r72 u z1.toNatClampNeg))) → LX4_anyMet_12_2 n (z1 + 1) u = some (r, u') → _ := fun q g => ih (z1 + 1) (by rw [et]; omega) (fun k hk => by
        by_cases ck : k = z1.toNatClampNeg
        · rw [ck]
          exact q
        · exact hb k (by omega)) g
      by_cases c1 : lg_cmp (u.2.2.2.1 72 z1.toNatClampNeg) (u.2.2.2.1 71 z1.toNatClampNeg) = 0
      · rw [if_pos c1] at h
        exact nx (Or.inl (lgc0.mp c1)) h
      · rw [if_neg c1] at h
        obtain ⟨-, h⟩ := gd_some h
        obtain ⟨⟨r5, u6⟩, a5, h⟩ := bd_some h
        obtain ⟨e6, k5⟩ := are_sp hI e36 hM a5
        rw [e6] at h
        have h : (if r5 = 0 then (LX4_anyMet_12_2 n (z1 + 1) u) else (gd (isB 1) (some (1, u)))) = some (r, u') := h
        rcases k5 with ⟨z, k5⟩ | ⟨z, k5⟩
        · rw [if_neg (ne01 z)] at h
          obtain ⟨-, h⟩ := gd_some h
          have e : r = 1 ∧ u' = u := by cases h; exact ⟨rfl, rfl⟩
          exact ⟨e.2, Or.inl ⟨e.1, z1.toNatClampNeg, by omega, k5⟩⟩
        · rw [if_pos z] at h
          exact nx (Or.inr k5) h
theorem TieM_fr {u u' v : SX} (h68 : u'.2.2.2.1 68 = u.2.2.2.1 68) (hJ : u'.2.2.1 0 = u.2.2.1 0) (h37 : u'.1 37 = u.1 37) (h66 : u'.2.1 66 = u.2.1 66) (h67 : u'.2.1 67 = u.2.1 67) (k : TieM u v) : TieM u' v := by
  unfold TieM at k ⊢
  rw [h68, hJ, h37, h66, h67]
  exact k
