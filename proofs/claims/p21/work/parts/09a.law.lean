/-! THE CLAIM OUT OF ONE WALK OF THE LAW'S BODY. Your part is whole_start (and what it stands on); all else here is the same for every law, but numbers. -/
def R_law : String := "HissHornLaw"
def lw_P (b : Addr) (xs : List Int32) (args : Array Value) (s : State) : Prop := args = #[.ref b] ∧ s.IntsAt b xs ∧ xs.length ≤ 4608 ∧ (Jvm.Cond.and given_1 narrow_1).before args s = true
def lw_Q (_ : Array Value) (s : State) (o : Outcome) (t : State) : Prop := o = .returned (some (.int 1)) ∧ Framed s o t [] 601024 7293034
def lw_Z (below : List Frame) (a : Array Value) (s : State) : State → Prop := fun t => ∃ o, t.status = .running ∧ Ended t below o ∧ lw_Q a s o t
/-- the law's own end, with 1 on the stack, nothing written that was there before, its room as the claim has it -/
theorem lw_ret {p : Program} {l : Launch} {e : Env} {s : State} {m : MethodId} {below : List Frame} {meth : Method} {c : Code} {b : Nat} (hx : p.tables.exec = Jvm.exec) (hb : c.code = code) (hr : meth.sig.returnType = ret) (hlocks : meth.locks = false) {pc : Nat} {H : Heap} {ls : Array Slot} (hdg : decode code pc = .ok (.ireturn, 1)) : W p l e room_1 s m #[Value.ref b] below meth c H [] 601024 7293034 (lw_Z below #[Value.ref b] s) (F0 m pc ls [.int 1]) := by
  intro T hT X
  obtain ⟨fs, hret, hrun, hended, hW, hframe⟩ := X.leave (v := some (.int 1)) (hlocks := hlocks) (fun h => by rw [hr] at h; cases h)
  have hmeth' : T.vm.method? m = some meth := X.method'
  refine ⟨T.setFrames fs, ?_, .returned (some (.int 1)), hrun, hended, rfl, ⟨_, rfl⟩, hW, hframe⟩
  jvm_step X.here [X.here.top, hx, hb, hdg, hmeth', hr, ret, narrow_b1]
  (try refine ⟨rfl, ?_⟩); (try refine ⟨rfl, ?_⟩)
  first | (intro acts; rw [hret _ acts rfl rfl rfl]) | rw [hret _ _ rfl rfl rfl]
  exact Steps.refl _
/-- what holds at the law's entry: the machine, the code, the tables' words (any of lw_tbl by 'hts w (by decide +kernel)'), the script of L ints xs at the cell b, what the Statement gives of the start (any of its parts by flat_of_before) -/
def lw_At (p : Program) (s : State) (m : MethodId) (meth : Method) (c : Code) (b L : Nat) (xs : Nat → Int32) : Prop :=
  p.tables.exec = Jvm.exec ∧ c.code = code ∧ meth.sig.returnType = ret ∧ c.maxLocals = 7 ∧ s.vm.findClass R_law = some m.cls ∧ (∀ w ∈ lw_tbl, w.before #[Value.ref b] s = true) ∧ va_X b L xs s s.heap ∧ b < s.heap.size ∧ meth.locks = false ∧ (Jvm.Cond.and given_1 narrow_1).before #[Value.ref b] s = true
/-! The law's loop. -/
theorem ofN {n : Nat} (h : n ≤ 4608) : (Int32.ofNat n).toInt = (n : Int) := Int32.toInt_ofNat_of_lt (by omega)
theorem in9 {i c : Int32} {n : Int} {L : Nat} (hc : c.toInt = n) (h0 : 0 ≤ i.toInt) (h1 : i.toInt + 9 ≤ (L : Int)) (hL : L ≤ 4608) (hn : 0 ≤ n) (hn9 : n < 9) : vp_in (i + c) L := by
  have e := addc_t (x := i) (c := c) (n := n) hc (by omega) (by omega)
  exact inb_in (inb_t (by rw [e]; omega) (by rw [e]; omega))
section LAWROWS
variable {p : Program} {l : Launch} {e : Env} {R : Room} {s : State} {m : MethodId} {args : Array Value} {below : List Frame} {meth : Method} {c : Code} {H : Heap} {locs : List Loc} {cells slots : Nat} {Q : State → Prop}
variable {own Cn : String} {cc bytes : ByteArray} {nL maxL index n pc mc ms : Nat} {ret : Option FieldType} {Ts ws : List Cond} {y : MethodName} {rm : Room} {b : Nat} {As rest st : List Value} {ls : Array Slot}
variable {D : va_G} {tys : List (ClassId × FieldType)} {sg : Nat → Nat} {V : SX → va_W} {Ad A0 : Nat → Prop} {u u' : SX}
/-- a call of a side's method by the law; what is not the side's stays -/
theorem lg_i {r : Int32} (S : CallFix p m c cc nL s args Ts own) (hA0 : ∀ q, A0 q → sg 100 ≤ q) (hK : Ky D tys sg s) (hP : va_P D vwCl (V u) H) (hS : va_S A0 s.heap H locs) (hAd : ∀ q, Ax Ad H.size q → A0 q)
    (hM : Met l y ws rm (va_Pc (.ref b :: As) (Px D tys sg V H.size u)) (Qi D V Ad H.size r u') 0 0 (Ax Ad H.size)) (cw : CallW R s args own Cn index y bytes maxL ret ws rm 0 0 n)
    (q0 ci : Nat) {T : u_T} {N : Nat} {fs : List Value} (hc : vwCl[ci]? = some (Cn, T, N)) (he : (V u)[q0]? = some (b, .inr (ci, fs))) (hn : As.length = n) (hsize : ls.size = nL) (hst : st = As.reverse ++ .ref b :: rest) (hW : (rest.map fun v => v.category).sum ≤ 8)
    (hdg : decode cc pc = .ok (.invokevirtual index, 3)) (hf : cells ≤ R.cells ∧ slots ≤ R.slots)
    (kk : ∀ (H1 : Heap) (locs1 : List Loc), va_P D vwCl (V u') H1 → (∀ wo : va_W, va_P D vwCl wo H → (∀ (k : Nat) (q : Nat × va_E), wo[k]? = some q → ¬ Ad q.1) → va_P D vwCl wo H1) → va_S A0 s.heap H1 locs1 → W p l e R s m args below meth c H1 locs1 cells slots Q (F0 m (pc + 3) ls (.int r :: rest))) : W p l e R s m args below meth c H locs cells slots Q (F0 m pc ls st) := by
  subst hst
  refine va_calli (va_runV (As := As) (rest := rest) S hM cw ⟨Px_blind, va_recv hK.1 hP hc he, fun U hU hW => ⟨rfl, by rw [hU], by rw [hU]; exact hP, Ky_mA hA0 hS hU hW hK⟩⟩ rfl hn hsize rfl (lv_room hW) hdg hf) hS (fun q _ h => hAd q h) hAd (fun r1 w t H1 locs1 ht hvm hr hB hz hk hS1 => ?_)
  cases hr
  exact kk H1 locs1 (by have hB : va_P D vwCl (V u') t.heap := hB; rw [ht] at hB; exact hB) (fun wo hw hn => hw.kept fun k q hq => hk q.1 (hw k q hq).lt (fun z => z.elim (hn k q hq) (fun z => absurd (hw k q hq).lt (Nat.not_lt.mpr z)))) hS1
theorem CLn_blind {sz : Nat} {As : List Value} : FrameBlind (va_Pc As (fun U => Px D tys sg V sz u U ∧ CLn U)) := fun a U g mk q => by
  obtain ⟨q0, q1, q2⟩ := q
  exact ⟨q0, (Px_blind (As := As) a U g mk ⟨q0, q1⟩).2, va_Nw.same rfl rfl q2⟩
/-- the same, of a method that makes cells -/
theorem lg_t {S1 : Type} {post : Int32 → S1 → Prop} {B : S1 → State → Prop} (S : CallFix p m c cc nL s args Ts own) (hA0 : ∀ q, A0 q → sg 100 ≤ q) (hK : Ky D tys sg s) (hCL : CLn s) (hP : va_P D vwCl (V u) H) (hS : va_S A0 s.heap H locs) (hAd : ∀ q, Ax Ad H.size q → A0 q)
    (hM : Met l y ws rm (va_Pc (.ref b :: As) (fun U => Px D tys sg V H.size u U ∧ CLn U)) (va_Qi post B (Ax Ad H.size)) mc ms (Ax Ad H.size)) (cw : CallW R s args own Cn index y bytes maxL ret ws rm mc ms n)
    (q0 ci : Nat) {T : u_T} {N : Nat} {fs : List Value} (hc : vwCl[ci]? = some (Cn, T, N)) (he : (V u)[q0]? = some (b, .inr (ci, fs))) (hn : As.length = n) (hsize : ls.size = nL) (hst : st = As.reverse ++ .ref b :: rest) (hW : (rest.map fun v => v.category).sum ≤ 8)
    (hdg : decode cc pc = .ok (.invokevirtual index, 3)) (hf : cells + mc ≤ R.cells ∧ slots + ms ≤ R.slots)
    (kk : ∀ (r : Int32) (w : S1) (t : State) (locs1 : List Loc), post r w → B w t → (∀ wo : va_W, va_P D vwCl wo H → (∀ (k : Nat) (q : Nat × va_E), wo[k]? = some q → ¬ Ad q.1) → va_P D vwCl wo t.heap) → va_S A0 s.heap t.heap locs1 → W p l e R s m args below meth c t.heap locs1 (cells + mc) (slots + ms) Q (F0 m (pc + 3) ls (.int r :: rest))) : W p l e R s m args below meth c H locs cells slots Q (F0 m pc ls st) := by
  subst hst
  refine va_calli (va_runV (As := As) (rest := rest) S hM cw ⟨CLn_blind, va_recv hK.1 hP hc he, fun U hU hW => ⟨rfl, ⟨by rw [hU], by rw [hU]; exact hP, Ky_mA hA0 hS hU hW hK⟩, va_Nw.warmC hW hCL⟩⟩ rfl hn hsize rfl (lv_room hW) hdg hf) hS (fun q _ h => hAd q h) hAd (fun r1 w t H1 locs1 ht hvm hr hB hz hk hS1 => ?_)
  subst ht
  exact kk r1 w t locs1 hr hB (fun wo hw hn => hw.kept fun k q hq => hk q.1 (hw k q hq).lt (fun z => z.elim (hn k q hq) (fun z => absurd (hw k q hq).lt (Nat.not_lt.mpr z)))) hS1
/-- a number of the script -/
theorem sld9 (hexec : p.tables.exec = Jvm.exec) (hb : c.code = cc) {b' L : Nat} {xs : Nat → Int32} {H0 : Heap} (hX : va_X b' L xs s H0) (hbl : b' < H0.size) (hbA : ¬ A0 b') (hS : va_S A0 H0 H locs) {i v : Int32} (hin : vp_in i L) (hv : xs i.toNatClampNeg = v) (hdg : decode cc pc = .ok (.iaload, 1))
    (kk : W p l e R s m args below meth c H locs cells slots Q (F0 m (pc + 1) ls (.int v :: rest))) : W p l e R s m args below meth c H locs cells slots Q (F0 m pc ls (.int i :: .ref b' :: rest)) := va_sld hexec hb hX hbl hbA hS hin hdg (by rw [hv]; exact kk)
end LAWROWS
/-- what stays the same all through the loop -/
def LF (p : Program) (s : State) (m : MethodId) (meth : Method) (c : Code) (b L : Nat) (xs : Nat → Int32) (D : va_G) (cy : Nat → ClassId) (st aM : Nat → Nat) (o : Nat) : Prop :=
  lw_At p s m meth c b L xs ∧ L ≤ 4608 ∧ Ky D [(cy 0, .int), (cy 1, .long), (cy 2, .boolean), (cy 3, .byte), (cy 4, .object "HissHorn$Text")] st s ∧ JM aM st ∧ (∀ q, AM aM q → s.heap.size ≤ q) ∧ ¬ AM aM o ∧ s.heap.size ≤ o ∧ st 100 = s.heap.size ∧ Exs (fun q : Nat => s.heap.size ≤ q) s ∧ CLn s
/-- where the loop stands -/
def LI (s : State) (D : va_G) (cy : Nat → ClassId) (st aM : Nat → Nat) (o x0 : Nat) (aX : Nat → Nat) (u v : SX) (f : Nat → Int64) (H : Heap) (locs : List Loc) : Prop :=
  aX 0 = x0 ∧ JX aX st ∧ (∀ q, AX aX q → s.heap.size ≤ q) ∧ (∀ q, AM aM q → ¬ AX aX q) ∧ ¬ AX aX o ∧ va_P D vwCl (VX cy aX st u) H ∧ va_P D vwCl (VM cy aM st v) H ∧ va_P D vwCl [(o, .inl (cy 1, 1, .inr (.inl f)))] H ∧ va_S (fun q : Nat => s.heap.size ≤ q) s.heap H locs ∧ IX u ∧ IM v ∧ EvM v ∧ Tie u v ∧ TieR u v ∧ TieT u v ∧ TieC u v ∧ TieP u v
theorem AM_lt {D : va_G} {cy : Nat → ClassId} {ad st : Nat → Nat} {v : SX} {H : Heap} (hP : va_P D vwCl (VM cy ad st v) H) : ∀ q, AM ad q → q < H.size := fun q ⟨k, hk, e⟩ => by
  obtain ⟨e1, h1⟩ := VM_lk (cy := cy) (ad := ad) (st := st) (u := v) hk
  rw [e]
  exact (hP k _ h1).lt
set_option maxHeartbeats 4000000 in
set_option maxRecDepth 100000 in
/-- HissHorn.text, called by the law -/
theorem lg_text {p : Program} (l : Launch) {e : Env} {R : Room} {s : State} {m : MethodId} {args : Array Value} {below : List Frame} {meth : Method} {c : Code} {H : Heap} {locs : List Loc} {cells slots : Nat} {Q : State → Prop} {own : String} {cc bytes : ByteArray} {nL maxL index pc : Nat} {ret : Option FieldType} {Ts : List Cond} {ls : Array Slot}
    {D : va_G} {cy : Nat → ClassId} {sg aX : Nat → Nat} {u : SX} {x1 : Int32} (S : CallFix p m c cc nL s args Ts own) (hA0 : ∀ q, (fun q : Nat => s.heap.size ≤ q) q → sg 100 ≤ q) (hK : Ky D [(cy 0, .int), (cy 1, .long), (cy 2, .boolean), (cy 3, .byte), (cy 4, .object "HissHorn$Text")] sg s) (hCL : CLn s) (hJX : JX aX sg) (hP : va_P D vwCl (VX cy aX sg u) H) (hS : va_S (fun q : Nat => s.heap.size ≤ q) s.heap H locs) (hAX : ∀ q, AX aX q → s.heap.size ≤ q) (hIX : IX u)
    (cw : CallW R s args own RX11 index yX11_text bytes maxL ret wsX11_text rmTX 2 122 1) (hsize : ls.size = nL) (hdg : decode cc pc = .ok (.invokevirtual index, 3)) (hf : cells + 2 ≤ R.cells ∧ slots + 122 ≤ R.slots)
    (kk : ∀ (r : Int32) (aY : Nat → Nat) (uA : SX) (H1 : Heap) (locs1 : List Loc), aY 0 = aX 0 → JX aY sg → (∀ q, AX aY q → AX aX q ∨ H.size ≤ q) → IX uA → FrT u uA → TextX x1 u r uA → va_P D vwCl (VX cy aY sg uA) H1 → (∀ wo : va_W, va_P D vwCl wo H → (∀ (k : Nat) (q : Nat × va_E), wo[k]? = some q → ¬ AX aX q.1) → va_P D vwCl wo H1) → va_S (fun q : Nat => s.heap.size ≤ q) s.heap H1 locs1 → W p l e R s m args below meth c H1 locs1 (cells + 2) (slots + 122) Q (F0 m (pc + 3) ls [.int r])) : W p l e R s m args below meth c H locs cells slots Q (F0 m pc ls [.int x1, .ref (aX 0)]) := by
  have hAd : ∀ q, Ax (AX aX) H.size q → (fun q : Nat => s.heap.size ≤ q) q := fun q h => h.elim (hAX q) (fun z => Nat.le_trans hS.1 z)
  rcases text_tot x1 u hIX with ⟨r, uA, hfX, hIA, h35⟩ | ⟨w, hfT, hIw, h35, h5⟩ | ⟨w, hfT, hIw, h35, h5⟩ | ⟨w, hfT, hIw, h35, h5⟩
  · refine lg_t (V := VX cy aX sg) (Ad := AX aX) (As := [.int x1]) (rest := []) S hA0 hK hCL hP hS hAd (met_textR l D cy aX sg hJX H.size x1 hfX) cw 0 11 rfl rfl rfl hsize rfl (Nat.le_of_ble_eq_true rfl) hdg hf (fun r1 w1 t locs1 hr hB hkeep hS1 => ?_)
    exact kk r1 aX uA t.heap locs1 rfl hJX (fun q h => Or.inl h) hIA ⟨h35.1, h35.2.1⟩ (Or.inl (by rw [show r1 = r from hr]; exact hfX)) hB hkeep hS1
  · have b0 : (0 : Int) ≤ (w.1 2).toInt := (hIw.1 2).1
    have b1 : (w.1 2).toInt ≤ (121 : Int) := (hIw.1 2).2
    have bN : (w.1 2).toNatClampNeg ≤ 121 := by show (w.1 2).toInt.toNat ≤ 121; omega
    refine lg_t (V := VX cy aX sg) (Ad := AX aX) (As := [.int x1]) (rest := []) S hA0 hK hCL hP hS hAd (met_textS_3 l D cy aX sg hJX H.size x1 hfT hIw.2.2.2 b0 b1 (fun g => add3_eq w (hIw.1 5).1 h5 _ g)) cw 0 11 rfl rfl rfl hsize rfl (Nat.le_of_ble_eq_true rfl) hdg hf (fun r1 q t locs1 hr hB hkeep hS1 => ?_)
    obtain ⟨er, hJY, hlo, hhi, hg⟩ := hr
    exact kk r1 q.1 _ t.heap locs1 (hlo 0 (by omega)) hJY (fun a ⟨k, ek⟩ => by
      rcases Nat.lt_or_ge k (73 + 2 * tN w) with z | z
      · exact Or.inl ⟨k, by rw [ek]; exact hlo k z⟩
      · exact Or.inr (by rw [ek]; exact hhi k z)) (add3_I w hIw h5 _ bN q.2 hg) (FrT_add h35 (by decide)) (Or.inr (Or.inl ⟨w, _, q.2, hfT, er, rfl⟩)) hB hkeep hS1
  · have b0 : (0 : Int) ≤ (w.1 2).toInt := (hIw.1 2).1
    have b1 : (w.1 2).toInt ≤ (121 : Int) := (hIw.1 2).2
    have bN : (w.1 2).toNatClampNeg ≤ 121 := by show (w.1 2).toInt.toNat ≤ 121; omega
    refine lg_t (V := VX cy aX sg) (Ad := AX aX) (As := [.int x1]) (rest := []) S hA0 hK hCL hP hS hAd (met_textS_4 l D cy aX sg hJX H.size x1 hfT hIw.2.2.2 b0 b1 (fun g => add4_eq w (hIw.1 6).1 h5 _ g)) cw 0 11 rfl rfl rfl hsize rfl (Nat.le_of_ble_eq_true rfl) hdg hf (fun r1 q t locs1 hr hB hkeep hS1 => ?_)
    obtain ⟨er, hJY, hlo, hhi, hg⟩ := hr
    exact kk r1 q.1 _ t.heap locs1 (hlo 0 (by omega)) hJY (fun a ⟨k, ek⟩ => by
      rcases Nat.lt_or_ge k (73 + 2 * tN w) with z | z
      · exact Or.inl ⟨k, by rw [ek]; exact hlo k z⟩
      · exact Or.inr (by rw [ek]; exact hhi k z)) (add4_I w hIw h5 _ bN q.2 hg) (FrT_add h35 (by decide)) (Or.inr (Or.inr (Or.inl ⟨w, _, q.2, hfT, er, rfl⟩))) hB hkeep hS1
  · have b0 : (0 : Int) ≤ (w.1 2).toInt := (hIw.1 2).1
    have b1 : (w.1 2).toInt ≤ (121 : Int) := (hIw.1 2).2
    have bN : (w.1 2).toNatClampNeg ≤ 121 := by show (w.1 2).toInt.toNat ≤ 121; omega
    refine lg_t (V := VX cy aX sg) (Ad := AX aX) (As := [.int x1]) (rest := []) S hA0 hK hCL hP hS hAd (met_textS_5 l D cy aX sg hJX H.size x1 hfT hIw.2.2.2 b0 b1 (fun g => add5_eq w (hIw.1 7).1 h5 _ g)) cw 0 11 rfl rfl rfl hsize rfl (Nat.le_of_ble_eq_true rfl) hdg hf (fun r1 q t locs1 hr hB hkeep hS1 => ?_)
    obtain ⟨er, hJY, hlo, hhi, hg⟩ := hr
    exact kk r1 q.1 _ t.heap locs1 (hlo 0 (by omega)) hJY (fun a ⟨k, ek⟩ => by
      rcases Nat.lt_or_ge k (73 + 2 * tN w) with z | z
      · exact Or.inl ⟨k, by rw [ek]; exact hlo k z⟩
      · exact Or.inr (by rw [ek]; exact hhi k z)) (add5_I w hIw h5 _ bN q.2 hg) (FrT_add h35 (by decide)) (Or.inr (Or.inr (Or.inr ⟨w, _, q.2, hfT, er, rfl⟩))) hB hkeep hS1
