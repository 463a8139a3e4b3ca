/-! THE CLAIM OUT OF ONE WALK OF THE LAW'S BODY. Your part is whole_start (and what it stands on); all else here is the same for every law, but numbers. -/
def R_law : String := "HissHornLaw"
def lw_P (b : Addr) (xs : List Int32) (args : Array Value) (s : State) : Prop := args = #[.ref b] ∧ s.IntsAt b xs ∧ xs.length ≤ 9 ∧ (Jvm.Cond.and given_1 narrow_1).before args s = true
def lw_Q (_ : Array Value) (s : State) (o : Outcome) (t : State) : Prop := o = .returned (some (.int 1)) ∧ Framed s o t [] 600002 7302232
def lw_Z (below : List Frame) (a : Array Value) (s : State) : State → Prop := fun t => ∃ o, t.status = .running ∧ Ended t below o ∧ lw_Q a s o t
/-- the law's own end, with 1 on the stack, nothing written that was there before, its room as the claim has it -/
theorem lw_ret {p : Program} {l : Launch} {e : Env} {s : State} {m : MethodId} {below : List Frame} {meth : Method} {c : Code} {b : Nat} (hx : p.tables.exec = Jvm.exec) (hb : c.code = code) (hr : meth.sig.returnType = ret) (hlocks : meth.locks = false) {pc : Nat} {H : Heap} {ls : Array Slot} (hdg : decode code pc = .ok (.ireturn, 1)) : W p l e room_1 s m #[Value.ref b] below meth c H [] 600002 7302232 (lw_Z below #[Value.ref b] s) (F0 m pc ls [.int 1]) := by
  intro T hT X
  obtain ⟨fs, hret, hrun, hended, hW, hframe⟩ := X.leave (v := some (.int 1)) (hlocks := hlocks) (fun h => by rw [hr] at h; cases h)
  have hmeth' : T.vm.method? m = some meth := X.method'
  refine ⟨T.setFrames fs, ?_, .returned (some (.int 1)), hrun, hended, rfl, ⟨_, rfl⟩, hW, hframe⟩
  jvm_step X.here [X.here.top, hx, hb, hdg, hmeth', hr, ret, narrow_b1]
  (try refine ⟨rfl, ?_⟩); (try refine ⟨rfl, ?_⟩)
  first | (intro acts; rw [hret _ acts rfl rfl rfl]) | rw [hret _ _ rfl rfl rfl]
  exact Steps.refl _
/-- what holds at the law's entry: the machine, the code, the tables' words (any of lw_tbl by 'hts w (by decide +kernel)'), the script of L ints xs at the cell b, what the Statement gives of the start (any of its parts by flat_of_before) -/
def lw_At (p : Program) (s : State) (m : MethodId) (meth : Method) (c : Code) (b L : Nat) (xs : Nat → Int32) : Prop :=
  p.tables.exec = Jvm.exec ∧ c.code = code ∧ meth.sig.returnType = ret ∧ c.maxLocals = 7 ∧ s.vm.findClass R_law = some m.cls ∧ (∀ w ∈ lw_tbl, w.before #[Value.ref b] s = true) ∧ va_X b L xs s s.heap ∧ b < s.heap.size ∧ meth.locks = false ∧ (Jvm.Cond.and given_1 narrow_1).before #[Value.ref b] s = true

/-! The law, one call on new objects. -/
section LAWROWS
variable {p : Program} {l : Launch} {e : Env} {R : Room} {s : State} {m : MethodId} {args : Array Value} {below : List Frame} {meth : Method} {c : Code} {H : Heap} {locs : List Loc} {cells slots : Nat} {Q : State → Prop}
variable {own Cn : String} {cc bytes : ByteArray} {nL maxL index n pc : Nat} {ret : Option FieldType} {Ts ws : List Cond} {y : MethodName} {rm : Room} {b : Nat} {As rest st : List Value} {ls : Array Slot}
variable {D : va_G} {tys : List (ClassId × FieldType)} {sg : Nat → Nat} {V : SX → va_W} {Ad A0 : Nat → Prop} {u u' : SX}
/-- a call of a side's method by the law; what is not the side's stays -/
theorem lg_i {r : Int32} (S : CallFix p m c cc nL s args Ts own) (hK : Kx D tys sg s) (hP : va_P D vwCl (V u) H) (hS : va_S A0 s.heap H locs) (hAd : ∀ q, Ax Ad H.size q → A0 q)
    (hM : Met l y ws rm (va_Pc (.ref b :: As) (Px D tys sg V H.size u)) (Qi D V Ad H.size r u') 0 0 (Ax Ad H.size)) (cw : CallW R s args own Cn index y bytes maxL ret ws rm 0 0 n)
    (q0 ci : Nat) {T : u_T} {N : Nat} {fs : List Value} (hc : vwCl[ci]? = some (Cn, T, N)) (he : (V u)[q0]? = some (b, .inr (ci, fs))) (hn : As.length = n) (hsize : ls.size = nL) (hst : st = As.reverse ++ .ref b :: rest) (hW : (rest.map fun v => v.category).sum ≤ 8)
    (hdg : decode cc pc = .ok (.invokevirtual index, 3)) (hf : cells ≤ R.cells ∧ slots ≤ R.slots)
    (kk : ∀ (H1 : Heap) (locs1 : List Loc), va_P D vwCl (V u') H1 → (∀ wo : va_W, va_P D vwCl wo H → (∀ (k : Nat) (q : Nat × va_E), wo[k]? = some q → ¬ Ad q.1) → va_P D vwCl wo H1) → va_S A0 s.heap H1 locs1 → W p l e R s m args below meth c H1 locs1 cells slots Q (F0 m (pc + 3) ls (.int r :: rest))) : W p l e R s m args below meth c H locs cells slots Q (F0 m pc ls st) := by
  subst hst
  refine va_calli (va_runV (As := As) (rest := rest) S hM cw ⟨Px_blind, va_recv hK.1 hP hc he, fun U hU hW => ⟨rfl, by rw [hU], by rw [hU]; exact hP, Kx_warm hW hK⟩⟩ rfl hn hsize rfl (lv_room hW) hdg hf) hS (fun q _ h => hAd q h) hAd (fun r1 w t H1 locs1 ht hvm hr hB hz hk hS1 => ?_)
  cases hr
  exact kk H1 locs1 (by have hB : va_P D vwCl (V u') t.heap := hB; rw [ht] at hB; exact hB) (fun wo hw hn => hw.kept fun k q hq => hk q.1 (hw k q hq).lt (fun z => z.elim (hn k q hq) (fun z => absurd (hw k q hq).lt (Nat.not_lt.mpr z)))) hS1
/-- a number of the script -/
theorem sld9 (hexec : p.tables.exec = Jvm.exec) (hb : c.code = cc) {b' L : Nat} {xs : Nat → Int32} {H0 : Heap} (hX : va_X b' L xs s H0) (hbl : b' < H0.size) (hbA : ¬ A0 b') (hS : va_S A0 H0 H locs) {i v : Int32} (hin : vp_in i L) (hv : xs i.toNatClampNeg = v) (hdg : decode cc pc = .ok (.iaload, 1))
    (kk : W p l e R s m args below meth c H locs cells slots Q (F0 m (pc + 1) ls (.int v :: rest))) : W p l e R s m args below meth c H locs cells slots Q (F0 m pc ls (.int i :: .ref b' :: rest)) := va_sld hexec hb hX hbl hbA hS hin hdg (by rw [hv]; exact kk)
end LAWROWS
/-- where the law stands ahead of its first call: both objects are new -/
def LW (p : Program) (s : State) (m : MethodId) (meth : Method) (c : Code) (b : Nat) (xs : Nat → Int32) (D : va_G) (cy : Nat → ClassId) (st aX aM : Nat → Nat) (o : Nat) (H : Heap) (locs : List Loc) : Prop :=
  lw_At p s m meth c b 9 xs ∧ Kx D [(cy 0, .int), (cy 1, .long), (cy 2, .boolean), (cy 3, .byte), (cy 4, .object "HissHorn$Text")] st s ∧ JX aX ∧ JM aM ∧ (∀ q, AX aX q → s.heap.size ≤ q) ∧ (∀ q, AM aM q → s.heap.size ≤ q) ∧ (∀ q, AM aM q → ¬ AX aX q) ∧ va_P D vwCl (VX cy aX st uX) H ∧ va_P D vwCl (VM cy aM st uM) H ∧ va_S (fun q : Nat => s.heap.size ≤ q) s.heap H locs
theorem dL_law_1958 : decode cL_law 1958 = .ok (.iinc 4 9, 3) := by decide +kernel
theorem dL_law_1961 : decode cL_law 1961 = .ok (.goto (-1938), 3) := by decide +kernel
theorem dL_law_23 : decode cL_law 23 = .ok (.iload 4, 2) := by decide +kernel
theorem dL_law_25 : decode cL_law 25 = .ok (.aload_n 0, 1) := by decide +kernel
theorem dL_law_26 : decode cL_law 26 = .ok (.arraylength, 1) := by decide +kernel
theorem dL_law_27 : decode cL_law 27 = .ok (.bipush 9, 2) := by decide +kernel
theorem dL_law_29 : decode cL_law 29 = .ok (.isub, 1) := by decide +kernel
theorem dL_law_30 : decode cL_law 30 = .ok (.if_icmp .gt 1934, 3) := by decide +kernel
theorem dL_law_1964 : decode cL_law 1964 = .ok (.iconst 1, 1) := by decide +kernel
theorem dL_law_1965 : decode cL_law 1965 = .ok (.ireturn, 1) := by decide +kernel
set_option maxHeartbeats 4000000 in
/-- behind the call: the next place is behind the script, the law ends with true -/
theorem law_end {p : Program} {e : Env} {s : State} {m : MethodId} {below : List Frame} {meth : Method} {c : Code} (l : Launch) {b : Nat} {xs : Nat → Int32} {H : Heap} {locs : List Loc} {cells slots : Nat} {ls : Array Slot} {lv1 lv2 lv3 : Nat} (h1 : cells ≤ 600002) (h2 : slots ≤ 7302232) (hx : p.tables.exec = Jvm.exec) (hb : c.code = code) (hr : meth.sig.returnType = ret) (hlocks : meth.locks = false) (hX : va_X b 9 xs s s.heap) (hbl : b < s.heap.size) (hbA : ¬ (fun q : Nat => s.heap.size ≤ q) b) (hS : va_S (fun q : Nat => s.heap.size ≤ q) s.heap H locs) (hl : lv_has ls 7 [(0, .ref b), (1, .ref lv1), (2, .ref lv2), (3, .ref lv3), (4, .int 0)]) : W p l e room_1 s m #[Value.ref b] below meth c H locs cells slots (lw_Z below #[Value.ref b] s) (F0 m 1958 ls []) := by
  refine lv_iinc (v := 9) (lv' := [(4, .int 9), (0, .ref b), (1, .ref lv1), (2, .ref lv2), (3, .ref lv3)]) hx hb dL_law_1958 hl (k := 4) rfl (by decide) (by decide) rfl (fun ls hl => ?_)
  refine lv_goto (tgt := 23) hx hb dL_law_1961 (by decide) ?_
  refine lv_iload hx hb dL_law_23 (lv_at hl 0 rfl) ?_
  refine lv_aload_n hx hb dL_law_25 rfl (lv_at hl 1 rfl) ?_
  refine va_slen hx hb hX hbl hbA hS dL_law_26 ?_
  refine lv_bipush (v := 9) hx hb dL_law_27 (by decide) ?_
  refine lv_isub hx hb dL_law_29 ?_
  refine lv_icmp_gt (tgt := 1964) hx hb dL_law_30 (by decide) (fun _ => ?_) (fun h => absurd (by decide) h)
  refine lv_iconst (v := 1) hx hb dL_law_1964 (by decide) ?_
  refine va_forget (fun q hq => hS.2.2 q hq) ?_
  refine W.widen (k := 600002) (n := 7302232) h1 h2 ?_
  exact lw_ret hx hb hr hlocks dL_law_1965

theorem mL_0 : Cond.constantLong RL 67 (4294967295) ∈ wsL_law := by decide +kernel
