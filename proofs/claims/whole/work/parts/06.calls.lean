/-! contracts of methods in the pure layer: what a method answers and does to the memory -/
/-- a world of cells, as a method finds it -/
def Wd (sh : List CS) (D : va_G) (ad : Nat → Nat) (aC : Nat → ClassId) (adV : Nat → Nat) (sz : Nat) (mem : Mem) (U : State) : Prop :=
  U.heap.size = sz ∧ va_P D vwCl (wl ad aC sh mem) U.heap ∧ va_K D vwCl (tyL aC) U ∧ (∀ mem', va_D (fun _ => True) (wl ad aC sh mem')) ∧ (∀ w ∈ nestW, va_Nw w U) ∧ SW ad adV (va_A (wl ad aC sh mem) sz) U U.heap
theorem Wd.blind {sh : List CS} {D : va_G} {ad : Nat → Nat} {aC : Nat → ClassId} {adV : Nat → Nat} {sz : Nat} {mem : Mem} (av : List Value) : FrameBlind (va_Pc av (Wd sh D ad aC adV sz mem)) := by
  intro a U g mk h
  obtain ⟨h0, h1, h2, h3, h4, h5, h6⟩ := h
  refine ⟨h0, h1, h2, va_K.moved (u := U) (U := U.calling g mk a) (Vm.Alike.refl U.vm) h3, h4, fun w hw => va_Nw.same ?_ (u := U) rfl (h5 w hw), SW.same (u := U) rfl h6⟩
  rcases List.mem_cons.mp hw with rfl | hw
  · rfl
  rcases List.mem_cons.mp hw with rfl | hw
  · rfl
  rcases List.mem_cons.mp hw with rfl | hw
  · rfl
  · cases hw
/-- how a method ends -/
def Qm (sh : List CS) (D : va_G) (ad : Nat → Nat) (aC : Nat → ClassId) (A : Nat → Prop) (post : Option PV → Mem → Prop) : Array Value → State → Outcome → State → Prop := fun _ st o t =>
  (∃ (r : Option PV) (mem' : Mem), o = .returned (r.map (em ad)) ∧ post r mem' ∧ va_P D vwCl (wl ad aC sh mem') t.heap ∧ va_K D vwCl (tyL aC) t) ∧ va_F A st t
def wsO (y : MethodName) (bytes : ByteArray) (maxL : Nat) (ret : Option FieldType) : List Cond := .code y bytes maxL ret :: Tbl
def rmO (dp : Nat) : Room := { frames := dp, cells := 0, slots := 0, locals := dp * 100 }
/-- THE CONTRACT: from these arguments and this memory the method returns, and post holds of its answer and the memory then -/
def Ret (sh : List CS) (l : Launch) (y : MethodName) (bytes : ByteArray) (maxL : Nat) (ret : Option FieldType) (dp : Nat) (as : List PV) (mem : Mem) (post : Option PV → Mem → Prop) : Prop :=
  ∀ (D : va_G) (ad : Nat → Nat) (aC : Nat → ClassId) (adV : Nat → Nat) (sz : Nat), Met l y (wsO y bytes maxL ret) (rmO dp) (va_Pc (as.map (em ad)) (Wd sh D ad aC adV sz mem)) (Qm sh D ad aC (va_A (wl ad aC sh mem) sz) post) 0 0 (va_A (wl ad aC sh mem) sz)
/-- the locals with which a method begins -/
def pargs : Nat → List PV → List (Nat × PV)
  | _, [] => []
  | i, v :: vs => (i, v) :: pargs (if p2 v = true then i + 2 else i + 1) vs
def pslots (as : List PV) : Nat := (as.map (fun v => if p2 v = true then 2 else 1)).sum
theorem pargs_em (ad : Nat → Nat) : ∀ (as : List PV) (i : Nat), lv_args i (as.map (em ad)) = (pargs i as).map fun q => (q.1, em ad q.2)
  | [], _ => rfl
  | v :: vs, i => by
    have h := em_cat ad v
    simp only [List.map_cons, lv_args, pargs]
    rw [pargs_em ad vs]
    by_cases e : p2 v = true
    · rw [e] at h
      rw [if_pos (beq_iff_eq.mp h), if_pos e]
    · have e2 : p2 v = false := Bool.eq_false_iff.mpr e
      rw [e2] at h
      rw [if_neg (beq_eq_false_iff_ne.mp h), if_neg e]
theorem pslots_em (ad : Nat → Nat) : ∀ as : List PV, (lg_sl (as.map (em ad))).length = pslots as
  | [] => rfl
  | v :: vs => by
    have h := em_cat ad v
    have ih := pslots_em ad vs
    unfold lg_sl pslots at ih ⊢
    simp only [List.map_cons, List.flatMap_cons, List.length_append, List.sum_cons]
    rw [ih]
    by_cases e : p2 v = true
    · rw [e] at h
      rw [if_pos (beq_iff_eq.mp h), if_pos e]
      rfl
    · have e2 : p2 v = false := Bool.eq_false_iff.mpr e
      rw [e2] at h
      rw [if_neg (beq_eq_false_iff_ne.mp h), if_neg e]
      rfl
/-- a method's own frame: its end is its caller's business -/
def Fm (sh : List CS) (X : KX) (rt : Option FieldType) (post : Option PV → Mem → Prop) : Prop := match X with
  | ((_, _, _, _, s, _, args, below, meth, _, Q), (D, ad, aC, _, A, nc, ns)) =>
    meth.sig.returnType = rt ∧ nc = 0 ∧ ns = 0 ∧ Q = MQ below (Qm sh D ad aC A post) args s 0 0 A
theorem ret_of {sh : List CS} {l : Launch} {y : MethodName} {bytes : ByteArray} {maxL : Nat} {ret : Option FieldType} {dp : Nat} {as : List PV} {mem : Mem} {post : Option PV → Mem → Prop} (hy : plainName y.cls = true) (hn : pslots as ≤ maxL)
    (h : ∀ X : KX, X.1.2.1 = l → Fx sh X bytes maxL y.cls dp → Fm sh X ret post → Ok sh X maxL 0 (pargs 0 as) [] mem) : Ret sh l y bytes maxL ret dp as mem post := by
  intro D ad aC adV sz
  refine Met.ofW (cc := bytes) (maxL := maxL) (ret := ret) hy rfl ?_
  intro p e s m args below meth c s₁ B hml hv
  obtain ⟨rfl, hsz, hP, hK, hD, hN, hS⟩ := hv
  subst hsz
  have hts := atoms_spec (ws := wsO y bytes maxL ret) B.pre
  have hDA : ∀ mem', va_D (va_A (wl ad aC sh mem) s.heap.size) (wl ad aC sh mem') := by
    intro mem'
    refine ⟨(hD mem').1, fun k q hq => ?_⟩
    unfold wl at hq
    rw [List.getElem?_mapIdx] at hq
    cases hs : sh[k]? with
    | none => rw [hs] at hq; cases hq
    | some c0 =>
      rw [hs] at hq
      have e1 : (ad k, cE ad aC mem' k c0) = q := Option.some.inj hq
      refine Or.inl ⟨k, cE ad aC mem k c0, ?_⟩
      rw [wl_at hs, ← e1]
  have k := h ((p, l, e, (headSpec (wsO y bytes maxL ret) (rmO dp)).room, s, m, (as.map (em ad)).toArray, below, meth, c, MQ below (Qm sh D ad aC (va_A (wl ad aC sh mem) s.heap.size) post) (as.map (em ad)).toArray s 0 0 (va_A (wl ad aC sh mem) s.heap.size)), (D, ad, aC, adV, va_A (wl ad aC sh mem) s.heap.size, 0, 0)) rfl
    ⟨B.exec, B.bytes, hml, findClass_of_methodNamed B.named, fun w hw => hts w (List.mem_cons_of_mem _ hw), hK, hDA, fun q hq => Or.inr hq, B.notSynchronized, hN, Nat.le_refl _, Nat.le_refl _, hS, Nat.le_refl _, Nat.le_refl _⟩
    ⟨B.returns, rfl, rfl, rfl⟩
  rw [lg_entry_eq]
  have hl := lv_entry (as.map (em ad)) (n := maxL) (by rw [pslots_em]; exact hn)
  rw [pargs_em] at hl
  exact k s.heap [] _ hP va_S.rf hl
section PR3
variable {sh : List CS} {X : KX} {cc : ByteArray} {nL : Nat} {own : String} {pc : Nat} {lv : List (Nat × PV)} {st : List PV} {mem : Mem} {dp : Nat} {post : Option PV → Mem → Prop}
theorem ok_iret (F : Fx sh X cc nL own dp) (G : Fm sh X (some .int) post) {z : Int} (d : decode cc pc = .ok (.ireturn, 1)) (h : post (some (pI z)) mem) : Ok sh X nL pc lv [pI z] mem := by
  obtain ⟨⟨p, l, e, R, s, m, args, below, meth, c, Q⟩, D, ad, aC, adV, A, nc, ns⟩ := X
  obtain ⟨hx, hb, hml, hown, hts, hK, hD, hA, hlocks, -⟩ := F
  obtain ⟨hr, rfl, rfl, rfl⟩ := G
  intro H locs ls hP hS hl
  refine W.iret hx hb hr (fun t ht hW => ⟨⟨some (pI z), mem, rfl, h, by rw [ht]; exact hP, va_K.moved hW.alike hK⟩, hS.F ht⟩) (fun q hq => hS.2.2 q hq) d
theorem ok_zret (F : Fx sh X cc nL own dp) {ty : FieldType} (G : Fm sh X (some ty) post) {z : Int} (d : decode cc pc = .ok (.ireturn, 1)) (hn : narrow ty (.int (Int32.ofInt z)) = .int (Int32.ofInt z)) (h : post (some (pI z)) mem) : Ok sh X nL pc lv [pI z] mem := by
  obtain ⟨⟨p, l, e, R, s, m, args, below, meth, c, Q⟩, D, ad, aC, adV, A, nc, ns⟩ := X
  obtain ⟨hx, hb, hml, hown, hts, hK, hD, hA, hlocks, -⟩ := F
  obtain ⟨hr, rfl, rfl, rfl⟩ := G
  intro H locs ls hP hS hl
  refine W.zret hx hb hr hn (fun t ht hW => ⟨⟨some (pI z), mem, rfl, h, by rw [ht]; exact hP, va_K.moved hW.alike hK⟩, hS.F ht⟩) (fun q hq => hS.2.2 q hq) d
theorem ok_lret (F : Fx sh X cc nL own dp) (G : Fm sh X (some .long) post) {z : Int} (d : decode cc pc = .ok (.lreturn, 1)) (h : post (some (pL z)) mem) : Ok sh X nL pc lv [pL z] mem := by
  obtain ⟨⟨p, l, e, R, s, m, args, below, meth, c, Q⟩, D, ad, aC, adV, A, nc, ns⟩ := X
  obtain ⟨hx, hb, hml, hown, hts, hK, hD, hA, hlocks, -⟩ := F
  obtain ⟨hr, rfl, rfl, rfl⟩ := G
  intro H locs ls hP hS hl
  refine W.lret hx hb hr (fun t ht hW => ⟨⟨some (pL z), mem, rfl, h, by rw [ht]; exact hP, va_K.moved hW.alike hK⟩, hS.F ht⟩) (fun q hq => hS.2.2 q hq) d
theorem ok_aret (F : Fx sh X cc nL own dp) {ty : FieldType} (G : Fm sh X (some ty) post) {k : Nat} (d : decode cc pc = .ok (.areturn, 1)) (hty : (∃ n, ty = .object n) ∨ ∃ t, ty = .array t) (h : post (some (pR k)) mem) : Ok sh X nL pc lv [pR k] mem := by
  obtain ⟨⟨p, l, e, R, s, m, args, below, meth, c, Q⟩, D, ad, aC, adV, A, nc, ns⟩ := X
  obtain ⟨hx, hb, hml, hown, hts, hK, hD, hA, hlocks, -⟩ := F
  obtain ⟨hr, rfl, rfl, rfl⟩ := G
  intro H locs ls hP hS hl
  refine W.aret hx hb hr hty (Or.inr ⟨_, rfl⟩) (fun t ht hW => ⟨⟨some (pR k), mem, rfl, h, by rw [ht]; exact hP, va_K.moved hW.alike hK⟩, hS.F ht⟩) (fun q hq => hS.2.2 q hq) d
theorem ok_vret (F : Fx sh X cc nL own dp) (G : Fm sh X none post) (d : decode cc pc = .ok (.return_, 1)) (h : post none mem) : Ok sh X nL pc lv [] mem := by
  obtain ⟨⟨p, l, e, R, s, m, args, below, meth, c, Q⟩, D, ad, aC, adV, A, nc, ns⟩ := X
  obtain ⟨hx, hb, hml, hown, hts, hK, hD, hA, hlocks, -⟩ := F
  obtain ⟨hr, rfl, rfl, rfl⟩ := G
  intro H locs ls hP hS hl
  refine W.vret hx hb hr (fun t ht hW => ⟨⟨none, mem, rfl, h, by rw [ht]; exact hP, va_K.moved hW.alike hK⟩, hS.F ht⟩) (fun q hq => hS.2.2 q hq) d
/-- what a called method is: its descriptor's number of arguments, its code among the words, its room -/
def mtOk (y : MethodName) (bytes : ByteArray) (maxL : Nat) (ret : Option FieldType) (n : Nat) : Prop := (y.cls ≠ "java/lang/invoke/MethodHandle" ∧ y.cls ≠ "java/lang/invoke/VarHandle" ∧ (parseMethodDescriptor y.desc).map (fun d => d.parameters.length) = some n) ∧ Cond.code y bytes maxL ret ∈ Tbl ∧ Cond.initialized y.cls ∈ Tbl ∧ maxL ≤ 80
theorem wsO_in {y : MethodName} {bytes : ByteArray} {maxL : Nat} {ret : Option FieldType} (h : Cond.code y bytes maxL ret ∈ Tbl) : ∀ w ∈ wsO y bytes maxL ret, w ∈ Tbl := fun w hw => by
  rcases List.mem_cons.mp hw with rfl | hw
  · exact h
  · exact hw
theorem wl_A {ad : Nat → Nat} {aC : Nat → ClassId} {A : Nat → Prop} {H0 H : Heap} {locs : List Loc} (hD : va_D A (wl ad aC sh mem)) (hS : va_S A H0 H locs) (hA : ∀ q : Nat, H0.size ≤ q → A q) : ∀ q : Nat, va_A (wl ad aC sh mem) H.size q → A q := by
  intro q h
  rcases h with ⟨k, e, h⟩ | h
  · exact hD.2 k _ h
  · exact hA q (Nat.le_trans hS.1 h)
theorem em_map_category (ad : Nat → Nat) (st : List PV) : (((st.map (em ad)).map fun v => v.category).sum) = pslots st := by
  unfold pslots
  rw [List.map_map]
  congr 1
  apply List.map_congr_left
  intro v _
  have h := em_cat ad v
  simp only [Function.comp]
  rcases v with z | z | (_ | k) | b <;> rfl
/-- behind a call of any kind -/
theorem ok_after {P : Program} {l : Launch} {e : Env} {R : Room} {s : State} {m : MethodId} {args : Array Value} {below : List Frame} {meth : Method} {c : Code} {Q : State → Prop} {D : va_G} {ad : Nat → Nat} {aC : Nat → ClassId} {adV : Nat → Nat} {A : Nat → Prop} {nc ns : Nat} {H : Heap} {locs : List Loc} {ls : Array Slot} {st0 : List Value} {av : Array Value}
    (F : Fx sh ((P, l, e, R, s, m, args, below, meth, c, Q), (D, ad, aC, adV, A, nc, ns)) cc nL own dp) (hP : va_P D vwCl (wl ad aC sh mem) H) (hS : va_S A s.heap H locs) (hl : lv_has ls nL (lv.map fun q => (q.1, em ad q.2)))
    (hr : va_Run P l e R s m args below meth c H locs nc ns 0 0 (F0 m pc ls st0) (st.map (em ad)) (Qm sh D ad aC (va_A (wl ad aC sh mem) H.size) post av) (va_A (wl ad aC sh mem) H.size))
    (k : ∀ r mem', post r mem' → Ok sh ((P, l, e, R, s, m, args, below, meth, c, Q), (D, ad, aC, adV, A, nc, ns)) nL (pc + 3) lv (r.toList ++ st) mem') : W P l e R s m args below meth c H locs nc ns Q (F0 m pc ls st0) := by
  obtain ⟨hx, hb, hml, hown, hts, hK, hD, hA, -⟩ := F
  have hf : ∀ q : Nat, va_A (wl ad aC sh mem) H.size q → A q := wl_A (hD mem) hS hA
  intro T hT X
  obtain ⟨v, st₀, t, T', L, h0, X', hL, e1, e2, ⟨⟨r, mem', hv, hp, hP1, hK1⟩, hz, hk⟩, go⟩ := hr T hT X
  have hv : v = r.map (em ad) := Outcome.returned.inj hv
  subst hv
  rw [h0] at hz hk
  have hS1 : va_S A s.heap T'.heap (locs ++ L) := ⟨Nat.le_trans hS.1 (by rw [e1]; exact hz), fun q h1 h2 => by rw [e1, hk q (Nat.lt_of_lt_of_le h1 hS.1) (fun z => h2 (hf q z))]; exact hS.2.1 q h1 h2, fun q hq => by
    rcases List.mem_append.mp hq with h | h
    · exact hS.2.2 q h
    · exact hf _ (hL q h)⟩
  obtain ⟨t2, a1, b1⟩ := k r mem' hp T'.heap (locs ++ L) ls (by rw [e1]; exact hP1) hS1 hl T' rfl X'
  refine ⟨t2, go t2 ?_, b1⟩
  have e3 : ((r.map (em ad)).toList ++ st.map (em ad)) = (r.toList ++ st).map (em ad) := by cases r <;> simp
  rw [e3]
  exact a1
/-- what a callee finds at a call -/
theorem call_pre {P : Program} {l : Launch} {e : Env} {R : Room} {s : State} {m : MethodId} {args : Array Value} {below : List Frame} {meth : Method} {c : Code} {Q : State → Prop} {D : va_G} {ad : Nat → Nat} {aC : Nat → ClassId} {adV : Nat → Nat} {A : Nat → Prop} {nc ns : Nat} {H : Heap} {locs : List Loc} {av : List Value}
    (F : Fx sh ((P, l, e, R, s, m, args, below, meth, c, Q), (D, ad, aC, adV, A, nc, ns)) cc nL own dp) (hP : va_P D vwCl (wl ad aC sh mem) H) (hS : va_S A s.heap H locs) :
    ∀ U : State, U.heap = H → s.WarmedH U.vm → va_Pc av (Wd sh D ad aC adV H.size mem) av.toArray U := by
  obtain ⟨hx, hb, hml, hown, hts, hK, hD, hA, hlocks, hN, hnc, hns, hW, -⟩ := F
  intro U hU hw
  refine ⟨rfl, by rw [hU], by rw [hU]; exact hP, va_K.moved hw.alike hK, fun mem' => (hD mem').weaken (fun _ _ _ _ => trivial), fun w hq => ?_, ?_⟩
  · have h := hN w hq
    rcases List.mem_cons.mp hq with rfl | hq
    · exact va_Nw.warmM hw h
    rcases List.mem_cons.mp hq with rfl | hq
    · exact va_Nw.warmM hw h
    rcases List.mem_cons.mp hq with rfl | hq
    · exact va_Nw.warmM hw h
    · cases hq
  · rw [hU]
    exact ((hW.warm hw).kept (fun a h1 h2 => hS.2.1 a h1 h2)).narrow (wl_A (hD mem) hS hA)
/-- a call of an object's method, of its own class -/
theorem ok_callv (F : Fx sh X cc nL own dp) {y : MethodName} {bytes : ByteArray} {maxL : Nat} {ret : Option FieldType} {dp' n ix q ci : Nat} {fs : List (Option Nat)} {T : u_T} {N : Nat} (as : List PV) (d : decode cc pc = .ok (.invokevirtual ix, 3)) (M : mtOk y bytes maxL ret n) (hi : Cond.instanceMethod y ∈ Tbl) (hs : Cond.selects y.cls y y ∈ Tbl) (hlk : Cond.methodLink own ix y ∈ Tbl)
    (hc : vwCl[ci]? = some (y.cls, T, N)) (hq : sh[q]? = some (.inl (ci, fs))) (hn : as.length = n) (hd : dp' < dp) (hst : pslots st ≤ 8) {st0 : List PV} (e0 : st0 = as.reverse ++ pR q :: st) (h : Ret sh X.1.2.1 y bytes maxL ret dp' (pR q :: as) mem post)
    (k : ∀ r mem', post r mem' → Ok sh X nL (pc + 3) lv (r.toList ++ st) mem') : Ok sh X nL pc lv st0 mem := by
  obtain ⟨⟨p, l, e, R, s, m, args, below, meth, c, Q⟩, D, ad, aC, adV, A, nc, ns⟩ := X
  have F' := F
  obtain ⟨hx, hb, hml, hown, hts, hK, hD, hA, hlocks, hN, hnc, hns, hW, hfr, hlo⟩ := F'
  obtain ⟨hcl, hco, hini, hL⟩ := M
  intro H locs ls hP hS hl
  refine ok_after F hP hS hl (va_runV (C := y.cls) (index := ix) (n := n) (b := ad q) (As := as.map (em ad)) ⟨hx, hb, hml, hown, hts⟩ (h D ad aC adV H.size) (cwV n hts (tb_sub fun w hw => ?_) rfl rfl rfl ⟨rfl, hcl⟩ ⟨?_, ?_⟩) ⟨Wd.blind _, va_recv hK hP hc (wl_at hq), call_pre F hP hS⟩ rfl (by rw [List.length_map]; exact hn) hl.1 ?_ (lv_room (by rw [em_map_category]; exact hst)) d ⟨hnc, hns⟩) k
  · rcases List.mem_append.mp hw with hw | hw
    · rcases List.mem_cons.mp hw with rfl | hw
      · exact hlk
      rcases List.mem_cons.mp hw with rfl | hw
      · exact hi
      rcases List.mem_cons.mp hw with rfl | hw
      · exact hs
      rcases List.mem_cons.mp hw with rfl | hw
      · exact hini
      · cases hw
    · exact wsO_in hco w hw
  · show dp' + 1 ≤ R.frames
    omega
  · show 8 + (maxL + 11) + dp' * 100 ≤ R.locals
    omega
  · subst e0
    simp [em]
/-- a call of a static method of the same class -/
theorem ok_calls (F : Fx sh X cc nL own dp) {y : MethodName} {bytes : ByteArray} {maxL : Nat} {ret : Option FieldType} {dp' n ix : Nat} (as : List PV) (d : decode cc pc = .ok (.invokestatic ix, 3)) (M : mtOk y bytes maxL ret n) (hi : Cond.static y ∈ Tbl) (hlk : Cond.methodLink own ix y ∈ Tbl)
    (hn : as.length = n) (hd : dp' < dp) (hst : pslots st ≤ 8) {st0 : List PV} (e0 : st0 = as.reverse ++ st) (h : Ret sh X.1.2.1 y bytes maxL ret dp' as mem post)
    (k : ∀ r mem', post r mem' → Ok sh X nL (pc + 3) lv (r.toList ++ st) mem') : Ok sh X nL pc lv st0 mem := by
  obtain ⟨⟨p, l, e, R, s, m, args, below, meth, c, Q⟩, D, ad, aC, adV, A, nc, ns⟩ := X
  have F' := F
  obtain ⟨hx, hb, hml, hown, hts, hK, hD, hA, hlocks, hN, hnc, hns, hW, hfr, hlo⟩ := F'
  obtain ⟨hcl, hco, hini, hL⟩ := M
  intro H locs ls hP hS hl
  refine ok_after F hP hS hl (va_runS (index := ix) (n := n) (As := as.map (em ad)) ⟨hx, hb, hml, hown, hts⟩ (h D ad aC adV H.size) ⟨callB_of n hts (tb_sub (wsO_in hco)) rfl rfl rfl (hts _ hini) (hts _ hlk) hcl ⟨?_, ?_⟩, hts _ hi⟩ ⟨Wd.blind _, call_pre F hP hS⟩ rfl (by rw [List.length_map]; exact hn) hl.1 ?_ (lv_room (by rw [em_map_category]; exact hst)) d ⟨hnc, hns⟩) k
  · show dp' + 1 ≤ R.frames
    omega
  · show 8 + (maxL + 11) + dp' * 100 ≤ R.locals
    omega
  · subst e0
    simp [em]
/-- a call of a nest mate's private static method -/
theorem ok_calln (F : Fx sh X cc nL own dp) {y : MethodName} {bytes : ByteArray} {maxL : Nat} {ret : Option FieldType} {dp' n ix : Nat} {host : String} (as : List PV) (d : decode cc pc = .ok (.invokestatic ix, 3)) (M : mtOk y bytes maxL ret n) (hi : Cond.static y ∈ Tbl) (hlk : Cond.methodLinkNest own ix y host ∈ nestW)
    (hn : as.length = n) (hd : dp' < dp) (hst : pslots st ≤ 8) {st0 : List PV} (e0 : st0 = as.reverse ++ st) (h : Ret sh X.1.2.1 y bytes maxL ret dp' as mem post)
    (k : ∀ r mem', post r mem' → Ok sh X nL (pc + 3) lv (r.toList ++ st) mem') : Ok sh X nL pc lv st0 mem := by
  obtain ⟨⟨p, l, e, R, s, m, args, below, meth, c, Q⟩, D, ad, aC, adV, A, nc, ns⟩ := X
  have F' := F
  obtain ⟨hx, hb, hml, hown, hts, hK, hD, hA, hlocks, hN, hnc, hns, hW, hfr, hlo⟩ := F'
  obtain ⟨hcl, hco, hini, hL⟩ := M
  intro H locs ls hP hS hl
  refine ok_after F hP hS hl (va_runSN (host := host) (index := ix) (n := n) (As := as.map (em ad)) ⟨hx, hb, hml, hown, hts⟩ (h D ad aC adV H.size) ⟨va_cnB n hts (tb_sub (wsO_in hco)) rfl rfl rfl (hN _ hlk) (hts _ hini) hcl ⟨?_, ?_⟩, hts _ hi, trivial⟩ ⟨Wd.blind _, call_pre F hP hS⟩ rfl (by rw [List.length_map]; exact hn) hl.1 ?_ (lv_room (by rw [em_map_category]; exact hst)) d ⟨hnc, hns⟩) k
  · show dp' + 1 ≤ R.frames
    omega
  · show 8 + (maxL + 11) + dp' * 100 ≤ R.locals
    omega
  · subst e0
    simp [em]
end PR3
