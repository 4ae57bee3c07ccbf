/-! THE CLAIM OUT OF ONE WALK OF THE LAW'S BODY. Your part is whole_start (and what it stands on); all else here is the same for every law, but numbers. -/
def R_law : String := "TillFloatLaw"
def lw_P (b : Addr) (xs : List Int32) (args : Array Value) (s : State) : Prop := args = #[.ref b] ∧ s.IntsAt b xs ∧ xs.length ≤ 3072 ∧ (Jvm.Cond.and given_1 narrow_1).before args s = true
/-- what a walk over the start with the record d0 says of its end, said of the start itself -/
theorem lw_closed {s t : State} {o : Outcome} {d0 : Drawn} {L : List Loc} {k n : Nat} (hd0 : s.drawn.sameBut d0 lw_cs) (hv : ∃ v, o = .returned v) (hW : (s.setDrawn d0).WarmedH t.vm) (hs : (s.setDrawn d0).sameButNew ({ t with vm := s.vm } : State) L k n) : State.butDraws s t lw_cs (fun t1 => Framed s o t1 L k n) := by
  have h2 : t.drawn = d0 := congrArg State.drawn hs.1
  refine ⟨⟨hv, hW, State.sameButNew.setDrawn hs s.drawn⟩, ?_, by decide⟩
  rw [h2]
  exact hd0
def lw_Q (_ : Array Value) (s : State) (o : Outcome) (t : State) : Prop := o = .returned (some (.int 1)) ∧ State.butDraws s t lw_cs (fun t1 => Framed s o t1 [] 600000 7302250)
def lw_Z (below : List Frame) (a : Array Value) (s : State) : State → Prop := fun t => ∃ o, t.status = .running ∧ Ended t below o ∧ lw_Q a s o t
/-- the law's own end, with 1 on the stack, nothing written that was there before, its room as the claim has it; d0: the record of draws at this point (at the entry s.drawn: begin with 'refine W.base ?_' and 'have hd0 := Drawn.sameBut.refl s.drawn lw_cs') -/
theorem lw_ret {p : Program} {l : Launch} {e : Env} {s : State} {m : MethodId} {below : List Frame} {meth : Method} {c : Code} {b : Nat} {d0 : Drawn} (hd0 : s.drawn.sameBut d0 lw_cs) (hx : p.tables.exec = Jvm.exec) (hb : c.code = code) (hr : meth.sig.returnType = ret) (hlocks : meth.locks = false) {pc : Nat} {H : Heap} {ls : Array Slot} (hdg : decode code pc = .ok (.ireturn, 1)) : W p l e room_1 (s.setDrawn d0) m #[Value.ref b] below meth c H [] 600000 7302250 (lw_Z below #[Value.ref b] s) (F0 m pc ls [.int 1]) := by
  intro T hT X
  obtain ⟨fs, hret, hrun, hended, hW, hframe⟩ := X.leave (v := some (.int 1)) (hlocks := hlocks) (fun h => by rw [hr] at h; cases h)
  have hmeth' : T.vm.method? m = some meth := X.method'
  refine ⟨T.setFrames fs, ?_, .returned (some (.int 1)), hrun, hended, rfl, lw_closed hd0 ⟨_, rfl⟩ hW hframe⟩
  jvm_step X.here [X.here.top, hx, hb, hdg, hmeth', hr, ret, narrow_b1]
  (try refine ⟨rfl, ?_⟩); (try refine ⟨rfl, ?_⟩)
  first | (intro acts; rw [hret _ acts rfl rfl rfl]) | rw [hret _ _ rfl rfl rfl]
  exact Steps.refl _
/-- what holds at the law's entry: the machine, the code, the tables' words (any of lw_tbl by 'hts w (by decide +kernel)'), the script of L ints xs at the cell b, what the Statement gives of the start (any of its parts by flat_of_before) -/
def lw_At (p : Program) (s : State) (m : MethodId) (meth : Method) (c : Code) (b L : Nat) (xs : Nat → Int32) : Prop :=
  p.tables.exec = Jvm.exec ∧ c.code = code ∧ meth.sig.returnType = ret ∧ c.maxLocals = 4 ∧ s.vm.findClass R_law = some m.cls ∧ (∀ w ∈ lw_tbl, w.before #[Value.ref b] s = true) ∧ va_X b L xs s s.heap ∧ b < s.heap.size ∧ meth.locks = false ∧ (Jvm.Cond.and given_1 narrow_1).before #[Value.ref b] s = true
/-- the addresses of the cells by shp's numbers, of the texts, of the script -/
def adF (sz b : Nat) (aK aV : Nat → Nat) (t : Nat) : Nat → Nat := fun k => if k < 214 then sz + gx k else if k = 9999 then b else if k = 3000 then t else if k < 2000 then aK (k - 1000) else aV (k - 2000)
/-- the addresses while things are made -/
def adL (sz b : Nat) : Nat → Nat := fun k => if k = 9999 then b else sz + k
theorem word_T {b : Nat} {s : State} (hts : ∀ w ∈ lw_tbl, w.before #[Value.ref b] s = true) : ∀ w ∈ Tbl, w.before #[Value.ref b] s = true := fun w hw => hts w (List.mem_filter.mp hw).1
/-- the classes, as the tables have them -/
theorem start_K {b : Nat} {s : State} (hts : ∀ w ∈ lw_tbl, w.before #[Value.ref b] s = true) : ∃ (D : va_G) (aC : Nat → ClassId), va_K D vwCl (tyL aC) s ∧ BN aC s := by
  have ht := word_T hts
  have hc : ∀ k : Nat, ∃ q : ClassId × (Nat → Nat), ∀ r, vwCl[k]? = some r → u_Kn s r.1 r.2.1 r.2.2 q.1 q.2 := fun k => by
    match k with
    | 0 => obtain ⟨c, i, h⟩ := u_known (C := RX0) (T := TX0) (N := 7) ht kC_X0.2.1 (ht _ kN_X0); exact ⟨(c, i), fun r hr => by cases hr; exact h⟩
    | 1 => obtain ⟨c, i, h⟩ := u_known (C := RX1) (T := TX1) (N := 11) ht kC_X1.2.1 (ht _ kN_X1); exact ⟨(c, i), fun r hr => by cases hr; exact h⟩
    | 2 => obtain ⟨c, i, h⟩ := u_known (C := RX2) (T := TX2) (N := 10) ht kC_X2.2.1 (ht _ kN_X2); exact ⟨(c, i), fun r hr => by cases hr; exact h⟩
    | 3 => obtain ⟨c, i, h⟩ := u_known (C := RX3) (T := TX3) (N := 1) ht kC_X3.2.1 (ht _ kN_X3); exact ⟨(c, i), fun r hr => by cases hr; exact h⟩
    | 4 => obtain ⟨c, i, h⟩ := u_known (C := RX4) (T := TX4) (N := 8) ht kC_X4.2.1 (ht _ kN_X4); exact ⟨(c, i), fun r hr => by cases hr; exact h⟩
    | 5 => obtain ⟨c, i, h⟩ := u_known (C := RX5) (T := TX5) (N := 3) ht kC_X5.2.1 (ht _ kN_X5); exact ⟨(c, i), fun r hr => by cases hr; exact h⟩
    | 6 => obtain ⟨c, i, h⟩ := u_known (C := RX6) (T := TX6) (N := 12) ht kC_X6.2.1 (ht _ kN_X6); exact ⟨(c, i), fun r hr => by cases hr; exact h⟩
    | 7 => obtain ⟨c, i, h⟩ := u_known (C := RX7) (T := TX7) (N := 18) ht kC_X7.2.1 (ht _ kN_X7); exact ⟨(c, i), fun r hr => by cases hr; exact h⟩
    | 8 => obtain ⟨c, i, h⟩ := u_known (C := RX8) (T := TX8) (N := 34) ht kC_X8.2.1 (ht _ kN_X8); exact ⟨(c, i), fun r hr => by cases hr; exact h⟩
    | k + 9 => exact ⟨(0, fun _ => 0), fun r hr => by cases hr⟩
  obtain ⟨f, hf⟩ := Classical.axiomOfChoice hc
  obtain ⟨cI, kI, eI, i1, i2, i3⟩ := Cond.arrayClass_spec (ht _ kY_int)
  obtain ⟨cB, kB, eB, b1, b2, b3⟩ := Cond.arrayClass_spec (ht _ kY_byte)
  obtain ⟨cZ, kZ, eZ, z1, z2, z3⟩ := Cond.arrayClass_spec (ht _ kY_boolean)
  obtain ⟨cL, kL, eL, l1, l2, l3⟩ := Cond.arrayClass_spec (ht _ kY_long)
  obtain ⟨eS, cS, kS, s1, -, s2, s3, s4⟩ := Cond.arrayOver_spec (hts _ kV_State)
  obtain ⟨eR, cR, kR, r1, r2, r3, r4⟩ := over_rows (hts _ kV_rows)
  have hRI : eR = cI := Option.some.inj (r1.symm.trans i1)
  refine ⟨(fun k => (f k).1, fun k => (f k).2), (fun k => match k with
    | 0 => cI
    | 1 => cB
    | 2 => cZ
    | 3 => cL
    | 4 => cS
    | _ => cR), ⟨fun k q hq => hf k q hq, fun k q hq => ?_⟩, nestB_at hts, va_AO.of (hts _ kV_State), kR, r2, by rw [r3, hRI]; rfl⟩
  match k, hq with
  | 0, hq => cases hq; exact ⟨fun n z => ⟨(fun _ h => by cases h), kI, i2, eI, i3⟩, i1⟩
  | 1, hq => cases hq; exact ⟨fun n z => ⟨(fun _ h => by cases h), kB, b2, eB, b3⟩, b1⟩
  | 2, hq => cases hq; exact ⟨fun n z => ⟨(fun _ h => by cases h), kZ, z2, eZ, z3⟩, z1⟩
  | 3, hq => cases hq; exact ⟨fun n z => ⟨(fun _ h => by cases h), kL, l2, eL, l3⟩, l1⟩
  | 4, hq => cases hq; exact ⟨fun n z => ⟨(fun _ h => by cases h), kS, s2, eS, s3⟩, kS, eS, s2, s3, s1, s4⟩
  | 5, hq => cases hq; exact ⟨fun n z => ⟨(fun _ h => by cases h), kR, r2, eR, r3⟩, r4⟩
  | k + 6, hq => cases hq
/-- the texts and the statics, as the start has them -/
theorem start_S {b : Nat} {s : State} (hts : ∀ w ∈ lw_tbl, w.before #[Value.ref b] s = true) (hgv : (Jvm.Cond.and given_1 narrow_1).before #[Value.ref b] s = true) (sz : Nat) (adV : Nat → Nat) {A : Nat → Prop} (hA : ∀ a : Nat, a < s.heap.size → ¬ A a) : ∃ aK aV t, SW (adF sz b aK aV t) adV A s s.heap := by
  obtain ⟨aK, aV, h1, h2⟩ := str_all (A := A) hgv hA
  have hs := flat_of_before _ hgv
  have hR := str_refs hts hgv h2
  have c1 := va_Zof (hts _ kU_cs) (hts _ kU_s) (va_eqi (hs (.eq (.static "java/lang/String" "COMPACT_STRINGS" "Z") (.int 1)) (by decide +kernel))) hA
  have c2 := va_Zqof (hts _ kU_fm) (hts _ kU_p) (hs (.isRef (.static "jdk/internal/util/Preconditions" "SIOOBE_FORMATTER" "Ljava/util/function/BiFunction;")) (by decide +kernel)) hA
  have key : ∀ t : Nat, (va_Z "jdk/internal/util/Preconditions" "SIOOBE_FORMATTER" "Ljava/util/function/BiFunction;" .null A s s.heap ∨ va_Z "jdk/internal/util/Preconditions" "SIOOBE_FORMATTER" "Ljava/util/function/BiFunction;" (.ref t) A s s.heap) → SW (adF sz b aK aV t) adV A s s.heap := fun t ht => by
    have ek : ∀ i : Nat, i < 13 → adF sz b aK aV t (1000 + i) = aK i := fun i hi => by
      unfold adF
      rw [if_neg (by omega), if_neg (by omega), if_neg (by omega), if_pos (by omega), Nat.add_sub_cancel_left]
    have ev : ∀ i : Nat, i < 13 → adF sz b aK aV t (2000 + i) = aV i := fun i hi => by
      unfold adF
      rw [if_neg (by omega), if_neg (by omega), if_neg (by omega), if_neg (by omega), Nat.add_sub_cancel_left]
    have et : adF sz b aK aV t 3000 = t := by
      unfold adF
      rw [if_neg (by decide), if_neg (by decide), if_pos rfl]
    refine ⟨⟨fun i hi => ?_, fun i j hi hj e => ?_⟩, fun q hq => ?_, c1, by rw [et]; exact ht⟩
    · dsimp only
      rw [ek i hi, ev i hi]
      exact h1.1 i hi
    · dsimp only at e
      rw [ek i hi, ek j hj] at e
      exact h1.2 i j hi hj e
    · have hlt : ∀ q ∈ sRef, q.2.2.2 < 13 := by decide +kernel
      rw [ek _ (hlt q hq)]
      exact hR q hq
  rcases c2 with c | ⟨t, c⟩
  · exact ⟨aK, aV, 0, key 0 (Or.inl c)⟩
  · exact ⟨aK, aV, t, key t (Or.inr c)⟩
theorem init_X7 (l : Launch) : BRet l yX7_init cX7_init 2 4 193 58191 Bx1 0 Bx2 := i_X7 l Bx1 0 rfl
theorem init_X8 (l : Launch) : BRet l yX8_init cX8_init 1 1 19 70416 Bx3 194 Bx4 := by
  have h := i_X8 l Bx3 194 (by
    unfold Bx3
    rw [List.getElem?_append_right (by rw [Bx2_len]; omega), Bx2_len]
    rfl)
  rw [Bx3_len] at h
  exact h
set_option maxHeartbeats 4000000 in
-- ===== YOUR PART BEGINS =====
/-- YOUR PART: from the entry, for every script of at most 3072 ints, the law comes to its end with true ('hflags': the launch's flags, for a law that throws: no stack traces) -/
theorem whole_start {p : Program} {e : Env} {s : State} {m : MethodId} {below : List Frame} {meth : Method} {c : Code} (l : Launch) (hflags : l.flags = flags0) {b L : Nat} {xs : Nat → Int32} (hL : L ≤ 3072) (C0 : lw_At p s m meth c b L xs) : W p l e room_1 s m #[Value.ref b] below meth c s.heap [] 0 0 (lw_Z below #[Value.ref b] s) (entryFrame m ([Value.ref b] : List Value).toArray 4) := by
  obtain ⟨hx, hb, hr, hml, hown, hts, hX, hbl, hlocks, hgv⟩ := C0
  have ht := word_T hts
  obtain ⟨D, aC, hK, hN⟩ := start_K hts
  have hnA : ∀ a : Nat, a < s.heap.size → ¬ (fun q : Nat => s.heap.size ≤ q) a := fun a h => Nat.not_le.mpr h
  obtain ⟨aK, aV, t, hSW⟩ := start_S hts hgv s.heap.size (fun k => k) hnA
  have had : ∀ k, k < 214 → adF s.heap.size b aK aV t k = s.heap.size + gx k := fun k hk => if_pos hk
  -- the loop
  have F1 : Fx shp ((p, l, e, room_1, s, m, #[Value.ref b], below, meth, c, lw_Z below #[Value.ref b] s), (D, adF s.heap.size b aK aV t, aC, fun k => k, (fun q : Nat => s.heap.size ≤ q), 600000, 7302250)) code 4 RL 40 :=
    ⟨hx, hb, hml, hown, ht, hK, made_D had (fun k => Nat.le_add_right _ _), fun _ h => h, hlocks, nestW_at hts, Nat.le_refl _, Nat.le_refl _, hSW, Nat.le_of_ble_eq_true rfl, Nat.le_of_ble_eq_true rfl⟩
  have G1 : LX ((p, l, e, room_1, s, m, #[Value.ref b], below, meth, c, lw_Z below #[Value.ref b] s), (D, adF s.heap.size b aK aV t, aC, fun k => k, (fun q : Nat => s.heap.size ≤ q), 600000, 7302250)) L xs := ⟨hX, hbl, hnA b hbl, hL⟩
  have Ke : ∀ (i : Int) (mem : Mem), Ok shp ((p, l, e, room_1, s, m, #[Value.ref b], below, meth, c, lw_Z below #[Value.ref b] s), (D, adF s.heap.size b aK aV t, aC, fun k => k, (fun q : Nat => s.heap.size ≤ q), 600000, 7302250)) 4 1354 [(3, pI i), (2, pR 0), (1, pR 20), (0, pR 9999)] [] mem := fun i mem H locs ls hP hS hl => by
    refine lv_iconst (v := 1) hx hb dL_1354 rfl ?_
    refine va_forget (fun q hq => hS.2.2 q hq) ?_
    exact lw_ret (Drawn.sameBut.refl s.drawn lw_cs) hx hb hr hlocks dL_1355
  have K1 := law_loop F1 G1 Ke (L + 2) 0 0 mem0 CR.start.x (by decide) (by decide) (by omega) (by omega)
  -- the two are made
  have F0b : Bf ((p, l, e, room_1, s, m, #[Value.ref b], below, meth, c, lw_Z below #[Value.ref b] s), (D, adL s.heap.size b, aC, fun k => k, (fun q : Nat => s.heap.size ≤ q), s.heap.size, 0)) code 4 RL 40 600000 7302250 0 :=
    ⟨hx, hb, hml, hown, ht, hK, hN, hlocks, rfl, rfl, Nat.le_of_ble_eq_true rfl, Nat.le_of_ble_eq_true rfl, Nat.le_refl _, Nat.le_refl _⟩
  have K0 : Bk ((p, l, e, room_1, s, m, #[Value.ref b], below, meth, c, lw_Z below #[Value.ref b] s), (D, adL s.heap.size b, aC, fun k => k, (fun q : Nat => s.heap.size ≤ q), s.heap.size, 0)) 4 0 [(0, pR 9999)] [] [] 0 0 := by
    refine bk_new (B' := Bx1) F0b dL_0 kC_X7 kG_L_7 kN_X7 kZ_X7 bl_X7_ok rfl (Nat.le_of_ble_eq_true rfl) (Nat.le_of_ble_eq_true rfl) (q := 0) rfl ?_
    refine bk_dup F0b dL_3 rfl ?_
    refine bk_callP F0b dL_4 kM_X7_init kI_X7_init kL_L_9 rfl (by decide) (Nat.le_of_ble_eq_true rfl) (Nat.le_of_ble_eq_true rfl) (Nat.le_of_ble_eq_true rfl) (init_X7 l) ?_
    refine bk_astore_n (lv' := [(1, pR 0), (0, pR 9999)]) F0b dL_7 (by decide) rfl rfl ?_
    refine bk_new (B' := Bx3) F0b dL_8 kC_X8 kG_L_10 kN_X8 kZ_X8 bl_X8_ok rfl (Nat.le_of_ble_eq_true rfl) (Nat.le_of_ble_eq_true rfl) (q := 194) Bx2_len.symm ?_
    refine bk_dup F0b dL_11 rfl ?_
    refine bk_callP F0b dL_12 kM_X8_init kI_X8_init kL_L_12 rfl (by decide) (Nat.le_of_ble_eq_true rfl) (Nat.le_of_ble_eq_true rfl) (Nat.le_of_ble_eq_true rfl) (init_X8 l) ?_
    refine bk_astore_n (lv' := [(2, pR 194), (1, pR 0), (0, pR 9999)]) F0b dL_15 (by decide) rfl rfl ?_
    refine bk_iconst F0b dL_16 ?_
    refine bk_istore_n (lv' := [(3, pI 0), (2, pR 194), (1, pR 0), (0, pR 9999)]) F0b dL_17 (by decide) rfl ?_
    intro H locs ls hZ hP hS hl
    refine W.widen (k := 600000) (n := 7302250) (Nat.le_of_ble_eq_true rfl) (Nat.le_of_ble_eq_true rfl) ?_
    exact K1 H locs ls (made_P had hP) hS hl
  rw [lg_entry_eq]
  have hl := lv_entry ([Value.ref b] : List Value) (n := 4) (Nat.le_of_ble_eq_true rfl)
  exact K0 s.heap [] _ rfl (fun k q hq => by cases hq) va_S.rf hl
-- ===== YOUR PART ENDS =====
set_option maxHeartbeats 4000000 in
theorem lw_walk (l : Launch) (hflags : l.flags = flags0) (b : Addr) (xs : List Int32) : MetFree l x (headSpec (Jvm.Cond.code x code maxLocals ret :: tables_1) room_1) (lw_P b xs) (fun _ _ _ _ _ => True) lw_Q := by
  refine MetFree.of_bodyS (code := code) (maxLocals := maxLocals) (ret := ret) (by decide) ?_ ?_
  · intro args s m h hn
    obtain ⟨meth, c, h1, h2, h3, h4, h5, h6, -, -⟩ := Cond.code_spec hn (atoms_spec (ws := Jvm.Cond.code x code maxLocals ret :: tables_1) h _ List.mem_cons_self)
    exact ⟨meth, c, h1, h2, h3, h4, h5, h6⟩
  · intro p e s m args below meth c s₁ B hml0 hP _
    obtain ⟨rfl, hx, hbd, hgv⟩ := hP
    obtain ⟨scr, harrAt, hlist, hof, hsmall⟩ := hx
    obtain ⟨hcb, hkn, -, -⟩ := State.arrayAt?_spec harrAt
    have hown : s.vm.findClass R_law = some m.cls := findClass_of_methodNamed B.named
    have hts0 : ∀ c ∈ (Jvm.Cond.code x code maxLocals ret :: tables_1), c.before #[Value.ref b] s = true := atoms_spec (ws := Jvm.Cond.code x code maxLocals ret :: tables_1) B.pre
    have hts : ∀ w ∈ lw_tbl, w.before #[Value.ref b] s = true := k2_hts_sels lw_privs (fun w hw => hts0 w (List.mem_cons_of_mem _ hw)) lw_privs_ok
    have hml : c.maxLocals = 4 := B.maxLocals_eq (hts0 _ List.mem_cons_self)
    have X₀ : Stand p l e room_1 s m #[Value.ref b] below meth c s₁ [] 0 0 := Stand.of_body B
    have hh0 : s₁.heap = s.heap := by rw [B.state]; rfl
    have hsz : scr.slots.size = xs.length := by rw [← Array.length_toList, hlist, List.length_map]
    have hval : ∀ j : Nat, j < xs.length → scr.slots[j]? = some (.int (xs.getD j 0)) := fun j hj => by
      rw [← Array.getElem?_toList, hlist]
      simp [hj]
    have hbl : b < s.heap.size := (Array.getElem?_eq_some_iff.mp hcb).1
    have hX : va_X b xs.length (fun j => xs.getD j 0) s s.heap := ⟨scr, hcb, hof, hkn, hsz, hval⟩
    have K : W p l e room_1 s m #[Value.ref b] below meth c s₁.heap [] 0 0 (lw_Z below #[Value.ref b] s) (entryFrame m ([Value.ref b] : List Value).toArray 4) := by
      rw [hh0]
      exact whole_start l hflags hbd ⟨B.exec, B.bytes, B.returns, hml, hown, hts, hX, hbl, B.notSynchronized, hgv⟩
    obtain ⟨t, a1, o, b1, b2, b3⟩ := K s₁ rfl X₀
    exact ⟨t, o, a1, b1, b2, b3⟩
theorem lw_pre_spec {args : Array Value} {s : State} (h : (Jvm.Cond.and given_1 narrow_1).before args s = true) (hr : rest_1_c.before args s = true) : ∃ (b : Addr) (xs : List Int32), lw_P b xs args s := by
  have hs := flat_of_before _ h
  have hq := flat_of_before _ hr
  have hc : (Cond.count 1).before args s = true := hs _ (by decide +kernel)
  have harr : (Cond.arrayOf (.arg 0) .int).before args s = true := hs _ (by decide +kernel)
  have hle : (Cond.le (.length (.arg 0)) (.int 3072)).before args s = true := hs _ (by decide +kernel)
  have hlen : (Cond.isInt (.length (.arg 0))).before args s = true := hq _ (by decide +kernel)
  have hall : (Cond.all (.arg 0) (.isInt (.elem (.arg 0) (.index 0)))).before args s = true := hq _ (by decide +kernel)
  obtain ⟨b, xs, hb, hx⟩ := State.ints_of_pre rfl harr hlen hall
  have hsm : xs.length < 2 ^ 31 := hx.choose_spec.2.2.2
  have hev : (Term.length (.arg 0)).eval args s none [] s = some (.int xs.length.toInt32) := hx.length_eval hb
  have hv := Cond.le_ints hev (show (Term.int 3072).eval args s none [] s = some (.int 3072) from rfl)
  have hd : xs.length.toInt32 ≤ 3072 := by
    simpa [Cond.before, Cond.holds, hv] using hle
  have hN : xs.length ≤ 3072 := (Int32.ofNat_le_ofNat hsm (by decide)).mp (show Int32.ofNat xs.length ≤ Int32.ofNat 3072 from hd)
  exact ⟨b, xs, Cond.one_arg hc (show args[0]? = some (.ref b) from hb), hx, hN, h⟩
theorem lw_comes (l : Launch) (hflags : l.flags = flags0) : Comes l x (Jvm.Cond.code x code maxLocals ret :: tables_1) room_1 (fun tb e args s => Calls_1 tb e args s ∧ rest_1 tb e args s ∧ Pre_1 tb e args s)
    (fun _ _ args s o t => lw_Q args s o t) := by
  intro p e ha hc hk s m args below hf hfit hheap happ hpre
  obtain ⟨b, xs, hP⟩ := lw_pre_spec hpre.2.2 hpre.2.1
  obtain ⟨k, o, h1, h2, h3, hQ⟩ := lw_walk l hflags b xs p e ha hc hk s m args below hf ((Spec.applies_iff_loose hf).mp happ).1 hP trivial
  exact ⟨k, o, h1, h2, h3, hQ⟩
theorem lw_frame {s t : State} {o : Outcome} {args : Array Value} (h : State.butDraws s t lw_cs (fun t1 => Framed s o t1 [] 600000 7302250)) :
    State.butDraws s t [Jvm.Choice.named "NaN.bits"] (fun t1 => Framed s o t1 (fieldLocs frame_1_writes args s ++ arrayLocs frame_1_arrays args s ++ staticLocs frame_1_statics s) 600000 7302250) := h
theorem lw_limb (L : Cond) (hL : ∀ (args : Array Value) (s t : State), L.after args s (.returned (some (.int 1))) t = true) :
    ArmFor flags0 classFile x code maxLocals ret World_1 tables_1 room_1 Calls_1 rest_1 Pre_1
      (fun tb e a s o t => postC L tb e a s o t ∧ State.butDraws s t [Jvm.Choice.named "NaN.bits"] (fun t1 => Framed s o t1 (fieldLocs frame_1_writes a s ++ arrayLocs frame_1_arrays a s ++ staticLocs frame_1_statics s) 600000 7302250)) := by
  intro l hflags _ _ p e ha hc hk s m args below hf hfit hheap happ hpre
  obtain ⟨k, o, h1, h2, h3, rfl, hF⟩ := lw_comes l hflags p e ha hc hk s m args below hf hfit hheap happ hpre
  exact ⟨k, _, h1, h2, h3, hL args s _, lw_frame hF⟩
theorem i_vc : Claimed_1_1 ∧ Claimed_1_2 := ⟨lw_limb limb_1_1 (fun args s t => by simp [limb_1_1, Cond.after, Cond.holds, Cond.value]), lw_limb limb_1_2 (fun args s t => Cond.after_iff.mpr (by
  first | (rw [show limb_1_2 = Cond.eq .result (.int 1) from rfl, Cond.eq_ints (x := 1) (y := 1) rfl rfl]; simp; done) | (simp [limb_1_2, Cond.value, Term.eval]; done)))⟩
