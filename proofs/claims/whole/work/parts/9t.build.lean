/-! objects as they are made: a world of cells in the order of their making, at addresses one behind the other from sz on -/
/-- an object's kind and fields, an array of numbers (its kind, its length; all 0), an array of cells -/
abbrev BS : Type := (Nat × List PV) ⊕ (Nat × Nat) ⊕ (Nat × List (Option Nat))
def bE (ad : Nat → Nat) (aC : Nat → ClassId) (c : BS) : va_E := match c with
  | .inl (ci, fs) => .inr (ci, fs.map (em ad))
  | .inr (.inl (3, n)) => .inl (aC 3, n, .inr (.inl fun _ => 0))
  | .inr (.inl (t, n)) => .inl (aC t, n, .inl fun _ => 0)
  | .inr (.inr (t, rs)) => .inl (aC t, rs.length, .inr (.inr (.inr (.inr fun j => (rs.getD j none).map ad))))
def adB (sz : Nat) : Nat → Nat := fun k => sz + k
def wbl (sz : Nat) (aC : Nat → ClassId) (B : List BS) : va_W := B.mapIdx (fun k c => (sz + k, bE (adB sz) aC c))
section WB
variable {sz : Nat} {aC : Nat → ClassId} {B : List BS}
theorem wbl_at {k : Nat} {c : BS} (h : B[k]? = some c) : (wbl sz aC B)[k]? = some (sz + k, bE (adB sz) aC c) := by
  unfold wbl
  rw [List.getElem?_mapIdx, h]
  rfl
theorem wbl_in {k : Nat} {q : Nat × va_E} (h : (wbl sz aC B)[k]? = some q) : k < B.length ∧ q.1 = sz + k := by
  unfold wbl at h
  rw [List.getElem?_mapIdx] at h
  cases hs : B[k]? with
  | none => rw [hs] at h; cases h
  | some c =>
    rw [hs] at h
    have e : (sz + k, bE (adB sz) aC c) = q := Option.some.inj h
    exact ⟨(List.getElem?_eq_some_iff.mp hs).1, by rw [← e]⟩
theorem wbl_push (c : List BS) : wbl sz aC (B ++ c) = wbl sz aC B ++ c.mapIdx (fun k c => (sz + (B.length + k), bE (adB sz) aC c)) := by
  apply List.ext_getElem?
  intro i
  unfold wbl
  rw [List.getElem?_mapIdx]
  by_cases h : i < B.length
  · rw [List.getElem?_append_left h, List.getElem?_append_left (by rw [List.length_mapIdx]; exact h), List.getElem?_mapIdx]
  · rw [List.getElem?_append_right (by omega), List.getElem?_append_right (by rw [List.length_mapIdx]; omega), List.getElem?_mapIdx, List.length_mapIdx]
    cases c[i - B.length]? with
    | none => rfl
    | some d => rw [Option.map_some, Option.map_some, show B.length + (i - B.length) = i by omega]
theorem wbl_set {k : Nat} {c0 c : BS} (h : B[k]? = some c0) : (wbl sz aC B).set k (sz + k, bE (adB sz) aC c) = wbl sz aC (B.set k c) := by
  apply List.ext_getElem?
  intro i
  have hk := (List.getElem?_eq_some_iff.mp h).1
  unfold wbl
  rw [List.getElem?_set, List.getElem?_mapIdx, List.getElem?_mapIdx, List.length_mapIdx, List.getElem?_set]
  by_cases e : k = i
  · subst e
    rw [if_pos rfl, if_pos hk, if_pos rfl, if_pos hk]
    rfl
  · rw [if_neg e, if_neg e]
theorem wbl_D {A : Nat → Prop} (hA : ∀ k, A (sz + k)) : va_D A (wbl sz aC B) :=
  ⟨fun i j p q hi hj e => by
    have a := (wbl_in hi).2
    have b := (wbl_in hj).2
    omega, fun k q hk => by rw [(wbl_in hk).2]; exact hA k⟩
theorem wbl_kept {D : va_G} {H H1 : Heap} (hZ : H.size = sz + B.length) (hP : va_P D vwCl (wbl sz aC B) H) (o : ∀ q, q < sz + B.length → H1[q]? = H[q]?) : va_P D vwCl (wbl sz aC B) H1 :=
  hP.kept (fun k q hk => o q.1 (by have a := wbl_in hk; omega))
end WB
/-- the words of the nest's own constructors -/
def nestB : List Cond := [.methodLinkNest RX7 9 yX6_init RX7, .methodLinkNest RX7 18 yX4_init RX7, .methodLinkNest RX4 11 yX6_init RX7, .methodLinkNest RX7 37 yX2_init RX7, .methodLinkNest RX2 23 yX0_init RX7, .methodLinkNest RX0 17 yX1_init RX7, .methodLinkNest RX7 56 yX3_init RX7, .methodLinkNest RX7 76 yX5_init RX7]
/-- the class of rows of rows of numbers -/
def mAA (aC : Nat → ClassId) (U : State) : Prop := ∃ k : Class, U.vm.classes[aC 5]? = some k ∧ k.kind = .array (aC 0) (.array .int)
theorem mAA.moved {aC : Nat → ClassId} {u U : State} (hvm : u.vm.Alike U.vm) (h : mAA aC u) : mAA aC U := by
  obtain ⟨k, h1, h2⟩ := h
  obtain ⟨k', hk', he⟩ := hvm.2.2 _ _ h1
  exact ⟨k', hk', by rw [he]; exact h2⟩
def BN (aC : Nat → ClassId) (U : State) : Prop := (∀ w ∈ nestB, va_Nw w U) ∧ va_AO "TillFloat$State" U ∧ mAA aC U
def BW (D : va_G) (aC : Nat → ClassId) (sz : Nat) (B : List BS) (U : State) : Prop := U.heap.size = sz + B.length ∧ va_P D vwCl (wbl sz aC B) U.heap ∧ va_K D vwCl (tyL aC) U ∧ BN aC U
theorem nestB_all {P : Cond → Prop} (h : ∀ a i x b, P (.methodLinkNest a i x b)) : ∀ w ∈ nestB, P w := by
  intro w hw
  unfold nestB at hw
  rcases List.mem_cons.mp hw with rfl | hw
  · exact h _ _ _ _
  rcases List.mem_cons.mp hw with rfl | hw
  · exact h _ _ _ _
  rcases List.mem_cons.mp hw with rfl | hw
  · exact h _ _ _ _
  rcases List.mem_cons.mp hw with rfl | hw
  · exact h _ _ _ _
  rcases List.mem_cons.mp hw with rfl | hw
  · exact h _ _ _ _
  rcases List.mem_cons.mp hw with rfl | hw
  · exact h _ _ _ _
  rcases List.mem_cons.mp hw with rfl | hw
  · exact h _ _ _ _
  rcases List.mem_cons.mp hw with rfl | hw
  · exact h _ _ _ _
  · cases hw
theorem BN.same {aC : Nat → ClassId} {u U : State} (hv : u.vm = U.vm) (h : BN aC u) : BN aC U :=
  ⟨fun w hw => nestB_all (P := fun w => va_Nw w u → va_Nw w U) (fun a i x b => va_Nw.same rfl hv) w hw (h.1 w hw), h.2.1.moved (by rw [hv]; exact Vm.Alike.refl _), h.2.2.moved (by rw [hv]; exact Vm.Alike.refl _)⟩
theorem BN.warm {aC : Nat → ClassId} {s U : State} (hW : s.WarmedH U.vm) (h : BN aC s) : BN aC U :=
  ⟨fun w hw => nestB_all (P := fun w => va_Nw w s → va_Nw w U) (fun a i x b => va_Nw.warmM hW) w hw (h.1 w hw), h.2.1.moved hW.alike, h.2.2.moved hW.alike⟩
theorem BW.blind {D : va_G} {aC : Nat → ClassId} {sz : Nat} {B : List BS} (av : List Value) : FrameBlind (va_Pc av (BW D aC sz B)) := by
  intro a U g mk h
  obtain ⟨h0, h1, h2, h3, h4⟩ := h
  exact ⟨h0, h1, h2, va_K.moved (u := U) (U := U.calling g mk a) (Vm.Alike.refl U.vm) h3, BN.same (u := U) rfl h4⟩
def rmB (dp mc ms : Nat) : Room := { frames := dp, cells := mc, slots := ms, locals := dp * 100 }
def Qb (D : va_G) (aC : Nat → ClassId) (sz : Nat) (B : List BS) : Array Value → State → Outcome → State → Prop :=
  va_Qv (S := Unit) (fun _ => True) (fun _ t => t.heap.size = sz + B.length ∧ va_P D vwCl (wbl sz aC B) t.heap) (fun q => sz ≤ q)
/-- A CONSTRUCTOR'S CONTRACT: from the cells B, of which h is this, it comes to the cells B' -/
def BRet (l : Launch) (y : MethodName) (bytes : ByteArray) (maxL dp mc ms : Nat) (B : List BS) (h : Nat) (B' : List BS) : Prop :=
  ∀ (D : va_G) (aC : Nat → ClassId) (sz : Nat), Met l y (wsO y bytes maxL none) (rmB dp mc ms) (va_Pc [.ref (sz + h)] (BW D aC sz B)) (Qb D aC sz B') mc ms (fun q => sz ≤ q)
/-- what holds all along a walk among cells that are being made; sz: the last but one of X -/
def Bf (X : KX) (cc : ByteArray) (nL : Nat) (own : String) (dp mc ms b0 : Nat) : Prop := match X with
  | ((p, _, _, R, s, m, args, _, meth, c, _), (D, _, aC, _, A, sz, _)) =>
    p.tables.exec = Jvm.exec ∧ c.code = cc ∧ c.maxLocals = nL ∧ s.vm.findClass own = some m.cls ∧ (∀ w ∈ Tbl, w.before args s = true) ∧ va_K D vwCl (tyL aC) s ∧ BN aC s ∧ meth.locks = false ∧ A = (fun q => sz ≤ q) ∧ s.heap.size = sz + b0 ∧ dp ≤ R.frames ∧ dp * 100 ≤ R.locals ∧ mc ≤ R.cells ∧ ms ≤ R.slots
/-- from here the walk comes to its end -/
def Bk (X : KX) (nL : Nat) (pc : Nat) (lv : List (Nat × PV)) (st : List PV) (B : List BS) (nc ns : Nat) : Prop := match X with
  | ((p, l, e, R, s, m, args, below, meth, c, Q), (D, ad, aC, _, A, sz, _)) =>
    ∀ (H : Heap) (locs : List Loc) (ls : Array Slot), H.size = sz + B.length → va_P D vwCl (wbl sz aC B) H → va_S A s.heap H locs → lv_has ls nL (lv.map fun q => (q.1, em ad q.2)) → W p l e R s m args below meth c H locs nc ns Q (F0 m pc ls (st.map (em (adB sz))))
/-- a constructor's end -/
def Bm (X : KX) (B' : List BS) (mc ms : Nat) : Prop := match X with
  | ((_, _, _, _, s, _, args, below, meth, _, Q), (D, ad, aC, _, A, sz, _)) =>
    meth.sig.returnType = none ∧ meth.name = "<init>" ∧ Q = MQ below (Qb D aC sz B') args s mc ms A ∧ ad = adB sz
/-- the addresses of locals are those of cells -/
def Ba (X : KX) : Prop := match X with
  | (_, (_, ad, _, _, _, sz, _)) => ad = adB sz
theorem Bm.ad {X : KX} {B' : List BS} {mc ms : Nat} (h : Bm X B' mc ms) : Ba X := by
  obtain ⟨⟨p, l, e, R, s, m, args, below, meth, c, Q⟩, D, ad, aC, adV, A, sz, sz2⟩ := X
  exact h.2.2.2
theorem bret_of {l : Launch} {y : MethodName} {bytes : ByteArray} {maxL dp mc ms : Nat} {B B' : List BS} {h : Nat} (hy : plainName y.cls = true) (hy1 : y.name = "<init>") (hn : 1 ≤ maxL)
    (k : ∀ X : KX, X.1.2.1 = l → Bf X bytes maxL y.cls dp mc ms B.length → Bm X B' mc ms → Bk X maxL 0 [(0, pR h)] [] B 0 0) : BRet l y bytes maxL dp mc ms B h B' := by
  intro D aC sz
  refine Met.ofW (cc := bytes) (maxL := maxL) (ret := none) hy rfl ?_
  intro p e s m args below meth c s₁ W0 hml hv
  obtain ⟨rfl, hsz, hP, hK, hN⟩ := hv
  have hts := atoms_spec (ws := wsO y bytes maxL none) W0.pre
  have hin : meth.name = "<init>" := by rw [(name_of_methodNamed W0.named W0.method).1]; exact hy1
  have k := k ((p, l, e, (headSpec (wsO y bytes maxL none) (rmB dp mc ms)).room, s, m, ([Value.ref (sz + h)] : List Value).toArray, below, meth, c, MQ below (Qb D aC sz B') ([Value.ref (sz + h)] : List Value).toArray s mc ms (fun q => sz ≤ q)), (D, adB sz, aC, fun k => k, (fun q => sz ≤ q), sz, 0)) rfl
    ⟨W0.exec, W0.bytes, hml, findClass_of_methodNamed W0.named, fun w hw => hts w (List.mem_cons_of_mem _ hw), hK, hN, W0.notSynchronized, rfl, hsz, Nat.le_refl _, Nat.le_refl _, Nat.le_refl _, Nat.le_refl _⟩
    ⟨W0.returns, hin, rfl, rfl⟩
  rw [lg_entry_eq]
  have hl := lv_entry ([Value.ref (sz + h)] : List Value) (n := maxL) (by show 1 ≤ maxL; exact hn)
  exact k s.heap [] _ hsz hP va_S.rf hl
theorem W_sized {p : Program} {l : Launch} {e : Env} {R : Room} {s : State} {m : MethodId} {args : Array Value} {below : List Frame} {meth : Method} {c : Code} {H : Heap} {locs : List Loc} {cells slots : Nat} {Q : State → Prop} {g : JFrame} (k : H.size ≤ s.heap.size + cells → W p l e R s m args below meth c H locs cells slots Q g) : W p l e R s m args below meth c H locs cells slots Q g :=
  fun T hT Y => k (by rw [← hT]; exact Y.same.2.2.1) T hT Y
theorem wbl_ge {D : va_G} {sz : Nat} {aC : Nat → ClassId} {B : List BS} {H : Heap} {q : Nat} {c : BS} (hP : va_P D vwCl (wbl sz aC B) H) (hq : B[q]? = some c) : sz + B.length ≤ H.size := by
  have hl := (List.getElem?_eq_some_iff.mp hq).1
  have := (hP _ _ (wbl_at (List.getElem?_eq_getElem (show B.length - 1 < B.length by omega)))).lt
  dsimp only at this
  omega
section BR
variable {X : KX} {cc : ByteArray} {nL : Nat} {own : String} {pc dp mc ms b0 : Nat} {lv : List (Nat × PV)} {st : List PV} {B B' : List BS} {nc ns : Nat}
theorem bk_aload_n (F : Bf X cc nL own dp mc ms b0) (hg : Ba X) {kk : Fin 4} {z : Nat} (d : decode cc pc = .ok (.aload_n kk, 1)) (q : Nat) (h : lv[q]? = some ((kk : Nat), pR z)) (k : Bk X nL (pc + 1) lv (pR z :: st) B nc ns) : Bk X nL pc lv st B nc ns := by
  obtain ⟨⟨p, l, e, R, s, m, args, below, meth, c, Q⟩, D, ad, aC, adV, A, sz, sz2⟩ := X
  obtain ⟨hx, hb, -⟩ := F
  have hg : ad = adB sz := hg
  subst hg
  intro H locs ls hZ hP hS hl
  exact lv_aload_n hx hb d rfl (lv_at hl q (lget_em h)) (k H locs ls hZ hP hS hl)
theorem bk_iload_n (F : Bf X cc nL own dp mc ms b0) {kk : Fin 4} {z : Int} (d : decode cc pc = .ok (.iload_n kk, 1)) (q : Nat) (h : lv[q]? = some ((kk : Nat), pI z)) (k : Bk X nL (pc + 1) lv (pI z :: st) B nc ns) : Bk X nL pc lv st B nc ns := by
  obtain ⟨⟨p, l, e, R, s, m, args, below, meth, c, Q⟩, D, ad, aC, adV, A, sz, sz2⟩ := X
  obtain ⟨hx, hb, -⟩ := F
  intro H locs ls hZ hP hS hl
  exact lv_iload_n hx hb d rfl (lv_at hl q (lget_em h)) (k H locs ls hZ hP hS hl)
theorem bk_iconst (F : Bf X cc nL own dp mc ms b0) {n : Int} (d : decode cc pc = .ok (.iconst n, 1)) (k : Bk X nL (pc + 1) lv (pI n :: st) B nc ns) : Bk X nL pc lv st B nc ns := by
  obtain ⟨⟨p, l, e, R, s, m, args, below, meth, c, Q⟩, D, ad, aC, adV, A, sz, sz2⟩ := X
  obtain ⟨hx, hb, -⟩ := F
  intro H locs ls hZ hP hS hl
  exact lv_iconst hx hb d rfl (k H locs ls hZ hP hS hl)
theorem bk_bipush (F : Bf X cc nL own dp mc ms b0) {n : Int} (d : decode cc pc = .ok (.bipush n, 2)) (hn : (Int8.ofInt n).toInt32 = Int32.ofInt n) (k : Bk X nL (pc + 2) lv (pI n :: st) B nc ns) : Bk X nL pc lv st B nc ns := by
  obtain ⟨⟨p, l, e, R, s, m, args, below, meth, c, Q⟩, D, ad, aC, adV, A, sz, sz2⟩ := X
  obtain ⟨hx, hb, -⟩ := F
  intro H locs ls hZ hP hS hl
  exact lv_bipush hx hb d hn (k H locs ls hZ hP hS hl)
theorem bk_sipush (F : Bf X cc nL own dp mc ms b0) {n : Int} (d : decode cc pc = .ok (.sipush n, 3)) (hn : (Int16.ofInt n).toInt32 = Int32.ofInt n) (k : Bk X nL (pc + 3) lv (pI n :: st) B nc ns) : Bk X nL pc lv st B nc ns := by
  obtain ⟨⟨p, l, e, R, s, m, args, below, meth, c, Q⟩, D, ad, aC, adV, A, sz, sz2⟩ := X
  obtain ⟨hx, hb, -⟩ := F
  intro H locs ls hZ hP hS hl
  exact lv_sipush hx hb d hn (k H locs ls hZ hP hS hl)
theorem bk_ldc (F : Bf X cc nL own dp mc ms b0) {n : Int} {v : Int32} {ix : Nat} (d : decode cc pc = .ok (.ldc ix, 2)) (hw : Cond.constant own ix v ∈ Tbl) (hn : v = Int32.ofInt n) (k : Bk X nL (pc + 2) lv (pI n :: st) B nc ns) : Bk X nL pc lv st B nc ns := by
  obtain ⟨⟨p, l, e, R, s, m, args, below, meth, c, Q⟩, D, ad, aC, adV, A, sz, sz2⟩ := X
  obtain ⟨hx, hb, hml, hown, hts, -⟩ := F
  subst hn
  intro H locs ls hZ hP hS hl
  exact lv_ldc hx hb hown (hts _ hw) d (k H locs ls hZ hP hS hl)
theorem bk_dup (F : Bf X cc nL own dp mc ms b0) {v : PV} (d : decode cc pc = .ok (.dup, 1)) (h2 : p2 v = false) (k : Bk X nL (pc + 1) lv (v :: v :: st) B nc ns) : Bk X nL pc lv (v :: st) B nc ns := by
  obtain ⟨⟨p, l, e, R, s, m, args, below, meth, c, Q⟩, D, ad, aC, adV, A, sz, sz2⟩ := X
  obtain ⟨hx, hb, -⟩ := F
  intro H locs ls hZ hP hS hl
  exact lv_dup hx hb d (em_cat1 h2) (k H locs ls hZ hP hS hl)
theorem bk_istore_n (F : Bf X cc nL own dp mc ms b0) {kk : Fin 4} {z : Int} {lv' : List (Nat × PV)} (d : decode cc pc = .ok (.istore_n kk, 1)) (hn : (kk : Nat) < nL) (h : lput lv kk (pI z) = lv') (k : Bk X nL (pc + 1) lv' st B nc ns) : Bk X nL pc lv (pI z :: st) B nc ns := by
  obtain ⟨⟨p, l, e, R, s, m, args, below, meth, c, Q⟩, D, ad, aC, adV, A, sz, sz2⟩ := X
  obtain ⟨hx, hb, -⟩ := F
  subst h
  intro H locs ls hZ hP hS hl
  exact lv_istore_n hx hb d rfl hl hn (lput_em ad lv kk (pI z)) (fun ls' hl' => k H locs ls' hZ hP hS hl')
theorem bk_astore_n (F : Bf X cc nL own dp mc ms b0) {kk : Fin 4} {z : Nat} {lv' : List (Nat × PV)} (d : decode cc pc = .ok (.astore_n kk, 1)) (hn : (kk : Nat) < nL) (h : lput lv kk (pR z) = lv') (hz : X.2.2.1 z = adB X.2.2.2.2.2.2.1 z) (k : Bk X nL (pc + 1) lv' st B nc ns) : Bk X nL pc lv (pR z :: st) B nc ns := by
  obtain ⟨⟨p, l, e, R, s, m, args, below, meth, c, Q⟩, D, ad, aC, adV, A, sz, sz2⟩ := X
  obtain ⟨hx, hb, -⟩ := F
  subst h
  have hz : ad z = adB sz z := hz
  intro H locs ls hZ hP hS hl
  have hl2 := lput_em ad lv kk (pR z)
  have ez : em ad (pR z) = em (adB sz) (pR z) := congrArg Value.ref hz
  rw [ez] at hl2
  exact lv_astore_n hx hb d rfl hl hn hl2 (fun ls' hl' => k H locs ls' hZ hP hS hl')
theorem bk_iinc (F : Bf X cc nL own dp mc ms b0) {i : Nat} {n z : Int} {lv' : List (Nat × PV)} (d : decode cc pc = .ok (.iinc i n, 3)) (q : Nat) (hq : lv[q]? = some (i, pI z)) (hn : i < nL) (h : lput lv i (pI (z + n)) = lv') (k : Bk X nL (pc + 3) lv' st B nc ns) : Bk X nL pc lv st B nc ns := by
  obtain ⟨⟨p, l, e, R, s, m, args, below, meth, c, Q⟩, D, ad, aC, adV, A, sz, sz2⟩ := X
  obtain ⟨hx, hb, -⟩ := F
  subst h
  intro H locs ls hZ hP hS hl
  exact lv_iinc hx hb d hl (lget_em hq) (Int32.ofInt_add z n).symm hn (lput_em ad lv i (pI (z + n))) (fun ls' hl' => k H locs ls' hZ hP hS hl')
theorem bk_goto (F : Bf X cc nL own dp mc ms b0) {off : Int} (tgt : Nat) (d : decode cc pc = .ok (.goto off, 3)) (ht : (pc : Int) + off = (tgt : Int)) (k : Bk X nL tgt lv st B nc ns) : Bk X nL pc lv st B nc ns := by
  obtain ⟨⟨p, l, e, R, s, m, args, below, meth, c, Q⟩, D, ad, aC, adV, A, sz, sz2⟩ := X
  obtain ⟨hx, hb, -⟩ := F
  intro H locs ls hZ hP hS hl
  exact lv_goto hx hb d ht (k H locs ls hZ hP hS hl)
theorem bk_icmp_ge (F : Bf X cc nL own dp mc ms b0) {x y off : Int} (tgt : Nat) (d : decode cc pc = .ok (.if_icmp .ge off, 3)) (ht : (pc : Int) + off = (tgt : Int)) (hx1 : i32 x) (hy1 : i32 y) (kt : y ≤ x → Bk X nL tgt lv st B nc ns) (kf : x < y → Bk X nL (pc + 3) lv st B nc ns) : Bk X nL pc lv (pI y :: pI x :: st) B nc ns := by
  obtain ⟨⟨p, l, e, R, s, m, args, below, meth, c, Q⟩, D, ad, aC, adV, A, sz, sz2⟩ := X
  obtain ⟨hx, hb, -⟩ := F
  intro H locs ls hZ hP hS hl
  exact lv_icmp_ge hx hb d ht (fun h => kt ((i32_le hy1 hx1).mp h) H locs ls hZ hP hS hl) (fun h => kf (Int.not_le.mp (fun z => h ((i32_le hy1 hx1).mpr z))) H locs ls hZ hP hS hl)
/-- Object's own constructor -/
theorem bk_obj (F : Bf X cc nL own dp mc ms b0) {ix z : Nat} (d : decode cc pc = .ok (.invokespecial ix, 3)) (hlk : Cond.methodLink own ix Lib.objectInit ∈ Tbl) (hi : Cond.instanceMethod Lib.objectInit ∈ Tbl) (hco : Cond.code Lib.objectInit ⟨#[0xb1]⟩ 1 none ∈ Tbl) (hd : 1 ≤ dp) (hs8 : pslots st ≤ 8) (k : Bk X nL (pc + 3) lv st B nc ns) : Bk X nL pc lv (pR z :: st) B nc ns := by
  obtain ⟨⟨p, l, e, R, s, m, args, below, meth, c, Q⟩, D, ad, aC, adV, A, sz, sz2⟩ := X
  obtain ⟨hx, hb, hml, hown, hts, hK, hN, hlocks, hA, hsz, hfr, hlo, hmc, hms⟩ := F
  intro H locs ls hZ hP hS hl
  refine W.objInit hx hb hown (hts _ hlk) (hts _ hi) (hts _ hco) (g := F0 m pc ls ((pR z :: st).map (em (adB sz)))) rfl (by rw [hml]; exact hl.1) rfl d (by omega) ?_ (W.eq (g2 := F0 m (pc + 3) ls (st.map (em (adB sz)))) rfl (k H locs ls hZ hP hS hl))
  have := em_map_category (adB sz) st
  show 2 * 0 + ((st.map (em (adB sz))).map fun v => v.category).sum + 12 ≤ R.locals
  omega
theorem bk_newarr (F : Bf X cc nL own dp mc ms b0) {ty : ArrayType} {t n : Nat} {z : Int} (d : decode cc pc = .ok (.newarray ty, 2)) (ht : ty = .int ∧ t = 0 ∨ ty = .byte ∧ t = 1 ∨ ty = .boolean ∧ t = 2 ∨ ty = .long ∧ t = 3) (hw : Cond.arrayClass (Op.newarray.typeOf ty) ∈ Tbl) (hz : z = (n : Int)) (hn : n < 40000) (hB : B' = B ++ [.inr (.inl (t, n))]) (hc : nc + 1 ≤ mc) (hs : ns + n ≤ ms) {q : Nat} (hq : q = B.length) (k : Bk X nL (pc + 2) lv (pR q :: st) B' (nc + 1) (ns + n)) : Bk X nL pc lv (pI z :: st) B nc ns := by
  obtain ⟨⟨p, l, e, R, s, m, args, below, meth, c, Q⟩, D, ad, aC, adV, A, sz, sz2⟩ := X
  obtain ⟨hx, hb, hml, hown, hts, hK, hN, hlocks, rfl, hsz, hfr, hlo, hmc, hms⟩ := F
  subst hz hB hq
  intro H locs ls hZ hP hS hl
  have hni : ¬ Int32.ofInt (n : Int) < 0 := by
    intro h
    have := (i32_lt (x := (n : Int)) (y := 0) ⟨by omega, by omega⟩ ⟨by decide, by decide⟩).mp h
    omega
  have hnn : (Int32.ofInt (n : Int)).toNatClampNeg = n := by rw [Int32.toNatClampNeg_ofInt_of_le (by omega) (by omega)]; omega
  refine va_newaK hx hb (hts _ hw) (g := F0 m pc ls ((pI (n : Int) :: st).map (em (adB sz)))) rfl d rfl hni hnn ?_ (by omega) (by omega) hZ (fun H' cA e1 z1 o1 hAr hNm => ?_)
  · rcases ht with ⟨rfl, rfl⟩ | ⟨rfl, rfl⟩ | ⟨rfl, rfl⟩ | ⟨rfl, rfl⟩
    · show n * 4 ≤ 536870912; omega
    · show n * 1 ≤ 536870912; omega
    · show n * 1 ≤ 536870912; omega
    · show n * 8 ≤ 536870912; omega
  have hcell : va_P D vwCl ([(.inr (.inl (t, n)) : BS)].mapIdx (fun k c => (sz + (B.length + k), bE (adB sz) aC c))) H' := by
    intro j x hx
    have hj : j < 1 := by
      have := (List.getElem?_eq_some_iff.mp hx).1
      rw [List.length_mapIdx] at this
      exact this
    rw [show j = 0 by omega] at hx
    rcases ht with ⟨rfl, rfl⟩ | ⟨rfl, rfl⟩ | ⟨rfl, rfl⟩ | ⟨rfl, rfl⟩
    · have hcA : cA = aC 0 := Option.some.inj (hNm.symm.trans (hK.2 0 _ rfl).2)
      subst hcA
      cases hx
      exact e1
    · have hcA : cA = aC 1 := Option.some.inj (hNm.symm.trans (hK.2 1 _ rfl).2)
      subst hcA
      cases hx
      exact e1
    · have hcA : cA = aC 2 := Option.some.inj (hNm.symm.trans (hK.2 2 _ rfl).2)
      subst hcA
      cases hx
      exact e1
    · have hcA : cA = aC 3 := Option.some.inj (hNm.symm.trans (hK.2 3 _ rfl).2)
      subst hcA
      cases hx
      exact e1
  have hP1 : va_P D vwCl (wbl sz aC (B ++ [.inr (.inl (t, n))])) H' := by
    rw [wbl_push]
    exact (wbl_kept hZ hP o1).app hcell
  exact k H' locs ls (by rw [z1, List.length_append]; rfl) hP1 ⟨by have := hS.1; omega, fun x h1 h2 => (o1 x (by have := hS.1; omega)).trans (hS.2.1 x h1 h2), hS.2.2⟩ hl
theorem bk_new (F : Bf X cc nL own dp mc ms b0) {ix ci N : Nat} {C : String} {T : u_T} {ty : Nat → FieldType} {fs : List PV} (d : decode cc pc = .ok (.new ix, 3)) (L : clOk ci C T N ty) (hcl : Cond.classLink own ix C ∈ Tbl) (hins : Cond.instantiable C N ∈ Tbl) (hini : Cond.initialized C ∈ Tbl) (hfs : ∀ ad : Nat → Nat, ∀ j, j < N → defaultValue (ty j) = vp_V (fs.map (em ad)) j) (hB : B' = B ++ [.inl (ci, fs)]) (hc : nc + 1 ≤ mc) (hs : ns + N ≤ ms) {q : Nat} (hq : q = B.length) (k : Bk X nL (pc + 3) lv (pR q :: st) B' (nc + 1) (ns + N)) : Bk X nL pc lv st B nc ns := by
  obtain ⟨⟨p, l, e, R, s, m, args, below, meth, c, Q⟩, D, ad, aC, adV, A, sz, sz2⟩ := X
  obtain ⟨hx, hb, hml, hown, hts, hK, hN, hlocks, rfl, hsz, hfr, hlo, hmc, hms⟩ := F
  obtain ⟨hcc, hin, hty, hnm⟩ := L
  subst hB hq
  intro H locs ls hZ hP hS hl
  have hKn := hK.1 ci _ hcc
  refine W.newcK hx hb hown (hts _ hcl) (hts _ hins) (hts _ hini) (g := F0 m pc ls (st.map (em (adB sz)))) rfl d (by omega) (by omega) hKn.2.1 hZ (fun H1 kC hkC e1 z1 o1 => ?_)
  have hcell : va_P D vwCl ([(.inl (ci, fs) : BS)].mapIdx (fun k c => (sz + (B.length + k), bE (adB sz) aC c))) H1 := by
    intro j x hx2
    have hj : j < 1 := by
      have := (List.getElem?_eq_some_iff.mp hx2).1
      rw [List.length_mapIdx] at this
      exact this
    rw [show j = 0 by omega] at hx2
    cases hx2
    exact ⟨_, hcc, (u_born ty hts hin hKn hkC e1 hty).to (hfs (adB sz))⟩
  have hP1 : va_P D vwCl (wbl sz aC (B ++ [.inl (ci, fs)])) H1 := by
    rw [wbl_push]
    exact (wbl_kept hZ hP o1).app hcell
  exact k H1 locs ls (by rw [z1, List.length_append]; rfl) hP1 ⟨by have := hS.1; omega, fun x h1 h2 => (o1 x (by have := hS.1; omega)).trans (hS.2.1 x h1 h2), hS.2.2⟩ hl
theorem bk_get (F : Bf X cc nL own dp mc ms b0) {ix ci j q : Nat} {C : String} {T : u_T} {N : Nat} {ty : Nat → FieldType} {fs : List PV} {v : PV} (d : decode cc pc = .ok (.getfield ix, 3)) (L : flOk own ix ci j C T N ty) (hq : B[q]? = some (.inl (ci, fs))) (hj : fs[j]? = some v) (k : Bk X nL (pc + 3) lv (v :: st) B nc ns) : Bk X nL pc lv (pR q :: st) B nc ns := by
  obtain ⟨⟨p, l, e, R, s, m, args, below, meth, c, Q⟩, D, ad, aC, adV, A, sz, sz2⟩ := X
  obtain ⟨hx, hb, hml, hown, hts, hK, -⟩ := F
  obtain ⟨⟨hc, hin, hty, hnm⟩, hjN, hlink⟩ := L
  intro H locs ls hZ hP hS hl
  exact va_get hx hb hts hin hown hK hP q (wbl_at hq) hc j hjN (hts _ hlink) (fun _ h => h) (v := em (adB sz) v) (by show (fs.map (em (adB sz)))[j]? = _; rw [List.getElem?_map, hj]; rfl) d (k H locs ls hZ hP hS hl)
theorem bk_putF (F : Bf X cc nL own dp mc ms b0) {E : List BS} {mc' ms' : Nat} (G : Bm X E mc' ms') {ix ci j q r : Nat} {C : String} {T : u_T} {N : Nat} {ty : Nat → FieldType} {fs : List PV} (d : decode cc pc = .ok (.putfield ix, 3)) (L : flOk own ix ci j C T N ty) (hq : B[q]? = some (.inl (ci, fs))) (hj : j < fs.length) (hfin : (T j).2.2.2 = true) (hdecl : (T j).1 = own) (hti : (∃ n, ty j = .object n) ∨ ∃ t, ty j = .array t) (hB : B' = B.set q (.inl (ci, fs.set j (pR r)))) (hcnt : nc + b0 = B.length) (k : Bk X nL (pc + 3) lv st B' nc ns) : Bk X nL pc lv (pR r :: pR q :: st) B nc ns := by
  obtain ⟨⟨p, l, e, R, s, m, args, below, meth, c, Q⟩, D, ad, aC, adV, A, sz, sz2⟩ := X
  obtain ⟨hx, hb, hml, hown, hts, hK, hN, hlocks, rfl, hsz, hfr, hlo, hmc, hms⟩ := F
  obtain ⟨⟨hc, hin, hty, hnm⟩, hjN, hlink⟩ := L
  obtain ⟨g1, g2, g3, g4⟩ := G
  subst hB
  intro H locs ls hZ hP hS hl
  refine va_putF hx hb hts hin ty hty hnm hown hK hP (wbl_D (fun k => Nat.le_add_right _ _)) hS q (wbl_at hq) hc j hjN (hts _ hlink) (fun _ h => h) hfin g2 hdecl (ty := ty j) (v := .ref (sz + r)) (hty j hjN) ?_ ?_ (by show j < (fs.map (em (adB sz))).length; rw [List.length_map]; exact hj) d (fun H1 locs1 h1 h2 h3 => ?_)
  · rcases hti with ⟨n, e⟩ | ⟨t, e⟩ <;> rw [e] <;> rfl
  · rcases hti with ⟨n, e⟩ | ⟨t, e⟩ <;> rw [e] <;> rfl
  have ec : (.inr (ci, (fs.map (em (adB sz))).set j (.ref (sz + r))) : va_E) = bE (adB sz) aC (.inl (ci, fs.set j (pR r))) := by
    show _ = Sum.inr (ci, (fs.set j (pR r)).map (em (adB sz)))
    rw [List.map_set]
    rfl
  have h1 : va_P D vwCl (wbl sz aC (B.set q (.inl (ci, fs.set j (pR r))))) H1 := by
    rw [← wbl_set (c := .inl (ci, fs.set j (pR r))) hq, ← ec]
    exact h1
  refine W_sized (fun hle => k H1 locs1 ls ?_ h1 h3 hl)
  have hge := wbl_ge h1 (q := q) (c := .inl (ci, fs.set j (pR r))) (by rw [List.getElem?_set_self (List.getElem?_eq_some_iff.mp hq).1])
  rw [List.length_set] at hge ⊢
  omega
theorem bk_putI (F : Bf X cc nL own dp mc ms b0) {ix ci j q : Nat} {z : Int} {C : String} {T : u_T} {N : Nat} {ty : Nat → FieldType} {fs : List PV} (d : decode cc pc = .ok (.putfield ix, 3)) (L : flOk own ix ci j C T N ty) (hq : B[q]? = some (.inl (ci, fs))) (hj : j < fs.length) (hfin : (T j).2.2.2 = false) (hti : ty j = .int) (hB : B' = B.set q (.inl (ci, fs.set j (pI z)))) (hcnt : nc + b0 = B.length) (k : Bk X nL (pc + 3) lv st B' nc ns) : Bk X nL pc lv (pI z :: pR q :: st) B nc ns := by
  obtain ⟨⟨p, l, e, R, s, m, args, below, meth, c, Q⟩, D, ad, aC, adV, A, sz, sz2⟩ := X
  obtain ⟨hx, hb, hml, hown, hts, hK, hN, hlocks, rfl, hsz, hfr, hlo, hmc, hms⟩ := F
  obtain ⟨⟨hc, hin, hty, hnm⟩, hjN, hlink⟩ := L
  subst hB
  intro H locs ls hZ hP hS hl
  refine va_put hx hb hts hin ty hty hnm hown hK hP (wbl_D (fun k => Nat.le_add_right _ _)) hS q (wbl_at hq) hc j hjN (hts _ hlink) (fun _ h => h) hfin (ty := .int) (v := .int (Int32.ofInt z)) (by rw [hty j hjN, hti]) rfl rfl (by show j < (fs.map (em (adB sz))).length; rw [List.length_map]; exact hj) d (fun H1 locs1 h1 h2 h3 => ?_)
  have ec : (.inr (ci, (fs.map (em (adB sz))).set j (.int (Int32.ofInt z))) : va_E) = bE (adB sz) aC (.inl (ci, fs.set j (pI z))) := by
    show _ = Sum.inr (ci, (fs.set j (pI z)).map (em (adB sz)))
    rw [List.map_set]
    rfl
  have h1 : va_P D vwCl (wbl sz aC (B.set q (.inl (ci, fs.set j (pI z))))) H1 := by
    rw [← wbl_set (c := .inl (ci, fs.set j (pI z))) hq, ← ec]
    exact h1
  refine W_sized (fun hle => k H1 locs1 ls ?_ h1 h3 hl)
  have hge := wbl_ge h1 (q := q) (c := .inl (ci, fs.set j (pI z))) (by rw [List.getElem?_set_self (List.getElem?_eq_some_iff.mp hq).1])
  rw [List.length_set] at hge ⊢
  omega
end BR
section BC
variable {X : KX} {cc : ByteArray} {nL : Nat} {own : String} {pc dp mc ms b0 : Nat} {lv : List (Nat × PV)} {st : List PV} {B B' : List BS} {nc ns : Nat}
/-- a constructor's end -/
theorem bk_ret (F : Bf X cc nL own dp mc ms b0) (G : Bm X B mc ms) (d : decode cc pc = .ok (.return_, 1)) : Bk X nL pc lv [] B mc ms := by
  obtain ⟨⟨p, l, e, R, s, m, args, below, meth, c, Q⟩, D, ad, aC, adV, A, sz, sz2⟩ := X
  obtain ⟨hx, hb, hml, hown, hts, hK, hN, hlocks, rfl, hsz, hfr, hlo, hmc, hms⟩ := F
  obtain ⟨g1, g2, rfl, g4⟩ := G
  intro H locs ls hZ hP hS hl
  exact W.vret hx hb g1 (fun t ht hW => ⟨⟨(), rfl, trivial, by rw [ht]; exact hZ, by rw [ht]; exact hP⟩, hS.F ht⟩) (fun q hq => hS.2.2 q hq) d
/-- behind a constructor's call -/
theorem bk_after {p : Program} {l : Launch} {e : Env} {R : Room} {s : State} {m : MethodId} {args : Array Value} {below : List Frame} {meth : Method} {c : Code} {Q : State → Prop} {D : va_G} {ad adV : Nat → Nat} {aC : Nat → ClassId} {sz sz2 mc' ms' : Nat} {H : Heap} {locs : List Loc} {ls : Array Slot} {st0 : List Value} {av : Array Value} (hS : va_S (fun q => sz ≤ q) s.heap H locs) (hl : lv_has ls nL (lv.map fun q => (q.1, em ad q.2)))
    (hr : va_Run p l e R s m args below meth c H locs nc ns mc' ms' (F0 m pc ls st0) (st.map (em (adB sz))) (Qb D aC sz B' av) (fun q => sz ≤ q))
    (k : Bk ((p, l, e, R, s, m, args, below, meth, c, Q), (D, ad, aC, adV, (fun q => sz ≤ q), sz, sz2)) nL (pc + 3) lv st B' (nc + mc') (ns + ms')) : W p l e R s m args below meth c H locs nc ns Q (F0 m pc ls st0) :=
  va_callv hr hS (fun _ _ h => h) (fun _ h => h) (fun _ t H1 locs1 ht _ _ hB _ _ hS1 => k H1 locs1 ls (by rw [← ht]; exact hB.1) (by rw [← ht]; exact hB.2) hS1 hl)
/-- a nest mate's constructor called -/
theorem bk_call (F : Bf X cc nL own dp mc ms b0) {ix q maxL dp' mc' ms' : Nat} {y : MethodName} {bytes : ByteArray} {host : String} (d : decode cc pc = .ok (.invokespecial ix, 3)) (M : mtOk y bytes maxL none 0) (hi : Cond.instanceMethod y ∈ Tbl) (hlk : Cond.methodLinkNest own ix y host ∈ nestB) (hy : y.name = "<init>") (hd : dp' < dp) (hc : nc + mc' ≤ mc) (hs : ns + ms' ≤ ms) (hst : pslots st ≤ 8) (h : BRet X.1.2.1 y bytes maxL dp' mc' ms' B q B') (k : Bk X nL (pc + 3) lv st B' (nc + mc') (ns + ms')) : Bk X nL pc lv (pR q :: st) B nc ns := by
  obtain ⟨⟨p, l, e, R, s, m, args, below, meth, c, Q⟩, D, ad, aC, adV, A, sz, sz2⟩ := X
  obtain ⟨hx, hb, hml, hown, hts, hK, hN, hlocks, rfl, hsz, hfr, hlo, hmc, hms⟩ := F
  obtain ⟨hcl, hco, hini, hL⟩ := M
  intro H locs ls hZ hP hS hl
  refine bk_after (Q := Q) (ad := ad) (adV := adV) (sz2 := sz2) hS hl (va_runIN (host := host) (index := ix) (n := 0) (b := sz + q) (As := []) ⟨hx, hb, hml, hown, hts⟩ (h D aC sz) ⟨va_cnB 0 hts (tb_sub (wsO_in hco)) rfl rfl rfl (hN.1 _ hlk) (hts _ hini) hcl ⟨?_, ?_⟩, hy, hts _ hi⟩ ⟨BW.blind _, fun U hU hW => ⟨rfl, by rw [hU]; exact hZ, by rw [hU]; exact hP, va_K.moved hW.alike hK, hN.warm hW⟩⟩ rfl rfl hl.1 rfl (lv_room (by rw [em_map_category]; exact hst)) d ⟨by omega, by omega⟩) k
  · show dp' + 1 ≤ R.frames
    omega
  · show 8 + (maxL + 11) + dp' * 100 ≤ R.locals
    omega
/-- a constructor of another's called -/
theorem bk_callP (F : Bf X cc nL own dp mc ms b0) {ix q maxL dp' mc' ms' : Nat} {y : MethodName} {bytes : ByteArray} (d : decode cc pc = .ok (.invokespecial ix, 3)) (M : mtOk y bytes maxL none 0) (hi : Cond.instanceMethod y ∈ Tbl) (hlk : Cond.methodLink own ix y ∈ Tbl) (hy : y.name = "<init>") (hd : dp' < dp) (hc : nc + mc' ≤ mc) (hs : ns + ms' ≤ ms) (hst : pslots st ≤ 8) (h : BRet X.1.2.1 y bytes maxL dp' mc' ms' B q B') (k : Bk X nL (pc + 3) lv st B' (nc + mc') (ns + ms')) : Bk X nL pc lv (pR q :: st) B nc ns := by
  obtain ⟨⟨p, l, e, R, s, m, args, below, meth, c, Q⟩, D, ad, aC, adV, A, sz, sz2⟩ := X
  obtain ⟨hx, hb, hml, hown, hts, hK, hN, hlocks, rfl, hsz, hfr, hlo, hmc, hms⟩ := F
  obtain ⟨hcl, hco, hini, hL⟩ := M
  intro H locs ls hZ hP hS hl
  refine bk_after (Q := Q) (ad := ad) (adV := adV) (sz2 := sz2) hS hl (va_runI (index := ix) (n := 0) (b := sz + q) (As := []) ⟨hx, hb, hml, hown, hts⟩ (h D aC sz) (cwI 0 hts (tb_sub (wsO_in hco)) rfl rfl rfl (hts _ hini) (hts _ hlk) (hts _ hi) hy hcl ⟨?_, ?_⟩) ⟨BW.blind _, fun U hU hW => ⟨rfl, by rw [hU]; exact hZ, by rw [hU]; exact hP, va_K.moved hW.alike hK, hN.warm hW⟩⟩ rfl rfl hl.1 rfl (lv_room (by rw [em_map_category]; exact hst)) d ⟨by omega, by omega⟩) k
  · show dp' + 1 ≤ R.frames
    omega
  · show 8 + (maxL + 11) + dp' * 100 ≤ R.locals
    omega
/-- a row for States -/
theorem bk_anew (F : Bf X cc nL own dp mc ms b0) {ix n : Nat} {z : Int} (d : decode cc pc = .ok (.anewarray ix, 3)) (hcl : Cond.classLink own ix "TillFloat$State" ∈ Tbl) (hz : z = (n : Int)) (hn : n < 40000) (hB : B' = B ++ [.inr (.inr (4, List.replicate n none))]) (hc : nc + 1 ≤ mc) (hs : ns + n ≤ ms) {q : Nat} (hq : q = B.length) (k : Bk X nL (pc + 3) lv (pR q :: st) B' (nc + 1) (ns + n)) : Bk X nL pc lv (pI z :: st) B nc ns := by
  obtain ⟨⟨p, l, e, R, s, m, args, below, meth, c, Q⟩, D, ad, aC, adV, A, sz, sz2⟩ := X
  obtain ⟨hx, hb, hml, hown, hts, hK, hN, hlocks, rfl, hsz, hfr, hlo, hmc, hms⟩ := F
  subst hz hB hq
  intro H locs ls hZ hP hS hl
  have hni : ¬ Int32.ofInt (n : Int) < 0 := by
    intro h
    have := (i32_lt (x := (n : Int)) (y := 0) ⟨by omega, by omega⟩ ⟨by decide, by decide⟩).mp h
    omega
  have hnn : (Int32.ofInt (n : Int)).toNatClampNeg = n := by rw [Int32.toNatClampNeg_ofInt_of_le (by omega) (by omega)]; omega
  refine W.anew hx hb hown (hts _ hcl) (va_AO.use hN.2.1) (g := F0 m pc ls ((pI (n : Int) :: st).map (em (adB sz)))) rfl d rfl hni (by rw [hnn]; omega) (by omega) (by rw [hnn]; omega) (fun cA kA comp f1 f2 f3 f4 => ?_)
  rw [hnn]
  generalize hH1 : H.push ({ cls := cA, slots := Array.replicate n .null, vm := .none } : Cell) = H1
  have z1 : H1.size = H.size + 1 := by rw [← hH1, Array.size_push]
  have e1 : H1[H.size]? = some (arrV cA n (fun _ => .null)) := by rw [← hH1, Array.getElem?_push_size, ← arrV_new]
  have o1 : ∀ q : Nat, q < H.size → H1[q]? = H[q]? := fun q hq => by rw [← hH1, Array.getElem?_push, if_neg (Nat.ne_of_lt hq)]
  obtain ⟨kA2, comp2, y1, y2, y3, y4⟩ := (hK.2 4 _ rfl).2
  have hcA : cA = aC 4 := Option.some.inj (f1.symm.trans y4)
  have hcell : va_P D vwCl ([(.inr (.inr (4, List.replicate n none)) : BS)].mapIdx (fun k c => (sz + (B.length + k), bE (adB sz) aC c))) H1 := by
    intro j x hx2
    have hj : j < 1 := by
      have := (List.getElem?_eq_some_iff.mp hx2).1
      rw [List.length_mapIdx] at this
      exact this
    rw [show j = 0 by omega] at hx2
    cases hx2
    show H1[sz + (B.length + 0)]? = some (vp_cell (aC 4) ((List.replicate n (none : Option Nat)).length, .inr (.inr (.inr (.inr fun j => ((List.replicate n none).getD j none).map (adB sz))))))
    rw [show sz + (B.length + 0) = H.size by omega, e1, List.length_replicate, vp_cell_q, hcA]
    have ef : (fun _ : Nat => Value.null) = (fun j => va_rf (((List.replicate n (none : Option Nat)).getD j none).map (adB sz))) := funext fun j => by
      have : (List.replicate n (none : Option Nat)).getD j none = none := by
        rw [List.getD_eq_getElem?_getD, List.getElem?_replicate]
        split <;> rfl
      rw [this]
      rfl
    rw [ef]
  have hP1 : va_P D vwCl (wbl sz aC (B ++ [.inr (.inr (4, List.replicate n none))])) H1 := by
    rw [wbl_push]
    exact (wbl_kept hZ hP (fun q hq => o1 q (by omega))).app hcell
  refine W.eq (g2 := F0 m (pc + 3) ls ((pR B.length :: st).map (em (adB sz)))) ?_ (k H1 locs ls (by rw [z1, List.length_append]; show H.size + 1 = sz + (B.length + 1); omega) hP1 ⟨by have := hS.1; omega, fun x h1 h2 => (o1 x (by have := hS.1; omega)).trans (hS.2.1 x h1 h2), hS.2.2⟩ hl)
  show _ = F0 m (pc + 3) ls (Value.ref (sz + B.length) :: st.map (em (adB sz)))
  rw [← hZ]
/-- a State put into a row -/
theorem bk_aast (F : Bf X cc nL own dp mc ms b0) {q r i : Nat} {z : Int} {rs : List (Option Nat)} {fs : List PV} (d : decode cc pc = .ok (.aastore, 1)) (hq : B[q]? = some (.inr (.inr (4, rs)))) (hr : B[r]? = some (.inl (6, fs))) (hz : z = (i : Int)) (hi : i < rs.length) (hL : rs.length < 2 ^ 31) (hB : B' = B.set q (.inr (.inr (4, rs.set i (some r))))) (hcnt : nc + b0 = B.length) (k : Bk X nL (pc + 1) lv st B' nc ns) : Bk X nL pc lv (pR r :: pI z :: pR q :: st) B nc ns := by
  obtain ⟨⟨p, l, e, R, s, m, args, below, meth, c, Q⟩, D, ad, aC, adV, A, sz, sz2⟩ := X
  obtain ⟨hx, hb, hml, hown, hts, hK, hN, hlocks, rfl, hsz, hfr, hlo, hmc, hms⟩ := F
  subst hz hB
  intro H locs ls hZ hP hS hl
  obtain ⟨i1, i2⟩ := i32_idx (z := (i : Int)) (n := rs.length) (by omega) (by omega) hL
  refine va_astq hx hb hK hP (wbl_D (fun k => Nat.le_add_right _ _)) hS q 4 r 6 (r := (RX6, TX6, 12)) (wbl_at hq) rfl (wbl_at hr) rfl i1 d (fun H1 locs1 h1 h2 h3 => ?_)
  have ec : (.inl (aC 4, rs.length, .inr (.inr (.inr (.inr (va_up (fun j => (rs.getD j none).map (adB sz)) (Int32.ofInt (i : Int)).toNatClampNeg (some (sz + r))))))) : va_E) = bE (adB sz) aC (.inr (.inr (4, rs.set i (some r)))) := by
    show _ = Sum.inl (aC 4, (rs.set i (some r)).length, Sum.inr (Sum.inr (Sum.inr (Sum.inr fun j => ((rs.set i (some r)).getD j none).map (adB sz)))))
    rw [List.length_set, i2]
    have ef : va_up (fun j => (rs.getD j none).map (adB sz)) ((i : Int).toNat) (some (sz + r)) = (fun j => ((rs.set i (some r)).getD j none).map (adB sz)) := funext fun j => by
      rw [List.getD_eq_getElem?_getD, List.getElem?_set]
      unfold va_up
      by_cases e : j = i
      · subst e
        rw [if_pos (by omega), if_pos rfl, if_pos hi]
        rfl
      · rw [if_neg (by omega), if_neg (fun z => e z.symm)]
        show (rs.getD j none).map (adB sz) = _
        rw [List.getD_eq_getElem?_getD]
    rw [ef]
  have h1 : va_P D vwCl (wbl sz aC (B.set q (.inr (.inr (4, rs.set i (some r)))))) H1 := by
    rw [← wbl_set (c := .inr (.inr (4, rs.set i (some r)))) hq, ← ec]
    exact h1
  refine W_sized (fun hle => k H1 locs1 ls ?_ h1 h3 hl)
  have hge := wbl_ge h1 (q := q) (c := .inr (.inr (4, rs.set i (some r)))) (by rw [List.getElem?_set_self (List.getElem?_eq_some_iff.mp hq).1])
  rw [List.length_set] at hge ⊢
  omega
end BC
