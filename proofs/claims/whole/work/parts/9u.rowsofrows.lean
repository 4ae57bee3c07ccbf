/-! a row of rows of numbers is made: one cell, and as many behind it -/
/-- the outer row when i of its rows have been made -/
def rrO (cO : ClassId) (N h i : Nat) : Cell := arrV cO N (fun j => if j < i then .ref (h + 1 + j) else .null)
theorem rrO_s (cO : ClassId) (N h i : Nat) : (rrO cO N h i).setSlot i (.ref (h + 1 + i)) = rrO cO N h (i + 1) := by
  unfold rrO
  rw [arrV_store]
  congr 1
  funext j
  unfold updV
  by_cases q : j = i
  · rw [if_pos q, if_pos (by omega), q]
  · rw [if_neg q]
    show (if j < i then Value.ref (h + 1 + j) else Value.null) = _
    by_cases q2 : j < i
    · rw [if_pos q2, if_pos (by omega)]
    · rw [if_neg q2, if_neg (by omega)]
/-- how far it has come: i rows made -/
def rrI (H0 : Heap) (cO cI : ClassId) (N M i : Nat) (T : State) : Prop :=
  T.heap.size = H0.size + 1 + i ∧ T.heap[H0.size]? = some (rrO cO N H0.size i) ∧ (∀ j, j < i → T.heap[H0.size + 1 + j]? = some (arrV cI M (fun _ => .int 0))) ∧ ∀ q, q < H0.size → T.heap[q]? = H0[q]?
section RR
variable {p : Program} {l : Launch} {e : Env} {R : Room} {s : State} {m : MethodId} {args : Array Value} {below : List Frame} {meth : Method} {c : Code} {T : State} {locs : List Loc} {cells slots : Nat}
/-- one row more -/
theorem rr_next {H0 : Heap} {cO cI : ClassId} {N M i : Nat} (Y : Stand p l e R s m args below meth c T locs cells slots) (hi : rrI H0 cO cI N M i T) (hN : i < N) : ∃ T2, T2 = (T.pushCell (arrV cI M (fun _ => .int 0))).setCell H0.size ((rrO cO N H0.size i).setSlot i (.ref (H0.size + 1 + i))) ∧ Stand p l e R s m args below meth c T2 (locs ++ [⟨H0.size, i⟩]) (cells + 1) (slots + M) ∧ rrI H0 cO cI N M (i + 1) T2 := by
  obtain ⟨h1, h2, h3, h4⟩ := hi
  have hlt : H0.size < T.heap.size := by omega
  have hp : ∀ q, q < T.heap.size → (T.pushCell (arrV cI M (fun _ => .int 0))).heap[q]? = T.heap[q]? := fun q hq => State.heap_pushCell_of_lt _ _ hq
  have hn : (T.pushCell (arrV cI M (fun _ => .int 0))).heap[T.heap.size]? = some (arrV cI M (fun _ => .int 0)) := State.heap_pushCell_size _ _
  have hc : (T.pushCell (arrV cI M (fun _ => .int 0))).heap[H0.size]? = some (rrO cO N H0.size i) := by rw [hp _ hlt]; exact h2
  have Y2 := (Y.pushed (arrV cI M (fun _ => .int 0))).stored hc i (.ref (H0.size + 1 + i))
  rw [arrV_size] at Y2
  refine ⟨_, rfl, Y2, ?_, ?_, fun j hj => ?_, fun q hq => ?_⟩
  · rw [size_setCell]
    show (T.heap.push _).size = _
    rw [Array.size_push]
    omega
  · rw [State.heap_setCell_self hc, rrO_s]
  · rw [State.heap_setCell_other (show H0.size ≠ H0.size + 1 + j by omega)]
    by_cases q : j < i
    · rw [hp _ (by omega)]
      exact h3 j q
    · rw [show H0.size + 1 + j = T.heap.size by omega]
      exact hn
  · rw [State.heap_setCell_other (show H0.size ≠ q by omega), hp _ (by omega)]
    exact h4 q hq
/-- the machine behind i rows -/
def rrT (T : State) (cO cI : ClassId) (N M : Nat) : Nat → State
  | 0 => T.pushCell (arrV cO N (fun _ => .null))
  | i + 1 => ((rrT T cO cI N M i).pushCell (arrV cI M (fun _ => .int 0))).setCell T.heap.size ((rrO cO N T.heap.size i).setSlot i (.ref (T.heap.size + 1 + i)))
theorem rrT_top (T : State) (g : JFrame) (cO cI : ClassId) (N M : Nat) : ∀ i, rrT (T.setTop g) cO cI N M i = (rrT T cO cI N M i).setTop g
  | 0 => rfl
  | i + 1 => by
    show ((rrT (T.setTop g) cO cI N M i).pushCell _).setCell _ _ = _
    rw [rrT_top T g cO cI N M i]
    rfl
theorem rr_all {cO cI : ClassId} {N M : Nat} (Y : Stand p l e R s m args below meth c T locs cells slots) : ∀ i, i ≤ N → ∃ locs', (∀ q ∈ locs', q.base = T.heap.size) ∧ Stand p l e R s m args below meth c (rrT T cO cI N M i) (locs ++ locs') (cells + 1 + i) (slots + N + i * M) ∧ rrI T.heap cO cI N M i (rrT T cO cI N M i)
  | 0, _ => by
    have Y2 := Y.pushed (arrV cO N (fun _ => .null))
    rw [arrV_size] at Y2
    refine ⟨[], fun q hq => (by cases hq), ?_, ?_, ?_, fun j hj => (by omega), fun q hq => State.heap_pushCell_of_lt _ _ hq⟩
    · rw [List.append_nil, Nat.zero_mul]
      exact Y2
    · show (T.heap.push _).size = _
      rw [Array.size_push]
    · show (T.pushCell _).heap[T.heap.size]? = _
      rw [State.heap_pushCell_size]
      unfold rrO
      congr 2
  | i + 1, hi => by
    obtain ⟨L, hL, Yi, hI⟩ := rr_all Y i (Nat.le_of_lt hi)
    obtain ⟨T2, e2, Y2, hI2⟩ := rr_next Yi hI (by omega)
    subst e2
    refine ⟨L ++ [⟨T.heap.size, i⟩], fun q hq => ?_, ?_, hI2⟩
    · rcases List.mem_append.mp hq with h | h
      · exact hL q h
      · rw [List.mem_singleton.mp h]
    · rw [← List.append_assoc, Nat.succ_mul, show slots + N + (i * M + M) = slots + N + i * M + M by omega]
      exact Y2
theorem wp_rows {E : CtlPost} {dn : Bool} {acts : List Action} {g : JFrame} {cO cI cE : ClassId} {kO kI : Class} {N M : Nat} {n k : Int32} (Y : Stand p l e R s m args below meth c T locs cells slots) (hkO : s.vm.classes[cO]? = some kO) (hO : kO.kind = .array cI (.array .int)) (hkI : s.vm.classes[cI]? = some kI) (hI : kI.kind = .array cE .int)
    (n1 : ¬ n < 0) (n2 : n.toNatClampNeg = N) (m1 : ¬ k < 0) (m2 : k.toNatClampNeg = M) (lN : ¬ N > e.platform.arrayLengthLimit ∧ ∀ ty, ¬ N * componentBytes ty > e.platform.maxHeapBytes) (lM : ¬ M > e.platform.arrayLengthLimit ∧ ∀ ty, ¬ M * componentBytes ty > e.platform.maxHeapBytes) (hc : cells + (1 + N) ≤ R.cells) (hs : slots + (N + N * M) ≤ R.slots) {Z : Addr → Pre} (hq : ∀ d' acts', Z T.heap.size d' acts' ((rrT T cO cI N M N).setTop g)) : wp (Op.multianewarray.make cO [n, k]) Z E e dn acts (T.setTop g) := by
  have kin : ∀ {U : State} {Lc : List Loc} {a b : Nat}, Stand p l e R s m args below meth c U Lc a b → (∃ k1, U.vm.classes[cO]? = some k1 ∧ k1.kind = .array cI (.array .int)) ∧ ∃ k1, U.vm.classes[cI]? = some k1 ∧ k1.kind = .array cE .int := fun Yu => by
    obtain ⟨k1, h1, e1⟩ := Yu.warmed.alike.2.2 _ _ hkO
    obtain ⟨k2, h2, e2⟩ := Yu.warmed.alike.2.2 _ _ hkI
    exact ⟨⟨k1, h1, by rw [e1]; exact hO⟩, k2, h2, by rw [e2]; exact hI⟩
  obtain ⟨⟨kA, hkA, hA⟩, -⟩ := kin Y
  have hf : ([k].find? (· < 0)) = none := by simp [m1]
  obtain ⟨q1, q2⟩ := Y.roomAbove (a := 1) (b := N) (by omega) (by omega)
  rw [Op.multianewarray.make]
  simp only [wp_bind', W.ite, n1, if_false, wp_pure', W.theClass, State.vm_setTop, hkA, hA, Option.some.injEq, exists_eq_left']
  refine W.newArray_of (k := kA) hkA hA (by rw [n2]; exact lN.1) (by rw [n2]; exact lN.2 _) (by show T.heap.size < _; omega) (by show T.slotsUsed + _ ≤ _; rw [n2]; exact q2) rfl (fun acts1 => ?_)
  simp only [hf]
  rw [ite_self, wp_bind', Std.Legacy.Range.forIn_eq_forIn_range', show ([:n.toNatClampNeg] : Std.Legacy.Range).size = N by simp [Std.Legacy.Range.size, n2], n2]
  have e0 : (T.setTop g).pushCell { cls := cO, slots := Array.replicate N Value.null } = (rrT T cO cI N M 0).setTop g := by
    show _ = (T.pushCell (arrV cO N (fun _ => .null))).setTop g
    rw [← arrV_new]
    rfl
  rw [e0]
  refine wp_forIn_inv (fun rest S => ∃ i, i ≤ N ∧ rest = List.range' i (N - i) ∧ S = (rrT T cO cI N M i).setTop g) _ _ ⟨0, Nat.zero_le _, rfl, rfl⟩ ?_ ?_
  · rintro x rest S d1 acts2 Q1 ⟨i, hi, hl, rfl⟩ go
    have hlt : i < N := by
      by_cases h : i < N
      · exact h
      · rw [show N - i = 0 by omega] at hl
        cases hl
    rw [show N - i = (N - (i + 1)) + 1 by omega, List.range'_succ] at hl
    obtain ⟨rfl, rfl⟩ := List.cons.inj hl
    obtain ⟨L, hL, Yx, hR⟩ := rr_all (cO := cO) (cI := cI) (N := N) (M := M) Y x hi
    obtain ⟨-, kB, hkB, hB⟩ := kin Yx
    obtain ⟨⟨kA2, hkA2, hA2⟩, -⟩ := kin Yx
    have hmul : x * M + M ≤ N * M := by
      have := Nat.mul_le_mul_right M (show x + 1 ≤ N from hlt)
      rw [Nat.succ_mul] at this
      exact this
    obtain ⟨w1, w2⟩ := Yx.roomAbove (a := 1) (b := M) (by omega) (by omega)
    simp only [wp_bind']
    rw [Op.multianewarray.make]
    simp only [wp_bind', W.ite, m1, if_false, wp_pure', W.theClass, State.vm_setTop, hkB, hB, Option.some.injEq, exists_eq_left']
    refine W.newArray_of (k := kB) hkB hB (by rw [m2]; exact lM.1) (by rw [m2]; exact lM.2 _) (by show (rrT T cO cI N M x).heap.size < _; omega) (by show (rrT T cO cI N M x).slotsUsed + _ ≤ _; rw [m2]; exact w2) rfl (fun acts3 => ?_)
    have e1 : ((rrT T cO cI N M x).setTop g).pushCell { cls := cI, slots := Array.replicate k.toNatClampNeg (defaultValue FieldType.int) } = ((rrT T cO cI N M x).pushCell (arrV cI M (fun _ => .int 0))).setTop g := by
      rw [m2, ← arrV_new]
      rfl
    rw [e1]
    simp only [wp_bind', W.writeLoc, wp_pure', State.heap_setTop]
    refine ⟨rrO cO N T.heap.size x, ?_, (by intro h; cases h), (by unfold rrO; rw [arrV_size]; exact hlt), ?_, go _ _ _ ⟨x + 1, hlt, rfl, ?_⟩⟩
    · rw [State.heap_pushCell_of_lt _ _ (show T.heap.size < (rrT T cO cI N M x).heap.size by have := hR.1; omega)]
      exact hR.2.1
    · show State.fitsSlot _ cO .none x _ = true
      simp [State.fitsSlot, State.slotType?, hkA2, hA2]
      rfl
    · rw [hR.1]
      rfl
  · rintro S d1 acts2 ⟨i, hi, hl, rfl⟩
    have hN : i = N := by
      by_cases h : i < N
      · rw [show N - i = (N - (i + 1)) + 1 by omega, List.range'_succ] at hl
        cases hl
      · omega
    subst hN
    simp only [wp_pure']
    exact hq _ _
theorem W_rows {cc : ByteArray} {H : Heap} {Q : State → Prop} {pc : Nat} {ls : Array Slot} {rest : List Value} (hx : p.tables.exec = Jvm.exec) (hb : c.code = cc) {own : String} {ix : Nat} (hown : s.vm.findClass own = some m.cls) (hcl : (Cond.classLink own ix "[[I").before args s = true) {cO cI cE : ClassId} {kO kI : Class} (hfO : s.vm.findClass "[[I" = some cO) (hkO : s.vm.classes[cO]? = some kO) (hO : kO.kind = .array cI (.array .int)) (hkI : s.vm.classes[cI]? = some kI) (hI : kI.kind = .array cE .int) {N M : Nat} (hN : N < 1000) (hM : M < 10000) (d : decode cc pc = .ok (.multianewarray ix 2, 4)) (hc : cells + (1 + N) ≤ R.cells) (hs : slots + (N + N * M) ≤ R.slots)
    (kk : ∀ (H' : Heap) (locs' : List Loc), (∀ q ∈ locs', q.base = H.size) → H'.size = H.size + 1 + N → H'[H.size]? = some (rrO cO N H.size N) → (∀ j, j < N → H'[H.size + 1 + j]? = some (arrV cI M (fun _ => .int 0))) → (∀ q, q < H.size → H'[q]? = H[q]?) → W p l e R s m args below meth c H' (locs ++ locs') (cells + 1 + N) (slots + N + N * M) Q (F0 m (pc + 4) ls (.ref H.size :: rest))) : W p l e R s m args below meth c H locs cells slots Q (F0 m pc ls (.int (Int32.ofInt (M : Int)) :: .int (Int32.ofInt (N : Int)) :: rest)) := by
  intro T hT Y
  subst hT
  have nn : ∀ z : Nat, z < 10000 → ¬ Int32.ofInt (z : Int) < 0 ∧ (Int32.ofInt (z : Int)).toNatClampNeg = z := fun z hz => by
    refine ⟨fun h => ?_, ?_⟩
    · have := (i32_lt (x := (z : Int)) (y := 0) ⟨by omega, by omega⟩ ⟨by decide, by decide⟩).mp h
      omega
    · rw [Int32.toNatClampNeg_ofInt_of_le (by omega) (by omega)]
      omega
  obtain ⟨n1, n2⟩ := nn N (by omega)
  obtain ⟨m1, m2⟩ := nn M hM
  have hpl : e.platform.magicAccessors = ({} : Platform).magicAccessors := by rw [Y.admits.platform]
  obtain ⟨c0, hfc0, hlinks⟩ := Cond.classLink_spec hown hcl e.platform hpl
  cases hfO.symm.trans hfc0
  obtain ⟨gv, hw, -⟩ := State.classEntry (e := e) Y.warmed hlinks
  generalize T.vm.noted m.cls ix (.cls cO) = vm1 at gv hw
  have Y1 := Y.noted hw
  obtain ⟨L, hL, YN, hR⟩ := rr_all (cO := cO) (cI := cI) (N := N) (M := M) Y1 N (Nat.le_refl _)
  obtain ⟨r1, r2, r3, r4⟩ := hR
  obtain ⟨t, a1, b1⟩ := kk (rrT (T.setVm vm1) cO cI N M N).heap L hL r1 r2 r3 r4 _ rfl YN
  refine ⟨t, ?_, b1⟩
  have lim : ∀ z : Nat, z < 10000 → ¬ z > e.platform.arrayLengthLimit ∧ ∀ ty, ¬ z * componentBytes ty > e.platform.maxHeapBytes := fun z hz => by
    refine ⟨by rw [Launch.admits_arrayLengthLimit Y.admits]; omega, fun ty => ?_⟩
    rw [Launch.admits_maxHeapBytes Y.admits]
    have : componentBytes ty ≤ 8 := by cases ty <;> first | decide | (show 4 ≤ 8; decide)
    have := Nat.mul_le_mul (Nat.le_of_lt hz) this
    omega
  subst hb
  have gt : ((T.setTop (F0 m pc ls (.int (Int32.ofInt (M : Int)) :: .int (Int32.ofInt (N : Int)) :: rest))).setVm vm1).topJava? = some (F0 m pc ls (.int (Int32.ofInt (M : Int)) :: .int (Int32.ofInt (N : Int)) :: rest)) := State.topJava?_setTop' (s := T.setVm vm1) _ Y1.here.top
  jvm_step Y.here [hx, d]
  simp only [Op.multianewarray.sem, wp_bind', W.resolveClassAt_links (State.method?_setTop (F0 m pc ls (.int (Int32.ofInt (M : Int)) :: .int (Int32.ofInt (N : Int)) :: rest)) Y.here.top) gv]
  rw [W.popN, if_neg (by decide)]
  refine ⟨_, gt, [.int (Int32.ofInt (N : Int)), .int (Int32.ofInt (M : Int))], rest, rfl, rfl, ?_⟩
  simp only [List.mapM_cons, List.mapM_nil, wp_bind', wp_pure']
  rw [show ((T.setTop (F0 m pc ls (.int (Int32.ofInt (M : Int)) :: .int (Int32.ofInt (N : Int)) :: rest))).setVm vm1).setTop (F0 m pc ls rest) = (T.setVm vm1).setTop (F0 m pc ls rest) from State.setTop_setTop (T.setVm vm1) _ _]
  refine wp_rows (T := T.setVm vm1) (N := N) (M := M) Y1 hkO hO hkI hI n1 n2 m1 m2 (lim N (by omega)) (lim M hM) hc hs (fun d' acts' => ?_)
  have gt2 : ((rrT (T.setVm vm1) cO cI N M N).setTop (F0 m pc ls rest)).topJava? = some (F0 m pc ls rest) := State.topJava?_setTop' _ YN.here.top
  simp only [wp_bind', W.mark, W.pushRef, gt2, Option.some.injEq, exists_eq_left', State.setTop_setTop]
  intro acts2
  simp [jvm, YN.here.top]
  exact a1
end RR
section BM
variable {X : KX} {cc : ByteArray} {nL : Nat} {own : String} {pc dp mc ms b0 : Nat} {lv : List (Nat × PV)} {st : List PV} {B B' : List BS} {nc ns : Nat}
/-- a row of rows -/
theorem bk_rows (F : Bf X cc nL own dp mc ms b0) {ix N M : Nat} {z w : Int} (d : decode cc pc = .ok (.multianewarray ix 2, 4)) (hcl : Cond.classLink own ix "[[I" ∈ Tbl) (hz : z = (N : Int)) (hw : w = (M : Int)) (hN : N < 1000) (hM : M < 10000) (hB : B' = B ++ (.inr (.inr (5, (List.range N).map (fun j => some (B.length + 1 + j)))) :: List.replicate N (.inr (.inl (0, M))))) (hc : nc + (1 + N) ≤ mc) (hs : ns + (N + N * M) ≤ ms) {q : Nat} (hq : q = B.length) (k : Bk X nL (pc + 4) lv (pR q :: st) B' (nc + 1 + N) (ns + N + N * M)) : Bk X nL pc lv (pI w :: pI z :: st) B nc ns := by
  obtain ⟨⟨p, l, e, R, s, m, args, below, meth, c, Q⟩, D, ad, aC, adV, A, sz, sz2⟩ := X
  obtain ⟨hx, hb, hml, hown, hts, hK, hNw, hlocks, rfl, hsz, hfr, hlo, hmc, hms⟩ := F
  subst hz hw hB hq
  intro H locs ls hZ hP hS hl
  obtain ⟨kO, hkO, hO⟩ := hNw.2.2
  obtain ⟨hI1, kI, hkI, cE, hI⟩ := (hK.2 0 _ rfl).1 0 (fun _ => .null)
  refine W_rows hx hb hown (hts _ hcl) (cO := aC 5) (cI := aC 0) (hK.2 5 _ rfl).2 hkO hO hkI hI hN hM d (by omega) (by omega) (fun H1 locs1 hL z1 e1 e2 o1 => ?_)
  have hcell : va_P D vwCl ((.inr (.inr (5, (List.range N).map (fun j => some (B.length + 1 + j)))) :: List.replicate N (.inr (.inl (0, M))) : List BS).mapIdx (fun k c => (sz + (B.length + k), bE (adB sz) aC c))) H1 := by
    intro j x hx2
    rw [List.getElem?_mapIdx] at hx2
    cases j with
    | zero =>
      cases hx2
      show H1[sz + (B.length + 0)]? = some (vp_cell (aC 5) (((List.range N).map (fun j => some (B.length + 1 + j))).length, .inr (.inr (.inr (.inr fun j => (((List.range N).map (fun j => some (B.length + 1 + j))).getD j none).map (adB sz))))))
      rw [show sz + (B.length + 0) = H.size by omega, e1, List.length_map, List.length_range, vp_cell_q]
      unfold rrO
      have ef : (fun j => if j < N then Value.ref (H.size + 1 + j) else .null) = (fun j => va_rf ((((List.range N).map (fun j => some (B.length + 1 + j))).getD j none).map (adB sz))) := funext fun j => by
        rw [List.getD_eq_getElem?_getD, List.getElem?_map]
        by_cases hj : j < N
        · rw [if_pos hj, List.getElem?_range hj]
          show Value.ref (H.size + 1 + j) = Value.ref (sz + (B.length + 1 + j))
          rw [show H.size + 1 + j = sz + (B.length + 1 + j) by omega]
        · rw [if_neg hj, List.getElem?_eq_none (by rw [List.length_range]; omega)]
          rfl
      rw [ef]
    | succ j =>
      rw [List.getElem?_cons_succ, List.getElem?_replicate] at hx2
      by_cases hj : j < N
      · rw [if_pos hj] at hx2
        cases hx2
        show H1[sz + (B.length + (j + 1))]? = some (vp_cell (aC 0) (M, .inl fun _ => 0))
        rw [show sz + (B.length + (j + 1)) = H.size + 1 + j by omega]
        exact e2 j hj
      · rw [if_neg hj] at hx2
        cases hx2
  have hP1 : va_P D vwCl (wbl sz aC (B ++ (.inr (.inr (5, (List.range N).map (fun j => some (B.length + 1 + j)))) :: List.replicate N (.inr (.inl (0, M)))))) H1 := by
    rw [wbl_push]
    exact (wbl_kept hZ hP (fun q hq => o1 q (by omega))).app hcell
  refine W.eq (g2 := F0 m (pc + 4) ls ((pR B.length :: st).map (em (adB sz)))) ?_ (k H1 (locs ++ locs1) ls (by rw [z1, List.length_append, List.length_cons, List.length_replicate]; omega) hP1 ⟨by have := hS.1; omega, fun x h1 h2 => (o1 x (by have := hS.1; omega)).trans (hS.2.1 x h1 h2), fun q hq => ?_⟩ hl)
  · show _ = F0 m (pc + 4) ls (Value.ref (sz + B.length) :: st.map (em (adB sz)))
    rw [← hZ]
  · rcases List.mem_append.mp hq with h | h
    · exact hS.2.2 q h
    · rw [hL q h]
      show sz ≤ H.size
      omega
end BM
