/-! THE PURE LAYER: numbers as Int, cells by their numbers, one memory for all that changes -/
abbrev i32 (z : Int) : Prop := -2147483648 ≤ z ∧ z < 2147483648
abbrev i64 (z : Int) : Prop := -9223372036854775808 ≤ z ∧ z < 9223372036854775808
theorem i32_toInt {z : Int} (h : i32 z) : (Int32.ofInt z).toInt = z := Int32.toInt_ofInt_of_le h.1 h.2
theorem i64_toInt {z : Int} (h : i64 z) : (Int64.ofInt z).toInt = z := Int64.toInt_ofInt_of_le h.1 h.2
theorem i32_inj {x y : Int} (hx : i32 x) (hy : i32 y) (h : Int32.ofInt x = Int32.ofInt y) : x = y := by
  rw [← i32_toInt hx, ← i32_toInt hy, h]
theorem i64_inj {x y : Int} (hx : i64 x) (hy : i64 y) (h : Int64.ofInt x = Int64.ofInt y) : x = y := by
  rw [← i64_toInt hx, ← i64_toInt hy, h]
theorem i32_lt {x y : Int} (hx : i32 x) (hy : i32 y) : Int32.ofInt x < Int32.ofInt y ↔ x < y := by
  rw [Int32.lt_iff_toInt_lt, i32_toInt hx, i32_toInt hy]
theorem i32_le {x y : Int} (hx : i32 x) (hy : i32 y) : Int32.ofInt x ≤ Int32.ofInt y ↔ x ≤ y := by
  rw [Int32.le_iff_toInt_le, i32_toInt hx, i32_toInt hy]
theorem i32_of (x : Int32) : ∃ z : Int, i32 z ∧ x = Int32.ofInt z := ⟨x.toInt, ⟨x.le_toInt, x.toInt_lt⟩, (Int32.ofInt_toInt x).symm⟩
theorem i32_idx {z : Int} {n : Nat} (h0 : 0 ≤ z) (h1 : z < n) (hn : n < 2 ^ 31) : vp_in (Int32.ofInt z) n ∧ (Int32.ofInt z).toNatClampNeg = z.toNat := by
  have hz : i32 z := ⟨by omega, by omega⟩
  refine ⟨vp_in_iff.mpr ?_, Int32.toNatClampNeg_ofInt_of_le hz.1 hz.2⟩
  rw [i32_toInt hz]
  exact ⟨h0, h1⟩
/-- values: an int, a long, a cell by its number (or null), a double by its bits -/
abbrev PV : Type := Int ⊕ Int ⊕ Option Nat ⊕ UInt64
abbrev pI (z : Int) : PV := .inl z
abbrev pL (z : Int) : PV := .inr (.inl z)
abbrev pR (k : Nat) : PV := .inr (.inr (.inl (some k)))
abbrev pN : PV := .inr (.inr (.inl none))
abbrev pD (b : UInt64) : PV := .inr (.inr (.inr b))
def em (ad : Nat → Nat) (v : PV) : Value := match v with
  | .inl z => .int (Int32.ofInt z)
  | .inr (.inl z) => .long (Int64.ofInt z)
  | .inr (.inr (.inl (some k))) => .ref (ad k)
  | .inr (.inr (.inl none)) => .null
  | .inr (.inr (.inr b)) => .double b
/-- is it of two slots -/
def p2 (v : PV) : Bool := match v with
  | .inr (.inl _) => true
  | .inr (.inr (.inr _)) => true
  | _ => false
theorem em_cat (ad : Nat → Nat) (v : PV) : ((em ad v).category == 2) = p2 v := by
  rcases v with z | z | (_ | k) | b <;> rfl
theorem em_cat1 {ad : Nat → Nat} {v : PV} (h : p2 v = false) : (em ad v).category = 1 := by
  rcases v with z | z | (_ | k) | b <;> first | rfl | cases h
abbrev Mem : Type := Nat → Nat → Int
def mset (f : Mem) (k j : Nat) (v : Int) : Mem := fun a b => if a = k ∧ b = j then v else f a b
theorem mset_eq (f : Mem) (k j : Nat) (v : Int) : mset f k j v k j = v := if_pos ⟨rfl, rfl⟩
theorem mset_ne {f : Mem} {k j a b : Nat} {v : Int} (h : ¬ (a = k ∧ b = j)) : mset f k j v a b = f a b := if_neg h
theorem mset_nk {f : Mem} {k j a b : Nat} {v : Int} (h : a ≠ k) : mset f k j v a b = f a b := if_neg fun q => h q.1
/-- the make of a cell: an object (its kind's number, its fields: a cell's number, or a number of the memory), an array of numbers (its kind, its length), an array of cells -/
abbrev CS : Type := (Nat × List (Option Nat)) ⊕ (Nat × Nat) ⊕ (Nat × List Nat)
def fE (ad : Nat → Nat) (mem : Mem) (k : Nat) (j : Nat) (f : Option Nat) : Value := match f with
  | some r => .ref (ad r)
  | none => .int (Int32.ofInt (mem k j))
def cE (ad : Nat → Nat) (aC : Nat → ClassId) (mem : Mem) (k : Nat) (c : CS) : va_E := match c with
  | .inl (ci, fs) => .inr (ci, fs.mapIdx (fE ad mem k))
  | .inr (.inl (3, n)) => .inl (aC 3, n, .inr (.inl fun j => Int64.ofInt (mem k j)))
  | .inr (.inl (t, n)) => .inl (aC t, n, .inl fun j => Int32.ofInt (mem k j))
  | .inr (.inr (t, rs)) => .inl (aC t, rs.length, .inr (.inr (.inr (.inr fun j => (rs[j]?).map ad))))
def wl (ad : Nat → Nat) (aC : Nat → ClassId) (sh : List CS) (mem : Mem) : va_W := sh.mapIdx (fun k c => (ad k, cE ad aC mem k c))
theorem wl_at {ad : Nat → Nat} {aC : Nat → ClassId} {sh : List CS} {mem : Mem} {k : Nat} {c : CS} (h : sh[k]? = some c) : (wl ad aC sh mem)[k]? = some (ad k, cE ad aC mem k c) := by
  unfold wl
  rw [List.getElem?_mapIdx, h]
  rfl
theorem cE_other {ad : Nat → Nat} {aC : Nat → ClassId} {mem : Mem} {k j a : Nat} {v : Int} (h : a ≠ k) (c : CS) : cE ad aC (mset mem k j v) a c = cE ad aC mem a c := by
  have e : (mset mem k j v) a = mem a := funext fun b => mset_nk h
  have e2 : fE ad (mset mem k j v) a = fE ad mem a := by
    funext b f
    cases f <;> simp only [fE, e]
  rcases c with ⟨ci, fs⟩ | ⟨t, n⟩ | ⟨t, rs⟩
  · simp only [cE, e2]
  · unfold cE
    split <;> simp_all
  · rfl
theorem wl_set {ad : Nat → Nat} {aC : Nat → ClassId} {sh : List CS} {mem : Mem} {k j : Nat} {v : Int} {c : CS} {x : va_E} (h : sh[k]? = some c) (hx : x = cE ad aC (mset mem k j v) k c) : (wl ad aC sh mem).set k (ad k, x) = wl ad aC sh (mset mem k j v) := by
  apply List.ext_getElem?
  intro i
  unfold wl
  rw [List.getElem?_set, List.getElem?_mapIdx, List.getElem?_mapIdx, List.length_mapIdx]
  have hk : k < sh.length := (List.getElem?_eq_some_iff.mp h).1
  by_cases e : k = i
  · subst e
    rw [if_pos rfl, if_pos hk, h, hx]
    rfl
  · rw [if_neg e]
    cases hs : sh[i]? with
    | none => rfl
    | some d =>
      simp only [Option.map_some]
      rw [cE_other (fun q => e q.symm)]
theorem fld_at {ad : Nat → Nat} {mem : Mem} {k j : Nat} {fs : List (Option Nat)} {f : Option Nat} (h : fs[j]? = some f) : (fs.mapIdx (fE ad mem k))[j]? = some (fE ad mem k j f) := by
  rw [List.getElem?_mapIdx, h]
  rfl
theorem fld_set {ad : Nat → Nat} {mem : Mem} {k j : Nat} {fs : List (Option Nat)} {v : Int} (h : fs[j]? = some none) : (fs.mapIdx (fE ad mem k)).set j (.int (Int32.ofInt v)) = fs.mapIdx (fE ad (mset mem k j v) k) := by
  apply List.ext_getElem?
  intro i
  rw [List.getElem?_set, List.getElem?_mapIdx, List.getElem?_mapIdx, List.length_mapIdx]
  have hj : j < fs.length := (List.getElem?_eq_some_iff.mp h).1
  by_cases e : j = i
  · subst e
    rw [if_pos rfl, if_pos hj, h]
    simp only [Option.map_some, fE, mset_eq]
  · rw [if_neg e]
    cases hs : fs[i]? with
    | none => rfl
    | some d =>
      cases d with
      | some r => rfl
      | none =>
        simp only [Option.map_some, fE]
        rw [mset_ne (fun q => e q.2.symm)]
/-! words: those of the tables that stay as they are -/
def Tbl : List Cond := lw_tbl.filter goodWord
theorem tb {w : Cond} (i : Nat) (h : lw_tbl[i]? = some w) (g : goodWord w = true) : w ∈ Tbl := List.mem_filter.mpr ⟨List.mem_of_getElem? h, g⟩
theorem tb_sub {ws : List Cond} (h : ∀ w ∈ ws, w ∈ Tbl) : GoodIn Tbl ws := fun w hw => ⟨h w hw, good_of_word (List.mem_filter.mp (h w hw)).2⟩
theorem tb_law : GoodIn lw_tbl Tbl := fun w hw => ⟨(List.mem_filter.mp hw).1, good_of_word (List.mem_filter.mp hw).2⟩
/-- the words of a nest's own members that the walk needs -/
def nestW : List Cond := [.methodLinkNest RX0 70 ⟨RX7, "copyRow", "([I[I)V"⟩ RX7, .methodLinkNest RX2 52 ⟨RX7, "copyRow", "([I[I)V"⟩ RX7, .methodLinkNest RX6 49 ⟨RX7, "copyRow", "([I[I)V"⟩ RX7]
/-- the kinds of arrays -/
def tyL (aC : Nat → ClassId) : List (ClassId × FieldType) := [(aC 0, .int), (aC 1, .byte), (aC 2, .boolean), (aC 3, .long), (aC 4, .object "TillFloat$State"), (aC 5, .array .int)]
/-! the texts of the constant pools: text i is the cell 1000 + i -/
def sTx (i : Nat) : List Nat := match i with
  | 0 => [107, 105, 110, 100, 115]
  | 1 => [102, 108, 111, 97, 116]
  | 2 => [112, 117, 114, 115, 101]
  | 3 => [108, 105, 109, 105, 116]
  | 4 => [98, 97, 103]
  | 5 => [100, 97, 121]
  | 6 => [115, 97, 108, 101]
  | 7 => [59, 102, 108, 111, 97, 116]
  | 8 => [59, 112, 117, 114, 115, 101]
  | 9 => [59, 108, 105, 109, 105, 116]
  | 10 => [59, 98, 97, 103]
  | 11 => [59, 100, 97, 121]
  | _ => [59, 115, 97, 108, 101, 32]
def sLen : List Nat := [5, 5, 5, 5, 3, 3, 4, 6, 6, 6, 4, 4, 6]
def sByt : List (List Int32) := [[107, 105, 110, 100, 115], [102, 108, 111, 97, 116], [112, 117, 114, 115, 101], [108, 105, 109, 105, 116], [98, 97, 103], [100, 97, 121], [115, 97, 108, 101], [59, 102, 108, 111, 97, 116], [59, 112, 117, 114, 115, 101], [59, 108, 105, 109, 105, 116], [59, 98, 97, 103], [59, 100, 97, 121], [59, 115, 97, 108, 101, 32]]
def sRef : List (String × Nat × String × Nat) := [(RX4, 90, "kinds", 0), (RX4, 104, "float", 1), (RX4, 109, "purse", 2), (RX4, 111, "limit", 3), (RX4, 113, "bag", 4), (RX4, 115, "day", 5), (RX4, 120, "sale", 6), (RX5, 24, "kinds", 0), (RX5, 33, ";float", 7), (RX5, 38, ";purse", 8), (RX5, 43, ";limit", 9), (RX5, 48, ";bag", 10), (RX5, 56, ";day", 11), (RX5, 90, ";sale ", 12), (RX8, 145, "float", 1), (RX8, 155, "purse", 2), (RX8, 157, "limit", 3), (RX8, 159, "bag", 4), (RX8, 161, "day", 5), (RX8, 163, "sale", 6), (RX8, 176, "kinds", 0), (RX8, 371, ";sale ", 12), (RX8, 377, ";float", 7), (RX8, 379, ";purse", 8), (RX8, 381, ";limit", 9), (RX8, 383, ";bag", 10), (RX8, 385, ";day", 11)]
/-- the texts and the JDK's statics that the walk reads -/
def SW (ad adV : Nat → Nat) (A : Nat → Prop) (U : State) (H : Heap) : Prop :=
  vk_S 13 sLen sByt (fun i => ad (1000 + i)) (fun i => ad (2000 + i)) A U H ∧ (∀ q ∈ sRef, vk_R q.1 q.2.1 q.2.2.1 (ad (1000 + q.2.2.2)) U) ∧ va_Z "java/lang/String" "COMPACT_STRINGS" "Z" (.int 1) A U H ∧ (va_Z "jdk/internal/util/Preconditions" "SIOOBE_FORMATTER" "Ljava/util/function/BiFunction;" .null A U H ∨ va_Z "jdk/internal/util/Preconditions" "SIOOBE_FORMATTER" "Ljava/util/function/BiFunction;" (.ref (ad 3000)) A U H)
theorem SW.warm {ad adV : Nat → Nat} {A : Nat → Prop} {s U : State} {H : Heap} (hW : s.WarmedH U.vm) (h : SW ad adV A s H) : SW ad adV A U H :=
  ⟨h.1.moved hW.alike, fun q hq => (h.2.1 q hq).warm hW, h.2.2.1.moved hW.alike, h.2.2.2.imp (fun q => q.moved hW.alike) (fun q => q.moved hW.alike)⟩
theorem SW.same {ad adV : Nat → Nat} {A : Nat → Prop} {u U : State} {H : Heap} (hv : U.vm = u.vm) (h : SW ad adV A u H) : SW ad adV A U H :=
  ⟨h.1.moved (by rw [hv]; exact Vm.Alike.refl u.vm), fun q hq => (h.2.1 q hq).same hv, h.2.2.1.moved (by rw [hv]; exact Vm.Alike.refl u.vm), h.2.2.2.imp (fun q => q.moved (by rw [hv]; exact Vm.Alike.refl u.vm)) (fun q => q.moved (by rw [hv]; exact Vm.Alike.refl u.vm))⟩
theorem SW.kept {ad adV : Nat → Nat} {A : Nat → Prop} {U : State} {H H1 : Heap} (h : SW ad adV A U H) (hq : ∀ a : Nat, a < H.size → ¬ A a → H1[a]? = H[a]?) : SW ad adV A U H1 :=
  ⟨h.1.kept hq, h.2.1, h.2.2.1.kept hq, h.2.2.2.imp (fun q => q.kept hq) (fun q => q.kept hq)⟩
theorem SW.narrow {ad adV : Nat → Nat} {A B : Nat → Prop} {U : State} {H : Heap} (h : SW ad adV A U H) (hAB : ∀ q, B q → A q) : SW ad adV B U H :=
  ⟨h.1.narrow hAB, h.2.1, h.2.2.1.narrow hAB, h.2.2.2.imp (fun q => q.narrow hAB) (fun q => q.narrow hAB)⟩
/-- where a method stands: the machine's things, and the world's -/
abbrev KX : Type := (Program × Launch × Env × Room × State × MethodId × Array Value × List Frame × Method × Code × (State → Prop)) × (va_G × (Nat → Nat) × (Nat → ClassId) × (Nat → Nat) × (Nat → Prop) × Nat × Nat)
/-- what holds all along a method's walk; dp: how deep its calls may go -/
def Fx (sh : List CS) (X : KX) (cc : ByteArray) (nL : Nat) (own : String) (dp : Nat) : Prop := match X with
  | ((p, _, _, R, s, m, args, _, meth, c, _), (D, ad, aC, adV, A, nc, ns)) =>
    p.tables.exec = Jvm.exec ∧ c.code = cc ∧ c.maxLocals = nL ∧ s.vm.findClass own = some m.cls ∧ (∀ w ∈ Tbl, w.before args s = true) ∧ va_K D vwCl (tyL aC) s ∧ (∀ mem, va_D A (wl ad aC sh mem)) ∧ (∀ q : Nat, s.heap.size ≤ q → A q) ∧ meth.locks = false ∧ (∀ w ∈ nestW, va_Nw w s) ∧ nc ≤ R.cells ∧ ns ≤ R.slots ∧ SW ad adV A s s.heap ∧ dp ≤ R.frames ∧ dp * 100 ≤ R.locals
/-- from here the walk comes to its end as it should -/
def Ok (sh : List CS) (X : KX) (nL : Nat) (pc : Nat) (lv : List (Nat × PV)) (st : List PV) (mem : Mem) : Prop := match X with
  | ((p, l, e, R, s, m, args, below, meth, c, Q), (D, ad, aC, _, A, nc, ns)) =>
    ∀ (H : Heap) (locs : List Loc) (ls : Array Slot), va_P D vwCl (wl ad aC sh mem) H → va_S A s.heap H locs → lv_has ls nL (lv.map fun q => (q.1, em ad q.2)) → W p l e R s m args below meth c H locs nc ns Q (F0 m pc ls (st.map (em ad)))
/-- locals behind a store of one slot, of two -/
def lput (lv : List (Nat × PV)) (i : Nat) (v : PV) : List (Nat × PV) := (i, v) :: lv.filter (fun q => !(q.1 == i) && !(q.1 + 1 == i && p2 q.2))
def lput2 (lv : List (Nat × PV)) (i : Nat) (v : PV) : List (Nat × PV) := (i, v) :: lv.filter (fun q => !(q.1 == i) && (!(q.1 == i + 1) && !(q.1 + 1 == i && p2 q.2)))
theorem lput_em (ad : Nat → Nat) (lv : List (Nat × PV)) (i : Nat) (v : PV) : (i, em ad v) :: (lv.map fun q => (q.1, em ad q.2)).filter (fun q => !(q.1 == i) && !(q.1 + 1 == i && q.2.category == 2)) = (lput lv i v).map fun q => (q.1, em ad q.2) := by
  unfold lput
  rw [List.map_cons, List.filter_map]
  congr 2
  apply List.filter_congr
  intro q _
  simp only [Function.comp, em_cat]
theorem lput2_em (ad : Nat → Nat) (lv : List (Nat × PV)) (i : Nat) (v : PV) : (i, em ad v) :: (lv.map fun q => (q.1, em ad q.2)).filter (fun q => !(q.1 == i) && (!(q.1 == i + 1) && !(q.1 + 1 == i && q.2.category == 2))) = (lput2 lv i v).map fun q => (q.1, em ad q.2) := by
  unfold lput2
  rw [List.map_cons, List.filter_map]
  congr 2
  apply List.filter_congr
  intro q _
  simp only [Function.comp, em_cat]
theorem lget_em {ad : Nat → Nat} {lv : List (Nat × PV)} {k i : Nat} {v : PV} (h : lv[k]? = some (i, v)) : (lv.map fun q => (q.1, em ad q.2))[k]? = some (i, em ad v) := by
  rw [List.getElem?_map, h]
  rfl
theorem lw_has_sub {ad : Nat → Nat} {ls : Array Slot} {nL : Nat} {lv lv' : List (Nat × PV)} (h : lv_has ls nL (lv.map fun q => (q.1, em ad q.2))) (hs : ∀ q ∈ lv', q ∈ lv) : lv_has ls nL (lv'.map fun q => (q.1, em ad q.2)) := by
  refine ⟨h.1, h.2.1, fun q hq => ?_⟩
  obtain ⟨q0, h0, rfl⟩ := List.mem_map.mp hq
  exact h.2.2 _ (List.mem_map.mpr ⟨q0, hs q0 h0, rfl⟩)
