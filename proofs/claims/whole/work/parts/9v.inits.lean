/-! the constructors: printed by a program of mine out of the claim's papers -/
theorem kO_i : Cond.instanceMethod Lib.objectInit ∈ Tbl := tb1 24 rfl rfl
theorem kO_c : Cond.code Lib.objectInit ⟨#[0xb1]⟩ 1 none ∈ Tbl := tb1 25 rfl rfl
theorem kO_X0 : Cond.methodLink RX0 3 Lib.objectInit ∈ Tbl := tb1 145 rfl rfl
theorem kN_X0 : Cond.instantiable RX0 7 ∈ Tbl := tb1 141 rfl rfl
theorem kZ_X0 : Cond.initialized RX0 ∈ Tbl := tb1 5 rfl rfl
theorem kO_X1 : Cond.methodLink RX1 3 Lib.objectInit ∈ Tbl := tb1 151 rfl rfl
theorem kN_X1 : Cond.instantiable RX1 11 ∈ Tbl := tb1 147 rfl rfl
theorem kZ_X1 : Cond.initialized RX1 ∈ Tbl := tb1 6 rfl rfl
theorem kO_X2 : Cond.methodLink RX2 3 Lib.objectInit ∈ Tbl := tb1 139 rfl rfl
theorem kN_X2 : Cond.instantiable RX2 10 ∈ Tbl := tb1 135 rfl rfl
theorem kZ_X2 : Cond.initialized RX2 ∈ Tbl := tb1 4 rfl rfl
theorem kO_X3 : Cond.methodLink RX3 3 Lib.objectInit ∈ Tbl := tb2 18 rfl rfl
theorem kN_X3 : Cond.instantiable RX3 1 ∈ Tbl := tb2 14 rfl rfl
theorem kZ_X3 : Cond.initialized RX3 ∈ Tbl := tb1 7 rfl rfl
theorem kO_X4 : Cond.methodLink RX4 3 Lib.objectInit ∈ Tbl := tb1 103 rfl rfl
theorem kN_X4 : Cond.instantiable RX4 8 ∈ Tbl := tb1 99 rfl rfl
theorem kZ_X4 : Cond.initialized RX4 ∈ Tbl := tb1 3 rfl rfl
theorem kO_X5 : Cond.methodLink RX5 1 Lib.objectInit ∈ Tbl := tb2 29 rfl rfl
theorem kN_X5 : Cond.instantiable RX5 3 ∈ Tbl := tb2 25 rfl rfl
theorem kZ_X5 : Cond.initialized RX5 ∈ Tbl := tb1 8 rfl rfl
theorem kO_X6 : Cond.methodLink RX6 3 Lib.objectInit ∈ Tbl := tb1 31 rfl rfl
theorem kN_X6 : Cond.instantiable RX6 12 ∈ Tbl := tb1 27 rfl rfl
theorem kZ_X6 : Cond.initialized RX6 ∈ Tbl := tb1 2 rfl rfl
theorem kO_X7 : Cond.methodLink RX7 1 Lib.objectInit ∈ Tbl := tb1 23 rfl rfl
theorem kN_X7 : Cond.instantiable RX7 18 ∈ Tbl := tb1 19 rfl rfl
theorem kZ_X7 : Cond.initialized RX7 ∈ Tbl := tb1 1 rfl rfl
theorem kO_X8 : Cond.methodLink RX8 3 Lib.objectInit ∈ Tbl := tb4 230 rfl rfl
theorem kN_X8 : Cond.instantiable RX8 34 ∈ Tbl := tb4 226 rfl rfl
theorem kZ_X8 : Cond.initialized RX8 ∈ Tbl := tb1 9 rfl rfl
theorem kG_L_7 : Cond.classLink RL 7 RX7 ∈ Tbl := tb1 18 rfl rfl
theorem kG_X7_7 : Cond.classLink RX7 7 RX6 ∈ Tbl := tb1 26 rfl rfl
theorem kG_X7_16 : Cond.classLink RX7 16 RX4 ∈ Tbl := tb1 98 rfl rfl
theorem kG_X4_9 : Cond.classLink RX4 9 RX6 ∈ Tbl := tb1 104 rfl rfl
theorem kG_X7_35 : Cond.classLink RX7 35 RX2 ∈ Tbl := tb1 134 rfl rfl
theorem kG_X2_21 : Cond.classLink RX2 21 RX0 ∈ Tbl := tb1 140 rfl rfl
theorem kG_X0_15 : Cond.classLink RX0 15 RX1 ∈ Tbl := tb1 146 rfl rfl
theorem kG_X1_25 : Cond.classLink RX1 25 "[[I" ∈ Tbl := tb1 152 rfl rfl
theorem kG_X7_54 : Cond.classLink RX7 54 RX3 ∈ Tbl := tb2 13 rfl rfl
theorem kG_X7_74 : Cond.classLink RX7 74 RX5 ∈ Tbl := tb2 24 rfl rfl
theorem kG_L_10 : Cond.classLink RL 10 RX8 ∈ Tbl := tb4 225 rfl rfl
theorem kY_int : Cond.arrayClass (Op.newarray.typeOf .int) ∈ Tbl := tb1 97 rfl rfl
theorem kY_byte : Cond.arrayClass (Op.newarray.typeOf .byte) ∈ Tbl := tb3 41 rfl rfl
theorem kY_boolean : Cond.arrayClass (Op.newarray.typeOf .boolean) ∈ Tbl := tb5 95 rfl rfl
theorem kY_long : Cond.arrayClass (Op.newarray.typeOf .long) ∈ Tbl := tb2 23 rfl rfl
def bl_X0 : List PV := [pN, pN, pN, pN, pN, pI 0, pI 0]
theorem bl_X0_ok : ∀ ad : Nat → Nat, ∀ j, j < 7 → defaultValue (tyX0 j) = vp_V (bl_X0.map (em ad)) j := fun ad => (by decide +kernel : ∀ j, j < 7 → defaultValue (tyX0 j) = vp_V (bl_X0.map (em (fun k => k))) j)
def bl_X1 : List PV := [pN, pN, pN, pI 0, pI 0, pI 0, pN, pN, pN, pN, pN]
theorem bl_X1_ok : ∀ ad : Nat → Nat, ∀ j, j < 11 → defaultValue (tyX1 j) = vp_V (bl_X1.map (em ad)) j := fun ad => (by decide +kernel : ∀ j, j < 11 → defaultValue (tyX1 j) = vp_V (bl_X1.map (em (fun k => k))) j)
def bl_X2 : List PV := [pN, pN, pN, pI 0, pI 0, pI 0, pI 0, pI 0, pN, pN]
theorem bl_X2_ok : ∀ ad : Nat → Nat, ∀ j, j < 10 → defaultValue (tyX2 j) = vp_V (bl_X2.map (em ad)) j := fun ad => (by decide +kernel : ∀ j, j < 10 → defaultValue (tyX2 j) = vp_V (bl_X2.map (em (fun k => k))) j)
def bl_X3 : List PV := [pN]
theorem bl_X3_ok : ∀ ad : Nat → Nat, ∀ j, j < 1 → defaultValue (tyX3 j) = vp_V (bl_X3.map (em ad)) j := fun ad => (by decide +kernel : ∀ j, j < 1 → defaultValue (tyX3 j) = vp_V (bl_X3.map (em (fun k => k))) j)
def bl_X4 : List PV := [pN, pN, pI 0, pI 0, pI 0, pI 0, pI 0, pI 0]
theorem bl_X4_ok : ∀ ad : Nat → Nat, ∀ j, j < 8 → defaultValue (tyX4 j) = vp_V (bl_X4.map (em ad)) j := fun ad => (by decide +kernel : ∀ j, j < 8 → defaultValue (tyX4 j) = vp_V (bl_X4.map (em (fun k => k))) j)
def bl_X5 : List PV := [pI 0, pI 0, pI 0]
theorem bl_X5_ok : ∀ ad : Nat → Nat, ∀ j, j < 3 → defaultValue (tyX5 j) = vp_V (bl_X5.map (em ad)) j := fun ad => (by decide +kernel : ∀ j, j < 3 → defaultValue (tyX5 j) = vp_V (bl_X5.map (em (fun k => k))) j)
def bl_X6 : List PV := [pI 0, pI 0, pN, pN, pN, pN, pN, pN, pN, pN, pN, pN]
theorem bl_X6_ok : ∀ ad : Nat → Nat, ∀ j, j < 12 → defaultValue (tyX6 j) = vp_V (bl_X6.map (em ad)) j := fun ad => (by decide +kernel : ∀ j, j < 12 → defaultValue (tyX6 j) = vp_V (bl_X6.map (em (fun k => k))) j)
def bl_X7 : List PV := [pN, pN, pN, pI 0, pN, pI 0, pI 0, pN, pI 0, pN, pN, pN, pN, pN, pN, pN, pN, pN]
theorem bl_X7_ok : ∀ ad : Nat → Nat, ∀ j, j < 18 → defaultValue (tyX7 j) = vp_V (bl_X7.map (em ad)) j := fun ad => (by decide +kernel : ∀ j, j < 18 → defaultValue (tyX7 j) = vp_V (bl_X7.map (em (fun k => k))) j)
def bl_X8 : List PV := [pN, pN, pN, pN, pN, pI 0, pN, pI 0, pI 0, pI 0, pI 0, pN, pN, pN, pN, pN, pN, pN, pN, pN, pN, pI 0, pI 0, pI 0, pI 0, pI 0, pI 0, pI 0, pN, pN, pN, pI 0, pI 0, pI 0]
theorem bl_X8_ok : ∀ ad : Nat → Nat, ∀ j, j < 34 → defaultValue (tyX8 j) = vp_V (bl_X8.map (em ad)) j := fun ad => (by decide +kernel : ∀ j, j < 34 → defaultValue (tyX8 j) = vp_V (bl_X8.map (em (fun k => k))) j)
/-- the cells bs, but that h is o; behind them what has been made -/
def cur (bs : List BS) (h : Nat) (o : BS) (ext : List BS) : List BS := bs.set h o ++ ext
section CU
variable {bs : List BS} {h : Nat} {o : BS} {ext : List BS}
theorem cur_len : (cur bs h o ext).length = bs.length + ext.length := by
  unfold cur
  rw [List.length_append, List.length_set]
theorem cur_h (hh : h < bs.length) : (cur bs h o ext)[h]? = some o := by
  unfold cur
  rw [List.getElem?_append_left (by rw [List.length_set]; exact hh), List.getElem?_set_self hh]
theorem cur_e (j : Nat) : (cur bs h o ext)[bs.length + j]? = ext[j]? := by
  unfold cur
  rw [List.getElem?_append_right (by rw [List.length_set]; omega), List.length_set, Nat.add_sub_cancel_left]
theorem cur_seth (hh : h < bs.length) (o' : BS) : (cur bs h o ext).set h o' = cur bs h o' ext := by
  unfold cur
  rw [List.set_append_left _ _ (by rw [List.length_set]; exact hh), List.set_set]
theorem cur_sete (j : Nat) (x : BS) : (cur bs h o ext).set (bs.length + j) x = cur bs h o (ext.set j x) := by
  unfold cur
  rw [List.set_append_right _ _ (by rw [List.length_set]; omega), List.length_set, Nat.add_sub_cancel_left]
theorem cur_push (e2 : List BS) : cur bs h o ext ++ e2 = cur bs h o (ext ++ e2) := by
  unfold cur
  rw [List.append_assoc]
theorem cur_0 (hh : bs[h]? = some o) : cur bs h o [] = bs := by
  unfold cur
  rw [List.append_nil]
  obtain ⟨h1, h2⟩ := List.getElem?_eq_some_iff.mp hh
  rw [← h2, List.set_getElem_self]
end CU
section BU
variable {X : KX} {cc : ByteArray} {nL : Nat} {own : String} {pc dp mc ms b0 : Nat} {lv : List (Nat × PV)} {st : List PV} {bs : List BS} {h : Nat} {o : BS} {ext ext' : List BS} {nc ns : Nat}
theorem bk_start (hh : bs[h]? = some o) (k : Bk X nL pc lv st (cur bs h o []) nc ns) : Bk X nL pc lv st bs nc ns := by
  rw [cur_0 hh] at k
  exact k
theorem bc_newarr (F : Bf X cc nL own dp mc ms b0) {ty : ArrayType} {t n : Nat} {z : Int} (d : decode cc pc = .ok (.newarray ty, 2)) (ht : ty = .int ∧ t = 0 ∨ ty = .byte ∧ t = 1 ∨ ty = .boolean ∧ t = 2 ∨ ty = .long ∧ t = 3) (hw : Cond.arrayClass (Op.newarray.typeOf ty) ∈ Tbl) (hz : z = (n : Int)) (hn : n < 40000) (he : ext ++ [.inr (.inl (t, n))] = ext') (hc : nc + 1 ≤ mc) (hs : ns + n ≤ ms) {j : Nat} (hj : ext.length = j) (k : Bk X nL (pc + 2) lv (pR (bs.length + j) :: st) (cur bs h o ext') (nc + 1) (ns + n)) : Bk X nL pc lv (pI z :: st) (cur bs h o ext) nc ns :=
  bk_newarr F d ht hw hz hn (by rw [cur_push, he]) hc hs (by rw [cur_len, hj]) k
theorem bc_new (F : Bf X cc nL own dp mc ms b0) {ix ci N : Nat} {C : String} {T : u_T} {ty : Nat → FieldType} {fs : List PV} (d : decode cc pc = .ok (.new ix, 3)) (L : clOk ci C T N ty) (hcl : Cond.classLink own ix C ∈ Tbl) (hins : Cond.instantiable C N ∈ Tbl) (hini : Cond.initialized C ∈ Tbl) (hfs : ∀ ad : Nat → Nat, ∀ j, j < N → defaultValue (ty j) = vp_V (fs.map (em ad)) j) (he : ext ++ [.inl (ci, fs)] = ext') (hc : nc + 1 ≤ mc) (hs : ns + N ≤ ms) {j : Nat} (hj : ext.length = j) (k : Bk X nL (pc + 3) lv (pR (bs.length + j) :: st) (cur bs h o ext') (nc + 1) (ns + N)) : Bk X nL pc lv st (cur bs h o ext) nc ns :=
  bk_new F d L hcl hins hini hfs (by rw [cur_push, he]) hc hs (by rw [cur_len, hj]) k
theorem bc_anew (F : Bf X cc nL own dp mc ms b0) {ix n : Nat} {z : Int} (d : decode cc pc = .ok (.anewarray ix, 3)) (hcl : Cond.classLink own ix "TillFloat$State" ∈ Tbl) (hz : z = (n : Int)) (hn : n < 40000) (he : ext ++ [.inr (.inr (4, List.replicate n none))] = ext') (hc : nc + 1 ≤ mc) (hs : ns + n ≤ ms) {j : Nat} (hj : ext.length = j) (k : Bk X nL (pc + 3) lv (pR (bs.length + j) :: st) (cur bs h o ext') (nc + 1) (ns + n)) : Bk X nL pc lv (pI z :: st) (cur bs h o ext) nc ns :=
  bk_anew F d hcl hz hn (by rw [cur_push, he]) hc hs (by rw [cur_len, hj]) k
theorem bc_rows (F : Bf X cc nL own dp mc ms b0) {ix N M : Nat} {z w : Int} (d : decode cc pc = .ok (.multianewarray ix 2, 4)) (hcl : Cond.classLink own ix "[[I" ∈ Tbl) (hz : z = (N : Int)) (hw : w = (M : Int)) (hN : N < 1000) (hM : M < 10000) {j : Nat} (hj : ext.length = j) (he : ext ++ (.inr (.inr (5, (List.range N).map (fun i => some (bs.length + j + 1 + i)))) :: List.replicate N (.inr (.inl (0, M)))) = ext') (hc : nc + (1 + N) ≤ mc) (hs : ns + (N + N * M) ≤ ms) (k : Bk X nL (pc + 4) lv (pR (bs.length + j) :: st) (cur bs h o ext') (nc + 1 + N) (ns + N + N * M)) : Bk X nL pc lv (pI w :: pI z :: st) (cur bs h o ext) nc ns :=
  bk_rows F d hcl hz hw hN hM (by rw [cur_len, hj, cur_push, he]) hc hs (by rw [cur_len, hj]) k
theorem bc_putF (F : Bf X cc nL own dp mc ms b0) {E : List BS} {mc' ms' : Nat} (G : Bm X E mc' ms') {ix ci j r : Nat} {C : String} {T : u_T} {N : Nat} {ty : Nat → FieldType} {fs fs' : List PV} (d : decode cc pc = .ok (.putfield ix, 3)) (L : flOk own ix ci j C T N ty) (hh : h < bs.length) {nf : Nat} (hf : fs.length = nf) (hj : j < nf) (hfin : (T j).2.2.2 = true) (hdecl : (T j).1 = own) (hti : (∃ n, ty j = .object n) ∨ ∃ t, ty j = .array t) (ho : fs.set j (pR r) = fs') {e : Nat} (he : ext.length = e) (hnc : nc = e) (hb : b0 = bs.length) (k : Bk X nL (pc + 3) lv st (cur bs h (.inl (ci, fs')) ext) nc ns) : Bk X nL pc lv (pR r :: pR h :: st) (cur bs h (.inl (ci, fs)) ext) nc ns :=
  bk_putF F G d L (cur_h hh) (by rw [hf]; exact hj) hfin hdecl hti (by rw [cur_seth hh, ho]) (by rw [cur_len, he]; omega) k
theorem bc_putI (F : Bf X cc nL own dp mc ms b0) {ix ci j : Nat} {z : Int} {C : String} {T : u_T} {N : Nat} {ty : Nat → FieldType} {fs fs' : List PV} (d : decode cc pc = .ok (.putfield ix, 3)) (L : flOk own ix ci j C T N ty) (hh : h < bs.length) {nf : Nat} (hf : fs.length = nf) (hj : j < nf) (hfin : (T j).2.2.2 = false) (hti : ty j = .int) (ho : fs.set j (pI z) = fs') {e : Nat} (he : ext.length = e) (hnc : nc = e) (hb : b0 = bs.length) (k : Bk X nL (pc + 3) lv st (cur bs h (.inl (ci, fs')) ext) nc ns) : Bk X nL pc lv (pI z :: pR h :: st) (cur bs h (.inl (ci, fs)) ext) nc ns :=
  bk_putI F d L (cur_h hh) (by rw [hf]; exact hj) hfin hti (by rw [cur_seth hh, ho]) (by rw [cur_len, he]; omega) k
theorem bc_call (F : Bf X cc nL own dp mc ms b0) {ix maxL dp' mc' ms' ci : Nat} {y : MethodName} {bytes : ByteArray} {host : String} {fc : Nat → List PV} {ac : Nat → List BS} {blk : List PV} (d : decode cc pc = .ok (.invokespecial ix, 3)) (M : mtOk y bytes maxL none 0) (hi : Cond.instanceMethod y ∈ Tbl) (hlk : Cond.methodLinkNest own ix y host ∈ nestB) (hy : y.name = "<init>") (hd : dp' < dp) (hc : nc + mc' ≤ mc) (hs : ns + ms' ≤ ms) (hst : pslots st ≤ 8)
    (hI : ∀ (l : Launch) (B : List BS) (q : Nat), B[q]? = some (.inl (ci, blk)) → BRet l y bytes maxL dp' mc' ms' B q (B.set q (.inl (ci, fc B.length)) ++ ac B.length)) {j e : Nat} (he : ext.length = e) (hj : ext[j]? = some (.inl (ci, blk))) (hx : ext.set j (.inl (ci, fc (bs.length + e))) ++ ac (bs.length + e) = ext') (k : Bk X nL (pc + 3) lv st (cur bs h o ext') (nc + mc') (ns + ms')) : Bk X nL pc lv (pR (bs.length + j) :: st) (cur bs h o ext) nc ns := by
  have hI2 := hI X.1.2.1 (cur bs h o ext) (bs.length + j) (by rw [cur_e]; exact hj)
  rw [cur_len, he, cur_sete, cur_push, hx] at hI2
  exact bk_call F d M hi hlk hy hd hc hs hst hI2 k
end BU

theorem dX6_init_0 : decode cX6_init 0 = .ok (.aload_n 0, 1) := by decide +kernel
theorem dX6_init_1 : decode cX6_init 1 = .ok (.invokespecial 3, 3) := by decide +kernel
theorem dX6_init_4 : decode cX6_init 4 = .ok (.aload_n 0, 1) := by decide +kernel
theorem dX6_init_5 : decode cX6_init 5 = .ok (.bipush 8, 2) := by decide +kernel
theorem dX6_init_7 : decode cX6_init 7 = .ok (.newarray .int, 2) := by decide +kernel
theorem dX6_init_9 : decode cX6_init 9 = .ok (.putfield 9, 3) := by decide +kernel
theorem dX6_init_12 : decode cX6_init 12 = .ok (.aload_n 0, 1) := by decide +kernel
theorem dX6_init_13 : decode cX6_init 13 = .ok (.bipush 8, 2) := by decide +kernel
theorem dX6_init_15 : decode cX6_init 15 = .ok (.newarray .int, 2) := by decide +kernel
theorem dX6_init_17 : decode cX6_init 17 = .ok (.putfield 15, 3) := by decide +kernel
theorem dX6_init_20 : decode cX6_init 20 = .ok (.aload_n 0, 1) := by decide +kernel
theorem dX6_init_21 : decode cX6_init 21 = .ok (.bipush 8, 2) := by decide +kernel
theorem dX6_init_23 : decode cX6_init 23 = .ok (.newarray .int, 2) := by decide +kernel
theorem dX6_init_25 : decode cX6_init 25 = .ok (.putfield 18, 3) := by decide +kernel
theorem dX6_init_28 : decode cX6_init 28 = .ok (.aload_n 0, 1) := by decide +kernel
theorem dX6_init_29 : decode cX6_init 29 = .ok (.bipush 8, 2) := by decide +kernel
theorem dX6_init_31 : decode cX6_init 31 = .ok (.newarray .int, 2) := by decide +kernel
theorem dX6_init_33 : decode cX6_init 33 = .ok (.putfield 21, 3) := by decide +kernel
theorem dX6_init_36 : decode cX6_init 36 = .ok (.aload_n 0, 1) := by decide +kernel
theorem dX6_init_37 : decode cX6_init 37 = .ok (.bipush 8, 2) := by decide +kernel
theorem dX6_init_39 : decode cX6_init 39 = .ok (.newarray .int, 2) := by decide +kernel
theorem dX6_init_41 : decode cX6_init 41 = .ok (.putfield 24, 3) := by decide +kernel
theorem dX6_init_44 : decode cX6_init 44 = .ok (.aload_n 0, 1) := by decide +kernel
theorem dX6_init_45 : decode cX6_init 45 = .ok (.bipush 8, 2) := by decide +kernel
theorem dX6_init_47 : decode cX6_init 47 = .ok (.newarray .int, 2) := by decide +kernel
theorem dX6_init_49 : decode cX6_init 49 = .ok (.putfield 27, 3) := by decide +kernel
theorem dX6_init_52 : decode cX6_init 52 = .ok (.aload_n 0, 1) := by decide +kernel
theorem dX6_init_53 : decode cX6_init 53 = .ok (.bipush 8, 2) := by decide +kernel
theorem dX6_init_55 : decode cX6_init 55 = .ok (.newarray .int, 2) := by decide +kernel
theorem dX6_init_57 : decode cX6_init 57 = .ok (.putfield 30, 3) := by decide +kernel
theorem dX6_init_60 : decode cX6_init 60 = .ok (.aload_n 0, 1) := by decide +kernel
theorem dX6_init_61 : decode cX6_init 61 = .ok (.iconst 5, 1) := by decide +kernel
theorem dX6_init_62 : decode cX6_init 62 = .ok (.newarray .int, 2) := by decide +kernel
theorem dX6_init_64 : decode cX6_init 64 = .ok (.putfield 33, 3) := by decide +kernel
theorem dX6_init_67 : decode cX6_init 67 = .ok (.aload_n 0, 1) := by decide +kernel
theorem dX6_init_68 : decode cX6_init 68 = .ok (.bipush 40, 2) := by decide +kernel
theorem dX6_init_70 : decode cX6_init 70 = .ok (.newarray .int, 2) := by decide +kernel
theorem dX6_init_72 : decode cX6_init 72 = .ok (.putfield 36, 3) := by decide +kernel
theorem dX6_init_75 : decode cX6_init 75 = .ok (.aload_n 0, 1) := by decide +kernel
theorem dX6_init_76 : decode cX6_init 76 = .ok (.sipush 320, 3) := by decide +kernel
theorem dX6_init_79 : decode cX6_init 79 = .ok (.newarray .int, 2) := by decide +kernel
theorem dX6_init_81 : decode cX6_init 81 = .ok (.putfield 39, 3) := by decide +kernel
theorem dX6_init_84 : decode cX6_init 84 = .ok (.return_, 1) := by decide +kernel
def fs_X6 (n : Nat) : List PV := [pI 0, pI 0, pR (n + 0), pR (n + 1), pR (n + 2), pR (n + 3), pR (n + 4), pR (n + 5), pR (n + 6), pR (n + 7), pR (n + 8), pR (n + 9)]
def nw_X6 (n : Nat) : List BS := [.inr (.inl (0, 8)), .inr (.inl (0, 8)), .inr (.inl (0, 8)), .inr (.inl (0, 8)), .inr (.inl (0, 8)), .inr (.inl (0, 8)), .inr (.inl (0, 8)), .inr (.inl (0, 5)), .inr (.inl (0, 40)), .inr (.inl (0, 320))]
theorem i_X6 (l : Launch) (bs : List BS) (h : Nat) (hh : bs[h]? = some (.inl (6, bl_X6))) : BRet l yX6_init cX6_init 1 1 10 421 bs h (bs.set h (.inl (6, fs_X6 bs.length)) ++ nw_X6 bs.length) := by
  refine bret_of (by decide +kernel) rfl (by decide) (fun X hX F G => ?_)
  have hl : h < bs.length := (List.getElem?_eq_some_iff.mp hh).1
  have hb : bs.length = bs.length := rfl
  have hg := G.ad
  refine bk_start hh ?_
  refine bk_aload_n F hg dX6_init_0 0 rfl ?_
  refine bk_obj F dX6_init_1 kO_X6 kO_i kO_c (by decide) (by decide) ?_
  refine bk_aload_n F hg dX6_init_4 0 rfl ?_
  refine bk_bipush F dX6_init_5 rfl ?_
  refine bc_newarr (ext' := [.inr (.inl (0, 8))]) (n := 8) F dX6_init_7 (by decide) kY_int rfl (by decide) rfl (by decide) (Nat.le_of_ble_eq_true rfl) (j := 0) rfl ?_
  refine bc_putF (fs' := [pI 0, pI 0, pR (bs.length + 0), pN, pN, pN, pN, pN, pN, pN, pN, pN]) F G dX6_init_9 kF_X6_9 hl (nf := 12) rfl (by decide) rfl rfl (Or.inr ⟨_, rfl⟩) rfl (e := 1) rfl rfl hb ?_
  refine bk_aload_n F hg dX6_init_12 0 rfl ?_
  refine bk_bipush F dX6_init_13 rfl ?_
  refine bc_newarr (ext' := [.inr (.inl (0, 8)), .inr (.inl (0, 8))]) (n := 8) F dX6_init_15 (by decide) kY_int rfl (by decide) rfl (by decide) (Nat.le_of_ble_eq_true rfl) (j := 1) rfl ?_
  refine bc_putF (fs' := [pI 0, pI 0, pR (bs.length + 0), pR (bs.length + 1), pN, pN, pN, pN, pN, pN, pN, pN]) F G dX6_init_17 kF_X6_15 hl (nf := 12) rfl (by decide) rfl rfl (Or.inr ⟨_, rfl⟩) rfl (e := 2) rfl rfl hb ?_
  refine bk_aload_n F hg dX6_init_20 0 rfl ?_
  refine bk_bipush F dX6_init_21 rfl ?_
  refine bc_newarr (ext' := [.inr (.inl (0, 8)), .inr (.inl (0, 8)), .inr (.inl (0, 8))]) (n := 8) F dX6_init_23 (by decide) kY_int rfl (by decide) rfl (by decide) (Nat.le_of_ble_eq_true rfl) (j := 2) rfl ?_
  refine bc_putF (fs' := [pI 0, pI 0, pR (bs.length + 0), pR (bs.length + 1), pR (bs.length + 2), pN, pN, pN, pN, pN, pN, pN]) F G dX6_init_25 kF_X6_18 hl (nf := 12) rfl (by decide) rfl rfl (Or.inr ⟨_, rfl⟩) rfl (e := 3) rfl rfl hb ?_
  refine bk_aload_n F hg dX6_init_28 0 rfl ?_
  refine bk_bipush F dX6_init_29 rfl ?_
  refine bc_newarr (ext' := [.inr (.inl (0, 8)), .inr (.inl (0, 8)), .inr (.inl (0, 8)), .inr (.inl (0, 8))]) (n := 8) F dX6_init_31 (by decide) kY_int rfl (by decide) rfl (by decide) (Nat.le_of_ble_eq_true rfl) (j := 3) rfl ?_
  refine bc_putF (fs' := [pI 0, pI 0, pR (bs.length + 0), pR (bs.length + 1), pR (bs.length + 2), pR (bs.length + 3), pN, pN, pN, pN, pN, pN]) F G dX6_init_33 kF_X6_21 hl (nf := 12) rfl (by decide) rfl rfl (Or.inr ⟨_, rfl⟩) rfl (e := 4) rfl rfl hb ?_
  refine bk_aload_n F hg dX6_init_36 0 rfl ?_
  refine bk_bipush F dX6_init_37 rfl ?_
  refine bc_newarr (ext' := [.inr (.inl (0, 8)), .inr (.inl (0, 8)), .inr (.inl (0, 8)), .inr (.inl (0, 8)), .inr (.inl (0, 8))]) (n := 8) F dX6_init_39 (by decide) kY_int rfl (by decide) rfl (by decide) (Nat.le_of_ble_eq_true rfl) (j := 4) rfl ?_
  refine bc_putF (fs' := [pI 0, pI 0, pR (bs.length + 0), pR (bs.length + 1), pR (bs.length + 2), pR (bs.length + 3), pR (bs.length + 4), pN, pN, pN, pN, pN]) F G dX6_init_41 kF_X6_24 hl (nf := 12) rfl (by decide) rfl rfl (Or.inr ⟨_, rfl⟩) rfl (e := 5) rfl rfl hb ?_
  refine bk_aload_n F hg dX6_init_44 0 rfl ?_
  refine bk_bipush F dX6_init_45 rfl ?_
  refine bc_newarr (ext' := [.inr (.inl (0, 8)), .inr (.inl (0, 8)), .inr (.inl (0, 8)), .inr (.inl (0, 8)), .inr (.inl (0, 8)), .inr (.inl (0, 8))]) (n := 8) F dX6_init_47 (by decide) kY_int rfl (by decide) rfl (by decide) (Nat.le_of_ble_eq_true rfl) (j := 5) rfl ?_
  refine bc_putF (fs' := [pI 0, pI 0, pR (bs.length + 0), pR (bs.length + 1), pR (bs.length + 2), pR (bs.length + 3), pR (bs.length + 4), pR (bs.length + 5), pN, pN, pN, pN]) F G dX6_init_49 kF_X6_27 hl (nf := 12) rfl (by decide) rfl rfl (Or.inr ⟨_, rfl⟩) rfl (e := 6) rfl rfl hb ?_
  refine bk_aload_n F hg dX6_init_52 0 rfl ?_
  refine bk_bipush F dX6_init_53 rfl ?_
  refine bc_newarr (ext' := [.inr (.inl (0, 8)), .inr (.inl (0, 8)), .inr (.inl (0, 8)), .inr (.inl (0, 8)), .inr (.inl (0, 8)), .inr (.inl (0, 8)), .inr (.inl (0, 8))]) (n := 8) F dX6_init_55 (by decide) kY_int rfl (by decide) rfl (by decide) (Nat.le_of_ble_eq_true rfl) (j := 6) rfl ?_
  refine bc_putF (fs' := [pI 0, pI 0, pR (bs.length + 0), pR (bs.length + 1), pR (bs.length + 2), pR (bs.length + 3), pR (bs.length + 4), pR (bs.length + 5), pR (bs.length + 6), pN, pN, pN]) F G dX6_init_57 kF_X6_30 hl (nf := 12) rfl (by decide) rfl rfl (Or.inr ⟨_, rfl⟩) rfl (e := 7) rfl rfl hb ?_
  refine bk_aload_n F hg dX6_init_60 0 rfl ?_
  refine bk_iconst F dX6_init_61 ?_
  refine bc_newarr (ext' := [.inr (.inl (0, 8)), .inr (.inl (0, 8)), .inr (.inl (0, 8)), .inr (.inl (0, 8)), .inr (.inl (0, 8)), .inr (.inl (0, 8)), .inr (.inl (0, 8)), .inr (.inl (0, 5))]) (n := 5) F dX6_init_62 (by decide) kY_int rfl (by decide) rfl (by decide) (Nat.le_of_ble_eq_true rfl) (j := 7) rfl ?_
  refine bc_putF (fs' := [pI 0, pI 0, pR (bs.length + 0), pR (bs.length + 1), pR (bs.length + 2), pR (bs.length + 3), pR (bs.length + 4), pR (bs.length + 5), pR (bs.length + 6), pR (bs.length + 7), pN, pN]) F G dX6_init_64 kF_X6_33 hl (nf := 12) rfl (by decide) rfl rfl (Or.inr ⟨_, rfl⟩) rfl (e := 8) rfl rfl hb ?_
  refine bk_aload_n F hg dX6_init_67 0 rfl ?_
  refine bk_bipush F dX6_init_68 rfl ?_
  refine bc_newarr (ext' := [.inr (.inl (0, 8)), .inr (.inl (0, 8)), .inr (.inl (0, 8)), .inr (.inl (0, 8)), .inr (.inl (0, 8)), .inr (.inl (0, 8)), .inr (.inl (0, 8)), .inr (.inl (0, 5)), .inr (.inl (0, 40))]) (n := 40) F dX6_init_70 (by decide) kY_int rfl (by decide) rfl (by decide) (Nat.le_of_ble_eq_true rfl) (j := 8) rfl ?_
  refine bc_putF (fs' := [pI 0, pI 0, pR (bs.length + 0), pR (bs.length + 1), pR (bs.length + 2), pR (bs.length + 3), pR (bs.length + 4), pR (bs.length + 5), pR (bs.length + 6), pR (bs.length + 7), pR (bs.length + 8), pN]) F G dX6_init_72 kF_X6_36 hl (nf := 12) rfl (by decide) rfl rfl (Or.inr ⟨_, rfl⟩) rfl (e := 9) rfl rfl hb ?_
  refine bk_aload_n F hg dX6_init_75 0 rfl ?_
  refine bk_sipush F dX6_init_76 rfl ?_
  refine bc_newarr (ext' := [.inr (.inl (0, 8)), .inr (.inl (0, 8)), .inr (.inl (0, 8)), .inr (.inl (0, 8)), .inr (.inl (0, 8)), .inr (.inl (0, 8)), .inr (.inl (0, 8)), .inr (.inl (0, 5)), .inr (.inl (0, 40)), .inr (.inl (0, 320))]) (n := 320) F dX6_init_79 (by decide) kY_int rfl (by decide) rfl (by decide) (Nat.le_of_ble_eq_true rfl) (j := 9) rfl ?_
  refine bc_putF (fs' := [pI 0, pI 0, pR (bs.length + 0), pR (bs.length + 1), pR (bs.length + 2), pR (bs.length + 3), pR (bs.length + 4), pR (bs.length + 5), pR (bs.length + 6), pR (bs.length + 7), pR (bs.length + 8), pR (bs.length + 9)]) F G dX6_init_81 kF_X6_39 hl (nf := 12) rfl (by decide) rfl rfl (Or.inr ⟨_, rfl⟩) rfl (e := 10) rfl rfl hb ?_
  exact bk_ret F G dX6_init_84
theorem dX4_init_0 : decode cX4_init 0 = .ok (.aload_n 0, 1) := by decide +kernel
theorem dX4_init_1 : decode cX4_init 1 = .ok (.invokespecial 3, 3) := by decide +kernel
theorem dX4_init_4 : decode cX4_init 4 = .ok (.aload_n 0, 1) := by decide +kernel
theorem dX4_init_5 : decode cX4_init 5 = .ok (.new 9, 3) := by decide +kernel
theorem dX4_init_8 : decode cX4_init 8 = .ok (.dup, 1) := by decide +kernel
theorem dX4_init_9 : decode cX4_init 9 = .ok (.invokespecial 11, 3) := by decide +kernel
theorem dX4_init_12 : decode cX4_init 12 = .ok (.putfield 12, 3) := by decide +kernel
theorem dX4_init_15 : decode cX4_init 15 = .ok (.aload_n 0, 1) := by decide +kernel
theorem dX4_init_16 : decode cX4_init 16 = .ok (.sipush 400, 3) := by decide +kernel
theorem dX4_init_19 : decode cX4_init 19 = .ok (.newarray .int, 2) := by decide +kernel
theorem dX4_init_21 : decode cX4_init 21 = .ok (.putfield 18, 3) := by decide +kernel
theorem dX4_init_24 : decode cX4_init 24 = .ok (.return_, 1) := by decide +kernel
def fs_X4 (n : Nat) : List PV := [pR (n + 0), pR (n + 11), pI 0, pI 0, pI 0, pI 0, pI 0, pI 0]
def nw_X4 (n : Nat) : List BS := [.inl (6, fs_X6 (n + 1)), .inr (.inl (0, 8)), .inr (.inl (0, 8)), .inr (.inl (0, 8)), .inr (.inl (0, 8)), .inr (.inl (0, 8)), .inr (.inl (0, 8)), .inr (.inl (0, 8)), .inr (.inl (0, 5)), .inr (.inl (0, 40)), .inr (.inl (0, 320)), .inr (.inl (0, 400))]
theorem i_X4 (l : Launch) (bs : List BS) (h : Nat) (hh : bs[h]? = some (.inl (4, bl_X4))) : BRet l yX4_init cX4_init 1 2 12 833 bs h (bs.set h (.inl (4, fs_X4 bs.length)) ++ nw_X4 bs.length) := by
  refine bret_of (by decide +kernel) rfl (by decide) (fun X hX F G => ?_)
  have hl : h < bs.length := (List.getElem?_eq_some_iff.mp hh).1
  have hb : bs.length = bs.length := rfl
  have hg := G.ad
  refine bk_start hh ?_
  refine bk_aload_n F hg dX4_init_0 0 rfl ?_
  refine bk_obj F dX4_init_1 kO_X4 kO_i kO_c (by decide) (by decide) ?_
  refine bk_aload_n F hg dX4_init_4 0 rfl ?_
  refine bc_new (ext' := [.inl (6, bl_X6)]) F dX4_init_5 kC_X6 kG_X4_9 kN_X6 kZ_X6 bl_X6_ok rfl (by decide) (Nat.le_of_ble_eq_true rfl) (j := 0) rfl ?_
  refine bk_dup F dX4_init_8 rfl ?_
  refine bc_call (ext' := [.inl (6, fs_X6 (bs.length + 1)), .inr (.inl (0, 8)), .inr (.inl (0, 8)), .inr (.inl (0, 8)), .inr (.inl (0, 8)), .inr (.inl (0, 8)), .inr (.inl (0, 8)), .inr (.inl (0, 8)), .inr (.inl (0, 5)), .inr (.inl (0, 40)), .inr (.inl (0, 320))]) F dX4_init_9 kM_X6_init kI_X6_init (host := RX7) (by decide +kernel) rfl (by decide) (by decide) (Nat.le_of_ble_eq_true rfl) (Nat.le_of_ble_eq_true rfl) i_X6 (j := 0) (e := 1) rfl rfl rfl ?_
  refine bc_putF (fs' := [pR (bs.length + 0), pN, pI 0, pI 0, pI 0, pI 0, pI 0, pI 0]) F G dX4_init_12 kF_X4_12 hl (nf := 8) rfl (by decide) rfl rfl (Or.inl ⟨_, rfl⟩) rfl (e := 11) rfl rfl hb ?_
  refine bk_aload_n F hg dX4_init_15 0 rfl ?_
  refine bk_sipush F dX4_init_16 rfl ?_
  refine bc_newarr (ext' := [.inl (6, fs_X6 (bs.length + 1)), .inr (.inl (0, 8)), .inr (.inl (0, 8)), .inr (.inl (0, 8)), .inr (.inl (0, 8)), .inr (.inl (0, 8)), .inr (.inl (0, 8)), .inr (.inl (0, 8)), .inr (.inl (0, 5)), .inr (.inl (0, 40)), .inr (.inl (0, 320)), .inr (.inl (0, 400))]) (n := 400) F dX4_init_19 (by decide) kY_int rfl (by decide) rfl (by decide) (Nat.le_of_ble_eq_true rfl) (j := 11) rfl ?_
  refine bc_putF (fs' := [pR (bs.length + 0), pR (bs.length + 11), pI 0, pI 0, pI 0, pI 0, pI 0, pI 0]) F G dX4_init_21 kF_X4_18 hl (nf := 8) rfl (by decide) rfl rfl (Or.inr ⟨_, rfl⟩) rfl (e := 12) rfl rfl hb ?_
  exact bk_ret F G dX4_init_24
theorem dX1_init_0 : decode cX1_init 0 = .ok (.aload_n 0, 1) := by decide +kernel
theorem dX1_init_1 : decode cX1_init 1 = .ok (.invokespecial 3, 3) := by decide +kernel
theorem dX1_init_4 : decode cX1_init 4 = .ok (.aload_n 0, 1) := by decide +kernel
theorem dX1_init_5 : decode cX1_init 5 = .ok (.bipush 8, 2) := by decide +kernel
theorem dX1_init_7 : decode cX1_init 7 = .ok (.newarray .int, 2) := by decide +kernel
theorem dX1_init_9 : decode cX1_init 9 = .ok (.putfield 9, 3) := by decide +kernel
theorem dX1_init_12 : decode cX1_init 12 = .ok (.aload_n 0, 1) := by decide +kernel
theorem dX1_init_13 : decode cX1_init 13 = .ok (.bipush 8, 2) := by decide +kernel
theorem dX1_init_15 : decode cX1_init 15 = .ok (.newarray .int, 2) := by decide +kernel
theorem dX1_init_17 : decode cX1_init 17 = .ok (.putfield 15, 3) := by decide +kernel
theorem dX1_init_20 : decode cX1_init 20 = .ok (.aload_n 0, 1) := by decide +kernel
theorem dX1_init_21 : decode cX1_init 21 = .ok (.bipush 8, 2) := by decide +kernel
theorem dX1_init_23 : decode cX1_init 23 = .ok (.newarray .int, 2) := by decide +kernel
theorem dX1_init_25 : decode cX1_init 25 = .ok (.putfield 18, 3) := by decide +kernel
theorem dX1_init_28 : decode cX1_init 28 = .ok (.aload_n 0, 1) := by decide +kernel
theorem dX1_init_29 : decode cX1_init 29 = .ok (.iconst (-1), 1) := by decide +kernel
theorem dX1_init_30 : decode cX1_init 30 = .ok (.putfield 21, 3) := by decide +kernel
theorem dX1_init_33 : decode cX1_init 33 = .ok (.aload_n 0, 1) := by decide +kernel
theorem dX1_init_34 : decode cX1_init 34 = .ok (.bipush 9, 2) := by decide +kernel
theorem dX1_init_36 : decode cX1_init 36 = .ok (.sipush 4001, 3) := by decide +kernel
theorem dX1_init_39 : decode cX1_init 39 = .ok (.multianewarray 25 2, 4) := by decide +kernel
theorem dX1_init_43 : decode cX1_init 43 = .ok (.putfield 27, 3) := by decide +kernel
theorem dX1_init_46 : decode cX1_init 46 = .ok (.aload_n 0, 1) := by decide +kernel
theorem dX1_init_47 : decode cX1_init 47 = .ok (.bipush 9, 2) := by decide +kernel
theorem dX1_init_49 : decode cX1_init 49 = .ok (.newarray .int, 2) := by decide +kernel
theorem dX1_init_51 : decode cX1_init 51 = .ok (.putfield 30, 3) := by decide +kernel
theorem dX1_init_54 : decode cX1_init 54 = .ok (.aload_n 0, 1) := by decide +kernel
theorem dX1_init_55 : decode cX1_init 55 = .ok (.bipush 9, 2) := by decide +kernel
theorem dX1_init_57 : decode cX1_init 57 = .ok (.newarray .int, 2) := by decide +kernel
theorem dX1_init_59 : decode cX1_init 59 = .ok (.putfield 33, 3) := by decide +kernel
theorem dX1_init_62 : decode cX1_init 62 = .ok (.aload_n 0, 1) := by decide +kernel
theorem dX1_init_63 : decode cX1_init 63 = .ok (.sipush 4001, 3) := by decide +kernel
theorem dX1_init_66 : decode cX1_init 66 = .ok (.newarray .int, 2) := by decide +kernel
theorem dX1_init_68 : decode cX1_init 68 = .ok (.putfield 36, 3) := by decide +kernel
theorem dX1_init_71 : decode cX1_init 71 = .ok (.aload_n 0, 1) := by decide +kernel
theorem dX1_init_72 : decode cX1_init 72 = .ok (.sipush 4001, 3) := by decide +kernel
theorem dX1_init_75 : decode cX1_init 75 = .ok (.newarray .int, 2) := by decide +kernel
theorem dX1_init_77 : decode cX1_init 77 = .ok (.putfield 39, 3) := by decide +kernel
theorem dX1_init_80 : decode cX1_init 80 = .ok (.return_, 1) := by decide +kernel
def fs_X1 (n : Nat) : List PV := [pR (n + 0), pR (n + 1), pR (n + 2), pI 0, pI 0, pI (-1), pR (n + 3), pR (n + 13), pR (n + 14), pR (n + 15), pR (n + 16)]
def nw_X1 (n : Nat) : List BS := [.inr (.inl (0, 8)), .inr (.inl (0, 8)), .inr (.inl (0, 8)), .inr (.inr (5, (List.range 9).map (fun j => some (n + 3 + 1 + j)))), .inr (.inl (0, 4001)), .inr (.inl (0, 4001)), .inr (.inl (0, 4001)), .inr (.inl (0, 4001)), .inr (.inl (0, 4001)), .inr (.inl (0, 4001)), .inr (.inl (0, 4001)), .inr (.inl (0, 4001)), .inr (.inl (0, 4001)), .inr (.inl (0, 9)), .inr (.inl (0, 9)), .inr (.inl (0, 4001)), .inr (.inl (0, 4001))]
theorem i_X1 (l : Launch) (bs : List BS) (h : Nat) (hh : bs[h]? = some (.inl (1, bl_X1))) : BRet l yX1_init cX1_init 1 1 17 44062 bs h (bs.set h (.inl (1, fs_X1 bs.length)) ++ nw_X1 bs.length) := by
  refine bret_of (by decide +kernel) rfl (by decide) (fun X hX F G => ?_)
  have hl : h < bs.length := (List.getElem?_eq_some_iff.mp hh).1
  have hb : bs.length = bs.length := rfl
  have hg := G.ad
  refine bk_start hh ?_
  refine bk_aload_n F hg dX1_init_0 0 rfl ?_
  refine bk_obj F dX1_init_1 kO_X1 kO_i kO_c (by decide) (by decide) ?_
  refine bk_aload_n F hg dX1_init_4 0 rfl ?_
  refine bk_bipush F dX1_init_5 rfl ?_
  refine bc_newarr (ext' := [.inr (.inl (0, 8))]) (n := 8) F dX1_init_7 (by decide) kY_int rfl (by decide) rfl (by decide) (Nat.le_of_ble_eq_true rfl) (j := 0) rfl ?_
  refine bc_putF (fs' := [pR (bs.length + 0), pN, pN, pI 0, pI 0, pI 0, pN, pN, pN, pN, pN]) F G dX1_init_9 kF_X1_9 hl (nf := 11) rfl (by decide) rfl rfl (Or.inr ⟨_, rfl⟩) rfl (e := 1) rfl rfl hb ?_
  refine bk_aload_n F hg dX1_init_12 0 rfl ?_
  refine bk_bipush F dX1_init_13 rfl ?_
  refine bc_newarr (ext' := [.inr (.inl (0, 8)), .inr (.inl (0, 8))]) (n := 8) F dX1_init_15 (by decide) kY_int rfl (by decide) rfl (by decide) (Nat.le_of_ble_eq_true rfl) (j := 1) rfl ?_
  refine bc_putF (fs' := [pR (bs.length + 0), pR (bs.length + 1), pN, pI 0, pI 0, pI 0, pN, pN, pN, pN, pN]) F G dX1_init_17 kF_X1_15 hl (nf := 11) rfl (by decide) rfl rfl (Or.inr ⟨_, rfl⟩) rfl (e := 2) rfl rfl hb ?_
  refine bk_aload_n F hg dX1_init_20 0 rfl ?_
  refine bk_bipush F dX1_init_21 rfl ?_
  refine bc_newarr (ext' := [.inr (.inl (0, 8)), .inr (.inl (0, 8)), .inr (.inl (0, 8))]) (n := 8) F dX1_init_23 (by decide) kY_int rfl (by decide) rfl (by decide) (Nat.le_of_ble_eq_true rfl) (j := 2) rfl ?_
  refine bc_putF (fs' := [pR (bs.length + 0), pR (bs.length + 1), pR (bs.length + 2), pI 0, pI 0, pI 0, pN, pN, pN, pN, pN]) F G dX1_init_25 kF_X1_18 hl (nf := 11) rfl (by decide) rfl rfl (Or.inr ⟨_, rfl⟩) rfl (e := 3) rfl rfl hb ?_
  refine bk_aload_n F hg dX1_init_28 0 rfl ?_
  refine bk_iconst F dX1_init_29 ?_
  refine bc_putI (fs' := [pR (bs.length + 0), pR (bs.length + 1), pR (bs.length + 2), pI 0, pI 0, pI (-1), pN, pN, pN, pN, pN]) F dX1_init_30 kF_X1_21 hl (nf := 11) rfl (by decide) rfl rfl rfl (e := 3) rfl rfl hb ?_
  refine bk_aload_n F hg dX1_init_33 0 rfl ?_
  refine bk_bipush F dX1_init_34 rfl ?_
  refine bk_sipush F dX1_init_36 rfl ?_
  refine bc_rows (ext' := [.inr (.inl (0, 8)), .inr (.inl (0, 8)), .inr (.inl (0, 8)), .inr (.inr (5, (List.range 9).map (fun j => some (bs.length + 3 + 1 + j)))), .inr (.inl (0, 4001)), .inr (.inl (0, 4001)), .inr (.inl (0, 4001)), .inr (.inl (0, 4001)), .inr (.inl (0, 4001)), .inr (.inl (0, 4001)), .inr (.inl (0, 4001)), .inr (.inl (0, 4001)), .inr (.inl (0, 4001))]) (N := 9) (M := 4001) F dX1_init_39 kG_X1_25 rfl rfl (by decide) (by decide) (j := 3) rfl rfl (by decide) (Nat.le_of_ble_eq_true rfl) ?_
  refine bc_putF (fs' := [pR (bs.length + 0), pR (bs.length + 1), pR (bs.length + 2), pI 0, pI 0, pI (-1), pR (bs.length + 3), pN, pN, pN, pN]) F G dX1_init_43 kF_X1_27 hl (nf := 11) rfl (by decide) rfl rfl (Or.inr ⟨_, rfl⟩) rfl (e := 13) rfl rfl hb ?_
  refine bk_aload_n F hg dX1_init_46 0 rfl ?_
  refine bk_bipush F dX1_init_47 rfl ?_
  refine bc_newarr (ext' := [.inr (.inl (0, 8)), .inr (.inl (0, 8)), .inr (.inl (0, 8)), .inr (.inr (5, (List.range 9).map (fun j => some (bs.length + 3 + 1 + j)))), .inr (.inl (0, 4001)), .inr (.inl (0, 4001)), .inr (.inl (0, 4001)), .inr (.inl (0, 4001)), .inr (.inl (0, 4001)), .inr (.inl (0, 4001)), .inr (.inl (0, 4001)), .inr (.inl (0, 4001)), .inr (.inl (0, 4001)), .inr (.inl (0, 9))]) (n := 9) F dX1_init_49 (by decide) kY_int rfl (by decide) rfl (by decide) (Nat.le_of_ble_eq_true rfl) (j := 13) rfl ?_
  refine bc_putF (fs' := [pR (bs.length + 0), pR (bs.length + 1), pR (bs.length + 2), pI 0, pI 0, pI (-1), pR (bs.length + 3), pR (bs.length + 13), pN, pN, pN]) F G dX1_init_51 kF_X1_30 hl (nf := 11) rfl (by decide) rfl rfl (Or.inr ⟨_, rfl⟩) rfl (e := 14) rfl rfl hb ?_
  refine bk_aload_n F hg dX1_init_54 0 rfl ?_
  refine bk_bipush F dX1_init_55 rfl ?_
  refine bc_newarr (ext' := [.inr (.inl (0, 8)), .inr (.inl (0, 8)), .inr (.inl (0, 8)), .inr (.inr (5, (List.range 9).map (fun j => some (bs.length + 3 + 1 + j)))), .inr (.inl (0, 4001)), .inr (.inl (0, 4001)), .inr (.inl (0, 4001)), .inr (.inl (0, 4001)), .inr (.inl (0, 4001)), .inr (.inl (0, 4001)), .inr (.inl (0, 4001)), .inr (.inl (0, 4001)), .inr (.inl (0, 4001)), .inr (.inl (0, 9)), .inr (.inl (0, 9))]) (n := 9) F dX1_init_57 (by decide) kY_int rfl (by decide) rfl (by decide) (Nat.le_of_ble_eq_true rfl) (j := 14) rfl ?_
  refine bc_putF (fs' := [pR (bs.length + 0), pR (bs.length + 1), pR (bs.length + 2), pI 0, pI 0, pI (-1), pR (bs.length + 3), pR (bs.length + 13), pR (bs.length + 14), pN, pN]) F G dX1_init_59 kF_X1_33 hl (nf := 11) rfl (by decide) rfl rfl (Or.inr ⟨_, rfl⟩) rfl (e := 15) rfl rfl hb ?_
  refine bk_aload_n F hg dX1_init_62 0 rfl ?_
  refine bk_sipush F dX1_init_63 rfl ?_
  refine bc_newarr (ext' := [.inr (.inl (0, 8)), .inr (.inl (0, 8)), .inr (.inl (0, 8)), .inr (.inr (5, (List.range 9).map (fun j => some (bs.length + 3 + 1 + j)))), .inr (.inl (0, 4001)), .inr (.inl (0, 4001)), .inr (.inl (0, 4001)), .inr (.inl (0, 4001)), .inr (.inl (0, 4001)), .inr (.inl (0, 4001)), .inr (.inl (0, 4001)), .inr (.inl (0, 4001)), .inr (.inl (0, 4001)), .inr (.inl (0, 9)), .inr (.inl (0, 9)), .inr (.inl (0, 4001))]) (n := 4001) F dX1_init_66 (by decide) kY_int rfl (by decide) rfl (by decide) (Nat.le_of_ble_eq_true rfl) (j := 15) rfl ?_
  refine bc_putF (fs' := [pR (bs.length + 0), pR (bs.length + 1), pR (bs.length + 2), pI 0, pI 0, pI (-1), pR (bs.length + 3), pR (bs.length + 13), pR (bs.length + 14), pR (bs.length + 15), pN]) F G dX1_init_68 kF_X1_36 hl (nf := 11) rfl (by decide) rfl rfl (Or.inr ⟨_, rfl⟩) rfl (e := 16) rfl rfl hb ?_
  refine bk_aload_n F hg dX1_init_71 0 rfl ?_
  refine bk_sipush F dX1_init_72 rfl ?_
  refine bc_newarr (ext' := [.inr (.inl (0, 8)), .inr (.inl (0, 8)), .inr (.inl (0, 8)), .inr (.inr (5, (List.range 9).map (fun j => some (bs.length + 3 + 1 + j)))), .inr (.inl (0, 4001)), .inr (.inl (0, 4001)), .inr (.inl (0, 4001)), .inr (.inl (0, 4001)), .inr (.inl (0, 4001)), .inr (.inl (0, 4001)), .inr (.inl (0, 4001)), .inr (.inl (0, 4001)), .inr (.inl (0, 4001)), .inr (.inl (0, 9)), .inr (.inl (0, 9)), .inr (.inl (0, 4001)), .inr (.inl (0, 4001))]) (n := 4001) F dX1_init_75 (by decide) kY_int rfl (by decide) rfl (by decide) (Nat.le_of_ble_eq_true rfl) (j := 16) rfl ?_
  refine bc_putF (fs' := [pR (bs.length + 0), pR (bs.length + 1), pR (bs.length + 2), pI 0, pI 0, pI (-1), pR (bs.length + 3), pR (bs.length + 13), pR (bs.length + 14), pR (bs.length + 15), pR (bs.length + 16)]) F G dX1_init_77 kF_X1_39 hl (nf := 11) rfl (by decide) rfl rfl (Or.inr ⟨_, rfl⟩) rfl (e := 17) rfl rfl hb ?_
  exact bk_ret F G dX1_init_80
theorem dX0_init_0 : decode cX0_init 0 = .ok (.aload_n 0, 1) := by decide +kernel
theorem dX0_init_1 : decode cX0_init 1 = .ok (.invokespecial 3, 3) := by decide +kernel
theorem dX0_init_4 : decode cX0_init 4 = .ok (.aload_n 0, 1) := by decide +kernel
theorem dX0_init_5 : decode cX0_init 5 = .ok (.bipush 8, 2) := by decide +kernel
theorem dX0_init_7 : decode cX0_init 7 = .ok (.newarray .int, 2) := by decide +kernel
theorem dX0_init_9 : decode cX0_init 9 = .ok (.putfield 9, 3) := by decide +kernel
theorem dX0_init_12 : decode cX0_init 12 = .ok (.aload_n 0, 1) := by decide +kernel
theorem dX0_init_13 : decode cX0_init 13 = .ok (.new 15, 3) := by decide +kernel
theorem dX0_init_16 : decode cX0_init 16 = .ok (.dup, 1) := by decide +kernel
theorem dX0_init_17 : decode cX0_init 17 = .ok (.invokespecial 17, 3) := by decide +kernel
theorem dX0_init_20 : decode cX0_init 20 = .ok (.putfield 18, 3) := by decide +kernel
theorem dX0_init_23 : decode cX0_init 23 = .ok (.aload_n 0, 1) := by decide +kernel
theorem dX0_init_24 : decode cX0_init 24 = .ok (.bipush 8, 2) := by decide +kernel
theorem dX0_init_26 : decode cX0_init 26 = .ok (.newarray .int, 2) := by decide +kernel
theorem dX0_init_28 : decode cX0_init 28 = .ok (.putfield 22, 3) := by decide +kernel
theorem dX0_init_31 : decode cX0_init 31 = .ok (.aload_n 0, 1) := by decide +kernel
theorem dX0_init_32 : decode cX0_init 32 = .ok (.sipush 2501, 3) := by decide +kernel
theorem dX0_init_35 : decode cX0_init 35 = .ok (.newarray .int, 2) := by decide +kernel
theorem dX0_init_37 : decode cX0_init 37 = .ok (.putfield 25, 3) := by decide +kernel
theorem dX0_init_40 : decode cX0_init 40 = .ok (.aload_n 0, 1) := by decide +kernel
theorem dX0_init_41 : decode cX0_init 41 = .ok (.sipush 2501, 3) := by decide +kernel
theorem dX0_init_44 : decode cX0_init 44 = .ok (.newarray .int, 2) := by decide +kernel
theorem dX0_init_46 : decode cX0_init 46 = .ok (.putfield 28, 3) := by decide +kernel
theorem dX0_init_49 : decode cX0_init 49 = .ok (.return_, 1) := by decide +kernel
def fs_X0 (n : Nat) : List PV := [pR (n + 0), pR (n + 1), pR (n + 19), pR (n + 20), pR (n + 21), pI 0, pI 0]
def nw_X0 (n : Nat) : List BS := [.inr (.inl (0, 8)), .inl (1, fs_X1 (n + 2)), .inr (.inl (0, 8)), .inr (.inl (0, 8)), .inr (.inl (0, 8)), .inr (.inr (5, (List.range 9).map (fun j => some (n + 5 + 1 + j)))), .inr (.inl (0, 4001)), .inr (.inl (0, 4001)), .inr (.inl (0, 4001)), .inr (.inl (0, 4001)), .inr (.inl (0, 4001)), .inr (.inl (0, 4001)), .inr (.inl (0, 4001)), .inr (.inl (0, 4001)), .inr (.inl (0, 4001)), .inr (.inl (0, 9)), .inr (.inl (0, 9)), .inr (.inl (0, 4001)), .inr (.inl (0, 4001)), .inr (.inl (0, 8)), .inr (.inl (0, 2501)), .inr (.inl (0, 2501))]
theorem i_X0 (l : Launch) (bs : List BS) (h : Nat) (hh : bs[h]? = some (.inl (0, bl_X0))) : BRet l yX0_init cX0_init 1 2 22 49091 bs h (bs.set h (.inl (0, fs_X0 bs.length)) ++ nw_X0 bs.length) := by
  refine bret_of (by decide +kernel) rfl (by decide) (fun X hX F G => ?_)
  have hl : h < bs.length := (List.getElem?_eq_some_iff.mp hh).1
  have hb : bs.length = bs.length := rfl
  have hg := G.ad
  refine bk_start hh ?_
  refine bk_aload_n F hg dX0_init_0 0 rfl ?_
  refine bk_obj F dX0_init_1 kO_X0 kO_i kO_c (by decide) (by decide) ?_
  refine bk_aload_n F hg dX0_init_4 0 rfl ?_
  refine bk_bipush F dX0_init_5 rfl ?_
  refine bc_newarr (ext' := [.inr (.inl (0, 8))]) (n := 8) F dX0_init_7 (by decide) kY_int rfl (by decide) rfl (by decide) (Nat.le_of_ble_eq_true rfl) (j := 0) rfl ?_
  refine bc_putF (fs' := [pR (bs.length + 0), pN, pN, pN, pN, pI 0, pI 0]) F G dX0_init_9 kF_X0_9 hl (nf := 7) rfl (by decide) rfl rfl (Or.inr ⟨_, rfl⟩) rfl (e := 1) rfl rfl hb ?_
  refine bk_aload_n F hg dX0_init_12 0 rfl ?_
  refine bc_new (ext' := [.inr (.inl (0, 8)), .inl (1, bl_X1)]) F dX0_init_13 kC_X1 kG_X0_15 kN_X1 kZ_X1 bl_X1_ok rfl (by decide) (Nat.le_of_ble_eq_true rfl) (j := 1) rfl ?_
  refine bk_dup F dX0_init_16 rfl ?_
  refine bc_call (ext' := [.inr (.inl (0, 8)), .inl (1, fs_X1 (bs.length + 2)), .inr (.inl (0, 8)), .inr (.inl (0, 8)), .inr (.inl (0, 8)), .inr (.inr (5, (List.range 9).map (fun j => some (bs.length + 5 + 1 + j)))), .inr (.inl (0, 4001)), .inr (.inl (0, 4001)), .inr (.inl (0, 4001)), .inr (.inl (0, 4001)), .inr (.inl (0, 4001)), .inr (.inl (0, 4001)), .inr (.inl (0, 4001)), .inr (.inl (0, 4001)), .inr (.inl (0, 4001)), .inr (.inl (0, 9)), .inr (.inl (0, 9)), .inr (.inl (0, 4001)), .inr (.inl (0, 4001))]) F dX0_init_17 kM_X1_init kI_X1_init (host := RX7) (by decide +kernel) rfl (by decide) (by decide) (Nat.le_of_ble_eq_true rfl) (Nat.le_of_ble_eq_true rfl) i_X1 (j := 1) (e := 2) rfl rfl rfl ?_
  refine bc_putF (fs' := [pR (bs.length + 0), pR (bs.length + 1), pN, pN, pN, pI 0, pI 0]) F G dX0_init_20 kF_X0_18 hl (nf := 7) rfl (by decide) rfl rfl (Or.inl ⟨_, rfl⟩) rfl (e := 19) rfl rfl hb ?_
  refine bk_aload_n F hg dX0_init_23 0 rfl ?_
  refine bk_bipush F dX0_init_24 rfl ?_
  refine bc_newarr (ext' := [.inr (.inl (0, 8)), .inl (1, fs_X1 (bs.length + 2)), .inr (.inl (0, 8)), .inr (.inl (0, 8)), .inr (.inl (0, 8)), .inr (.inr (5, (List.range 9).map (fun j => some (bs.length + 5 + 1 + j)))), .inr (.inl (0, 4001)), .inr (.inl (0, 4001)), .inr (.inl (0, 4001)), .inr (.inl (0, 4001)), .inr (.inl (0, 4001)), .inr (.inl (0, 4001)), .inr (.inl (0, 4001)), .inr (.inl (0, 4001)), .inr (.inl (0, 4001)), .inr (.inl (0, 9)), .inr (.inl (0, 9)), .inr (.inl (0, 4001)), .inr (.inl (0, 4001)), .inr (.inl (0, 8))]) (n := 8) F dX0_init_26 (by decide) kY_int rfl (by decide) rfl (by decide) (Nat.le_of_ble_eq_true rfl) (j := 19) rfl ?_
  refine bc_putF (fs' := [pR (bs.length + 0), pR (bs.length + 1), pR (bs.length + 19), pN, pN, pI 0, pI 0]) F G dX0_init_28 kF_X0_22 hl (nf := 7) rfl (by decide) rfl rfl (Or.inr ⟨_, rfl⟩) rfl (e := 20) rfl rfl hb ?_
  refine bk_aload_n F hg dX0_init_31 0 rfl ?_
  refine bk_sipush F dX0_init_32 rfl ?_
  refine bc_newarr (ext' := [.inr (.inl (0, 8)), .inl (1, fs_X1 (bs.length + 2)), .inr (.inl (0, 8)), .inr (.inl (0, 8)), .inr (.inl (0, 8)), .inr (.inr (5, (List.range 9).map (fun j => some (bs.length + 5 + 1 + j)))), .inr (.inl (0, 4001)), .inr (.inl (0, 4001)), .inr (.inl (0, 4001)), .inr (.inl (0, 4001)), .inr (.inl (0, 4001)), .inr (.inl (0, 4001)), .inr (.inl (0, 4001)), .inr (.inl (0, 4001)), .inr (.inl (0, 4001)), .inr (.inl (0, 9)), .inr (.inl (0, 9)), .inr (.inl (0, 4001)), .inr (.inl (0, 4001)), .inr (.inl (0, 8)), .inr (.inl (0, 2501))]) (n := 2501) F dX0_init_35 (by decide) kY_int rfl (by decide) rfl (by decide) (Nat.le_of_ble_eq_true rfl) (j := 20) rfl ?_
  refine bc_putF (fs' := [pR (bs.length + 0), pR (bs.length + 1), pR (bs.length + 19), pR (bs.length + 20), pN, pI 0, pI 0]) F G dX0_init_37 kF_X0_25 hl (nf := 7) rfl (by decide) rfl rfl (Or.inr ⟨_, rfl⟩) rfl (e := 21) rfl rfl hb ?_
  refine bk_aload_n F hg dX0_init_40 0 rfl ?_
  refine bk_sipush F dX0_init_41 rfl ?_
  refine bc_newarr (ext' := [.inr (.inl (0, 8)), .inl (1, fs_X1 (bs.length + 2)), .inr (.inl (0, 8)), .inr (.inl (0, 8)), .inr (.inl (0, 8)), .inr (.inr (5, (List.range 9).map (fun j => some (bs.length + 5 + 1 + j)))), .inr (.inl (0, 4001)), .inr (.inl (0, 4001)), .inr (.inl (0, 4001)), .inr (.inl (0, 4001)), .inr (.inl (0, 4001)), .inr (.inl (0, 4001)), .inr (.inl (0, 4001)), .inr (.inl (0, 4001)), .inr (.inl (0, 4001)), .inr (.inl (0, 9)), .inr (.inl (0, 9)), .inr (.inl (0, 4001)), .inr (.inl (0, 4001)), .inr (.inl (0, 8)), .inr (.inl (0, 2501)), .inr (.inl (0, 2501))]) (n := 2501) F dX0_init_44 (by decide) kY_int rfl (by decide) rfl (by decide) (Nat.le_of_ble_eq_true rfl) (j := 21) rfl ?_
  refine bc_putF (fs' := [pR (bs.length + 0), pR (bs.length + 1), pR (bs.length + 19), pR (bs.length + 20), pR (bs.length + 21), pI 0, pI 0]) F G dX0_init_46 kF_X0_28 hl (nf := 7) rfl (by decide) rfl rfl (Or.inr ⟨_, rfl⟩) rfl (e := 22) rfl rfl hb ?_
  exact bk_ret F G dX0_init_49
theorem dX2_init_0 : decode cX2_init 0 = .ok (.aload_n 0, 1) := by decide +kernel
theorem dX2_init_1 : decode cX2_init 1 = .ok (.invokespecial 3, 3) := by decide +kernel
theorem dX2_init_4 : decode cX2_init 4 = .ok (.aload_n 0, 1) := by decide +kernel
theorem dX2_init_5 : decode cX2_init 5 = .ok (.bipush 8, 2) := by decide +kernel
theorem dX2_init_7 : decode cX2_init 7 = .ok (.newarray .int, 2) := by decide +kernel
theorem dX2_init_9 : decode cX2_init 9 = .ok (.putfield 9, 3) := by decide +kernel
theorem dX2_init_12 : decode cX2_init 12 = .ok (.aload_n 0, 1) := by decide +kernel
theorem dX2_init_13 : decode cX2_init 13 = .ok (.bipush 8, 2) := by decide +kernel
theorem dX2_init_15 : decode cX2_init 15 = .ok (.newarray .int, 2) := by decide +kernel
theorem dX2_init_17 : decode cX2_init 17 = .ok (.putfield 15, 3) := by decide +kernel
theorem dX2_init_20 : decode cX2_init 20 = .ok (.aload_n 0, 1) := by decide +kernel
theorem dX2_init_21 : decode cX2_init 21 = .ok (.bipush 8, 2) := by decide +kernel
theorem dX2_init_23 : decode cX2_init 23 = .ok (.newarray .int, 2) := by decide +kernel
theorem dX2_init_25 : decode cX2_init 25 = .ok (.putfield 18, 3) := by decide +kernel
theorem dX2_init_28 : decode cX2_init 28 = .ok (.aload_n 0, 1) := by decide +kernel
theorem dX2_init_29 : decode cX2_init 29 = .ok (.new 21, 3) := by decide +kernel
theorem dX2_init_32 : decode cX2_init 32 = .ok (.dup, 1) := by decide +kernel
theorem dX2_init_33 : decode cX2_init 33 = .ok (.invokespecial 23, 3) := by decide +kernel
theorem dX2_init_36 : decode cX2_init 36 = .ok (.putfield 24, 3) := by decide +kernel
theorem dX2_init_39 : decode cX2_init 39 = .ok (.aload_n 0, 1) := by decide +kernel
theorem dX2_init_40 : decode cX2_init 40 = .ok (.bipush 8, 2) := by decide +kernel
theorem dX2_init_42 : decode cX2_init 42 = .ok (.newarray .int, 2) := by decide +kernel
theorem dX2_init_44 : decode cX2_init 44 = .ok (.putfield 28, 3) := by decide +kernel
theorem dX2_init_47 : decode cX2_init 47 = .ok (.return_, 1) := by decide +kernel
def fs_X2 (n : Nat) : List PV := [pR (n + 0), pR (n + 1), pR (n + 2), pI 0, pI 0, pI 0, pI 0, pI 0, pR (n + 3), pR (n + 26)]
def nw_X2 (n : Nat) : List BS := [.inr (.inl (0, 8)), .inr (.inl (0, 8)), .inr (.inl (0, 8)), .inl (0, fs_X0 (n + 4)), .inr (.inl (0, 8)), .inl (1, fs_X1 (n + 6)), .inr (.inl (0, 8)), .inr (.inl (0, 8)), .inr (.inl (0, 8)), .inr (.inr (5, (List.range 9).map (fun j => some (n + 9 + 1 + j)))), .inr (.inl (0, 4001)), .inr (.inl (0, 4001)), .inr (.inl (0, 4001)), .inr (.inl (0, 4001)), .inr (.inl (0, 4001)), .inr (.inl (0, 4001)), .inr (.inl (0, 4001)), .inr (.inl (0, 4001)), .inr (.inl (0, 4001)), .inr (.inl (0, 9)), .inr (.inl (0, 9)), .inr (.inl (0, 4001)), .inr (.inl (0, 4001)), .inr (.inl (0, 8)), .inr (.inl (0, 2501)), .inr (.inl (0, 2501)), .inr (.inl (0, 8))]
theorem i_X2 (l : Launch) (bs : List BS) (h : Nat) (hh : bs[h]? = some (.inl (2, bl_X2))) : BRet l yX2_init cX2_init 1 3 27 49130 bs h (bs.set h (.inl (2, fs_X2 bs.length)) ++ nw_X2 bs.length) := by
  refine bret_of (by decide +kernel) rfl (by decide) (fun X hX F G => ?_)
  have hl : h < bs.length := (List.getElem?_eq_some_iff.mp hh).1
  have hb : bs.length = bs.length := rfl
  have hg := G.ad
  refine bk_start hh ?_
  refine bk_aload_n F hg dX2_init_0 0 rfl ?_
  refine bk_obj F dX2_init_1 kO_X2 kO_i kO_c (by decide) (by decide) ?_
  refine bk_aload_n F hg dX2_init_4 0 rfl ?_
  refine bk_bipush F dX2_init_5 rfl ?_
  refine bc_newarr (ext' := [.inr (.inl (0, 8))]) (n := 8) F dX2_init_7 (by decide) kY_int rfl (by decide) rfl (by decide) (Nat.le_of_ble_eq_true rfl) (j := 0) rfl ?_
  refine bc_putF (fs' := [pR (bs.length + 0), pN, pN, pI 0, pI 0, pI 0, pI 0, pI 0, pN, pN]) F G dX2_init_9 kF_X2_9 hl (nf := 10) rfl (by decide) rfl rfl (Or.inr ⟨_, rfl⟩) rfl (e := 1) rfl rfl hb ?_
  refine bk_aload_n F hg dX2_init_12 0 rfl ?_
  refine bk_bipush F dX2_init_13 rfl ?_
  refine bc_newarr (ext' := [.inr (.inl (0, 8)), .inr (.inl (0, 8))]) (n := 8) F dX2_init_15 (by decide) kY_int rfl (by decide) rfl (by decide) (Nat.le_of_ble_eq_true rfl) (j := 1) rfl ?_
  refine bc_putF (fs' := [pR (bs.length + 0), pR (bs.length + 1), pN, pI 0, pI 0, pI 0, pI 0, pI 0, pN, pN]) F G dX2_init_17 kF_X2_15 hl (nf := 10) rfl (by decide) rfl rfl (Or.inr ⟨_, rfl⟩) rfl (e := 2) rfl rfl hb ?_
  refine bk_aload_n F hg dX2_init_20 0 rfl ?_
  refine bk_bipush F dX2_init_21 rfl ?_
  refine bc_newarr (ext' := [.inr (.inl (0, 8)), .inr (.inl (0, 8)), .inr (.inl (0, 8))]) (n := 8) F dX2_init_23 (by decide) kY_int rfl (by decide) rfl (by decide) (Nat.le_of_ble_eq_true rfl) (j := 2) rfl ?_
  refine bc_putF (fs' := [pR (bs.length + 0), pR (bs.length + 1), pR (bs.length + 2), pI 0, pI 0, pI 0, pI 0, pI 0, pN, pN]) F G dX2_init_25 kF_X2_18 hl (nf := 10) rfl (by decide) rfl rfl (Or.inr ⟨_, rfl⟩) rfl (e := 3) rfl rfl hb ?_
  refine bk_aload_n F hg dX2_init_28 0 rfl ?_
  refine bc_new (ext' := [.inr (.inl (0, 8)), .inr (.inl (0, 8)), .inr (.inl (0, 8)), .inl (0, bl_X0)]) F dX2_init_29 kC_X0 kG_X2_21 kN_X0 kZ_X0 bl_X0_ok rfl (by decide) (Nat.le_of_ble_eq_true rfl) (j := 3) rfl ?_
  refine bk_dup F dX2_init_32 rfl ?_
  refine bc_call (ext' := [.inr (.inl (0, 8)), .inr (.inl (0, 8)), .inr (.inl (0, 8)), .inl (0, fs_X0 (bs.length + 4)), .inr (.inl (0, 8)), .inl (1, fs_X1 (bs.length + 6)), .inr (.inl (0, 8)), .inr (.inl (0, 8)), .inr (.inl (0, 8)), .inr (.inr (5, (List.range 9).map (fun j => some (bs.length + 9 + 1 + j)))), .inr (.inl (0, 4001)), .inr (.inl (0, 4001)), .inr (.inl (0, 4001)), .inr (.inl (0, 4001)), .inr (.inl (0, 4001)), .inr (.inl (0, 4001)), .inr (.inl (0, 4001)), .inr (.inl (0, 4001)), .inr (.inl (0, 4001)), .inr (.inl (0, 9)), .inr (.inl (0, 9)), .inr (.inl (0, 4001)), .inr (.inl (0, 4001)), .inr (.inl (0, 8)), .inr (.inl (0, 2501)), .inr (.inl (0, 2501))]) F dX2_init_33 kM_X0_init kI_X0_init (host := RX7) (by decide +kernel) rfl (by decide) (by decide) (Nat.le_of_ble_eq_true rfl) (Nat.le_of_ble_eq_true rfl) i_X0 (j := 3) (e := 4) rfl rfl rfl ?_
  refine bc_putF (fs' := [pR (bs.length + 0), pR (bs.length + 1), pR (bs.length + 2), pI 0, pI 0, pI 0, pI 0, pI 0, pR (bs.length + 3), pN]) F G dX2_init_36 kF_X2_24 hl (nf := 10) rfl (by decide) rfl rfl (Or.inl ⟨_, rfl⟩) rfl (e := 26) rfl rfl hb ?_
  refine bk_aload_n F hg dX2_init_39 0 rfl ?_
  refine bk_bipush F dX2_init_40 rfl ?_
  refine bc_newarr (ext' := [.inr (.inl (0, 8)), .inr (.inl (0, 8)), .inr (.inl (0, 8)), .inl (0, fs_X0 (bs.length + 4)), .inr (.inl (0, 8)), .inl (1, fs_X1 (bs.length + 6)), .inr (.inl (0, 8)), .inr (.inl (0, 8)), .inr (.inl (0, 8)), .inr (.inr (5, (List.range 9).map (fun j => some (bs.length + 9 + 1 + j)))), .inr (.inl (0, 4001)), .inr (.inl (0, 4001)), .inr (.inl (0, 4001)), .inr (.inl (0, 4001)), .inr (.inl (0, 4001)), .inr (.inl (0, 4001)), .inr (.inl (0, 4001)), .inr (.inl (0, 4001)), .inr (.inl (0, 4001)), .inr (.inl (0, 9)), .inr (.inl (0, 9)), .inr (.inl (0, 4001)), .inr (.inl (0, 4001)), .inr (.inl (0, 8)), .inr (.inl (0, 2501)), .inr (.inl (0, 2501)), .inr (.inl (0, 8))]) (n := 8) F dX2_init_42 (by decide) kY_int rfl (by decide) rfl (by decide) (Nat.le_of_ble_eq_true rfl) (j := 26) rfl ?_
  refine bc_putF (fs' := [pR (bs.length + 0), pR (bs.length + 1), pR (bs.length + 2), pI 0, pI 0, pI 0, pI 0, pI 0, pR (bs.length + 3), pR (bs.length + 26)]) F G dX2_init_44 kF_X2_28 hl (nf := 10) rfl (by decide) rfl rfl (Or.inr ⟨_, rfl⟩) rfl (e := 27) rfl rfl hb ?_
  exact bk_ret F G dX2_init_47
theorem dX3_init_0 : decode cX3_init 0 = .ok (.aload_n 0, 1) := by decide +kernel
theorem dX3_init_1 : decode cX3_init 1 = .ok (.invokespecial 3, 3) := by decide +kernel
theorem dX3_init_4 : decode cX3_init 4 = .ok (.aload_n 0, 1) := by decide +kernel
theorem dX3_init_5 : decode cX3_init 5 = .ok (.bipush 40, 2) := by decide +kernel
theorem dX3_init_7 : decode cX3_init 7 = .ok (.newarray .long, 2) := by decide +kernel
theorem dX3_init_9 : decode cX3_init 9 = .ok (.putfield 11, 3) := by decide +kernel
theorem dX3_init_12 : decode cX3_init 12 = .ok (.return_, 1) := by decide +kernel
def fs_X3 (n : Nat) : List PV := [pR (n + 0)]
def nw_X3 (n : Nat) : List BS := [.inr (.inl (3, 40))]
theorem i_X3 (l : Launch) (bs : List BS) (h : Nat) (hh : bs[h]? = some (.inl (3, bl_X3))) : BRet l yX3_init cX3_init 1 1 1 40 bs h (bs.set h (.inl (3, fs_X3 bs.length)) ++ nw_X3 bs.length) := by
  refine bret_of (by decide +kernel) rfl (by decide) (fun X hX F G => ?_)
  have hl : h < bs.length := (List.getElem?_eq_some_iff.mp hh).1
  have hb : bs.length = bs.length := rfl
  have hg := G.ad
  refine bk_start hh ?_
  refine bk_aload_n F hg dX3_init_0 0 rfl ?_
  refine bk_obj F dX3_init_1 kO_X3 kO_i kO_c (by decide) (by decide) ?_
  refine bk_aload_n F hg dX3_init_4 0 rfl ?_
  refine bk_bipush F dX3_init_5 rfl ?_
  refine bc_newarr (ext' := [.inr (.inl (3, 40))]) (n := 40) F dX3_init_7 (by decide) kY_long rfl (by decide) rfl (by decide) (Nat.le_of_ble_eq_true rfl) (j := 0) rfl ?_
  refine bc_putF (fs' := [pR (bs.length + 0)]) F G dX3_init_9 kF_X3_11 hl (nf := 1) rfl (by decide) rfl rfl (Or.inr ⟨_, rfl⟩) rfl (e := 1) rfl rfl hb ?_
  exact bk_ret F G dX3_init_12
theorem dX5_init_0 : decode cX5_init 0 = .ok (.aload_n 0, 1) := by decide +kernel
theorem dX5_init_1 : decode cX5_init 1 = .ok (.invokespecial 1, 3) := by decide +kernel
theorem dX5_init_4 : decode cX5_init 4 = .ok (.return_, 1) := by decide +kernel
def fs_X5 (n : Nat) : List PV := [pI 0, pI 0, pI 0]
def nw_X5 (n : Nat) : List BS := []
theorem i_X5 (l : Launch) (bs : List BS) (h : Nat) (hh : bs[h]? = some (.inl (5, bl_X5))) : BRet l yX5_init cX5_init 1 1 0 0 bs h (bs.set h (.inl (5, fs_X5 bs.length)) ++ nw_X5 bs.length) := by
  refine bret_of (by decide +kernel) rfl (by decide) (fun X hX F G => ?_)
  have hl : h < bs.length := (List.getElem?_eq_some_iff.mp hh).1
  have hb : bs.length = bs.length := rfl
  have hg := G.ad
  refine bk_start hh ?_
  refine bk_aload_n F hg dX5_init_0 0 rfl ?_
  refine bk_obj F dX5_init_1 kO_X5 kO_i kO_c (by decide) (by decide) ?_
  exact bk_ret F G dX5_init_4
theorem dX8_init_0 : decode cX8_init 0 = .ok (.aload_n 0, 1) := by decide +kernel
theorem dX8_init_1 : decode cX8_init 1 = .ok (.invokespecial 3, 3) := by decide +kernel
theorem dX8_init_4 : decode cX8_init 4 = .ok (.aload_n 0, 1) := by decide +kernel
theorem dX8_init_5 : decode cX8_init 5 = .ok (.sipush 459, 3) := by decide +kernel
theorem dX8_init_8 : decode cX8_init 8 = .ok (.newarray .int, 2) := by decide +kernel
theorem dX8_init_10 : decode cX8_init 10 = .ok (.putfield 9, 3) := by decide +kernel
theorem dX8_init_13 : decode cX8_init 13 = .ok (.aload_n 0, 1) := by decide +kernel
theorem dX8_init_14 : decode cX8_init 14 = .ok (.sipush 459, 3) := by decide +kernel
theorem dX8_init_17 : decode cX8_init 17 = .ok (.newarray .int, 2) := by decide +kernel
theorem dX8_init_19 : decode cX8_init 19 = .ok (.putfield 13, 3) := by decide +kernel
theorem dX8_init_22 : decode cX8_init 22 = .ok (.aload_n 0, 1) := by decide +kernel
theorem dX8_init_23 : decode cX8_init 23 = .ok (.sipush 4590, 3) := by decide +kernel
theorem dX8_init_26 : decode cX8_init 26 = .ok (.newarray .int, 2) := by decide +kernel
theorem dX8_init_28 : decode cX8_init 28 = .ok (.putfield 16, 3) := by decide +kernel
theorem dX8_init_31 : decode cX8_init 31 = .ok (.aload_n 0, 1) := by decide +kernel
theorem dX8_init_32 : decode cX8_init 32 = .ok (.sipush 918, 3) := by decide +kernel
theorem dX8_init_35 : decode cX8_init 35 = .ok (.newarray .int, 2) := by decide +kernel
theorem dX8_init_37 : decode cX8_init 37 = .ok (.putfield 19, 3) := by decide +kernel
theorem dX8_init_40 : decode cX8_init 40 = .ok (.aload_n 0, 1) := by decide +kernel
theorem dX8_init_41 : decode cX8_init 41 = .ok (.iconst 2, 1) := by decide +kernel
theorem dX8_init_42 : decode cX8_init 42 = .ok (.newarray .boolean, 2) := by decide +kernel
theorem dX8_init_44 : decode cX8_init 44 = .ok (.putfield 22, 3) := by decide +kernel
theorem dX8_init_47 : decode cX8_init 47 = .ok (.aload_n 0, 1) := by decide +kernel
theorem dX8_init_48 : decode cX8_init 48 = .ok (.sipush 400, 3) := by decide +kernel
theorem dX8_init_51 : decode cX8_init 51 = .ok (.newarray .byte, 2) := by decide +kernel
theorem dX8_init_53 : decode cX8_init 53 = .ok (.putfield 26, 3) := by decide +kernel
theorem dX8_init_56 : decode cX8_init 56 = .ok (.aload_n 0, 1) := by decide +kernel
theorem dX8_init_57 : decode cX8_init 57 = .ok (.iconst 4, 1) := by decide +kernel
theorem dX8_init_58 : decode cX8_init 58 = .ok (.newarray .boolean, 2) := by decide +kernel
theorem dX8_init_60 : decode cX8_init 60 = .ok (.putfield 30, 3) := by decide +kernel
theorem dX8_init_63 : decode cX8_init 63 = .ok (.aload_n 0, 1) := by decide +kernel
theorem dX8_init_64 : decode cX8_init 64 = .ok (.sipush 22509, 3) := by decide +kernel
theorem dX8_init_67 : decode cX8_init 67 = .ok (.newarray .int, 2) := by decide +kernel
theorem dX8_init_69 : decode cX8_init 69 = .ok (.putfield 33, 3) := by decide +kernel
theorem dX8_init_72 : decode cX8_init 72 = .ok (.aload_n 0, 1) := by decide +kernel
theorem dX8_init_73 : decode cX8_init 73 = .ok (.sipush 2501, 3) := by decide +kernel
theorem dX8_init_76 : decode cX8_init 76 = .ok (.newarray .int, 2) := by decide +kernel
theorem dX8_init_78 : decode cX8_init 78 = .ok (.putfield 36, 3) := by decide +kernel
theorem dX8_init_81 : decode cX8_init 81 = .ok (.aload_n 0, 1) := by decide +kernel
theorem dX8_init_82 : decode cX8_init 82 = .ok (.bipush 8, 2) := by decide +kernel
theorem dX8_init_84 : decode cX8_init 84 = .ok (.newarray .int, 2) := by decide +kernel
theorem dX8_init_86 : decode cX8_init 86 = .ok (.putfield 39, 3) := by decide +kernel
theorem dX8_init_89 : decode cX8_init 89 = .ok (.aload_n 0, 1) := by decide +kernel
theorem dX8_init_90 : decode cX8_init 90 = .ok (.bipush 8, 2) := by decide +kernel
theorem dX8_init_92 : decode cX8_init 92 = .ok (.newarray .int, 2) := by decide +kernel
theorem dX8_init_94 : decode cX8_init 94 = .ok (.putfield 42, 3) := by decide +kernel
theorem dX8_init_97 : decode cX8_init 97 = .ok (.aload_n 0, 1) := by decide +kernel
theorem dX8_init_98 : decode cX8_init 98 = .ok (.ldc 45, 2) := by decide +kernel
theorem dX8_init_100 : decode cX8_init 100 = .ok (.newarray .int, 2) := by decide +kernel
theorem dX8_init_102 : decode cX8_init 102 = .ok (.putfield 46, 3) := by decide +kernel
theorem dX8_init_105 : decode cX8_init 105 = .ok (.aload_n 0, 1) := by decide +kernel
theorem dX8_init_106 : decode cX8_init 106 = .ok (.bipush 8, 2) := by decide +kernel
theorem dX8_init_108 : decode cX8_init 108 = .ok (.newarray .int, 2) := by decide +kernel
theorem dX8_init_110 : decode cX8_init 110 = .ok (.putfield 49, 3) := by decide +kernel
theorem dX8_init_113 : decode cX8_init 113 = .ok (.aload_n 0, 1) := by decide +kernel
theorem dX8_init_114 : decode cX8_init 114 = .ok (.bipush 8, 2) := by decide +kernel
theorem dX8_init_116 : decode cX8_init 116 = .ok (.newarray .int, 2) := by decide +kernel
theorem dX8_init_118 : decode cX8_init 118 = .ok (.putfield 52, 3) := by decide +kernel
theorem dX8_init_121 : decode cX8_init 121 = .ok (.aload_n 0, 1) := by decide +kernel
theorem dX8_init_122 : decode cX8_init 122 = .ok (.bipush 8, 2) := by decide +kernel
theorem dX8_init_124 : decode cX8_init 124 = .ok (.newarray .int, 2) := by decide +kernel
theorem dX8_init_126 : decode cX8_init 126 = .ok (.putfield 55, 3) := by decide +kernel
theorem dX8_init_129 : decode cX8_init 129 = .ok (.aload_n 0, 1) := by decide +kernel
theorem dX8_init_130 : decode cX8_init 130 = .ok (.bipush 8, 2) := by decide +kernel
theorem dX8_init_132 : decode cX8_init 132 = .ok (.newarray .int, 2) := by decide +kernel
theorem dX8_init_134 : decode cX8_init 134 = .ok (.putfield 58, 3) := by decide +kernel
theorem dX8_init_137 : decode cX8_init 137 = .ok (.aload_n 0, 1) := by decide +kernel
theorem dX8_init_138 : decode cX8_init 138 = .ok (.sipush 2501, 3) := by decide +kernel
theorem dX8_init_141 : decode cX8_init 141 = .ok (.newarray .long, 2) := by decide +kernel
theorem dX8_init_143 : decode cX8_init 143 = .ok (.putfield 61, 3) := by decide +kernel
theorem dX8_init_146 : decode cX8_init 146 = .ok (.aload_n 0, 1) := by decide +kernel
theorem dX8_init_147 : decode cX8_init 147 = .ok (.bipush 8, 2) := by decide +kernel
theorem dX8_init_149 : decode cX8_init 149 = .ok (.newarray .int, 2) := by decide +kernel
theorem dX8_init_151 : decode cX8_init 151 = .ok (.putfield 65, 3) := by decide +kernel
theorem dX8_init_154 : decode cX8_init 154 = .ok (.aload_n 0, 1) := by decide +kernel
theorem dX8_init_155 : decode cX8_init 155 = .ok (.bipush 8, 2) := by decide +kernel
theorem dX8_init_157 : decode cX8_init 157 = .ok (.newarray .int, 2) := by decide +kernel
theorem dX8_init_159 : decode cX8_init 159 = .ok (.putfield 68, 3) := by decide +kernel
theorem dX8_init_162 : decode cX8_init 162 = .ok (.return_, 1) := by decide +kernel
def fs_X8 (n : Nat) : List PV := [pR (n + 0), pR (n + 1), pR (n + 2), pR (n + 3), pR (n + 4), pI 0, pR (n + 5), pI 0, pI 0, pI 0, pI 0, pR (n + 6), pR (n + 7), pR (n + 8), pR (n + 9), pR (n + 10), pR (n + 11), pR (n + 12), pR (n + 13), pR (n + 14), pR (n + 15), pI 0, pI 0, pI 0, pI 0, pI 0, pI 0, pI 0, pR (n + 16), pR (n + 17), pR (n + 18), pI 0, pI 0, pI 0]
def nw_X8 (n : Nat) : List BS := [.inr (.inl (0, 459)), .inr (.inl (0, 459)), .inr (.inl (0, 4590)), .inr (.inl (0, 918)), .inr (.inl (2, 2)), .inr (.inl (1, 400)), .inr (.inl (2, 4)), .inr (.inl (0, 22509)), .inr (.inl (0, 2501)), .inr (.inl (0, 8)), .inr (.inl (0, 8)), .inr (.inl (0, 36009)), .inr (.inl (0, 8)), .inr (.inl (0, 8)), .inr (.inl (0, 8)), .inr (.inl (0, 8)), .inr (.inl (3, 2501)), .inr (.inl (0, 8)), .inr (.inl (0, 8))]
theorem i_X8 (l : Launch) (bs : List BS) (h : Nat) (hh : bs[h]? = some (.inl (8, bl_X8))) : BRet l yX8_init cX8_init 1 1 19 70416 bs h (bs.set h (.inl (8, fs_X8 bs.length)) ++ nw_X8 bs.length) := by
  refine bret_of (by decide +kernel) rfl (by decide) (fun X hX F G => ?_)
  have hl : h < bs.length := (List.getElem?_eq_some_iff.mp hh).1
  have hb : bs.length = bs.length := rfl
  have hg := G.ad
  refine bk_start hh ?_
  refine bk_aload_n F hg dX8_init_0 0 rfl ?_
  refine bk_obj F dX8_init_1 kO_X8 kO_i kO_c (by decide) (by decide) ?_
  refine bk_aload_n F hg dX8_init_4 0 rfl ?_
  refine bk_sipush F dX8_init_5 rfl ?_
  refine bc_newarr (ext' := [.inr (.inl (0, 459))]) (n := 459) F dX8_init_8 (by decide) kY_int rfl (by decide) rfl (by decide) (Nat.le_of_ble_eq_true rfl) (j := 0) rfl ?_
  refine bc_putF (fs' := [pR (bs.length + 0), pN, pN, pN, pN, pI 0, pN, pI 0, pI 0, pI 0, pI 0, pN, pN, pN, pN, pN, pN, pN, pN, pN, pN, pI 0, pI 0, pI 0, pI 0, pI 0, pI 0, pI 0, pN, pN, pN, pI 0, pI 0, pI 0]) F G dX8_init_10 kF_X8_9 hl (nf := 34) rfl (by decide) rfl rfl (Or.inr ⟨_, rfl⟩) rfl (e := 1) rfl rfl hb ?_
  refine bk_aload_n F hg dX8_init_13 0 rfl ?_
  refine bk_sipush F dX8_init_14 rfl ?_
  refine bc_newarr (ext' := [.inr (.inl (0, 459)), .inr (.inl (0, 459))]) (n := 459) F dX8_init_17 (by decide) kY_int rfl (by decide) rfl (by decide) (Nat.le_of_ble_eq_true rfl) (j := 1) rfl ?_
  refine bc_putF (fs' := [pR (bs.length + 0), pR (bs.length + 1), pN, pN, pN, pI 0, pN, pI 0, pI 0, pI 0, pI 0, pN, pN, pN, pN, pN, pN, pN, pN, pN, pN, pI 0, pI 0, pI 0, pI 0, pI 0, pI 0, pI 0, pN, pN, pN, pI 0, pI 0, pI 0]) F G dX8_init_19 kF_X8_13 hl (nf := 34) rfl (by decide) rfl rfl (Or.inr ⟨_, rfl⟩) rfl (e := 2) rfl rfl hb ?_
  refine bk_aload_n F hg dX8_init_22 0 rfl ?_
  refine bk_sipush F dX8_init_23 rfl ?_
  refine bc_newarr (ext' := [.inr (.inl (0, 459)), .inr (.inl (0, 459)), .inr (.inl (0, 4590))]) (n := 4590) F dX8_init_26 (by decide) kY_int rfl (by decide) rfl (by decide) (Nat.le_of_ble_eq_true rfl) (j := 2) rfl ?_
  refine bc_putF (fs' := [pR (bs.length + 0), pR (bs.length + 1), pR (bs.length + 2), pN, pN, pI 0, pN, pI 0, pI 0, pI 0, pI 0, pN, pN, pN, pN, pN, pN, pN, pN, pN, pN, pI 0, pI 0, pI 0, pI 0, pI 0, pI 0, pI 0, pN, pN, pN, pI 0, pI 0, pI 0]) F G dX8_init_28 kF_X8_16 hl (nf := 34) rfl (by decide) rfl rfl (Or.inr ⟨_, rfl⟩) rfl (e := 3) rfl rfl hb ?_
  refine bk_aload_n F hg dX8_init_31 0 rfl ?_
  refine bk_sipush F dX8_init_32 rfl ?_
  refine bc_newarr (ext' := [.inr (.inl (0, 459)), .inr (.inl (0, 459)), .inr (.inl (0, 4590)), .inr (.inl (0, 918))]) (n := 918) F dX8_init_35 (by decide) kY_int rfl (by decide) rfl (by decide) (Nat.le_of_ble_eq_true rfl) (j := 3) rfl ?_
  refine bc_putF (fs' := [pR (bs.length + 0), pR (bs.length + 1), pR (bs.length + 2), pR (bs.length + 3), pN, pI 0, pN, pI 0, pI 0, pI 0, pI 0, pN, pN, pN, pN, pN, pN, pN, pN, pN, pN, pI 0, pI 0, pI 0, pI 0, pI 0, pI 0, pI 0, pN, pN, pN, pI 0, pI 0, pI 0]) F G dX8_init_37 kF_X8_19 hl (nf := 34) rfl (by decide) rfl rfl (Or.inr ⟨_, rfl⟩) rfl (e := 4) rfl rfl hb ?_
  refine bk_aload_n F hg dX8_init_40 0 rfl ?_
  refine bk_iconst F dX8_init_41 ?_
  refine bc_newarr (ext' := [.inr (.inl (0, 459)), .inr (.inl (0, 459)), .inr (.inl (0, 4590)), .inr (.inl (0, 918)), .inr (.inl (2, 2))]) (n := 2) F dX8_init_42 (by decide) kY_boolean rfl (by decide) rfl (by decide) (Nat.le_of_ble_eq_true rfl) (j := 4) rfl ?_
  refine bc_putF (fs' := [pR (bs.length + 0), pR (bs.length + 1), pR (bs.length + 2), pR (bs.length + 3), pR (bs.length + 4), pI 0, pN, pI 0, pI 0, pI 0, pI 0, pN, pN, pN, pN, pN, pN, pN, pN, pN, pN, pI 0, pI 0, pI 0, pI 0, pI 0, pI 0, pI 0, pN, pN, pN, pI 0, pI 0, pI 0]) F G dX8_init_44 kF_X8_22 hl (nf := 34) rfl (by decide) rfl rfl (Or.inr ⟨_, rfl⟩) rfl (e := 5) rfl rfl hb ?_
  refine bk_aload_n F hg dX8_init_47 0 rfl ?_
  refine bk_sipush F dX8_init_48 rfl ?_
  refine bc_newarr (ext' := [.inr (.inl (0, 459)), .inr (.inl (0, 459)), .inr (.inl (0, 4590)), .inr (.inl (0, 918)), .inr (.inl (2, 2)), .inr (.inl (1, 400))]) (n := 400) F dX8_init_51 (by decide) kY_byte rfl (by decide) rfl (by decide) (Nat.le_of_ble_eq_true rfl) (j := 5) rfl ?_
  refine bc_putF (fs' := [pR (bs.length + 0), pR (bs.length + 1), pR (bs.length + 2), pR (bs.length + 3), pR (bs.length + 4), pI 0, pR (bs.length + 5), pI 0, pI 0, pI 0, pI 0, pN, pN, pN, pN, pN, pN, pN, pN, pN, pN, pI 0, pI 0, pI 0, pI 0, pI 0, pI 0, pI 0, pN, pN, pN, pI 0, pI 0, pI 0]) F G dX8_init_53 kF_X8_26 hl (nf := 34) rfl (by decide) rfl rfl (Or.inr ⟨_, rfl⟩) rfl (e := 6) rfl rfl hb ?_
  refine bk_aload_n F hg dX8_init_56 0 rfl ?_
  refine bk_iconst F dX8_init_57 ?_
  refine bc_newarr (ext' := [.inr (.inl (0, 459)), .inr (.inl (0, 459)), .inr (.inl (0, 4590)), .inr (.inl (0, 918)), .inr (.inl (2, 2)), .inr (.inl (1, 400)), .inr (.inl (2, 4))]) (n := 4) F dX8_init_58 (by decide) kY_boolean rfl (by decide) rfl (by decide) (Nat.le_of_ble_eq_true rfl) (j := 6) rfl ?_
  refine bc_putF (fs' := [pR (bs.length + 0), pR (bs.length + 1), pR (bs.length + 2), pR (bs.length + 3), pR (bs.length + 4), pI 0, pR (bs.length + 5), pI 0, pI 0, pI 0, pI 0, pR (bs.length + 6), pN, pN, pN, pN, pN, pN, pN, pN, pN, pI 0, pI 0, pI 0, pI 0, pI 0, pI 0, pI 0, pN, pN, pN, pI 0, pI 0, pI 0]) F G dX8_init_60 kF_X8_30 hl (nf := 34) rfl (by decide) rfl rfl (Or.inr ⟨_, rfl⟩) rfl (e := 7) rfl rfl hb ?_
  refine bk_aload_n F hg dX8_init_63 0 rfl ?_
  refine bk_sipush F dX8_init_64 rfl ?_
  refine bc_newarr (ext' := [.inr (.inl (0, 459)), .inr (.inl (0, 459)), .inr (.inl (0, 4590)), .inr (.inl (0, 918)), .inr (.inl (2, 2)), .inr (.inl (1, 400)), .inr (.inl (2, 4)), .inr (.inl (0, 22509))]) (n := 22509) F dX8_init_67 (by decide) kY_int rfl (by decide) rfl (by decide) (Nat.le_of_ble_eq_true rfl) (j := 7) rfl ?_
  refine bc_putF (fs' := [pR (bs.length + 0), pR (bs.length + 1), pR (bs.length + 2), pR (bs.length + 3), pR (bs.length + 4), pI 0, pR (bs.length + 5), pI 0, pI 0, pI 0, pI 0, pR (bs.length + 6), pR (bs.length + 7), pN, pN, pN, pN, pN, pN, pN, pN, pI 0, pI 0, pI 0, pI 0, pI 0, pI 0, pI 0, pN, pN, pN, pI 0, pI 0, pI 0]) F G dX8_init_69 kF_X8_33 hl (nf := 34) rfl (by decide) rfl rfl (Or.inr ⟨_, rfl⟩) rfl (e := 8) rfl rfl hb ?_
  refine bk_aload_n F hg dX8_init_72 0 rfl ?_
  refine bk_sipush F dX8_init_73 rfl ?_
  refine bc_newarr (ext' := [.inr (.inl (0, 459)), .inr (.inl (0, 459)), .inr (.inl (0, 4590)), .inr (.inl (0, 918)), .inr (.inl (2, 2)), .inr (.inl (1, 400)), .inr (.inl (2, 4)), .inr (.inl (0, 22509)), .inr (.inl (0, 2501))]) (n := 2501) F dX8_init_76 (by decide) kY_int rfl (by decide) rfl (by decide) (Nat.le_of_ble_eq_true rfl) (j := 8) rfl ?_
  refine bc_putF (fs' := [pR (bs.length + 0), pR (bs.length + 1), pR (bs.length + 2), pR (bs.length + 3), pR (bs.length + 4), pI 0, pR (bs.length + 5), pI 0, pI 0, pI 0, pI 0, pR (bs.length + 6), pR (bs.length + 7), pR (bs.length + 8), pN, pN, pN, pN, pN, pN, pN, pI 0, pI 0, pI 0, pI 0, pI 0, pI 0, pI 0, pN, pN, pN, pI 0, pI 0, pI 0]) F G dX8_init_78 kF_X8_36 hl (nf := 34) rfl (by decide) rfl rfl (Or.inr ⟨_, rfl⟩) rfl (e := 9) rfl rfl hb ?_
  refine bk_aload_n F hg dX8_init_81 0 rfl ?_
  refine bk_bipush F dX8_init_82 rfl ?_
  refine bc_newarr (ext' := [.inr (.inl (0, 459)), .inr (.inl (0, 459)), .inr (.inl (0, 4590)), .inr (.inl (0, 918)), .inr (.inl (2, 2)), .inr (.inl (1, 400)), .inr (.inl (2, 4)), .inr (.inl (0, 22509)), .inr (.inl (0, 2501)), .inr (.inl (0, 8))]) (n := 8) F dX8_init_84 (by decide) kY_int rfl (by decide) rfl (by decide) (Nat.le_of_ble_eq_true rfl) (j := 9) rfl ?_
  refine bc_putF (fs' := [pR (bs.length + 0), pR (bs.length + 1), pR (bs.length + 2), pR (bs.length + 3), pR (bs.length + 4), pI 0, pR (bs.length + 5), pI 0, pI 0, pI 0, pI 0, pR (bs.length + 6), pR (bs.length + 7), pR (bs.length + 8), pR (bs.length + 9), pN, pN, pN, pN, pN, pN, pI 0, pI 0, pI 0, pI 0, pI 0, pI 0, pI 0, pN, pN, pN, pI 0, pI 0, pI 0]) F G dX8_init_86 kF_X8_39 hl (nf := 34) rfl (by decide) rfl rfl (Or.inr ⟨_, rfl⟩) rfl (e := 10) rfl rfl hb ?_
  refine bk_aload_n F hg dX8_init_89 0 rfl ?_
  refine bk_bipush F dX8_init_90 rfl ?_
  refine bc_newarr (ext' := [.inr (.inl (0, 459)), .inr (.inl (0, 459)), .inr (.inl (0, 4590)), .inr (.inl (0, 918)), .inr (.inl (2, 2)), .inr (.inl (1, 400)), .inr (.inl (2, 4)), .inr (.inl (0, 22509)), .inr (.inl (0, 2501)), .inr (.inl (0, 8)), .inr (.inl (0, 8))]) (n := 8) F dX8_init_92 (by decide) kY_int rfl (by decide) rfl (by decide) (Nat.le_of_ble_eq_true rfl) (j := 10) rfl ?_
  refine bc_putF (fs' := [pR (bs.length + 0), pR (bs.length + 1), pR (bs.length + 2), pR (bs.length + 3), pR (bs.length + 4), pI 0, pR (bs.length + 5), pI 0, pI 0, pI 0, pI 0, pR (bs.length + 6), pR (bs.length + 7), pR (bs.length + 8), pR (bs.length + 9), pR (bs.length + 10), pN, pN, pN, pN, pN, pI 0, pI 0, pI 0, pI 0, pI 0, pI 0, pI 0, pN, pN, pN, pI 0, pI 0, pI 0]) F G dX8_init_94 kF_X8_42 hl (nf := 34) rfl (by decide) rfl rfl (Or.inr ⟨_, rfl⟩) rfl (e := 11) rfl rfl hb ?_
  refine bk_aload_n F hg dX8_init_97 0 rfl ?_
  refine bk_ldc (n := 36009) F dX8_init_98 kK_X8_45 (by first | rfl | decide +kernel) ?_
  refine bc_newarr (ext' := [.inr (.inl (0, 459)), .inr (.inl (0, 459)), .inr (.inl (0, 4590)), .inr (.inl (0, 918)), .inr (.inl (2, 2)), .inr (.inl (1, 400)), .inr (.inl (2, 4)), .inr (.inl (0, 22509)), .inr (.inl (0, 2501)), .inr (.inl (0, 8)), .inr (.inl (0, 8)), .inr (.inl (0, 36009))]) (n := 36009) F dX8_init_100 (by decide) kY_int rfl (by decide) rfl (by decide) (Nat.le_of_ble_eq_true rfl) (j := 11) rfl ?_
  refine bc_putF (fs' := [pR (bs.length + 0), pR (bs.length + 1), pR (bs.length + 2), pR (bs.length + 3), pR (bs.length + 4), pI 0, pR (bs.length + 5), pI 0, pI 0, pI 0, pI 0, pR (bs.length + 6), pR (bs.length + 7), pR (bs.length + 8), pR (bs.length + 9), pR (bs.length + 10), pR (bs.length + 11), pN, pN, pN, pN, pI 0, pI 0, pI 0, pI 0, pI 0, pI 0, pI 0, pN, pN, pN, pI 0, pI 0, pI 0]) F G dX8_init_102 kF_X8_46 hl (nf := 34) rfl (by decide) rfl rfl (Or.inr ⟨_, rfl⟩) rfl (e := 12) rfl rfl hb ?_
  refine bk_aload_n F hg dX8_init_105 0 rfl ?_
  refine bk_bipush F dX8_init_106 rfl ?_
  refine bc_newarr (ext' := [.inr (.inl (0, 459)), .inr (.inl (0, 459)), .inr (.inl (0, 4590)), .inr (.inl (0, 918)), .inr (.inl (2, 2)), .inr (.inl (1, 400)), .inr (.inl (2, 4)), .inr (.inl (0, 22509)), .inr (.inl (0, 2501)), .inr (.inl (0, 8)), .inr (.inl (0, 8)), .inr (.inl (0, 36009)), .inr (.inl (0, 8))]) (n := 8) F dX8_init_108 (by decide) kY_int rfl (by decide) rfl (by decide) (Nat.le_of_ble_eq_true rfl) (j := 12) rfl ?_
  refine bc_putF (fs' := [pR (bs.length + 0), pR (bs.length + 1), pR (bs.length + 2), pR (bs.length + 3), pR (bs.length + 4), pI 0, pR (bs.length + 5), pI 0, pI 0, pI 0, pI 0, pR (bs.length + 6), pR (bs.length + 7), pR (bs.length + 8), pR (bs.length + 9), pR (bs.length + 10), pR (bs.length + 11), pR (bs.length + 12), pN, pN, pN, pI 0, pI 0, pI 0, pI 0, pI 0, pI 0, pI 0, pN, pN, pN, pI 0, pI 0, pI 0]) F G dX8_init_110 kF_X8_49 hl (nf := 34) rfl (by decide) rfl rfl (Or.inr ⟨_, rfl⟩) rfl (e := 13) rfl rfl hb ?_
  refine bk_aload_n F hg dX8_init_113 0 rfl ?_
  refine bk_bipush F dX8_init_114 rfl ?_
  refine bc_newarr (ext' := [.inr (.inl (0, 459)), .inr (.inl (0, 459)), .inr (.inl (0, 4590)), .inr (.inl (0, 918)), .inr (.inl (2, 2)), .inr (.inl (1, 400)), .inr (.inl (2, 4)), .inr (.inl (0, 22509)), .inr (.inl (0, 2501)), .inr (.inl (0, 8)), .inr (.inl (0, 8)), .inr (.inl (0, 36009)), .inr (.inl (0, 8)), .inr (.inl (0, 8))]) (n := 8) F dX8_init_116 (by decide) kY_int rfl (by decide) rfl (by decide) (Nat.le_of_ble_eq_true rfl) (j := 13) rfl ?_
  refine bc_putF (fs' := [pR (bs.length + 0), pR (bs.length + 1), pR (bs.length + 2), pR (bs.length + 3), pR (bs.length + 4), pI 0, pR (bs.length + 5), pI 0, pI 0, pI 0, pI 0, pR (bs.length + 6), pR (bs.length + 7), pR (bs.length + 8), pR (bs.length + 9), pR (bs.length + 10), pR (bs.length + 11), pR (bs.length + 12), pR (bs.length + 13), pN, pN, pI 0, pI 0, pI 0, pI 0, pI 0, pI 0, pI 0, pN, pN, pN, pI 0, pI 0, pI 0]) F G dX8_init_118 kF_X8_52 hl (nf := 34) rfl (by decide) rfl rfl (Or.inr ⟨_, rfl⟩) rfl (e := 14) rfl rfl hb ?_
  refine bk_aload_n F hg dX8_init_121 0 rfl ?_
  refine bk_bipush F dX8_init_122 rfl ?_
  refine bc_newarr (ext' := [.inr (.inl (0, 459)), .inr (.inl (0, 459)), .inr (.inl (0, 4590)), .inr (.inl (0, 918)), .inr (.inl (2, 2)), .inr (.inl (1, 400)), .inr (.inl (2, 4)), .inr (.inl (0, 22509)), .inr (.inl (0, 2501)), .inr (.inl (0, 8)), .inr (.inl (0, 8)), .inr (.inl (0, 36009)), .inr (.inl (0, 8)), .inr (.inl (0, 8)), .inr (.inl (0, 8))]) (n := 8) F dX8_init_124 (by decide) kY_int rfl (by decide) rfl (by decide) (Nat.le_of_ble_eq_true rfl) (j := 14) rfl ?_
  refine bc_putF (fs' := [pR (bs.length + 0), pR (bs.length + 1), pR (bs.length + 2), pR (bs.length + 3), pR (bs.length + 4), pI 0, pR (bs.length + 5), pI 0, pI 0, pI 0, pI 0, pR (bs.length + 6), pR (bs.length + 7), pR (bs.length + 8), pR (bs.length + 9), pR (bs.length + 10), pR (bs.length + 11), pR (bs.length + 12), pR (bs.length + 13), pR (bs.length + 14), pN, pI 0, pI 0, pI 0, pI 0, pI 0, pI 0, pI 0, pN, pN, pN, pI 0, pI 0, pI 0]) F G dX8_init_126 kF_X8_55 hl (nf := 34) rfl (by decide) rfl rfl (Or.inr ⟨_, rfl⟩) rfl (e := 15) rfl rfl hb ?_
  refine bk_aload_n F hg dX8_init_129 0 rfl ?_
  refine bk_bipush F dX8_init_130 rfl ?_
  refine bc_newarr (ext' := [.inr (.inl (0, 459)), .inr (.inl (0, 459)), .inr (.inl (0, 4590)), .inr (.inl (0, 918)), .inr (.inl (2, 2)), .inr (.inl (1, 400)), .inr (.inl (2, 4)), .inr (.inl (0, 22509)), .inr (.inl (0, 2501)), .inr (.inl (0, 8)), .inr (.inl (0, 8)), .inr (.inl (0, 36009)), .inr (.inl (0, 8)), .inr (.inl (0, 8)), .inr (.inl (0, 8)), .inr (.inl (0, 8))]) (n := 8) F dX8_init_132 (by decide) kY_int rfl (by decide) rfl (by decide) (Nat.le_of_ble_eq_true rfl) (j := 15) rfl ?_
  refine bc_putF (fs' := [pR (bs.length + 0), pR (bs.length + 1), pR (bs.length + 2), pR (bs.length + 3), pR (bs.length + 4), pI 0, pR (bs.length + 5), pI 0, pI 0, pI 0, pI 0, pR (bs.length + 6), pR (bs.length + 7), pR (bs.length + 8), pR (bs.length + 9), pR (bs.length + 10), pR (bs.length + 11), pR (bs.length + 12), pR (bs.length + 13), pR (bs.length + 14), pR (bs.length + 15), pI 0, pI 0, pI 0, pI 0, pI 0, pI 0, pI 0, pN, pN, pN, pI 0, pI 0, pI 0]) F G dX8_init_134 kF_X8_58 hl (nf := 34) rfl (by decide) rfl rfl (Or.inr ⟨_, rfl⟩) rfl (e := 16) rfl rfl hb ?_
  refine bk_aload_n F hg dX8_init_137 0 rfl ?_
  refine bk_sipush F dX8_init_138 rfl ?_
  refine bc_newarr (ext' := [.inr (.inl (0, 459)), .inr (.inl (0, 459)), .inr (.inl (0, 4590)), .inr (.inl (0, 918)), .inr (.inl (2, 2)), .inr (.inl (1, 400)), .inr (.inl (2, 4)), .inr (.inl (0, 22509)), .inr (.inl (0, 2501)), .inr (.inl (0, 8)), .inr (.inl (0, 8)), .inr (.inl (0, 36009)), .inr (.inl (0, 8)), .inr (.inl (0, 8)), .inr (.inl (0, 8)), .inr (.inl (0, 8)), .inr (.inl (3, 2501))]) (n := 2501) F dX8_init_141 (by decide) kY_long rfl (by decide) rfl (by decide) (Nat.le_of_ble_eq_true rfl) (j := 16) rfl ?_
  refine bc_putF (fs' := [pR (bs.length + 0), pR (bs.length + 1), pR (bs.length + 2), pR (bs.length + 3), pR (bs.length + 4), pI 0, pR (bs.length + 5), pI 0, pI 0, pI 0, pI 0, pR (bs.length + 6), pR (bs.length + 7), pR (bs.length + 8), pR (bs.length + 9), pR (bs.length + 10), pR (bs.length + 11), pR (bs.length + 12), pR (bs.length + 13), pR (bs.length + 14), pR (bs.length + 15), pI 0, pI 0, pI 0, pI 0, pI 0, pI 0, pI 0, pR (bs.length + 16), pN, pN, pI 0, pI 0, pI 0]) F G dX8_init_143 kF_X8_61 hl (nf := 34) rfl (by decide) rfl rfl (Or.inr ⟨_, rfl⟩) rfl (e := 17) rfl rfl hb ?_
  refine bk_aload_n F hg dX8_init_146 0 rfl ?_
  refine bk_bipush F dX8_init_147 rfl ?_
  refine bc_newarr (ext' := [.inr (.inl (0, 459)), .inr (.inl (0, 459)), .inr (.inl (0, 4590)), .inr (.inl (0, 918)), .inr (.inl (2, 2)), .inr (.inl (1, 400)), .inr (.inl (2, 4)), .inr (.inl (0, 22509)), .inr (.inl (0, 2501)), .inr (.inl (0, 8)), .inr (.inl (0, 8)), .inr (.inl (0, 36009)), .inr (.inl (0, 8)), .inr (.inl (0, 8)), .inr (.inl (0, 8)), .inr (.inl (0, 8)), .inr (.inl (3, 2501)), .inr (.inl (0, 8))]) (n := 8) F dX8_init_149 (by decide) kY_int rfl (by decide) rfl (by decide) (Nat.le_of_ble_eq_true rfl) (j := 17) rfl ?_
  refine bc_putF (fs' := [pR (bs.length + 0), pR (bs.length + 1), pR (bs.length + 2), pR (bs.length + 3), pR (bs.length + 4), pI 0, pR (bs.length + 5), pI 0, pI 0, pI 0, pI 0, pR (bs.length + 6), pR (bs.length + 7), pR (bs.length + 8), pR (bs.length + 9), pR (bs.length + 10), pR (bs.length + 11), pR (bs.length + 12), pR (bs.length + 13), pR (bs.length + 14), pR (bs.length + 15), pI 0, pI 0, pI 0, pI 0, pI 0, pI 0, pI 0, pR (bs.length + 16), pR (bs.length + 17), pN, pI 0, pI 0, pI 0]) F G dX8_init_151 kF_X8_65 hl (nf := 34) rfl (by decide) rfl rfl (Or.inr ⟨_, rfl⟩) rfl (e := 18) rfl rfl hb ?_
  refine bk_aload_n F hg dX8_init_154 0 rfl ?_
  refine bk_bipush F dX8_init_155 rfl ?_
  refine bc_newarr (ext' := [.inr (.inl (0, 459)), .inr (.inl (0, 459)), .inr (.inl (0, 4590)), .inr (.inl (0, 918)), .inr (.inl (2, 2)), .inr (.inl (1, 400)), .inr (.inl (2, 4)), .inr (.inl (0, 22509)), .inr (.inl (0, 2501)), .inr (.inl (0, 8)), .inr (.inl (0, 8)), .inr (.inl (0, 36009)), .inr (.inl (0, 8)), .inr (.inl (0, 8)), .inr (.inl (0, 8)), .inr (.inl (0, 8)), .inr (.inl (3, 2501)), .inr (.inl (0, 8)), .inr (.inl (0, 8))]) (n := 8) F dX8_init_157 (by decide) kY_int rfl (by decide) rfl (by decide) (Nat.le_of_ble_eq_true rfl) (j := 18) rfl ?_
  refine bc_putF (fs' := [pR (bs.length + 0), pR (bs.length + 1), pR (bs.length + 2), pR (bs.length + 3), pR (bs.length + 4), pI 0, pR (bs.length + 5), pI 0, pI 0, pI 0, pI 0, pR (bs.length + 6), pR (bs.length + 7), pR (bs.length + 8), pR (bs.length + 9), pR (bs.length + 10), pR (bs.length + 11), pR (bs.length + 12), pR (bs.length + 13), pR (bs.length + 14), pR (bs.length + 15), pI 0, pI 0, pI 0, pI 0, pI 0, pI 0, pI 0, pR (bs.length + 16), pR (bs.length + 17), pR (bs.length + 18), pI 0, pI 0, pI 0]) F G dX8_init_159 kF_X8_68 hl (nf := 34) rfl (by decide) rfl rfl (Or.inr ⟨_, rfl⟩) rfl (e := 19) rfl rfl hb ?_
  exact bk_ret F G dX8_init_162
