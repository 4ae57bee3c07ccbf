/-! rows of the pure layer: constants, locals, numbers, branches -/
section PR1
variable {sh : List CS} {X : KX} {cc : ByteArray} {nL : Nat} {own : String} {pc : Nat} {lv : List (Nat × PV)} {st : List PV} {mem : Mem} {dp : Nat}
/-- other locals, the same or fewer, in another order -/
theorem ok_lv {lv' : List (Nat × PV)} (hs : ∀ q ∈ lv', q ∈ lv) (k : Ok sh X nL pc lv' st mem) : Ok sh X nL pc lv st mem := by
  obtain ⟨⟨p, l, e, R, s, m, args, below, meth, c, Q⟩, D, ad, aC, adV, A, nc, ns⟩ := X
  intro H locs ls hP hS hl
  exact k H locs ls hP hS (lw_has_sub hl hs)
theorem ok_iconst (F : Fx sh X cc nL own dp) {n : Int} (d : decode cc pc = .ok (.iconst n, 1)) (k : Ok sh X nL (pc + 1) lv (pI n :: st) mem) : Ok sh X nL pc lv st mem := by
  obtain ⟨⟨p, l, e, R, s, m, args, below, meth, c, Q⟩, D, ad, aC, adV, A, nc, ns⟩ := X
  obtain ⟨hx, hb, -⟩ := F
  intro H locs ls hP hS hl
  exact lv_iconst hx hb d rfl (k H locs ls hP hS hl)
theorem ok_bipush (F : Fx sh X cc nL own dp) {n : Int} (d : decode cc pc = .ok (.bipush n, 2)) (hn : (Int8.ofInt n).toInt32 = Int32.ofInt n) (k : Ok sh X nL (pc + 2) lv (pI n :: st) mem) : Ok sh X nL pc lv st mem := by
  obtain ⟨⟨p, l, e, R, s, m, args, below, meth, c, Q⟩, D, ad, aC, adV, A, nc, ns⟩ := X
  obtain ⟨hx, hb, -⟩ := F
  intro H locs ls hP hS hl
  exact lv_bipush hx hb d hn (k H locs ls hP hS hl)
theorem ok_sipush (F : Fx sh X cc nL own dp) {n : Int} (d : decode cc pc = .ok (.sipush n, 3)) (hn : (Int16.ofInt n).toInt32 = Int32.ofInt n) (k : Ok sh X nL (pc + 3) lv (pI n :: st) mem) : Ok sh X nL pc lv st mem := by
  obtain ⟨⟨p, l, e, R, s, m, args, below, meth, c, Q⟩, D, ad, aC, adV, A, nc, ns⟩ := X
  obtain ⟨hx, hb, -⟩ := F
  intro H locs ls hP hS hl
  exact lv_sipush hx hb d hn (k H locs ls hP hS hl)
theorem ok_lconst (F : Fx sh X cc nL own dp) {n : Fin 2} {z : Int} (d : decode cc pc = .ok (.lconst n, 1)) (hn : Int64.ofNat (n : Nat) = Int64.ofInt z) (k : Ok sh X nL (pc + 1) lv (pL z :: st) mem) : Ok sh X nL pc lv st mem := by
  obtain ⟨⟨p, l, e, R, s, m, args, below, meth, c, Q⟩, D, ad, aC, adV, A, nc, ns⟩ := X
  obtain ⟨hx, hb, -⟩ := F
  intro H locs ls hP hS hl
  exact lv_lconst hx hb d hn (k H locs ls hP hS hl)
theorem ok_ldc (F : Fx sh X cc nL own dp) {n : Int} {v : Int32} {ix : Nat} (d : decode cc pc = .ok (.ldc ix, 2)) (hw : Cond.constant own ix v ∈ Tbl) (hn : v = Int32.ofInt n) (k : Ok sh X nL (pc + 2) lv (pI n :: st) mem) : Ok sh X nL pc lv st mem := by
  obtain ⟨⟨p, l, e, R, s, m, args, below, meth, c, Q⟩, D, ad, aC, adV, A, nc, ns⟩ := X
  obtain ⟨hx, hb, hml, hown, hts, -⟩ := F
  subst hn
  intro H locs ls hP hS hl
  exact lv_ldc hx hb hown (hts _ hw) d (k H locs ls hP hS hl)
theorem ok_ldcw (F : Fx sh X cc nL own dp) {n : Int} {v : Int32} {ix : Nat} (d : decode cc pc = .ok (.ldc_w ix, 3)) (hw : Cond.constant own ix v ∈ Tbl) (hn : v = Int32.ofInt n) (k : Ok sh X nL (pc + 3) lv (pI n :: st) mem) : Ok sh X nL pc lv st mem := by
  obtain ⟨⟨p, l, e, R, s, m, args, below, meth, c, Q⟩, D, ad, aC, adV, A, nc, ns⟩ := X
  obtain ⟨hx, hb, hml, hown, hts, -⟩ := F
  subst hn
  intro H locs ls hP hS hl
  exact lv_ldcw hx hb hown (hts _ hw) d (k H locs ls hP hS hl)
theorem ok_ldc2 (F : Fx sh X cc nL own dp) {n : Int} {v : Int64} {ix : Nat} (d : decode cc pc = .ok (.ldc2_w ix, 3)) (hw : Cond.constantLong own ix v ∈ Tbl) (hn : v = Int64.ofInt n) (k : Ok sh X nL (pc + 3) lv (pL n :: st) mem) : Ok sh X nL pc lv st mem := by
  obtain ⟨⟨p, l, e, R, s, m, args, below, meth, c, Q⟩, D, ad, aC, adV, A, nc, ns⟩ := X
  obtain ⟨hx, hb, hml, hown, hts, -⟩ := F
  subst hn
  intro H locs ls hP hS hl
  exact lv_ldc2 hx hb hown (hts _ hw) d (k H locs ls hP hS hl)
theorem ok_dconst0 (F : Fx sh X cc nL own dp) (d : decode cc pc = .ok (.dconst 0, 1)) (k : Ok sh X nL (pc + 1) lv (pD FP.dconst0 :: st) mem) : Ok sh X nL pc lv st mem := by
  obtain ⟨⟨p, l, e, R, s, m, args, below, meth, c, Q⟩, D, ad, aC, adV, A, nc, ns⟩ := X
  obtain ⟨hx, hb, -⟩ := F
  intro H locs ls hP hS hl
  exact lv_dconst0 hx hb d (k H locs ls hP hS hl)
/-! loads: the variable's place in the list first -/
theorem ok_iload_n (F : Fx sh X cc nL own dp) {kk : Fin 4} {z : Int} (d : decode cc pc = .ok (.iload_n kk, 1)) (q : Nat) (h : lv[q]? = some ((kk : Nat), pI z)) (k : Ok sh X nL (pc + 1) lv (pI z :: st) mem) : Ok sh X nL pc lv st mem := by
  obtain ⟨⟨p, l, e, R, s, m, args, below, meth, c, Q⟩, D, ad, aC, adV, A, nc, ns⟩ := X
  obtain ⟨hx, hb, -⟩ := F
  intro H locs ls hP hS hl
  exact lv_iload_n hx hb d rfl (lv_at hl q (lget_em h)) (k H locs ls hP hS hl)
theorem ok_iload (F : Fx sh X cc nL own dp) {i : Nat} {z : Int} (d : decode cc pc = .ok (.iload i, 2)) (q : Nat) (h : lv[q]? = some (i, pI z)) (k : Ok sh X nL (pc + 2) lv (pI z :: st) mem) : Ok sh X nL pc lv st mem := by
  obtain ⟨⟨p, l, e, R, s, m, args, below, meth, c, Q⟩, D, ad, aC, adV, A, nc, ns⟩ := X
  obtain ⟨hx, hb, -⟩ := F
  intro H locs ls hP hS hl
  exact lv_iload hx hb d (lv_at hl q (lget_em h)) (k H locs ls hP hS hl)
theorem ok_lload_n (F : Fx sh X cc nL own dp) {kk : Fin 4} {z : Int} (d : decode cc pc = .ok (.lload_n kk, 1)) (q : Nat) (h : lv[q]? = some ((kk : Nat), pL z)) (k : Ok sh X nL (pc + 1) lv (pL z :: st) mem) : Ok sh X nL pc lv st mem := by
  obtain ⟨⟨p, l, e, R, s, m, args, below, meth, c, Q⟩, D, ad, aC, adV, A, nc, ns⟩ := X
  obtain ⟨hx, hb, -⟩ := F
  intro H locs ls hP hS hl
  exact lv_lload_n hx hb d rfl (lv_at hl q (lget_em h)) (k H locs ls hP hS hl)
theorem ok_lload (F : Fx sh X cc nL own dp) {i : Nat} {z : Int} (d : decode cc pc = .ok (.lload i, 2)) (q : Nat) (h : lv[q]? = some (i, pL z)) (k : Ok sh X nL (pc + 2) lv (pL z :: st) mem) : Ok sh X nL pc lv st mem := by
  obtain ⟨⟨p, l, e, R, s, m, args, below, meth, c, Q⟩, D, ad, aC, adV, A, nc, ns⟩ := X
  obtain ⟨hx, hb, -⟩ := F
  intro H locs ls hP hS hl
  exact lv_lload hx hb d (lv_at hl q (lget_em h)) (k H locs ls hP hS hl)
theorem ok_aload_n (F : Fx sh X cc nL own dp) {kk : Fin 4} {z : Nat} (d : decode cc pc = .ok (.aload_n kk, 1)) (q : Nat) (h : lv[q]? = some ((kk : Nat), pR z)) (k : Ok sh X nL (pc + 1) lv (pR z :: st) mem) : Ok sh X nL pc lv st mem := by
  obtain ⟨⟨p, l, e, R, s, m, args, below, meth, c, Q⟩, D, ad, aC, adV, A, nc, ns⟩ := X
  obtain ⟨hx, hb, -⟩ := F
  intro H locs ls hP hS hl
  exact lv_aload_n hx hb d rfl (lv_at hl q (lget_em h)) (k H locs ls hP hS hl)
theorem ok_aload (F : Fx sh X cc nL own dp) {i : Nat} {z : Nat} (d : decode cc pc = .ok (.aload i, 2)) (q : Nat) (h : lv[q]? = some (i, pR z)) (k : Ok sh X nL (pc + 2) lv (pR z :: st) mem) : Ok sh X nL pc lv st mem := by
  obtain ⟨⟨p, l, e, R, s, m, args, below, meth, c, Q⟩, D, ad, aC, adV, A, nc, ns⟩ := X
  obtain ⟨hx, hb, -⟩ := F
  intro H locs ls hP hS hl
  exact lv_aload hx hb d (lv_at hl q (lget_em h)) (k H locs ls hP hS hl)
/-! stores -/
theorem ok_istore_n (F : Fx sh X cc nL own dp) {kk : Fin 4} {z : Int} {lv' : List (Nat × PV)} (d : decode cc pc = .ok (.istore_n kk, 1)) (hn : (kk : Nat) < nL) (h : lput lv kk (pI z) = lv') (k : Ok sh X nL (pc + 1) lv' st mem) : Ok sh X nL pc lv (pI z :: st) mem := by
  obtain ⟨⟨p, l, e, R, s, m, args, below, meth, c, Q⟩, D, ad, aC, adV, A, nc, ns⟩ := X
  obtain ⟨hx, hb, -⟩ := F
  subst h
  intro H locs ls hP hS hl
  exact lv_istore_n hx hb d rfl hl hn (lput_em ad lv kk (pI z)) (fun ls' hl' => k H locs ls' hP hS hl')
theorem ok_istore (F : Fx sh X cc nL own dp) {i : Nat} {z : Int} {lv' : List (Nat × PV)} (d : decode cc pc = .ok (.istore i, 2)) (hn : i < nL) (h : lput lv i (pI z) = lv') (k : Ok sh X nL (pc + 2) lv' st mem) : Ok sh X nL pc lv (pI z :: st) mem := by
  obtain ⟨⟨p, l, e, R, s, m, args, below, meth, c, Q⟩, D, ad, aC, adV, A, nc, ns⟩ := X
  obtain ⟨hx, hb, -⟩ := F
  subst h
  intro H locs ls hP hS hl
  exact lv_istore hx hb d hl hn (lput_em ad lv i (pI z)) (fun ls' hl' => k H locs ls' hP hS hl')
theorem ok_astore_n (F : Fx sh X cc nL own dp) {kk : Fin 4} {z : Nat} {lv' : List (Nat × PV)} (d : decode cc pc = .ok (.astore_n kk, 1)) (hn : (kk : Nat) < nL) (h : lput lv kk (pR z) = lv') (k : Ok sh X nL (pc + 1) lv' st mem) : Ok sh X nL pc lv (pR z :: st) mem := by
  obtain ⟨⟨p, l, e, R, s, m, args, below, meth, c, Q⟩, D, ad, aC, adV, A, nc, ns⟩ := X
  obtain ⟨hx, hb, -⟩ := F
  subst h
  intro H locs ls hP hS hl
  exact lv_astore_n hx hb d rfl hl hn (lput_em ad lv kk (pR z)) (fun ls' hl' => k H locs ls' hP hS hl')
theorem ok_astore (F : Fx sh X cc nL own dp) {i : Nat} {z : Nat} {lv' : List (Nat × PV)} (d : decode cc pc = .ok (.astore i, 2)) (hn : i < nL) (h : lput lv i (pR z) = lv') (k : Ok sh X nL (pc + 2) lv' st mem) : Ok sh X nL pc lv (pR z :: st) mem := by
  obtain ⟨⟨p, l, e, R, s, m, args, below, meth, c, Q⟩, D, ad, aC, adV, A, nc, ns⟩ := X
  obtain ⟨hx, hb, -⟩ := F
  subst h
  intro H locs ls hP hS hl
  exact lv_astore hx hb d hl hn (lput_em ad lv i (pR z)) (fun ls' hl' => k H locs ls' hP hS hl')
theorem ok_lstore_n (F : Fx sh X cc nL own dp) {kk : Fin 4} {z : Int} {lv' : List (Nat × PV)} (d : decode cc pc = .ok (.lstore_n kk, 1)) (hn : (kk : Nat) + 1 < nL) (h : lput2 lv kk (pL z) = lv') (k : Ok sh X nL (pc + 1) lv' st mem) : Ok sh X nL pc lv (pL z :: st) mem := by
  obtain ⟨⟨p, l, e, R, s, m, args, below, meth, c, Q⟩, D, ad, aC, adV, A, nc, ns⟩ := X
  obtain ⟨hx, hb, -⟩ := F
  subst h
  intro H locs ls hP hS hl
  exact lv_lstore_n hx hb d rfl hl hn (lput2_em ad lv kk (pL z)) (fun ls' hl' => k H locs ls' hP hS hl')
theorem ok_lstore (F : Fx sh X cc nL own dp) {i : Nat} {z : Int} {lv' : List (Nat × PV)} (d : decode cc pc = .ok (.lstore i, 2)) (hn : i + 1 < nL) (h : lput2 lv i (pL z) = lv') (k : Ok sh X nL (pc + 2) lv' st mem) : Ok sh X nL pc lv (pL z :: st) mem := by
  obtain ⟨⟨p, l, e, R, s, m, args, below, meth, c, Q⟩, D, ad, aC, adV, A, nc, ns⟩ := X
  obtain ⟨hx, hb, -⟩ := F
  subst h
  intro H locs ls hP hS hl
  exact lv_lstore hx hb d hl hn (lput2_em ad lv i (pL z)) (fun ls' hl' => k H locs ls' hP hS hl')
theorem ok_iinc (F : Fx sh X cc nL own dp) {i : Nat} {n z : Int} {lv' : List (Nat × PV)} (d : decode cc pc = .ok (.iinc i n, 3)) (q : Nat) (hq : lv[q]? = some (i, pI z)) (hn : i < nL) (h : lput lv i (pI (z + n)) = lv') (k : Ok sh X nL (pc + 3) lv' st mem) : Ok sh X nL pc lv st mem := by
  obtain ⟨⟨p, l, e, R, s, m, args, below, meth, c, Q⟩, D, ad, aC, adV, A, nc, ns⟩ := X
  obtain ⟨hx, hb, -⟩ := F
  subst h
  intro H locs ls hP hS hl
  exact lv_iinc hx hb d hl (lget_em hq) (Int32.ofInt_add z n).symm hn (lput_em ad lv i (pI (z + n))) (fun ls' hl' => k H locs ls' hP hS hl')
/-! numbers -/
theorem ok_iadd (F : Fx sh X cc nL own dp) {x y : Int} (d : decode cc pc = .ok (.iadd, 1)) (k : Ok sh X nL (pc + 1) lv (pI (x + y) :: st) mem) : Ok sh X nL pc lv (pI y :: pI x :: st) mem := by
  obtain ⟨⟨p, l, e, R, s, m, args, below, meth, c, Q⟩, D, ad, aC, adV, A, nc, ns⟩ := X
  obtain ⟨hx, hb, -⟩ := F
  intro H locs ls hP hS hl
  have h := k H locs ls hP hS hl
  simp only [List.map_cons, em, Int32.ofInt_add] at h
  exact lv_iadd hx hb d h
theorem ok_isub (F : Fx sh X cc nL own dp) {x y : Int} (d : decode cc pc = .ok (.isub, 1)) (k : Ok sh X nL (pc + 1) lv (pI (x - y) :: st) mem) : Ok sh X nL pc lv (pI y :: pI x :: st) mem := by
  obtain ⟨⟨p, l, e, R, s, m, args, below, meth, c, Q⟩, D, ad, aC, adV, A, nc, ns⟩ := X
  obtain ⟨hx, hb, -⟩ := F
  intro H locs ls hP hS hl
  have h := k H locs ls hP hS hl
  simp only [List.map_cons, em, Int32.ofInt_sub] at h
  exact lv_isub hx hb d h
theorem ok_imul (F : Fx sh X cc nL own dp) {x y : Int} (d : decode cc pc = .ok (.imul, 1)) (k : Ok sh X nL (pc + 1) lv (pI (x * y) :: st) mem) : Ok sh X nL pc lv (pI y :: pI x :: st) mem := by
  obtain ⟨⟨p, l, e, R, s, m, args, below, meth, c, Q⟩, D, ad, aC, adV, A, nc, ns⟩ := X
  obtain ⟨hx, hb, -⟩ := F
  intro H locs ls hP hS hl
  have h := k H locs ls hP hS hl
  simp only [List.map_cons, em, Int32.ofInt_mul] at h
  exact lv_imul hx hb d h
theorem ok_ineg (F : Fx sh X cc nL own dp) {x : Int} (d : decode cc pc = .ok (.ineg, 1)) (k : Ok sh X nL (pc + 1) lv (pI (-x) :: st) mem) : Ok sh X nL pc lv (pI x :: st) mem := by
  obtain ⟨⟨p, l, e, R, s, m, args, below, meth, c, Q⟩, D, ad, aC, adV, A, nc, ns⟩ := X
  obtain ⟨hx, hb, -⟩ := F
  intro H locs ls hP hS hl
  have h := k H locs ls hP hS hl
  simp only [List.map_cons, em, Int32.ofInt_neg] at h
  exact lv_ineg hx hb d h
theorem i32_min : Int32.minValue.toInt = -2147483648 := rfl
theorem i32_max : Int32.maxValue.toInt = 2147483647 := rfl
theorem i32_div {x y : Int} (hx : i32 x) (hy : i32 y) : Int32.ofInt x / Int32.ofInt y = Int32.ofInt (x.tdiv y) := by
  rw [Int32.ofInt_tdiv (by rw [i32_min]; exact hx.1) (by rw [i32_max]; have := hx.2; omega) (by rw [i32_min]; exact hy.1) (by rw [i32_max]; have := hy.2; omega)]
theorem i32_ne0 {y : Int} (hy : i32 y) (h : y ≠ 0) : ¬ Int32.ofInt y = 0 := fun q => h (by
  have := congrArg Int32.toInt q
  rw [i32_toInt hy] at this
  exact this)
theorem ok_idiv (F : Fx sh X cc nL own dp) {x y : Int} (d : decode cc pc = .ok (.idiv, 1)) (hx1 : i32 x) (hy1 : i32 y) (h0 : y ≠ 0) (k : Ok sh X nL (pc + 1) lv (pI (x.tdiv y) :: st) mem) : Ok sh X nL pc lv (pI y :: pI x :: st) mem := by
  obtain ⟨⟨p, l, e, R, s, m, args, below, meth, c, Q⟩, D, ad, aC, adV, A, nc, ns⟩ := X
  obtain ⟨hx, hb, -⟩ := F
  intro H locs ls hP hS hl
  have h := k H locs ls hP hS hl
  simp only [List.map_cons, em, ← i32_div hx1 hy1] at h
  exact lv_idiv hx hb d (i32_ne0 hy1 h0) h
theorem ok_irem (F : Fx sh X cc nL own dp) {x y : Int} (d : decode cc pc = .ok (.irem, 1)) (hx1 : i32 x) (hy1 : i32 y) (h0 : y ≠ 0) (k : Ok sh X nL (pc + 1) lv (pI (x.tmod y) :: st) mem) : Ok sh X nL pc lv (pI y :: pI x :: st) mem := by
  obtain ⟨⟨p, l, e, R, s, m, args, below, meth, c, Q⟩, D, ad, aC, adV, A, nc, ns⟩ := X
  obtain ⟨hx, hb, -⟩ := F
  intro H locs ls hP hS hl
  have h := k H locs ls hP hS hl
  have e1 : x.tmod y = x - x.tdiv y * y := by rw [Int.tmod_def, Int.mul_comm]
  simp only [List.map_cons, em, e1, Int32.ofInt_sub, Int32.ofInt_mul, ← i32_div hx1 hy1] at h
  exact lv_irem hx hb d (i32_ne0 hy1 h0) h
theorem ok_ladd (F : Fx sh X cc nL own dp) {x y : Int} (d : decode cc pc = .ok (.ladd, 1)) (k : Ok sh X nL (pc + 1) lv (pL (x + y) :: st) mem) : Ok sh X nL pc lv (pL y :: pL x :: st) mem := by
  obtain ⟨⟨p, l, e, R, s, m, args, below, meth, c, Q⟩, D, ad, aC, adV, A, nc, ns⟩ := X
  obtain ⟨hx, hb, -⟩ := F
  intro H locs ls hP hS hl
  have h := k H locs ls hP hS hl
  simp only [List.map_cons, em, Int64.ofInt_add] at h
  exact lv_ladd hx hb d h
theorem ok_lsub (F : Fx sh X cc nL own dp) {x y : Int} (d : decode cc pc = .ok (.lsub, 1)) (k : Ok sh X nL (pc + 1) lv (pL (x - y) :: st) mem) : Ok sh X nL pc lv (pL y :: pL x :: st) mem := by
  obtain ⟨⟨p, l, e, R, s, m, args, below, meth, c, Q⟩, D, ad, aC, adV, A, nc, ns⟩ := X
  obtain ⟨hx, hb, -⟩ := F
  intro H locs ls hP hS hl
  have h := k H locs ls hP hS hl
  simp only [List.map_cons, em, Int64.ofInt_sub] at h
  exact lv_lsub hx hb d h
theorem ok_i2l (F : Fx sh X cc nL own dp) {x : Int} (d : decode cc pc = .ok (.i2l, 1)) (hx1 : i32 x) (k : Ok sh X nL (pc + 1) lv (pL x :: st) mem) : Ok sh X nL pc lv (pI x :: st) mem := by
  obtain ⟨⟨p, l, e, R, s, m, args, below, meth, c, Q⟩, D, ad, aC, adV, A, nc, ns⟩ := X
  obtain ⟨hx, hb, -⟩ := F
  intro H locs ls hP hS hl
  exact lv_i2l hx hb d (Int32.toInt64_ofInt (by rw [i32_min]; exact hx1.1) (by rw [i32_max]; have := hx1.2; omega)) (k H locs ls hP hS hl)
theorem ok_l2i (F : Fx sh X cc nL own dp) {x : Int} (d : decode cc pc = .ok (.l2i, 1)) (k : Ok sh X nL (pc + 1) lv (pI x :: st) mem) : Ok sh X nL pc lv (pL x :: st) mem := by
  obtain ⟨⟨p, l, e, R, s, m, args, below, meth, c, Q⟩, D, ad, aC, adV, A, nc, ns⟩ := X
  obtain ⟨hx, hb, -⟩ := F
  intro H locs ls hP hS hl
  exact lv_l2i hx hb d Int64.toInt32_ofInt (k H locs ls hP hS hl)
/-! stack -/
theorem ok_dup (F : Fx sh X cc nL own dp) {v : PV} (d : decode cc pc = .ok (.dup, 1)) (h2 : p2 v = false) (k : Ok sh X nL (pc + 1) lv (v :: v :: st) mem) : Ok sh X nL pc lv (v :: st) mem := by
  obtain ⟨⟨p, l, e, R, s, m, args, below, meth, c, Q⟩, D, ad, aC, adV, A, nc, ns⟩ := X
  obtain ⟨hx, hb, -⟩ := F
  intro H locs ls hP hS hl
  exact lv_dup hx hb d (em_cat1 h2) (k H locs ls hP hS hl)
theorem ok_pop (F : Fx sh X cc nL own dp) {v : PV} (d : decode cc pc = .ok (.pop, 1)) (h2 : p2 v = false) (k : Ok sh X nL (pc + 1) lv st mem) : Ok sh X nL pc lv (v :: st) mem := by
  obtain ⟨⟨p, l, e, R, s, m, args, below, meth, c, Q⟩, D, ad, aC, adV, A, nc, ns⟩ := X
  obtain ⟨hx, hb, -⟩ := F
  intro H locs ls hP hS hl
  exact lv_pop hx hb d (em_cat1 h2) (k H locs ls hP hS hl)
theorem ok_dup2 (F : Fx sh X cc nL own dp) {v w : PV} (d : decode cc pc = .ok (.dup2, 1)) (h2 : p2 v = false) (h3 : p2 w = false) (k : Ok sh X nL (pc + 1) lv (v :: w :: v :: w :: st) mem) : Ok sh X nL pc lv (v :: w :: st) mem := by
  obtain ⟨⟨p, l, e, R, s, m, args, below, meth, c, Q⟩, D, ad, aC, adV, A, nc, ns⟩ := X
  obtain ⟨hx, hb, -⟩ := F
  intro H locs ls hP hS hl
  exact lv_dup2_11 hx hb d (em_cat1 h2) (em_cat1 h3) (k H locs ls hP hS hl)
/-! branches: the two ways by order of whole numbers -/
theorem ok_goto (F : Fx sh X cc nL own dp) {off : Int} (tgt : Nat) (d : decode cc pc = .ok (.goto off, 3)) (ht : (pc : Int) + off = (tgt : Int)) (k : Ok sh X nL tgt lv st mem) : Ok sh X nL pc lv st mem := by
  obtain ⟨⟨p, l, e, R, s, m, args, below, meth, c, Q⟩, D, ad, aC, adV, A, nc, ns⟩ := X
  obtain ⟨hx, hb, -⟩ := F
  intro H locs ls hP hS hl
  exact lv_goto hx hb d ht (k H locs ls hP hS hl)
theorem ok_icmp_eq (F : Fx sh X cc nL own dp) {x y off : Int} (tgt : Nat) (d : decode cc pc = .ok (.if_icmp .eq off, 3)) (ht : (pc : Int) + off = (tgt : Int)) (hx1 : i32 x) (hy1 : i32 y) (kt : x = y → Ok sh X nL tgt lv st mem) (kf : x ≠ y → Ok sh X nL (pc + 3) lv st mem) : Ok sh X nL pc lv (pI y :: pI x :: st) mem := by
  obtain ⟨⟨p, l, e, R, s, m, args, below, meth, c, Q⟩, D, ad, aC, adV, A, nc, ns⟩ := X
  obtain ⟨hx, hb, -⟩ := F
  intro H locs ls hP hS hl
  exact lv_icmp_eq hx hb d ht (fun h => kt (i32_inj hx1 hy1 h) H locs ls hP hS hl) (fun h => kf (fun q => h (congrArg Int32.ofInt q)) H locs ls hP hS hl)
theorem ok_if_eq (F : Fx sh X cc nL own dp) {x off : Int} (tgt : Nat) (d : decode cc pc = .ok (.ifCond .eq off, 3)) (ht : (pc : Int) + off = (tgt : Int)) (hx1 : i32 x) (kt : x = 0 → Ok sh X nL tgt lv st mem) (kf : x ≠ 0 → Ok sh X nL (pc + 3) lv st mem) : Ok sh X nL pc lv (pI x :: st) mem := by
  obtain ⟨⟨p, l, e, R, s, m, args, below, meth, c, Q⟩, D, ad, aC, adV, A, nc, ns⟩ := X
  obtain ⟨hx, hb, -⟩ := F
  intro H locs ls hP hS hl
  have hy1 : i32 0 := ⟨by decide, by decide⟩
  exact lv_if_eq hx hb d ht (fun h => kt (i32_inj hx1 hy1 h) H locs ls hP hS hl) (fun h => kf (fun q => h (congrArg Int32.ofInt q)) H locs ls hP hS hl)
theorem ok_icmp_ne (F : Fx sh X cc nL own dp) {x y off : Int} (tgt : Nat) (d : decode cc pc = .ok (.if_icmp .ne off, 3)) (ht : (pc : Int) + off = (tgt : Int)) (hx1 : i32 x) (hy1 : i32 y) (kt : x ≠ y → Ok sh X nL tgt lv st mem) (kf : x = y → Ok sh X nL (pc + 3) lv st mem) : Ok sh X nL pc lv (pI y :: pI x :: st) mem := by
  obtain ⟨⟨p, l, e, R, s, m, args, below, meth, c, Q⟩, D, ad, aC, adV, A, nc, ns⟩ := X
  obtain ⟨hx, hb, -⟩ := F
  intro H locs ls hP hS hl
  exact lv_icmp_ne hx hb d ht (fun h => kt (fun q => h (congrArg Int32.ofInt q)) H locs ls hP hS hl) (fun h => kf (i32_inj hx1 hy1 h) H locs ls hP hS hl)
theorem ok_if_ne (F : Fx sh X cc nL own dp) {x off : Int} (tgt : Nat) (d : decode cc pc = .ok (.ifCond .ne off, 3)) (ht : (pc : Int) + off = (tgt : Int)) (hx1 : i32 x) (kt : x ≠ 0 → Ok sh X nL tgt lv st mem) (kf : x = 0 → Ok sh X nL (pc + 3) lv st mem) : Ok sh X nL pc lv (pI x :: st) mem := by
  obtain ⟨⟨p, l, e, R, s, m, args, below, meth, c, Q⟩, D, ad, aC, adV, A, nc, ns⟩ := X
  obtain ⟨hx, hb, -⟩ := F
  intro H locs ls hP hS hl
  have hy1 : i32 0 := ⟨by decide, by decide⟩
  exact lv_if_ne hx hb d ht (fun h => kt (fun q => h (congrArg Int32.ofInt q)) H locs ls hP hS hl) (fun h => kf (i32_inj hx1 hy1 h) H locs ls hP hS hl)
theorem ok_icmp_lt (F : Fx sh X cc nL own dp) {x y off : Int} (tgt : Nat) (d : decode cc pc = .ok (.if_icmp .lt off, 3)) (ht : (pc : Int) + off = (tgt : Int)) (hx1 : i32 x) (hy1 : i32 y) (kt : x < y → Ok sh X nL tgt lv st mem) (kf : y ≤ x → Ok sh X nL (pc + 3) lv st mem) : Ok sh X nL pc lv (pI y :: pI x :: st) mem := by
  obtain ⟨⟨p, l, e, R, s, m, args, below, meth, c, Q⟩, D, ad, aC, adV, A, nc, ns⟩ := X
  obtain ⟨hx, hb, -⟩ := F
  intro H locs ls hP hS hl
  exact lv_icmp_lt hx hb d ht (fun h => kt ((i32_lt hx1 hy1).mp h) H locs ls hP hS hl) (fun h => kf (Int.not_lt.mp fun q => h ((i32_lt hx1 hy1).mpr q)) H locs ls hP hS hl)
theorem ok_if_lt (F : Fx sh X cc nL own dp) {x off : Int} (tgt : Nat) (d : decode cc pc = .ok (.ifCond .lt off, 3)) (ht : (pc : Int) + off = (tgt : Int)) (hx1 : i32 x) (kt : x < 0 → Ok sh X nL tgt lv st mem) (kf : 0 ≤ x → Ok sh X nL (pc + 3) lv st mem) : Ok sh X nL pc lv (pI x :: st) mem := by
  obtain ⟨⟨p, l, e, R, s, m, args, below, meth, c, Q⟩, D, ad, aC, adV, A, nc, ns⟩ := X
  obtain ⟨hx, hb, -⟩ := F
  intro H locs ls hP hS hl
  have hy1 : i32 0 := ⟨by decide, by decide⟩
  exact lv_if_lt hx hb d ht (fun h => kt ((i32_lt hx1 hy1).mp h) H locs ls hP hS hl) (fun h => kf (Int.not_lt.mp fun q => h ((i32_lt hx1 hy1).mpr q)) H locs ls hP hS hl)
theorem ok_icmp_ge (F : Fx sh X cc nL own dp) {x y off : Int} (tgt : Nat) (d : decode cc pc = .ok (.if_icmp .ge off, 3)) (ht : (pc : Int) + off = (tgt : Int)) (hx1 : i32 x) (hy1 : i32 y) (kt : y ≤ x → Ok sh X nL tgt lv st mem) (kf : x < y → Ok sh X nL (pc + 3) lv st mem) : Ok sh X nL pc lv (pI y :: pI x :: st) mem := by
  obtain ⟨⟨p, l, e, R, s, m, args, below, meth, c, Q⟩, D, ad, aC, adV, A, nc, ns⟩ := X
  obtain ⟨hx, hb, -⟩ := F
  intro H locs ls hP hS hl
  exact lv_icmp_ge hx hb d ht (fun h => kt ((i32_le hy1 hx1).mp h) H locs ls hP hS hl) (fun h => kf (Int.not_le.mp fun q => h ((i32_le hy1 hx1).mpr q)) H locs ls hP hS hl)
theorem ok_if_ge (F : Fx sh X cc nL own dp) {x off : Int} (tgt : Nat) (d : decode cc pc = .ok (.ifCond .ge off, 3)) (ht : (pc : Int) + off = (tgt : Int)) (hx1 : i32 x) (kt : 0 ≤ x → Ok sh X nL tgt lv st mem) (kf : x < 0 → Ok sh X nL (pc + 3) lv st mem) : Ok sh X nL pc lv (pI x :: st) mem := by
  obtain ⟨⟨p, l, e, R, s, m, args, below, meth, c, Q⟩, D, ad, aC, adV, A, nc, ns⟩ := X
  obtain ⟨hx, hb, -⟩ := F
  intro H locs ls hP hS hl
  have hy1 : i32 0 := ⟨by decide, by decide⟩
  exact lv_if_ge hx hb d ht (fun h => kt ((i32_le hy1 hx1).mp h) H locs ls hP hS hl) (fun h => kf (Int.not_le.mp fun q => h ((i32_le hy1 hx1).mpr q)) H locs ls hP hS hl)
theorem ok_icmp_gt (F : Fx sh X cc nL own dp) {x y off : Int} (tgt : Nat) (d : decode cc pc = .ok (.if_icmp .gt off, 3)) (ht : (pc : Int) + off = (tgt : Int)) (hx1 : i32 x) (hy1 : i32 y) (kt : y < x → Ok sh X nL tgt lv st mem) (kf : x ≤ y → Ok sh X nL (pc + 3) lv st mem) : Ok sh X nL pc lv (pI y :: pI x :: st) mem := by
  obtain ⟨⟨p, l, e, R, s, m, args, below, meth, c, Q⟩, D, ad, aC, adV, A, nc, ns⟩ := X
  obtain ⟨hx, hb, -⟩ := F
  intro H locs ls hP hS hl
  exact lv_icmp_gt hx hb d ht (fun h => kt ((i32_lt hy1 hx1).mp h) H locs ls hP hS hl) (fun h => kf (Int.not_lt.mp fun q => h ((i32_lt hy1 hx1).mpr q)) H locs ls hP hS hl)
theorem ok_if_gt (F : Fx sh X cc nL own dp) {x off : Int} (tgt : Nat) (d : decode cc pc = .ok (.ifCond .gt off, 3)) (ht : (pc : Int) + off = (tgt : Int)) (hx1 : i32 x) (kt : 0 < x → Ok sh X nL tgt lv st mem) (kf : x ≤ 0 → Ok sh X nL (pc + 3) lv st mem) : Ok sh X nL pc lv (pI x :: st) mem := by
  obtain ⟨⟨p, l, e, R, s, m, args, below, meth, c, Q⟩, D, ad, aC, adV, A, nc, ns⟩ := X
  obtain ⟨hx, hb, -⟩ := F
  intro H locs ls hP hS hl
  have hy1 : i32 0 := ⟨by decide, by decide⟩
  exact lv_if_gt hx hb d ht (fun h => kt ((i32_lt hy1 hx1).mp h) H locs ls hP hS hl) (fun h => kf (Int.not_lt.mp fun q => h ((i32_lt hy1 hx1).mpr q)) H locs ls hP hS hl)
theorem ok_icmp_le (F : Fx sh X cc nL own dp) {x y off : Int} (tgt : Nat) (d : decode cc pc = .ok (.if_icmp .le off, 3)) (ht : (pc : Int) + off = (tgt : Int)) (hx1 : i32 x) (hy1 : i32 y) (kt : x ≤ y → Ok sh X nL tgt lv st mem) (kf : y < x → Ok sh X nL (pc + 3) lv st mem) : Ok sh X nL pc lv (pI y :: pI x :: st) mem := by
  obtain ⟨⟨p, l, e, R, s, m, args, below, meth, c, Q⟩, D, ad, aC, adV, A, nc, ns⟩ := X
  obtain ⟨hx, hb, -⟩ := F
  intro H locs ls hP hS hl
  exact lv_icmp_le hx hb d ht (fun h => kt ((i32_le hx1 hy1).mp h) H locs ls hP hS hl) (fun h => kf (Int.not_le.mp fun q => h ((i32_le hx1 hy1).mpr q)) H locs ls hP hS hl)
theorem ok_if_le (F : Fx sh X cc nL own dp) {x off : Int} (tgt : Nat) (d : decode cc pc = .ok (.ifCond .le off, 3)) (ht : (pc : Int) + off = (tgt : Int)) (hx1 : i32 x) (kt : x ≤ 0 → Ok sh X nL tgt lv st mem) (kf : 0 < x → Ok sh X nL (pc + 3) lv st mem) : Ok sh X nL pc lv (pI x :: st) mem := by
  obtain ⟨⟨p, l, e, R, s, m, args, below, meth, c, Q⟩, D, ad, aC, adV, A, nc, ns⟩ := X
  obtain ⟨hx, hb, -⟩ := F
  intro H locs ls hP hS hl
  have hy1 : i32 0 := ⟨by decide, by decide⟩
  exact lv_if_le hx hb d ht (fun h => kt ((i32_le hx1 hy1).mp h) H locs ls hP hS hl) (fun h => kf (Int.not_le.mp fun q => h ((i32_le hx1 hy1).mpr q)) H locs ls hP hS hl)
/-- other locals, by their places -/
theorem ok_lvp (ks : List Nat) {lv' : List (Nat × PV)} (h : ks.filterMap (fun k => lv[k]?) = lv') (k : Ok sh X nL pc lv' st mem) : Ok sh X nL pc lv st mem := by
  refine ok_lv (fun q hq => ?_) k
  rw [← h] at hq
  obtain ⟨j, -, hj⟩ := List.mem_filterMap.mp hq
  exact List.mem_of_getElem? hj
/-- the sign of a comparison of longs -/
def lsg (x y : Int) : Int := if y < x then 1 else if x = y then 0 else -1
theorem lsg_em {x y : Int} (hx : i64 x) (hy : i64 y) : lg_cmp (Int64.ofInt x) (Int64.ofInt y) = Int32.ofInt (lsg x y) := by
  have h1 : Int64.ofInt y < Int64.ofInt x ↔ y < x := by rw [Int64.lt_iff_toInt_lt, i64_toInt hx, i64_toInt hy]
  have h2 : Int64.ofInt x = Int64.ofInt y ↔ x = y := ⟨i64_inj hx hy, fun h => by rw [h]⟩
  unfold lg_cmp lsg
  by_cases a : y < x
  · rw [if_pos (show Int64.ofInt x > Int64.ofInt y from h1.mpr a), if_pos a]
    rfl
  · rw [if_neg (show ¬ Int64.ofInt x > Int64.ofInt y from fun q => a (h1.mp q)), if_neg a]
    by_cases b : x = y
    · rw [if_pos (h2.mpr b), if_pos b]
      rfl
    · rw [if_neg (fun q => b (h2.mp q)), if_neg b]
      rfl
theorem lsg_i32 (x y : Int) : i32 (lsg x y) := by
  unfold lsg
  split
  · decide
  · split <;> decide
theorem ok_lcmp (F : Fx sh X cc nL own dp) {x y : Int} (d : decode cc pc = .ok (.lcmp, 1)) (hx1 : i64 x) (hy1 : i64 y) (k : Ok sh X nL (pc + 1) lv (pI (lsg x y) :: st) mem) : Ok sh X nL pc lv (pL y :: pL x :: st) mem := by
  obtain ⟨⟨p, l, e, R, s, m, args, below, meth, c, Q⟩, D, ad, aC, adV, A, nc, ns⟩ := X
  obtain ⟨hx, hb, -⟩ := F
  intro H locs ls hP hS hl
  have h := k H locs ls hP hS hl
  simp only [List.map_cons, em, ← lsg_em hx1 hy1] at h
  exact W.lcmp hx hb d h
theorem ok_lif_eq (F : Fx sh X cc nL own dp) {x y off : Int} (tgt : Nat) (d1 : decode cc pc = .ok (.lcmp, 1)) (d2 : decode cc (pc + 1) = .ok (.ifCond .eq off, 3)) (ht : ((pc + 1 : Nat) : Int) + off = (tgt : Int)) (hx1 : i64 x) (hy1 : i64 y) (kt : x = y → Ok sh X nL tgt lv st mem) (kf : x ≠ y → Ok sh X nL (pc + 1 + 3) lv st mem) : Ok sh X nL pc lv (pL y :: pL x :: st) mem := by
  refine ok_lcmp F d1 hx1 hy1 (ok_if_eq F tgt d2 ht (lsg_i32 x y) (fun h => kt ?_) (fun h => kf ?_))
  · unfold lsg at h; split at h <;> (try split at h) <;> omega
  · unfold lsg at h; split at h <;> (try split at h) <;> omega
theorem ok_lif_ne (F : Fx sh X cc nL own dp) {x y off : Int} (tgt : Nat) (d1 : decode cc pc = .ok (.lcmp, 1)) (d2 : decode cc (pc + 1) = .ok (.ifCond .ne off, 3)) (ht : ((pc + 1 : Nat) : Int) + off = (tgt : Int)) (hx1 : i64 x) (hy1 : i64 y) (kt : x ≠ y → Ok sh X nL tgt lv st mem) (kf : x = y → Ok sh X nL (pc + 1 + 3) lv st mem) : Ok sh X nL pc lv (pL y :: pL x :: st) mem := by
  refine ok_lcmp F d1 hx1 hy1 (ok_if_ne F tgt d2 ht (lsg_i32 x y) (fun h => kt ?_) (fun h => kf ?_))
  · unfold lsg at h; split at h <;> (try split at h) <;> omega
  · unfold lsg at h; split at h <;> (try split at h) <;> omega
theorem ok_lif_lt (F : Fx sh X cc nL own dp) {x y off : Int} (tgt : Nat) (d1 : decode cc pc = .ok (.lcmp, 1)) (d2 : decode cc (pc + 1) = .ok (.ifCond .lt off, 3)) (ht : ((pc + 1 : Nat) : Int) + off = (tgt : Int)) (hx1 : i64 x) (hy1 : i64 y) (kt : x < y → Ok sh X nL tgt lv st mem) (kf : y ≤ x → Ok sh X nL (pc + 1 + 3) lv st mem) : Ok sh X nL pc lv (pL y :: pL x :: st) mem := by
  refine ok_lcmp F d1 hx1 hy1 (ok_if_lt F tgt d2 ht (lsg_i32 x y) (fun h => kt ?_) (fun h => kf ?_))
  · unfold lsg at h; split at h <;> (try split at h) <;> omega
  · unfold lsg at h; split at h <;> (try split at h) <;> omega
theorem ok_lif_ge (F : Fx sh X cc nL own dp) {x y off : Int} (tgt : Nat) (d1 : decode cc pc = .ok (.lcmp, 1)) (d2 : decode cc (pc + 1) = .ok (.ifCond .ge off, 3)) (ht : ((pc + 1 : Nat) : Int) + off = (tgt : Int)) (hx1 : i64 x) (hy1 : i64 y) (kt : y ≤ x → Ok sh X nL tgt lv st mem) (kf : x < y → Ok sh X nL (pc + 1 + 3) lv st mem) : Ok sh X nL pc lv (pL y :: pL x :: st) mem := by
  refine ok_lcmp F d1 hx1 hy1 (ok_if_ge F tgt d2 ht (lsg_i32 x y) (fun h => kt ?_) (fun h => kf ?_))
  · unfold lsg at h; split at h <;> (try split at h) <;> omega
  · unfold lsg at h; split at h <;> (try split at h) <;> omega
theorem ok_lif_gt (F : Fx sh X cc nL own dp) {x y off : Int} (tgt : Nat) (d1 : decode cc pc = .ok (.lcmp, 1)) (d2 : decode cc (pc + 1) = .ok (.ifCond .gt off, 3)) (ht : ((pc + 1 : Nat) : Int) + off = (tgt : Int)) (hx1 : i64 x) (hy1 : i64 y) (kt : y < x → Ok sh X nL tgt lv st mem) (kf : x ≤ y → Ok sh X nL (pc + 1 + 3) lv st mem) : Ok sh X nL pc lv (pL y :: pL x :: st) mem := by
  refine ok_lcmp F d1 hx1 hy1 (ok_if_gt F tgt d2 ht (lsg_i32 x y) (fun h => kt ?_) (fun h => kf ?_))
  · unfold lsg at h; split at h <;> (try split at h) <;> omega
  · unfold lsg at h; split at h <;> (try split at h) <;> omega
theorem ok_lif_le (F : Fx sh X cc nL own dp) {x y off : Int} (tgt : Nat) (d1 : decode cc pc = .ok (.lcmp, 1)) (d2 : decode cc (pc + 1) = .ok (.ifCond .le off, 3)) (ht : ((pc + 1 : Nat) : Int) + off = (tgt : Int)) (hx1 : i64 x) (hy1 : i64 y) (kt : x ≤ y → Ok sh X nL tgt lv st mem) (kf : y < x → Ok sh X nL (pc + 1 + 3) lv st mem) : Ok sh X nL pc lv (pL y :: pL x :: st) mem := by
  refine ok_lcmp F d1 hx1 hy1 (ok_if_le F tgt d2 ht (lsg_i32 x y) (fun h => kt ?_) (fun h => kf ?_))
  · unfold lsg at h; split at h <;> (try split at h) <;> omega
  · unfold lsg at h; split at h <;> (try split at h) <;> omega
end PR1
