/-! rows of the pure layer: bits, narrow kinds, doubles -/
def ishl (x y : Int) : Int := (Int32.ofInt x <<< (Int32.ofInt y &&& 31)).toInt
def ishr (x y : Int) : Int := (Int32.ofInt x >>> (Int32.ofInt y &&& 31)).toInt
def iushr (x y : Int) : Int := ((Int32.ofInt x).toUInt32 >>> ((Int32.ofInt y).toUInt32 &&& Int32.toUInt32 31)).toInt32.toInt
def iand (x y : Int) : Int := (Int32.ofInt x &&& Int32.ofInt y).toInt
def ior (x y : Int) : Int := (Int32.ofInt x ||| Int32.ofInt y).toInt
def lshl (x y : Int) : Int := (Int64.ofInt x <<< ((Int32.ofInt y).toInt64 &&& 63)).toInt
def lushr (x y : Int) : Int := ((Int64.ofInt x).toUInt64 >>> ((Int32.ofInt y).toInt64.toUInt64 &&& Int64.toUInt64 63)).toInt64.toInt
def land (x y : Int) : Int := (Int64.ofInt x &&& Int64.ofInt y).toInt
def lor (x y : Int) : Int := (Int64.ofInt x ||| Int64.ofInt y).toInt
def i2b (x : Int) : Int := (Int32.ofInt x).toInt8.toInt32.toInt
def i2c (x : Int) : Int := ((Int32.ofInt x).toUInt32 % 65536).toInt32.toInt
def i2d (x : Int) : UInt64 := FP.i2d (Int32.ofInt x)
theorem toInt_i32 (x : Int32) : i32 x.toInt := ⟨x.le_toInt, x.toInt_lt⟩
theorem toInt_i64 (x : Int64) : i64 x.toInt := ⟨x.le_toInt, x.toInt_lt⟩
section PR4
variable {sh : List CS} {X : KX} {cc : ByteArray} {nL : Nat} {own : String} {pc : Nat} {lv : List (Nat × PV)} {st : List PV} {mem : Mem} {dp : Nat}
theorem ok_ishl (F : Fx sh X cc nL own dp) {x y : Int} (d : decode cc pc = .ok (.ishl, 1)) (k : Ok sh X nL (pc + 1) lv (pI (ishl x y) :: st) mem) : Ok sh X nL pc lv (pI y :: pI x :: st) mem := by
  obtain ⟨⟨p, l, e, R, s, m, args, below, meth, c, Q⟩, D, ad, aC, adV, A, nc, ns⟩ := X
  obtain ⟨hx, hb, -⟩ := F
  intro H locs ls hP hS hl
  have h := k H locs ls hP hS hl
  simp only [List.map_cons, em, ishl, Int32.ofInt_toInt] at h
  exact lv_ishl hx hb d h
theorem ok_ishr (F : Fx sh X cc nL own dp) {x y : Int} (d : decode cc pc = .ok (.ishr, 1)) (k : Ok sh X nL (pc + 1) lv (pI (ishr x y) :: st) mem) : Ok sh X nL pc lv (pI y :: pI x :: st) mem := by
  obtain ⟨⟨p, l, e, R, s, m, args, below, meth, c, Q⟩, D, ad, aC, adV, A, nc, ns⟩ := X
  obtain ⟨hx, hb, -⟩ := F
  intro H locs ls hP hS hl
  have h := k H locs ls hP hS hl
  simp only [List.map_cons, em, ishr, Int32.ofInt_toInt] at h
  exact lv_ishr hx hb d h
theorem ok_iand (F : Fx sh X cc nL own dp) {x y : Int} (d : decode cc pc = .ok (.iand, 1)) (k : Ok sh X nL (pc + 1) lv (pI (iand x y) :: st) mem) : Ok sh X nL pc lv (pI y :: pI x :: st) mem := by
  obtain ⟨⟨p, l, e, R, s, m, args, below, meth, c, Q⟩, D, ad, aC, adV, A, nc, ns⟩ := X
  obtain ⟨hx, hb, -⟩ := F
  intro H locs ls hP hS hl
  have h := k H locs ls hP hS hl
  simp only [List.map_cons, em, iand, Int32.ofInt_toInt] at h
  exact lv_iand hx hb d h
theorem ok_ior (F : Fx sh X cc nL own dp) {x y : Int} (d : decode cc pc = .ok (.ior, 1)) (k : Ok sh X nL (pc + 1) lv (pI (ior x y) :: st) mem) : Ok sh X nL pc lv (pI y :: pI x :: st) mem := by
  obtain ⟨⟨p, l, e, R, s, m, args, below, meth, c, Q⟩, D, ad, aC, adV, A, nc, ns⟩ := X
  obtain ⟨hx, hb, -⟩ := F
  intro H locs ls hP hS hl
  have h := k H locs ls hP hS hl
  simp only [List.map_cons, em, ior, Int32.ofInt_toInt] at h
  exact lv_ior hx hb d h
theorem ok_iushr (F : Fx sh X cc nL own dp) {x y : Int} (d : decode cc pc = .ok (.iushr, 1)) (k : Ok sh X nL (pc + 1) lv (pI (iushr x y) :: st) mem) : Ok sh X nL pc lv (pI y :: pI x :: st) mem := by
  obtain ⟨⟨p, l, e, R, s, m, args, below, meth, c, Q⟩, D, ad, aC, adV, A, nc, ns⟩ := X
  obtain ⟨hx, hb, -⟩ := F
  intro H locs ls hP hS hl
  have h := k H locs ls hP hS hl
  simp only [List.map_cons, em, iushr, Int32.ofInt_toInt] at h
  exact lv_iushr hx hb d rfl h
theorem ok_land (F : Fx sh X cc nL own dp) {x y : Int} (d : decode cc pc = .ok (.land, 1)) (k : Ok sh X nL (pc + 1) lv (pL (land x y) :: st) mem) : Ok sh X nL pc lv (pL y :: pL x :: st) mem := by
  obtain ⟨⟨p, l, e, R, s, m, args, below, meth, c, Q⟩, D, ad, aC, adV, A, nc, ns⟩ := X
  obtain ⟨hx, hb, -⟩ := F
  intro H locs ls hP hS hl
  have h := k H locs ls hP hS hl
  simp only [List.map_cons, em, land, Int64.ofInt_toInt] at h
  exact lv_land hx hb d h
theorem ok_lor (F : Fx sh X cc nL own dp) {x y : Int} (d : decode cc pc = .ok (.lor, 1)) (k : Ok sh X nL (pc + 1) lv (pL (lor x y) :: st) mem) : Ok sh X nL pc lv (pL y :: pL x :: st) mem := by
  obtain ⟨⟨p, l, e, R, s, m, args, below, meth, c, Q⟩, D, ad, aC, adV, A, nc, ns⟩ := X
  obtain ⟨hx, hb, -⟩ := F
  intro H locs ls hP hS hl
  have h := k H locs ls hP hS hl
  simp only [List.map_cons, em, lor, Int64.ofInt_toInt] at h
  exact lv_lor hx hb d h
theorem ok_lshl (F : Fx sh X cc nL own dp) {x y : Int} (d : decode cc pc = .ok (.lshl, 1)) (k : Ok sh X nL (pc + 1) lv (pL (lshl x y) :: st) mem) : Ok sh X nL pc lv (pI y :: pL x :: st) mem := by
  obtain ⟨⟨p, l, e, R, s, m, args, below, meth, c, Q⟩, D, ad, aC, adV, A, nc, ns⟩ := X
  obtain ⟨hx, hb, -⟩ := F
  intro H locs ls hP hS hl
  have h := k H locs ls hP hS hl
  simp only [List.map_cons, em, lshl, Int64.ofInt_toInt] at h
  exact lv_lshl hx hb d rfl h
theorem ok_lushr (F : Fx sh X cc nL own dp) {x y : Int} (d : decode cc pc = .ok (.lushr, 1)) (k : Ok sh X nL (pc + 1) lv (pL (lushr x y) :: st) mem) : Ok sh X nL pc lv (pI y :: pL x :: st) mem := by
  obtain ⟨⟨p, l, e, R, s, m, args, below, meth, c, Q⟩, D, ad, aC, adV, A, nc, ns⟩ := X
  obtain ⟨hx, hb, -⟩ := F
  intro H locs ls hP hS hl
  have h := k H locs ls hP hS hl
  simp only [List.map_cons, em, lushr, Int64.ofInt_toInt] at h
  exact lv_lushr hx hb d rfl h
theorem ok_i2b (F : Fx sh X cc nL own dp) {x : Int} (d : decode cc pc = .ok (.i2b, 1)) (k : Ok sh X nL (pc + 1) lv (pI (i2b x) :: st) mem) : Ok sh X nL pc lv (pI x :: st) mem := by
  obtain ⟨⟨p, l, e, R, s, m, args, below, meth, c, Q⟩, D, ad, aC, adV, A, nc, ns⟩ := X
  obtain ⟨hx, hb, -⟩ := F
  intro H locs ls hP hS hl
  have h := k H locs ls hP hS hl
  simp only [List.map_cons, em, i2b, Int32.ofInt_toInt] at h
  exact lv_i2b hx hb d rfl h
theorem ok_i2c (F : Fx sh X cc nL own dp) {x : Int} (d : decode cc pc = .ok (.i2c, 1)) (k : Ok sh X nL (pc + 1) lv (pI (i2c x) :: st) mem) : Ok sh X nL pc lv (pI x :: st) mem := by
  obtain ⟨⟨p, l, e, R, s, m, args, below, meth, c, Q⟩, D, ad, aC, adV, A, nc, ns⟩ := X
  obtain ⟨hx, hb, -⟩ := F
  intro H locs ls hP hS hl
  have h := k H locs ls hP hS hl
  simp only [List.map_cons, em, i2c, Int32.ofInt_toInt] at h
  exact lv_i2c hx hb d rfl h
theorem ok_i2d (F : Fx sh X cc nL own dp) {x : Int} (d : decode cc pc = .ok (.i2d, 1)) (k : Ok sh X nL (pc + 1) lv (pD (i2d x) :: st) mem) : Ok sh X nL pc lv (pI x :: st) mem := by
  obtain ⟨⟨p, l, e, R, s, m, args, below, meth, c, Q⟩, D, ad, aC, adV, A, nc, ns⟩ := X
  obtain ⟨hx, hb, -⟩ := F
  intro H locs ls hP hS hl
  have h := k H locs ls hP hS hl
  exact lv_i2d hx hb d h
theorem ok_ddiv (F : Fx sh X cc nL own dp) {x y : UInt64} (d : decode cc pc = .ok (.ddiv, 1)) (hn : vf_n64 (FP.ddiv x y)) (k : Ok sh X nL (pc + 1) lv (pD (FP.ddiv x y) :: st) mem) : Ok sh X nL pc lv (pD y :: pD x :: st) mem := by
  obtain ⟨⟨p, l, e, R, s, m, args, below, meth, c, Q⟩, D, ad, aC, adV, A, nc, ns⟩ := X
  obtain ⟨hx, hb, -⟩ := F
  intro H locs ls hP hS hl
  have h := k H locs ls hP hS hl
  exact lv_ddiv hx hb d hn h
theorem ok_dload_n (F : Fx sh X cc nL own dp) {kk : Fin 4} {z : UInt64} (d : decode cc pc = .ok (.dload_n kk, 1)) (q : Nat) (hq : lv[q]? = some ((kk : Nat), pD z)) (k : Ok sh X nL (pc + 1) lv (pD z :: st) mem) : Ok sh X nL pc lv st mem := by
  obtain ⟨⟨p, l, e, R, s, m, args, below, meth, c, Q⟩, D, ad, aC, adV, A, nc, ns⟩ := X
  obtain ⟨hx, hb, -⟩ := F
  intro H locs ls hP hS hl
  have h := k H locs ls hP hS hl
  exact lv_dload_n hx hb d rfl (lv_at hl q (lget_em hq)) h
theorem ok_mmax (F : Fx sh X cc nL own dp) {x y : Int} {ix : Nat} (d : decode cc pc = .ok (.invokestatic ix, 3)) (hlk : Cond.methodLink own ix Lib.Math.max.name ∈ Tbl) (hst : Cond.static Lib.Math.max.name ∈ Tbl) (hco : Cond.code Lib.Math.max.name Lib.Math.max.code 2 (some .int) ∈ Tbl) (hini : Cond.initialized "java/lang/Math" ∈ Tbl) (hx1 : i32 x) (hy1 : i32 y) (hd : 0 < dp) (hs8 : pslots st ≤ 8) (k : Ok sh X nL (pc + 3) lv (pI (max x y) :: st) mem) : Ok sh X nL pc lv (pI y :: pI x :: st) mem := by
  obtain ⟨⟨p, l, e, R, s, m, args, below, meth, c, Q⟩, D, ad, aC, adV, A, nc, ns⟩ := X
  obtain ⟨hx, hb, hml, hown, hts, hK, hD, hA, hlocks, hN, hnc, hns, hW, hfr, hlo⟩ := F
  intro H locs ls hP hS hl
  have h := k H locs ls hP hS hl
  have e1 : (if Int32.ofInt x < Int32.ofInt y then Int32.ofInt y else Int32.ofInt x) = Int32.ofInt (max x y) := by
    by_cases q : x < y
    · rw [if_pos ((i32_lt hx1 hy1).mpr q), show max x y = y by omega]
    · rw [if_neg (fun z => q ((i32_lt hx1 hy1).mp z)), show max x y = x by omega]
  refine va_mmax hx hb (hml.trans hl.1.symm) hown (hts _ hlk) (hts _ hst) (hts _ hini) (hts _ hco) (by omega) (by rw [em_map_category]; omega) hnc hns d ?_
  rw [e1]
  exact h
theorem ok_mmin (F : Fx sh X cc nL own dp) {x y : Int} {ix : Nat} (d : decode cc pc = .ok (.invokestatic ix, 3)) (hlk : Cond.methodLink own ix Lib.Math.min.name ∈ Tbl) (hst : Cond.static Lib.Math.min.name ∈ Tbl) (hco : Cond.code Lib.Math.min.name Lib.Math.min.code 2 (some .int) ∈ Tbl) (hini : Cond.initialized "java/lang/Math" ∈ Tbl) (hx1 : i32 x) (hy1 : i32 y) (hd : 0 < dp) (hs8 : pslots st ≤ 8) (k : Ok sh X nL (pc + 3) lv (pI (min x y) :: st) mem) : Ok sh X nL pc lv (pI y :: pI x :: st) mem := by
  obtain ⟨⟨p, l, e, R, s, m, args, below, meth, c, Q⟩, D, ad, aC, adV, A, nc, ns⟩ := X
  obtain ⟨hx, hb, hml, hown, hts, hK, hD, hA, hlocks, hN, hnc, hns, hW, hfr, hlo⟩ := F
  intro H locs ls hP hS hl
  have h := k H locs ls hP hS hl
  have e1 : (if Int32.ofInt y < Int32.ofInt x then Int32.ofInt y else Int32.ofInt x) = Int32.ofInt (min x y) := by
    by_cases q : y < x
    · rw [if_pos ((i32_lt hy1 hx1).mpr q), show min x y = y by omega]
    · rw [if_neg (fun z => q ((i32_lt hy1 hx1).mp z)), show min x y = x by omega]
  refine va_mmin hx hb (hml.trans hl.1.symm) hown (hts _ hlk) (hts _ hst) (hts _ hini) (hts _ hco) (by omega) (by rw [em_map_category]; omega) hnc hns d ?_
  rw [e1]
  exact h
theorem ok_mabs (F : Fx sh X cc nL own dp) {x : Int} {ix : Nat} (d : decode cc pc = .ok (.invokestatic ix, 3)) (hlk : Cond.methodLink own ix Lib.Math.abs.name ∈ Tbl) (hst : Cond.static Lib.Math.abs.name ∈ Tbl) (hco : Cond.code Lib.Math.abs.name Lib.Math.abs.code 1 (some .int) ∈ Tbl) (hini : Cond.initialized "java/lang/Math" ∈ Tbl) (hx1 : i32 x) (hd : 0 < dp) (hs8 : pslots st ≤ 8) (k : Ok sh X nL (pc + 3) lv (pI (x.natAbs : Int) :: st) mem) : Ok sh X nL pc lv (pI x :: st) mem := by
  obtain ⟨⟨p, l, e, R, s, m, args, below, meth, c, Q⟩, D, ad, aC, adV, A, nc, ns⟩ := X
  obtain ⟨hx, hb, hml, hown, hts, hK, hD, hA, hlocks, hN, hnc, hns, hW, hfr, hlo⟩ := F
  intro H locs ls hP hS hl
  have h := k H locs ls hP hS hl
  have e1 : (if 0 ≤ Int32.ofInt x then Int32.ofInt x else 0 - Int32.ofInt x) = Int32.ofInt (x.natAbs : Int) := by
    have h0 : (0 : Int32) = Int32.ofInt 0 := rfl
    by_cases q : 0 ≤ x
    · rw [if_pos (by rw [h0, i32_le ⟨by decide, by decide⟩ hx1]; exact q), show (x.natAbs : Int) = x by omega]
    · rw [if_neg (by rw [h0, i32_le ⟨by decide, by decide⟩ hx1]; exact q), h0, ← Int32.ofInt_sub, show (x.natAbs : Int) = 0 - x by omega]
  refine va_mabs hx hb (hml.trans hl.1.symm) hown (hts _ hlk) (hts _ hst) (hts _ hini) (hts _ hco) (by omega) (by rw [em_map_category]; omega) hnc hns d ?_
  rw [e1]
  exact h
end PR4
