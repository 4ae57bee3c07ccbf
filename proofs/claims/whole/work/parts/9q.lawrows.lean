/-! the law: rows of its own -/
/-- the script: a cell beside the two's, by the number 9999 -/
def LX (X : KX) (L : Nat) (xs : Nat → Int32) : Prop := match X with
  | ((_, _, _, _, s, _, _, _, _, _, _), (_, ad, _, _, A, _, _)) => va_X (ad 9999) L xs s s.heap ∧ ad 9999 < s.heap.size ∧ ¬ A (ad 9999) ∧ L ≤ 3072
def sc (xs : Nat → Int32) (i : Int) : Int := (xs i.toNat).toInt
theorem sc_i (xs : Nat → Int32) (i : Int) : i32 (sc xs i) := ⟨(xs _).le_toInt, (xs _).toInt_lt⟩
section LR
variable {X : KX} {cc : ByteArray} {nL : Nat} {own : String} {pc dp : Nat} {lv : List (Nat × PV)} {st : List PV} {mem : Mem} {L : Nat} {xs : Nat → Int32}
theorem ok_sld (F : Fx shp X cc nL own dp) (G : LX X L xs) {i : Int} (h0 : 0 ≤ i) (h1 : i < L) (d : decode cc pc = .ok (.iaload, 1)) (k : Ok shp X nL (pc + 1) lv (pI (sc xs i) :: st) mem) : Ok shp X nL pc lv (pI i :: pR 9999 :: st) mem := by
  obtain ⟨⟨p, l, e, R, s, m, args, below, meth, c, Q⟩, D, ad, aC, adV, A, nc, ns⟩ := X
  obtain ⟨hx, hb, hml, hown, hts, hK, hD, hA, hlocks, -⟩ := F
  obtain ⟨g1, g2, g3, g4⟩ := G
  intro H locs ls hP hS hl
  obtain ⟨q1, q2⟩ := i32_idx h0 h1 (Nat.lt_of_le_of_lt g4 (by decide))
  have k2 := k H locs ls hP hS hl
  have e1 : em ad (pI (sc xs i)) = Value.int (xs i.toNat) := by
    show Value.int (Int32.ofInt (xs i.toNat).toInt) = _
    rw [Int32.ofInt_toInt]
  rw [List.map_cons, e1] at k2
  refine va_sld hx hb g1 g2 g3 hS q1 d ?_
  rw [q2]
  exact k2
theorem ok_slen (F : Fx shp X cc nL own dp) (G : LX X L xs) (d : decode cc pc = .ok (.arraylength, 1)) (k : Ok shp X nL (pc + 1) lv (pI L :: st) mem) : Ok shp X nL pc lv (pR 9999 :: st) mem := by
  obtain ⟨⟨p, l, e, R, s, m, args, below, meth, c, Q⟩, D, ad, aC, adV, A, nc, ns⟩ := X
  obtain ⟨hx, hb, hml, hown, hts, hK, hD, hA, hlocks, -⟩ := F
  obtain ⟨g1, g2, g3, g4⟩ := G
  intro H locs ls hP hS hl
  have k2 := k H locs ls hP hS hl
  have e1 : em ad (pI (L : Int)) = Value.int (Int32.ofNat L) := by
    show Value.int (Int32.ofInt (L : Int)) = _
    rw [Int32.ofInt_eq_ofNat]
  rw [List.map_cons, e1] at k2
  exact va_slen hx hb g1 g2 g3 hS d k2
/-- two answers that are the same -/
theorem ok_isame (F : Fx shp X cc nL own dp) {z off : Int} (tgt : Nat) (d : decode cc pc = .ok (.if_icmp .eq off, 3)) (ht : (pc : Int) + off = (tgt : Int)) (k : Ok shp X nL tgt lv st mem) : Ok shp X nL pc lv (pI z :: pI z :: st) mem := by
  obtain ⟨⟨p, l, e, R, s, m, args, below, meth, c, Q⟩, D, ad, aC, adV, A, nc, ns⟩ := X
  obtain ⟨hx, hb, -⟩ := F
  intro H locs ls hP hS hl
  exact lv_icmp_eq hx hb d ht (fun _ => k H locs ls hP hS hl) (fun h => absurd rfl h)
theorem ok_lsame (F : Fx shp X cc nL own dp) {z off : Int} (tgt : Nat) (d1 : decode cc pc = .ok (.lcmp, 1)) (d2 : decode cc (pc + 1) = .ok (.ifCond .eq off, 3)) (ht : ((pc + 1 : Nat) : Int) + off = (tgt : Int)) (k : Ok shp X nL tgt lv st mem) : Ok shp X nL pc lv (pL z :: pL z :: st) mem := by
  obtain ⟨⟨p, l, e, R, s, m, args, below, meth, c, Q⟩, D, ad, aC, adV, A, nc, ns⟩ := X
  obtain ⟨hx, hb, -⟩ := F
  intro H locs ls hP hS hl
  refine W.lcmp hx hb d1 ?_
  have e1 : lg_cmp (Int64.ofInt z) (Int64.ofInt z) = 0 := by
    unfold lg_cmp
    rw [if_neg (fun q => Int64.lt_irrefl q), if_pos rfl]
  rw [e1]
  exact lv_if_eq hx hb d2 ht (fun _ => k H locs ls hP hS hl) (fun h => absurd rfl h)
/-- a world doesn't see what lies outside of its cells -/
theorem Ok.ag {pc : Nat} {mv mw : Mem} (h : ∀ k c, shp[k]? = some c → ∀ j, j < wdt c → mw k j = mv k j) (k : Ok shp X nL pc lv st mw) : Ok shp X nL pc lv st mv := by
  obtain ⟨⟨p, l, e, R, s, m, args, below, meth, c, Q⟩, D, ad, aC, adV, A, nc, ns⟩ := X
  intro H locs ls hP hS hl
  exact k H locs ls (va_P_ag h hP) hS hl
/-- an argument of a call, out of the script -/
theorem law_arg (F : Fx shp X code 4 own dp) (G : LX X L xs) {i : Int} (hi : 0 ≤ i ∧ i + 6 ≤ L) {j : Int} (hj : 1 ≤ j ∧ j ≤ 5) (d0 : decode code pc = .ok (.aload_n 0, 1)) (d1 : decode code (pc + 1) = .ok (.iload_n 3, 1)) (d2 : decode code (pc + 2) = .ok (.iconst j, 1)) (d3 : decode code (pc + 3) = .ok (.iadd, 1)) (d4 : decode code (pc + 4) = .ok (.iaload, 1))
    (k : Ok shp X 4 (pc + 5) [(3, pI i), (2, pR 0), (1, pR 20), (0, pR 9999)] (pI (sc xs (i + j)) :: st) mem) : Ok shp X 4 pc [(3, pI i), (2, pR 0), (1, pR 20), (0, pR 9999)] st mem := by
  refine ok_aload_n F d0 3 rfl ?_
  refine ok_iload_n F d1 0 rfl ?_
  refine ok_iconst F d2 ?_
  refine ok_iadd F d3 ?_
  exact ok_sld F G (by omega) (by omega) d4 k
end LR
theorem iand63 (z : Int) : 0 ≤ iand z 63 ∧ iand z 63 ≤ 63 := by
  have h : (Int32.ofInt z &&& Int32.ofInt 63).toInt = ((Int32.ofInt z).toBitVec &&& 63#32).toInt := by
    rw [← Int32.toInt_toBitVec, Int32.toBitVec_and]
    rfl
  have n1 : ((Int32.ofInt z).toBitVec &&& 63#32).toNat ≤ 63 := by
    rw [BitVec.toNat_and]
    exact Nat.and_le_right
  unfold iand
  rw [h, BitVec.toInt_eq_toNat_of_lt (by omega)]
  omega
