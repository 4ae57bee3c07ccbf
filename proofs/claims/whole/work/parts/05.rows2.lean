/-! rows of the pure layer: fields, arrays, tables of jumps, ends -/
section PR2
variable {sh : List CS} {X : KX} {cc : ByteArray} {nL : Nat} {own : String} {pc : Nat} {lv : List (Nat × PV)} {st : List PV} {mem : Mem} {dp : Nat}
/-- what the tables say of the fields of one kind of object, by its place in vwCl: its words, its types -/
def clOk (ci : Nat) (C : String) (T : u_T) (N : Nat) (ty : Nat → FieldType) : Prop := vwCl[ci]? = some (C, T, N) ∧ (∀ w ∈ u_ws C T N, w ∈ Tbl) ∧ (∀ k, k < N → parseFieldDescriptor (T k).2.2.1 = some (ty k)) ∧ ∀ a, a < N → ∀ b, b < N → a ≠ b → (T a).2.1 ≠ (T b).2.1
/-- a field of a class, linked by an entry of the pool of own -/
def flOk (own : String) (ix ci j : Nat) (C : String) (T : u_T) (N : Nat) (ty : Nat → FieldType) : Prop := clOk ci C T N ty ∧ j < N ∧ Cond.fieldLink own ix (T j).1 (T j).2.1 (T j).2.2.1 ∈ Tbl
theorem ok_getf (F : Fx sh X cc nL own dp) {ix ci j q : Nat} {C : String} {T : u_T} {N : Nat} {ty : Nat → FieldType} {fs : List (Option Nat)} (d : decode cc pc = .ok (.getfield ix, 3)) (L : flOk own ix ci j C T N ty) (hq : sh[q]? = some (.inl (ci, fs))) (hj : fs[j]? = some none) {v : Int} (hv : mem q j = v) (k : Ok sh X nL (pc + 3) lv (pI v :: st) mem) : Ok sh X nL pc lv (pR q :: st) mem := by
  subst hv
  obtain ⟨⟨p, l, e, R, s, m, args, below, meth, c, Q⟩, D, ad, aC, adV, A, nc, ns⟩ := X
  obtain ⟨hx, hb, hml, hown, hts, hK, hD, -⟩ := F
  obtain ⟨⟨hc, hin, hty, hnm⟩, hjN, hlink⟩ := L
  intro H locs ls hP hS hl
  exact va_get hx hb hts hin hown hK hP q (wl_at hq) hc j hjN (hts _ hlink) (fun _ h => h) (fld_at hj) d (k H locs ls hP hS hl)
theorem ok_getr (F : Fx sh X cc nL own dp) {ix ci j q r : Nat} {C : String} {T : u_T} {N : Nat} {ty : Nat → FieldType} {fs : List (Option Nat)} (d : decode cc pc = .ok (.getfield ix, 3)) (L : flOk own ix ci j C T N ty) (hq : sh[q]? = some (.inl (ci, fs))) (hj : fs[j]? = some (some r)) (k : Ok sh X nL (pc + 3) lv (pR r :: st) mem) : Ok sh X nL pc lv (pR q :: st) mem := by
  obtain ⟨⟨p, l, e, R, s, m, args, below, meth, c, Q⟩, D, ad, aC, adV, A, nc, ns⟩ := X
  obtain ⟨hx, hb, hml, hown, hts, hK, hD, -⟩ := F
  obtain ⟨⟨hc, hin, hty, hnm⟩, hjN, hlink⟩ := L
  intro H locs ls hP hS hl
  exact va_get hx hb hts hin hown hK hP q (wl_at hq) hc j hjN (hts _ hlink) (fun _ h => h) (fld_at hj) d (k H locs ls hP hS hl)
theorem ok_putf (F : Fx sh X cc nL own dp) {ix ci j q : Nat} {z : Int} {C : String} {T : u_T} {N : Nat} {ty : Nat → FieldType} {fs : List (Option Nat)} (d : decode cc pc = .ok (.putfield ix, 3)) (L : flOk own ix ci j C T N ty) (hq : sh[q]? = some (.inl (ci, fs))) (hj : fs[j]? = some none) (hfin : (T j).2.2.2 = false) (hti : ty j = .int) (k : ∀ mem', mem' = mset mem q j z → Ok sh X nL (pc + 3) lv st mem') : Ok sh X nL pc lv (pI z :: pR q :: st) mem := by
  have k := k _ rfl
  obtain ⟨⟨p, l, e, R, s, m, args, below, meth, c, Q⟩, D, ad, aC, adV, A, nc, ns⟩ := X
  obtain ⟨hx, hb, hml, hown, hts, hK, hD, -⟩ := F
  obtain ⟨⟨hc, hin, hty, hnm⟩, hjN, hlink⟩ := L
  intro H locs ls hP hS hl
  refine va_put hx hb hts hin ty hty hnm hown hK hP (hD mem) hS q (wl_at hq) hc j hjN (hts _ hlink) (fun _ h => h) hfin (ty := .int) (v := .int (Int32.ofInt z)) (by rw [hty j hjN, hti]) rfl rfl (by rw [List.length_mapIdx]; exact (List.getElem?_eq_some_iff.mp hj).1) d (fun H1 locs1 h1 h2 h3 => ?_)
  rw [fld_set hj] at h1
  have h1 : va_P D vwCl (wl ad aC sh (mset mem q j z)) H1 := by
    rw [← wl_set (ad := ad) (aC := aC) (mem := mem) (j := j) (v := z) hq rfl]
    exact h1
  exact k H1 locs1 ls h1 h3 hl
/-! arrays of numbers -/
theorem ok_iald (F : Fx sh X cc nL own dp) {q n : Nat} {i : Int} (d : decode cc pc = .ok (.iaload, 1)) (hq : sh[q]? = some (.inr (.inl (0, n)))) (hn : n < 2 ^ 31) (h0 : 0 ≤ i) (h1 : i < n) {v : Int} (hv : mem q i.toNat = v) (k : Ok sh X nL (pc + 1) lv (pI v :: st) mem) : Ok sh X nL pc lv (pI i :: pR q :: st) mem := by
  subst hv
  obtain ⟨⟨p, l, e, R, s, m, args, below, meth, c, Q⟩, D, ad, aC, adV, A, nc, ns⟩ := X
  obtain ⟨hx, hb, hml, hown, hts, hK, hD, -⟩ := F
  obtain ⟨hin, hi⟩ := i32_idx h0 h1 hn
  intro H locs ls hP hS hl
  refine va_iald hx hb hK hP q 0 (wl_at hq) rfl hin d ?_
  rw [hi]
  exact k H locs ls hP hS hl
theorem ok_bald (F : Fx sh X cc nL own dp) {q n : Nat} {i : Int} (d : decode cc pc = .ok (.baload, 1)) (hq : sh[q]? = some (.inr (.inl (1, n)))) (hn : n < 2 ^ 31) (h0 : 0 ≤ i) (h1 : i < n) {v : Int} (hv : mem q i.toNat = v) (k : Ok sh X nL (pc + 1) lv (pI v :: st) mem) : Ok sh X nL pc lv (pI i :: pR q :: st) mem := by
  subst hv
  obtain ⟨⟨p, l, e, R, s, m, args, below, meth, c, Q⟩, D, ad, aC, adV, A, nc, ns⟩ := X
  obtain ⟨hx, hb, hml, hown, hts, hK, hD, -⟩ := F
  obtain ⟨hin, hi⟩ := i32_idx h0 h1 hn
  intro H locs ls hP hS hl
  refine va_bald hx hb hK hP q 1 (wl_at hq) rfl hin d ?_
  rw [hi]
  exact k H locs ls hP hS hl
theorem ok_zald (F : Fx sh X cc nL own dp) {q n : Nat} {i : Int} (d : decode cc pc = .ok (.baload, 1)) (hq : sh[q]? = some (.inr (.inl (2, n)))) (hn : n < 2 ^ 31) (h0 : 0 ≤ i) (h1 : i < n) {v : Int} (hv : mem q i.toNat = v) (k : Ok sh X nL (pc + 1) lv (pI v :: st) mem) : Ok sh X nL pc lv (pI i :: pR q :: st) mem := by
  subst hv
  obtain ⟨⟨p, l, e, R, s, m, args, below, meth, c, Q⟩, D, ad, aC, adV, A, nc, ns⟩ := X
  obtain ⟨hx, hb, hml, hown, hts, hK, hD, -⟩ := F
  obtain ⟨hin, hi⟩ := i32_idx h0 h1 hn
  intro H locs ls hP hS hl
  refine va_zald hx hb hK hP q 2 (wl_at hq) rfl hin d ?_
  rw [hi]
  exact k H locs ls hP hS hl
theorem ok_lald (F : Fx sh X cc nL own dp) {q n : Nat} {i : Int} (d : decode cc pc = .ok (.laload, 1)) (hq : sh[q]? = some (.inr (.inl (3, n)))) (hn : n < 2 ^ 31) (h0 : 0 ≤ i) (h1 : i < n) {v : Int} (hv : mem q i.toNat = v) (k : Ok sh X nL (pc + 1) lv (pL v :: st) mem) : Ok sh X nL pc lv (pI i :: pR q :: st) mem := by
  subst hv
  obtain ⟨⟨p, l, e, R, s, m, args, below, meth, c, Q⟩, D, ad, aC, adV, A, nc, ns⟩ := X
  obtain ⟨hx, hb, hml, hown, hts, hK, hD, -⟩ := F
  obtain ⟨hin, hi⟩ := i32_idx h0 h1 hn
  intro H locs ls hP hS hl
  refine va_lald hx hb hK hP q 3 (wl_at hq) rfl hin d ?_
  rw [hi]
  exact k H locs ls hP hS hl
/-- the contents behind a store -/
theorem upd_i {mem : Mem} {q j : Nat} {z : Int} : (upd (fun j => Int32.ofInt (mem q j)) j (Int32.ofInt z)) = fun b => Int32.ofInt (mset mem q j z q b) := by
  funext b
  by_cases e : b = j
  · subst e
    simp [upd, mset]
  · simp [upd, mset, e]
theorem upd_l {mem : Mem} {q j : Nat} {z : Int} : (vp_updL (fun j => Int64.ofInt (mem q j)) j (Int64.ofInt z)) = fun b => Int64.ofInt (mset mem q j z q b) := by
  funext b
  by_cases e : b = j
  · subst e
    simp [vp_updL, mset]
  · simp [vp_updL, mset, e]
theorem ok_iast (F : Fx sh X cc nL own dp) {q n : Nat} {i z : Int} (d : decode cc pc = .ok (.iastore, 1)) (hq : sh[q]? = some (.inr (.inl (0, n)))) (hn : n < 2 ^ 31) (h0 : 0 ≤ i) (h1 : i < n) (k : ∀ mem', mem' = mset mem q i.toNat z → Ok sh X nL (pc + 1) lv st mem') : Ok sh X nL pc lv (pI z :: pI i :: pR q :: st) mem := by
  have k := k _ rfl
  obtain ⟨⟨p, l, e, R, s, m, args, below, meth, c, Q⟩, D, ad, aC, adV, A, nc, ns⟩ := X
  obtain ⟨hx, hb, hml, hown, hts, hK, hD, -⟩ := F
  obtain ⟨hin, hi⟩ := i32_idx h0 h1 hn
  intro H locs ls hP hS hl
  refine va_iast hx hb hK hP (hD mem) hS q 0 (wl_at hq) rfl hin d (fun H1 locs1 h1 h2 h3 => ?_)
  rw [hi, upd_i] at h1
  have h1 : va_P D vwCl (wl ad aC sh (mset mem q i.toNat z)) H1 := by
    rw [← wl_set (ad := ad) (aC := aC) (mem := mem) (j := i.toNat) (v := z) hq rfl]
    exact h1
  exact k H1 locs1 ls h1 h3 hl
theorem ok_bast (F : Fx sh X cc nL own dp) {q n : Nat} {i z : Int} (d : decode cc pc = .ok (.bastore, 1)) (hq : sh[q]? = some (.inr (.inl (1, n)))) (hn : n < 2 ^ 31) (h0 : 0 ≤ i) (h1 : i < n) (hz : vp_nar .byte (Int32.ofInt z) = Int32.ofInt z) (k : ∀ mem', mem' = mset mem q i.toNat z → Ok sh X nL (pc + 1) lv st mem') : Ok sh X nL pc lv (pI z :: pI i :: pR q :: st) mem := by
  have k := k _ rfl
  obtain ⟨⟨p, l, e, R, s, m, args, below, meth, c, Q⟩, D, ad, aC, adV, A, nc, ns⟩ := X
  obtain ⟨hx, hb, hml, hown, hts, hK, hD, -⟩ := F
  obtain ⟨hin, hi⟩ := i32_idx h0 h1 hn
  intro H locs ls hP hS hl
  refine va_bast hx hb hK hP (hD mem) hS q 1 (wl_at hq) rfl hin d (fun H1 locs1 h1 h2 h3 => ?_)
  rw [hz, hi, upd_i] at h1
  have h1 : va_P D vwCl (wl ad aC sh (mset mem q i.toNat z)) H1 := by
    rw [← wl_set (ad := ad) (aC := aC) (mem := mem) (j := i.toNat) (v := z) hq rfl]
    exact h1
  exact k H1 locs1 ls h1 h3 hl
theorem ok_zast (F : Fx sh X cc nL own dp) {q n : Nat} {i z : Int} (d : decode cc pc = .ok (.bastore, 1)) (hq : sh[q]? = some (.inr (.inl (2, n)))) (hn : n < 2 ^ 31) (h0 : 0 ≤ i) (h1 : i < n) (hz : vp_nar .boolean (Int32.ofInt z) = Int32.ofInt z) (k : ∀ mem', mem' = mset mem q i.toNat z → Ok sh X nL (pc + 1) lv st mem') : Ok sh X nL pc lv (pI z :: pI i :: pR q :: st) mem := by
  have k := k _ rfl
  obtain ⟨⟨p, l, e, R, s, m, args, below, meth, c, Q⟩, D, ad, aC, adV, A, nc, ns⟩ := X
  obtain ⟨hx, hb, hml, hown, hts, hK, hD, -⟩ := F
  obtain ⟨hin, hi⟩ := i32_idx h0 h1 hn
  intro H locs ls hP hS hl
  refine va_zast hx hb hK hP (hD mem) hS q 2 (wl_at hq) rfl hin d (fun H1 locs1 h1 h2 h3 => ?_)
  rw [hz, hi, upd_i] at h1
  have h1 : va_P D vwCl (wl ad aC sh (mset mem q i.toNat z)) H1 := by
    rw [← wl_set (ad := ad) (aC := aC) (mem := mem) (j := i.toNat) (v := z) hq rfl]
    exact h1
  exact k H1 locs1 ls h1 h3 hl
theorem ok_last (F : Fx sh X cc nL own dp) {q n : Nat} {i z : Int} (d : decode cc pc = .ok (.lastore, 1)) (hq : sh[q]? = some (.inr (.inl (3, n)))) (hn : n < 2 ^ 31) (h0 : 0 ≤ i) (h1 : i < n) (k : ∀ mem', mem' = mset mem q i.toNat z → Ok sh X nL (pc + 1) lv st mem') : Ok sh X nL pc lv (pL z :: pI i :: pR q :: st) mem := by
  have k := k _ rfl
  obtain ⟨⟨p, l, e, R, s, m, args, below, meth, c, Q⟩, D, ad, aC, adV, A, nc, ns⟩ := X
  obtain ⟨hx, hb, hml, hown, hts, hK, hD, -⟩ := F
  obtain ⟨hin, hi⟩ := i32_idx h0 h1 hn
  intro H locs ls hP hS hl
  refine va_last hx hb hK hP (hD mem) hS q 3 (wl_at hq) rfl hin d (fun H1 locs1 h1 h2 h3 => ?_)
  rw [hi, upd_l] at h1
  have h1 : va_P D vwCl (wl ad aC sh (mset mem q i.toNat z)) H1 := by
    rw [← wl_set (ad := ad) (aC := aC) (mem := mem) (j := i.toNat) (v := z) hq rfl]
    exact h1
  exact k H1 locs1 ls h1 h3 hl
/-- a cell out of an array of cells -/
theorem ok_aald (F : Fx sh X cc nL own dp) {q t r : Nat} {rs : List Nat} {i : Int} {ty : FieldType} (d : decode cc pc = .ok (.aaload, 1)) (hq : sh[q]? = some (.inr (.inr (t, rs)))) (ht : (tyL X.2.2.2.1)[t]? = some (X.2.2.2.1 t, ty)) (hk : ty = .object "TillFloat$State" ∨ ty = .array .int) (hn : rs.length < 2 ^ 31) (h0 : 0 ≤ i) (h1 : i < rs.length) (hr : rs[i.toNat]? = some r) (k : Ok sh X nL (pc + 1) lv (pR r :: st) mem) : Ok sh X nL pc lv (pI i :: pR q :: st) mem := by
  obtain ⟨⟨p, l, e, R, s, m, args, below, meth, c, Q⟩, D, ad, aC, adV, A, nc, ns⟩ := X
  obtain ⟨hx, hb, hml, hown, hts, hK, hD, -⟩ := F
  obtain ⟨hin, hi⟩ := i32_idx h0 h1 hn
  intro H locs ls hP hS hl
  have hlt : (Int32.ofInt i).toNatClampNeg < rs.length := by rw [hi]; omega
  have hk2 := k H locs ls hP hS hl
  have e1 : va_rf ((rs[(Int32.ofInt i).toNatClampNeg]?).map ad) = .ref (ad r) := by rw [hi, hr]; rfl
  rcases hk with rfl | rfl
  · exact W.aald (v := .ref (ad r)) (ty := .object "TillFloat$State") hx hb (hP q _ (wl_at hq)) ((hK.2 t _ ht).1 rs.length (fun j => va_rf ((rs[j]?).map ad))) rfl (fun q => by cases q) (by show ¬ (Int32.ofInt i < 0 ∨ (arrV _ _ _).slots.size ≤ _); rw [arrV_size]; exact hin) (by show (arrV _ _ _).slots[_]? = _; rw [arrV_read _ _ hlt, e1]) rfl rfl d hk2
  · exact W.aald (v := .ref (ad r)) (ty := .array .int) hx hb (hP q _ (wl_at hq)) ((hK.2 t _ ht).1 rs.length (fun j => va_rf ((rs[j]?).map ad))) rfl (fun q => by cases q) (by show ¬ (Int32.ofInt i < 0 ∨ (arrV _ _ _).slots.size ≤ _); rw [arrV_size]; exact hin) (by show (arrV _ _ _).slots[_]? = _; rw [arrV_read _ _ hlt, e1]) rfl rfl d hk2
theorem ok_alen (F : Fx sh X cc nL own dp) {q n t : Nat} (d : decode cc pc = .ok (.arraylength, 1)) (hq : sh[q]? = some (.inr (.inl (t, n)))) (ht : t < 4) (k : Ok sh X nL (pc + 1) lv (pI n :: st) mem) : Ok sh X nL pc lv (pR q :: st) mem := by
  obtain ⟨⟨p, l, e, R, s, m, args, below, meth, c, Q⟩, D, ad, aC, adV, A, nc, ns⟩ := X
  obtain ⟨hx, hb, hml, hown, hts, hK, hD, -⟩ := F
  intro H locs ls hP hS hl
  have hk2 := k H locs ls hP hS hl
  have e1 : Int32.ofNat n = Int32.ofInt (n : Int) := (Int32.ofInt_eq_ofNat).symm
  rcases (by omega : t = 0 ∨ t = 1 ∨ t = 2 ∨ t = 3) with rfl | rfl | rfl | rfl
  · exact va_alen hx hb hK hP q 0 (wl_at hq) rfl e1 d hk2
  · exact va_alen hx hb hK hP q 1 (wl_at hq) rfl e1 d hk2
  · exact va_alen hx hb hK hP q 2 (wl_at hq) rfl e1 d hk2
  · exact va_alen hx hb hK hP q 3 (wl_at hq) rfl e1 d hk2
/-! tables of jumps -/
theorem ok_tabIn (F : Fx sh X cc nL own dp) {dflt lo hi : Int} {offs : Array Int} {len : Nat} {x off : Int} (tgt : Nat) (d : decode cc pc = .ok (.tableswitch dflt lo hi offs, len)) (hx1 : i32 x) (h1 : lo ≤ x) (h2 : x ≤ hi) (ho : offs[(x - lo).toNat]? = some off) (ht : (pc : Int) + off = (tgt : Int)) (k : Ok sh X nL tgt lv st mem) : Ok sh X nL pc lv (pI x :: st) mem := by
  obtain ⟨⟨p, l, e, R, s, m, args, below, meth, c, Q⟩, D, ad, aC, adV, A, nc, ns⟩ := X
  obtain ⟨hx, hb, hml, hown, hts, hK, hD, -⟩ := F
  intro H locs ls hP hS hl
  have e1 := i32_toInt hx1
  exact lv_tableIn hx hb d (by rw [e1]; omega) (by rw [e1]; omega) (by rw [e1]; exact ho) ht (k H locs ls hP hS hl)
theorem ok_tabOut (F : Fx sh X cc nL own dp) {dflt lo hi : Int} {offs : Array Int} {len : Nat} {x : Int} (tgt : Nat) (d : decode cc pc = .ok (.tableswitch dflt lo hi offs, len)) (hx1 : i32 x) (h1 : x < lo ∨ hi < x) (ht : (pc : Int) + dflt = (tgt : Int)) (k : Ok sh X nL tgt lv st mem) : Ok sh X nL pc lv (pI x :: st) mem := by
  obtain ⟨⟨p, l, e, R, s, m, args, below, meth, c, Q⟩, D, ad, aC, adV, A, nc, ns⟩ := X
  obtain ⟨hx, hb, hml, hown, hts, hK, hD, -⟩ := F
  intro H locs ls hP hS hl
  have e1 := i32_toInt hx1
  exact lv_tableOut hx hb d (by rw [e1]; exact h1) ht (k H locs ls hP hS hl)
end PR2
