/-! what has been made, in the order in which it was made, and by the numbers of shp -/
def Bx1 : List BS := [.inl (7, bl_X7)]
def Bx2 : List BS := Bx1.set 0 (.inl (7, fs_X7 1)) ++ nw_X7 1
def Bx3 : List BS := Bx2 ++ [.inl (8, bl_X8)]
def Bx4 : List BS := Bx3.set 194 (.inl (8, fs_X8 195)) ++ nw_X8 195
theorem Bx2_len : Bx2.length = 194 := by decide +kernel
theorem Bx3_len : Bx3.length = 195 := by decide +kernel
theorem Bx4_len : Bx4.length = 214 := by decide +kernel
def gxL : List Nat := [194, 195, 196, 197, 198, 199, 200, 201, 202, 203, 204, 205, 206, 207, 208, 209, 210, 211, 212, 213, 0, 1, 2, 3, 4, 5, 6, 7, 8, 9, 10, 11, 13, 14, 15, 16, 17, 18, 19, 20, 21, 22, 23, 62, 63, 64, 65, 66, 67, 68, 69, 70, 71, 72, 73, 74, 75, 76, 77, 78, 79, 80, 81, 82, 83, 84, 85, 86, 87, 88, 89, 90, 91, 92, 93, 94, 95, 96, 97, 98, 99, 100, 101, 102, 103, 104, 105, 106, 107, 108, 109, 110, 111, 112, 113, 114, 115, 116, 117, 118, 119, 120, 121, 122, 123, 124, 125, 126, 127, 128, 129, 130, 131, 132, 133, 134, 135, 136, 137, 138, 139, 140, 141, 142, 143, 144, 145, 146, 147, 148, 149, 150, 151, 152, 153, 154, 155, 156, 157, 158, 159, 160, 161, 162, 163, 164, 165, 166, 167, 168, 169, 170, 171, 172, 173, 174, 175, 176, 177, 178, 179, 180, 181, 182, 183, 184, 185, 186, 187, 188, 189, 190, 191, 192, 193, 12, 24, 25, 26, 27, 28, 29, 30, 31, 54, 32, 33, 51, 52, 53, 34, 35, 36, 37, 38, 39, 40, 41, 42, 43, 44, 45, 46, 47, 48, 49, 50, 55, 56, 61, 57, 58, 59, 60]
/-- the place of making of shp's cell k -/
def gx (k : Nat) : Nat := gxL.getD k 0
/-- at first all numbers are 0, but one -/
def mem0 : Mem := fun a b => if a = 186 ∧ b = 5 then -1 else 0
def csB (k : Nat) (c : CS) : BS := match c with
  | .inl (ci, fs) => .inl (ci, fs.mapIdx (fun j f => match f with
    | some r => pR (gx r)
    | none => pI (mem0 k j)))
  | .inr (.inl (t, n)) => .inr (.inl (t, n))
  | .inr (.inr (t, rs)) => .inr (.inr (t, rs.map (fun r => some (gx r))))
def rfOk (c : CS) : Bool := match c with
  | .inl (_, fs) => fs.all (fun f => match f with
    | some r => decide (r < 214)
    | none => true)
  | .inr (.inl _) => true
  | .inr (.inr (_, rs)) => rs.all (fun r => decide (r < 214))
def isO (c : CS) : Bool := match c with
  | .inl _ => true
  | _ => false
set_option maxRecDepth 100000 in
theorem shp_len : shp.length = 214 := by decide +kernel
set_option maxRecDepth 100000 in
def pvd1 : DecidableEq PV := inferInstance
def pvd2 : DecidableEq (Nat × List PV) := @instDecidableEqProd _ _ inferInstance (@instDecidableEqList _ pvd1)
def pvd3 : DecidableEq ((Nat × Nat) ⊕ (Nat × List (Option Nat))) := inferInstance
def pvd4 : DecidableEq BS := @instDecidableEqSum _ _ pvd2 pvd3
def eqO (a b : Option BS) : Bool := match a, b with
  | some x, some y => @decide (x = y) (pvd4 x y)
  | none, none => true
  | _, _ => false
theorem eqO_ok {a b : Option BS} (h : eqO a b = true) : a = b := by
  cases a with
  | none =>
    cases b with
    | none => rfl
    | some y => cases h
  | some x =>
    cases b with
    | none => cases h
    | some y => exact congrArg some (@of_decide_eq_true _ (pvd4 x y) h)
set_option maxRecDepth 100000 in
theorem gx_ok : (List.range 214).all (fun k => eqO (Bx4[gx k]?) ((shp[k]?).map (csB k))) = true := by decide +kernel
set_option maxRecDepth 100000 in
theorem rf_ok : shp.all rfOk = true := by decide +kernel
set_option maxRecDepth 100000 in
theorem gx_nd : va_nd gxL = true := by decide +kernel
theorem gx_len : gxL.length = 214 := by decide +kernel
theorem sh186_o : (shp[186]?).map isO = some true := by decide +kernel
theorem gx_inj {i j : Nat} (hi : i < 214) (hj : j < 214) (h : gx i = gx j) : i = j := by
  have e : ∀ k, k < 214 → gxL[k]? = some (gx k) := fun k hk => by
    unfold gx
    rw [List.getD_eq_getElem?_getD, List.getElem?_eq_getElem (by rw [gx_len]; exact hk)]
    rfl
  exact va_nd_inj gxL gx_nd i j (gx i) (e i hi) (by rw [h]; exact e j hj)
theorem mem0_ne {k : Nat} (h : k ≠ 186) : mem0 k = fun _ => 0 := funext fun j => if_neg (fun q => h q.1)
theorem bE_csB {sz : Nat} {ad : Nat → Nat} {aC : Nat → ClassId} (had : ∀ k, k < 214 → ad k = sz + gx k) {k : Nat} {c : CS} (h : shp[k]? = some c) : bE (adB sz) aC (csB k c) = cE ad aC mem0 k c := by
  have hr : rfOk c = true := List.all_eq_true.mp rf_ok c (List.mem_of_getElem? h)
  rcases c with ⟨ci, fs⟩ | ⟨t, n⟩ | ⟨t, rs⟩
  · show Sum.inr (ci, (fs.mapIdx _).map (em (adB sz))) = Sum.inr (ci, fs.mapIdx (fE ad mem0 k))
    congr 2
    apply List.ext_getElem?
    intro j
    rw [List.getElem?_map, List.getElem?_mapIdx, List.getElem?_mapIdx]
    cases hs : fs[j]? with
    | none => rfl
    | some f =>
      cases f with
      | none => rfl
      | some r =>
        have hr2 := List.all_eq_true.mp hr _ (List.mem_of_getElem? hs)
        have hr3 : r < 214 := of_decide_eq_true hr2
        show some (Value.ref (adB sz (gx r))) = some (Value.ref (ad r))
        rw [had r hr3]
        rfl
  · have hk : k ≠ 186 := fun q => by
      subst q
      have s := sh186_o
      rw [h] at s
      cases s
    have e0 : mem0 k = fun _ => 0 := mem0_ne hk
    by_cases t3 : t = 3
    · subst t3
      show (Sum.inl (aC 3, n, Sum.inr (Sum.inl fun _ => 0)) : va_E) = Sum.inl (aC 3, n, Sum.inr (Sum.inl fun j => Int64.ofInt (mem0 k j)))
      rw [e0]
      rfl
    · have e1 : cE ad aC mem0 k (.inr (.inl (t, n))) = .inl (aC t, n, .inl fun j => Int32.ofInt (mem0 k j)) := by
        unfold cE
        split <;> simp_all
      have e2 : bE (adB sz) aC (.inr (.inl (t, n))) = .inl (aC t, n, .inl fun _ => 0) := by
        unfold bE
        split <;> simp_all
      show bE (adB sz) aC (.inr (.inl (t, n))) = _
      rw [e1, e2, e0]
      rfl
  · show (Sum.inl (aC t, (rs.map (fun r => some (gx r))).length, Sum.inr (Sum.inr (Sum.inr (Sum.inr fun j => ((rs.map (fun r => some (gx r))).getD j none).map (adB sz))))) : va_E) = Sum.inl (aC t, rs.length, Sum.inr (Sum.inr (Sum.inr (Sum.inr fun j => (rs[j]?).map ad))))
    have ef : (fun j => ((rs.map (fun r => some (gx r))).getD j none).map (adB sz)) = (fun j => (rs[j]?).map ad) := funext fun j => by
      rw [List.getD_eq_getElem?_getD, List.getElem?_map]
      cases hs : rs[j]? with
      | none => rfl
      | some r =>
        have hr3 : r < 214 := of_decide_eq_true (List.all_eq_true.mp hr _ (List.mem_of_getElem? hs))
        show some (adB sz (gx r)) = some (ad r)
        rw [had r hr3]
        rfl
    rw [List.length_map, ef]
/-- the world that has been made is that of shp -/
theorem made_P {D : va_G} {sz : Nat} {ad : Nat → Nat} {aC : Nat → ClassId} {H : Heap} (had : ∀ k, k < 214 → ad k = sz + gx k) (hP : va_P D vwCl (wbl sz aC Bx4) H) : va_P D vwCl (wl ad aC shp mem0) H := by
  intro k q hq
  unfold wl at hq
  rw [List.getElem?_mapIdx] at hq
  cases hs : shp[k]? with
  | none => rw [hs] at hq; cases hq
  | some c =>
    rw [hs] at hq
    have e1 : (ad k, cE ad aC mem0 k c) = q := Option.some.inj hq
    have hk : k < 214 := by
      have := (List.getElem?_eq_some_iff.mp hs).1
      rw [shp_len] at this
      exact this
    have g := eqO_ok (List.all_eq_true.mp gx_ok k (List.mem_range.mpr hk))
    rw [hs] at g
    have r := hP _ _ (wbl_at g)
    rw [← e1, ← bE_csB had hs, had k hk]
    exact r
theorem made_D {ad : Nat → Nat} {aC : Nat → ClassId} {A : Nat → Prop} {sz : Nat} (had : ∀ k, k < 214 → ad k = sz + gx k) (hA : ∀ k, A (sz + k)) (mem : Mem) : va_D A (wl ad aC shp mem) := by
  have key : ∀ (k : Nat) (q : Nat × va_E), (wl ad aC shp mem)[k]? = some q → k < 214 ∧ q.1 = sz + gx k := fun k q hq => by
    unfold wl at hq
    rw [List.getElem?_mapIdx] at hq
    cases hs : shp[k]? with
    | none => rw [hs] at hq; cases hq
    | some c =>
      rw [hs] at hq
      have e1 : (ad k, cE ad aC mem k c) = q := Option.some.inj hq
      have hk : k < 214 := by
        have := (List.getElem?_eq_some_iff.mp hs).1
        rw [shp_len] at this
        exact this
      exact ⟨hk, by rw [← e1]; exact had k hk⟩
  refine ⟨fun i j p q hi hj e => ?_, fun k q hk => by rw [(key k q hk).2]; exact hA _⟩
  obtain ⟨a1, a2⟩ := key i p hi
  obtain ⟨b1, b2⟩ := key j q hj
  exact gx_inj a1 b1 (by omega)
/-- at the beginning both are well -/
theorem CR.start : CR 0 mem0 := by
  have z186 : ∀ j, j ≠ 5 → mem0 186 j = 0 := fun j hj => if_neg (fun q => hj q.2)
  have z : ∀ k, k ≠ 186 → ∀ j, mem0 k j = 0 := fun k hk j => by rw [mem0_ne hk]
  have z1 : ∀ j, mem0 1 j = 0 := z 1 (by decide)
  have hG : GR (mem0 1) := by
    refine ⟨by rw [z1]; decide, by rw [z1]; decide, by rw [z1]; decide, fun _ _ => by rw [z1]; decide, fun i hi => absurd hi (by rw [z1]; omega), fun _ _ _ _ => by rw [z1]; decide, fun i hi => absurd hi (by rw [z1]; omega), fun s hs => absurd hs (by rw [z1]; omega), fun s hs => absurd hs (by rw [z1]; omega), ?_⟩
    rw [z1 0]
    decide
  have hRI : RI 0 (mem0 1) := ⟨hG, fun h => absurd h (by rw [z 1 (by decide)]; decide), fun j _ => z 1 (by decide) j, fun k _ => by rw [z 1 (by decide)]; decide⟩
  have hRS : RS mem0 21 (mem0 1) := by
    refine ⟨by rw [z 21 (by decide), z 1 (by decide)], by rw [z 21 (by decide), z 1 (by decide)], fun r hr k hk => by rw [z _ (by omega), z 1 (by decide)], fun s hs => absurd hs (by rw [z 1 (by decide)]; omega), fun d hd => absurd hd (by rw [z 1 (by decide)]; omega)⟩
  refine ⟨⟨by rw [z 0 (by decide)]; decide, by rw [z 20 (by decide), z 0 (by decide)], fun p _ => by rw [z 176 (by decide), z 6 (by decide)]; decide +kernel, fun k => by rw [z 6 (by decide)]; decide⟩, ⟨by rw [z 0 (by decide)]; decide, fun k _ => z 2 (by decide) k, fun k => Or.inl (z 7 (by decide) k)⟩, ⟨hRI, hRS⟩, ⟨?_, ?_⟩, PastC.none (by rw [z 20 (by decide)]; decide) (z 20 (by decide) 6) (z 0 (by decide) 5), ⟨by rw [z 20 (by decide)]; decide, fun k => ⟨Or.inl (z 5 (by decide) k), fun hk => ⟨?_, fun q => absurd q (by rw [z 5 (by decide)]; decide)⟩⟩⟩⟩
  · refine ⟨by rw [z 183 (by decide)]; decide, by rw [z 183 (by decide)]; decide, fun i hi => absurd hi (by rw [z 183 (by decide)]; omega), fun i _ => by rw [z 187 (by decide)]; decide, fun a _ => by rw [z 189 (by decide), z 188 (by decide)]; decide, z 189 (by decide) 0, z 188 (by decide) 0, fun a h1 h2 => absurd h2 (by rw [z 183 (by decide)]; omega)⟩
  · exact Or.inl ⟨z186 3 (by decide), z186 4 (by decide), rfl, fun i _ => ⟨z 190 (by decide) i, z 191 (by decide) i, z 192 (by decide) i⟩⟩
  · rw [z 20 (by decide), z 5 (by decide)]
    rcases (show k = 0 ∨ k = 1 by omega) with rfl | rfl <;> decide +kernel
