/-! the class: the table read -/
/-- the memory holds a table, with its origin, top and kinds -/
def FwOk (m : Mem) (tb : Nat → Int → Int) (O T K : Int) : Prop := m 186 3 = K ∧ m 186 4 = O ∧ m 186 5 = T ∧ (0 ≤ K ∧ K ≤ 8) ∧ (0 ≤ O ∧ O ≤ 2000) ∧ (0 ≤ T ∧ T ≤ 2500 ∧ O + T ≤ 4000) ∧ (∀ i : Nat, (i : Int) < K → 1 ≤ m 190 i ∧ m 190 i ≤ 500) ∧ (∀ i : Nat, i < 8 → 0 ≤ m 191 i ∧ m 191 i ≤ 200) ∧ (∀ i : Nat, i < 8 → 0 ≤ m 192 i ∧ m 192 i ≤ 200) ∧ TabOk tb (m 190) (m 191) (m 192) O T K.toNat ∧ LayN m tb (m 190) (m 191) (m 192) O T K.toNat
theorem FwOk.congr {m mv : Mem} {tb : Nat → Int → Int} {O T K : Int} (h : FwOk m tb O T K) (e : ∀ a, 186 ≤ a → a ≤ 206 → a ≠ 187 → a ≠ 188 → a ≠ 189 → mv a = m a) : FwOk mv tb O T K := by
  obtain ⟨h1, h2, h3, h4, h5, h6, h7, h8, h9, h10, h11⟩ := h
  have e6 := e 186 (by decide) (by decide) (by decide) (by decide) (by decide)
  have e0 := e 190 (by decide) (by decide) (by decide) (by decide) (by decide)
  have e1 := e 191 (by decide) (by decide) (by decide) (by decide) (by decide)
  have e2 := e 192 (by decide) (by decide) (by decide) (by decide) (by decide)
  refine ⟨by rw [e6]; exact h1, by rw [e6]; exact h2, by rw [e6]; exact h3, h4, h5, h6, by rw [e0]; exact h7, by rw [e1]; exact h8, by rw [e2]; exact h9, by rw [e0, e1, e2]; exact h10, ?_⟩
  rw [e0, e1, e2]
  intro j hj
  obtain ⟨a1, a2, a3⟩ := h11 j hj
  refine ⟨by rw [e 203 (by decide) (by decide) (by decide) (by decide) (by decide)]; exact a1, by rw [e 204 (by decide) (by decide) (by decide) (by decide) (by decide)]; exact a2, fun s q1 q2 => ?_⟩
  rw [e (194 + j) (by omega) (by omega) (by omega) (by omega) (by omega)]
  exact a3 s q1 q2
/-- the first z, downward from one, for which something is so; the last one tried where none is -/
def topZ (P : Int → Bool) : Nat → Int → Int
  | 0, z => z
  | n + 1, z => if P z = true then z else topZ P n (z - 1)
theorem topZ_s (P : Int → Bool) (n : Nat) (z : Int) : topZ P (n + 1) z = if P z = true then z else topZ P n (z - 1) := rfl
theorem topZ_rng (P : Int → Bool) : ∀ (n : Nat) (z : Int), z - n ≤ topZ P n z ∧ topZ P n z ≤ z
  | 0, z => by simp [topZ]
  | n + 1, z => by
    have h := topZ_rng P n (z - 1)
    unfold topZ
    split <;> omega
theorem topZ_of {P : Int → Bool} : ∀ {n : Nat} {z w : Int}, z - n ≤ w → w ≤ z → P w = true → P (topZ P n z) = true ∧ w ≤ topZ P n z
  | 0, z, w, h1, h2, h3 => by
    obtain rfl : w = z := by omega
    exact ⟨h3, Int.le_refl _⟩
  | n + 1, z, w, h1, h2, h3 => by
    unfold topZ
    by_cases e : P z = true
    · rw [if_pos e]; exact ⟨e, h2⟩
    · rw [if_neg e]
      have : w ≠ z := fun q => e (q ▸ h3)
      exact topZ_of (by omega) (by omega) h3
theorem topZ_max {P : Int → Bool} : ∀ {n : Nat} {z w : Int}, w ≤ z → topZ P n z < w → P w = false
  | 0, z, w, h1, h2 => by simp [topZ] at h2; omega
  | n + 1, z, w, h1, h2 => by
    unfold topZ at h2
    by_cases e : P z = true
    · rw [if_pos e] at h2; omega
    · rw [if_neg e] at h2
      by_cases q : w = z
      · subst q; exact Bool.eq_false_iff.mpr e
      · exact topZ_max (n := n) (z := z - 1) (by omega) h2
/-- how many of kind k go to a sum that takes so many pieces -/
def rdZ (tb : Nat → Int → Int) (v g r : Nat → Int) (k : Nat) (s d : Int) : Int := topZ (fun z => decide (tb k (s - z * v k) = d - (z.natAbs : Int))) (g k + r k).toNat (g k)
/-- the row of a sum, read from the greatest kind on -/
def rdR (tb : Nat → Int → Int) (v g r : Nat → Int) : Nat → Int → Int → Nat → Int
  | 0, _, _, _ => 0
  | n + 1, s, d, k => if k = n then rdZ tb v g r n s d else rdR tb v g r n (s - rdZ tb v g r n s d * v n) (d - ((rdZ tb v g r n s d).natAbs : Int)) k
theorem rdR_s (tb : Nat → Int → Int) (v g r : Nat → Int) (n : Nat) (s d : Int) (k : Nat) : rdR tb v g r (n + 1) s d k = if k = n then rdZ tb v g r n s d else rdR tb v g r n (s - rdZ tb v g r n s d * v n) (d - ((rdZ tb v g r n s d).natAbs : Int)) k := rfl
/-- what stands in the table came from a level below -/
theorem TabOk.attain {tb : Nat → Int → Int} {v g r : Nat → Int} {O T : Int} {K k : Nat} {s : Int} (h : TabOk tb v g r O T K) (hk : k < K) (hv : 0 ≤ v k) (hg : 0 ≤ g k) (hr : 0 ≤ r k) (hs : tb (k + 1) s < 1000000) : ∃ z : Int, -(r k) ≤ z ∧ z ≤ g k ∧ tb (k + 1) s = tb k (s - z * v k) + (z.natAbs : Int) := by
  have hin : lowF O v r (k + 1) ≤ s ∧ s ≤ highF T v g (k + 1) := by
    by_cases q : lowF O v r (k + 1) ≤ s ∧ s ≤ highF T v g (k + 1)
    · exact q
    · have := h.2.2.1 (k + 1) (by omega) s q; omega
  have e := h.2.2.2 k hk s hin.1 hin.2
  obtain ⟨z, z1, z2, z3⟩ := winF_at (fun A : Nat => tb k (lowF O v r (k + 1) + A)) (v k).toNat (s - lowF O v r (k + 1)).toNat (g k).toNat
  obtain ⟨y, y1, y2, y3⟩ := winF_at (fun A : Nat => tb k (highF T v g (k + 1) - A)) (v k).toNat (highF T v g (k + 1) - s).toNat (r k).toNat
  have ezv : ((z * (v k).toNat : Nat) : Int) = (z : Int) * v k := by rw [Int.natCast_mul, Int.toNat_of_nonneg hv]
  have eyv : ((y * (v k).toNat : Nat) : Int) = (y : Int) * v k := by rw [Int.natCast_mul, Int.toNat_of_nonneg hv]
  have ez : lowF O v r (k + 1) + (((s - lowF O v r (k + 1)).toNat - z * (v k).toNat : Nat) : Int) = s - (z : Int) * v k := by omega
  have ey : highF T v g (k + 1) - (((highF T v g (k + 1) - s).toNat - y * (v k).toNat : Nat) : Int) = s - (-(y : Int)) * v k := by rw [Int.neg_mul]; omega
  try dsimp only at z3 y3
  rw [ez] at z3
  rw [ey] at y3
  unfold stepF at e
  rw [z3, y3] at e
  have c : tb (k + 1) s = tb k s ∨ tb (k + 1) s = tb k (s - (z : Int) * v k) + z ∨ tb (k + 1) s = tb k (s - (-(y : Int)) * v k) + y := by omega
  rcases c with c | c | c
  · exact ⟨0, by omega, hg, by rw [c, Int.zero_mul, Int.sub_zero]; simp⟩
  · exact ⟨z, by omega, by omega, by rw [c]; simp⟩
  · exact ⟨-(y : Int), by omega, by omega, by rw [c]; simp⟩
/-- the z that is read is one of these -/
theorem rdZ_of {tb : Nat → Int → Int} {v g r : Nat → Int} {O T : Int} {K k : Nat} {s d : Int} (h : TabOk tb v g r O T K) (hk : k < K) (hv : 0 ≤ v k) (hg : 0 ≤ g k) (hr : 0 ≤ r k) (hd : tb (k + 1) s = d) (hs : d < 1000000) : -(r k) ≤ rdZ tb v g r k s d ∧ rdZ tb v g r k s d ≤ g k ∧ tb k (s - rdZ tb v g r k s d * v k) = d - ((rdZ tb v g r k s d).natAbs : Int) := by
  obtain ⟨z, z1, z2, z3⟩ := h.attain hk hv hg hr (by rw [hd]; exact hs)
  have q := topZ_of (P := fun z => decide (tb k (s - z * v k) = d - (z.natAbs : Int))) (n := (g k + r k).toNat) (z := g k) (w := z) (by omega) z2 (decide_eq_true (by omega))
  have q2 := topZ_rng (fun z => decide (tb k (s - z * v k) = d - (z.natAbs : Int))) (g k + r k).toNat (g k)
  exact ⟨by unfold rdZ; omega, by unfold rdZ; omega, of_decide_eq_true q.1⟩
theorem TabOk.rng {tb : Nat → Int → Int} {v g r : Nat → Int} {O T : Int} {K k : Nat} {s : Int} (h : TabOk tb v g r O T K) (hk : k ≤ K) (hO : 0 ≤ O) (hT : 0 ≤ T) (hb : ∀ i, i < K → 0 ≤ g i ∧ 0 ≤ r i ∧ 0 ≤ v i) (hs : tb k s < 1000000) : -O ≤ s ∧ s ≤ T := by
  have q : lowF O v r k ≤ s ∧ s ≤ highF T v g k := by
    by_cases q : lowF O v r k ≤ s ∧ s ≤ highF T v g k
    · exact q
    · have := h.2.2.1 k hk s q; omega
  have h1 := lowF_bd (O := O) (v := v) (r := r) (k := k) hO (fun i hi => ⟨(hb i (by omega)).2.1, (hb i (by omega)).2.2⟩)
  have h2 := highF_bd (T := T) (v := v) (g := g) (k := k) hT (fun i hi => ⟨(hb i (by omega)).1, (hb i (by omega)).2.2⟩)
  omega
theorem mset_nka {f : Mem} {k j a : Nat} {v : Int} (h : a ≠ k) : mset f k j v a = f a := funext fun b => mset_nk h
theorem dX1_costOf_0 : decode cX1_costOf 0 = .ok (.iload_n 1, 1) := by decide +kernel
theorem dX1_costOf_1 : decode cX1_costOf 1 = .ok (.ifCond .lt 29, 3) := by decide +kernel
theorem dX1_costOf_4 : decode cX1_costOf 4 = .ok (.iload_n 1, 1) := by decide +kernel
theorem dX1_costOf_5 : decode cX1_costOf 5 = .ok (.bipush 8, 2) := by decide +kernel
theorem dX1_costOf_7 : decode cX1_costOf 7 = .ok (.if_icmp .gt 23, 3) := by decide +kernel
theorem dX1_costOf_10 : decode cX1_costOf 10 = .ok (.iload_n 2, 1) := by decide +kernel
theorem dX1_costOf_11 : decode cX1_costOf 11 = .ok (.aload_n 0, 1) := by decide +kernel
theorem dX1_costOf_12 : decode cX1_costOf 12 = .ok (.getfield 30, 3) := by decide +kernel
theorem dX1_costOf_15 : decode cX1_costOf 15 = .ok (.iload_n 1, 1) := by decide +kernel
theorem dX1_costOf_16 : decode cX1_costOf 16 = .ok (.iaload, 1) := by decide +kernel
theorem dX1_costOf_17 : decode cX1_costOf 17 = .ok (.if_icmp .lt 13, 3) := by decide +kernel
theorem dX1_costOf_20 : decode cX1_costOf 20 = .ok (.iload_n 2, 1) := by decide +kernel
theorem dX1_costOf_21 : decode cX1_costOf 21 = .ok (.aload_n 0, 1) := by decide +kernel
theorem dX1_costOf_22 : decode cX1_costOf 22 = .ok (.getfield 33, 3) := by decide +kernel
theorem dX1_costOf_25 : decode cX1_costOf 25 = .ok (.iload_n 1, 1) := by decide +kernel
theorem dX1_costOf_26 : decode cX1_costOf 26 = .ok (.iaload, 1) := by decide +kernel
theorem dX1_costOf_27 : decode cX1_costOf 27 = .ok (.if_icmp .le 6, 3) := by decide +kernel
theorem dX1_costOf_30 : decode cX1_costOf 30 = .ok (.ldc 78, 2) := by decide +kernel
theorem dX1_costOf_32 : decode cX1_costOf 32 = .ok (.ireturn, 1) := by decide +kernel
theorem dX1_costOf_33 : decode cX1_costOf 33 = .ok (.aload_n 0, 1) := by decide +kernel
theorem dX1_costOf_34 : decode cX1_costOf 34 = .ok (.getfield 27, 3) := by decide +kernel
theorem dX1_costOf_37 : decode cX1_costOf 37 = .ok (.iload_n 1, 1) := by decide +kernel
theorem dX1_costOf_38 : decode cX1_costOf 38 = .ok (.aaload, 1) := by decide +kernel
theorem dX1_costOf_39 : decode cX1_costOf 39 = .ok (.iload_n 2, 1) := by decide +kernel
theorem dX1_costOf_40 : decode cX1_costOf 40 = .ok (.aload_n 0, 1) := by decide +kernel
theorem dX1_costOf_41 : decode cX1_costOf 41 = .ok (.getfield 42, 3) := by decide +kernel
theorem dX1_costOf_44 : decode cX1_costOf 44 = .ok (.iadd, 1) := by decide +kernel
theorem dX1_costOf_45 : decode cX1_costOf 45 = .ok (.iaload, 1) := by decide +kernel
theorem dX1_costOf_46 : decode cX1_costOf 46 = .ok (.ireturn, 1) := by decide +kernel
set_option maxHeartbeats 4000000 in
set_option maxRecDepth 100000 in
theorem m_X1_costOf (l : Launch) (tb : Nat → Int → Int) (O T K : Int) (k : Int) (s : Int) (mem : Mem) (hw : FwOk mem tb O T K) (hk : 0 ≤ k ∧ k ≤ K) (hs : i32 s) : Ret shp l yX1_costOf cX1_costOf 3 (some .int) 0 [pR 186, pI k, pI s] mem (fun rv mv => rv = some (pI (tb k.toNat s)) ∧ mem = mv) := by
  refine ret_of (by decide +kernel) (Nat.le_of_ble_eq_true rfl) (fun X hX F G => ?_)
  show Ok shp X 3 0 [(0, pR 186), (1, pI k), (2, pI s)] [] mem
  obtain ⟨w1, w2, w3, w4, w5, w6, w7, w8, w9, w10, w11⟩ := id hw
  refine ok_iload_n F dX1_costOf_0 1 rfl ?_
  refine ok_if_lt F 30 dX1_costOf_1 (by decide) (by omega) (fun c_1 => ?_) (fun c_1 => ?_)
  · exfalso; omega
  · refine ok_iload_n F dX1_costOf_4 1 rfl ?_
    refine ok_bipush F dX1_costOf_5 rfl ?_
    refine ok_icmp_gt F 30 dX1_costOf_7 (by decide) (by omega) (by omega) (fun c_2 => ?_) (fun c_2 => ?_)
    · exfalso; omega
    · refine ok_iload_n F dX1_costOf_10 2 rfl ?_
      refine ok_aload_n F dX1_costOf_11 0 rfl ?_
      obtain ⟨b1, b2, b3⟩ := w11 k.toNat (by omega)
      have lb := lowF_bd (O := O) (v := mem 190) (r := mem 192) (k := k.toNat) w5.1 (fun i hi => ⟨(w9 i (by omega)).1, by have := (w7 i (by omega)).1; omega⟩)
      have ub := highF_bd (T := T) (v := mem 190) (g := mem 191) (k := k.toNat) w6.1 (fun i hi => ⟨(w8 i (by omega)).1, by have := (w7 i (by omega)).1; omega⟩)
      refine ok_getr F dX1_costOf_12 kF_X1_30 sh_186 rfl ?_
      refine ok_iload_n F dX1_costOf_15 1 rfl ?_
      refine ok_iald (v := mem 203 k.toNat) F dX1_costOf_16 sh_203 (by first | decide | assumption) (by omega) (by omega) rfl ?_
      refine ok_icmp_lt F 30 dX1_costOf_17 (by decide) (by omega) (by omega) (fun c_3 => ?_) (fun c_3 => ?_)
      · refine ok_ldc (n := 1000000) F dX1_costOf_30 kK_X1_78 rfl ?_
        refine ok_iret F G dX1_costOf_32 ?_
        refine ⟨?_, rfl⟩
        rw [w10.2.2.1 k.toNat (by omega) s (by omega)]
      · refine ok_iload_n F dX1_costOf_20 2 rfl ?_
        refine ok_aload_n F dX1_costOf_21 0 rfl ?_
        refine ok_getr F dX1_costOf_22 kF_X1_33 sh_186 rfl ?_
        refine ok_iload_n F dX1_costOf_25 1 rfl ?_
        refine ok_iald (v := mem 204 k.toNat) F dX1_costOf_26 sh_204 (by first | decide | assumption) (by omega) (by omega) rfl ?_
        refine ok_icmp_le F 33 dX1_costOf_27 (by decide) (by omega) (by omega) (fun c_4 => ?_) (fun c_4 => ?_)
        · refine ok_aload_n F dX1_costOf_33 0 rfl ?_
          refine ok_getr F dX1_costOf_34 kF_X1_27 sh_186 rfl ?_
          refine ok_iload_n F dX1_costOf_37 1 rfl ?_
          refine ok_aald (r := (194 + k.toNat)) F dX1_costOf_38 sh_193 rfl (by first | exact Or.inl rfl | exact Or.inr rfl) (by decide) (by omega) (show _ < (9 : Int) from (by omega)) (lvAt (by omega)) ?_
          refine ok_iload_n F dX1_costOf_39 2 rfl ?_
          refine ok_aload_n F dX1_costOf_40 0 rfl ?_
          refine ok_getf (v := mem 186 4) F dX1_costOf_41 kF_X1_42 sh_186 rfl rfl ?_
          refine ok_iadd F dX1_costOf_44 ?_
          refine ok_iald (v := mem (194 + k.toNat) ((s + (mem 186 4)).toNat)) F dX1_costOf_45 (shLv (by omega)) (by first | decide | assumption) (by omega) (by omega) rfl ?_
          refine ok_iret F G dX1_costOf_46 ?_
          refine ⟨?_, rfl⟩
          rw [w2, b3 s (by omega) (by omega)]
        · refine ok_ldc (n := 1000000) F dX1_costOf_30 kK_X1_78 rfl ?_
          refine ok_iret F G dX1_costOf_32 ?_
          refine ⟨?_, rfl⟩
          rw [w10.2.2.1 k.toNat (by omega) s (by omega)]
theorem dX1_piecesFor_0 : decode cX1_piecesFor 0 = .ok (.aload_n 0, 1) := by decide +kernel
theorem dX1_piecesFor_1 : decode cX1_piecesFor 1 = .ok (.aload_n 0, 1) := by decide +kernel
theorem dX1_piecesFor_2 : decode cX1_piecesFor 2 = .ok (.getfield 45, 3) := by decide +kernel
theorem dX1_piecesFor_5 : decode cX1_piecesFor 5 = .ok (.iload_n 1, 1) := by decide +kernel
theorem dX1_piecesFor_6 : decode cX1_piecesFor 6 = .ok (.invokevirtual 79, 3) := by decide +kernel
theorem dX1_piecesFor_9 : decode cX1_piecesFor 9 = .ok (.istore_n 2, 1) := by decide +kernel
theorem dX1_piecesFor_10 : decode cX1_piecesFor 10 = .ok (.iload_n 2, 1) := by decide +kernel
theorem dX1_piecesFor_11 : decode cX1_piecesFor 11 = .ok (.ldc 78, 2) := by decide +kernel
theorem dX1_piecesFor_13 : decode cX1_piecesFor 13 = .ok (.if_icmp .ge 7, 3) := by decide +kernel
theorem dX1_piecesFor_16 : decode cX1_piecesFor 16 = .ok (.iload_n 2, 1) := by decide +kernel
theorem dX1_piecesFor_17 : decode cX1_piecesFor 17 = .ok (.goto 4, 3) := by decide +kernel
theorem dX1_piecesFor_20 : decode cX1_piecesFor 20 = .ok (.iconst (-1), 1) := by decide +kernel
theorem dX1_piecesFor_21 : decode cX1_piecesFor 21 = .ok (.ireturn, 1) := by decide +kernel
set_option maxHeartbeats 4000000 in
set_option maxRecDepth 100000 in
theorem m_X1_piecesFor (l : Launch) (tb : Nat → Int → Int) (O T K : Int) (s : Int) (mem : Mem) (hw : FwOk mem tb O T K) (hs : i32 s) : Ret shp l yX1_piecesFor cX1_piecesFor 3 (some .int) 1 [pR 186, pI s] mem (fun rv mv => rv = some (pI (if tb K.toNat s < 1000000 then tb K.toNat s else -1)) ∧ mem = mv) := by
  refine ret_of (by decide +kernel) (Nat.le_of_ble_eq_true rfl) (fun X hX F G => ?_)
  show Ok shp X 3 0 [(0, pR 186), (1, pI s)] [] mem
  obtain ⟨w1, w2, w3, w4, w5, w6, w7, w8, w9, w10, w11⟩ := id hw
  have wb := w10.1 K.toNat s
  refine ok_aload_n F dX1_piecesFor_0 0 rfl ?_
  refine ok_aload_n F dX1_piecesFor_1 0 rfl ?_
  refine ok_getf (v := mem 186 3) F dX1_piecesFor_2 kF_X1_45 sh_186 rfl rfl ?_
  refine ok_iload_n F dX1_piecesFor_5 1 rfl ?_
  refine ok_callv F [pI (mem 186 3), pI s] dX1_piecesFor_6 kM_X1_costOf kI_X1_costOf kV_X1_costOf kL_X1_79 (ci := 1) rfl sh_186 rfl (by decide) (Nat.le_of_ble_eq_true rfl) rfl (m_X1_costOf _ tb O T K (mem 186 3) s mem (hw) (by omega) (by omega)) ?_
  rintro _ _ ⟨rfl, rfl⟩
  have e9 : tb (mem 186 3).toNat s = tb K.toNat s := by rw [w1]
  refine ok_istore_n (lv' := [(2, pI (tb (mem 186 3).toNat s)), (0, pR 186), (1, pI s)]) F dX1_piecesFor_9 (by decide) rfl ?_
  refine ok_iload_n F dX1_piecesFor_10 0 rfl ?_
  refine ok_ldc (n := 1000000) F dX1_piecesFor_11 kK_X1_78 rfl ?_
  refine ok_icmp_ge F 20 dX1_piecesFor_13 (by decide) (by omega) (by omega) (fun c_1 => ?_) (fun c_1 => ?_)
  · refine ok_iconst F dX1_piecesFor_20 ?_
    refine ok_iret F G dX1_piecesFor_21 ?_
    refine ⟨?_, rfl⟩
    first | (rw [if_pos (by omega), e9]; done) | (rw [if_neg (by omega)]; done)
  · refine ok_iload_n F dX1_piecesFor_16 0 rfl ?_
    refine ok_goto F 21 dX1_piecesFor_17 (by decide) ?_
    refine ok_iret F G dX1_piecesFor_21 ?_
    refine ⟨?_, rfl⟩
    first | (rw [if_pos (by omega), e9]; done) | (rw [if_neg (by omega)]; done)
theorem dX1_mostOf_0 : decode cX1_mostOf 0 = .ok (.aload_n 0, 1) := by decide +kernel
theorem dX1_mostOf_1 : decode cX1_mostOf 1 = .ok (.getfield 15, 3) := by decide +kernel
theorem dX1_mostOf_4 : decode cX1_mostOf 4 = .ok (.iload_n 1, 1) := by decide +kernel
theorem dX1_mostOf_5 : decode cX1_mostOf 5 = .ok (.iaload, 1) := by decide +kernel
theorem dX1_mostOf_6 : decode cX1_mostOf 6 = .ok (.istore 4, 2) := by decide +kernel
theorem dX1_mostOf_8 : decode cX1_mostOf 8 = .ok (.iload 4, 2) := by decide +kernel
theorem dX1_mostOf_10 : decode cX1_mostOf 10 = .ok (.aload_n 0, 1) := by decide +kernel
theorem dX1_mostOf_11 : decode cX1_mostOf 11 = .ok (.getfield 18, 3) := by decide +kernel
theorem dX1_mostOf_14 : decode cX1_mostOf 14 = .ok (.iload_n 1, 1) := by decide +kernel
theorem dX1_mostOf_15 : decode cX1_mostOf 15 = .ok (.iaload, 1) := by decide +kernel
theorem dX1_mostOf_16 : decode cX1_mostOf 16 = .ok (.ineg, 1) := by decide +kernel
theorem dX1_mostOf_17 : decode cX1_mostOf 17 = .ok (.if_icmp .le 35, 3) := by decide +kernel
theorem dX1_mostOf_20 : decode cX1_mostOf 20 = .ok (.aload_n 0, 1) := by decide +kernel
theorem dX1_mostOf_21 : decode cX1_mostOf 21 = .ok (.iload_n 1, 1) := by decide +kernel
theorem dX1_mostOf_22 : decode cX1_mostOf 22 = .ok (.iload_n 2, 1) := by decide +kernel
theorem dX1_mostOf_23 : decode cX1_mostOf 23 = .ok (.iload 4, 2) := by decide +kernel
theorem dX1_mostOf_25 : decode cX1_mostOf 25 = .ok (.aload_n 0, 1) := by decide +kernel
theorem dX1_mostOf_26 : decode cX1_mostOf 26 = .ok (.getfield 9, 3) := by decide +kernel
theorem dX1_mostOf_29 : decode cX1_mostOf 29 = .ok (.iload_n 1, 1) := by decide +kernel
theorem dX1_mostOf_30 : decode cX1_mostOf 30 = .ok (.iaload, 1) := by decide +kernel
theorem dX1_mostOf_31 : decode cX1_mostOf 31 = .ok (.imul, 1) := by decide +kernel
theorem dX1_mostOf_32 : decode cX1_mostOf 32 = .ok (.isub, 1) := by decide +kernel
theorem dX1_mostOf_33 : decode cX1_mostOf 33 = .ok (.invokevirtual 79, 3) := by decide +kernel
theorem dX1_mostOf_36 : decode cX1_mostOf 36 = .ok (.iload_n 3, 1) := by decide +kernel
theorem dX1_mostOf_37 : decode cX1_mostOf 37 = .ok (.iload 4, 2) := by decide +kernel
theorem dX1_mostOf_39 : decode cX1_mostOf 39 = .ok (.invokestatic 90, 3) := by decide +kernel
theorem dX1_mostOf_42 : decode cX1_mostOf 42 = .ok (.isub, 1) := by decide +kernel
theorem dX1_mostOf_43 : decode cX1_mostOf 43 = .ok (.if_icmp .eq 9, 3) := by decide +kernel
theorem dX1_mostOf_46 : decode cX1_mostOf 46 = .ok (.iinc 4 (-1), 3) := by decide +kernel
theorem dX1_mostOf_49 : decode cX1_mostOf 49 = .ok (.goto (-41), 3) := by decide +kernel
theorem dX1_mostOf_52 : decode cX1_mostOf 52 = .ok (.iload 4, 2) := by decide +kernel
theorem dX1_mostOf_54 : decode cX1_mostOf 54 = .ok (.ireturn, 1) := by decide +kernel
set_option maxHeartbeats 4000000 in
set_option maxRecDepth 100000 in
theorem m_X1_mostOf (l : Launch) (tb : Nat → Int → Int) (O T K : Int) (k : Int) (s : Int) (d : Int) (mem : Mem) (hw : FwOk mem tb O T K) (hk : 0 ≤ k ∧ k < K) (hs : -3000 ≤ s ∧ s ≤ 3000) (hd : 0 ≤ d ∧ d ≤ 1000000) : Ret shp l yX1_mostOf cX1_mostOf 5 (some .int) 1 [pR 186, pI k, pI s, pI d] mem (fun rv mv => rv = some (pI (rdZ tb (mem 190) (mem 191) (mem 192) k.toNat s d)) ∧ mem = mv) := by
  refine ret_of (by decide +kernel) (Nat.le_of_ble_eq_true rfl) (fun X hX F G => ?_)
  show Ok shp X 5 0 [(0, pR 186), (1, pI k), (2, pI s), (3, pI d)] [] mem
  obtain ⟨w1, w2, w3, w4, w5, w6, w7, w8, w9, w10, w11⟩ := id hw
  have q0 := w7 k.toNat (by omega)
  have q1 := w8 k.toNat (by omega)
  have q2 := w9 k.toNat (by omega)
  refine ok_aload_n F dX1_mostOf_0 0 rfl ?_
  refine ok_getr F dX1_mostOf_1 kF_X1_15 sh_186 rfl ?_
  refine ok_iload_n F dX1_mostOf_4 1 rfl ?_
  refine ok_iald (v := mem 191 k.toNat) F dX1_mostOf_5 sh_191 (by first | decide | assumption) (by omega) (by omega) rfl ?_
  refine ok_istore (lv' := [(4, pI (mem 191 k.toNat)), (0, pR 186), (1, pI k), (2, pI s), (3, pI d)]) F dX1_mostOf_6 (by decide) rfl ?_
  have hL_8 : ∀ (n_8 : Nat) (z : Int), (-(mem 192 k.toNat) ≤ z ∧ z ≤ mem 191 k.toNat ∧ rdZ tb (mem 190) (mem 191) (mem 192) k.toNat s d = topZ (fun z => decide (tb k.toNat (s - z * mem 190 k.toNat) = d - (z.natAbs : Int))) (z + mem 192 k.toNat).toNat z) → (z + mem 192 k.toNat).toNat = n_8 → Ok shp X 5 8 [(0, pR 186), (1, pI k), (2, pI s), (3, pI d), (4, pI z)] [] mem := by
    intro n_8
    induction n_8 using Nat.strongRecOn with
    | _ n_8 ih_8 =>
      intro z hI_8 hn_8
      have zb : -(200 * 500) ≤ z * mem 190 k.toNat ∧ z * mem 190 k.toNat ≤ 200 * 500 := by
        have a1 := mul_bd (x := if 0 ≤ z then z else -z) (X := 200) (by split <;> omega) (show 0 ≤ mem 190 k.toNat ∧ mem 190 k.toNat ≤ 500 by omega)
        by_cases g : 0 ≤ z
        · rw [if_pos g] at a1; omega
        · rw [if_neg g, Int.neg_mul] at a1; omega
      have tb0 := w10.1 k.toNat (s - z * mem 190 k.toNat)
      refine ok_iload F dX1_mostOf_8 4 rfl ?_
      refine ok_aload_n F dX1_mostOf_10 0 rfl ?_
      refine ok_getr F dX1_mostOf_11 kF_X1_18 sh_186 rfl ?_
      refine ok_iload_n F dX1_mostOf_14 1 rfl ?_
      refine ok_iald (v := mem 192 k.toNat) F dX1_mostOf_15 sh_192 (by first | decide | assumption) (by omega) (by omega) rfl ?_
      refine ok_ineg F dX1_mostOf_16 ?_
      refine ok_icmp_le F 52 dX1_mostOf_17 (by decide) (by omega) (by omega) (fun c_1 => ?_) (fun c_1 => ?_)
      · refine ok_iload F dX1_mostOf_52 4 rfl ?_
        refine ok_iret F G dX1_mostOf_54 ?_
        refine ⟨?_, rfl⟩
        have hz := hI_8.2.2
        first
          | (rw [show (z + mem 192 k.toNat).toNat = 0 by omega] at hz; rw [hz]; rfl)
          | (rw [show (z + mem 192 k.toNat).toNat = (z - 1 + mem 192 k.toNat).toNat + 1 by omega, topZ_s, if_pos (decide_eq_true (by omega))] at hz; rw [hz])
      · refine ok_aload_n F dX1_mostOf_20 0 rfl ?_
        refine ok_iload_n F dX1_mostOf_21 1 rfl ?_
        refine ok_iload_n F dX1_mostOf_22 2 rfl ?_
        refine ok_iload F dX1_mostOf_23 4 rfl ?_
        refine ok_aload_n F dX1_mostOf_25 0 rfl ?_
        refine ok_getr F dX1_mostOf_26 kF_X1_9 sh_186 rfl ?_
        refine ok_iload_n F dX1_mostOf_29 1 rfl ?_
        refine ok_iald (v := mem 190 k.toNat) F dX1_mostOf_30 sh_190 (by first | decide | assumption) (by omega) (by omega) rfl ?_
        refine ok_imul F dX1_mostOf_31 ?_
        refine ok_isub F dX1_mostOf_32 ?_
        refine ok_callv F [pI k, pI (s - (z * (mem 190 k.toNat)))] dX1_mostOf_33 kM_X1_costOf kI_X1_costOf kV_X1_costOf kL_X1_79 (ci := 1) rfl sh_186 rfl (by decide) (Nat.le_of_ble_eq_true rfl) rfl (m_X1_costOf _ tb O T K k (s - (z * (mem 190 k.toNat))) mem (hw) (by omega) (by omega)) ?_
        rintro _ _ ⟨rfl, rfl⟩
        refine ok_iload_n F dX1_mostOf_36 3 rfl ?_
        refine ok_iload F dX1_mostOf_37 4 rfl ?_
        refine ok_mabs F dX1_mostOf_39 kL_X1_90 kS_J9_abs_0f7a4 kM_J9_abs_0f7a4.2.1 kM_J9_abs_0f7a4.2.2.1 (by omega) (by decide) (Nat.le_of_ble_eq_true rfl) ?_
        refine ok_isub F dX1_mostOf_42 ?_
        refine ok_icmp_eq F 52 dX1_mostOf_43 (by decide) (by omega) (by omega) (fun c_2 => ?_) (fun c_2 => ?_)
        · refine ok_iload F dX1_mostOf_52 4 rfl ?_
          refine ok_iret F G dX1_mostOf_54 ?_
          refine ⟨?_, rfl⟩
          have hz := hI_8.2.2
          first
            | (rw [show (z + mem 192 k.toNat).toNat = 0 by omega] at hz; rw [hz]; rfl)
            | (rw [show (z + mem 192 k.toNat).toNat = (z - 1 + mem 192 k.toNat).toNat + 1 by omega, topZ_s, if_pos (decide_eq_true (by omega))] at hz; rw [hz])
        · refine ok_iinc (lv' := [(4, pI (z + (-1))), (0, pR 186), (1, pI k), (2, pI s), (3, pI d)]) F dX1_mostOf_46 4 rfl (by decide) rfl ?_
          refine ok_goto F 8 dX1_mostOf_49 (by decide) ?_
          refine ok_lvp [1, 2, 3, 4, 0] (lv' := [(0, pR 186), (1, pI k), (2, pI s), (3, pI d), (4, pI (z + (-1)))]) rfl ?_
          refine ih_8 _ ?_ (z + (-1)) ?_ rfl
          · omega
          · refine ⟨by omega, by omega, ?_⟩
            have hz := hI_8.2.2
            rw [show (z + mem 192 k.toNat).toNat = (z + (-1) + mem 192 k.toNat).toNat + 1 by omega, topZ_s, if_neg (by rw [decide_eq_true_eq]; omega)] at hz
            exact hz
  refine ok_lvp [1, 2, 3, 4, 0] (lv' := [(0, pR 186), (1, pI k), (2, pI s), (3, pI d), (4, pI (mem 191 k.toNat))]) rfl ?_
  refine hL_8 _ (mem 191 k.toNat) ?_ rfl
  exact ⟨by omega, by omega, rfl⟩
theorem dX1_read_0 : decode cX1_read 0 = .ok (.aload_n 0, 1) := by decide +kernel
theorem dX1_read_1 : decode cX1_read 1 = .ok (.iload_n 1, 1) := by decide +kernel
theorem dX1_read_2 : decode cX1_read 2 = .ok (.invokevirtual 82, 3) := by decide +kernel
theorem dX1_read_5 : decode cX1_read 5 = .ok (.istore_n 3, 1) := by decide +kernel
theorem dX1_read_6 : decode cX1_read 6 = .ok (.iload_n 3, 1) := by decide +kernel
theorem dX1_read_7 : decode cX1_read 7 = .ok (.ifCond .ge 5, 3) := by decide +kernel
theorem dX1_read_10 : decode cX1_read 10 = .ok (.iconst (-1), 1) := by decide +kernel
theorem dX1_read_11 : decode cX1_read 11 = .ok (.ireturn, 1) := by decide +kernel
theorem dX1_read_12 : decode cX1_read 12 = .ok (.iload_n 1, 1) := by decide +kernel
theorem dX1_read_13 : decode cX1_read 13 = .ok (.istore 4, 2) := by decide +kernel
theorem dX1_read_15 : decode cX1_read 15 = .ok (.iload_n 3, 1) := by decide +kernel
theorem dX1_read_16 : decode cX1_read 16 = .ok (.istore 5, 2) := by decide +kernel
theorem dX1_read_18 : decode cX1_read 18 = .ok (.bipush 7, 2) := by decide +kernel
theorem dX1_read_20 : decode cX1_read 20 = .ok (.istore 6, 2) := by decide +kernel
theorem dX1_read_22 : decode cX1_read 22 = .ok (.iload 6, 2) := by decide +kernel
theorem dX1_read_24 : decode cX1_read 24 = .ok (.ifCond .lt 66, 3) := by decide +kernel
theorem dX1_read_27 : decode cX1_read 27 = .ok (.aload_n 2, 1) := by decide +kernel
theorem dX1_read_28 : decode cX1_read 28 = .ok (.iload 6, 2) := by decide +kernel
theorem dX1_read_30 : decode cX1_read 30 = .ok (.iconst 0, 1) := by decide +kernel
theorem dX1_read_31 : decode cX1_read 31 = .ok (.iastore, 1) := by decide +kernel
theorem dX1_read_32 : decode cX1_read 32 = .ok (.iload 6, 2) := by decide +kernel
theorem dX1_read_34 : decode cX1_read 34 = .ok (.aload_n 0, 1) := by decide +kernel
theorem dX1_read_35 : decode cX1_read 35 = .ok (.getfield 45, 3) := by decide +kernel
theorem dX1_read_38 : decode cX1_read 38 = .ok (.if_icmp .ge 46, 3) := by decide +kernel
theorem dX1_read_41 : decode cX1_read 41 = .ok (.aload_n 2, 1) := by decide +kernel
theorem dX1_read_42 : decode cX1_read 42 = .ok (.iload 6, 2) := by decide +kernel
theorem dX1_read_44 : decode cX1_read 44 = .ok (.aload_n 0, 1) := by decide +kernel
theorem dX1_read_45 : decode cX1_read 45 = .ok (.iload 6, 2) := by decide +kernel
theorem dX1_read_47 : decode cX1_read 47 = .ok (.iload 4, 2) := by decide +kernel
theorem dX1_read_49 : decode cX1_read 49 = .ok (.iload 5, 2) := by decide +kernel
theorem dX1_read_51 : decode cX1_read 51 = .ok (.invokevirtual 86, 3) := by decide +kernel
theorem dX1_read_54 : decode cX1_read 54 = .ok (.iastore, 1) := by decide +kernel
theorem dX1_read_55 : decode cX1_read 55 = .ok (.iload 4, 2) := by decide +kernel
theorem dX1_read_57 : decode cX1_read 57 = .ok (.aload_n 2, 1) := by decide +kernel
theorem dX1_read_58 : decode cX1_read 58 = .ok (.iload 6, 2) := by decide +kernel
theorem dX1_read_60 : decode cX1_read 60 = .ok (.iaload, 1) := by decide +kernel
theorem dX1_read_61 : decode cX1_read 61 = .ok (.aload_n 0, 1) := by decide +kernel
theorem dX1_read_62 : decode cX1_read 62 = .ok (.getfield 9, 3) := by decide +kernel
theorem dX1_read_65 : decode cX1_read 65 = .ok (.iload 6, 2) := by decide +kernel
theorem dX1_read_67 : decode cX1_read 67 = .ok (.iaload, 1) := by decide +kernel
theorem dX1_read_68 : decode cX1_read 68 = .ok (.imul, 1) := by decide +kernel
theorem dX1_read_69 : decode cX1_read 69 = .ok (.isub, 1) := by decide +kernel
theorem dX1_read_70 : decode cX1_read 70 = .ok (.istore 4, 2) := by decide +kernel
theorem dX1_read_72 : decode cX1_read 72 = .ok (.iload 5, 2) := by decide +kernel
theorem dX1_read_74 : decode cX1_read 74 = .ok (.aload_n 2, 1) := by decide +kernel
theorem dX1_read_75 : decode cX1_read 75 = .ok (.iload 6, 2) := by decide +kernel
theorem dX1_read_77 : decode cX1_read 77 = .ok (.iaload, 1) := by decide +kernel
theorem dX1_read_78 : decode cX1_read 78 = .ok (.invokestatic 90, 3) := by decide +kernel
theorem dX1_read_81 : decode cX1_read 81 = .ok (.isub, 1) := by decide +kernel
theorem dX1_read_82 : decode cX1_read 82 = .ok (.istore 5, 2) := by decide +kernel
theorem dX1_read_84 : decode cX1_read 84 = .ok (.iinc 6 (-1), 3) := by decide +kernel
theorem dX1_read_87 : decode cX1_read 87 = .ok (.goto (-65), 3) := by decide +kernel
theorem dX1_read_90 : decode cX1_read 90 = .ok (.iload_n 3, 1) := by decide +kernel
theorem dX1_read_91 : decode cX1_read 91 = .ok (.ireturn, 1) := by decide +kernel
set_option maxHeartbeats 4000000 in
set_option maxRecDepth 100000 in
theorem m_X1_read (l : Launch) (tb : Nat → Int → Int) (O T K : Int) (s : Int) (R : Nat) (mem : Mem) (hw : FwOk mem tb O T K) (hs : -3000 ≤ s ∧ s ≤ 3000) (hR : shp[R]? = some (.inr (.inl (0, 8)))) (hRn : R < 186 ∨ 206 < R) : Ret shp l yX1_read cX1_read 7 (some .int) 2 [pR 186, pI s, pR R] mem (fun rv mv => ∃ z, rv = some (pI z) ∧ (∀ a, a ≠ R → mv a = mem a) ∧ z = (if tb K.toNat s < 1000000 then tb K.toNat s else -1) ∧ (tb K.toNat s < 1000000 → ∀ j : Nat, j < 8 → mv R j = (if (j : Int) < K then rdR tb (mem 190) (mem 191) (mem 192) K.toNat s (tb K.toNat s) j else 0))) := by
  refine ret_of (by decide +kernel) (Nat.le_of_ble_eq_true rfl) (fun X hX F G => ?_)
  show Ok shp X 7 0 [(0, pR 186), (1, pI s), (2, pR R)] [] mem
  obtain ⟨w1, w2, w3, w4, w5, w6, w7, w8, w9, w10, w11⟩ := id hw
  have wb := w10.1 K.toNat s
  refine ok_aload_n F dX1_read_0 0 rfl ?_
  refine ok_iload_n F dX1_read_1 1 rfl ?_
  refine ok_callv F [pI s] dX1_read_2 kM_X1_piecesFor kI_X1_piecesFor kV_X1_piecesFor kL_X1_82 (ci := 1) rfl sh_186 rfl (by decide) (Nat.le_of_ble_eq_true rfl) rfl (m_X1_piecesFor _ tb O T K s mem (hw) (by omega)) ?_
  rintro _ _ ⟨rfl, rfl⟩
  refine ok_istore_n (lv' := [(3, pI (if tb K.toNat s < 1000000 then tb K.toNat s else -1)), (0, pR 186), (1, pI s), (2, pR R)]) F dX1_read_5 (by decide) rfl ?_
  refine ok_iload_n F dX1_read_6 0 rfl ?_
  refine ok_if_ge F 12 dX1_read_7 (by decide) (by omega) (fun c_1 => ?_) (fun c_1 => ?_)
  · refine ok_iload_n F dX1_read_12 2 rfl ?_
    refine ok_istore (lv' := [(4, pI s), (3, pI (if tb K.toNat s < 1000000 then tb K.toNat s else -1)), (0, pR 186), (1, pI s), (2, pR R)]) F dX1_read_13 (by decide) rfl ?_
    refine ok_iload_n F dX1_read_15 1 rfl ?_
    refine ok_istore (lv' := [(5, pI (if tb K.toNat s < 1000000 then tb K.toNat s else -1)), (4, pI s), (3, pI (if tb K.toNat s < 1000000 then tb K.toNat s else -1)), (0, pR 186), (1, pI s), (2, pR R)]) F dX1_read_16 (by decide) rfl ?_
    refine ok_bipush F dX1_read_18 rfl ?_
    refine ok_istore (lv' := [(6, pI 7), (5, pI (if tb K.toNat s < 1000000 then tb K.toNat s else -1)), (4, pI s), (3, pI (if tb K.toNat s < 1000000 then tb K.toNat s else -1)), (0, pR 186), (1, pI s), (2, pR R)]) F dX1_read_20 (by decide) rfl ?_
    have hL_22 : ∀ (n_22 : Nat) (lf : Int) (du : Int) (k : Int) (m : Mem), (-1 ≤ k ∧ k ≤ 7 ∧ (∀ a, a ≠ R → m a = mem a) ∧ tb (min (k + 1) K).toNat lf = du ∧ (0 ≤ du ∧ du < 1000000) ∧ (∀ j : Nat, j < 8 → k < j → m R j = (if (j : Int) < K then rdR tb (mem 190) (mem 191) (mem 192) K.toNat s (tb K.toNat s) j else 0)) ∧ ∀ j : Nat, (j : Int) ≤ k → (if (j : Int) < K then rdR tb (mem 190) (mem 191) (mem 192) K.toNat s (tb K.toNat s) j else 0) = if (j : Int) < K then rdR tb (mem 190) (mem 191) (mem 192) (min (k + 1) K).toNat lf du j else 0) → (k + 1).toNat = n_22 → Ok shp X 7 22 [(0, pR 186), (1, pI s), (2, pR R), (3, pI (if tb K.toNat s < 1000000 then tb K.toNat s else -1)), (4, pI lf), (5, pI du), (6, pI k)] [] m := by
      intro n_22
      induction n_22 using Nat.strongRecOn with
      | _ n_22 ih_22 =>
        intro lf du k m hI_22 hn_22
        obtain ⟨hk0, hk1, hF, hdu, hdb, hRow, hFin⟩ := hI_22
        have h186 := hF 186 (by omega)
        have h190 := hF 190 (by omega)
        have hwm : FwOk m tb O T K := hw.congr (fun a a1 a2 _ _ _ => hF a (by omega))
        have hlr := w10.rng (k := (min (k + 1) K).toNat) (s := lf) (by omega) w5.1 w6.1 (fun i hi => ⟨(w8 i (by omega)).1, (w9 i (by omega)).1, by have := (w7 i (by omega)).1; omega⟩) (by omega)
        refine ok_iload F dX1_read_22 6 rfl ?_
        refine ok_if_lt F 90 dX1_read_24 (by decide) (by omega) (fun c_2 => ?_) (fun c_2 => ?_)
        · refine ok_iload_n F dX1_read_90 3 rfl ?_
          refine ok_iret F G dX1_read_91 ?_
          exact ⟨_, rfl, hF, by first | rfl | (rw [if_pos (by omega)]), fun q j hj => hRow j hj (by omega)⟩
        · refine ok_aload_n F dX1_read_27 2 rfl ?_
          refine ok_iload F dX1_read_28 6 rfl ?_
          refine ok_iconst F dX1_read_30 ?_
          refine ok_iast F dX1_read_31 hR (by first | decide | assumption) (by omega) (by omega) (fun m_3 e_4 => ?_)
          refine ok_iload F dX1_read_32 6 rfl ?_
          refine ok_aload_n F dX1_read_34 0 rfl ?_
          refine ok_getf (v := mem 186 3) F dX1_read_35 kF_X1_45 sh_186 rfl (by rw [e_4, mset_nk (by omega), h186] <;> rfl) ?_
          refine ok_icmp_ge F 84 dX1_read_38 (by decide) (by omega) (by omega) (fun c_5 => ?_) (fun c_5 => ?_)
          · refine ok_iinc (lv' := [(6, pI (k + (-1))), (0, pR 186), (1, pI s), (2, pR R), (3, pI (if tb K.toNat s < 1000000 then tb K.toNat s else -1)), (4, pI lf), (5, pI du)]) F dX1_read_84 6 rfl (by decide) rfl ?_
            refine ok_goto F 22 dX1_read_87 (by decide) ?_
            refine ok_lvp [1, 2, 3, 4, 5, 6, 0] (lv' := [(0, pR 186), (1, pI s), (2, pR R), (3, pI (if tb K.toNat s < 1000000 then tb K.toNat s else -1)), (4, pI lf), (5, pI du), (6, pI (k + (-1)))]) rfl ?_
            refine ih_22 _ ?_ lf du (k + (-1)) m_3 ?_ rfl
            · omega
            · first
                | (refine ⟨by omega, by omega, fun a ha => by rw [e_4, mset_nka ha]; exact hF a ha, ?_, hdb, fun j h1 h2 => ?_, fun j hj => ?_⟩
                   · rw [← hdu]; congr 1; omega
                   · rw [e_4]; by_cases e : j = k.toNat
                     · subst e; rw [mset_eq, if_neg (by omega)]
                     · rw [mset_ne (fun q => e q.2)]; exact hRow j h1 (by omega)
                   · rw [hFin j (by omega)]; rw [show (min (k + (-1) + 1) K).toNat = (min (k + 1) K).toNat by omega])
                | (have ek2 : (min (k + (-1) + 1) K).toNat = k.toNat := by omega
                   rw [ek] at hFin
                   refine ⟨by omega, by omega, fun a ha => by rw [e_4, mset_nka ha, hm3, mset_nka ha]; exact hF a ha, ?_, ⟨by omega, by omega⟩, fun j h1 h2 => ?_, fun j hj => ?_⟩
                   · rw [ek2, gz]; exact z3
                   · rw [e_4]; by_cases e : j = k.toNat
                     · subst e; rw [mset_eq, gz, hFin k.toNat (by omega), if_pos (by omega), rdR_s, if_pos rfl]
                     · rw [mset_ne (fun q => e q.2), hm3, mset_ne (fun q => e q.2)]; exact hRow j h1 (by omega)
                   · rw [hFin j (by omega), if_pos (by omega), if_pos (by omega), ek2, rdR_s, if_neg (by omega), gz])
          · refine ok_aload_n F dX1_read_41 2 rfl ?_
            refine ok_iload F dX1_read_42 6 rfl ?_
            refine ok_aload_n F dX1_read_44 0 rfl ?_
            refine ok_iload F dX1_read_45 6 rfl ?_
            refine ok_iload F dX1_read_47 4 rfl ?_
            refine ok_iload F dX1_read_49 5 rfl ?_
            refine ok_callv F [pI k, pI lf, pI du] dX1_read_51 kM_X1_mostOf kI_X1_mostOf kV_X1_mostOf kL_X1_86 (ci := 1) rfl sh_186 rfl (by decide) (Nat.le_of_ble_eq_true rfl) rfl (m_X1_mostOf _ tb O T K k lf du m_3 (hwm.congr (fun a a1 a2 _ _ _ => by subst_vars; exact mset_nka (by omega))) (by omega) (by omega) (by omega)) ?_
            rintro _ _ ⟨rfl, rfl⟩
            have hm3 := e_4
            have ek : (min (k + 1) K).toNat = k.toNat + 1 := by omega
            have hdu2 : tb (k.toNat + 1) lf = du := by rw [← ek]; exact hdu
            obtain ⟨z1, z2, z3⟩ := rdZ_of w10 (k := k.toNat) (by omega) (by have := (w7 k.toNat (by omega)).1; omega) (w8 k.toNat (by omega)).1 (w9 k.toNat (by omega)).1 hdu2 hdb.2
            have z4 := w10.1 k.toNat (lf - rdZ tb (mem 190) (mem 191) (mem 192) k.toNat lf du * mem 190 k.toNat)
            have gz : rdZ tb (m_3 190) (m_3 191) (m_3 192) k.toNat lf du = rdZ tb (mem 190) (mem 191) (mem 192) k.toNat lf du := by rw [e_4, mset_nka (by omega), mset_nka (by omega), mset_nka (by omega), h190, hF 191 (by omega), hF 192 (by omega)]
            have q1 := w8 k.toNat (by omega)
            have q2 := w9 k.toNat (by omega)
            refine ok_iast F dX1_read_54 hR (by first | decide | assumption) (by omega) (by omega) (fun m_6 e_7 => ?_)
            refine ok_iload F dX1_read_55 4 rfl ?_
            refine ok_aload_n F dX1_read_57 2 rfl ?_
            refine ok_iload F dX1_read_58 6 rfl ?_
            refine ok_iald (v := (rdZ tb (m_3 190) (m_3 191) (m_3 192) k.toNat lf du)) F dX1_read_60 hR (by first | decide | assumption) (by omega) (by omega) (by rw [e_7]; exact mset_eq _ _ _ _) ?_
            refine ok_aload_n F dX1_read_61 0 rfl ?_
            refine ok_getr F dX1_read_62 kF_X1_9 sh_186 rfl ?_
            refine ok_iload F dX1_read_65 6 rfl ?_
            refine ok_iald (v := mem 190 k.toNat) F dX1_read_67 sh_190 (by first | decide | assumption) (by omega) (by omega) (by rw [e_7, mset_nk (by omega), e_4, mset_nk (by omega), h190] <;> rfl) ?_
            refine ok_imul F dX1_read_68 ?_
            refine ok_isub F dX1_read_69 ?_
            refine ok_istore (lv' := [(4, pI (lf - ((rdZ tb (m_3 190) (m_3 191) (m_3 192) k.toNat lf du) * (mem 190 k.toNat)))), (0, pR 186), (1, pI s), (2, pR R), (3, pI (if tb K.toNat s < 1000000 then tb K.toNat s else -1)), (5, pI du), (6, pI k)]) F dX1_read_70 (by decide) rfl ?_
            refine ok_iload F dX1_read_72 5 rfl ?_
            refine ok_aload_n F dX1_read_74 3 rfl ?_
            refine ok_iload F dX1_read_75 6 rfl ?_
            refine ok_iald (v := (rdZ tb (m_3 190) (m_3 191) (m_3 192) k.toNat lf du)) F dX1_read_77 hR (by first | decide | assumption) (by omega) (by omega) (by rw [e_7]; exact mset_eq _ _ _ _) ?_
            refine ok_mabs F dX1_read_78 kL_X1_90 kS_J9_abs_0f7a4 kM_J9_abs_0f7a4.2.1 kM_J9_abs_0f7a4.2.2.1 (by omega) (by decide) (Nat.le_of_ble_eq_true rfl) ?_
            refine ok_isub F dX1_read_81 ?_
            refine ok_istore (lv' := [(5, pI (du - (((rdZ tb (m_3 190) (m_3 191) (m_3 192) k.toNat lf du)).natAbs : Int))), (4, pI (lf - ((rdZ tb (m_3 190) (m_3 191) (m_3 192) k.toNat lf du) * (mem 190 k.toNat)))), (0, pR 186), (1, pI s), (2, pR R), (3, pI (if tb K.toNat s < 1000000 then tb K.toNat s else -1)), (6, pI k)]) F dX1_read_82 (by decide) rfl ?_
            refine ok_iinc (lv' := [(6, pI (k + (-1))), (5, pI (du - (((rdZ tb (m_3 190) (m_3 191) (m_3 192) k.toNat lf du)).natAbs : Int))), (4, pI (lf - ((rdZ tb (m_3 190) (m_3 191) (m_3 192) k.toNat lf du) * (mem 190 k.toNat)))), (0, pR 186), (1, pI s), (2, pR R), (3, pI (if tb K.toNat s < 1000000 then tb K.toNat s else -1))]) F dX1_read_84 6 rfl (by decide) rfl ?_
            refine ok_goto F 22 dX1_read_87 (by decide) ?_
            refine ok_lvp [3, 4, 5, 6, 2, 1, 0] (lv' := [(0, pR 186), (1, pI s), (2, pR R), (3, pI (if tb K.toNat s < 1000000 then tb K.toNat s else -1)), (4, pI (lf - ((rdZ tb (m_3 190) (m_3 191) (m_3 192) k.toNat lf du) * (mem 190 k.toNat)))), (5, pI (du - (((rdZ tb (m_3 190) (m_3 191) (m_3 192) k.toNat lf du)).natAbs : Int))), (6, pI (k + (-1)))]) rfl ?_
            refine ih_22 _ ?_ (lf - ((rdZ tb (m_3 190) (m_3 191) (m_3 192) k.toNat lf du) * (mem 190 k.toNat))) (du - (((rdZ tb (m_3 190) (m_3 191) (m_3 192) k.toNat lf du)).natAbs : Int)) (k + (-1)) m_6 ?_ rfl
            · omega
            · first
                | (refine ⟨by omega, by omega, fun a ha => by rw [e_7, mset_nka ha]; exact hF a ha, ?_, hdb, fun j h1 h2 => ?_, fun j hj => ?_⟩
                   · rw [← hdu]; congr 1; omega
                   · rw [e_7]; by_cases e : j = k.toNat
                     · subst e; rw [mset_eq, if_neg (by omega)]
                     · rw [mset_ne (fun q => e q.2)]; exact hRow j h1 (by omega)
                   · rw [hFin j (by omega)]; rw [show (min (k + (-1) + 1) K).toNat = (min (k + 1) K).toNat by omega])
                | (have ek2 : (min (k + (-1) + 1) K).toNat = k.toNat := by omega
                   rw [ek] at hFin
                   refine ⟨by omega, by omega, fun a ha => by rw [e_7, mset_nka ha, hm3, mset_nka ha]; exact hF a ha, ?_, ⟨by omega, by omega⟩, fun j h1 h2 => ?_, fun j hj => ?_⟩
                   · rw [ek2, gz]; exact z3
                   · rw [e_7]; by_cases e : j = k.toNat
                     · subst e; rw [mset_eq, gz, hFin k.toNat (by omega), if_pos (by omega), rdR_s, if_pos rfl]
                     · rw [mset_ne (fun q => e q.2), hm3, mset_ne (fun q => e q.2)]; exact hRow j h1 (by omega)
                   · rw [hFin j (by omega), if_pos (by omega), if_pos (by omega), ek2, rdR_s, if_neg (by omega), gz])
    refine ok_lvp [4, 5, 6, 3, 2, 1, 0] (lv' := [(0, pR 186), (1, pI s), (2, pR R), (3, pI (if tb K.toNat s < 1000000 then tb K.toNat s else -1)), (4, pI s), (5, pI (if tb K.toNat s < 1000000 then tb K.toNat s else -1)), (6, pI 7)]) rfl ?_
    refine hL_22 _ s (if tb K.toNat s < 1000000 then tb K.toNat s else -1) 7 mem ?_ rfl
    refine ⟨by omega, by omega, fun _ _ => rfl, ?_, by omega, fun j h1 h2 => by omega, fun j hj => ?_⟩
    · rw [show (min ((7 : Int) + 1) K).toNat = K.toNat by omega, if_pos (by omega)]
    · have hh : tb K.toNat s < 1000000 := by omega
      rw [show (min ((7 : Int) + 1) K).toNat = K.toNat by omega, if_pos hh]
  · refine ok_iconst F dX1_read_10 ?_
    refine ok_iret F G dX1_read_11 ?_
    exact ⟨_, rfl, fun _ _ => rfl, by rw [if_neg (by omega)], fun q => absurd q (by omega)⟩
