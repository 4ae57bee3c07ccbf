/-! the class: the table of the fewest pieces, level by level -/
/-- how far down, how far up a level goes -/
def lowF (O : Int) (v r : Nat → Int) : Nat → Int
  | 0 => 0
  | k + 1 => max (-O) (lowF O v r k - r k * v k)
def highF (T : Int) (v g : Nat → Int) : Nat → Int
  | 0 => 0
  | k + 1 => min T (highF T v g k + g k * v k)
theorem lowF_s (O : Int) (v r : Nat → Int) {k : Int} (h : 0 ≤ k) : lowF O v r (k + 1).toNat = max (-O) (lowF O v r k.toNat - r k.toNat * v k.toNat) := by
  rw [show (k + 1).toNat = k.toNat + 1 by omega]; rfl
theorem highF_s (T : Int) (v g : Nat → Int) {k : Int} (h : 0 ≤ k) : highF T v g (k + 1).toNat = min T (highF T v g k.toNat + g k.toNat * v k.toNat) := by
  rw [show (k + 1).toNat = k.toNat + 1 by omega]; rfl
theorem lowF_bd {O : Int} {v r : Nat → Int} (hO : 0 ≤ O) : ∀ {k : Nat}, (∀ i, i < k → 0 ≤ r i ∧ 0 ≤ v i) → -O ≤ lowF O v r k ∧ lowF O v r k ≤ 0
  | 0, _ => by simp only [lowF]; omega
  | k + 1, h => by
    have h1 := lowF_bd (k := k) hO (fun i hi => h i (by omega))
    have h2 := Int.mul_nonneg (h k (by omega)).1 (h k (by omega)).2
    simp only [lowF]
    omega
theorem highF_bd {T : Int} {v g : Nat → Int} (hT : 0 ≤ T) : ∀ {k : Nat}, (∀ i, i < k → 0 ≤ g i ∧ 0 ≤ v i) → 0 ≤ highF T v g k ∧ highF T v g k ≤ T
  | 0, _ => by simp only [highF]; omega
  | k + 1, h => by
    have h1 := highF_bd (k := k) hT (fun i hi => h i (by omega))
    have h2 := Int.mul_nonneg (h k (by omega)).1 (h k (by omega)).2
    simp only [highF]
    omega
/-- a table that the levels can hold: by kinds' values, given, returned, from an origin, up to a top -/
def TabOk (tb : Nat → Int → Int) (v g r : Nat → Int) (O T : Int) (K : Nat) : Prop := (∀ k s, 0 ≤ tb k s ∧ tb k s ≤ 1000000) ∧ tb 0 0 = 0 ∧ (∀ k, k ≤ K → ∀ s, ¬ (lowF O v r k ≤ s ∧ s ≤ highF T v g k) → tb k s = 1000000) ∧ ∀ k, k < K → ∀ s, lowF O v r (k + 1) ≤ s → s ≤ highF T v g (k + 1) → tb (k + 1) s = min (min (tb k s) (stepF (fun A => tb k (lowF O v r (k + 1) + A)) (v k).toNat (g k).toNat (s - lowF O v r (k + 1)).toNat)) (stepF (fun A => tb k (highF T v g (k + 1) - A)) (v k).toNat (r k).toNat (highF T v g (k + 1) - s).toNat)
/-- the memory holds the first levels of a table -/
def LayN (m : Mem) (tb : Nat → Int → Int) (v g r : Nat → Int) (O T : Int) (K : Nat) : Prop := ∀ j, j ≤ K → m 203 j = lowF O v r j ∧ m 204 j = highF T v g j ∧ ∀ s : Int, lowF O v r j ≤ s → s ≤ highF T v g j → m (194 + j) (s + O).toNat = tb j s
theorem stepF_0 (f : Nat → Int) (v A : Nat) {x : Int} (hx : x ≤ 1000000) (h : x ≤ f A) : min x (stepF f v 0 A) = x := by
  unfold stepF winF
  omega
theorem stepF_nn {f : Nat → Int} (h : ∀ x, 0 ≤ f x) (v c A : Nat) : 0 ≤ stepF f v c A := by
  obtain ⟨z, z1, z2, z3⟩ := winF_at f v A c
  have h1 := h (A - z * v)
  unfold stepF
  omega
theorem mul_bd {x y X Y : Int} (hx : 0 ≤ x ∧ x ≤ X) (hy : 0 ≤ y ∧ y ≤ Y) : 0 ≤ x * y ∧ x * y ≤ X * Y := ⟨Int.mul_nonneg hx.1 hy.1, Int.mul_le_mul hx.2 hy.2 hy.1 (Int.le_trans hx.1 hx.2)⟩
theorem sp_up {gv gF gT : Nat → Int} {t : Int → Int} {O lo hi lo2 hi2 : Int} {v c : Nat} (h3 : ∀ A : Nat, A ≤ (hi2 - lo2).toNat → gv (posS O lo2 1 A) = min (gT (posS O lo2 1 A)) (stepF (phiS gF O lo hi lo2 1) v c A)) (hF : ∀ s, lo ≤ s → s ≤ hi → gF (s + O).toNat = t s) (hN : ∀ s, ¬ (lo ≤ s ∧ s ≤ hi) → t s = 1000000) : ∀ s, lo2 ≤ s → s ≤ hi2 → gv (s + O).toNat = min (gT (s + O).toNat) (stepF (fun A => t (lo2 + A)) v c (s - lo2).toNat) := by
  intro s h1 h2
  have e : phiS gF O lo hi lo2 1 = fun A : Nat => t (lo2 + A) := by
    funext A
    unfold phiS
    rw [Int.one_mul]
    by_cases g : lo ≤ lo2 + (A : Int) ∧ lo2 + (A : Int) ≤ hi
    · rw [if_pos g]; exact hF _ g.1 g.2
    · rw [if_neg g]; exact (hN _ g).symm
  have q := h3 (s - lo2).toNat (by omega)
  have ep : posS O lo2 1 (s - lo2).toNat = (s + O).toNat := by unfold posS; rw [Int.one_mul]; congr 1; omega
  rw [ep, e] at q
  exact q
theorem sp_dn {gv gF gT : Nat → Int} {t : Int → Int} {O lo hi lo2 hi2 : Int} {v c : Nat} (h3 : ∀ A : Nat, A ≤ (hi2 - lo2).toNat → gv (posS O hi2 (-1) A) = min (gT (posS O hi2 (-1) A)) (stepF (phiS gF O lo hi hi2 (-1)) v c A)) (hF : ∀ s, lo ≤ s → s ≤ hi → gF (s + O).toNat = t s) (hN : ∀ s, ¬ (lo ≤ s ∧ s ≤ hi) → t s = 1000000) : ∀ s, lo2 ≤ s → s ≤ hi2 → gv (s + O).toNat = min (gT (s + O).toNat) (stepF (fun A => t (hi2 - A)) v c (hi2 - s).toNat) := by
  intro s h1 h2
  have e : phiS gF O lo hi hi2 (-1) = fun A : Nat => t (hi2 - A) := by
    funext A
    unfold phiS
    rw [show hi2 + -1 * (A : Int) = hi2 - A by omega]
    by_cases g : lo ≤ hi2 - (A : Int) ∧ hi2 - (A : Int) ≤ hi
    · rw [if_pos g]; exact hF _ g.1 g.2
    · rw [if_neg g]; exact (hN _ g).symm
  have q := h3 (hi2 - s).toNat (by omega)
  have ep : posS O hi2 (-1) (hi2 - s).toNat = (s + O).toNat := by unfold posS; congr 1; omega
  rw [ep, e] at q
  exact q
theorem dX1_copyLevel_0 : decode cX1_copyLevel 0 = .ok (.aload_n 0, 1) := by decide +kernel
theorem dX1_copyLevel_1 : decode cX1_copyLevel 1 = .ok (.getfield 27, 3) := by decide +kernel
theorem dX1_copyLevel_4 : decode cX1_copyLevel 4 = .ok (.iload_n 1, 1) := by decide +kernel
theorem dX1_copyLevel_5 : decode cX1_copyLevel 5 = .ok (.aaload, 1) := by decide +kernel
theorem dX1_copyLevel_6 : decode cX1_copyLevel 6 = .ok (.astore_n 2, 1) := by decide +kernel
theorem dX1_copyLevel_7 : decode cX1_copyLevel 7 = .ok (.aload_n 0, 1) := by decide +kernel
theorem dX1_copyLevel_8 : decode cX1_copyLevel 8 = .ok (.getfield 27, 3) := by decide +kernel
theorem dX1_copyLevel_11 : decode cX1_copyLevel 11 = .ok (.iload_n 1, 1) := by decide +kernel
theorem dX1_copyLevel_12 : decode cX1_copyLevel 12 = .ok (.iconst 1, 1) := by decide +kernel
theorem dX1_copyLevel_13 : decode cX1_copyLevel 13 = .ok (.iadd, 1) := by decide +kernel
theorem dX1_copyLevel_14 : decode cX1_copyLevel 14 = .ok (.aaload, 1) := by decide +kernel
theorem dX1_copyLevel_15 : decode cX1_copyLevel 15 = .ok (.astore_n 3, 1) := by decide +kernel
theorem dX1_copyLevel_16 : decode cX1_copyLevel 16 = .ok (.aload_n 0, 1) := by decide +kernel
theorem dX1_copyLevel_17 : decode cX1_copyLevel 17 = .ok (.getfield 30, 3) := by decide +kernel
theorem dX1_copyLevel_20 : decode cX1_copyLevel 20 = .ok (.iload_n 1, 1) := by decide +kernel
theorem dX1_copyLevel_21 : decode cX1_copyLevel 21 = .ok (.iaload, 1) := by decide +kernel
theorem dX1_copyLevel_22 : decode cX1_copyLevel 22 = .ok (.aload_n 0, 1) := by decide +kernel
theorem dX1_copyLevel_23 : decode cX1_copyLevel 23 = .ok (.getfield 42, 3) := by decide +kernel
theorem dX1_copyLevel_26 : decode cX1_copyLevel 26 = .ok (.iadd, 1) := by decide +kernel
theorem dX1_copyLevel_27 : decode cX1_copyLevel 27 = .ok (.istore 4, 2) := by decide +kernel
theorem dX1_copyLevel_29 : decode cX1_copyLevel 29 = .ok (.aload_n 0, 1) := by decide +kernel
theorem dX1_copyLevel_30 : decode cX1_copyLevel 30 = .ok (.getfield 33, 3) := by decide +kernel
theorem dX1_copyLevel_33 : decode cX1_copyLevel 33 = .ok (.iload_n 1, 1) := by decide +kernel
theorem dX1_copyLevel_34 : decode cX1_copyLevel 34 = .ok (.iaload, 1) := by decide +kernel
theorem dX1_copyLevel_35 : decode cX1_copyLevel 35 = .ok (.aload_n 0, 1) := by decide +kernel
theorem dX1_copyLevel_36 : decode cX1_copyLevel 36 = .ok (.getfield 42, 3) := by decide +kernel
theorem dX1_copyLevel_39 : decode cX1_copyLevel 39 = .ok (.iadd, 1) := by decide +kernel
theorem dX1_copyLevel_40 : decode cX1_copyLevel 40 = .ok (.istore 5, 2) := by decide +kernel
theorem dX1_copyLevel_42 : decode cX1_copyLevel 42 = .ok (.aload_n 0, 1) := by decide +kernel
theorem dX1_copyLevel_43 : decode cX1_copyLevel 43 = .ok (.getfield 33, 3) := by decide +kernel
theorem dX1_copyLevel_46 : decode cX1_copyLevel 46 = .ok (.iload_n 1, 1) := by decide +kernel
theorem dX1_copyLevel_47 : decode cX1_copyLevel 47 = .ok (.iconst 1, 1) := by decide +kernel
theorem dX1_copyLevel_48 : decode cX1_copyLevel 48 = .ok (.iadd, 1) := by decide +kernel
theorem dX1_copyLevel_49 : decode cX1_copyLevel 49 = .ok (.iaload, 1) := by decide +kernel
theorem dX1_copyLevel_50 : decode cX1_copyLevel 50 = .ok (.aload_n 0, 1) := by decide +kernel
theorem dX1_copyLevel_51 : decode cX1_copyLevel 51 = .ok (.getfield 42, 3) := by decide +kernel
theorem dX1_copyLevel_54 : decode cX1_copyLevel 54 = .ok (.iadd, 1) := by decide +kernel
theorem dX1_copyLevel_55 : decode cX1_copyLevel 55 = .ok (.istore 6, 2) := by decide +kernel
theorem dX1_copyLevel_57 : decode cX1_copyLevel 57 = .ok (.aload_n 0, 1) := by decide +kernel
theorem dX1_copyLevel_58 : decode cX1_copyLevel 58 = .ok (.getfield 30, 3) := by decide +kernel
theorem dX1_copyLevel_61 : decode cX1_copyLevel 61 = .ok (.iload_n 1, 1) := by decide +kernel
theorem dX1_copyLevel_62 : decode cX1_copyLevel 62 = .ok (.iconst 1, 1) := by decide +kernel
theorem dX1_copyLevel_63 : decode cX1_copyLevel 63 = .ok (.iadd, 1) := by decide +kernel
theorem dX1_copyLevel_64 : decode cX1_copyLevel 64 = .ok (.iaload, 1) := by decide +kernel
theorem dX1_copyLevel_65 : decode cX1_copyLevel 65 = .ok (.aload_n 0, 1) := by decide +kernel
theorem dX1_copyLevel_66 : decode cX1_copyLevel 66 = .ok (.getfield 42, 3) := by decide +kernel
theorem dX1_copyLevel_69 : decode cX1_copyLevel 69 = .ok (.iadd, 1) := by decide +kernel
theorem dX1_copyLevel_70 : decode cX1_copyLevel 70 = .ok (.istore 7, 2) := by decide +kernel
theorem dX1_copyLevel_72 : decode cX1_copyLevel 72 = .ok (.iload 7, 2) := by decide +kernel
theorem dX1_copyLevel_74 : decode cX1_copyLevel 74 = .ok (.iload 6, 2) := by decide +kernel
theorem dX1_copyLevel_76 : decode cX1_copyLevel 76 = .ok (.if_icmp .gt 36, 3) := by decide +kernel
theorem dX1_copyLevel_79 : decode cX1_copyLevel 79 = .ok (.aload_n 3, 1) := by decide +kernel
theorem dX1_copyLevel_80 : decode cX1_copyLevel 80 = .ok (.iload 7, 2) := by decide +kernel
theorem dX1_copyLevel_82 : decode cX1_copyLevel 82 = .ok (.iload 7, 2) := by decide +kernel
theorem dX1_copyLevel_84 : decode cX1_copyLevel 84 = .ok (.iload 4, 2) := by decide +kernel
theorem dX1_copyLevel_86 : decode cX1_copyLevel 86 = .ok (.if_icmp .lt 17, 3) := by decide +kernel
theorem dX1_copyLevel_89 : decode cX1_copyLevel 89 = .ok (.iload 7, 2) := by decide +kernel
theorem dX1_copyLevel_91 : decode cX1_copyLevel 91 = .ok (.iload 5, 2) := by decide +kernel
theorem dX1_copyLevel_93 : decode cX1_copyLevel 93 = .ok (.if_icmp .gt 10, 3) := by decide +kernel
theorem dX1_copyLevel_96 : decode cX1_copyLevel 96 = .ok (.aload_n 2, 1) := by decide +kernel
theorem dX1_copyLevel_97 : decode cX1_copyLevel 97 = .ok (.iload 7, 2) := by decide +kernel
theorem dX1_copyLevel_99 : decode cX1_copyLevel 99 = .ok (.iaload, 1) := by decide +kernel
theorem dX1_copyLevel_100 : decode cX1_copyLevel 100 = .ok (.goto 5, 3) := by decide +kernel
theorem dX1_copyLevel_103 : decode cX1_copyLevel 103 = .ok (.ldc 78, 2) := by decide +kernel
theorem dX1_copyLevel_105 : decode cX1_copyLevel 105 = .ok (.iastore, 1) := by decide +kernel
theorem dX1_copyLevel_106 : decode cX1_copyLevel 106 = .ok (.iinc 7 1, 3) := by decide +kernel
theorem dX1_copyLevel_109 : decode cX1_copyLevel 109 = .ok (.goto (-37), 3) := by decide +kernel
theorem dX1_copyLevel_112 : decode cX1_copyLevel 112 = .ok (.return_, 1) := by decide +kernel
set_option maxHeartbeats 4000000 in
set_option maxRecDepth 100000 in
theorem m_X1_copyLevel (l : Launch) (L : Int) (mem : Mem) (hL : 0 ≤ L ∧ L < 8) (hO : 0 ≤ mem 186 4 ∧ mem 186 4 ≤ 2000) (hr : -(mem 186 4) ≤ mem 203 (L + 1).toNat ∧ mem 203 (L + 1).toNat ≤ mem 203 L.toNat ∧ mem 203 L.toNat ≤ 0 ∧ 0 ≤ mem 204 L.toNat ∧ mem 204 L.toNat ≤ mem 204 (L + 1).toNat ∧ mem 204 (L + 1).toNat + mem 186 4 ≤ 4000) : Ret shp l yX1_copyLevel cX1_copyLevel 8 none 0 [pR 186, pI L] mem (fun rv mv => rv = none ∧ (∀ a, a ≠ (194 + (L + 1).toNat) → mv a = mem a) ∧ (∀ b : Nat, ((b : Int) < mem 203 (L + 1).toNat + mem 186 4 ∨ mem 204 (L + 1).toNat + mem 186 4 < b) → mv (194 + (L + 1).toNat) b = mem (194 + (L + 1).toNat) b) ∧ ∀ b : Nat, mem 203 (L + 1).toNat + mem 186 4 ≤ b → (b : Int) ≤ mem 204 (L + 1).toNat + mem 186 4 → mv (194 + (L + 1).toNat) b = (if mem 203 L.toNat + mem 186 4 ≤ b ∧ (b : Int) ≤ mem 204 L.toNat + mem 186 4 then mem (194 + L.toNat) b else 1000000)) := by
  refine ret_of (by decide +kernel) (Nat.le_of_ble_eq_true rfl) (fun X hX F G => ?_)
  show Ok shp X 8 0 [(0, pR 186), (1, pI L)] [] mem
  refine ok_aload_n F dX1_copyLevel_0 0 rfl ?_
  refine ok_getr F dX1_copyLevel_1 kF_X1_27 sh_186 rfl ?_
  refine ok_iload_n F dX1_copyLevel_4 1 rfl ?_
  refine ok_aald (r := (194 + L.toNat)) F dX1_copyLevel_5 sh_193 rfl (by first | exact Or.inl rfl | exact Or.inr rfl) (by decide) (by omega) (show _ < (9 : Int) from (by omega)) (lvAt (by omega)) ?_
  refine ok_astore_n (lv' := [(2, pR (194 + L.toNat)), (0, pR 186), (1, pI L)]) F dX1_copyLevel_6 (by decide) rfl ?_
  refine ok_aload_n F dX1_copyLevel_7 1 rfl ?_
  refine ok_getr F dX1_copyLevel_8 kF_X1_27 sh_186 rfl ?_
  refine ok_iload_n F dX1_copyLevel_11 2 rfl ?_
  refine ok_iconst F dX1_copyLevel_12 ?_
  refine ok_iadd F dX1_copyLevel_13 ?_
  refine ok_aald (r := (194 + (L + 1).toNat)) F dX1_copyLevel_14 sh_193 rfl (by first | exact Or.inl rfl | exact Or.inr rfl) (by decide) (by omega) (show _ < (9 : Int) from (by omega)) (lvAt (by omega)) ?_
  refine ok_astore_n (lv' := [(3, pR (194 + (L + 1).toNat)), (2, pR (194 + L.toNat)), (0, pR 186), (1, pI L)]) F dX1_copyLevel_15 (by decide) rfl ?_
  refine ok_aload_n F dX1_copyLevel_16 2 rfl ?_
  refine ok_getr F dX1_copyLevel_17 kF_X1_30 sh_186 rfl ?_
  refine ok_iload_n F dX1_copyLevel_20 3 rfl ?_
  refine ok_iald (v := mem 203 L.toNat) F dX1_copyLevel_21 sh_203 (by first | decide | assumption) (by omega) (by omega) rfl ?_
  refine ok_aload_n F dX1_copyLevel_22 2 rfl ?_
  refine ok_getf (v := mem 186 4) F dX1_copyLevel_23 kF_X1_42 sh_186 rfl rfl ?_
  refine ok_iadd F dX1_copyLevel_26 ?_
  refine ok_istore (lv' := [(4, pI ((mem 203 L.toNat) + (mem 186 4))), (3, pR (194 + (L + 1).toNat)), (2, pR (194 + L.toNat)), (0, pR 186), (1, pI L)]) F dX1_copyLevel_27 (by decide) rfl ?_
  refine ok_aload_n F dX1_copyLevel_29 3 rfl ?_
  refine ok_getr F dX1_copyLevel_30 kF_X1_33 sh_186 rfl ?_
  refine ok_iload_n F dX1_copyLevel_33 4 rfl ?_
  refine ok_iald (v := mem 204 L.toNat) F dX1_copyLevel_34 sh_204 (by first | decide | assumption) (by omega) (by omega) rfl ?_
  refine ok_aload_n F dX1_copyLevel_35 3 rfl ?_
  refine ok_getf (v := mem 186 4) F dX1_copyLevel_36 kF_X1_42 sh_186 rfl rfl ?_
  refine ok_iadd F dX1_copyLevel_39 ?_
  refine ok_istore (lv' := [(5, pI ((mem 204 L.toNat) + (mem 186 4))), (4, pI ((mem 203 L.toNat) + (mem 186 4))), (3, pR (194 + (L + 1).toNat)), (2, pR (194 + L.toNat)), (0, pR 186), (1, pI L)]) F dX1_copyLevel_40 (by decide) rfl ?_
  refine ok_aload_n F dX1_copyLevel_42 4 rfl ?_
  refine ok_getr F dX1_copyLevel_43 kF_X1_33 sh_186 rfl ?_
  refine ok_iload_n F dX1_copyLevel_46 5 rfl ?_
  refine ok_iconst F dX1_copyLevel_47 ?_
  refine ok_iadd F dX1_copyLevel_48 ?_
  refine ok_iald (v := mem 204 ((L + 1).toNat)) F dX1_copyLevel_49 sh_204 (by first | decide | assumption) (by omega) (by omega) rfl ?_
  refine ok_aload_n F dX1_copyLevel_50 4 rfl ?_
  refine ok_getf (v := mem 186 4) F dX1_copyLevel_51 kF_X1_42 sh_186 rfl rfl ?_
  refine ok_iadd F dX1_copyLevel_54 ?_
  refine ok_istore (lv' := [(6, pI ((mem 204 ((L + 1).toNat)) + (mem 186 4))), (5, pI ((mem 204 L.toNat) + (mem 186 4))), (4, pI ((mem 203 L.toNat) + (mem 186 4))), (3, pR (194 + (L + 1).toNat)), (2, pR (194 + L.toNat)), (0, pR 186), (1, pI L)]) F dX1_copyLevel_55 (by decide) rfl ?_
  refine ok_aload_n F dX1_copyLevel_57 5 rfl ?_
  refine ok_getr F dX1_copyLevel_58 kF_X1_30 sh_186 rfl ?_
  refine ok_iload_n F dX1_copyLevel_61 6 rfl ?_
  refine ok_iconst F dX1_copyLevel_62 ?_
  refine ok_iadd F dX1_copyLevel_63 ?_
  refine ok_iald (v := mem 203 ((L + 1).toNat)) F dX1_copyLevel_64 sh_203 (by first | decide | assumption) (by omega) (by omega) rfl ?_
  refine ok_aload_n F dX1_copyLevel_65 5 rfl ?_
  refine ok_getf (v := mem 186 4) F dX1_copyLevel_66 kF_X1_42 sh_186 rfl rfl ?_
  refine ok_iadd F dX1_copyLevel_69 ?_
  refine ok_istore (lv' := [(7, pI ((mem 203 ((L + 1).toNat)) + (mem 186 4))), (6, pI ((mem 204 ((L + 1).toNat)) + (mem 186 4))), (5, pI ((mem 204 L.toNat) + (mem 186 4))), (4, pI ((mem 203 L.toNat) + (mem 186 4))), (3, pR (194 + (L + 1).toNat)), (2, pR (194 + L.toNat)), (0, pR 186), (1, pI L)]) F dX1_copyLevel_70 (by decide) rfl ?_
  have hL_72 : ∀ (n_72 : Nat) (x : Int) (m : Mem), (mem 203 (L + 1).toNat + mem 186 4 ≤ x ∧ x ≤ mem 204 (L + 1).toNat + mem 186 4 + 1 ∧ (∀ a, a ≠ (194 + (L + 1).toNat) → m a = mem a) ∧ ∀ b : Nat, m (194 + (L + 1).toNat) b = if mem 203 (L + 1).toNat + mem 186 4 ≤ b ∧ (b : Int) < x then (if mem 203 L.toNat + mem 186 4 ≤ b ∧ (b : Int) ≤ mem 204 L.toNat + mem 186 4 then mem (194 + L.toNat) b else 1000000) else mem (194 + (L + 1).toNat) b) → (mem 204 (L + 1).toNat + mem 186 4 + 1 - x).toNat = n_72 → Ok shp X 8 72 [(0, pR 186), (1, pI L), (2, pR (194 + L.toNat)), (3, pR (194 + (L + 1).toNat)), (4, pI ((mem 203 L.toNat) + (mem 186 4))), (5, pI ((mem 204 L.toNat) + (mem 186 4))), (6, pI ((mem 204 ((L + 1).toNat)) + (mem 186 4))), (7, pI x)] [] m := by
    intro n_72
    induction n_72 using Nat.strongRecOn with
    | _ n_72 ih_72 =>
      intro x m hI_72 hn_72
      obtain ⟨hx0, hx1, hF, hM⟩ := hI_72
      have hFf : m (194 + L.toNat) = mem (194 + L.toNat) := hF _ (by omega)
      refine ok_iload F dX1_copyLevel_72 7 rfl ?_
      refine ok_iload F dX1_copyLevel_74 6 rfl ?_
      refine ok_icmp_gt F 112 dX1_copyLevel_76 (by decide) (by omega) (by omega) (fun c_1 => ?_) (fun c_1 => ?_)
      · refine ok_vret F G dX1_copyLevel_112 ?_
        refine ⟨rfl, hF, fun b hb => by rw [hM, if_neg (by omega)], fun b h1 h2 => by rw [hM, if_pos (by omega)]⟩
      · refine ok_aload_n F dX1_copyLevel_79 3 rfl ?_
        refine ok_iload F dX1_copyLevel_80 7 rfl ?_
        refine ok_iload F dX1_copyLevel_82 7 rfl ?_
        refine ok_iload F dX1_copyLevel_84 4 rfl ?_
        refine ok_icmp_lt F 103 dX1_copyLevel_86 (by decide) (by omega) (by omega) (fun c_2 => ?_) (fun c_2 => ?_)
        · refine ok_ldc (n := 1000000) F dX1_copyLevel_103 kK_X1_78 rfl ?_
          refine ok_iast F dX1_copyLevel_105 (shLv (by omega)) (by first | decide | assumption) (by omega) (by omega) (fun m_3 e_4 => ?_)
          refine ok_iinc (lv' := [(7, pI (x + 1)), (0, pR 186), (1, pI L), (2, pR (194 + L.toNat)), (3, pR (194 + (L + 1).toNat)), (4, pI ((mem 203 L.toNat) + (mem 186 4))), (5, pI ((mem 204 L.toNat) + (mem 186 4))), (6, pI ((mem 204 ((L + 1).toNat)) + (mem 186 4)))]) F dX1_copyLevel_106 7 rfl (by decide) rfl ?_
          refine ok_goto F 72 dX1_copyLevel_109 (by decide) ?_
          refine ok_lvp [1, 2, 3, 4, 5, 6, 7, 0] (lv' := [(0, pR 186), (1, pI L), (2, pR (194 + L.toNat)), (3, pR (194 + (L + 1).toNat)), (4, pI ((mem 203 L.toNat) + (mem 186 4))), (5, pI ((mem 204 L.toNat) + (mem 186 4))), (6, pI ((mem 204 ((L + 1).toNat)) + (mem 186 4))), (7, pI (x + 1))]) rfl ?_
          refine ih_72 _ ?_ (x + 1) m_3 ?_ rfl
          · omega
          · refine ⟨by omega, by omega, fun a ha => by rw [e_4, ← hF a ha]; funext b; exact mset_nk ha, fun b => ?_⟩
            rw [e_4]
            by_cases e : b = x.toNat
            · subst e
              rw [mset_eq, if_pos (by omega)]
              first
                | (rw [if_pos (by omega), hFf]; done)
                | (rw [if_neg (by omega)]; done)
            · rw [mset_ne (fun q => e q.2), hM]
              by_cases g : mem 203 (L + 1).toNat + mem 186 4 ≤ b ∧ (b : Int) < x
              · rw [if_pos g]; exact (if_pos (by omega)).symm
              · rw [if_neg g]; exact (if_neg (by omega)).symm
        · refine ok_iload F dX1_copyLevel_89 7 rfl ?_
          refine ok_iload F dX1_copyLevel_91 5 rfl ?_
          refine ok_icmp_gt F 103 dX1_copyLevel_93 (by decide) (by omega) (by omega) (fun c_5 => ?_) (fun c_5 => ?_)
          · refine ok_ldc (n := 1000000) F dX1_copyLevel_103 kK_X1_78 rfl ?_
            refine ok_iast F dX1_copyLevel_105 (shLv (by omega)) (by first | decide | assumption) (by omega) (by omega) (fun m_6 e_7 => ?_)
            refine ok_iinc (lv' := [(7, pI (x + 1)), (0, pR 186), (1, pI L), (2, pR (194 + L.toNat)), (3, pR (194 + (L + 1).toNat)), (4, pI ((mem 203 L.toNat) + (mem 186 4))), (5, pI ((mem 204 L.toNat) + (mem 186 4))), (6, pI ((mem 204 ((L + 1).toNat)) + (mem 186 4)))]) F dX1_copyLevel_106 7 rfl (by decide) rfl ?_
            refine ok_goto F 72 dX1_copyLevel_109 (by decide) ?_
            refine ok_lvp [1, 2, 3, 4, 5, 6, 7, 0] (lv' := [(0, pR 186), (1, pI L), (2, pR (194 + L.toNat)), (3, pR (194 + (L + 1).toNat)), (4, pI ((mem 203 L.toNat) + (mem 186 4))), (5, pI ((mem 204 L.toNat) + (mem 186 4))), (6, pI ((mem 204 ((L + 1).toNat)) + (mem 186 4))), (7, pI (x + 1))]) rfl ?_
            refine ih_72 _ ?_ (x + 1) m_6 ?_ rfl
            · omega
            · refine ⟨by omega, by omega, fun a ha => by rw [e_7, ← hF a ha]; funext b; exact mset_nk ha, fun b => ?_⟩
              rw [e_7]
              by_cases e : b = x.toNat
              · subst e
                rw [mset_eq, if_pos (by omega)]
                first
                  | (rw [if_pos (by omega), hFf]; done)
                  | (rw [if_neg (by omega)]; done)
              · rw [mset_ne (fun q => e q.2), hM]
                by_cases g : mem 203 (L + 1).toNat + mem 186 4 ≤ b ∧ (b : Int) < x
                · rw [if_pos g]; exact (if_pos (by omega)).symm
                · rw [if_neg g]; exact (if_neg (by omega)).symm
          · refine ok_aload_n F dX1_copyLevel_96 2 rfl ?_
            refine ok_iload F dX1_copyLevel_97 7 rfl ?_
            refine ok_iald (v := m (194 + L.toNat) x.toNat) F dX1_copyLevel_99 (shLv (by omega)) (by first | decide | assumption) (by omega) (by omega) rfl ?_
            refine ok_goto F 105 dX1_copyLevel_100 (by decide) ?_
            refine ok_iast F dX1_copyLevel_105 (shLv (by omega)) (by first | decide | assumption) (by omega) (by omega) (fun m_8 e_9 => ?_)
            refine ok_iinc (lv' := [(7, pI (x + 1)), (0, pR 186), (1, pI L), (2, pR (194 + L.toNat)), (3, pR (194 + (L + 1).toNat)), (4, pI ((mem 203 L.toNat) + (mem 186 4))), (5, pI ((mem 204 L.toNat) + (mem 186 4))), (6, pI ((mem 204 ((L + 1).toNat)) + (mem 186 4)))]) F dX1_copyLevel_106 7 rfl (by decide) rfl ?_
            refine ok_goto F 72 dX1_copyLevel_109 (by decide) ?_
            refine ok_lvp [1, 2, 3, 4, 5, 6, 7, 0] (lv' := [(0, pR 186), (1, pI L), (2, pR (194 + L.toNat)), (3, pR (194 + (L + 1).toNat)), (4, pI ((mem 203 L.toNat) + (mem 186 4))), (5, pI ((mem 204 L.toNat) + (mem 186 4))), (6, pI ((mem 204 ((L + 1).toNat)) + (mem 186 4))), (7, pI (x + 1))]) rfl ?_
            refine ih_72 _ ?_ (x + 1) m_8 ?_ rfl
            · omega
            · refine ⟨by omega, by omega, fun a ha => by rw [e_9, ← hF a ha]; funext b; exact mset_nk ha, fun b => ?_⟩
              rw [e_9]
              by_cases e : b = x.toNat
              · subst e
                rw [mset_eq, if_pos (by omega)]
                first
                  | (rw [if_pos (by omega), hFf]; done)
                  | (rw [if_neg (by omega)]; done)
              · rw [mset_ne (fun q => e q.2), hM]
                by_cases g : mem 203 (L + 1).toNat + mem 186 4 ≤ b ∧ (b : Int) < x
                · rw [if_pos g]; exact (if_pos (by omega)).symm
                · rw [if_neg g]; exact (if_neg (by omega)).symm
  refine ok_lvp [6, 7, 5, 4, 3, 2, 1, 0] (lv' := [(0, pR 186), (1, pI L), (2, pR (194 + L.toNat)), (3, pR (194 + (L + 1).toNat)), (4, pI ((mem 203 L.toNat) + (mem 186 4))), (5, pI ((mem 204 L.toNat) + (mem 186 4))), (6, pI ((mem 204 ((L + 1).toNat)) + (mem 186 4))), (7, pI ((mem 203 ((L + 1).toNat)) + (mem 186 4)))]) rfl ?_
  refine hL_72 _ ((mem 203 ((L + 1).toNat)) + (mem 186 4)) mem ?_ rfl
  exact ⟨by omega, by omega, fun _ _ => rfl, fun b => (if_neg (by omega)).symm⟩
theorem dX1_layLevels_0 : decode cX1_layLevels 0 = .ok (.aload_n 0, 1) := by decide +kernel
theorem dX1_layLevels_1 : decode cX1_layLevels 1 = .ok (.getfield 30, 3) := by decide +kernel
theorem dX1_layLevels_4 : decode cX1_layLevels 4 = .ok (.iconst 0, 1) := by decide +kernel
theorem dX1_layLevels_5 : decode cX1_layLevels 5 = .ok (.iconst 0, 1) := by decide +kernel
theorem dX1_layLevels_6 : decode cX1_layLevels 6 = .ok (.iastore, 1) := by decide +kernel
theorem dX1_layLevels_7 : decode cX1_layLevels 7 = .ok (.aload_n 0, 1) := by decide +kernel
theorem dX1_layLevels_8 : decode cX1_layLevels 8 = .ok (.getfield 33, 3) := by decide +kernel
theorem dX1_layLevels_11 : decode cX1_layLevels 11 = .ok (.iconst 0, 1) := by decide +kernel
theorem dX1_layLevels_12 : decode cX1_layLevels 12 = .ok (.iconst 0, 1) := by decide +kernel
theorem dX1_layLevels_13 : decode cX1_layLevels 13 = .ok (.iastore, 1) := by decide +kernel
theorem dX1_layLevels_14 : decode cX1_layLevels 14 = .ok (.aload_n 0, 1) := by decide +kernel
theorem dX1_layLevels_15 : decode cX1_layLevels 15 = .ok (.getfield 27, 3) := by decide +kernel
theorem dX1_layLevels_18 : decode cX1_layLevels 18 = .ok (.iconst 0, 1) := by decide +kernel
theorem dX1_layLevels_19 : decode cX1_layLevels 19 = .ok (.aaload, 1) := by decide +kernel
theorem dX1_layLevels_20 : decode cX1_layLevels 20 = .ok (.aload_n 0, 1) := by decide +kernel
theorem dX1_layLevels_21 : decode cX1_layLevels 21 = .ok (.getfield 42, 3) := by decide +kernel
theorem dX1_layLevels_24 : decode cX1_layLevels 24 = .ok (.iconst 0, 1) := by decide +kernel
theorem dX1_layLevels_25 : decode cX1_layLevels 25 = .ok (.iastore, 1) := by decide +kernel
theorem dX1_layLevels_26 : decode cX1_layLevels 26 = .ok (.iconst 0, 1) := by decide +kernel
theorem dX1_layLevels_27 : decode cX1_layLevels 27 = .ok (.istore_n 1, 1) := by decide +kernel
theorem dX1_layLevels_28 : decode cX1_layLevels 28 = .ok (.iload_n 1, 1) := by decide +kernel
theorem dX1_layLevels_29 : decode cX1_layLevels 29 = .ok (.aload_n 0, 1) := by decide +kernel
theorem dX1_layLevels_30 : decode cX1_layLevels 30 = .ok (.getfield 45, 3) := by decide +kernel
theorem dX1_layLevels_33 : decode cX1_layLevels 33 = .ok (.if_icmp .ge 133, 3) := by decide +kernel
theorem dX1_layLevels_36 : decode cX1_layLevels 36 = .ok (.iload_n 1, 1) := by decide +kernel
theorem dX1_layLevels_37 : decode cX1_layLevels 37 = .ok (.bipush 8, 2) := by decide +kernel
theorem dX1_layLevels_39 : decode cX1_layLevels 39 = .ok (.if_icmp .ge 127, 3) := by decide +kernel
theorem dX1_layLevels_42 : decode cX1_layLevels 42 = .ok (.aload_n 0, 1) := by decide +kernel
theorem dX1_layLevels_43 : decode cX1_layLevels 43 = .ok (.getfield 30, 3) := by decide +kernel
theorem dX1_layLevels_46 : decode cX1_layLevels 46 = .ok (.iload_n 1, 1) := by decide +kernel
theorem dX1_layLevels_47 : decode cX1_layLevels 47 = .ok (.iconst 1, 1) := by decide +kernel
theorem dX1_layLevels_48 : decode cX1_layLevels 48 = .ok (.iadd, 1) := by decide +kernel
theorem dX1_layLevels_49 : decode cX1_layLevels 49 = .ok (.aload_n 0, 1) := by decide +kernel
theorem dX1_layLevels_50 : decode cX1_layLevels 50 = .ok (.getfield 42, 3) := by decide +kernel
theorem dX1_layLevels_53 : decode cX1_layLevels 53 = .ok (.ineg, 1) := by decide +kernel
theorem dX1_layLevels_54 : decode cX1_layLevels 54 = .ok (.aload_n 0, 1) := by decide +kernel
theorem dX1_layLevels_55 : decode cX1_layLevels 55 = .ok (.getfield 30, 3) := by decide +kernel
theorem dX1_layLevels_58 : decode cX1_layLevels 58 = .ok (.iload_n 1, 1) := by decide +kernel
theorem dX1_layLevels_59 : decode cX1_layLevels 59 = .ok (.iaload, 1) := by decide +kernel
theorem dX1_layLevels_60 : decode cX1_layLevels 60 = .ok (.aload_n 0, 1) := by decide +kernel
theorem dX1_layLevels_61 : decode cX1_layLevels 61 = .ok (.getfield 18, 3) := by decide +kernel
theorem dX1_layLevels_64 : decode cX1_layLevels 64 = .ok (.iload_n 1, 1) := by decide +kernel
theorem dX1_layLevels_65 : decode cX1_layLevels 65 = .ok (.iaload, 1) := by decide +kernel
theorem dX1_layLevels_66 : decode cX1_layLevels 66 = .ok (.aload_n 0, 1) := by decide +kernel
theorem dX1_layLevels_67 : decode cX1_layLevels 67 = .ok (.getfield 9, 3) := by decide +kernel
theorem dX1_layLevels_70 : decode cX1_layLevels 70 = .ok (.iload_n 1, 1) := by decide +kernel
theorem dX1_layLevels_71 : decode cX1_layLevels 71 = .ok (.iaload, 1) := by decide +kernel
theorem dX1_layLevels_72 : decode cX1_layLevels 72 = .ok (.imul, 1) := by decide +kernel
theorem dX1_layLevels_73 : decode cX1_layLevels 73 = .ok (.isub, 1) := by decide +kernel
theorem dX1_layLevels_74 : decode cX1_layLevels 74 = .ok (.invokestatic 61, 3) := by decide +kernel
theorem dX1_layLevels_77 : decode cX1_layLevels 77 = .ok (.iastore, 1) := by decide +kernel
theorem dX1_layLevels_78 : decode cX1_layLevels 78 = .ok (.aload_n 0, 1) := by decide +kernel
theorem dX1_layLevels_79 : decode cX1_layLevels 79 = .ok (.getfield 33, 3) := by decide +kernel
theorem dX1_layLevels_82 : decode cX1_layLevels 82 = .ok (.iload_n 1, 1) := by decide +kernel
theorem dX1_layLevels_83 : decode cX1_layLevels 83 = .ok (.iconst 1, 1) := by decide +kernel
theorem dX1_layLevels_84 : decode cX1_layLevels 84 = .ok (.iadd, 1) := by decide +kernel
theorem dX1_layLevels_85 : decode cX1_layLevels 85 = .ok (.aload_n 0, 1) := by decide +kernel
theorem dX1_layLevels_86 : decode cX1_layLevels 86 = .ok (.getfield 21, 3) := by decide +kernel
theorem dX1_layLevels_89 : decode cX1_layLevels 89 = .ok (.aload_n 0, 1) := by decide +kernel
theorem dX1_layLevels_90 : decode cX1_layLevels 90 = .ok (.getfield 33, 3) := by decide +kernel
theorem dX1_layLevels_93 : decode cX1_layLevels 93 = .ok (.iload_n 1, 1) := by decide +kernel
theorem dX1_layLevels_94 : decode cX1_layLevels 94 = .ok (.iaload, 1) := by decide +kernel
theorem dX1_layLevels_95 : decode cX1_layLevels 95 = .ok (.aload_n 0, 1) := by decide +kernel
theorem dX1_layLevels_96 : decode cX1_layLevels 96 = .ok (.getfield 15, 3) := by decide +kernel
theorem dX1_layLevels_99 : decode cX1_layLevels 99 = .ok (.iload_n 1, 1) := by decide +kernel
theorem dX1_layLevels_100 : decode cX1_layLevels 100 = .ok (.iaload, 1) := by decide +kernel
theorem dX1_layLevels_101 : decode cX1_layLevels 101 = .ok (.aload_n 0, 1) := by decide +kernel
theorem dX1_layLevels_102 : decode cX1_layLevels 102 = .ok (.getfield 9, 3) := by decide +kernel
theorem dX1_layLevels_105 : decode cX1_layLevels 105 = .ok (.iload_n 1, 1) := by decide +kernel
theorem dX1_layLevels_106 : decode cX1_layLevels 106 = .ok (.iaload, 1) := by decide +kernel
theorem dX1_layLevels_107 : decode cX1_layLevels 107 = .ok (.imul, 1) := by decide +kernel
theorem dX1_layLevels_108 : decode cX1_layLevels 108 = .ok (.iadd, 1) := by decide +kernel
theorem dX1_layLevels_109 : decode cX1_layLevels 109 = .ok (.invokestatic 67, 3) := by decide +kernel
theorem dX1_layLevels_112 : decode cX1_layLevels 112 = .ok (.iastore, 1) := by decide +kernel
theorem dX1_layLevels_113 : decode cX1_layLevels 113 = .ok (.aload_n 0, 1) := by decide +kernel
theorem dX1_layLevels_114 : decode cX1_layLevels 114 = .ok (.iload_n 1, 1) := by decide +kernel
theorem dX1_layLevels_115 : decode cX1_layLevels 115 = .ok (.invokevirtual 70, 3) := by decide +kernel
theorem dX1_layLevels_118 : decode cX1_layLevels 118 = .ok (.aload_n 0, 1) := by decide +kernel
theorem dX1_layLevels_119 : decode cX1_layLevels 119 = .ok (.getfield 15, 3) := by decide +kernel
theorem dX1_layLevels_122 : decode cX1_layLevels 122 = .ok (.iload_n 1, 1) := by decide +kernel
theorem dX1_layLevels_123 : decode cX1_layLevels 123 = .ok (.iaload, 1) := by decide +kernel
theorem dX1_layLevels_124 : decode cX1_layLevels 124 = .ok (.ifCond .le 15, 3) := by decide +kernel
theorem dX1_layLevels_127 : decode cX1_layLevels 127 = .ok (.aload_n 0, 1) := by decide +kernel
theorem dX1_layLevels_128 : decode cX1_layLevels 128 = .ok (.iload_n 1, 1) := by decide +kernel
theorem dX1_layLevels_129 : decode cX1_layLevels 129 = .ok (.aload_n 0, 1) := by decide +kernel
theorem dX1_layLevels_130 : decode cX1_layLevels 130 = .ok (.getfield 15, 3) := by decide +kernel
theorem dX1_layLevels_133 : decode cX1_layLevels 133 = .ok (.iload_n 1, 1) := by decide +kernel
theorem dX1_layLevels_134 : decode cX1_layLevels 134 = .ok (.iaload, 1) := by decide +kernel
theorem dX1_layLevels_135 : decode cX1_layLevels 135 = .ok (.iconst 1, 1) := by decide +kernel
theorem dX1_layLevels_136 : decode cX1_layLevels 136 = .ok (.invokevirtual 74, 3) := by decide +kernel
theorem dX1_layLevels_139 : decode cX1_layLevels 139 = .ok (.aload_n 0, 1) := by decide +kernel
theorem dX1_layLevels_140 : decode cX1_layLevels 140 = .ok (.getfield 18, 3) := by decide +kernel
theorem dX1_layLevels_143 : decode cX1_layLevels 143 = .ok (.iload_n 1, 1) := by decide +kernel
theorem dX1_layLevels_144 : decode cX1_layLevels 144 = .ok (.iaload, 1) := by decide +kernel
theorem dX1_layLevels_145 : decode cX1_layLevels 145 = .ok (.ifCond .le 15, 3) := by decide +kernel
theorem dX1_layLevels_148 : decode cX1_layLevels 148 = .ok (.aload_n 0, 1) := by decide +kernel
theorem dX1_layLevels_149 : decode cX1_layLevels 149 = .ok (.iload_n 1, 1) := by decide +kernel
theorem dX1_layLevels_150 : decode cX1_layLevels 150 = .ok (.aload_n 0, 1) := by decide +kernel
theorem dX1_layLevels_151 : decode cX1_layLevels 151 = .ok (.getfield 18, 3) := by decide +kernel
theorem dX1_layLevels_154 : decode cX1_layLevels 154 = .ok (.iload_n 1, 1) := by decide +kernel
theorem dX1_layLevels_155 : decode cX1_layLevels 155 = .ok (.iaload, 1) := by decide +kernel
theorem dX1_layLevels_156 : decode cX1_layLevels 156 = .ok (.iconst (-1), 1) := by decide +kernel
theorem dX1_layLevels_157 : decode cX1_layLevels 157 = .ok (.invokevirtual 74, 3) := by decide +kernel
theorem dX1_layLevels_160 : decode cX1_layLevels 160 = .ok (.iinc 1 1, 3) := by decide +kernel
theorem dX1_layLevels_163 : decode cX1_layLevels 163 = .ok (.goto (-135), 3) := by decide +kernel
theorem dX1_layLevels_166 : decode cX1_layLevels 166 = .ok (.return_, 1) := by decide +kernel
set_option maxHeartbeats 4000000 in
set_option maxRecDepth 100000 in
theorem m_X1_layLevels (l : Launch) (tb : Nat → Int → Int) (mem : Mem) (hK : 0 ≤ mem 186 3 ∧ mem 186 3 ≤ 8) (hO : 0 ≤ mem 186 4 ∧ mem 186 4 ≤ 2000) (hT : 0 ≤ mem 186 5 ∧ mem 186 5 ≤ 2500 ∧ mem 186 4 + mem 186 5 ≤ 4000) (hv : ∀ i : Nat, (i : Int) < mem 186 3 → 1 ≤ mem 190 i ∧ mem 190 i ≤ 500) (hg : ∀ i : Nat, (i : Int) < mem 186 3 → 0 ≤ mem 191 i ∧ mem 191 i ≤ 200) (hb : ∀ i : Nat, (i : Int) < mem 186 3 → 0 ≤ mem 192 i ∧ mem 192 i ≤ 200) (htb : TabOk tb (mem 190) (mem 191) (mem 192) (mem 186 4) (mem 186 5) (mem 186 3).toNat) : Ret shp l yX1_layLevels cX1_layLevels 2 none 1 [pR 186] mem (fun rv mv => rv = none ∧ (∀ a, a < 194 ∨ 206 < a → mv a = mem a) ∧ LayN mv tb (mem 190) (mem 191) (mem 192) (mem 186 4) (mem 186 5) (mem 186 3).toNat) := by
  refine ret_of (by decide +kernel) (Nat.le_of_ble_eq_true rfl) (fun X hX F G => ?_)
  show Ok shp X 2 0 [(0, pR 186)] [] mem
  refine ok_aload_n F dX1_layLevels_0 0 rfl ?_
  refine ok_getr F dX1_layLevels_1 kF_X1_30 sh_186 rfl ?_
  refine ok_iconst F dX1_layLevels_4 ?_
  refine ok_iconst F dX1_layLevels_5 ?_
  refine ok_iast F dX1_layLevels_6 sh_203 (by first | decide | assumption) (by omega) (by omega) (fun m_1 e_2 => ?_)
  refine ok_aload_n F dX1_layLevels_7 0 rfl ?_
  refine ok_getr F dX1_layLevels_8 kF_X1_33 sh_186 rfl ?_
  refine ok_iconst F dX1_layLevels_11 ?_
  refine ok_iconst F dX1_layLevels_12 ?_
  refine ok_iast F dX1_layLevels_13 sh_204 (by first | decide | assumption) (by omega) (by omega) (fun m_3 e_4 => ?_)
  refine ok_aload_n F dX1_layLevels_14 0 rfl ?_
  refine ok_getr F dX1_layLevels_15 kF_X1_27 sh_186 rfl ?_
  refine ok_iconst F dX1_layLevels_18 ?_
  refine ok_aald (r := 194) F dX1_layLevels_19 sh_193 rfl (by first | exact Or.inl rfl | exact Or.inr rfl) (by decide) (by omega) (show _ < (9 : Int) from (by omega)) (rfl) ?_
  refine ok_aload_n F dX1_layLevels_20 0 rfl ?_
  refine ok_getf (v := mem 186 4) F dX1_layLevels_21 kF_X1_42 sh_186 rfl (by rw [e_4, mset_nk (by decide), e_2, mset_nk (by decide)] <;> rfl) ?_
  refine ok_iconst F dX1_layLevels_24 ?_
  refine ok_iast F dX1_layLevels_25 sh_194 (by first | decide | assumption) (by omega) (by omega) (fun m_5 e_6 => ?_)
  refine ok_iconst F dX1_layLevels_26 ?_
  refine ok_istore_n (lv' := [(1, pI 0), (0, pR 186)]) F dX1_layLevels_27 (by decide) rfl ?_
  have hL_28 : ∀ (n_28 : Nat) (k : Int) (m : Mem), (0 ≤ k ∧ k ≤ mem 186 3 ∧ (∀ a, a < 194 ∨ 206 < a → m a = mem a) ∧ LayN m tb (mem 190) (mem 191) (mem 192) (mem 186 4) (mem 186 5) k.toNat) → (mem 186 3 - k).toNat = n_28 → Ok shp X 2 28 [(0, pR 186), (1, pI k)] [] m := by
    intro n_28
    induction n_28 using Nat.strongRecOn with
    | _ n_28 ih_28 =>
      intro k m hI_28 hn_28
      obtain ⟨hk0, hk1, hF, hLy⟩ := hI_28
      have h186 := hF 186 (by decide)
      have h190 := hF 190 (by decide)
      have h191 := hF 191 (by decide)
      have h192 := hF 192 (by decide)
      refine ok_iload_n F dX1_layLevels_28 1 rfl ?_
      refine ok_aload_n F dX1_layLevels_29 0 rfl ?_
      refine ok_getf (v := mem 186 3) F dX1_layLevels_30 kF_X1_45 sh_186 rfl (by rw [h186] <;> rfl) ?_
      refine ok_icmp_ge F 166 dX1_layLevels_33 (by decide) (by omega) (by omega) (fun c_7 => ?_) (fun c_7 => ?_)
      · refine ok_vret F G dX1_layLevels_166 ?_
        refine ⟨rfl, hF, ?_⟩
        rw [show mem 186 3 = k by omega]
        exact hLy
      · refine ok_iload_n F dX1_layLevels_36 1 rfl ?_
        refine ok_bipush F dX1_layLevels_37 rfl ?_
        refine ok_icmp_ge F 166 dX1_layLevels_39 (by decide) (by omega) (by omega) (fun c_8 => ?_) (fun c_8 => ?_)
        · exfalso; omega
        · obtain ⟨b1, b2, b3⟩ := hLy k.toNat (Nat.le_refl _)
          have qv := hv k.toNat (by omega)
          have qg := hg k.toNat (by omega)
          have qb := hb k.toNat (by omega)
          have pg := mul_bd qg (show 0 ≤ mem 190 k.toNat ∧ mem 190 k.toNat ≤ 500 by omega)
          have pb := mul_bd qb (show 0 ≤ mem 190 k.toNat ∧ mem 190 k.toNat ≤ 500 by omega)
          have lb := lowF_bd (O := mem 186 4) (v := mem 190) (r := mem 192) (k := k.toNat) hO.1 (fun i hi => ⟨(hb i (by omega)).1, by have := (hv i (by omega)).1; omega⟩)
          have ub := highF_bd (T := mem 186 5) (v := mem 190) (g := mem 191) (k := k.toNat) hT.1 (fun i hi => ⟨(hg i (by omega)).1, by have := (hv i (by omega)).1; omega⟩)
          have ls := lowF_s (mem 186 4) (mem 190) (mem 192) hk0
          have us := highF_s (mem 186 5) (mem 190) (mem 191) hk0
          have htS := htb.2.2.2 k.toNat (by omega)
          rw [show k.toNat + 1 = (k + 1).toNat by omega] at htS
          refine ok_aload_n F dX1_layLevels_42 0 rfl ?_
          refine ok_getr F dX1_layLevels_43 kF_X1_30 sh_186 rfl ?_
          refine ok_iload_n F dX1_layLevels_46 1 rfl ?_
          refine ok_iconst F dX1_layLevels_47 ?_
          refine ok_iadd F dX1_layLevels_48 ?_
          refine ok_aload_n F dX1_layLevels_49 0 rfl ?_
          refine ok_getf (v := mem 186 4) F dX1_layLevels_50 kF_X1_42 sh_186 rfl (by rw [h186] <;> rfl) ?_
          refine ok_ineg F dX1_layLevels_53 ?_
          refine ok_aload_n F dX1_layLevels_54 0 rfl ?_
          refine ok_getr F dX1_layLevels_55 kF_X1_30 sh_186 rfl ?_
          refine ok_iload_n F dX1_layLevels_58 1 rfl ?_
          refine ok_iald (v := m 203 k.toNat) F dX1_layLevels_59 sh_203 (by first | decide | assumption) (by omega) (by omega) rfl ?_
          refine ok_aload_n F dX1_layLevels_60 0 rfl ?_
          refine ok_getr F dX1_layLevels_61 kF_X1_18 sh_186 rfl ?_
          refine ok_iload_n F dX1_layLevels_64 1 rfl ?_
          refine ok_iald (v := mem 192 k.toNat) F dX1_layLevels_65 sh_192 (by first | decide | assumption) (by omega) (by omega) (by rw [h192] <;> rfl) ?_
          refine ok_aload_n F dX1_layLevels_66 0 rfl ?_
          refine ok_getr F dX1_layLevels_67 kF_X1_9 sh_186 rfl ?_
          refine ok_iload_n F dX1_layLevels_70 1 rfl ?_
          refine ok_iald (v := mem 190 k.toNat) F dX1_layLevels_71 sh_190 (by first | decide | assumption) (by omega) (by omega) (by rw [h190] <;> rfl) ?_
          refine ok_imul F dX1_layLevels_72 ?_
          refine ok_isub F dX1_layLevels_73 ?_
          refine ok_mmax F dX1_layLevels_74 kL_X1_61 kS_J9_max_7cf53 kM_J9_max_7cf53.2.1 kM_J9_max_7cf53.2.2.1 (by omega) (by omega) (by decide) (Nat.le_of_ble_eq_true rfl) ?_
          refine ok_iast F dX1_layLevels_77 sh_203 (by first | decide | assumption) (by omega) (by omega) (fun m_9 e_10 => ?_)
          refine ok_aload_n F dX1_layLevels_78 0 rfl ?_
          refine ok_getr F dX1_layLevels_79 kF_X1_33 sh_186 rfl ?_
          refine ok_iload_n F dX1_layLevels_82 1 rfl ?_
          refine ok_iconst F dX1_layLevels_83 ?_
          refine ok_iadd F dX1_layLevels_84 ?_
          refine ok_aload_n F dX1_layLevels_85 0 rfl ?_
          refine ok_getf (v := mem 186 5) F dX1_layLevels_86 kF_X1_21 sh_186 rfl (by rw [e_10, mset_nk (by decide), h186] <;> rfl) ?_
          refine ok_aload_n F dX1_layLevels_89 0 rfl ?_
          refine ok_getr F dX1_layLevels_90 kF_X1_33 sh_186 rfl ?_
          refine ok_iload_n F dX1_layLevels_93 1 rfl ?_
          refine ok_iald (v := m 204 k.toNat) F dX1_layLevels_94 sh_204 (by first | decide | assumption) (by omega) (by omega) (by rw [e_10, mset_nk (by decide)] <;> rfl) ?_
          refine ok_aload_n F dX1_layLevels_95 0 rfl ?_
          refine ok_getr F dX1_layLevels_96 kF_X1_15 sh_186 rfl ?_
          refine ok_iload_n F dX1_layLevels_99 1 rfl ?_
          refine ok_iald (v := mem 191 k.toNat) F dX1_layLevels_100 sh_191 (by first | decide | assumption) (by omega) (by omega) (by rw [e_10, mset_nk (by decide), h191] <;> rfl) ?_
          refine ok_aload_n F dX1_layLevels_101 0 rfl ?_
          refine ok_getr F dX1_layLevels_102 kF_X1_9 sh_186 rfl ?_
          refine ok_iload_n F dX1_layLevels_105 1 rfl ?_
          refine ok_iald (v := mem 190 k.toNat) F dX1_layLevels_106 sh_190 (by first | decide | assumption) (by omega) (by omega) (by rw [e_10, mset_nk (by decide), h190] <;> rfl) ?_
          refine ok_imul F dX1_layLevels_107 ?_
          refine ok_iadd F dX1_layLevels_108 ?_
          refine ok_mmin F dX1_layLevels_109 kL_X1_67 kS_J9_min_7cf53 kM_J9_min_7cf53.2.1 kM_J9_min_7cf53.2.2.1 (by omega) (by omega) (by decide) (Nat.le_of_ble_eq_true rfl) ?_
          refine ok_iast F dX1_layLevels_112 sh_204 (by first | decide | assumption) (by omega) (by omega) (fun m_11 e_12 => ?_)
          have hBr : ∀ a, a ≠ 203 → a ≠ 204 → m_11 a = m a := fun a a1 a2 => by rw [e_12, e_10]; funext b; rw [mset_nk a2, mset_nk a1]
          have hBl1 : ∀ j, j ≠ (k + 1).toNat → m_11 203 j = m 203 j := fun j hj => by rw [e_12, e_10, mset_nk (by decide), mset_ne (fun q => hj q.2)]
          have hBl2 : m_11 203 (k + 1).toNat = lowF (mem 186 4) (mem 190) (mem 192) (k + 1).toNat := by rw [e_12, e_10, mset_nk (by decide), mset_eq, ls, b1]
          have hBh1 : ∀ j, j ≠ (k + 1).toNat → m_11 204 j = m 204 j := fun j hj => by rw [e_12, e_10, mset_ne (fun q => hj q.2), mset_nk (by decide)]
          have hBh2 : m_11 204 (k + 1).toNat = highF (mem 186 5) (mem 190) (mem 191) (k + 1).toNat := by rw [e_12, e_10, mset_eq, us, b2]
          have e186 : m_11 186 = mem 186 := by rw [hBr 186 (by decide) (by decide), h186]
          have el0 : m_11 203 k.toNat = lowF (mem 186 4) (mem 190) (mem 192) k.toNat := by rw [hBl1 _ (by omega), b1]
          have eh0 : m_11 204 k.toNat = highF (mem 186 5) (mem 190) (mem 191) k.toNat := by rw [hBh1 _ (by omega), b2]
          obtain ⟨mB, hmB⟩ : ∃ x, x = m_11 := ⟨_, rfl⟩
          refine ok_aload_n F dX1_layLevels_113 0 rfl ?_
          refine ok_iload_n F dX1_layLevels_114 1 rfl ?_
          refine ok_callv F [pI k] dX1_layLevels_115 kM_X1_copyLevel kI_X1_copyLevel kV_X1_copyLevel kL_X1_70 (ci := 1) rfl sh_186 rfl (by decide) (Nat.le_of_ble_eq_true rfl) rfl (m_X1_copyLevel _ k m_11 (by omega) (by rw [e186]; exact hO) (by rw [e186, hBl2, el0, hBh2, eh0]; omega)) ?_
          rintro _ m_14 ⟨rfl, r_15⟩
          obtain ⟨c1, c2, c3⟩ := id r_15
          rw [e186, hBl2, el0, hBh2, eh0] at c3
          rw [← hmB] at c1 c3 hBr hBl1 hBl2 hBh1 hBh2
          obtain ⟨mA, hmA⟩ : ∃ x, x = m_14 := ⟨_, rfl⟩
          rw [← hmA] at c1 c3
          have hAr : ∀ a, a ≠ (194 + (k + 1).toNat) → a ≠ 203 → a ≠ 204 → mA a = m a := fun a a1 a2 a3 => by rw [c1 a a1, hBr a a2 a3]
          have hAl1 : ∀ j, j ≠ (k + 1).toNat → mA 203 j = m 203 j := fun j hj => by rw [c1 203 (by omega), hBl1 j hj]
          have hAl2 : mA 203 (k + 1).toNat = lowF (mem 186 4) (mem 190) (mem 192) (k + 1).toNat := by rw [c1 203 (by omega), hBl2]
          have hAh1 : ∀ j, j ≠ (k + 1).toNat → mA 204 j = m 204 j := fun j hj => by rw [c1 204 (by omega), hBh1 j hj]
          have hAh2 : mA 204 (k + 1).toNat = highF (mem 186 5) (mem 190) (mem 191) (k + 1).toNat := by rw [c1 204 (by omega), hBh2]
          have hAl0 : mA 203 k.toNat = lowF (mem 186 4) (mem 190) (mem 192) k.toNat := by rw [hAl1 _ (by omega), b1]
          have hAh0 : mA 204 k.toNat = highF (mem 186 5) (mem 190) (mem 191) k.toNat := by rw [hAh1 _ (by omega), b2]
          have hA186 : mA 186 = mem 186 := by rw [hAr 186 (by omega) (by decide) (by decide), h186]
          have hA190 : mA 190 = mem 190 := by rw [hAr 190 (by omega) (by decide) (by decide), h190]
          have hAF : mA (194 + k.toNat) = m (194 + k.toNat) := hAr _ (by omega) (by omega) (by omega)
          have hFs : ∀ s : Int, lowF (mem 186 4) (mem 190) (mem 192) k.toNat ≤ s → s ≤ highF (mem 186 5) (mem 190) (mem 191) k.toNat → mA (194 + k.toNat) (s + (mem 186 4)).toNat = tb k.toNat s := fun s h1 h2 => by rw [hAF]; exact b3 s h1 h2
          have hN := htb.2.2.1 k.toNat (by omega)
          have hAT : ∀ s : Int, lowF (mem 186 4) (mem 190) (mem 192) (k + 1).toNat ≤ s → s ≤ highF (mem 186 5) (mem 190) (mem 191) (k + 1).toNat → mA (194 + (k + 1).toNat) (s + (mem 186 4)).toNat = tb k.toNat s := fun s h1 h2 => by
            rw [c3 (s + mem 186 4).toNat (by omega) (by omega)]
            by_cases g : lowF (mem 186 4) (mem 190) (mem 192) k.toNat ≤ s ∧ s ≤ highF (mem 186 5) (mem 190) (mem 191) k.toNat
            · rw [if_pos (by omega), hBr _ (by omega) (by omega)]; exact b3 s g.1 g.2
            · rw [if_neg (by omega)]; exact (hN s g).symm
          have hFA : (∀ a, a < 194 ∨ 206 < a → mA a = mem a) := fun a ha => by rw [hAr a (by omega) (by omega) (by omega)]; exact hF a ha
          have hJ_139 : ∀  (m3 : Mem), ((∀ a, a < 194 ∨ 206 < a → m3 a = mem a) ∧ (∀ a, a ≠ 194 + (k + 1).toNat → a ≠ 205 → a ≠ 206 → m3 a = mA a) ∧ ∀ s : Int, lowF (mem 186 4) (mem 190) (mem 192) (k + 1).toNat ≤ s → s ≤ highF (mem 186 5) (mem 190) (mem 191) (k + 1).toNat → m3 (194 + (k + 1).toNat) (s + (mem 186 4)).toNat = min (tb k.toNat s) (stepF (fun A => tb k.toNat (lowF (mem 186 4) (mem 190) (mem 192) (k + 1).toNat + A)) (mem 190 k.toNat).toNat (mem 191 k.toNat).toNat (s - lowF (mem 186 4) (mem 190) (mem 192) (k + 1).toNat).toNat)) → Ok shp X 2 139 [(0, pR 186), (1, pI k)] [] m3 := by
            intro m3 hI_139
            obtain ⟨hF3, h3A, h3T⟩ := hI_139
            have h3186 := hF3 186 (by decide)
            have h3190 := hF3 190 (by decide)
            have h3191 := hF3 191 (by decide)
            have h3192 := hF3 192 (by decide)
            have h3203 : m3 203 = mA 203 := h3A 203 (by omega) (by decide) (by decide)
            have h3204 : m3 204 = mA 204 := h3A 204 (by omega) (by decide) (by decide)
            have h3F : ∀ s : Int, lowF (mem 186 4) (mem 190) (mem 192) k.toNat ≤ s → s ≤ highF (mem 186 5) (mem 190) (mem 191) k.toNat → m3 (194 + k.toNat) (s + (mem 186 4)).toNat = tb k.toNat s := fun s h1 h2 => by rw [h3A _ (by omega) (by omega) (by omega)]; exact hFs s h1 h2
            have hJ_160 : ∀  (m4 : Mem), ((∀ a, a < 194 ∨ 206 < a → m4 a = mem a) ∧ (∀ a, a ≠ 194 + (k + 1).toNat → a ≠ 205 → a ≠ 206 → m4 a = mA a) ∧ ∀ s : Int, lowF (mem 186 4) (mem 190) (mem 192) (k + 1).toNat ≤ s → s ≤ highF (mem 186 5) (mem 190) (mem 191) (k + 1).toNat → m4 (194 + (k + 1).toNat) (s + (mem 186 4)).toNat = tb (k + 1).toNat s) → Ok shp X 2 160 [(0, pR 186), (1, pI k)] [] m4 := by
              intro m4 hI_160
              obtain ⟨hF4, h4A, h4T⟩ := hI_160
              refine ok_iinc (lv' := [(1, pI (k + 1)), (0, pR 186)]) F dX1_layLevels_160 1 rfl (by decide) rfl ?_
              refine ok_goto F 28 dX1_layLevels_163 (by decide) ?_
              refine ok_lvp [1, 0] (lv' := [(0, pR 186), (1, pI (k + 1))]) rfl ?_
              refine ih_28 _ ?_ (k + 1) m4 ?_ rfl
              · omega
              · refine ⟨by omega, by omega, hF4, fun j hj => ?_⟩
                by_cases e : j ≤ k.toNat
                · obtain ⟨a1, a2, a3⟩ := hLy j e
                  refine ⟨by rw [h4A 203 (by omega) (by decide) (by decide), hAl1 j (by omega)]; exact a1, by rw [h4A 204 (by omega) (by decide) (by decide), hAh1 j (by omega)]; exact a2, fun s h1 h2 => ?_⟩
                  rw [h4A (194 + j) (by omega) (by omega) (by omega), hAr (194 + j) (by omega) (by omega) (by omega)]; exact a3 s h1 h2
                · obtain rfl : j = (k + 1).toNat := by omega
                  exact ⟨by rw [h4A 203 (by omega) (by decide) (by decide), hAl2], by rw [h4A 204 (by omega) (by decide) (by decide), hAh2], h4T⟩
            refine ok_aload_n F dX1_layLevels_139 0 rfl ?_
            refine ok_getr F dX1_layLevels_140 kF_X1_18 sh_186 rfl ?_
            refine ok_iload_n F dX1_layLevels_143 1 rfl ?_
            refine ok_iald (v := mem 192 k.toNat) F dX1_layLevels_144 sh_192 (by first | decide | assumption) (by omega) (by omega) (by rw [h3192] <;> rfl) ?_
            refine ok_if_le F 160 dX1_layLevels_145 (by decide) (by omega) (fun c_16 => ?_) (fun c_16 => ?_)
            · refine ok_lvp [0, 1] (lv' := [(0, pR 186), (1, pI k)]) rfl ?_
              refine hJ_160 m3 ?_
              first
                | (refine ⟨hF3, h3A, fun s h1 h2 => ?_⟩; rw [h3T s h1 h2, htS s h1 h2, show (mem 192 k.toNat).toNat = 0 by omega]; exact (stepF_0 _ _ _ (by have := (htb.1 k.toNat s).2; omega) (Int.le_trans (Int.min_le_left _ _) (Int.le_of_eq (by show _ = tb k.toNat (_ - (((_ - s).toNat : Nat) : Int)); congr 1; omega)))).symm)
                | exact ⟨fun a ha => by rw [t1 a (by omega) (by omega) (by omega)]; exact hF3 a ha, fun a a1 a2 a3 => by rw [t1 a a1 a2 a3]; exact h3A a a1 a2 a3, hS2⟩
            · refine ok_aload_n F dX1_layLevels_148 0 rfl ?_
              refine ok_iload_n F dX1_layLevels_149 1 rfl ?_
              refine ok_aload_n F dX1_layLevels_150 0 rfl ?_
              refine ok_getr F dX1_layLevels_151 kF_X1_18 sh_186 rfl ?_
              refine ok_iload_n F dX1_layLevels_154 1 rfl ?_
              refine ok_iald (v := mem 192 k.toNat) F dX1_layLevels_155 sh_192 (by first | decide | assumption) (by omega) (by omega) (by rw [h3192] <;> rfl) ?_
              refine ok_iconst F dX1_layLevels_156 ?_
              refine ok_callv F [pI k, pI (mem 192 k.toNat), pI (-1)] dX1_layLevels_157 kM_X1_spread kI_X1_spread kV_X1_spread kL_X1_74 (ci := 1) rfl sh_186 rfl (by decide) (Nat.le_of_ble_eq_true rfl) rfl (m_X1_spread _ k (mem 192 k.toNat) (-1) m3 (by omega) (by omega) (Or.inr rfl) (by rw [h3186]; exact hO) (by rw [h3190]; exact qv) (by rw [h3186, h3203, h3204, hAl2, hAl0, hAh2, hAh0]; omega) (by rw [h3186, h3203, h3204, hAl0, hAh0]; exact fun s h1 h2 => by rw [h3F s h1 h2]; exact htb.1 _ _) (by rw [h3186, h3203, h3204, hAl2, hAh2]; exact fun s h1 h2 => by rw [h3T s h1 h2]; have z1 := htb.1 k.toNat s; have z2 := stepF_nn (fun A => (htb.1 k.toNat (lowF (mem 186 4) (mem 190) (mem 192) (k + 1).toNat + (A : Int))).1) (mem 190 k.toNat).toNat (mem 191 k.toNat).toNat (s - lowF (mem 186 4) (mem 190) (mem 192) (k + 1).toNat).toNat; omega)) ?_
              rintro _ m_18 ⟨rfl, r_19⟩
              obtain ⟨t1, t2, t3⟩ := id r_19
              rw [if_neg (by decide), h3186, h3190, h3203, h3204, hAl2, hAl0, hAh2, hAh0] at t3
              have hS2 : ∀ s : Int, lowF (mem 186 4) (mem 190) (mem 192) (k + 1).toNat ≤ s → s ≤ highF (mem 186 5) (mem 190) (mem 191) (k + 1).toNat → m_18 (194 + (k + 1).toNat) (s + (mem 186 4)).toNat = tb (k + 1).toNat s := fun s h1 h2 => by
                rw [sp_dn t3 h3F hN s h1 h2, h3T s h1 h2, htS s h1 h2]
              refine ok_lvp [0, 1] (lv' := [(0, pR 186), (1, pI k)]) rfl ?_
              refine hJ_160 m_18 ?_
              first
                | (refine ⟨hF3, h3A, fun s h1 h2 => ?_⟩; rw [h3T s h1 h2, htS s h1 h2, show (mem 192 k.toNat).toNat = 0 by omega]; exact (stepF_0 _ _ _ (by have := (htb.1 k.toNat s).2; omega) (Int.le_trans (Int.min_le_left _ _) (Int.le_of_eq (by show _ = tb k.toNat (_ - (((_ - s).toNat : Nat) : Int)); congr 1; omega)))).symm)
                | exact ⟨fun a ha => by rw [t1 a (by omega) (by omega) (by omega)]; exact hF3 a ha, fun a a1 a2 a3 => by rw [t1 a a1 a2 a3]; exact h3A a a1 a2 a3, hS2⟩
          refine ok_aload_n F dX1_layLevels_118 0 rfl ?_
          refine ok_getr F dX1_layLevels_119 kF_X1_15 sh_186 rfl ?_
          refine ok_iload_n F dX1_layLevels_122 1 rfl ?_
          refine ok_iald (v := mem 191 k.toNat) F dX1_layLevels_123 sh_191 (by first | decide | assumption) (by omega) (by omega) (by rw [(r_15.1 191 (by omega)), e_12, mset_nk (by decide), e_10, mset_nk (by decide), h191] <;> rfl) ?_
          refine ok_if_le F 139 dX1_layLevels_124 (by decide) (by omega) (fun c_20 => ?_) (fun c_20 => ?_)
          · refine ok_lvp [0, 1] (lv' := [(0, pR 186), (1, pI k)]) rfl ?_
            refine hJ_139 m_14 ?_
            first
              | (rw [← hmA]; exact ⟨hFA, fun _ _ _ _ => rfl, fun s h1 h2 => by rw [hAT s h1 h2, show (mem 191 k.toNat).toNat = 0 by omega]; exact (stepF_0 _ _ _ (htb.1 _ _).2 (Int.le_of_eq (by show _ = tb k.toNat (_ + (((s - _).toNat : Nat) : Int)); congr 1; omega))).symm⟩)
              | exact ⟨fun a ha => by rw [s1 a (by omega) (by omega) (by omega)]; exact hFA a ha, fun a a1 a2 a3 => s1 a a1 a2 a3, fun s h1 h2 => by rw [hS1 s h1 h2, hAT s h1 h2]⟩
          · refine ok_aload_n F dX1_layLevels_127 0 rfl ?_
            refine ok_iload_n F dX1_layLevels_128 1 rfl ?_
            refine ok_aload_n F dX1_layLevels_129 0 rfl ?_
            refine ok_getr F dX1_layLevels_130 kF_X1_15 sh_186 rfl ?_
            refine ok_iload_n F dX1_layLevels_133 1 rfl ?_
            refine ok_iald (v := mem 191 k.toNat) F dX1_layLevels_134 sh_191 (by first | decide | assumption) (by omega) (by omega) (by rw [(r_15.1 191 (by omega)), e_12, mset_nk (by decide), e_10, mset_nk (by decide), h191] <;> rfl) ?_
            refine ok_iconst F dX1_layLevels_135 ?_
            refine ok_callv F [pI k, pI (mem 191 k.toNat), pI 1] dX1_layLevels_136 kM_X1_spread kI_X1_spread kV_X1_spread kL_X1_74 (ci := 1) rfl sh_186 rfl (by decide) (Nat.le_of_ble_eq_true rfl) rfl (m_X1_spread _ k (mem 191 k.toNat) 1 m_14 (by omega) (by omega) (Or.inl rfl) (by rw [← hmA, hA186]; exact hO) (by rw [← hmA, hA190]; exact qv) (by rw [← hmA, hA186, hAl2, hAl0, hAh2, hAh0]; omega) (by rw [← hmA, hA186, hAl0, hAh0]; exact fun s h1 h2 => by rw [hFs s h1 h2]; exact htb.1 _ _) (by rw [← hmA, hA186, hAl2, hAh2]; exact fun s h1 h2 => by rw [hAT s h1 h2]; exact htb.1 _ _)) ?_
            rintro _ m_22 ⟨rfl, r_23⟩
            obtain ⟨s1, s2, s3⟩ := id r_23
            rw [← hmA] at s1 s3
            rw [if_pos rfl, hA186, hA190, hAl2, hAl0, hAh2, hAh0] at s3
            have hS1 := sp_up s3 hFs hN
            refine ok_lvp [0, 1] (lv' := [(0, pR 186), (1, pI k)]) rfl ?_
            refine hJ_139 m_22 ?_
            first
              | (rw [← hmA]; exact ⟨hFA, fun _ _ _ _ => rfl, fun s h1 h2 => by rw [hAT s h1 h2, show (mem 191 k.toNat).toNat = 0 by omega]; exact (stepF_0 _ _ _ (htb.1 _ _).2 (Int.le_of_eq (by show _ = tb k.toNat (_ + (((s - _).toNat : Nat) : Int)); congr 1; omega))).symm⟩)
              | exact ⟨fun a ha => by rw [s1 a (by omega) (by omega) (by omega)]; exact hFA a ha, fun a a1 a2 a3 => s1 a a1 a2 a3, fun s h1 h2 => by rw [hS1 s h1 h2, hAT s h1 h2]⟩
  refine ok_lvp [1, 0] (lv' := [(0, pR 186), (1, pI 0)]) rfl ?_
  refine hL_28 _ 0 m_5 ?_ rfl
  refine ⟨by omega, by omega, fun a ha => by subst_vars; funext b; rw [mset_nk (by omega), mset_nk (by omega), mset_nk (by omega)], fun j hj => ?_⟩
  obtain rfl : j = 0 := by omega
  refine ⟨?_, ?_, fun s h1 h2 => ?_⟩
  · subst_vars; rw [mset_nk (by decide), mset_nk (by decide)]; exact mset_eq mem 203 0 0
  · subst_vars; rw [mset_nk (by decide)]; exact mset_eq (mset mem 203 0 0) 204 0 0
  · have e1 : lowF (mem 186 4) (mem 190) (mem 192) 0 = 0 := rfl
    have e2 : highF (mem 186 5) (mem 190) (mem 191) 0 = 0 := rfl
    obtain rfl : s = 0 := by omega
    rw [htb.2.1]
    subst_vars
    rw [show 194 + 0 = 194 from rfl, show (0 + mem 186 4).toNat = (mem 186 4).toNat by omega, mset_eq]
