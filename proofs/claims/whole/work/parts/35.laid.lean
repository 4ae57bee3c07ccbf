/-! the class: the table laid for change, for settling; kept till asked otherwise -/
theorem winF_congr2 {f g : Nat → Int} {v a : Nat} (h : ∀ x, x ≤ a → f x = g x) : ∀ c : Nat, winF f v a c = winF g v a c
  | 0 => h a (Nat.le_refl _)
  | c + 1 => by
    unfold winF
    rw [winF_congr2 h c, h (a - (c + 1) * v) (Nat.sub_le _ _)]
theorem fewT_congr2 {v v' c c' : Nat → Nat} : ∀ {k : Nat} (a : Nat), (∀ i, i < k → v i = v' i ∧ c i = c' i) → fewT v c k a = fewT v' c' k a
  | 0, _, _ => rfl
  | k + 1, a, h => by
    show stepF (fewT v c k) (v k) (c k) a = stepF (fewT v' c' k) (v' k) (c' k) a
    rw [(h k (Nat.lt_succ_self k)).1, (h k (Nat.lt_succ_self k)).2]
    exact stepF_congr (fun x _ => fewT_congr2 x (fun i hi => h i (Nat.lt_succ_of_lt hi)))
/-- the table for change up to a top -/
def tbC (v c : Nat → Int) (T : Int) (k : Nat) (s : Int) : Int := if 0 ≤ s ∧ s ≤ T then fewT (fun i => (v i).toNat) (fun i => (c i).toNat) k s.toNat else 1000000
theorem tbC_at {v c : Nat → Int} {T s : Int} {k : Nat} (h : 0 ≤ s ∧ s ≤ T) : tbC v c T k s = fewT (fun i => (v i).toNat) (fun i => (c i).toNat) k s.toNat := if_pos h
theorem fewT_far {v c : Nat → Int} {T : Int} (hT : 0 ≤ T) : ∀ {k : Nat}, (∀ i, i < k → 0 ≤ c i ∧ 0 ≤ v i) → ∀ a : Nat, highF T v c k < a → (a : Int) ≤ T → fewT (fun i => (v i).toNat) (fun i => (c i).toNat) k a = 1000000
  | 0, _, a, h, _ => by
    have e : highF T v c 0 = 0 := rfl
    unfold fewT
    rw [if_neg (by omega)]
  | k + 1, hb, a, h, h2 => by
    have hk := hb k (by omega)
    have e : highF T v c (k + 1) = min T (highF T v c k + c k * v k) := rfl
    show stepF (fewT _ _ k) (v k).toNat (c k).toNat a = 1000000
    obtain ⟨z, z1, z2, z3⟩ := winF_at (fewT (fun i => (v i).toNat) (fun i => (c i).toNat) k) (v k).toNat a (c k).toNat
    have hz : (z : Int) * v k ≤ c k * v k := Int.mul_le_mul_of_nonneg_right (by omega) hk.2
    have ez : ((z * (v k).toNat : Nat) : Int) = (z : Int) * v k := by rw [Int.natCast_mul, Int.toNat_of_nonneg hk.2]
    obtain ⟨y, hy⟩ : ∃ y, y = z * (v k).toNat := ⟨_, rfl⟩
    rw [← hy] at z2 z3 ez
    have q := fewT_far (k := k) hT (fun i hi => hb i (by omega)) (a - y) (by omega) (by omega)
    unfold stepF
    omega
theorem tbC_ok {v c r : Nat → Int} {T : Int} {K : Nat} (hT : 0 ≤ T) (hb : ∀ i, i < K → 0 ≤ c i ∧ 0 ≤ v i) (hr : ∀ i, i < K → r i = 0) : TabOk (tbC v c T) v c r 0 T K := by
  have hlow : ∀ k, k ≤ K → lowF 0 v r k = 0 := by
    intro k
    induction k with
    | zero => intro _; rfl
    | succ k ih =>
      intro hk
      show max (-0) (lowF 0 v r k - r k * v k) = 0
      rw [ih (by omega), hr k (by omega), Int.zero_mul]
      rfl
  have hbd : ∀ k s, 0 ≤ tbC v c T k s ∧ tbC v c T k s ≤ 1000000 := fun k s => by
    unfold tbC
    by_cases g : 0 ≤ s ∧ s ≤ T
    · rw [if_pos g]; exact fewT_bd _ _ _ _
    · rw [if_neg g]; omega
  refine ⟨hbd, ?_, fun k hk s hs => ?_, fun k hk s h1 h2 => ?_⟩
  · rw [tbC_at ⟨Int.le_refl _, hT⟩]; rfl
  · rw [hlow k hk] at hs
    by_cases g : 0 ≤ s ∧ s ≤ T
    · rw [tbC_at g]
      exact fewT_far hT (fun i hi => hb i (by omega)) s.toNat (by omega) (by omega)
    · exact if_neg g
  · have hu := highF_bd (T := T) (v := v) (g := c) (k := k + 1) hT (fun i hi => hb i (by omega))
    rw [hlow (k + 1) (by omega)] at h1 ⊢
    rw [hr k hk, show (0 : Int).toNat = 0 from rfl]
    have e1 : tbC v c T (k + 1) s = stepF (fewT (fun i => (v i).toNat) (fun i => (c i).toNat) k) (v k).toNat (c k).toNat s.toNat := by rw [tbC_at ⟨h1, by omega⟩]; rfl
    have e2 : stepF (fun A : Nat => tbC v c T k (0 + A)) (v k).toNat (c k).toNat (s - 0).toNat = stepF (fewT (fun i => (v i).toNat) (fun i => (c i).toNat) k) (v k).toNat (c k).toNat s.toNat := by
      rw [Int.sub_zero]
      refine stepF_congr (fun x hx => ?_)
      rw [Int.zero_add, tbC_at (by omega)]
      rfl
    have e3 : tbC v c T k s = fewT (fun i => (v i).toNat) (fun i => (c i).toNat) k s.toNat := tbC_at ⟨h1, by omega⟩
    have e4 := winF_le (f := fewT (fun i => (v i).toNat) (fun i => (c i).toNat) k) (v := (v k).toNat) (a := s.toNat) (c := (c k).toNat) (z := 0) (Nat.zero_le _) (by rw [Nat.zero_mul]; exact Nat.zero_le _)
    rw [Nat.zero_mul, Nat.sub_zero] at e4
    have e5 := fewT_bd (fun i => (v i).toNat) (fun i => (c i).toNat) k s.toNat
    rw [e1, e2, e3]
    have e6 : stepF (fewT (fun i => (v i).toNat) (fun i => (c i).toNat) k) (v k).toNat (c k).toNat s.toNat ≤ fewT (fun i => (v i).toNat) (fun i => (c i).toNat) k s.toNat := by
      unfold stepF
      have : ((0 : Nat) : Int) = 0 := rfl
      omega
    have e7 := stepF_0 (fun A : Nat => tbC v c T k (highF T v c (k + 1) - A)) (v k).toNat (highF T v c (k + 1) - s).toNat (x := stepF (fewT (fun i => (v i).toNat) (fun i => (c i).toNat) k) (v k).toNat (c k).toNat s.toNat) (by unfold stepF; omega) (by
      show _ ≤ tbC v c T k (highF T v c (k + 1) - ((highF T v c (k + 1) - s).toNat : Nat))
      rw [show highF T v c (k + 1) - (((highF T v c (k + 1) - s).toNat : Nat) : Int) = s by omega, e3]
      exact e6)
    rw [Int.min_eq_right e6]
    exact e7.symm
/-- the least of h over n numbers from lo on -/
def leastN (h : Int → Int) (lo : Int) : Nat → Int
  | 0 => 1000000
  | n + 1 => min (leastN h lo n) (h (lo + n))
theorem leastN_le {h : Int → Int} {lo : Int} : ∀ {n : Nat}, leastN h lo n ≤ 1000000 ∧ ∀ z, lo ≤ z → z < lo + n → leastN h lo n ≤ h z
  | 0 => ⟨Int.le_refl _, fun z h1 h2 => by omega⟩
  | n + 1 => by
    obtain ⟨a1, a2⟩ := leastN_le (h := h) (lo := lo) (n := n)
    refine ⟨Int.le_trans (Int.min_le_left _ _) a1, fun z h1 h2 => ?_⟩
    by_cases e : z = lo + n
    · subst e; exact Int.min_le_right _ _
    · exact Int.le_trans (Int.min_le_left _ _) (a2 z h1 (by omega))
theorem leastN_at {h : Int → Int} {lo : Int} : ∀ n : Nat, leastN h lo n = 1000000 ∨ ∃ z, lo ≤ z ∧ z < lo + n ∧ leastN h lo n = h z
  | 0 => Or.inl rfl
  | n + 1 => by
    show min (leastN h lo n) (h (lo + n)) = 1000000 ∨ ∃ z, lo ≤ z ∧ z < lo + ((n + 1 : Nat) : Int) ∧ min (leastN h lo n) (h (lo + n)) = h z
    rcases Int.le_total (leastN h lo n) (h (lo + n)) with w | w
    · rw [Int.min_eq_left w]
      rcases leastN_at (h := h) (lo := lo) n with q | ⟨z, z1, z2, z3⟩
      · exact Or.inl q
      · exact Or.inr ⟨z, z1, by omega, z3⟩
    · rw [Int.min_eq_right w]
      exact Or.inr ⟨lo + n, by omega, by omega, rfl⟩
theorem leastN_is {h : Int → Int} {lo : Int} {n : Nat} {x : Int} (h1 : x ≤ 1000000) (h2 : ∀ z, lo ≤ z → z < lo + n → x ≤ h z) (h3 : x = 1000000 ∨ ∃ z, lo ≤ z ∧ z < lo + n ∧ x = h z) : x = leastN h lo n := by
  obtain ⟨a1, a2⟩ := leastN_le (h := h) (lo := lo) (n := n)
  have b : x ≤ leastN h lo n := by
    rcases leastN_at (h := h) (lo := lo) n with q | ⟨z, z1, z2, z3⟩
    · omega
    · rw [z3]; exact h2 z z1 z2
  rcases h3 with h3 | ⟨z, z1, z2, z3⟩
  · omega
  · have := a2 z z1 z2
    omega
/-- the table for settling: v values, g there to give, r there to return -/
def stlT (v g r : Nat → Int) : Nat → Int → Int
  | 0, s => if s = 0 then 0 else 1000000
  | k + 1, s => if -2000 ≤ s ∧ s ≤ 2000 then leastN (fun z => stlT v g r k (s - z * v k) + (z.natAbs : Int)) (-(r k)) (r k + g k + 1).toNat else 1000000
theorem stlT_bd (v g r : Nat → Int) : ∀ k s, 0 ≤ stlT v g r k s ∧ stlT v g r k s ≤ 1000000
  | 0, s => by unfold stlT; split <;> omega
  | k + 1, s => by
    unfold stlT
    split
    · refine ⟨?_, leastN_le.1⟩
      rcases leastN_at (h := fun z => stlT v g r k (s - z * v k) + (z.natAbs : Int)) (lo := -(r k)) (r k + g k + 1).toNat with q | ⟨z, z1, z2, z3⟩
      · omega
      · rw [z3]
        have := stlT_bd v g r k (s - z * v k)
        try dsimp only
        omega
    · omega
theorem stlT_out {v g r : Nat → Int} : ∀ {k : Nat}, (∀ i, i < k → 0 ≤ g i ∧ 0 ≤ r i ∧ 0 ≤ v i) → ∀ s, ¬ (lowF 2000 v r k ≤ s ∧ s ≤ highF 2000 v g k) → stlT v g r k s = 1000000
  | 0, _, s, h => by
    have e1 : lowF 2000 v r 0 = 0 := rfl
    have e2 : highF 2000 v g 0 = 0 := rfl
    unfold stlT
    rw [if_neg (by omega)]
  | k + 1, hb, s, h => by
    have hk := hb k (by omega)
    have e1 : lowF 2000 v r (k + 1) = max (-2000) (lowF 2000 v r k - r k * v k) := rfl
    have e2 : highF 2000 v g (k + 1) = min 2000 (highF 2000 v g k + g k * v k) := rfl
    unfold stlT
    by_cases q : -2000 ≤ s ∧ s ≤ 2000
    · rw [if_pos q]
      refine (leastN_is (Int.le_refl _) (fun z z1 z2 => ?_) (Or.inl rfl)).symm
      have hz : ¬ (lowF 2000 v r k ≤ s - z * v k ∧ s - z * v k ≤ highF 2000 v g k) := by
        have a1 : z * v k ≤ g k * v k := Int.mul_le_mul_of_nonneg_right (by omega) hk.2.2
        have a2 : -(r k) * v k ≤ z * v k := Int.mul_le_mul_of_nonneg_right (by omega) hk.2.2
        rw [Int.neg_mul] at a2
        omega
      have a3 := stlT_out (fun i hi => hb i (by omega)) _ hz
      try dsimp only
      omega
    · exact if_neg q
theorem stlT_ok {v g r : Nat → Int} {K : Nat} (hb : ∀ i, i < K → 0 ≤ g i ∧ 0 ≤ r i ∧ 0 ≤ v i) : TabOk (stlT v g r) v g r 2000 2000 K := by
  refine ⟨stlT_bd v g r, rfl, fun k hk s hs => stlT_out (fun i hi => hb i (by omega)) s hs, fun k hk s h1 h2 => ?_⟩
  have hk3 := hb k hk
  have lb := lowF_bd (O := 2000) (v := v) (r := r) (k := k + 1) (by decide) (fun i hi => ⟨(hb i (by omega)).2.1, (hb i (by omega)).2.2⟩)
  have ub := highF_bd (T := 2000) (v := v) (g := g) (k := k + 1) (by decide) (fun i hi => ⟨(hb i (by omega)).1, (hb i (by omega)).2.2⟩)
  have el : stlT v g r (k + 1) s = leastN (fun z => stlT v g r k (s - z * v k) + (z.natAbs : Int)) (-(r k)) (r k + g k + 1).toNat := by
    show (if -2000 ≤ s ∧ s ≤ 2000 then _ else _) = _
    rw [if_pos (by omega)]
  rw [el]
  symm
  obtain ⟨z, z1, z2, z3⟩ := winF_at (fun A : Nat => stlT v g r k (lowF 2000 v r (k + 1) + A)) (v k).toNat (s - lowF 2000 v r (k + 1)).toNat (g k).toNat
  obtain ⟨y, y1, y2, y3⟩ := winF_at (fun A : Nat => stlT v g r k (highF 2000 v g (k + 1) - A)) (v k).toNat (highF 2000 v g (k + 1) - s).toNat (r k).toNat
  have ezv : ∀ z : Nat, ((z * (v k).toNat : Nat) : Int) = (z : Int) * v k := fun z => by rw [Int.natCast_mul, Int.toNat_of_nonneg hk3.2.2]
  have ez1 := ezv z
  have ey1 := ezv y
  have ez : lowF 2000 v r (k + 1) + (((s - lowF 2000 v r (k + 1)).toNat - z * (v k).toNat : Nat) : Int) = s - (z : Int) * v k := by omega
  have ey : highF 2000 v g (k + 1) - (((highF 2000 v g (k + 1) - s).toNat - y * (v k).toNat : Nat) : Int) = s - (-(y : Int)) * v k := by rw [Int.neg_mul]; omega
  try dsimp only at z3 y3
  rw [ez] at z3
  rw [ey] at y3
  have b0 := stlT_bd v g r k s
  refine leastN_is (Int.le_trans (Int.min_le_left _ _) (Int.le_trans (Int.min_le_left _ _) b0.2)) (fun w w1 w2 => ?_) ?_
  · try dsimp only
    have bw := stlT_bd v g r k (s - w * v k)
    by_cases far : stlT v g r k (s - w * v k) = 1000000
    · exact Int.le_trans (Int.min_le_left _ _) (Int.le_trans (Int.min_le_left _ _) (by omega))
    · have inr : lowF 2000 v r k ≤ s - w * v k ∧ s - w * v k ≤ highF 2000 v g k := by
        by_cases q : lowF 2000 v r k ≤ s - w * v k ∧ s - w * v k ≤ highF 2000 v g k
        · exact q
        · exact absurd (stlT_out (fun i hi => hb i (by omega)) _ q) far
      have e1 : lowF 2000 v r (k + 1) = max (-2000) (lowF 2000 v r k - r k * v k) := rfl
      have e2 : highF 2000 v g (k + 1) = min 2000 (highF 2000 v g k + g k * v k) := rfl
      have lbk := lowF_bd (O := 2000) (v := v) (r := r) (k := k) (by decide) (fun i hi => ⟨(hb i (by omega)).2.1, (hb i (by omega)).2.2⟩)
      have ubk := highF_bd (T := 2000) (v := v) (g := g) (k := k) (by decide) (fun i hi => ⟨(hb i (by omega)).1, (hb i (by omega)).2.2⟩)
      have pr := Int.mul_nonneg hk3.2.1 hk3.2.2
      have pg := Int.mul_nonneg hk3.1 hk3.2.2
      by_cases sg : 0 ≤ w
      · have wv := Int.mul_nonneg sg hk3.2.2
        have ew := ezv w.toNat
        rw [Int.toNat_of_nonneg sg] at ew
        have q := winF_le (f := fun A : Nat => stlT v g r k (lowF 2000 v r (k + 1) + A)) (v := (v k).toNat) (a := (s - lowF 2000 v r (k + 1)).toNat) (c := (g k).toNat) (z := w.toNat) (by omega) (by omega)
        try dsimp only at q
        rw [show lowF 2000 v r (k + 1) + (((s - lowF 2000 v r (k + 1)).toNat - w.toNat * (v k).toNat : Nat) : Int) = s - w * v k by omega] at q
        refine Int.le_trans (Int.min_le_left _ _) (Int.le_trans (Int.min_le_right _ _) ?_)
        unfold stepF
        omega
      · have wv : 0 ≤ (-w) * v k := Int.mul_nonneg (by omega) hk3.2.2
        have ew := ezv (-w).toNat
        rw [Int.toNat_of_nonneg (by omega : 0 ≤ -w)] at ew
        rw [Int.neg_mul] at ew wv
        have q := winF_le (f := fun A : Nat => stlT v g r k (highF 2000 v g (k + 1) - A)) (v := (v k).toNat) (a := (highF 2000 v g (k + 1) - s).toNat) (c := (r k).toNat) (z := (-w).toNat) (by omega) (by omega)
        try dsimp only at q
        rw [show highF 2000 v g (k + 1) - (((highF 2000 v g (k + 1) - s).toNat - (-w).toNat * (v k).toNat : Nat) : Int) = s - w * v k by omega] at q
        refine Int.le_trans (Int.min_le_right _ _) ?_
        unfold stepF
        omega
  · unfold stepF
    rw [z3, y3]
    have c : ∀ a b c : Int, a ≤ 1000000 → (min (min a (min 1000000 b)) (min 1000000 c) = a ∨ min (min a (min 1000000 b)) (min 1000000 c) = b ∨ min (min a (min 1000000 b)) (min 1000000 c) = c) := fun a b c _ => by omega
    rcases c (stlT v g r k s) (stlT v g r k (s - (z : Int) * v k) + z) (stlT v g r k (s - (-(y : Int)) * v k) + y) b0.2 with q | q | q
    · exact Or.inr ⟨0, by omega, by omega, by rw [q, Int.zero_mul, Int.sub_zero]; simp⟩
    · exact Or.inr ⟨z, by omega, by omega, by rw [q]; simp⟩
    · exact Or.inr ⟨-(y : Int), by omega, by omega, by rw [q]; simp⟩
