/-! change from no end of pieces, and when it is the change -/
def sumV (r v : Nat → Nat) : Nat → Nat
  | 0 => 0
  | n + 1 => sumV r v n + r n * v n
def sumC (r : Nat → Nat) : Nat → Nat
  | 0 => 0
  | n + 1 => sumC r n + r n
theorem sumV_congr {r s v : Nat → Nat} : ∀ {n : Nat}, (∀ i, i < n → r i = s i) → sumV r v n = sumV s v n
  | 0, _ => rfl
  | n + 1, h => by
    show sumV r v n + r n * v n = sumV s v n + s n * v n
    rw [sumV_congr (fun i hi => h i (by omega)), h n (by omega)]
theorem sumC_congr {r s : Nat → Nat} : ∀ {n : Nat}, (∀ i, i < n → r i = s i) → sumC r n = sumC s n
  | 0, _ => rfl
  | n + 1, h => by
    show sumC r n + r n = sumC s n + s n
    rw [sumC_congr (fun i hi => h i (by omega)), h n (by omega)]
theorem sumV_mono {r c v : Nat → Nat} : ∀ {n : Nat}, (∀ i, i < n → r i ≤ c i) → sumV r v n ≤ sumV c v n
  | 0, _ => Nat.le_refl _
  | n + 1, h => Nat.add_le_add (sumV_mono (fun i hi => h i (by omega))) (Nat.mul_le_mul_right _ (h n (by omega)))
theorem sumC_le {r v : Nat → Nat} : ∀ {n : Nat}, (∀ i, i < n → 1 ≤ v i) → sumC r n ≤ sumV r v n
  | 0, _ => Nat.le_refl _
  | n + 1, h => by
    have h1 := sumC_le (r := r) (n := n) (fun i hi => h i (by omega))
    have h2 : r n * 1 ≤ r n * v n := Nat.mul_le_mul_left _ (h n (by omega))
    show sumC r n + r n ≤ sumV r v n + r n * v n
    omega
/-- a row with one piece of kind j less, more -/
def rowDec (r : Nat → Nat) (j : Nat) : Nat → Nat := fun i => if i = j then r j - 1 else r i
def rowInc (r : Nat → Nat) (j : Nat) : Nat → Nat := fun i => (if j = i then 1 else 0) + r i
theorem rowDec_sum {r v : Nat → Nat} {j : Nat} (h : 1 ≤ r j) : ∀ {n : Nat}, j < n → sumV (rowDec r j) v n + v j = sumV r v n ∧ sumC (rowDec r j) n + 1 = sumC r n
  | 0, hj => by omega
  | n + 1, hj => by
    show sumV (rowDec r j) v n + rowDec r j n * v n + v j = sumV r v n + r n * v n ∧ sumC (rowDec r j) n + rowDec r j n + 1 = sumC r n + r n
    by_cases e : n = j
    · subst e
      have e1 : sumV (rowDec r n) v n = sumV r v n := sumV_congr (fun i hi => if_neg (by omega))
      have e2 : sumC (rowDec r n) n = sumC r n := sumC_congr (fun i hi => if_neg (by omega))
      have e3 : rowDec r n n = r n - 1 := if_pos rfl
      have e4 : r n * v n = (r n - 1) * v n + v n := by
        obtain ⟨q, hq⟩ : ∃ q, r n = q + 1 := ⟨r n - 1, by omega⟩
        rw [hq, Nat.add_sub_cancel, Nat.add_mul, Nat.one_mul]
      rw [e1, e2, e3, e4]
      omega
    · have h1 := rowDec_sum (v := v) h (n := n) (by omega)
      have e3 : rowDec r j n = r n := if_neg e
      rw [e3]
      omega
theorem rowInc_sum {r v : Nat → Nat} {j : Nat} : ∀ {n : Nat}, j < n → sumV (rowInc r j) v n = sumV r v n + v j ∧ sumC (rowInc r j) n = sumC r n + 1
  | 0, hj => by omega
  | n + 1, hj => by
    show sumV (rowInc r j) v n + rowInc r j n * v n = sumV r v n + r n * v n + v j ∧ sumC (rowInc r j) n + rowInc r j n = sumC r n + r n + 1
    by_cases e : n = j
    · subst e
      have e1 : sumV (rowInc r n) v n = sumV r v n := sumV_congr (fun i hi => by unfold rowInc; rw [if_neg (by omega), Nat.zero_add])
      have e2 : sumC (rowInc r n) n = sumC r n := sumC_congr (fun i hi => by unfold rowInc; rw [if_neg (by omega), Nat.zero_add])
      have e3 : rowInc r n n = 1 + r n := by unfold rowInc; rw [if_pos rfl]
      rw [e1, e2, e3, Nat.add_mul, Nat.one_mul]
      omega
    · have h1 := rowInc_sum (r := r) (v := v) (n := n) (j := j) (by omega)
      have e3 : rowInc r j n = r n := by unfold rowInc; rw [if_neg (by omega), Nat.zero_add]
      rw [e3]
      omega
theorem sumV_pos {r v : Nat → Nat} : ∀ {n : Nat}, 1 ≤ sumV r v n → ∃ j, j < n ∧ 1 ≤ r j
  | 0, h => by simp [sumV] at h
  | n + 1, h => by
    by_cases e : 1 ≤ r n
    · exact ⟨n, by omega, e⟩
    · have e0 : r n = 0 := by omega
      have h' : 1 ≤ sumV r v n + r n * v n := h
      rw [e0, Nat.zero_mul] at h'
      obtain ⟨j, j1, j2⟩ := sumV_pos (n := n) h'
      exact ⟨j, by omega, j2⟩
theorem sumV_0 {r v : Nat → Nat} : ∀ {n : Nat}, (∀ i, i < n → r i = 0) → sumV r v n = 0 ∧ sumC r n = 0
  | 0, _ => ⟨rfl, rfl⟩
  | n + 1, h => by
    have h1 := sumV_0 (r := r) (v := v) (n := n) (fun i hi => h i (by omega))
    show sumV r v n + r n * v n = 0 ∧ sumC r n + r n = 0
    rw [h n (by omega), Nat.zero_mul]
    omega
/-- no row of what there is has fewer pieces -/
theorem fewT_least {v c : Nat → Nat} : ∀ {n a : Nat} {r : Nat → Nat}, (∀ i, i < n → r i ≤ c i) → sumV r v n = a → fewT v c n a ≤ (sumC r n : Nat)
  | 0, a, r, _, h => by
    have : a = 0 := h.symm
    subst this
    exact Int.le_refl _
  | n + 1, a, r, h1, h2 => by
    have h3 : sumV r v n + r n * v n = a := h2
    have q := winF_le (f := fewT v c n) (v := v n) (a := a) (c := c n) (z := r n) (h1 n (by omega)) (by omega)
    have q2 := fewT_least (v := v) (c := c) (n := n) (a := a - r n * v n) (r := r) (fun i hi => h1 i (by omega)) (by omega)
    have e : fewT v c (n + 1) a = min 1000000 (winF (fewT v c n) (v n) a (c n)) := rfl
    have e2 : (sumC r (n + 1) : Nat) = sumC r n + r n := rfl
    rw [e, e2]
    omega
theorem lastZ_ex {P : Nat → Bool} : ∀ {n z : Nat}, z ≤ n → P z = true → P (lastZ P n) = true ∧ z ≤ lastZ P n
  | 0, z, h, hz => by
    obtain rfl : z = 0 := by omega
    exact ⟨hz, Nat.le_refl _⟩
  | n + 1, z, h, hz => by
    unfold lastZ
    by_cases e : P (n + 1) = true
    · rw [if_pos e]; exact ⟨e, h⟩
    · rw [if_neg e]
      have : z ≠ n + 1 := fun q => e (q ▸ hz)
      exact lastZ_ex (by omega) hz
theorem takZ_ok {v c : Nat → Nat} {k a : Nat} (h : fewT v c (k + 1) a < 1000000) : takZ v c k a ≤ c k ∧ takZ v c k a * v k ≤ a ∧ fewT v c k (a - takZ v c k a * v k) + takZ v c k a = fewT v c (k + 1) a := by
  obtain ⟨z, z1, z2, z3⟩ := fewT_at h
  have q := lastZ_ex (P := fun z => decide (z * v k ≤ a ∧ fewT v c k (a - z * v k) + z = fewT v c (k + 1) a)) z1 (decide_eq_true ⟨z2, z3⟩)
  have q2 := of_decide_eq_true q.1
  exact ⟨lastZ_le _ _, q2.1, q2.2⟩
/-- the row that is taken is a row of it, by so many pieces -/
theorem takR_rep {v c : Nat → Nat} : ∀ {n a : Nat}, fewT v c n a < 1000000 → sumV (takR v c n a) v n = a ∧ ((sumC (takR v c n a) n : Nat) : Int) = fewT v c n a ∧ ∀ i, i < n → takR v c n a i ≤ c i
  | 0, a, h => by
    have e : fewT v c 0 a = if a = 0 then 0 else 1000000 := rfl
    rw [e] at h ⊢
    by_cases g : a = 0
    · subst g; exact ⟨rfl, rfl, fun i hi => by omega⟩
    · rw [if_neg g] at h; omega
  | n + 1, a, h => by
    obtain ⟨t1, t2, t3⟩ := takZ_ok h
    have hb := fewT_bd v c n (a - takZ v c n a * v n)
    obtain ⟨i1, i2, i3⟩ := takR_rep (v := v) (c := c) (n := n) (a := a - takZ v c n a * v n) (by omega)
    have en : takR v c (n + 1) a n = takZ v c n a := if_pos rfl
    have el : ∀ i, i < n → takR v c (n + 1) a i = takR v c n (a - takZ v c n a * v n) i := fun i hi => if_neg (by omega)
    refine ⟨?_, ?_, fun i hi => ?_⟩
    · show sumV (takR v c (n + 1) a) v n + takR v c (n + 1) a n * v n = a
      rw [sumV_congr el, i1, en]
      omega
    · show ((sumC (takR v c (n + 1) a) n + takR v c (n + 1) a n : Nat) : Int) = _
      rw [sumC_congr el, en, ← t3, ← i2]
      omega
    · by_cases e : i = n
      · subst e; rw [en]; exact t1
      · rw [el i (by omega)]; exact i3 i (by omega)
/-- by the greatest kind first, a row has no less than another -/
def lexGe : Nat → (Nat → Nat) → (Nat → Nat) → Prop
  | 0, _, _ => True
  | n + 1, R, r => r n < R n ∨ r n = R n ∧ lexGe n R r
theorem lexGe_congr {R S r s : Nat → Nat} : ∀ {n : Nat}, (∀ i, i < n → R i = S i) → (∀ i, i < n → r i = s i) → lexGe n R r → lexGe n S s
  | 0, _, _, _ => trivial
  | n + 1, h1, h2, h => by
    show s n < S n ∨ s n = S n ∧ lexGe n S s
    rw [← h1 n (by omega), ← h2 n (by omega)]
    exact h.imp id (fun q => ⟨q.1, lexGe_congr (fun i hi => h1 i (by omega)) (fun i hi => h2 i (by omega)) q.2⟩)
theorem lexGe_strict {R r : Nat → Nat} {K : Nat} : ∀ {n : Nat}, K < n → (∀ j, K < j → j < n → r j ≤ R j) → r K < R K → lexGe n R r
  | 0, h, _, _ => by omega
  | n + 1, h, h1, h2 => by
    show r n < R n ∨ r n = R n ∧ lexGe n R r
    by_cases e : n = K
    · subst e; exact Or.inl h2
    · have := h1 n (by omega) (by omega)
      by_cases g : r n < R n
      · exact Or.inl g
      · exact Or.inr ⟨by omega, lexGe_strict (by omega) (fun j a b => h1 j a (by omega)) h2⟩
theorem lexGe_inc {R r : Nat → Nat} {K : Nat} : ∀ {n : Nat}, lexGe n R r → lexGe n (rowInc R K) (rowInc r K)
  | 0, _ => trivial
  | n + 1, h => by
    show rowInc r K n < rowInc R K n ∨ rowInc r K n = rowInc R K n ∧ lexGe n (rowInc R K) (rowInc r K)
    rcases h with h | ⟨h1, h2⟩
    · exact Or.inl (by unfold rowInc; omega)
    · exact Or.inr ⟨by unfold rowInc; omega, lexGe_inc h2⟩
/-- the row with the most of the greatest kind is the one that is taken -/
theorem takR_is {v c : Nat → Nat} : ∀ {n a : Nat} {R : Nat → Nat}, sumV R v n = a → ((sumC R n : Nat) : Int) = fewT v c n a → fewT v c n a < 1000000 → (∀ i, i < n → R i ≤ c i) → (∀ r : Nat → Nat, sumV r v n = a → sumC r n = sumC R n → (∀ i, i < n → r i ≤ c i) → lexGe n R r) → ∀ k, k < n → takR v c n a k = R k
  | 0, _, _, _, _, _, _, _, k, hk => by omega
  | n + 1, a, R, hV, hC, hf, hc, hl, k, hk => by
    have hV' : sumV R v n + R n * v n = a := hV
    have hC' : ((sumC R n + R n : Nat) : Int) = fewT v c (n + 1) a := hC
    have q1 := fewT_least (v := v) (c := c) (n := n) (a := a - R n * v n) (r := R) (fun i hi => hc i (by omega)) (by omega)
    have q2 := winF_le (f := fewT v c n) (v := v n) (a := a) (c := c n) (z := R n) (hc n (by omega)) (by omega)
    have e : fewT v c (n + 1) a = min 1000000 (winF (fewT v c n) (v n) a (c n)) := rfl
    have q3 : fewT v c n (a - R n * v n) + R n = fewT v c (n + 1) a := by omega
    have q4 := lastZ_ex (P := fun z => decide (z * v n ≤ a ∧ fewT v c n (a - z * v n) + z = fewT v c (n + 1) a)) (hc n (by omega)) (decide_eq_true ⟨by omega, q3⟩)
    have q5 : R n ≤ takZ v c n a := q4.2
    obtain ⟨r1, r2, r3⟩ := takR_rep hf
    have q6 := hl _ r1 (by have : (sumC R (n + 1) : Nat) = sumC R n + R n := rfl; omega) r3
    have en : takR v c (n + 1) a n = takZ v c n a := if_pos rfl
    have q7 : takZ v c n a = R n := by
      rcases q6 with q6 | ⟨q6, -⟩
      · rw [en] at q6; omega
      · rw [en] at q6; omega
    by_cases ek : k = n
    · subst ek; rw [en, q7]
    · have e1 : takR v c (n + 1) a k = takR v c n (a - takZ v c n a * v n) k := if_neg ek
      rw [e1, q7]
      refine takR_is (n := n) (a := a - R n * v n) (R := R) (by omega) (by omega) (by omega) (fun i hi => hc i (by omega)) (fun r a1 a2 a3 => ?_) k (by omega)
      have b1 : ∀ i, i < n → (fun i => if i = n then R n else r i) i = r i := fun i hi => if_neg (by omega)
      have b2 : (fun i => if i = n then R n else r i) n = R n := if_pos rfl
      have q8 := hl (fun i => if i = n then R n else r i) (by
        show sumV _ v n + (fun i => if i = n then R n else r i) n * v n = a
        rw [sumV_congr b1, b2]; omega) (by
        show sumC _ n + (fun i => if i = n then R n else r i) n = sumC R n + R n
        rw [sumC_congr b1, b2]; omega) (fun i hi => by
        by_cases g : i = n
        · subst g; rw [if_pos rfl]; exact hc _ (by omega)
        · rw [if_neg g]; exact a3 i (by omega))
      rcases q8 with q8 | ⟨-, q8⟩
      · rw [b2] at q8; omega
      · exact lexGe_congr (fun _ _ => rfl) b1 q8
/-- the table of no end of pieces: of each amount the last kind of its change (-1: there is none), and how many pieces -/
def PLN (pk pp : Nat → Int) (v : Nat → Nat) (n top : Nat) : Prop := pk 0 = 0 ∧ pp 0 = 0 ∧ ∀ a, 1 ≤ a → a ≤ top → (pk a = -1 ∧ ∀ k, k < n → v k ≤ a → pk (a - v k) < 0) ∨ ∃ K : Nat, K < n ∧ pk a = (K : Int) ∧ v K ≤ a ∧ 0 ≤ pk (a - v K) ∧ pp a = pp (a - v K) + 1 ∧ ∀ k, k < n → v k ≤ a → 0 ≤ pk (a - v k) → pp a < pp (a - v k) + 1 ∨ pp a = pp (a - v k) + 1 ∧ k ≤ K
theorem PLN.low {pk pp : Nat → Int} {v : Nat → Nat} {n top : Nat} (h : PLN pk pp v n top) (hv : ∀ i, i < n → 1 ≤ v i) : ∀ (a : Nat), a ≤ top → ∀ r : Nat → Nat, sumV r v n = a → 0 ≤ pk a ∧ pp a ≤ (sumC r n : Nat) := by
  intro a
  induction a using Nat.strongRecOn with
  | _ a ih =>
    intro ha r hr
    by_cases e : a = 0
    · subst e; rw [h.1, h.2.1]; omega
    · obtain ⟨j, j1, j2⟩ := sumV_pos (r := r) (v := v) (n := n) (by omega)
      have d := rowDec_sum (v := v) j2 j1
      have vj := hv j j1
      obtain ⟨i1, i2⟩ := ih (a - v j) (by omega) (by omega) (rowDec r j) (by omega)
      rcases h.2.2 a (by omega) ha with ⟨p1, p2⟩ | ⟨K, k1, k2, k3, k4, k5, k6⟩
      · have := p2 j j1 (by omega); omega
      · have := k6 j j1 (by omega) i1
        omega
/-- the row that the table gives -/
def plR (pk : Nat → Int) (v : Nat → Nat) : Nat → Nat → Nat → Nat
  | 0, _, _ => 0
  | f + 1, a, k => if a = 0 then 0 else (if pk a = (k : Int) then 1 else 0) + plR pk v f (a - v (pk a).toNat) k
theorem plR_s {pk : Nat → Int} {v : Nat → Nat} {f a K : Nat} (ha : a ≠ 0) (hK : pk a = (K : Int)) : plR pk v (f + 1) a = rowInc (plR pk v f (a - v K)) K := by
  funext k
  show (if a = 0 then 0 else (if pk a = (k : Int) then 1 else 0) + plR pk v f (a - v (pk a).toNat) k) = (if K = k then 1 else 0) + plR pk v f (a - v K) k
  rw [if_neg ha, hK, Int.toNat_natCast]
  by_cases g : K = k
  · rw [if_pos g, if_pos (by omega)]
  · rw [if_neg g, if_neg (by omega)]
theorem plR_0 (pk : Nat → Int) (v : Nat → Nat) (f k : Nat) : plR pk v f 0 k = 0 := by
  cases f with
  | zero => rfl
  | succ f => exact if_pos rfl
theorem PLN.rep {pk pp : Nat → Int} {v : Nat → Nat} {n top : Nat} (h : PLN pk pp v n top) (hv : ∀ i, i < n → 1 ≤ v i) : ∀ (f a : Nat), a ≤ top → a ≤ f → 0 ≤ pk a → sumV (plR pk v f a) v n = a ∧ ((sumC (plR pk v f a) n : Nat) : Int) = pp a
  | f, 0, _, _, _ => by
    have := sumV_0 (r := plR pk v f 0) (v := v) (n := n) (fun i _ => plR_0 pk v f i)
    rw [h.2.1]
    omega
  | 0, a + 1, _, h2, _ => by omega
  | f + 1, a + 1, h1, h2, h3 => by
    rcases h.2.2 (a + 1) (by omega) h1 with ⟨p1, p2⟩ | ⟨K, k1, k2, k3, k4, k5, k6⟩
    · omega
    · have vK := hv K k1
      obtain ⟨i1, i2⟩ := h.rep hv f (a + 1 - v K) (by omega) (by omega) k4
      have d := rowInc_sum (r := plR pk v f (a + 1 - v K)) (v := v) k1
      rw [plR_s (by omega) k2]
      omega
theorem PLN.lex {pk pp : Nat → Int} {v : Nat → Nat} {n top : Nat} (h : PLN pk pp v n top) (hv : ∀ i, i < n → 1 ≤ v i) : ∀ (f a : Nat), a ≤ top → a ≤ f → 0 ≤ pk a → ∀ r : Nat → Nat, sumV r v n = a → ((sumC r n : Nat) : Int) = pp a → lexGe n (plR pk v f a) r
  | f, 0, _, _, _, r, hr, hc => by
    have h0 : ∀ i, i < n → r i = 0 := fun i hi => by
      by_cases g : 1 ≤ r i
      · have d := rowDec_sum (v := v) g hi
        have := hv i hi
        omega
      · omega
    refine lexGe_congr (R := fun _ => 0) (r := fun _ => 0) (fun i _ => (plR_0 pk v f i).symm) (fun i hi => (h0 i hi).symm) ?_
    have : ∀ n : Nat, lexGe n (fun _ => 0) (fun _ => 0) := fun n => by
      induction n with
      | zero => trivial
      | succ n ih => exact Or.inr ⟨rfl, ih⟩
    exact this n
  | 0, a + 1, _, h2, _, _, _, _ => by omega
  | f + 1, a + 1, h1, h2, h3, r, hr, hc => by
    rcases h.2.2 (a + 1) (by omega) h1 with ⟨p1, p2⟩ | ⟨K, k1, k2, k3, k4, k5, k6⟩
    · omega
    · have vK := hv K k1
      have hz : ∀ j, K < j → j < n → r j = 0 := fun j j1 j2 => by
        by_cases g : 1 ≤ r j
        · have d := rowDec_sum (v := v) g j2
          have vj := hv j j2
          have q := h.low hv (a + 1 - v j) (by omega) (rowDec r j) (by omega)
          have := k6 j j2 (by omega) q.1
          omega
        · omega
      rw [plR_s (by omega) k2]
      by_cases g : 1 ≤ r K
      · have d := rowDec_sum (v := v) g k1
        have q := h.lex hv f (a + 1 - v K) (by omega) (by omega) k4 (rowDec r K) (by omega) (by omega)
        refine lexGe_congr (fun _ _ => rfl) (fun i hi => ?_) (lexGe_inc (K := K) q)
        show (if K = i then 1 else 0) + (if i = K then r K - 1 else r i) = r i
        by_cases e : K = i
        · subst e; rw [if_pos rfl, if_pos rfl]; omega
        · rw [if_neg e, if_neg (fun q => e q.symm), Nat.zero_add]
      · refine lexGe_strict k1 (fun j j1 j2 => by rw [hz j j1 j2]; exact Nat.zero_le _) ?_
        show r K < (if K = K then 1 else 0) + _
        rw [if_pos rfl]
        omega
/-- where the stock has it, the change from no end of pieces is the change -/
theorem PLN.take {pk pp : Nat → Int} {v c : Nat → Nat} {n top f a : Nat} (h : PLN pk pp v n top) (hv : ∀ i, i < n → 1 ≤ v i) (ha : a ≤ top) (hf : a ≤ f) (hs : a < 1000000) (hk : 0 ≤ pk a) (hc : ∀ i, i < n → plR pk v f a i ≤ c i) : fewT v c n a = pp a ∧ fewT v c n a < 1000000 ∧ ∀ k, k < n → takR v c n a k = plR pk v f a k := by
  obtain ⟨r1, r2⟩ := h.rep hv f a ha hf hk
  have h1 := fewT_least hc r1
  have h0 := sumC_le (r := plR pk v f a) hv
  have h2 : fewT v c n a < 1000000 := by omega
  obtain ⟨t1, t2, t3⟩ := takR_rep h2
  have h3 := (h.low hv a ha _ t1).2
  have h4 : fewT v c n a = pp a := by omega
  exact ⟨h4, h2, takR_is r1 (by omega) h2 hc (fun r a1 a2 _ => h.lex hv f a ha hf hk r a1 (by omega))⟩
theorem PLN.none {pk pp : Nat → Int} {v c : Nat → Nat} {n top a : Nat} (h : PLN pk pp v n top) (hv : ∀ i, i < n → 1 ≤ v i) (ha : a ≤ top) (hk : pk a < 0) : fewT v c n a = 1000000 := by
  have hb := fewT_bd v c n a
  by_cases g : fewT v c n a < 1000000
  · have := (h.low hv a ha _ (takR_rep g).1).1
    omega
  · omega
theorem fewT_poor {v c : Nat → Nat} {n a : Nat} (h : sumV c v n < a) : fewT v c n a = 1000000 := by
  have hb := fewT_bd v c n a
  by_cases g : fewT v c n a < 1000000
  · obtain ⟨t1, t2, t3⟩ := takR_rep g
    have := sumV_mono (v := v) t3
    omega
  · omega
theorem sumV_int {c v : Nat → Int} : ∀ {n : Nat}, (∀ i, i < n → 0 ≤ c i ∧ 0 ≤ v i) → ((sumV (fun i => (c i).toNat) (fun i => (v i).toNat) n : Nat) : Int) = sumN (fun k => c k * v k) n
  | 0, _ => rfl
  | n + 1, h => by
    have h1 := sumV_int (n := n) (fun i hi => h i (by omega))
    have h2 := h n (by omega)
    show ((sumV (fun i => (c i).toNat) (fun i => (v i).toNat) n + (c n).toNat * (v n).toNat : Nat) : Int) = sumN (fun k => c k * v k) n + c n * v n
    rw [Int.natCast_add, h1, Int.natCast_mul, Int.toNat_of_nonneg h2.1, Int.toNat_of_nonneg h2.2]
