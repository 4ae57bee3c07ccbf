/-! rows of bags, one behind the other -/
def nzT (r : Nat → Int) : Nat → Nat
  | 0 => 0
  | p + 1 => if r (p + 1) = 0 then nzT r p else p + 1
theorem nzT_s (r : Nat → Int) (p : Nat) : nzT r (p + 1) = if r (p + 1) = 0 then nzT r p else p + 1 := rfl
def nxR (n : Nat) (r : Nat → Int) : Nat → Int := rput (rput (rput r (nzT r (n - 1)) 0) (nzT r (n - 1) - 1) (r (nzT r (n - 1) - 1) + 1)) (n - 1) (r (nzT r (n - 1)) - 1)
def hdR (n k left : Nat) (row : Nat → Int) : Nat → Int := fun i => if k ≤ i ∧ i < n then (if i = n - 1 then (left : Int) else 0) else row i
def lstR (n k left : Nat) (row : Nat → Int) : Nat → Int := fun i => if k ≤ i ∧ i < n then (if i = k then (left : Int) else 0) else row i
def runR (good : (Nat → Int) → Bool) (n : Nat) (base : Nat → Int) : Nat → Nat → (Nat → Int) → Int × (Nat → Int)
  | 0, _, r => (-2, r)
  | F + 1, N, r => if 4 < N then (-2, r) else if good r = true then ((N : Int), r) else if nzT r (n - 1) = 0 then runR good n base F (N + 1) (hdR n 0 (N + 1) base) else runR good n base F N (nxR n r)
theorem runR_s (good : (Nat → Int) → Bool) (n : Nat) (base : Nat → Int) (F N : Nat) (r : Nat → Int) : runR good n base (F + 1) N r = if 4 < N then (-2, r) else if good r = true then ((N : Int), r) else if nzT r (n - 1) = 0 then runR good n base F (N + 1) (hdR n 0 (N + 1) base) else runR good n base F N (nxR n r) := rfl
def nextOf (good : (Nat → Int) → Bool) (n : Nat) (base : Nat → Int) (F N : Nat) (r : Nat → Int) : Int × (Nat → Int) := if nzT r (n - 1) = 0 then runR good n base F (N + 1) (hdR n 0 (N + 1) base) else runR good n base F N (nxR n r)
theorem nzT_is {r : Nat → Int} : ∀ {m p : Nat}, p ≤ m → (p = 0 ∨ r p ≠ 0) → (∀ i, p < i → i ≤ m → r i = 0) → nzT r m = p
  | 0, p, h, _, _ => by
    have : p = 0 := by omega
    subst this; rfl
  | m + 1, p, h, h1, h2 => by
    rw [nzT_s]
    by_cases e : p = m + 1
    · subst e
      rcases h1 with h1 | h1
      · omega
      · rw [if_neg h1]
    · rw [if_pos (h2 (m + 1) (by omega) (by omega))]
      exact nzT_is (by omega) h1 (fun i a b => h2 i a (by omega))
theorem fbR_out (good : (Nat → Int) → Bool) {i : Nat} : ∀ (j k left : Nat) (row : Nat → Int), (i < k ∨ k + j < i) → (fbR good j k left row).2 i = row i
  | 0, k, left, row, h => if_neg (by omega)
  | j + 1, k, left, row, h => by
    have key : ∀ (m b : Nat) (r : Nat → Int), (fbLoop (fun b r => fbR good j (k + 1) (left - b) (rput r k b)) m b r).2 i = r i := by
      intro m
      induction m with
      | zero => intro b r; rfl
      | succ m ih =>
        intro b r
        have e : (fbR good j (k + 1) (left - b) (rput r k b)).2 i = r i := by
          rw [fbR_out good j (k + 1) (left - b) (rput r k b) (by omega)]
          exact if_neg (by omega)
        rw [fbLoop_s]
        by_cases q : (fbR good j (k + 1) (left - b) (rput r k b)).1 = true
        · rw [if_pos q]; exact e
        · rw [if_neg q, ih (b + 1)]; exact e
    exact key (left + 1) 0 row
theorem hd_congr {n k left : Nat} {a b : Nat → Int} (h : ∀ i, (i < k ∨ n ≤ i) → a i = b i) : hdR n k left a = hdR n k left b := by
  funext i
  unfold hdR
  by_cases g : k ≤ i ∧ i < n
  · rw [if_pos g, if_pos g]
  · rw [if_neg g, if_neg g]; exact h i (by omega)
theorem lst_congr {n k left : Nat} {a b : Nat → Int} (h : ∀ i, (i < k ∨ n ≤ i) → a i = b i) : lstR n k left a = lstR n k left b := by
  funext i
  unfold lstR
  by_cases g : k ≤ i ∧ i < n
  · rw [if_pos g, if_pos g]
  · rw [if_neg g, if_neg g]; exact h i (by omega)
/-- from the last row of a part to the first one of the next part -/
theorem nx_part {n k b left : Nat} {row : Nat → Int} (hk : k + 1 < n) (hb : b < left) : nzT (lstR n (k + 1) (left - b) (rput row k b)) (n - 1) ≠ 0 ∧ nxR n (lstR n (k + 1) (left - b) (rput row k b)) = hdR n (k + 1) (left - (b + 1)) (rput row k ((b + 1 : Nat) : Int)) := by
  have e1 : lstR n (k + 1) (left - b) (rput row k b) (k + 1) = ((left - b : Nat) : Int) := by
    unfold lstR
    rw [if_pos (by omega), if_pos rfl]
  have t : nzT (lstR n (k + 1) (left - b) (rput row k b)) (n - 1) = k + 1 := nzT_is (by omega) (Or.inr (by rw [e1]; omega)) (fun i h1 h2 => by
    unfold lstR
    rw [if_pos (by omega), if_neg (by omega)])
  refine ⟨by rw [t]; omega, ?_⟩
  have e2 : lstR n (k + 1) (left - b) (rput row k b) k = b := by
    unfold lstR
    rw [if_neg (by omega)]
    exact if_pos rfl
  unfold nxR
  rw [t, show k + 1 - 1 = k from rfl, e1, e2]
  funext i
  unfold rput hdR
  by_cases a : i = n - 1
  · rw [if_pos a, if_pos (by omega), if_pos a]; omega
  · rw [if_neg a]
    by_cases c : i = k
    · rw [if_pos c, if_neg (by omega)]
      show (b : Int) + 1 = (if i = k then ((b + 1 : Nat) : Int) else row i)
      rw [if_pos c]; omega
    · rw [if_neg c]
      by_cases d : i = k + 1
      · rw [if_pos d, if_pos (by omega), if_neg a]
      · rw [if_neg d]
        unfold lstR
        by_cases e : k + 1 ≤ i ∧ i < n
        · rw [if_pos e, if_neg d, if_pos e, if_neg a]
        · rw [if_neg e, if_neg e]
          show (if i = k then (b : Int) else row i) = (if i = k then ((b + 1 : Nat) : Int) else row i)
          rw [if_neg c, if_neg c]
theorem blockR (good : (Nat → Int) → Bool) (base : Nat → Int) (N : Nat) (hN : N ≤ 4) : ∀ (j k left : Nat) (row : Nat → Int), left ≤ 4 → ∃ m, m ≤ 5 ^ j ∧ ∀ F, runR good (k + j + 1) base (m + F) N (hdR (k + j + 1) k left row) = if (fbR good j k left row).1 = true then ((N : Int), (fbR good j k left row).2) else nextOf good (k + j + 1) base F N (lstR (k + j + 1) k left row)
  | 0, k, left, row, hl => by
    refine ⟨1, Nat.le_refl _, fun F => ?_⟩
    have e : hdR (k + 0 + 1) k left row = rput row k left := by
      funext i
      unfold hdR rput
      by_cases g : i = k
      · rw [if_pos (by omega), if_pos (by omega), if_pos g]
      · rw [if_neg (by omega), if_neg g]
    have e2 : lstR (k + 0 + 1) k left row = rput row k left := by
      funext i
      unfold lstR rput
      by_cases g : i = k
      · rw [if_pos (by omega), if_pos g, if_pos g]
      · rw [if_neg (by omega), if_neg g]
    rw [e, e2, Nat.add_comm 1 F, runR_s, if_neg (by omega)]
    rfl
  | j + 1, k, left, row, hl => by
    have key : ∀ (c b : Nat) (r : Nat → Int), c + b = left + 1 → 1 ≤ c → (∀ i, (i < k ∨ k + (j + 1) < i) → r i = row i) → ∃ m, m ≤ c * 5 ^ j ∧ ∀ F, runR good (k + (j + 1) + 1) base (m + F) N (hdR (k + (j + 1) + 1) (k + 1) (left - b) (rput row k b)) = if (fbLoop (fun b r => fbR good j (k + 1) (left - b) (rput r k b)) c b r).1 = true then ((N : Int), (fbLoop (fun b r => fbR good j (k + 1) (left - b) (rput r k b)) c b r).2) else nextOf good (k + (j + 1) + 1) base F N (lstR (k + (j + 1) + 1) k left row) := by
      intro c
      induction c with
      | zero => intro b r _ h _; omega
      | succ c ih =>
        intro b r hcb _ hr
        obtain ⟨m1, hm1, hF1⟩ := blockR good base N hN j (k + 1) (left - b) (rput r k b) (by omega)
        have en : k + 1 + j + 1 = k + (j + 1) + 1 := by omega
        rw [en] at hF1
        have hrb : ∀ i, (i < k + 1 ∨ k + (j + 1) + 1 ≤ i) → rput r k b i = rput row k b i := fun i hi => by
          unfold rput
          by_cases g : i = k
          · rw [if_pos g, if_pos g]
          · rw [if_neg g, if_neg g]; exact hr i (by omega)
        have h1 := hd_congr (n := k + (j + 1) + 1) (left := left - b) hrb
        have h2 := lst_congr (n := k + (j + 1) + 1) (left := left - b) hrb
        rw [h1, h2] at hF1
        rw [fbLoop_s]
        by_cases q : (fbR good j (k + 1) (left - b) (rput r k b)).1 = true
        · refine ⟨m1, by rw [Nat.succ_mul]; omega, fun F => ?_⟩
          rw [hF1 F, if_pos q]
          show _ = if (if (fbR good j (k + 1) (left - b) (rput r k b)).1 = true then (true, (fbR good j (k + 1) (left - b) (rput r k b)).2) else _).1 = true then _ else _
          rw [if_pos q, if_pos rfl]
        · by_cases hc : c = 0
          · subst hc
            have hb : b = left := by omega
            subst hb
            refine ⟨m1, by rw [Nat.zero_add, Nat.one_mul]; exact hm1, fun F => ?_⟩
            rw [hF1 F, if_neg q]
            have el : lstR (k + (j + 1) + 1) (k + 1) (b - b) (rput row k b) = lstR (k + (j + 1) + 1) k b row := by
              funext i
              unfold lstR rput
              by_cases g : i = k
              · rw [if_neg (by omega), if_pos g, if_pos (by omega), if_pos g]
              · by_cases g2 : k + 1 ≤ i ∧ i < k + (j + 1) + 1
                · rw [if_pos g2, if_pos (show k ≤ i ∧ i < k + (j + 1) + 1 by omega), if_neg g]
                  by_cases g3 : i = k + 1
                  · rw [if_pos g3]; omega
                  · rw [if_neg g3]
                · rw [if_neg g2, if_neg g, if_neg (by omega)]
            rw [el]
            show _ = if (if (fbR good j (k + 1) (b - b) (rput r k b)).1 = true then _ else (false, (fbR good j (k + 1) (b - b) (rput r k b)).2)).1 = true then _ else _
            rw [if_neg q, if_neg (fun z : false = true => by cases z)]
          · obtain ⟨m2, hm2, hF2⟩ := ih (b + 1) (fbR good j (k + 1) (left - b) (rput r k b)).2 (by omega) (by omega) (fun i hi => by
              rw [fbR_out good j (k + 1) (left - b) (rput r k b) (by omega)]
              unfold rput
              rw [if_neg (by omega)]
              exact hr i hi)
            refine ⟨m1 + m2, by rw [Nat.succ_mul]; omega, fun F => ?_⟩
            obtain ⟨t1, t2⟩ := nx_part (n := k + (j + 1) + 1) (k := k) (b := b) (left := left) (row := row) (by omega) (by omega)
            rw [Nat.add_assoc m1 m2 F, hF1 (m2 + F), if_neg q]
            unfold nextOf
            rw [if_neg t1, t2, hF2 F]
            show _ = if (if (fbR good j (k + 1) (left - b) (rput r k b)).1 = true then _ else fbLoop _ c (b + 1) (fbR good j (k + 1) (left - b) (rput r k b)).2).1 = true then _ else _
            rw [if_neg q]
            try rfl
    obtain ⟨m, hm, hF⟩ := key (left + 1) 0 row (by omega) (by omega) (fun _ _ => rfl)
    refine ⟨m, ?_, fun F => ?_⟩
    · rw [Nat.pow_succ]
      have : (left + 1) * 5 ^ j ≤ 5 * 5 ^ j := Nat.mul_le_mul_right _ (by omega)
      omega
    · have eh : hdR (k + (j + 1) + 1) (k + 1) (left - 0) (rput row k ((0 : Nat) : Int)) = hdR (k + (j + 1) + 1) k left row := by
        funext i
        unfold hdR rput
        by_cases g : i = k
        · rw [if_neg (show ¬ (k + 1 ≤ i ∧ i < k + (j + 1) + 1) by omega), if_pos g, if_pos (show k ≤ i ∧ i < k + (j + 1) + 1 by omega), if_neg (show ¬ i = k + (j + 1) + 1 - 1 by omega)]; rfl
        · by_cases g2 : k + 1 ≤ i ∧ i < k + (j + 1) + 1
          · rw [if_pos g2, if_pos (show k ≤ i ∧ i < k + (j + 1) + 1 by omega)]; rfl
          · rw [if_neg g2, if_neg g, if_neg (show ¬ (k ≤ i ∧ i < k + (j + 1) + 1) by omega)]
      rw [← eh]
      exact hF F

theorem fbR_base (good : (Nat → Int) → Bool) : ∀ (j k left : Nat) (a b : Nat → Int), (∀ i, (i < k ∨ k + j < i) → a i = b i) → fbR good j k left a = fbR good j k left b
  | 0, k, left, a, b, h => by
    have e : rput a k left = rput b k left := by
      funext i
      unfold rput
      by_cases g : i = k
      · rw [if_pos g, if_pos g]
      · rw [if_neg g, if_neg g]; exact h i (by omega)
    show (good (rput a k left), rput a k left) = (good (rput b k left), rput b k left)
    rw [e]
  | j + 1, k, left, a, b, h => by
    have e : fbR good j (k + 1) (left - 0) (rput a k ((0 : Nat) : Int)) = fbR good j (k + 1) (left - 0) (rput b k ((0 : Nat) : Int)) := fbR_base good j (k + 1) (left - 0) _ _ (fun i hi => by
      unfold rput
      by_cases g : i = k
      · rw [if_pos g, if_pos g]
      · rw [if_neg g, if_neg g]; exact h i (by omega))
    show fbLoop _ (left + 1) 0 a = fbLoop _ (left + 1) 0 b
    rw [fbLoop_s, fbLoop_s, e]
theorem neR (good : (Nat → Int) → Bool) (base : Nat → Int) {n : Nat} (hn : 1 ≤ n) : ∀ (c N : Nat) (r : Nat → Int), c + N = 5 → (∀ i, n ≤ i → r i = base i) → ∃ m, m ≤ c * 5 ^ (n - 1) ∧ ∀ F, (runR good n base (m + F) N (hdR n 0 N base)).1 = (neLoop (fun b r => fbR good (n - 1) 0 b r) c N r).1 ∧ ((neLoop (fun b r => fbR good (n - 1) 0 b r) c N r).1 ≠ -2 → runR good n base (m + F) N (hdR n 0 N base) = neLoop (fun b r => fbR good (n - 1) 0 b r) c N r)
  | 0, N, r, h, _ => by
    refine ⟨0, Nat.zero_le _, fun F => ?_⟩
    have e : (runR good n base (0 + F) N (hdR n 0 N base)).1 = -2 := by
      rw [Nat.zero_add]
      cases F with
      | zero => rfl
      | succ F => rw [runR_s, if_pos (by omega)]
    exact ⟨e, fun q => absurd rfl q⟩
  | c + 1, N, r, h, hr => by
    obtain ⟨m1, hm1, hF1⟩ := blockR good base N (by omega) (n - 1) 0 N base (by omega)
    rw [show 0 + (n - 1) + 1 = n by omega] at hF1
    have eb : fbR good (n - 1) 0 N base = fbR good (n - 1) 0 N r := fbR_base good _ _ _ _ _ (fun i hi => (hr i (by omega)).symm)
    rw [eb] at hF1
    rw [neLoop_s]
    by_cases q : (fbR good (n - 1) 0 N r).1 = true
    · refine ⟨m1, by rw [Nat.succ_mul]; omega, fun F => ?_⟩
      have e : runR good n base (m1 + F) N (hdR n 0 N base) = ((N : Int), (fbR good (n - 1) 0 N r).2) := by rw [hF1 F, if_pos q]
      rw [if_pos q]
      exact ⟨by rw [e], fun _ => e⟩
    · obtain ⟨m2, hm2, hF2⟩ := neR good base hn c (N + 1) (fbR good (n - 1) 0 N r).2 (by omega) (fun i hi => by
        rw [fbR_out good (n - 1) 0 N r (by omega)]; exact hr i hi)
      have t : nzT (lstR n 0 N base) (n - 1) = 0 := nzT_is (Nat.zero_le _) (Or.inl rfl) (fun i h1 h2 => by
        unfold lstR
        rw [if_pos (by omega), if_neg (by omega)])
      refine ⟨m1 + m2, by rw [Nat.succ_mul]; omega, fun F => ?_⟩
      have e : runR good n base (m1 + m2 + F) N (hdR n 0 N base) = runR good n base (m2 + F) (N + 1) (hdR n 0 (N + 1) base) := by
        rw [Nat.add_assoc, hF1 (m2 + F), if_neg q]
        unfold nextOf
        rw [if_pos t]
      rw [if_neg q, e]
      exact hF2 F
theorem run_all (good : (Nat → Int) → Bool) (base : Nat → Int) {n : Nat} (hn : 1 ≤ n ∧ n ≤ 8) (r : Nat → Int) (hr : ∀ i, n ≤ i → r i = base i) : (runR good n base 1000000 0 (hdR n 0 0 base)).1 = (neLoop (fun b r => fbR good (n - 1) 0 b r) 5 0 r).1 ∧ ((neLoop (fun b r => fbR good (n - 1) 0 b r) 5 0 r).1 ≠ -2 → runR good n base 1000000 0 (hdR n 0 0 base) = neLoop (fun b r => fbR good (n - 1) 0 b r) 5 0 r) := by
  obtain ⟨m, hm, hF⟩ := neR good base hn.1 5 0 r rfl hr
  have h5 : 5 ^ (n - 1) ≤ 5 ^ 7 := Nat.pow_le_pow_right (by decide) (by omega)
  have e : (5 : Nat) ^ 7 = 78125 := by decide
  have := hF (1000000 - m)
  rw [show m + (1000000 - m) = 1000000 by omega] at this
  exact this
/-- what is found does not hang on the places behind the kinds -/
theorem fbR_cong {good : (Nat → Int) → Bool} {n : Nat} (hg : ∀ a b : Nat → Int, (∀ i, i < n → a i = b i) → good a = good b) : ∀ (j k left : Nat) (a b : Nat → Int), (∀ i, i < n → a i = b i) → (fbR good j k left a).1 = (fbR good j k left b).1 ∧ ∀ i, i < n → (fbR good j k left a).2 i = (fbR good j k left b).2 i
  | 0, k, left, a, b, h => by
    have e : ∀ i, i < n → rput a k left i = rput b k left i := fun i hi => by
      unfold rput
      by_cases g : i = k
      · rw [if_pos g, if_pos g]
      · rw [if_neg g, if_neg g]; exact h i hi
    exact ⟨hg _ _ e, e⟩
  | j + 1, k, left, a, b, h => by
    have key : ∀ (m c : Nat) (a b : Nat → Int), (∀ i, i < n → a i = b i) → (fbLoop (fun b r => fbR good j (k + 1) (left - b) (rput r k b)) m c a).1 = (fbLoop (fun b r => fbR good j (k + 1) (left - b) (rput r k b)) m c b).1 ∧ ∀ i, i < n → (fbLoop (fun b r => fbR good j (k + 1) (left - b) (rput r k b)) m c a).2 i = (fbLoop (fun b r => fbR good j (k + 1) (left - b) (rput r k b)) m c b).2 i := by
      intro m
      induction m with
      | zero => intro c a b h; exact ⟨rfl, h⟩
      | succ m ih =>
        intro c a b h
        obtain ⟨i1, i2⟩ := fbR_cong hg j (k + 1) (left - c) (rput a k c) (rput b k c) (fun i hi => by
          unfold rput
          by_cases g : i = k
          · rw [if_pos g, if_pos g]
          · rw [if_neg g, if_neg g]; exact h i hi)
        rw [fbLoop_s, fbLoop_s]
        by_cases q : (fbR good j (k + 1) (left - c) (rput a k c)).1 = true
        · rw [if_pos q, if_pos (by rw [← i1]; exact q)]
          exact ⟨rfl, i2⟩
        · rw [if_neg q, if_neg (by rw [← i1]; exact q)]
          exact ih (c + 1) _ _ i2
    exact key (left + 1) 0 a b h
theorem ne_cong {good : (Nat → Int) → Bool} {n : Nat} (hg : ∀ a b : Nat → Int, (∀ i, i < n → a i = b i) → good a = good b) (j : Nat) : ∀ (c N : Nat) (a b : Nat → Int), (∀ i, i < n → a i = b i) → (neLoop (fun b r => fbR good j 0 b r) c N a).1 = (neLoop (fun b r => fbR good j 0 b r) c N b).1 ∧ ∀ i, i < n → (neLoop (fun b r => fbR good j 0 b r) c N a).2 i = (neLoop (fun b r => fbR good j 0 b r) c N b).2 i
  | 0, _, a, b, h => ⟨rfl, h⟩
  | c + 1, N, a, b, h => by
    obtain ⟨i1, i2⟩ := fbR_cong hg j 0 N a b h
    rw [neLoop_s, neLoop_s]
    by_cases q : (fbR good j 0 N a).1 = true
    · rw [if_pos q, if_pos (by rw [← i1]; exact q)]
      exact ⟨rfl, i2⟩
    · rw [if_neg q, if_neg (by rw [← i1]; exact q)]
      exact ne_cong hg j c (N + 1) _ _ i2
/-- whatever the rows' start, the first kinds' places are found alike -/
theorem fbR_cong0 {good : (Nat → Int) → Bool} {n : Nat} (hn : 1 ≤ n) (hg : ∀ a b : Nat → Int, (∀ i, i < n → a i = b i) → good a = good b) (left : Nat) (a b : Nat → Int) : (fbR good (n - 1) 0 left a).1 = (fbR good (n - 1) 0 left b).1 ∧ ∀ i, i < n → (fbR good (n - 1) 0 left a).2 i = (fbR good (n - 1) 0 left b).2 i := by
  have e : fbR good (n - 1) 0 left a = fbR good (n - 1) 0 left (fun i => if i < n then b i else a i) := fbR_base good _ _ _ _ _ (fun i hi => by
    show a i = if i < n then b i else a i
    rw [if_neg (by omega)])
  rw [e]
  exact fbR_cong hg _ _ _ _ _ (fun i hi => if_pos hi)
theorem sum_rput {r : Nat → Int} {p : Nat} {z : Int} : ∀ {n : Nat}, p < n → sumN (rput r p z) n = sumN r n - r p + z
  | n + 1, h => by
    show sumN (rput r p z) n + rput r p z n = sumN r n + r n - r p + z
    by_cases e : p = n
    · subst e
      have e1 : sumN (rput r p z) p = sumN r p := sumN_congr (fun i hi => if_neg (by omega))
      have e2 : rput r p z p = z := if_pos rfl
      rw [e1, e2]
      omega
    · have e2 : rput r p z n = r n := if_neg (by omega)
      rw [sum_rput (n := n) (by omega), e2]
      omega
theorem sum_le {r : Nat → Int} : ∀ {n : Nat}, (∀ i, i < n → 0 ≤ r i) → 0 ≤ sumN r n ∧ ∀ i, i < n → r i ≤ sumN r n
  | 0, _ => ⟨Int.le_refl _, fun i hi => absurd hi (Nat.not_lt_zero _)⟩
  | n + 1, h => by
    obtain ⟨a, b⟩ := sum_le (n := n) (fun i hi => h i (by omega))
    have c := h n (by omega)
    refine ⟨by show 0 ≤ sumN r n + r n; omega, fun i hi => ?_⟩
    show r i ≤ sumN r n + r n
    by_cases e : i = n
    · rw [e]; omega
    · have := b i (by omega); omega
theorem nzT_le (r : Nat → Int) : ∀ m : Nat, nzT r m ≤ m ∧ (nzT r m ≠ 0 → r (nzT r m) ≠ 0) ∧ ∀ i, nzT r m < i → i ≤ m → r i = 0
  | 0 => ⟨Nat.le_refl _, fun h => absurd rfl h, fun i h1 h2 => by omega⟩
  | m + 1 => by
    obtain ⟨a, b, c⟩ := nzT_le r m
    rw [nzT_s]
    by_cases e : r (m + 1) = 0
    · rw [if_pos e]
      refine ⟨by omega, b, fun i h1 h2 => ?_⟩
      by_cases g : i = m + 1
      · rw [g]; exact e
      · exact c i h1 (by omega)
    · rw [if_neg e]
      exact ⟨Nat.le_refl _, fun _ => e, fun i h1 h2 => by omega⟩
/-- rows of so many bags -/
def bagR (n N : Nat) (r : Nat → Int) : Prop := (∀ i, i < n → 0 ≤ r i) ∧ sumN r n = (N : Int)
theorem bagR.le {n N : Nat} {r : Nat → Int} (h : bagR n N r) {i : Nat} (hi : i < n) : 0 ≤ r i ∧ r i ≤ N := ⟨h.1 i hi, by have := (sum_le h.1).2 i hi; rw [h.2] at this; exact this⟩
theorem bagR.hd {n N : Nat} (base : Nat → Int) (hn : 1 ≤ n) : bagR n N (hdR n 0 N base) := by
  have e : ∀ i, i < n → hdR n 0 N base i = if i = n - 1 then (N : Int) else 0 := fun i hi => if_pos ⟨Nat.zero_le _, hi⟩
  refine ⟨fun i hi => ?_, ?_⟩
  · rw [e i hi]; split <;> omega
  · rw [sum_one (k := n - 1) (by omega) (fun i hi hne => by rw [e i hi, if_neg hne]), e _ (by omega), if_pos rfl]
theorem bagR.nx {n N : Nat} {r : Nat → Int} (h : bagR n N r) (ht : nzT r (n - 1) ≠ 0) : bagR n N (nxR n r) := by
  obtain ⟨a, b, c⟩ := nzT_le r (n - 1)
  have b := b ht
  obtain ⟨h1, h2⟩ := h
  have hp : nzT r (n - 1) < n := by omega
  have h0 := h1 _ hp
  have h3 := h1 (nzT r (n - 1) - 1) (by omega)
  have e2 : rput (rput r (nzT r (n - 1)) 0) (nzT r (n - 1) - 1) (r (nzT r (n - 1) - 1) + 1) (n - 1) = 0 := by
    unfold rput
    rw [if_neg (by omega)]
    by_cases g : n - 1 = nzT r (n - 1)
    · rw [if_pos g]
    · rw [if_neg g]; exact c (n - 1) (by omega) (Nat.le_refl _)
  have e1 : rput r (nzT r (n - 1)) 0 (nzT r (n - 1) - 1) = r (nzT r (n - 1) - 1) := if_neg (by omega)
  constructor
  · intro i hi
    unfold nxR
    have := h1 i hi
    unfold rput
    split
    · omega
    · split
      · omega
      · split <;> omega
  · unfold nxR
    rw [sum_rput (by omega), e2, sum_rput (by omega), e1, sum_rput hp, h2]
    omega
theorem wellB_cong {f : Nat → Int} {d : Int} (h0 : 0 ≤ f 0 ∧ f 0 ≤ 8) {a b : Nat → Int} (h : ∀ i, i < (f 0).toNat → a i = b i) : wellB f d a = wellB f d b := by
  have e1 : shR f d (f 2).toNat (wkF f a) = shR f d (f 2).toNat (wkF f b) := shR_cut h0.2 (fun k hk => by
    unfold wkF
    rw [h k (by omega)])
  unfold wellB
  rw [e1, anyN_congr (g := fun k => decide (0 < b k) && decide (99 < f (11 + k) + b k * f (35 + k))) (fun i hi => by rw [h i hi])]
theorem wellB_room {f r w : Nat → Int} {d : Int} (h0 : 0 ≤ f 0 ∧ f 0 ≤ 8) (h1 : ∀ k : Nat, (k : Int) < f 0 → w k = f (11 + k) + r k * f (35 + k) ∧ w k ≤ 99) : wellB f d r = decide (shR f d (f 2).toNat w = 0) := by
  have e1 : shR f d (f 2).toNat (wkF f r) = shR f d (f 2).toNat w := shR_cut h0.2 (fun k hk => by
    unfold wkF
    rw [if_pos hk, (h1 k hk).1])
  have e2 : anyN (fun k => decide (0 < r k) && decide (99 < f (11 + k) + r k * f (35 + k))) (f 0).toNat = false := by
    cases q : anyN (fun k => decide (0 < r k) && decide (99 < f (11 + k) + r k * f (35 + k))) (f 0).toNat
    · rfl
    · obtain ⟨k, hk, hq⟩ := anyN_ex q
      rw [Bool.and_eq_true, decide_eq_true_eq, decide_eq_true_eq] at hq
      obtain ⟨a, b⟩ := h1 k (by omega)
      omega
  unfold wellB
  rw [e1, e2]
  rfl
theorem wellB_full {f r : Nat → Int} {d : Int} {k : Nat} (hk : (k : Int) < f 0) (h0 : 0 ≤ f 0) (hr : 0 ≤ r k) (ht : f (11 + k) ≤ 99) (h : 99 < f (11 + k) + r k * f (35 + k)) : wellB f d r = false := by
  have e2 : anyN (fun k => decide (0 < r k) && decide (99 < f (11 + k) + r k * f (35 + k))) (f 0).toNat = true := anyN_of (k := k) (by omega) (by
    rw [Bool.and_eq_true, decide_eq_true_eq, decide_eq_true_eq]
    refine ⟨?_, h⟩
    by_cases z : r k = 0
    · rw [z, Int.zero_mul] at h; omega
    · omega)
  unfold wellB
  rw [e2]
  rfl
/-- what bags a day needs: how many, and of which kinds -/
def neF (f : Nat → Int) (d : Int) : Int × (Nat → Int) := neLoop (fun b r => fbR (wellB f d) ((f 0).toNat - 1) 0 b r) 5 0 (fun _ => 0)
theorem run_ne {f : Nat → Int} {d : Int} (h0 : 1 ≤ f 0 ∧ f 0 ≤ 8) (base : Nat → Int) (hb : ∀ i, i < 8 → base i = 0) : (runR (wellB f d) (f 0).toNat base 1000000 0 (hdR (f 0).toNat 0 0 base)).1 = (neF f d).1 ∧ ((neF f d).1 ≠ -2 → ∀ i, i < (f 0).toNat → (runR (wellB f d) (f 0).toNat base 1000000 0 (hdR (f 0).toNat 0 0 base)).2 i = (neF f d).2 i) := by
  obtain ⟨a1, a2⟩ := run_all (wellB f d) base (n := (f 0).toNat) (by omega) base (fun _ _ => rfl)
  obtain ⟨b1, b2⟩ := ne_cong (good := wellB f d) (n := (f 0).toNat) (fun a b h => wellB_cong (by omega) h) ((f 0).toNat - 1) 5 0 base (fun _ => 0) (fun i hi => hb i (by omega))
  refine ⟨a1.trans b1, fun q i hi => ?_⟩
  rw [a2 (by rw [b1]; exact q)]
  exact b2 i hi
