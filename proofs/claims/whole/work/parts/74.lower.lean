/-! a day lived with some pieces of one kind fewer: as far as they are spare it has the same short sales -/
theorem takR_lex {v c : Nat → Nat} : ∀ {n a : Nat} {r : Nat → Nat}, sumV r v n = a → ((sumC r n : Nat) : Int) = fewT v c n a → fewT v c n a < 1000000 → (∀ i, i < n → r i ≤ c i) → lexGe n (takR v c n a) r
  | 0, _, _, _, _, _, _ => trivial
  | n + 1, a, r, hV, hC, hf, hc => by
    have hV' : sumV r v n + r n * v n = a := hV
    have hC' : ((sumC r n + r n : Nat) : Int) = fewT v c (n + 1) a := hC
    have q1 := fewT_least (v := v) (c := c) (n := n) (a := a - r n * v n) (r := r) (fun i hi => hc i (by omega)) (by omega)
    have q2 := winF_le (f := fewT v c n) (v := v n) (a := a) (c := c n) (z := r n) (hc n (by omega)) (by omega)
    have e : fewT v c (n + 1) a = min 1000000 (winF (fewT v c n) (v n) a (c n)) := rfl
    have q3 : fewT v c n (a - r n * v n) + r n = fewT v c (n + 1) a := by omega
    have q4 := lastZ_ex (P := fun z => decide (z * v n ≤ a ∧ fewT v c n (a - z * v n) + z = fewT v c (n + 1) a)) (hc n (by omega)) (decide_eq_true ⟨by omega, q3⟩)
    have q5 : r n ≤ takZ v c n a := q4.2
    have en : takR v c (n + 1) a n = takZ v c n a := if_pos rfl
    show r n < takR v c (n + 1) a n ∨ r n = takR v c (n + 1) a n ∧ lexGe n (takR v c (n + 1) a) r
    rw [en]
    by_cases g : r n < takZ v c n a
    · exact Or.inl g
    · have ge : r n = takZ v c n a := by omega
      refine Or.inr ⟨ge, ?_⟩
      have el : ∀ i, i < n → takR v c n (a - r n * v n) i = takR v c (n + 1) a i := fun i hi => by
        have e2 : takR v c (n + 1) a i = takR v c n (a - takZ v c n a * v n) i := if_neg (by omega)
        rw [e2, ge]
      exact lexGe_congr el (fun _ _ => rfl) (takR_lex (n := n) (a := a - r n * v n) (r := r) (by omega) (by omega) (by omega) (fun i hi => hc i (by omega)))
theorem few_sub {v c c2 : Nat → Nat} {n a : Nat} (hc : ∀ i, i < n → c2 i ≤ c i) : fewT v c n a ≤ fewT v c2 n a := by
  have b1 := fewT_bd v c n a
  have b2 := fewT_bd v c2 n a
  by_cases g : fewT v c2 n a < 1000000
  · obtain ⟨r1, r2, r3⟩ := takR_rep g
    have q := fewT_least (v := v) (c := c) (n := n) (a := a) (r := takR v c2 n a) (fun i hi => Nat.le_trans (r3 i hi) (hc i hi)) r1
    omega
  · omega
theorem few_same {v c c2 : Nat → Nat} {n a : Nat} (hc : ∀ i, i < n → c2 i ≤ c i) (hf : fewT v c n a < 1000000) (ht : ∀ i, i < n → takR v c n a i ≤ c2 i) : fewT v c2 n a = fewT v c n a ∧ ∀ i, i < n → takR v c2 n a i = takR v c n a i := by
  obtain ⟨r1, r2, r3⟩ := takR_rep hf
  have q1 := few_sub (v := v) (a := a) hc
  have q2 := fewT_least (v := v) (c := c2) (n := n) (a := a) (r := takR v c n a) ht r1
  have e : fewT v c2 n a = fewT v c n a := by omega
  refine ⟨e, ?_⟩
  refine takR_is r1 (by omega) (by omega) ht (fun r h1 h2 h3 => ?_)
  exact takR_lex h1 (by omega) hf (fun i hi => Nat.le_trans (h3 i hi) (hc i hi))
theorem sum_one {g : Nat → Int} {k : Nat} : ∀ {n : Nat}, k < n → (∀ i, i < n → i ≠ k → g i = 0) → sumN g n = g k
  | n + 1, hk, h => by
    show sumN g n + g n = g k
    by_cases e : k = n
    · subst e
      rw [sumN_z _ (fun i hi => h i (by omega) (by omega)), Int.zero_add]
    · rw [sum_one (n := n) (by omega) (fun i hi => h i (by omega)), h n (by omega) (by omega), Int.add_zero]
theorem low_step {f w w2 : Nat → Int} {s k : Nat} {e : Int} {sp : Nat → Int} (hG : GR f) (hs : (s : Int) < f 2) (hk : (k : Int) < f 0) (he : 0 ≤ e) (hw : ∀ i, i < 8 → w2 i = if i = k then w i - e else w i) (hb : ∀ i, i < 8 → 0 ≤ w i ∧ w i ≤ 99) (h0 : e ≤ w k) (hsp : e ≤ spS f w s sp k) : shortS f w2 s = shortS f w s ∧ ∀ i, i < 8 → rowS f w2 s i = if i = k then rowS f w s i - e else rowS f w s i := by
  have g0 := hG.1
  have g7 := (hG.2.2.2.2.2.2.2.1 s hs).2.2.1
  have hst : ∀ i, i < 8 → stk f w2 s i = if i = k then stk f w s i - e else stk f w s i := fun i hi => by
    unfold stk
    rw [hw i hi]
    by_cases y : (i : Int) < f 0
    · rw [if_pos y, if_pos y]; by_cases z : i = k
      · rw [if_pos z, if_pos z]; omega
      · rw [if_neg z, if_neg z]
    · rw [if_neg y, if_neg y]
  have hst0 : ∀ i, i < 8 → 0 ≤ stk f w s i ∧ w i ≤ stk f w s i := fun i hi => by
    have a := hb i hi
    have b := g7 i hi
    unfold stk
    split <;> omega
  have hsub : ∀ i, i < (f 0).toNat → (stk f w2 s i).toNat ≤ (stk f w s i).toNat := fun i hi => by
    rw [hst i (by omega)]
    by_cases z : i = k
    · rw [if_pos z]; omega
    · rw [if_neg z]; exact Nat.le_refl _
  have hbd := fewT_bd (valF f) (fun i => (stk f w s i).toNat) (f 0).toNat (abvS f s).toNat
  have hbd2 := fewT_bd (valF f) (fun i => (stk f w2 s i).toNat) (f 0).toNat (abvS f s).toNat
  have hle : fewS f w s ≤ fewS f w2 s := few_sub hsub
  by_cases hF : fewS f w s = 1000000
  · have hF2 : fewS f w2 s = 1000000 := by
      have : fewS f w2 s ≤ 1000000 := hbd2.2
      omega
    have s1 : shortS f w s = true := by unfold shortS; rw [decide_eq_true hF, Bool.true_or]
    have s2 : shortS f w2 s = true := by unfold shortS; rw [decide_eq_true hF2, Bool.true_or]
    refine ⟨by rw [s1, s2], fun i hi => ?_⟩
    unfold rowS
    rw [if_pos s1, if_pos s2]
    exact hw i hi
  · have hFl : fewS f w s < 1000000 := by
      have : fewS f w s ≤ 1000000 := hbd.2
      omega
    have hmin : e ≤ behS f w s k ∧ (fullS f w s = 1 ∧ 100 ≤ behS f w s k → e ≤ behS f w s k - 100) := by
      unfold spS at hsp
      rw [if_neg hF, if_pos hk] at hsp
      by_cases y : fullS f w s = 1 ∧ 100 ≤ behS f w s k
      · rw [if_pos y] at hsp
        exact ⟨by omega, fun _ => by omega⟩
      · rw [if_neg y] at hsp
        exact ⟨by omega, fun z => absurd z y⟩
    obtain ⟨hm1, hm2⟩ := hmin
    have htb : ∀ i, i < (f 0).toNat → takR (valF f) (fun i => (stk f w s i).toNat) (f 0).toNat (abvS f s).toNat i ≤ (stk f w2 s i).toNat := fun i hi => by
      have a := takR_le (valF f) (fun i => (stk f w s i).toNat) (f 0).toNat (abvS f s).toNat i hi
      rw [hst i (by omega)]
      by_cases z : i = k
      · subst z
        rw [if_pos rfl]
        have d : behS f w s i = stk f w s i - (takR (valF f) (fun i => (stk f w s i).toNat) (f 0).toNat (abvS f s).toNat i : Nat) := rfl
        omega
      · rw [if_neg z]; exact a
    obtain ⟨e1, e2⟩ := few_same hsub hFl htb
    have hF2 : fewS f w2 s = fewS f w s := e1
    have ht2 : ∀ i, i < (f 0).toNat → takS f w2 s i = takS f w s i := fun i hi => by
      unfold takS
      rw [e2 i hi]
    have hbe : ∀ i, i < (f 0).toNat → behS f w2 s i = if i = k then behS f w s i - e else behS f w s i := fun i hi => by
      unfold behS
      rw [ht2 i hi, hst i (by omega)]
      by_cases z : i = k
      · rw [if_pos z, if_pos z]; omega
      · rw [if_neg z, if_neg z]
    have hov : ∀ w : Nat → Int, ∀ i, overS f w s i = decide (99 < behS f w s i) := fun _ _ => rfl
    have hany : anyN (overS f w2 s) (f 0).toNat = anyN (overS f w s) (f 0).toNat := by
      cases h1 : anyN (overS f w s) (f 0).toNat
      · cases h2 : anyN (overS f w2 s) (f 0).toNat
        · rfl
        · obtain ⟨i, hi, h3⟩ := anyN_ex h2
          rw [hov, decide_eq_true_eq, hbe i hi] at h3
          have h4 : overS f w s i = true := by
            rw [hov, decide_eq_true_eq]
            by_cases z : i = k
            · rw [if_pos z] at h3; omega
            · rw [if_neg z] at h3; exact h3
          rw [anyN_of hi h4] at h1
          exact absurd h1 (by decide)
      · obtain ⟨i, hi, h3⟩ := anyN_ex h1
        by_cases hx : ∃ j, j < (f 0).toNat ∧ j ≠ k ∧ overS f w s j = true
        · obtain ⟨j, hj, hjk, h4⟩ := hx
          refine anyN_of hj ?_
          rw [hov, decide_eq_true_eq] at h4 ⊢
          rw [hbe j hj, if_neg hjk]
          exact h4
        · have hik : i = k := by
            by_cases z : i = k
            · exact z
            · exact absurd ⟨i, hi, z, h3⟩ hx
          subst hik
          have h5 := h3
          rw [hov, decide_eq_true_eq] at h5
          have hfull : fullS f w s = 1 := by
            unfold fullS
            have q := sum_one (g := fun k => if 100 ≤ behS f w s k then (1 : Int) else 0) (k := i) hi (fun j hj hjk => by
              have z : ¬ overS f w s j = true := fun y => hx ⟨j, hj, hjk, y⟩
              rw [hov, decide_eq_true_eq] at z
              exact if_neg (by omega))
            rw [q]
            exact if_pos (by omega)
          have h6 := hm2 ⟨hfull, by omega⟩
          refine anyN_of hi ?_
          rw [hov, decide_eq_true_eq, hbe i hi, if_pos rfl]
          omega
    have hsh : shortS f w2 s = shortS f w s := by
      unfold shortS
      rw [hF2, hany]
    refine ⟨hsh, fun i hi => ?_⟩
    unfold rowS
    rw [hsh]
    by_cases h1 : shortS f w s = true
    · rw [if_pos h1, if_pos h1]; exact hw i hi
    · rw [if_neg h1, if_neg h1]
      by_cases h2 : (i : Int) < f 0
      · rw [if_pos h2, if_pos h2]
        exact hbe i (by omega)
      · rw [if_neg h2, if_neg h2]; exact hw i hi
theorem spS_le (f w : Nat → Int) (s : Nat) (sp : Nat → Int) (k : Nat) : spS f w s sp k ≤ sp k := by
  unfold spS
  split
  · exact Int.le_refl _
  · split
    · exact Int.min_le_left _ _
    · exact Int.le_refl _
theorem low_blk {f w w2 low : Nat → Int} {k a : Nat} {e : Int} {sp : Nat → Int} (hG : GR f) (hk : (k : Int) < f 0) (he : 0 ≤ e) (hw : ∀ i, i < 8 → w2 i = if i = k then w i - e else w i) (hb : ∀ i, i < 8 → 0 ≤ w i ∧ w i ≤ 99) (h0 : e ≤ w k) : ∀ i : Nat, (a : Int) + i ≤ f 2 → e ≤ spF f a (life0 w low) sp i k → (blkF f a (life0 w2 low) i).2.2.1 = (blkF f a (life0 w low) i).2.2.1 ∧ ∀ j, j < 8 → (blkF f a (life0 w2 low) i).1 j = if j = k then (blkF f a (life0 w low) i).1 j - e else (blkF f a (life0 w low) i).1 j
  | 0, _, _ => ⟨rfl, hw⟩
  | i + 1, hi, hsp => by
    have g0 := hG.1
    have hsp2 : e ≤ spS f (blkF f a (life0 w low) i).1 (a + i) (spF f a (life0 w low) sp i) k := hsp
    have hle := spS_le f (blkF f a (life0 w low) i).1 (a + i) (spF f a (life0 w low) sp i) k
    obtain ⟨i1, i2⟩ := low_blk (low := low) (sp := sp) (a := a) hG hk he hw hb h0 i (by omega) (by omega)
    have hb2 : ∀ j, j < 8 → 0 ≤ w2 j ∧ w2 j ≤ 99 := fun j hj => by
      have := hb j hj
      rw [hw j hj]
      by_cases z : j = k
      · subst z; rw [if_pos rfl]; omega
      · rw [if_neg z]; exact this
    have b1 := (blk_LI (a := a) hG (LI.start (low := low) hb) i (by omega)).1.1.1
    have b2 := (blk_LI (a := a) hG (LI.start (low := low) hb2) i (by omega)).1.1.1
    have b2k := (b2 k (by omega)).1
    rw [i2 k (by omega), if_pos rfl] at b2k
    obtain ⟨s1, s2⟩ := low_step (sp := spF f a (life0 w low) sp i) hG (by omega : ((a + i : Nat) : Int) < f 2) hk he i2 b1 (by omega) hsp2
    refine ⟨?_, s2⟩
    have e1 : ∀ L : LfS, (lifeS f (a + i) L).2.2.1 = L.2.2.1 + (if shortS f L.1 (a + i) = true then 1 else 0) := fun _ => rfl
    rw [blkF_s, blkF_s, e1, e1, i1, s1]
/-- the day from a row with so many of a kind fewer has as many short sales, as far as they are spare -/
theorem low_day {f w w2 : Nat → Int} {d : Int} {k : Nat} {e : Int} (hG : GR f) (hd : 0 ≤ d) (hk : (k : Int) < f 0) (he : 0 ≤ e) (hw : ∀ i, i < 8 → w2 i = if i = k then w i - e else w i) (hb : ∀ i, i < 8 → 0 ≤ w i ∧ w i ≤ 99) (h0 : e ≤ w k) (hsp : e ≤ spF f (dayA f d).toNat (life0 w (fun _ => 0)) w (dayC f d).toNat k) : shR f d (f 2).toNat w2 = shR f d (f 2).toNat w := by
  obtain ⟨d1, d2, d3, _⟩ := day_iff hG hd
  unfold shR
  rw [day_life hG hd, day_life hG hd]
  exact (low_blk (low := fun _ => 0) (sp := w) hG hk he hw hb h0 _ (by omega) hsp).1
theorem rput_rput (w : Nat → Int) (k : Nat) (x y : Int) : rput (rput w k x) k y = rput w k y := by
  funext i
  unfold rput
  by_cases z : i = k
  · rw [if_pos z, if_pos z]
  · rw [if_neg z, if_neg z, if_neg z]
theorem rput_self (w : Nat → Int) (k : Nat) : rput w k (w k) = w := by
  funext i
  unfold rput
  by_cases z : i = k
  · rw [if_pos z, z]
  · rw [if_neg z]
theorem rput_at (w : Nat → Int) (k : Nat) (x : Int) : rput w k x k = x := if_pos rfl
theorem trimK_jump {f w : Nat → Int} {d most : Int} {k : Nat} (hG : GR f) (hd : 0 ≤ d) (hk : (k : Int) < f 0) (hb : ∀ i, i < 8 → 0 ≤ w i ∧ w i ≤ 99) (hm : shR f d (f 2).toNat w ≤ most) : ∀ e : Nat, (e : Int) ≤ w k → (e : Int) ≤ spF f (dayA f d).toNat (life0 w (fun _ => 0)) w (dayC f d).toNat k → trimK f d (f 2).toNat most k (w k).toNat w = trimK f d (f 2).toNat most k (w k - e).toNat (rput w k (w k - e))
  | 0, _, _ => by
    rw [show w k - ((0 : Nat) : Int) = w k by omega, rput_self]
  | e + 1, h1, h2 => by
    rw [trimK_jump hG hd hk hb hm e (by omega) (by omega), show (w k - (e : Int)).toNat = (w k - ((e + 1 : Nat) : Int)).toNat + 1 by omega, trimK_s, rput_at, rput_rput, show w k - (e : Int) - 1 = w k - ((e + 1 : Nat) : Int) by omega]
    have q := low_day (w2 := rput w k (w k - ((e + 1 : Nat) : Int))) hG hd hk (by omega : (0 : Int) ≤ ((e + 1 : Nat) : Int)) (fun i hi => by
      unfold rput
      by_cases z : i = k
      · rw [if_pos z, if_pos z, z]
      · rw [if_neg z, if_neg z]) hb h1 h2
    rw [if_pos (by rw [q]; exact hm)]
theorem trimK_sh {f : Nat → Int} {d most : Int} {n2 k : Nat} : ∀ (F : Nat) {w : Nat → Int}, shR f d n2 w ≤ most → shR f d n2 (trimK f d n2 most k F w) ≤ most
  | 0, _, h => h
  | F + 1, w, h => by
    rw [trimK_s]
    by_cases g : shR f d n2 (rput w k (w k - 1)) ≤ most
    · rw [if_pos g]; exact trimK_sh F g
    · rw [if_neg g]; exact h
theorem shR_congr {f w w2 : Nat → Int} {d : Int} {n2 : Nat} (hN : f 0 ≤ 8) (h : ∀ k, k < 8 → w k = w2 k) : shR f d n2 w = shR f d n2 w2 := by
  unfold shR
  rw [(lifeN_congr hN h n2).2.2]
theorem trimK_congr {f : Nat → Int} {d most : Int} {n2 k : Nat} (hN : f 0 ≤ 8) (hk : k < 8) : ∀ (F : Nat) {w w2 : Nat → Int}, (∀ i, i < 8 → w i = w2 i) → ∀ i, i < 8 → trimK f d n2 most k F w i = trimK f d n2 most k F w2 i
  | 0, _, _, h => h
  | F + 1, w, w2, h => by
    have hr : ∀ i, i < 8 → rput w k (w k - 1) i = rput w2 k (w2 k - 1) i := fun i hi => by
      unfold rput
      rw [h k hk, h i hi]
    intro i hi
    rw [trimK_s, trimK_s, shR_congr (d := d) (n2 := n2) hN hr]
    by_cases g : shR f d n2 (rput w2 k (w2 k - 1)) ≤ most
    · rw [if_pos g, if_pos g]; exact trimK_congr hN hk F hr i hi
    · rw [if_neg g, if_neg g]; exact h i hi
theorem trimA_congr {f : Nat → Int} {d most : Int} {n2 : Nat} (hN : f 0 ≤ 8) : ∀ (n : Nat) {w w2 : Nat → Int}, n ≤ 8 → (∀ i, i < 8 → w i = w2 i) → ∀ i, i < 8 → trimA f d n2 most n w i = trimA f d n2 most n w2 i
  | 0, _, _, _, h => h
  | n + 1, w, w2, hn, h => by
    show ∀ i, i < 8 → trimA f d n2 most n (trimK f d n2 most n (w n).toNat w) i = trimA f d n2 most n (trimK f d n2 most n (w2 n).toNat w2) i
    rw [h n (by omega)]
    exact trimA_congr hN n (by omega) (trimK_congr hN (by omega) _ h)
