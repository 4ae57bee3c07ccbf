/-! rows of now changed, on both sides; what is above its limit banked -/
theorem GR.rows {f f2 : Nat → Int} (hG : GR f) (e : ∀ j : Nat, (j < 11 ∨ 59 ≤ j) → f2 j = f j) (hb : ∀ r : Nat, r < 5 → ∀ k : Nat, k < 8 → 0 ≤ f2 (11 + 8 * r + k) ∧ f2 (11 + 8 * r + k) ≤ 99) (hbag : ∀ i : Nat, (i : Int) < f 0 → 1 ≤ f2 (35 + i)) (ht : sumN (fun k => f2 (43 + k)) (f 0).toNat ≤ 5) : GR f2 := by
  obtain ⟨g0, g1, g2, g3, g4, g5, g6, g7, g8, g9⟩ := hG
  have e0 := e 0 (by omega)
  have e1 := e 1 (by omega)
  have e2 := e 2 (by omega)
  have eD : ∀ s, sDay f2 s = sDay f s := fun s => e _ (by omega)
  have eP : ∀ s, sPrice f2 s = sPrice f s := fun s => e _ (by omega)
  have eG : ∀ s k, sGiven f2 s k = sGiven f s k := fun s k => e _ (by omega)
  refine ⟨by rw [e0]; exact g0, by rw [e1]; exact g1, by rw [e2]; exact g2, fun i hi => by rw [e _ (by omega)]; exact g3 i hi, fun i hi => ?_, hb, fun i hi => hbag i (by rw [← e0]; exact hi), fun s hs => ?_, fun s hs => by rw [eD, eD]; exact g8 s (by rw [← e2]; exact hs), by rw [e0]; exact ht⟩
  · rw [e0] at hi
    rw [e _ (by omega)]
    exact g4 i hi
  · rw [e2] at hs
    obtain ⟨a1, a2, a3, a4⟩ := g7 s hs
    have eA : abvS f2 s = abvS f s := by
      unfold abvS
      rw [e0, eP, sumN_congr (g := fun k => sGiven f s k * f (3 + k)) (fun k hk => by rw [eG, e (3 + k) (by omega)])]
    rw [eD, eP, eA, e1]
    exact ⟨a1, a2, fun k hk => by rw [eG]; exact a3 k hk, a4⟩
theorem RI.rows {n : Int} {f f2 : Nat → Int} (h : RI n f) (hG : GR f2) (e : ∀ j : Nat, (j < 11 ∨ 59 ≤ j) → f2 j = f j) (hs : ∀ k : Nat, k < 8 → 0 ≤ f2 (51 + k) ∧ f2 (51 + k) ≤ f (51 + k) + 99) : RI (n + 1) f2 := by
  obtain ⟨h1, h2, h3, h4⟩ := h
  have g2 := h1.2.2.1
  refine ⟨hG, by rw [e 0 (by omega), e 1 (by omega)]; exact h2, fun j hj => ?_, fun k hk => ?_⟩
  · rw [e 2 (by omega)] at hj
    rw [e j (by omega)]
    exact h3 j hj
  · have := h4 k hk
    have := hs k hk
    omega
theorem RS.rows {m mv : Mem} {b : Nat} {f f2 : Nat → Int} (h : RS m b f) (e : ∀ j : Nat, (j < 3 ∨ 59 ≤ j) → f2 j = f j) (hb : mv b = m b) (h8 : ∀ c, b + 8 ≤ c → c ≤ b + 10 → mv c = m c) (hr : ∀ r : Nat, r < 7 → ∀ k : Nat, k < 8 → mv (b + 1 + r) k = f2 (3 + 8 * r + k)) : RS mv b f2 := by
  obtain ⟨r1, r2, r3, r4, r5⟩ := h
  refine ⟨by rw [hb, e 0 (by omega)]; exact r1, by rw [hb, e 1 (by omega)]; exact r2, hr, fun s hs => ?_, fun d hd => ?_⟩
  · rw [e 2 (by omega)] at hs
    have a1 : sPrice f2 s = sPrice f s := e _ (by omega)
    have a2 : ∀ k, sGiven f2 s k = sGiven f s k := fun k => e _ (by omega)
    rw [h8 _ (by omega) (by omega), h8 _ (by omega) (by omega), a1]
    exact ⟨(r4 s hs).1, fun k hk => by rw [a2]; exact (r4 s hs).2 k hk⟩
  · rw [e 1 (by omega)] at hd
    rw [h8 _ (by omega) (by omega), r5 d hd]
    unfold endF
    rw [e 2 (by omega)]
    exact sumN_congr (fun s _ => by rw [show sDay f2 s = sDay f s from e _ (by omega)])
/-- an act after which now's rows are others -/
theorem CR.rows {n : Int} {m0 m1 mp mv : Mem} {f2 : Nat → Int} (h : CR n m0) (c1 : ∀ c, c < 179 → (c < 22 ∨ 29 ≤ c) → m1 c = remM m0 c) (hCI : CI m1) (d3 : PastPush m1 mp) (d4 : ∀ a, a ≠ 1 → mv a = mp a) (hf : mv 1 = f2) (hr : ∀ r : Nat, r < 7 → ∀ k : Nat, k < 8 → m1 (22 + r) k = f2 (3 + 8 * r + k)) (hG : GR f2) (e : ∀ j : Nat, (j < 11 ∨ 59 ≤ j) → f2 j = m0 1 j) (hs : ∀ k : Nat, k < 8 → 0 ≤ f2 (51 + k) ∧ f2 (51 + k) ≤ m0 1 (51 + k) + 99) : CR (n + 1) mv := by
  obtain ⟨hRI, hRS⟩ := h.2.2.1
  have far : ∀ c, c ≠ 20 → (c < 43 ∨ 153 ≤ c) → remM m0 c = m0 c := fun c a b => remM_far h.2.2.2.2.1 a b
  have hi : ∀ c, 20 ≤ c → mv c = m1 c := fun c hc => by rw [d4 c (by omega), d3.1 c (by omega) (by omega)]
  refine h.act (m1 := m1) (mr := m1) (mp := mp) (fun c a b => c1 c a (by omega)) (fun j => by rw [c1 20 (by decide) (by decide)]) hCI (fun _ _ _ => rfl) rfl rfl rfl (fun _ _ => rfl) d3 (fun a a2 _ => d4 a (by omega)) (by rw [d4 0 (by decide)]) (by rw [d4 0 (by decide)]) (by rw [d4 0 (by decide)]) ⟨?_, ?_⟩
  · rw [hf]
    exact hRI.rows hG e hs
  · rw [hf]
    refine hRS.rows (fun j hj => e j (by omega)) ?_ (fun c a b => ?_) (fun r hr7 k hk => ?_)
    · rw [hi 21 (by decide), c1 21 (by decide) (by decide), far 21 (by decide) (by decide)]
    · rw [hi c (by omega), c1 c (by omega) (by omega), far c (by omega) (by omega)]
    · rw [hi _ (by omega), show 21 + 1 + r = 22 + r by omega]
      exact hr r hr7 k hk
theorem CR.bank {n : Int} {m0 m1 mv : Mem} {z y : Int} (h : CR n m0)
    (hc : m0 21 0 = 0 ∧ z = -1 ∧ m1 = m0 ∨ m0 21 0 ≠ 0 ∧ (sumN (abvC m0) (m0 21 0).toNat = 0 ∧ z = -2 ∧ m1 = m0 ∨ sumN (abvC m0) (m0 21 0).toNat ≠ 0 ∧ z = sumN (abvC m0) (m0 21 0).toNat ∧ m1 = bankC (remM m0) (m0 21 0).toNat))
    (hr : m1 1 0 = 0 ∧ y = -1 ∧ mv = m1 ∨ m1 1 0 ≠ 0 ∧ (sumN (abv m1) (m1 1 0).toNat = 0 ∧ y = -2 ∧ mv = m1 ∨ sumN (abv m1) (m1 1 0).toNat ≠ 0 ∧ y = sumN (abv m1) (m1 1 0).toNat ∧ ∃ mp, PastPush m1 mp ∧ mv = bankM mp (m1 1 0).toNat)) : z = y ∧ CR (n + 1) mv := by
  obtain ⟨hRI, hRS⟩ := h.2.2.1
  have g0 := hRI.1.1
  have e0 : m0 21 0 = m0 1 0 := hRS.1
  have far : ∀ c, c ≠ 20 → (c < 43 ∨ 153 ≤ c) → remM m0 c = m0 c := fun c a b => remM_far h.2.2.2.2.1 a b
  have bo : ∀ c, c ≠ 23 → c ≠ 28 → bankC (remM m0) (m0 21 0).toNat c = remM m0 c := fun c a b => by
    funext j
    unfold bankC
    rw [if_neg (by omega), if_neg (by omega)]
  have e11 : m1 1 = m0 1 := by
    rcases hc with ⟨_, _, q⟩ | ⟨_, ⟨_, _, q⟩ | ⟨_, _, q⟩⟩
    · rw [q]
    · rw [q]
    · rw [q, bo 1 (by decide) (by decide), far 1 (by decide) (by decide)]
  have eA : ∀ k, k < 8 → abvC m0 k = abv m0 k := fun k hk => by
    have q := hRS.2.2.1 1 (by omega) k hk
    have q2 := hRS.2.2.1 3 (by omega) k hk
    unfold abvC abv
    rw [show m0 23 k = m0 1 (11 + k) by rw [show 11 + k = 3 + 8 * 1 + k by omega]; exact q, show m0 25 k = m0 1 (27 + k) by rw [show 27 + k = 3 + 8 * 3 + k by omega]; exact q2]
  have eA1 : ∀ k, abv m1 k = abv m0 k := fun k => by unfold abv; rw [e11]
  have eS : sumN (abvC m0) (m0 1 0).toNat = sumN (abv m1) (m0 1 0).toNat := sumN_congr (fun k hk => by rw [eA1, eA k (by omega)])
  rw [e11] at hr
  rw [e0] at hc bo
  rw [eS] at hc
  rcases hc with ⟨a1, a2, a3⟩ | ⟨a1, ac⟩
  · rcases hr with ⟨_, b2, b3⟩ | ⟨b1, _⟩
    · refine ⟨by rw [a2, b2], ?_⟩
      rw [b3, a3]
      exact h.mono (by omega)
    · exact absurd a1 b1
  · rcases hr with ⟨b1, _⟩ | ⟨_, br⟩
    · exact absurd b1 a1
    rcases ac with ⟨c1, c2, c3⟩ | ⟨c1, c2, c3⟩
    · rcases br with ⟨_, d2, d3⟩ | ⟨d1, _⟩
      · refine ⟨by rw [c2, d2], ?_⟩
        rw [d3, c3]
        exact h.mono (by omega)
      · exact absurd c1 d1
    · rcases br with ⟨d1, _⟩ | ⟨_, d2, mp, d3, d4⟩
      · exact absurd d1 c1
      refine ⟨by rw [c2, d2], ?_⟩
      have p1 : mp 1 = m0 1 := by rw [d3.1 1 (by decide) (by decide), e11]
      have eAp : ∀ k, abv mp k = abv m0 k := fun k => by unfold abv; rw [p1]
      have hv : ∀ b, mv 1 b = if 11 ≤ b ∧ b < 11 + (m0 1 0).toNat then m0 1 b - abv m0 (b - 11) else if 51 ≤ b ∧ b < 51 + (m0 1 0).toNat then m0 1 b + abv m0 (b - 51) else m0 1 b := fun b => by
        rw [d4]
        unfold bankM
        simp only [eAp, p1, true_and]
      have hA : ∀ k, k < 8 → 0 ≤ abv m0 k ∧ abv m0 k ≤ 99 ∧ abv m0 k ≤ m0 1 (11 + k) := fun k hk => by
        have b1 := hRI.1.2.2.2.2.2.1 0 (by omega) k hk
        have b2 := hRI.1.2.2.2.2.2.1 2 (by omega) k hk
        rw [show 11 + 8 * 0 + k = 11 + k by omega] at b1
        rw [show 11 + 8 * 2 + k = 27 + k by omega] at b2
        unfold abv
        omega
      have hAr : ∀ k, k < 8 → abvC (remM m0) k = abv m0 k := fun k hk => by
        rw [← eA k hk]
        unfold abvC
        rw [far 23 (by decide) (by decide), far 25 (by decide) (by decide)]
      refine h.rows (m1 := m1) (f2 := mv 1) (fun c a b => by rw [c3]; exact bo c (by omega) (by omega)) (h.2.2.2.1.congr (fun a a1 a2 _ _ => by rw [c3, bo a (by omega) (by omega), far a (by omega) (by omega)])) d3 (fun a ha => by
        rw [d4]
        funext b
        unfold bankM
        rw [if_neg (by omega), if_neg (by omega)]) rfl (fun r hr7 k hk => ?_) ?_ (fun j hj => ?_) (fun k hk => ?_)
      · have q := hRS.2.2.1 r hr7 k hk
        rw [show 21 + 1 + r = 22 + r by omega] at q
        rw [c3, hv]
        by_cases r1 : r = 1 ∧ k < (m0 1 0).toNat
        · rw [if_pos (by omega)]
          unfold bankC
          rw [if_pos (by omega), hAr k hk, far 23 (by decide) (by decide), show 3 + 8 * r + k - 11 = k by omega, ← q, show 22 + r = 23 by omega]
        · rw [if_neg (by omega)]
          by_cases r6 : r = 6 ∧ k < (m0 1 0).toNat
          · rw [if_pos (by omega)]
            unfold bankC
            rw [if_neg (by omega), if_pos (by omega), hAr k hk, far 28 (by decide) (by decide), show 3 + 8 * r + k - 51 = k by omega, ← q, show 22 + r = 28 by omega]
          · rw [if_neg (by omega)]
            unfold bankC
            rw [if_neg (by omega), if_neg (by omega), far (22 + r) (by omega) (by omega)]
            exact q
      · refine hRI.1.rows (fun j hj => by rw [hv, if_neg (by omega), if_neg (by omega)]) (fun r hr5 k hk => ?_) (fun i hi => ?_) ?_
        · have b := hRI.1.2.2.2.2.2.1 r hr5 k hk
          have hk8 := hA k hk
          rw [hv]
          by_cases r0 : r = 0 ∧ k < (m0 1 0).toNat
          · rw [if_pos (by omega), show 11 + 8 * r + k - 11 = k by omega]
            rw [show 11 + 8 * r + k = 11 + k by omega] at b ⊢
            omega
          · rw [if_neg (by omega), if_neg (by omega)]
            exact b
        · rw [hv, if_neg (by omega), if_neg (by omega)]
          exact hRI.1.2.2.2.2.2.2.1 i hi
        · rw [sumN_congr (g := fun k => m0 1 (43 + k)) (fun k hk => by rw [hv, if_neg (by omega), if_neg (by omega)])]
          exact hRI.1.2.2.2.2.2.2.2.2.2
      · rw [hv, if_neg (by omega), if_neg (by omega)]
      · have hk8 := hA k hk
        have b := hRI.2.2.2 k hk
        rw [hv, if_neg (by omega)]
        by_cases q : k < (m0 1 0).toNat
        · rw [if_pos (by omega), show 51 + k - 51 = k by omega]; omega
        · rw [if_neg (by omega)]; omega
