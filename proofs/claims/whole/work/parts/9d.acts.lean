/-! behind an act of both -/
theorem remM_far {n : Int} {m : Mem} (h : PastC n m) {c : Nat} (h20 : c ≠ 20) (hc : c < 43 ∨ 153 ≤ c) : remM m c = m c := by
  have p5 := h.1
  rw [remM_c h20, cpyS_ne (by unfold stB; omega)]
theorem CR.act {n : Int} {m0 m1 mr mp mv : Mem} (h : CR n m0) (c1 : ∀ c, c < 179 → (c < 20 ∨ 32 ≤ c) → m1 c = remM m0 c) (c20 : ∀ j, m1 20 j = remM m0 20 j) (hCI : CI m1) (r : ∀ a, 1 ≤ a → a ≤ 7 → mr a = m1 a) (r05 : mr 0 5 = m1 0 5) (r07 : mr 0 7 = m1 0 7) (r010 : mr 0 10 = m1 0 10) (rc : ∀ a, 20 ≤ a → mr a = m1 a) (hp : PastPush mr mp) (v : ∀ a, 2 ≤ a → (a ≤ 7 ∨ 20 ≤ a) → mv a = mp a) (v05 : mv 0 5 = mp 0 5) (v07 : mv 0 7 = mp 0 7) (v010 : mv 0 10 = mp 0 10) (hnow : NowC (n + 1) mv) : CR (n + 1) mv := by
  obtain ⟨h1, h2, h3, h4, h5, h6⟩ := h
  have q1 := hp.1
  have q0 := hp.2.1
  have far : ∀ c, c ≠ 20 → (c < 43 ∨ 153 ≤ c) → remM m0 c = m0 c := fun c a b => remM_far h5 a b
  have lo : ∀ a, 2 ≤ a → a ≤ 7 → a ≠ 3 → mv a = m0 a := fun a a1 a2 a3 => by rw [v a a1 (Or.inl a2), q1 a (by omega) a3, r a (by omega) a2, c1 a (by omega) (Or.inl (by omega)), far a (by omega) (by omega)]
  have hi : ∀ a, 20 ≤ a → mv a = m1 a := fun a ha => by rw [v a (by omega) (Or.inr ha), q1 a (by omega) (by omega), rc a ha]
  have e07 : mv 0 7 = m0 0 7 := by rw [v07, q0 7 (by decide), r07, c1 0 (by decide) (by decide), far 0 (by decide) (by decide)]
  have e010 : mv 0 10 = m0 0 10 := by rw [v010, q0 10 (by decide), r010, c1 0 (by decide) (by decide), far 0 (by decide) (by decide)]
  have hc : ∀ c, 32 ≤ c → c < 179 → mv c = remM m0 c := fun c a b => by rw [hi c (by omega), c1 c b (Or.inr a)]
  have h20 : ∀ j, mv 20 j = remM m0 20 j := fun j => by rw [hi 20 (by decide), c20 j]
  obtain ⟨x5, x6, xo⟩ := remM_20 m0
  refine ⟨h1.congr e07 (by rw [h20, xo 3 (by decide) (by decide)]) (lo 6 (by decide) (by decide) (by decide)) (by rw [hc 176 (by decide) (by decide), far 176 (by decide) (by decide)]), h2.congr e010 (lo 2 (by decide) (by decide) (by decide)) (lo 7 (by decide) (by decide) (by decide)), hnow, hCI.congr (fun a a1 a2 _ _ => hi a (by omega)), ?_, (h6.mono (by omega)).congr (by rw [h20, xo 8 (by decide) (by decide)]) (lo 4 (by decide) (by decide) (by decide)) (lo 5 (by decide) (by decide) (by decide)) (fun c c1 c2 => by rw [hc c (by omega) (by omega), far c (by omega) (by omega)])⟩
  have r1 : mr 1 = m0 1 := by rw [r 1 (by decide) (by decide), c1 1 (by decide) (by decide), far 1 (by decide) (by decide)]
  have r3 : mr 3 = m0 3 := by rw [r 3 (by decide) (by decide), c1 3 (by decide) (by decide), far 3 (by decide) (by decide)]
  have r5 : mr 0 5 = m0 0 5 := by rw [r05, c1 0 (by decide) (by decide), far 0 (by decide) (by decide)]
  exact (h5.push h3.1 h3.2 (fun c a b => hc c (by omega) (by omega)) (h20 5) (h20 6) hp r1 r3 r5 (v 3 (by decide) (by decide)) v05).mono (by omega)
theorem RI.cell {n : Int} {f f2 : Nat → Int} (h : RI n f) {j0 : Nat} (hj : 11 ≤ j0 ∧ j0 < 43) (e : ∀ j : Nat, j ≠ j0 → f2 j = f j) (hb : 0 ≤ f2 j0 ∧ f2 j0 ≤ 99) (hbag : 35 ≤ j0 → 1 ≤ f2 j0) : RI (n + 1) f2 := by
  obtain ⟨h1, h2, h3, h4⟩ := h
  have g2 := h1.2.2.1
  refine ⟨h1.cell hj e hb hbag, ?_, fun j hj2 => ?_, fun k hk => ?_⟩
  · rw [e 0 (by omega), e 1 (by omega)]; exact h2
  · rw [e 2 (by omega)] at hj2
    rw [e j (by omega)]; exact h3 j hj2
  · rw [e (51 + k) (by omega)]
    have := h4 k hk
    omega
theorem RS.cell {m mv : Mem} {b : Nat} {f f2 : Nat → Int} {r k : Nat} {v : Int} (h : RS m b f) (hr : r < 7) (hk : k < 8) (e : ∀ c j, b ≤ c → c ≤ b + 10 → mv c j = if c = b + 1 + r ∧ j = k then v else m c j) (e2 : ∀ j, f2 j = if j = 3 + 8 * r + k then v else f j) : RS mv b f2 := by
  obtain ⟨r1, r2, r3, r4, r5⟩ := h
  have o : ∀ j, (j < 3 ∨ 59 ≤ j) → f2 j = f j := fun j hj => by rw [e2, if_neg (by omega)]
  refine ⟨?_, ?_, fun r' hr' k' hk' => ?_, fun s hs => ?_, fun d hd => ?_⟩
  · rw [e b 0 (by omega) (by omega), if_neg (by omega), o 0 (by omega)]; exact r1
  · rw [e b 1 (by omega) (by omega), if_neg (by omega), o 1 (by omega)]; exact r2
  · rw [e _ _ (by omega) (by omega), e2]
    by_cases q : r' = r ∧ k' = k
    · rw [if_pos (by omega), if_pos (by omega)]
    · rw [if_neg (by omega), if_neg (by omega)]; exact r3 r' hr' k' hk'
  · rw [o 2 (by omega)] at hs
    have a1 : sPrice f2 s = sPrice f s := o _ (by omega)
    have a2 : ∀ k, sGiven f2 s k = sGiven f s k := fun k => o _ (by omega)
    rw [e _ _ (by omega) (by omega), if_neg (by omega), a1]
    exact ⟨(r4 s hs).1, fun k' hk' => by rw [e _ _ (by omega) (by omega), if_neg (by omega), a2]; exact (r4 s hs).2 k' hk'⟩
  · rw [o 1 (by omega)] at hd
    rw [e _ _ (by omega) (by omega), if_neg (by omega), r5 d hd]
    unfold endF
    rw [o 2 (by omega)]
    exact sumN_congr (fun s _ => by rw [show sDay f2 s = sDay f s from o _ (by omega)])
/-- put, on both sides -/
theorem CR.put {n : Int} {m0 m1 mv : Mem} {r k v z y : Int} (h : CR n m0)
    (hc : ¬ ((0 ≤ r ∧ r ≤ 3) ∧ (0 ≤ k ∧ k < m0 21 0) ∧ (if r = 3 then 1 else 0) ≤ v ∧ v ≤ 99) ∧ z = -1 ∧ m1 = m0 ∨ ((0 ≤ r ∧ r ≤ 3) ∧ (0 ≤ k ∧ k < m0 21 0) ∧ (if r = 3 then 1 else 0) ≤ v ∧ v ≤ 99) ∧ (m0 (23 + r.toNat) k.toNat = v ∧ z = -2 ∧ m1 = m0 ∨ m0 (23 + r.toNat) k.toNat ≠ v ∧ z = m0 (23 + r.toNat) k.toNat ∧ m1 = mset (remM m0) (23 + r.toNat) k.toNat v))
    (hr : ¬ ((0 ≤ r ∧ r ≤ 3) ∧ (0 ≤ k ∧ k < m1 1 0) ∧ (if r = 3 then 1 else 0) ≤ v ∧ v ≤ 99) ∧ y = -1 ∧ mv = m1 ∨ ((0 ≤ r ∧ r ≤ 3) ∧ (0 ≤ k ∧ k < m1 1 0) ∧ (if r = 3 then 1 else 0) ≤ v ∧ v ≤ 99) ∧ (m1 1 (11 + 8 * r + k).toNat = v ∧ y = -2 ∧ mv = m1 ∨ m1 1 (11 + 8 * r + k).toNat ≠ v ∧ y = m1 1 (11 + 8 * r + k).toNat ∧ ∃ mp, PastPush m1 mp ∧ mv = mset mp 1 (11 + 8 * r + k).toNat v)) : z = y ∧ CR (n + 1) mv := by
  obtain ⟨hRI, hRS⟩ := h.2.2.1
  have g0 := hRI.1.1
  have e0 : m0 21 0 = m0 1 0 := hRS.1
  have e11 : m1 1 = m0 1 := by
    rcases hc with ⟨_, _, q⟩ | ⟨_, ⟨_, _, q⟩ | ⟨_, _, q⟩⟩
    · rw [q]
    · rw [q]
    · rw [q, mset_nka (by omega), remM_far h.2.2.2.2.1 (by decide) (by decide)]
  rw [e11] at hr
  rw [e0] at hc
  have eCell : (0 ≤ r ∧ r ≤ 3) → (0 ≤ k ∧ k < m0 1 0) → m0 (23 + r.toNat) k.toNat = m0 1 (11 + 8 * r + k).toNat := fun a b => by
    have q := hRS.2.2.1 (1 + r.toNat) (by omega) k.toNat (by omega)
    rw [show 21 + 1 + (1 + r.toNat) = 23 + r.toNat by omega, show 3 + 8 * (1 + r.toNat) + k.toNat = (11 + 8 * r + k).toNat by omega] at q
    exact q
  rcases hc with ⟨a1, a2, a3⟩ | ⟨a1, ac⟩
  · rcases hr with ⟨_, b2, b3⟩ | ⟨b1, _⟩
    · refine ⟨by rw [a2, b2], ?_⟩
      rw [b3, a3]
      exact h.mono (by omega)
    · exact absurd b1 a1
  · rcases hr with ⟨b1, _⟩ | ⟨_, br⟩
    · exact absurd a1 b1
    obtain ⟨x1, x2, x3, x4⟩ := a1
    rw [eCell x1 x2] at ac
    rcases ac with ⟨c1, c2, c3⟩ | ⟨c1, c2, c3⟩
    · rcases br with ⟨_, d2, d3⟩ | ⟨d1, _⟩
      · refine ⟨by rw [c2, d2], ?_⟩
        rw [d3, c3]
        exact h.mono (by omega)
      · exact absurd c1 d1
    · rcases br with ⟨d1, _⟩ | ⟨_, d2, mp, d3, d4⟩
      · exact absurd d1 c1
      refine ⟨by rw [c2, d2], ?_⟩
      have far : ∀ c, c ≠ 20 → (c < 43 ∨ 153 ≤ c) → remM m0 c = m0 c := fun c a b => remM_far h.2.2.2.2.1 a b
      have p1 : mp 1 = m0 1 := by rw [d3.1 1 (by decide) (by decide), e11]
      have hCI1 : CI m1 := h.2.2.2.1.congr (fun a a1 a2 _ _ => by rw [c3, mset_nka (by omega), far a (by omega) (by omega)])
      have hv1 : ∀ j, mv 1 j = if j = 3 + 8 * (1 + r.toNat) + k.toNat then v else m0 1 j := fun j => by
        rw [d4]
        by_cases q : j = (11 + 8 * r + k).toNat
        · rw [q, mset_eq, if_pos (by omega)]
        · rw [mset_ne (fun w => q w.2), p1, if_neg (by omega)]
      refine h.act (m1 := m1) (mr := m1) (mp := mp) (fun c a b => by rw [c3, mset_nka (by omega)]) (fun j => by rw [c3, mset_nk (by omega)]) hCI1 (fun _ _ _ => rfl) rfl rfl rfl (fun _ _ => rfl) d3 (fun a a2 _ => by rw [d4, mset_nka (by omega)]) (by rw [d4, mset_nk (by decide)]) (by rw [d4, mset_nk (by decide)]) (by rw [d4, mset_nk (by decide)]) ⟨?_, ?_⟩
      · refine hRI.cell (j0 := 3 + 8 * (1 + r.toNat) + k.toNat) (by omega) (fun j hj => by rw [hv1, if_neg hj]) ?_ (fun q => ?_)
        · rw [hv1, if_pos rfl]
          split at x3 <;> omega
        · rw [hv1, if_pos rfl]
          rw [if_pos (show r = 3 by omega)] at x3
          exact x3
      · refine hRS.cell (r := 1 + r.toNat) (k := k.toNat) (v := v) (by omega) (by omega) (fun c j a b => ?_) hv1
        rw [d4, mset_nk (by omega), d3.1 c (by omega) (by omega), c3]
        by_cases q : c = 21 + 1 + (1 + r.toNat) ∧ j = k.toNat
        · rw [if_pos q, q.2, show c = 23 + r.toNat by omega, mset_eq]
        · rw [if_neg q, mset_ne (by omega), far c (by omega) (by omega)]
