/-! a piece handed, on both sides -/
theorem sumN_upd {g h : Nat → Int} {k : Nat} : ∀ {n : Nat}, (∀ j, j < n → h j = if j = k then g j + 1 else g j) → sumN h n = sumN g n + if k < n then 1 else 0
  | 0, _ => by rw [if_neg (by omega)]; rfl
  | n + 1, e => by
    show sumN h n + h n = sumN g n + g n + _
    rw [sumN_upd (n := n) (fun j hj => e j (by omega)), e n (by omega)]
    by_cases q : n = k
    · rw [if_neg (by omega), if_pos q, if_pos (by omega)]; omega
    · rw [if_neg q]
      by_cases q2 : k < n
      · rw [if_pos q2, if_pos (by omega)]; omega
      · rw [if_neg q2, if_neg (by omega)]; omega
theorem sumN_ge {g : Nat → Int} {k : Nat} : ∀ {n : Nat}, k < n → (∀ j, j < n → 0 ≤ g j) → g k ≤ sumN g n ∧ 0 ≤ sumN g n
  | 0, h, _ => by omega
  | n + 1, h, e => by
    have hn := e n (by omega)
    have hz : ∀ m, m ≤ n → 0 ≤ sumN g m := fun m => by
      induction m with
      | zero => intro _; exact Int.le_refl _
      | succ m ih =>
        intro hm
        have := ih (by omega)
        have := e m (by omega)
        show 0 ≤ sumN g m + g m
        omega
    have hs : sumN g (n + 1) = sumN g n + g n := rfl
    have := hz n (Nat.le_refl _)
    rw [hs]
    by_cases q : k = n
    · subst q; omega
    · have := (sumN_ge (k := k) (n := n) (by omega) (fun j hj => e j (by omega))).1
      omega
theorem CR.hand {n : Int} {m0 m1 mv : Mem} {k z y : Int} (h : CR n m0)
    (hc : ¬ (0 ≤ k ∧ k < m0 21 0) ∧ z = -1 ∧ m1 = m0 ∨ (0 ≤ k ∧ k < m0 21 0) ∧ (m0 24 k.toNat < 1 ∧ z = -2 ∧ m1 = m0 ∨ 1 ≤ m0 24 k.toNat ∧ (5 ≤ sumN (m0 27) (m0 21 0).toNat ∧ z = -3 ∧ m1 = m0 ∨ sumN (m0 27) (m0 21 0).toNat < 5 ∧ m1 = mset (mset (remM m0) 24 k.toNat (m0 24 k.toNat - 1)) 27 k.toNat (m0 27 k.toNat + 1) ∧ z = sumN (m1 27) (m0 21 0).toNat)))
    (hr : ¬ (0 ≤ k ∧ k < m1 1 0) ∧ y = -1 ∧ mv = m1 ∨ (0 ≤ k ∧ k < m1 1 0) ∧ (m1 1 (19 + k).toNat = 0 ∧ y = -2 ∧ mv = m1 ∨ m1 1 (19 + k).toNat ≠ 0 ∧ (sumN (fun j => m1 1 (43 + j)) (m1 1 0).toNat = 5 ∧ y = -3 ∧ mv = m1 ∨ sumN (fun j => m1 1 (43 + j)) (m1 1 0).toNat ≠ 5 ∧ ∃ mp, PastPush m1 mp ∧ mv = mset (mset mp 1 (19 + k).toNat (m1 1 (19 + k).toNat - 1)) 1 (43 + k).toNat (m1 1 (43 + k).toNat + 1) ∧ y = sumN (fun j => mv 1 (43 + j)) (mv 1 0).toNat))) : z = y ∧ CR (n + 1) mv := by
  obtain ⟨hRI, hRS⟩ := h.2.2.1
  have g0 := hRI.1.1
  have e0 : m0 21 0 = m0 1 0 := hRS.1
  have far : ∀ c, c ≠ 20 → (c < 43 ∨ 153 ≤ c) → remM m0 c = m0 c := fun c a b => remM_far h.2.2.2.2.1 a b
  have e11 : m1 1 = m0 1 := by
    rcases hc with ⟨_, _, q⟩ | ⟨_, ⟨_, _, q⟩ | ⟨_, ⟨_, _, q⟩ | ⟨_, q, _⟩⟩⟩
    · rw [q]
    · rw [q]
    · rw [q]
    · rw [q, mset_nka (by decide), mset_nka (by decide), far 1 (by decide) (by decide)]
  rw [e11] at hr
  rw [e0] at hc
  have eT : ∀ j, j < 8 → m0 24 j = m0 1 (19 + j) ∧ m0 27 j = m0 1 (43 + j) ∧ (0 ≤ m0 1 (19 + j) ∧ m0 1 (19 + j) ≤ 99) ∧ 0 ≤ m0 1 (43 + j) ∧ m0 1 (43 + j) ≤ 99 := fun j hj => by
    have q := hRS.2.2.1 2 (by omega) j hj
    have q2 := hRS.2.2.1 5 (by omega) j hj
    have b1 := hRI.1.2.2.2.2.2.1 1 (by omega) j hj
    have b2 := hRI.1.2.2.2.2.2.1 4 (by omega) j hj
    rw [show 3 + 8 * 2 + j = 19 + j by omega] at q
    rw [show 3 + 8 * 5 + j = 43 + j by omega] at q2
    rw [show 11 + 8 * 1 + j = 19 + j by omega] at b1
    rw [show 11 + 8 * 4 + j = 43 + j by omega] at b2
    exact ⟨q, q2, b1, b2⟩
  have hsum := hRI.1.2.2.2.2.2.2.2.2.2
  have eS : sumN (m0 27) (m0 1 0).toNat = sumN (fun j => m0 1 (43 + j)) (m0 1 0).toNat := sumN_congr (fun j hj => (eT j (by omega)).2.1)
  rw [eS] at hc
  rcases hc with ⟨a1, a2, a3⟩ | ⟨a1, ac⟩
  · rcases hr with ⟨_, b2, b3⟩ | ⟨b1, _⟩
    · refine ⟨by rw [a2, b2], ?_⟩
      rw [b3, a3]
      exact h.mono (by omega)
    · exact absurd b1 a1
  rcases hr with ⟨b1, _⟩ | ⟨_, br⟩
  · exact absurd a1 b1
  obtain ⟨t1, t2, t3, t4⟩ := eT k.toNat (by omega)
  rw [show (19 + k).toNat = 19 + k.toNat by omega, show (43 + k).toNat = 43 + k.toNat by omega] at br
  rw [t1, t2] at ac
  rcases ac with ⟨c1, c2, c3⟩ | ⟨c1, ac⟩
  · rcases br with ⟨_, d2, d3⟩ | ⟨d1, _⟩
    · refine ⟨by rw [c2, d2], ?_⟩
      rw [d3, c3]
      exact h.mono (by omega)
    · exact absurd d1 (by omega)
  rcases br with ⟨d1, _⟩ | ⟨_, br⟩
  · exact absurd d1 (by omega)
  rcases ac with ⟨x1, x2, x3⟩ | ⟨x1, x2, x3⟩
  · rcases br with ⟨_, d2, d3⟩ | ⟨d1, _⟩
    · refine ⟨by rw [x2, d2], ?_⟩
      rw [d3, x3]
      exact h.mono (by omega)
    · exact absurd d1 (by omega)
  rcases br with ⟨d1, _⟩ | ⟨_, mp, d3, d4, d5⟩
  · exact absurd d1 (by omega)
  have p1 : mp 1 = m0 1 := by rw [d3.1 1 (by decide) (by decide), e11]
  have hv : ∀ j, mv 1 j = if j = 43 + k.toNat then m0 1 (43 + k.toNat) + 1 else if j = 19 + k.toNat then m0 1 (19 + k.toNat) - 1 else m0 1 j := fun j => by
    rw [d4]
    by_cases q : j = 43 + k.toNat
    · rw [if_pos q, q, mset_eq]
    · rw [if_neg q, mset_ne (fun w => q w.2)]
      by_cases q2 : j = 19 + k.toNat
      · rw [if_pos q2, q2, mset_eq]
      · rw [if_neg q2, mset_ne (fun w => q2 w.2), p1]
  have hup : sumN (fun j => mv 1 (43 + j)) (m0 1 0).toNat = sumN (fun j => m0 1 (43 + j)) (m0 1 0).toNat + 1 := by
    rw [sumN_upd (g := fun j => m0 1 (43 + j)) (k := k.toNat) (fun j hj => ?_), if_pos (by omega)]
    rw [hv]
    by_cases q : j = k.toNat
    · rw [if_pos (by omega), if_pos q, q]
    · rw [if_neg (by omega), if_neg (by omega), if_neg q]
  have hup1 : sumN (m1 27) (m0 1 0).toNat = sumN (fun j => m0 1 (43 + j)) (m0 1 0).toNat + 1 := by
    rw [sumN_upd (g := fun j => m0 1 (43 + j)) (k := k.toNat) (fun j hj => ?_), if_pos (by omega)]
    rw [x2]
    by_cases q : j = k.toNat
    · rw [if_pos q, q, mset_eq]
    · rw [if_neg q, mset_ne (fun w => q w.2), mset_nk (by decide), far 27 (by decide) (by decide), (eT j (by omega)).2.1]
  have hv0 : mv 1 0 = m0 1 0 := by rw [hv, if_neg (by omega), if_neg (by omega)]
  refine ⟨by rw [x3, d5, hv0, hup, hup1], ?_⟩
  refine h.rows (m1 := m1) (f2 := mv 1) (fun c a b => by rw [x2, mset_nka (by omega), mset_nka (by omega)]) (h.2.2.2.1.congr (fun a a1 a2 _ _ => by rw [x2, mset_nka (by omega), mset_nka (by omega), far a (by omega) (by omega)])) d3 (fun a ha => by rw [d4, mset_nka ha, mset_nka ha]) rfl (fun r hr7 j hj => ?_) ?_ (fun j hj => by rw [hv, if_neg (by omega), if_neg (by omega)]) (fun j hj => ?_)
  · have q := hRS.2.2.1 r hr7 j hj
    rw [show 21 + 1 + r = 22 + r by omega] at q
    rw [x2, hv]
    by_cases w : 22 + r = 27 ∧ j = k.toNat
    · rw [if_pos (by omega), w.1, w.2, mset_eq]
    · rw [mset_ne w, if_neg (by omega)]
      by_cases w2 : 22 + r = 24 ∧ j = k.toNat
      · rw [if_pos (by omega), w2.1, w2.2, mset_eq]
      · rw [mset_ne w2, if_neg (by omega), far (22 + r) (by omega) (by omega)]
        exact q
  · refine hRI.1.rows (fun j hj => by rw [hv, if_neg (by omega), if_neg (by omega)]) (fun r hr5 j hj => ?_) (fun i hi => ?_) (by rw [hup]; omega)
    · have b := hRI.1.2.2.2.2.2.1 r hr5 j hj
      have hs1 : m0 1 (43 + k.toNat) ≤ 98 := by
        have := sumN_ge (g := fun j => m0 1 (43 + j)) (n := (m0 1 0).toNat) (k := k.toNat) (by omega) (fun j hj => (eT j (by omega)).2.2.2.1)
        have e : (fun j => m0 1 (43 + j)) k.toNat = m0 1 (43 + k.toNat) := rfl
        omega
      rw [hv]
      by_cases w : 11 + 8 * r + j = 43 + k.toNat
      · rw [if_pos w]; omega
      · rw [if_neg w]
        by_cases w2 : 11 + 8 * r + j = 19 + k.toNat
        · rw [if_pos w2]; omega
        · rw [if_neg w2]; exact b
    · rw [hv, if_neg (by omega), if_neg (by omega)]
      exact hRI.1.2.2.2.2.2.2.1 i hi
  · have b := hRI.2.2.2 j hj
    rw [hv, if_neg (by omega), if_neg (by omega)]
    omega
