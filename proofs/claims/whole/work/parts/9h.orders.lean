/-! one cell of now changed, on both sides; bags ordered -/
theorem CR.setcell {n : Int} {m0 m1 mp mv : Mem} {r k v : Int} (h : CR n m0) (hr : 0 ≤ r ∧ r ≤ 3) (hk : 0 ≤ k ∧ k < 8) (hv : 0 ≤ v ∧ v ≤ 99) (hv3 : r = 3 → 1 ≤ v) (c3 : m1 = mset (remM m0) (23 + r.toNat) k.toNat v) (d3 : PastPush m1 mp) (d4 : mv = mset mp 1 (11 + 8 * r + k).toNat v) : CR (n + 1) mv := by
  obtain ⟨hRI, hRS⟩ := h.2.2.1
  have far : ∀ c, c ≠ 20 → (c < 43 ∨ 153 ≤ c) → remM m0 c = m0 c := fun c a b => remM_far h.2.2.2.2.1 a b
  have e11 : m1 1 = m0 1 := by rw [c3, mset_nka (by omega), far 1 (by decide) (by decide)]
  have p1 : mp 1 = m0 1 := by rw [d3.1 1 (by decide) (by decide), e11]
  have hCI1 : CI m1 := h.2.2.2.1.congr (fun a a1 a2 _ _ => by rw [c3, mset_nka (by omega), far a (by omega) (by omega)])
  have hv1 : ∀ j, mv 1 j = if j = 3 + 8 * (1 + r.toNat) + k.toNat then v else m0 1 j := fun j => by
    rw [d4]
    by_cases q : j = (11 + 8 * r + k).toNat
    · rw [q, mset_eq, if_pos (by omega)]
    · rw [mset_ne (fun w => q w.2), p1, if_neg (by omega)]
  refine h.act (m1 := m1) (mr := m1) (mp := mp) (fun c a b => by rw [c3, mset_nka (by omega)]) (fun j => by rw [c3, mset_nk (by omega)]) hCI1 (fun _ _ _ => rfl) rfl rfl rfl (fun _ _ => rfl) d3 (fun a a2 _ => by rw [d4, mset_nka (by omega)]) (by rw [d4, mset_nk (by decide)]) (by rw [d4, mset_nk (by decide)]) (by rw [d4, mset_nk (by decide)]) ⟨?_, ?_⟩
  · refine hRI.cell (j0 := 3 + 8 * (1 + r.toNat) + k.toNat) (by omega) (fun j hj => by rw [hv1, if_neg hj]) (by rw [hv1, if_pos rfl]; exact hv) (fun q => ?_)
    rw [hv1, if_pos rfl]
    exact hv3 (by omega)
  · refine hRS.cell (r := 1 + r.toNat) (k := k.toNat) (v := v) (by omega) (by omega) (fun c j a b => ?_) hv1
    rw [d4, mset_nk (by omega), d3.1 c (by omega) (by omega), c3]
    by_cases q : c = 21 + 1 + (1 + r.toNat) ∧ j = k.toNat
    · rw [if_pos q, q.2, show c = 23 + r.toNat by omega, mset_eq]
    · rw [if_neg q, mset_ne (by omega), far c (by omega) (by omega)]
theorem CR.order {n : Int} {m0 m1 mv : Mem} {k v z y : Int} (h : CR n m0)
    (hc : ¬ ((0 ≤ k ∧ k < m0 21 0) ∧ 1 ≤ v ∧ v ≤ 9) ∧ z = -1 ∧ m1 = m0 ∨ ((0 ≤ k ∧ k < m0 21 0) ∧ 1 ≤ v ∧ v ≤ 9) ∧ (99 < m0 23 k.toNat + v * m0 26 k.toNat ∧ z = -2 ∧ m1 = m0 ∨ m0 23 k.toNat + v * m0 26 k.toNat ≤ 99 ∧ z = m0 23 k.toNat + v * m0 26 k.toNat ∧ m1 = mset (remM m0) 23 k.toNat (m0 23 k.toNat + v * m0 26 k.toNat)))
    (hr : ¬ ((0 ≤ k ∧ k < m1 1 0) ∧ 1 ≤ v ∧ v ≤ 9) ∧ y = -1 ∧ mv = m1 ∨ ((0 ≤ k ∧ k < m1 1 0) ∧ 1 ≤ v ∧ v ≤ 9) ∧ (99 < m1 1 (11 + k).toNat + v * m1 1 (35 + k).toNat ∧ y = -2 ∧ mv = m1 ∨ m1 1 (11 + k).toNat + v * m1 1 (35 + k).toNat ≤ 99 ∧ y = m1 1 (11 + k).toNat + v * m1 1 (35 + k).toNat ∧ ∃ mp, PastPush m1 mp ∧ mv = mset mp 1 (11 + k).toNat (m1 1 (11 + k).toNat + v * m1 1 (35 + k).toNat))) : z = y ∧ CR (n + 1) mv := by
  obtain ⟨hRI, hRS⟩ := h.2.2.1
  have g0 := hRI.1.1
  have e0 : m0 21 0 = m0 1 0 := hRS.1
  have e11 : m1 1 = m0 1 := by
    rcases hc with ⟨_, _, q⟩ | ⟨_, ⟨_, _, q⟩ | ⟨_, _, q⟩⟩
    · rw [q]
    · rw [q]
    · rw [q, mset_nka (by omega), remM_far h.2.2.2.2.1 (by decide) (by decide)]
  rw [e11] at hr
  rw [e0] at hc
  have eT : (0 ≤ k ∧ k < m0 1 0) → m0 23 k.toNat = m0 1 (11 + k).toNat ∧ m0 26 k.toNat = m0 1 (35 + k).toNat ∧ 0 ≤ m0 1 (11 + k).toNat ∧ 0 ≤ m0 1 (35 + k).toNat := fun b => by
    have q := hRS.2.2.1 1 (by omega) k.toNat (by omega)
    have q2 := hRS.2.2.1 4 (by omega) k.toNat (by omega)
    have b1 := hRI.1.2.2.2.2.2.1 0 (by omega) k.toNat (by omega)
    have b2 := hRI.1.2.2.2.2.2.1 3 (by omega) k.toNat (by omega)
    rw [show 3 + 8 * 1 + k.toNat = (11 + k).toNat by omega] at q
    rw [show 3 + 8 * 4 + k.toNat = (35 + k).toNat by omega] at q2
    rw [show 11 + 8 * 0 + k.toNat = (11 + k).toNat by omega] at b1
    rw [show 11 + 8 * 3 + k.toNat = (35 + k).toNat by omega] at b2
    exact ⟨q, q2, b1.1, b2.1⟩
  rcases hc with ⟨a1, a2, a3⟩ | ⟨a1, ac⟩
  · rcases hr with ⟨_, b2, b3⟩ | ⟨b1, _⟩
    · refine ⟨by rw [a2, b2], ?_⟩
      rw [b3, a3]
      exact h.mono (by omega)
    · exact absurd b1 a1
  · rcases hr with ⟨b1, _⟩ | ⟨_, br⟩
    · exact absurd a1 b1
    obtain ⟨x2, x3, x4⟩ := a1
    obtain ⟨t1, t2, t3, t4⟩ := eT x2
    rw [t1, t2] at ac
    have hprod : 0 ≤ v * m0 1 (35 + k).toNat := Int.mul_nonneg (by omega) t4
    rcases ac with ⟨c1, c2, c3⟩ | ⟨c1, c2, c3⟩
    · rcases br with ⟨_, d2, d3⟩ | ⟨d1, _⟩
      · refine ⟨by rw [c2, d2], ?_⟩
        rw [d3, c3]
        exact h.mono (by omega)
      · exact absurd d1 (by omega)
    · rcases br with ⟨d1, _⟩ | ⟨_, d2, mp, d3, d4⟩
      · exact absurd d1 (by omega)
      refine ⟨by rw [c2, d2], ?_⟩
      exact h.setcell (r := 0) (k := k) (by decide) (by omega) ⟨by omega, c1⟩ (fun q => by omega) c3 d3 (by rw [d4, show 11 + 8 * 0 + k = 11 + k by omega])
