/-! a sale settled, on both sides -/
theorem st_rs {m : Mem} {f : Nat → Int} (h : RS m 21 f) (hG : GR f) (p : Int) : stV m p = rsV f p ∧ ∀ k : Nat, stD m p k = rsD f p k := by
  have g0 := hG.1
  have e0 : m 21 0 = f 0 := h.1
  have e : ∀ i, i < (f 0).toNat → m 22 i = f (3 + i) ∧ m 24 i = f (19 + i) ∧ m 23 i = f (11 + i) := fun i hi => by
    have a := h.2.2.1 0 (by omega) i (by omega)
    have b := h.2.2.1 2 (by omega) i (by omega)
    have c := h.2.2.1 1 (by omega) i (by omega)
    rw [show 3 + 8 * 0 + i = 3 + i by omega] at a
    rw [show 3 + 8 * 2 + i = 19 + i by omega] at b
    rw [show 3 + 8 * 1 + i = 11 + i by omega] at c
    exact ⟨a, b, c⟩
  have s : ∀ k, k ≤ (f 0).toNat → ∀ x, stlT (m 22) (m 24) (m 23) k x = stlT (fun i => f (3 + i)) (fun i => f (19 + i)) (fun i => f (11 + i)) k x := fun k hk x => stlT_congr x (fun i hi => e i (by omega))
  have hV : stV m p = rsV f p := by
    unfold stV rsV
    rw [e0]
    exact s _ (Nat.le_refl _) p
  refine ⟨hV, fun k => ?_⟩
  unfold stD rsD
  rw [hV, e0]
  exact rdR_congr _ _ _ (fun k hk x => s k (by omega) x) e
theorem CR.sell {n : Int} {m0 m1 mv : Mem} {p z y : Int} (h : CR n m0)
    (hc : (¬ (1 ≤ p ∧ p ≤ 1000) ∧ z = -1 ∨ (1 ≤ p ∧ p ≤ 1000) ∧ ¬ stV m0 p < 1000000 ∧ z = -2 ∨ (1 ≤ p ∧ p ≤ 1000) ∧ stV m0 p < 1000000 ∧ (∃ k : Nat, (k : Int) < m0 21 0 ∧ ¬ stOk m0 p k) ∧ z = -3) ∧ KeepC m0 m1 ∨ (1 ≤ p ∧ p ≤ 1000) ∧ stV m0 p < 1000000 ∧ (∀ k : Nat, (k : Int) < m0 21 0 → stOk m0 p k) ∧ z = stV m0 p ∧ CI m1 ∧ (∃ mB, (∀ c, c < 179 → mB c = m0 c) ∧ ∀ c, c < 179 → c ≠ 23 → c ≠ 24 → m1 c = remM mB c) ∧ (∀ k : Nat, m1 23 k = if (k : Int) < m0 21 0 then m0 23 k + stD m0 p k else m0 23 k) ∧ ∀ k : Nat, m1 24 k = if (k : Int) < m0 21 0 then m0 24 k - stD m0 p k else m0 24 k)
    (hr : (¬ (1 ≤ p ∧ p ≤ 1000) ∧ y = -1 ∨ (1 ≤ p ∧ p ≤ 1000) ∧ ¬ rsV (m1 1) p < 1000000 ∧ y = -2 ∨ (1 ≤ p ∧ p ≤ 1000) ∧ rsV (m1 1) p < 1000000 ∧ (∃ k : Nat, (k : Int) < m1 1 0 ∧ ¬ rsOk (m1 1) p k) ∧ y = -3) ∧ (∀ a, a ≠ 12 → a ≠ 13 → mv a = m1 a) ∨ (1 ≤ p ∧ p ≤ 1000) ∧ rsV (m1 1) p < 1000000 ∧ (∀ k : Nat, (k : Int) < m1 1 0 → rsOk (m1 1) p k) ∧ y = rsV (m1 1) p ∧ ∃ mS mp, (∀ a, a ≠ 12 → a ≠ 13 → mS a = m1 a) ∧ PastPush mS mp ∧ (∀ a, a ≠ 1 → mv a = mp a) ∧ mv 1 = rsN (m1 1) p (m1 1 0).toNat) : z = y ∧ CR (n + 1) mv := by
  obtain ⟨hRI, hRS⟩ := h.2.2.1
  have hG := hRI.1
  have g0 := hG.1
  have e0 : m0 21 0 = m0 1 0 := hRS.1
  obtain ⟨sV, sD⟩ := st_rs hRS hG p
  have hrem : ∀ mB : Mem, (∀ c, c < 179 → mB c = m0 c) → ∀ c, c < 179 → remM mB c = remM m0 c := fun mB hB c hc2 => by
    have b20 := hB 20 (by decide)
    funext j
    by_cases q : c = 20
    · subst q
      obtain ⟨x5, x6, xo⟩ := remM_20 mB
      obtain ⟨w5, w6, wo⟩ := remM_20 m0
      by_cases j5 : j = 5
      · rw [j5, x5, w5, b20]
      · by_cases j6 : j = 6
        · rw [j6, x6, w6, b20]
        · rw [xo j j5 j6, wo j j5 j6, b20]
    · rw [remM_c q, remM_c q, b20]
      unfold cpyS
      have p5 := h.2.2.2.2.1.1
      by_cases w : stB (2 + (m0 20 5).toNat) ≤ c ∧ c < stB (2 + (m0 20 5).toNat) + 11 ∧ j < wid (c - stB (2 + (m0 20 5).toNat))
      · rw [if_pos w, if_pos w, hB _ (by omega)]
      · rw [if_neg w, if_neg w, hB c hc2]
  have far : ∀ c, c ≠ 20 → (c < 43 ∨ 153 ≤ c) → remM m0 c = m0 c := fun c a b => remM_far h.2.2.2.2.1 a b
  have hOk : ∀ k : Nat, (k : Int) < m0 1 0 → (stOk m0 p k ↔ rsOk (m0 1) p k) := fun k hk => by
    have a := hRS.2.2.1 1 (by omega) k (by omega)
    have b := hRS.2.2.1 2 (by omega) k (by omega)
    rw [show 3 + 8 * 1 + k = 11 + k by omega] at a
    rw [show 3 + 8 * 2 + k = 19 + k by omega] at b
    unfold stOk rsOk
    rw [sD k, show m0 23 k = m0 1 (11 + k) from a, show m0 24 k = m0 1 (19 + k) from b]
  have e11 : m1 1 = m0 1 := by
    rcases hc with ⟨_, q⟩ | ⟨_, _, _, _, _, ⟨mB, q1, q2⟩, _⟩
    · exact q.1 1 (by decide)
    · rw [q2 1 (by decide) (by decide) (by decide), hrem mB q1 1 (by decide), far 1 (by decide) (by decide)]
  rw [e11] at hr
  rw [e0, sV] at hc
  rcases hc with ⟨hf, hk⟩ | ⟨a1, a2, a3, a4, a5, ⟨mB, a6, a7⟩, a8, a9⟩
  · rcases hr with ⟨rf, rk⟩ | ⟨b1, b2, b3, _⟩
    · constructor
      · rcases hf with ⟨x1, x2⟩ | ⟨x1, x2, x3⟩ | ⟨x1, x2, x3, x4⟩
        · rcases rf with ⟨y1, y2⟩ | ⟨y1, _⟩ | ⟨y1, _⟩
          · rw [x2, y2]
          · exact absurd y1 x1
          · exact absurd y1 x1
        · rcases rf with ⟨y1, _⟩ | ⟨_, y2, y3⟩ | ⟨_, y2, _⟩
          · exact absurd x1 y1
          · rw [x3, y3]
          · exact absurd y2 x2
        · rcases rf with ⟨y1, _⟩ | ⟨_, y2, _⟩ | ⟨_, _, _, y4⟩
          · exact absurd x1 y1
          · exact absurd x2 y2
          · rw [x4, y4]
      · have c := hk.1
        exact (h.frame (fun a p1 p7 => by rw [rk a (by omega) (by omega)]; exact c a (by omega)) (by rw [rk 0 (by decide) (by decide), c 0 (by decide)]) (by rw [rk 0 (by decide) (by decide), c 0 (by decide)]) (by rw [rk 0 (by decide) (by decide), c 0 (by decide)]) (fun a p1 p2 => by rw [rk a (by omega) (by omega)]; exact c a p2) (hk.2.congr (fun a p1 _ _ _ => rk a (by omega) (by omega)))).mono (by omega)
    · rcases hf with ⟨x1, _⟩ | ⟨_, x2, _⟩ | ⟨_, _, ⟨k, k1, k2⟩, _⟩
      · exact absurd b1 x1
      · exact absurd b2 x2
      · exact absurd ((hOk k k1).mpr (b3 k k1)) k2
  · rcases hr with ⟨rf, _⟩ | ⟨_, _, b3, b4, mS, mp, b5, b6, b7, b8⟩
    · rcases rf with ⟨y1, _⟩ | ⟨_, y2, _⟩ | ⟨_, _, ⟨k, k1, k2⟩, _⟩
      · exact absurd a1 y1
      · exact absurd a2 y2
      · exact absurd ((hOk k k1).mp (a3 k k1)) k2
    · refine ⟨by rw [a4, b4], ?_⟩
      have m1c : ∀ c, c < 179 → c ≠ 23 → c ≠ 24 → m1 c = remM m0 c := fun c x1 x2 x3 => by rw [a7 c x1 x2 x3, hrem mB a6 c x1]
      have hi : ∀ c, 20 ≤ c → mv c = m1 c := fun c hc2 => by rw [b7 c (by omega), b6.1 c (by omega) (by omega), b5 c (by omega) (by omega)]
      have rng : ∀ k : Nat, (k : Int) < m0 1 0 → 0 ≤ m0 1 (11 + k) + rsD (m0 1) p k ∧ m0 1 (11 + k) + rsD (m0 1) p k ≤ 99 ∧ 0 ≤ m0 1 (19 + k) - rsD (m0 1) p k ∧ m0 1 (19 + k) - rsD (m0 1) p k ≤ 99 := fun k hk2 => by
        have q := rsD_rng (p := p) hG hk2
        have o := b3 k hk2
        unfold rsOk at o
        omega
      have hv : ∀ b, mv 1 b = if 11 ≤ b ∧ b < 11 + (m0 1 0).toNat then m0 1 b + rsD (m0 1) p (b - 11) else if 19 ≤ b ∧ b < 19 + (m0 1 0).toNat then m0 1 b - rsD (m0 1) p (b - 19) else m0 1 b := fun b => by rw [b8]; rfl
      have hG2 : GR (mv 1) := by
        refine hG.rows (fun j hj => by rw [hv, if_neg (by omega), if_neg (by omega)]) (fun r hr5 k hk2 => ?_) (fun i hi2 => ?_) ?_
        · have b := hG.2.2.2.2.2.1 r hr5 k hk2
          rw [hv]
          by_cases w : 11 ≤ 11 + 8 * r + k ∧ 11 + 8 * r + k < 11 + (m0 1 0).toNat
          · have q := rng k (by omega)
            rw [if_pos w, show 11 + 8 * r + k - 11 = k by omega, show 11 + 8 * r + k = 11 + k by omega]
            exact ⟨q.1, q.2.1⟩
          · rw [if_neg w]
            by_cases w2 : 19 ≤ 11 + 8 * r + k ∧ 11 + 8 * r + k < 19 + (m0 1 0).toNat
            · have q := rng k (by omega)
              rw [if_pos w2, show 11 + 8 * r + k - 19 = k by omega, show 11 + 8 * r + k = 19 + k by omega]
              exact ⟨q.2.2.1, q.2.2.2⟩
            · rw [if_neg w2]; exact b
        · rw [hv, if_neg (by omega), if_neg (by omega)]
          exact hG.2.2.2.2.2.2.1 i hi2
        · rw [sumN_congr (g := fun k => m0 1 (43 + k)) (fun k hk2 => by rw [hv, if_neg (by omega), if_neg (by omega)])]
          exact hG.2.2.2.2.2.2.2.2.2
      refine h.act (m1 := m1) (mr := mS) (mp := mp) (fun c x1 x2 => m1c c x1 (by omega) (by omega)) (fun j => by rw [m1c 20 (by decide) (by decide) (by decide)]) a5 (fun a x1 x2 => b5 a (by omega) (by omega)) (by rw [b5 0 (by decide) (by decide)]) (by rw [b5 0 (by decide) (by decide)]) (by rw [b5 0 (by decide) (by decide)]) (fun a x1 => b5 a (by omega) (by omega)) b6 (fun a x1 _ => b7 a (by omega)) (by rw [b7 0 (by decide)]) (by rw [b7 0 (by decide)]) (by rw [b7 0 (by decide)]) ⟨?_, ?_⟩
      · exact hRI.rows hG2 (fun j hj => by rw [hv, if_neg (by omega), if_neg (by omega)]) (fun k hk2 => by
          have q := hRI.2.2.2 k hk2
          rw [hv, if_neg (by omega), if_neg (by omega)]
          omega)
      · refine hRS.rows (fun j hj => by rw [hv, if_neg (by omega), if_neg (by omega)]) (by rw [hi 21 (by decide), m1c 21 (by decide) (by decide) (by decide), far 21 (by decide) (by decide)]) (fun c x1 x2 => by rw [hi c (by omega), m1c c (by omega) (by omega) (by omega), far c (by omega) (by omega)]) (fun r hr7 k hk2 => ?_)
        have q := hRS.2.2.1 r hr7 k hk2
        rw [show 21 + 1 + r = 22 + r by omega] at q ⊢
        rw [hi _ (by omega), hv]
        by_cases r1 : r = 1
        · subst r1
          rw [show 22 + 1 = 23 by rfl] at q ⊢
          rw [a8, q, sD k]
          by_cases w : (k : Int) < m0 1 0
          · rw [if_pos w, if_pos (by omega), show 3 + 8 * 1 + k - 11 = k by omega]
          · rw [if_neg w, if_neg (by omega), if_neg (by omega)]
        · by_cases r2 : r = 2
          · subst r2
            rw [show 22 + 2 = 24 by rfl] at q ⊢
            rw [a9, q, sD k]
            by_cases w : (k : Int) < m0 1 0
            · rw [if_pos w, if_neg (by omega), if_pos (by omega), show 3 + 8 * 2 + k - 19 = k by omega]
            · rw [if_neg w, if_neg (by omega), if_neg (by omega)]
          · rw [m1c _ (by omega) (by omega) (by omega), far _ (by omega) (by omega), if_neg (by omega), if_neg (by omega)]
            exact q
