/-! a day lived, on both sides -/
theorem lifeN_rest {f w low : Nat → Int} {d : Int} {k : Nat} (hk : ¬ (k : Int) < f 0) : ∀ n : Nat, (lifeN f d (life0 w low) n).1 k = w k
  | 0 => rfl
  | n + 1 => by
    show (if sDay f n = d then lifeS f n (lifeN f d (life0 w low) n) else lifeN f d (life0 w low) n).1 k = w k
    by_cases q : sDay f n = d
    · rw [if_pos q]
      show rowS f (lifeN f d (life0 w low) n).1 n k = w k
      unfold rowS
      by_cases s : shortS f (lifeN f d (life0 w low) n).1 n = true
      · rw [if_pos s]; exact lifeN_rest hk n
      · rw [if_neg s, if_neg hk]; exact lifeN_rest hk n
    · rw [if_neg q]; exact lifeN_rest hk n
/-- a day of the reference's now, as the class lives it -/
theorem lifeD_LF {m : Mem} {f : Nat → Int} (hG : GR f) (e : m 1 = f) (d : Int) : (∀ k, k < 8 → (lifeD m d).1 k = (LF f d (tilF f)).1 k) ∧ (∀ k, k < 8 → (lifeD m d).2.1 k = (LF f d (tilF f)).2.1 k) ∧ (lifeD m d).2.2 = (LF f d (tilF f)).2.2 := by
  unfold lifeD LF
  rw [e]
  exact lifeN_congr hG.1.2 (fun k hk => by rw [tillW_at hk, e]; rfl) _
theorem CR.live {n : Int} {m0 m1 mv : Mem} {d z y : Int} (h : CR n m0)
    (hc : ¬ (0 ≤ d ∧ d < m0 1 1) ∧ z = -1 ∧ m1 = m0 ∨ (0 ≤ d ∧ d < m0 1 1) ∧ z = (LF (m0 1) d (tilF (m0 1))).2.2.1 ∧ CI m1 ∧ (∀ c, c < 179 → c ≠ 23 → m1 c = remM m0 c) ∧ ∀ k : Nat, k < 8 → m1 23 k = (LF (m0 1) d (tilF (m0 1))).1 k)
    (hr : ¬ (0 ≤ d ∧ d < m1 1 1) ∧ y = -1 ∧ mv = m1 ∨ (0 ≤ d ∧ d < m1 1 1) ∧ ∃ mp, PastPush m1 mp ∧ y = (lifeD m1 d).2.2.1 ∧ KeepP mp mv ∧ mv 1 = tillM (m1 1) (lifeD m1 d).1 (m1 1 0).toNat) : z = y ∧ CR (n + 1) mv := by
  obtain ⟨hRI, hRS⟩ := h.2.2.1
  have hG := hRI.1
  have g0 := hG.1
  have far : ∀ c, c ≠ 20 → (c < 43 ∨ 153 ≤ c) → remM m0 c = m0 c := fun c a b => remM_far h.2.2.2.2.1 a b
  have e11 : m1 1 = m0 1 := by
    rcases hc with ⟨_, _, q⟩ | ⟨_, _, _, q, _⟩
    · rw [q]
    · rw [q 1 (by decide) (by decide), far 1 (by decide) (by decide)]
  obtain ⟨l1, l2, l3⟩ := lifeD_LF hG e11 d
  rw [e11] at hr
  rcases hc with ⟨a1, a2, a3⟩ | ⟨a1, a2, a3, a4, a5⟩
  · rcases hr with ⟨_, b2, b3⟩ | ⟨b1, _⟩
    · refine ⟨by rw [a2, b2], ?_⟩
      rw [b3, a3]
      exact h.mono (by omega)
    · exact absurd b1 a1
  · rcases hr with ⟨b1, _⟩ | ⟨_, mp, b2, b3, b4, b5⟩
    · exact absurd a1 b1
    refine ⟨by rw [a2, b3, l3], ?_⟩
    obtain ⟨L, hL⟩ : ∃ x, x = LF (m0 1) d (tilF (m0 1)) := ⟨_, rfl⟩
    have hB : LB (m0 1 2).toNat L := by rw [hL]; exact LF_bd hG (fun k hk => by have q := hG.2.2.2.2.2.1 0 (by omega) k hk; rw [show 11 + 8 * 0 + k = 11 + k by omega] at q; exact q)
    have hrest : ∀ k : Nat, ¬ (k : Int) < m0 1 0 → L.1 k = m0 1 (11 + k) := fun k hk => by rw [hL]; exact lifeN_rest hk _
    rw [← hL] at a5 l1
    have hv : ∀ b, mv 1 b = if 11 ≤ b ∧ b < 11 + (m0 1 0).toNat then L.1 (b - 11) else m0 1 b := fun b => by
      rw [b5]
      unfold tillM
      by_cases q : 11 ≤ b ∧ b < 11 + (m0 1 0).toNat
      · rw [if_pos q, if_pos q, l1 _ (by omega)]
      · rw [if_neg q, if_neg q]
    have hv8 : ∀ k : Nat, k < 8 → mv 1 (11 + k) = L.1 k := fun k hk => by
      rw [hv]
      by_cases q : 11 ≤ 11 + k ∧ 11 + k < 11 + (m0 1 0).toNat
      · rw [if_pos q, show 11 + k - 11 = k by omega]
      · rw [if_neg q, hrest k (by omega)]
    obtain ⟨k3, k4, k5, k6, k05, k07, ka, k010⟩ := b4
    have hva : ∀ a, 2 ≤ a → (a ≤ 7 ∨ 20 ≤ a) → mv a = mp a := fun a x1 x2 => by
      have ha : a = 2 ∨ a = 3 ∨ a = 4 ∨ a = 5 ∨ a = 6 ∨ a = 7 ∨ 20 ≤ a := by omega
      rcases ha with rfl | rfl | rfl | rfl | rfl | rfl | x3
      · exact ka 2 (by decide)
      · exact k3
      · exact k4
      · exact k5
      · exact k6
      · exact ka 7 (by decide)
      · exact ka a (Or.inl x3)
    have hi : ∀ c, 20 ≤ c → mv c = m1 c := fun c x => by rw [hva c (by omega) (Or.inr x), b2.1 c (by omega) (by omega)]
    have hG2 : GR (mv 1) := by
      refine hG.rows (fun j hj => by rw [hv, if_neg (by omega)]) (fun r hr5 k hk2 => ?_) (fun i hi2 => ?_) ?_
      · by_cases r0 : r = 0
        · rw [r0, show 11 + 8 * 0 + k = 11 + k by omega, hv8 k hk2]; exact hB.1 k hk2
        · rw [hv, if_neg (by omega)]; exact hG.2.2.2.2.2.1 r hr5 k hk2
      · rw [hv, if_neg (by omega)]; exact hG.2.2.2.2.2.2.1 i hi2
      · rw [sumN_congr (g := fun k => m0 1 (43 + k)) (fun k hk2 => by rw [hv, if_neg (by omega)])]
        exact hG.2.2.2.2.2.2.2.2.2
    refine h.act (m1 := m1) (mr := m1) (mp := mp) (fun c x1 x2 => a4 c x1 (by omega)) (fun j => by rw [a4 20 (by decide) (by decide)]) a3 (fun _ _ _ => rfl) rfl rfl rfl (fun _ _ => rfl) b2 hva k05 k07 k010 ⟨?_, ?_⟩
    · exact hRI.rows hG2 (fun j hj => by rw [hv, if_neg (by omega)]) (fun k hk2 => by
        have q := hRI.2.2.2 k hk2
        rw [hv, if_neg (by omega)]
        omega)
    · refine hRS.rows (fun j hj => by rw [hv, if_neg (by omega)]) (by rw [hi 21 (by decide), a4 21 (by decide) (by decide), far 21 (by decide) (by decide)]) (fun c x1 x2 => by rw [hi c (by omega), a4 c (by omega) (by omega), far c (by omega) (by omega)]) (fun r hr7 k hk2 => ?_)
      have q := hRS.2.2.1 r hr7 k hk2
      rw [show 21 + 1 + r = 22 + r by omega] at q ⊢
      rw [hi _ (by omega)]
      by_cases r1 : r = 1
      · rw [r1, show 22 + 1 = 23 by rfl, a5 k hk2, show 3 + 8 * 1 + k = 11 + k by omega, hv8 k hk2]
      · rw [a4 _ (by omega) (by omega), far _ (by omega) (by omega), hv, if_neg (by omega)]
        exact q
/-! a tray paid, on both sides -/
theorem py_rp {m : Mem} {f : Nat → Int} (h : RS m 21 f) (hG : GR f) (p : Int) : pyA m p = rpA f p ∧ pyV m p = rpV f p ∧ ∀ k : Nat, pyD m p k = rpD f p k := by
  have g0 := hG.1
  have e0 : m 21 0 = f 0 := h.1
  have e : ∀ i, i < (f 0).toNat → m 22 i = f (3 + i) ∧ m 27 i = f (43 + i) ∧ m 23 i = f (11 + i) := fun i hi => by
    have a := h.2.2.1 0 (by omega) i (by omega)
    have b := h.2.2.1 5 (by omega) i (by omega)
    have c := h.2.2.1 1 (by omega) i (by omega)
    rw [show 3 + 8 * 0 + i = 3 + i by omega] at a
    rw [show 3 + 8 * 5 + i = 43 + i by omega] at b
    rw [show 3 + 8 * 1 + i = 11 + i by omega] at c
    exact ⟨a, b, c⟩
  have hA : pyA m p = rpA f p := by
    unfold pyA rpA
    rw [e0, sumN_congr (fun k hk => by rw [(e k hk).1, (e k hk).2.1])]
  have ev : ∀ i, i < (f 0).toNat → (m 22 i).toNat = (f (3 + i)).toNat ∧ (m 23 i + m 27 i).toNat = (f (11 + i) + f (43 + i)).toNat := fun i hi => by
    rw [(e i hi).1, (e i hi).2.1, (e i hi).2.2]
    exact ⟨rfl, rfl⟩
  refine ⟨hA, ?_, fun k => ?_⟩
  · unfold pyV rpV
    rw [hA, e0]
    exact fewT_congr2 _ ev
  · unfold pyD rpD
    rw [hA, e0, takR_congr2 _ _ ev]
theorem sumN_zero : ∀ n : Nat, sumN (fun _ => (0 : Int)) n = 0
  | 0 => rfl
  | n + 1 => by
    show sumN (fun _ => (0 : Int)) n + 0 = 0
    rw [sumN_zero n]; rfl
theorem rpD_rng {f : Nat → Int} {p : Int} (hG : GR f) {k : Nat} (hk : (k : Int) < f 0) : 0 ≤ rpD f p k ∧ rpD f p k ≤ f (11 + k) + f (43 + k) := by
  have g0 := hG.1
  have a := hG.2.2.2.2.2.1 0 (by omega) k (by omega)
  have b := hG.2.2.2.2.2.1 4 (by omega) k (by omega)
  rw [show 11 + 8 * 0 + k = 11 + k by omega] at a
  rw [show 11 + 8 * 4 + k = 43 + k by omega] at b
  have q := takR_le (fun i => (f (3 + i)).toNat) (fun i => (f (11 + i) + f (43 + i)).toNat) (f 0).toNat (rpA f p).toNat k (by omega)
  try dsimp only at q
  unfold rpD
  omega
theorem remM_eq {n : Int} {m0 : Mem} (h : CR n m0) {mB : Mem} (hB : ∀ c, c < 179 → mB c = m0 c) : ∀ c, c < 179 → remM mB c = remM m0 c := fun c hc2 => by
  have b20 := hB 20 (by decide)
  funext j
  by_cases q : c = 20
  · subst q
    obtain ⟨x5, x6, xo⟩ := remM_20 mB
    obtain ⟨w5, w6, wo⟩ := remM_20 m0
    by_cases j5 : j = 5
    · rw [j5, x5, w5, b20]
    · by_cases j6 : j = 6
      · rw [j6, x6, w6, b20]
      · rw [xo j j5 j6, wo j j5 j6, b20]
  · rw [remM_c q, remM_c q, b20]
    unfold cpyS
    have p5 := h.2.2.2.2.1.1
    by_cases w : stB (2 + (m0 20 5).toNat) ≤ c ∧ c < stB (2 + (m0 20 5).toNat) + 11 ∧ j < wid (c - stB (2 + (m0 20 5).toNat))
    · rw [if_pos w, if_pos w, hB _ (by omega)]
    · rw [if_neg w, if_neg w, hB c hc2]
theorem CR.pay {n : Int} {m0 m1 mv : Mem} {p z y : Int} (h : CR n m0)
    (hc : (¬ (1 ≤ p ∧ p ≤ 1000) ∧ z = -1 ∨ (1 ≤ p ∧ p ≤ 1000) ∧ pyA m0 p < 0 ∧ z = -2 ∨ (1 ≤ p ∧ p ≤ 1000) ∧ 0 ≤ pyA m0 p ∧ ¬ pyV m0 p < 1000000 ∧ z = -3 ∨ (1 ≤ p ∧ p ≤ 1000) ∧ 0 ≤ pyA m0 p ∧ pyV m0 p < 1000000 ∧ (∃ k : Nat, (k : Int) < m0 21 0 ∧ ¬ pyOk m0 p k) ∧ z = -4) ∧ KeepC m0 m1 ∨ (1 ≤ p ∧ p ≤ 1000) ∧ 0 ≤ pyA m0 p ∧ pyV m0 p < 1000000 ∧ (∀ k : Nat, (k : Int) < m0 21 0 → pyOk m0 p k) ∧ z = pyV m0 p ∧ CI m1 ∧ (∃ mB, (∀ c, c < 179 → mB c = m0 c) ∧ ∀ c, c < 179 → c ≠ 23 → c ≠ 24 → c ≠ 27 → m1 c = remM mB c) ∧ (∀ k : Nat, m1 23 k = if (k : Int) < m0 21 0 then m0 23 k + m0 27 k - pyD m0 p k else m0 23 k) ∧ (∀ k : Nat, m1 24 k = if (k : Int) < m0 21 0 then m0 24 k + pyD m0 p k else m0 24 k) ∧ ∀ k : Nat, m1 27 k = if (k : Int) < m0 21 0 then 0 else m0 27 k)
    (hr : (¬ (1 ≤ p ∧ p ≤ 1000) ∧ y = -1 ∨ (1 ≤ p ∧ p ≤ 1000) ∧ rpA (m1 1) p < 0 ∧ y = -2 ∨ (1 ≤ p ∧ p ≤ 1000) ∧ 0 ≤ rpA (m1 1) p ∧ ¬ rpV (m1 1) p < 1000000 ∧ y = -3 ∨ (1 ≤ p ∧ p ≤ 1000) ∧ 0 ≤ rpA (m1 1) p ∧ rpV (m1 1) p < 1000000 ∧ (∃ k : Nat, (k : Int) < m1 1 0 ∧ ¬ rpOk (m1 1) p k) ∧ y = -4) ∧ (∀ a, a ≠ 8 → a ≠ 9 → a ≠ 10 → a ≠ 11 → mv a = m1 a) ∨ (1 ≤ p ∧ p ≤ 1000) ∧ 0 ≤ rpA (m1 1) p ∧ rpV (m1 1) p < 1000000 ∧ (∀ k : Nat, (k : Int) < m1 1 0 → rpOk (m1 1) p k) ∧ y = rpV (m1 1) p ∧ ∃ mS mp, (∀ a, a ≠ 8 → a ≠ 9 → a ≠ 10 → a ≠ 11 → mS a = m1 a) ∧ PastPush mS mp ∧ (∀ a, a ≠ 1 → mv a = mp a) ∧ mv 1 = rpN (m1 1) p (m1 1 0).toNat) : z = y ∧ CR (n + 1) mv := by
  obtain ⟨hRI, hRS⟩ := h.2.2.1
  have hG := hRI.1
  have g0 := hG.1
  have e0 : m0 21 0 = m0 1 0 := hRS.1
  obtain ⟨sA, sV, sD⟩ := py_rp hRS hG p
  have far : ∀ c, c ≠ 20 → (c < 43 ∨ 153 ≤ c) → remM m0 c = m0 c := fun c a b => remM_far h.2.2.2.2.1 a b
  have rw3 : ∀ k : Nat, k < 8 → m0 23 k = m0 1 (11 + k) ∧ m0 24 k = m0 1 (19 + k) ∧ m0 27 k = m0 1 (43 + k) := fun k hk => by
    have a := hRS.2.2.1 1 (by omega) k hk
    have b := hRS.2.2.1 2 (by omega) k hk
    have c := hRS.2.2.1 5 (by omega) k hk
    rw [show 3 + 8 * 1 + k = 11 + k by omega] at a
    rw [show 3 + 8 * 2 + k = 19 + k by omega] at b
    rw [show 3 + 8 * 5 + k = 43 + k by omega] at c
    exact ⟨a, b, c⟩
  have hOk : ∀ k : Nat, (k : Int) < m0 1 0 → (pyOk m0 p k ↔ rpOk (m0 1) p k) := fun k hk => by
    obtain ⟨a, b, c⟩ := rw3 k (by omega)
    unfold pyOk rpOk
    rw [sD k, a, b, c]
  have e11 : m1 1 = m0 1 := by
    rcases hc with ⟨_, q⟩ | ⟨_, _, _, _, _, _, ⟨mB, q1, q2⟩, _⟩
    · exact q.1 1 (by decide)
    · rw [q2 1 (by decide) (by decide) (by decide) (by decide), remM_eq h q1 1 (by decide), far 1 (by decide) (by decide)]
  rw [e11] at hr
  rw [e0, sV, sA] at hc
  rcases hc with ⟨hf, hk⟩ | ⟨a1, aA, a2, a3, a4, a5, ⟨mB, a6, a7⟩, a8, a9, a10⟩
  · rcases hr with ⟨rf, rk⟩ | ⟨b1, bA, b2, b3, _⟩
    · constructor
      · rcases hf with ⟨x1, x2⟩ | ⟨x1, x2, x3⟩ | ⟨x1, xA, x2, x3⟩ | ⟨x1, xA, x2, x3, x4⟩
        · rcases rf with ⟨y1, y2⟩ | ⟨y1, _⟩ | ⟨y1, _⟩ | ⟨y1, _⟩
          · rw [x2, y2]
          · exact absurd y1 x1
          · exact absurd y1 x1
          · exact absurd y1 x1
        · rcases rf with ⟨y1, _⟩ | ⟨_, y2, y3⟩ | ⟨_, y2, _⟩ | ⟨_, y2, _⟩
          · exact absurd x1 y1
          · rw [x3, y3]
          · omega
          · omega
        · rcases rf with ⟨y1, _⟩ | ⟨_, y2, y3⟩ | ⟨_, _, y2, y3⟩ | ⟨_, _, y2, _⟩
          · exact absurd x1 y1
          · omega
          · rw [x3, y3]
          · exact absurd y2 x2
        · rcases rf with ⟨y1, _⟩ | ⟨_, y2, _⟩ | ⟨_, _, y2, _⟩ | ⟨_, _, _, _, y4⟩
          · exact absurd x1 y1
          · omega
          · exact absurd x2 y2
          · rw [x4, y4]
      · have c := hk.1
        exact (h.frame (fun a p1 p7 => by rw [rk a (by omega) (by omega) (by omega) (by omega)]; exact c a (by omega)) (by rw [rk 0 (by decide) (by decide) (by decide) (by decide), c 0 (by decide)]) (by rw [rk 0 (by decide) (by decide) (by decide) (by decide), c 0 (by decide)]) (by rw [rk 0 (by decide) (by decide) (by decide) (by decide), c 0 (by decide)]) (fun a p1 p2 => by rw [rk a (by omega) (by omega) (by omega) (by omega)]; exact c a p2) (hk.2.congr (fun a p1 _ _ _ => rk a (by omega) (by omega) (by omega) (by omega)))).mono (by omega)
    · rcases hf with ⟨x1, _⟩ | ⟨_, x2, _⟩ | ⟨_, _, x2, _⟩ | ⟨_, _, _, ⟨k, k1, k2⟩, _⟩
      · exact absurd b1 x1
      · omega
      · exact absurd b2 x2
      · exact absurd ((hOk k k1).mpr (b3 k k1)) k2
  · rcases hr with ⟨rf, _⟩ | ⟨_, _, _, b3, b4, mS, mp, b5, b6, b7, b8⟩
    · rcases rf with ⟨y1, _⟩ | ⟨_, y2, _⟩ | ⟨_, _, y2, _⟩ | ⟨_, _, _, ⟨k, k1, k2⟩, _⟩
      · exact absurd a1 y1
      · omega
      · exact absurd a2 y2
      · exact absurd ((hOk k k1).mp (a3 k k1)) k2
    · refine ⟨by rw [a4, b4], ?_⟩
      have m1c : ∀ c, c < 179 → c ≠ 23 → c ≠ 24 → c ≠ 27 → m1 c = remM m0 c := fun c x1 x2 x3 x4 => by rw [a7 c x1 x2 x3 x4, remM_eq h a6 c x1]
      have hi : ∀ c, 20 ≤ c → mv c = m1 c := fun c hc2 => by rw [b7 c (by omega), b6.1 c (by omega) (by omega), b5 c (by omega) (by omega) (by omega) (by omega)]
      have rng : ∀ k : Nat, (k : Int) < m0 1 0 → 0 ≤ m0 1 (11 + k) + m0 1 (43 + k) - rpD (m0 1) p k ∧ m0 1 (11 + k) + m0 1 (43 + k) - rpD (m0 1) p k ≤ 99 ∧ 0 ≤ m0 1 (19 + k) + rpD (m0 1) p k ∧ m0 1 (19 + k) + rpD (m0 1) p k ≤ 99 := fun k hk2 => by
        have q := rpD_rng (p := p) hG hk2
        have b := hG.2.2.2.2.2.1 1 (by omega) k (by omega)
        rw [show 11 + 8 * 1 + k = 19 + k by omega] at b
        have o := b3 k hk2
        unfold rpOk at o
        omega
      have hv : ∀ b, mv 1 b = if 11 ≤ b ∧ b < 11 + (m0 1 0).toNat then m0 1 b + m0 1 (b + 32) - rpD (m0 1) p (b - 11) else if 19 ≤ b ∧ b < 19 + (m0 1 0).toNat then m0 1 b + rpD (m0 1) p (b - 19) else if 43 ≤ b ∧ b < 43 + (m0 1 0).toNat then 0 else m0 1 b := fun b => by rw [b8]; rfl
      have hG2 : GR (mv 1) := by
        refine hG.rows (fun j hj => by rw [hv, if_neg (by omega), if_neg (by omega), if_neg (by omega)]) (fun r hr5 k hk2 => ?_) (fun i hi2 => ?_) ?_
        · have b := hG.2.2.2.2.2.1 r hr5 k hk2
          rw [hv]
          by_cases w : 11 ≤ 11 + 8 * r + k ∧ 11 + 8 * r + k < 11 + (m0 1 0).toNat
          · have q := rng k (by omega)
            rw [if_pos w, show 11 + 8 * r + k - 11 = k by omega, show 11 + 8 * r + k + 32 = 43 + k by omega, show 11 + 8 * r + k = 11 + k by omega]
            exact ⟨q.1, q.2.1⟩
          · rw [if_neg w]
            by_cases w2 : 19 ≤ 11 + 8 * r + k ∧ 11 + 8 * r + k < 19 + (m0 1 0).toNat
            · have q := rng k (by omega)
              rw [if_pos w2, show 11 + 8 * r + k - 19 = k by omega, show 11 + 8 * r + k = 19 + k by omega]
              exact ⟨q.2.2.1, q.2.2.2⟩
            · rw [if_neg w2]
              split
              · omega
              · exact b
        · rw [hv, if_neg (by omega), if_neg (by omega), if_neg (by omega)]
          exact hG.2.2.2.2.2.2.1 i hi2
        · rw [sumN_congr (g := fun _ => 0) (fun k hk2 => by rw [hv, if_neg (by omega), if_neg (by omega), if_pos (by omega)]), sumN_zero]
          decide
      refine h.act (m1 := m1) (mr := mS) (mp := mp) (fun c x1 x2 => m1c c x1 (by omega) (by omega) (by omega)) (fun j => by rw [m1c 20 (by decide) (by decide) (by decide) (by decide)]) a5 (fun a x1 x2 => b5 a (by omega) (by omega) (by omega) (by omega)) (by rw [b5 0 (by decide) (by decide) (by decide) (by decide)]) (by rw [b5 0 (by decide) (by decide) (by decide) (by decide)]) (by rw [b5 0 (by decide) (by decide) (by decide) (by decide)]) (fun a x1 => b5 a (by omega) (by omega) (by omega) (by omega)) b6 (fun a x1 _ => b7 a (by omega)) (by rw [b7 0 (by decide)]) (by rw [b7 0 (by decide)]) (by rw [b7 0 (by decide)]) ⟨?_, ?_⟩
      · exact hRI.rows hG2 (fun j hj => by rw [hv, if_neg (by omega), if_neg (by omega), if_neg (by omega)]) (fun k hk2 => by
          have q := hRI.2.2.2 k hk2
          rw [hv, if_neg (by omega), if_neg (by omega), if_neg (by omega)]
          omega)
      · refine hRS.rows (fun j hj => by rw [hv, if_neg (by omega), if_neg (by omega), if_neg (by omega)]) (by rw [hi 21 (by decide), m1c 21 (by decide) (by decide) (by decide) (by decide), far 21 (by decide) (by decide)]) (fun c x1 x2 => by rw [hi c (by omega), m1c c (by omega) (by omega) (by omega) (by omega), far c (by omega) (by omega)]) (fun r hr7 k hk2 => ?_)
        have q := hRS.2.2.1 r hr7 k hk2
        obtain ⟨w1, w2, w3⟩ := rw3 k hk2
        rw [show 21 + 1 + r = 22 + r by omega] at q ⊢
        rw [hi _ (by omega), hv]
        by_cases r1 : r = 1
        · subst r1
          rw [show 22 + 1 = 23 by rfl, a8, w1, w3, sD k]
          by_cases w : (k : Int) < m0 1 0
          · rw [if_pos w, if_pos (by omega), show 3 + 8 * 1 + k - 11 = k by omega, show 3 + 8 * 1 + k + 32 = 43 + k by omega, show 3 + 8 * 1 + k = 11 + k by omega]
          · rw [if_neg w, if_neg (by omega), if_neg (by omega), if_neg (by omega), show 3 + 8 * 1 + k = 11 + k by omega]
        · by_cases r2 : r = 2
          · subst r2
            rw [show 22 + 2 = 24 by rfl, a9, w2, sD k]
            by_cases w : (k : Int) < m0 1 0
            · rw [if_pos w, if_neg (by omega), if_pos (by omega), show 3 + 8 * 2 + k - 19 = k by omega, show 3 + 8 * 2 + k = 19 + k by omega]
            · rw [if_neg w, if_neg (by omega), if_neg (by omega), if_neg (by omega), show 3 + 8 * 2 + k = 19 + k by omega]
          · by_cases r5 : r = 5
            · subst r5
              rw [show 22 + 5 = 27 by rfl, a10, w3]
              by_cases w : (k : Int) < m0 1 0
              · rw [if_pos w, if_neg (by omega), if_neg (by omega), if_pos (by omega)]
              · rw [if_neg w, if_neg (by omega), if_neg (by omega), if_neg (by omega), show 3 + 8 * 5 + k = 43 + k by omega]
            · rw [m1c _ (by omega) (by omega) (by omega) (by omega), far _ (by omega) (by omega), if_neg (by omega), if_neg (by omega), if_neg (by omega)]
              exact q
/-! a day drawn, on both sides -/
theorem addS_far (h : Nat → Int) (p : Int) {b : Nat} (h2 : 69 + 10 * (h 2).toNat ≤ b) : addS h p b = h b := by
  unfold addS
  rw [if_neg (by omega), if_neg (by omega), if_neg (by omega), if_neg (by omega)]
theorem drwG_far {h : Nat → Int} {M x : Int} (h2 : 0 ≤ h 2) : ∀ i : Nat, (drwG h M x i).1 2 = h 2 + i ∧ ∀ b : Nat, 59 + 10 * (h 2 + i).toNat ≤ b → (drwG h M x i).1 b = h b
  | 0 => ⟨by show h 2 = _; omega, fun _ _ => rfl⟩
  | i + 1 => by
    obtain ⟨i1, i2⟩ := drwG_far (M := M) (x := x) h2 i
    rw [drwG_s]
    dsimp only
    refine ⟨by rw [addS_2, i1]; omega, fun b hb => ?_⟩
    rw [addS_far _ _ (by rw [i1]; omega)]
    exact i2 b (by omega)
theorem CR.drawn {n : Int} {m0 m1 mv : Mem} {x c z y : Int} (h : CR n m0)
    (hc : ¬ (m0 1 0 ≠ 0 ∧ 1 ≤ c ∧ c ≤ 10) ∧ z = -1 ∧ m1 = m0 ∨ (m0 1 0 ≠ 0 ∧ 1 ≤ c ∧ c ≤ 10) ∧ (5 ≤ m0 1 1 ∨ 40 < m0 1 2 + c) ∧ z = -2 ∧ m1 = m0 ∨ (m0 1 0 ≠ 0 ∧ 1 ≤ c ∧ c ≤ 10) ∧ m0 1 1 < 5 ∧ m0 1 2 + c ≤ 40 ∧ z = m0 1 1 + 1 ∧ (∀ c, c ≠ 21 → c ≠ 29 → c ≠ 30 → c ≠ 31 → m1 c = remM m0 c) ∧ RS m1 21 (drwG (bump (m0 1)) (2 * m0 1 (3 + (m0 1 0 - 1).toNat)) x c.toNat).1)
    (hr : ¬ (m1 1 0 ≠ 0 ∧ 1 ≤ c ∧ c ≤ 10) ∧ y = -1 ∧ mv = m1 ∨ (m1 1 0 ≠ 0 ∧ 1 ≤ c ∧ c ≤ 10) ∧ (m1 1 1 = 5 ∨ 40 < m1 1 2 + c) ∧ y = -2 ∧ mv = m1 ∨ (m1 1 0 ≠ 0 ∧ 1 ≤ c ∧ c ≤ 10) ∧ m1 1 1 < 5 ∧ m1 1 2 + c ≤ 40 ∧ y = m1 1 1 + 1 ∧ ∃ mp, PastPush m1 mp ∧ (∀ a, a ≠ 0 → a ≠ 1 → mv a = mp a) ∧ (∀ j, j ≠ 27 → mv 0 j = mp 0 j) ∧ mv 1 = (drwG (bump (m1 1)) (2 * m1 1 (3 + (m1 1 0 - 1).toNat)) x c.toNat).1) : z = y ∧ CR (n + 1) mv := by
  obtain ⟨hRI, hRS⟩ := h.2.2.1
  have hG := hRI.1
  have g0 := hG.1
  have g1 := hG.2.1
  have g2 := hG.2.2.1
  have far : ∀ c, c ≠ 20 → (c < 43 ∨ 153 ≤ c) → remM m0 c = m0 c := fun c a b => remM_far h.2.2.2.2.1 a b
  have e11 : m1 1 = m0 1 := by
    rcases hc with ⟨_, _, q⟩ | ⟨_, _, _, q⟩ | ⟨_, _, _, _, q, _⟩
    · rw [q]
    · rw [q]
    · rw [q 1 (by decide) (by decide) (by decide) (by decide), far 1 (by decide) (by decide)]
  rw [e11] at hr
  rcases hc with ⟨a1, a2, a3⟩ | ⟨a1, a2, a3, a4⟩ | ⟨a1, a2, a3, a4, a5, a6⟩
  · rcases hr with ⟨_, b2, b3⟩ | ⟨b1, _⟩ | ⟨b1, _⟩
    · refine ⟨by rw [a2, b2], ?_⟩
      rw [b3, a3]
      exact h.mono (by omega)
    · exact absurd b1 a1
    · exact absurd b1 a1
  · rcases hr with ⟨b1, _⟩ | ⟨_, b2, b3, b4⟩ | ⟨_, b2, b3, _⟩
    · exact absurd a1 b1
    · refine ⟨by rw [a3, b3], ?_⟩
      rw [b4, a4]
      exact h.mono (by omega)
    · omega
  · rcases hr with ⟨b1, _⟩ | ⟨_, b2, _⟩ | ⟨_, _, _, b4, mp, b5, b6, b7, b8⟩
    · exact absurd a1 b1
    · omega
    · refine ⟨by rw [a4, b4], ?_⟩
      have hD := hG.dawn a2
      obtain ⟨f2, hf⟩ : ∃ q, q = (drwG (bump (m0 1)) (2 * m0 1 (3 + (m0 1 0 - 1).toNat)) x c.toNat).1 := ⟨_, rfl⟩
      have u0 : bump (m0 1) 0 = m0 1 0 := bump_ne _ (by decide)
      have u2 : bump (m0 1) 2 = m0 1 2 := bump_ne _ (by decide)
      have u1 : bump (m0 1) 1 = m0 1 1 + 1 := if_pos rfl
      have ok := drwG_ok (h := bump (m0 1)) (M := 2 * m0 1 (3 + (m0 1 0 - 1).toNat)) (x := x) hD (by rw [u0]; omega) (by rw [u1]; omega) (by rw [u0, bump_ne _ (by omega)]) c.toNat (by rw [u2]; omega)
      have fr := (drwG_far (h := bump (m0 1)) (M := 2 * m0 1 (3 + (m0 1 0 - 1).toNat)) (x := x) (by rw [u2]; omega) c.toNat).2
      rw [← hf] at ok fr a6 b8
      rw [u2] at ok fr
      obtain ⟨o1, o2, o3⟩ := ok
      have hi : ∀ c, 20 ≤ c → mv c = m1 c := fun c hc2 => by rw [b6 c (by omega) (by omega), b5.1 c (by omega) (by omega)]
      refine h.act (m1 := m1) (mr := m1) (mp := mp) (fun c x1 x2 => a5 c (by omega) (by omega) (by omega) (by omega)) (fun j => by rw [a5 20 (by decide) (by decide) (by decide) (by decide)]) (h.2.2.2.1.congr (fun a x1 x2 _ _ => by rw [a5 a (by omega) (by omega) (by omega) (by omega), far a (by omega) (by omega)])) (fun _ _ _ => rfl) rfl rfl rfl (fun _ _ => rfl) b5 (fun a x1 _ => b6 a (by omega) (by omega)) (b7 5 (by decide)) (b7 7 (by decide)) (b7 10 (by decide)) ⟨?_, ?_⟩
      · rw [b8]
        refine ⟨o1, fun _ => ?_, fun j hj => ?_, fun k hk => ?_⟩
        · rw [o3 0 (by decide) (by decide), u0]; omega
        · rw [o2] at hj
          rw [fr j hj, bump_ne _ (by omega)]
          exact hRI.2.2.1 j (by omega)
        · rw [o3 _ (by omega) (by omega), bump_ne _ (by omega)]
          have q := hRI.2.2.2 k hk
          omega
      · rw [b8]
        exact a6.congr (fun a x1 x2 => hi a (by omega))
