/-! told, on both sides -/
/-- with nothing where there is no place -/
def tr2 (m : Mem) : Mem := fun a b => if a = 2 ∧ 459 ≤ b then 0 else m a b
theorem tr2_ne {m : Mem} {a : Nat} (h : a ≠ 2) : tr2 m a = m a := funext fun b => if_neg (fun q => h q.1)
theorem CR.tell {n : Int} {m0 m1 mv : Mem} {z y : Int} (h : CR n m0) (hn : 0 ≤ n)
    (c1 : ∀ c, (c < 20 ∨ 42 < c) → c ≠ 175 → m1 c = m0 c) (c20 : ∀ j, j ≠ 3 → j ≠ 6 → m1 20 j = m0 20 j) (c3 : m1 20 3 = 0)
    (hc : tellH m0 0 9 = -1 ∧ z = tellH m0 2 0 ∧ m1 20 6 = 0 ∧ RS m1 21 (tellH m0 2) ∧ GR (tellH m0 2) ∧ (∀ j : Nat, 59 + 10 * (tellH m0 2 2).toNat ≤ j → tellH m0 2 j = 0) ∧ (1 ≤ tellH m0 2 1 → 1 ≤ tellH m0 2 0) ∨ tellH m0 0 9 ≠ -1 ∧ z = -2 - tellH m0 0 9 ∧ m1 20 6 = m0 20 6 ∧ ∀ c, 21 ≤ c → c ≤ 31 → m1 c = m0 c)
    (hr : tellH m1 0 9 = -1 ∧ y = tellH m1 2 0 ∧ mv = mset (cpyN (mset (tellH m1) 0 7 0) 2 0 1 0 459) 0 5 0 ∨ tellH m1 0 9 ≠ -1 ∧ y = -2 - tellH m1 0 9 ∧ mv = mset (tellH m1) 0 7 0)
    (hok : RdOk (tellH m1)) (hb : ∀ k : Nat, 0 ≤ tellH m1 2 k ∧ tellH m1 2 k ≤ 100240) (h7 : ∀ k : Nat, tellH m1 7 k = 0 ∨ tellH m1 7 k = 1) (ho : ∀ a, a ≠ 0 → a ≠ 2 → a ≠ 7 → tellH m1 a = m1 a) : z = y ∧ CR (n + 1) (tr2 mv) := by
  have hlow : ∀ a, a < 20 → tellH m1 a = tellH m0 a := fun a ha => tellH_low (fun b hb2 => c1 b (Or.inl hb2) (by omega)) ha
  have t0 := hlow 0 (by decide)
  have t2 := hlow 2 (by decide)
  have r5 : tellH m1 0 5 = m1 0 5 := rgo_tellH m1 5 (by decide) (by decide) (by decide)
  obtain ⟨T, hT⟩ : ∃ x, x = tellH m1 := ⟨_, rfl⟩
  rw [← hT] at hr hok hb h7 ho t0 t2 r5
  rw [← t0, ← t2] at hc
  clear hT hlow t0 t2
  obtain ⟨h1, h2, h3, h4, h5, h6⟩ := h
  have e10 : 0 ≤ T 0 10 ∧ T 0 10 ≤ 400 := hok.2.2.2
  have g : ∀ a, a ≠ 0 → a ≠ 2 → a ≠ 7 → (a < 20 ∨ 42 < a) → a ≠ 175 → T a = m0 a := fun a a0 a2 a7 b b2 => by rw [ho a a0 a2 a7, c1 a b b2]
  rcases hc with ⟨x1, x2, x3, x4, x5, x6, x7⟩ | ⟨x1, x2, x3, x4⟩
  · rcases hr with ⟨_, y2, y3⟩ | ⟨y1, _⟩
    · refine ⟨by rw [x2, y2], ?_⟩
      have far : ∀ j : Nat, 459 ≤ j → T 2 j = 0 := fun j hj => x6 j (by have := x5.2.2.1; omega)
      have v : ∀ a, a ≠ 0 → a ≠ 1 → mv a = T a := fun a a0 a1 => by
        rw [y3, mset_nka a0]
        funext b
        unfold cpyN
        rw [if_neg (by omega), mset_nk a0]
      have v0 : ∀ j, mv 0 j = if j = 5 then 0 else if j = 7 then 0 else T 0 j := fun j => by
        rw [y3]
        by_cases q : j = 5
        · rw [if_pos q, q, mset_eq]
        · rw [if_neg q, mset_ne (fun w => q w.2)]
          unfold cpyN
          rw [if_neg (by omega)]
          by_cases q7 : j = 7
          · rw [if_pos q7, q7, mset_eq]
          · rw [if_neg q7, mset_ne (fun w => q7 w.2)]
      have v1 : mv 1 = T 2 := by
        funext b
        rw [y3, mset_nk (by decide)]
        unfold cpyN
        by_cases q : b < 459
        · rw [if_pos (by omega), mset_nk (by decide), Nat.zero_add, Nat.sub_zero]
        · rw [if_neg (by omega), mset_nk (by decide), g 1 (by decide) (by decide) (by decide) (by decide) (by decide), far b (by omega)]
          exact h3.1.far (by omega)
      have etr : tr2 mv = mv := by
        funext a b
        unfold tr2
        by_cases q : a = 2 ∧ 459 ≤ b
        · rw [if_pos q, q.1, v 2 (by decide) (by decide), far b q.2]
        · rw [if_neg q]
      rw [etr]
      have w : ∀ a, a ≠ 0 → a ≠ 1 → a ≠ 2 → a ≠ 7 → (a < 20 ∨ 42 < a) → a ≠ 175 → mv a = m0 a := fun a a0 a1 a2 a7 b b2 => by rw [v a a0 a1, g a a0 a2 a7 b b2]
      have w20 : ∀ j, mv 20 j = m1 20 j := fun j => by rw [v 20 (by decide) (by decide), ho 20 (by decide) (by decide) (by decide)]
      refine ⟨⟨by rw [v0, if_neg (by decide), if_pos rfl]; decide, by rw [w20, c3, v0, if_neg (by decide), if_pos rfl], fun p hp => by rw [w 176 (by decide) (by decide) (by decide) (by decide) (by decide) (by decide), w 6 (by decide) (by decide) (by decide) (by decide) (by decide) (by decide)]; exact h1.2.2.1 p hp, fun k => by rw [w 6 (by decide) (by decide) (by decide) (by decide) (by decide) (by decide)]; exact h1.2.2.2 k⟩, ⟨by rw [v0, if_neg (by decide), if_neg (by decide)]; exact e10, fun k hk => by rw [v 2 (by decide) (by decide)]; exact far k hk, fun k => by rw [v 7 (by decide) (by decide)]; exact h7 k⟩, ⟨by rw [v1]; exact ⟨x5, x7, x6, fun k hk => by have q := hb (51 + k); have q2 := h3.1.2.2.2 k hk; omega⟩, by rw [v1]; exact x4.congr (fun c a b => by rw [v c (by omega) (by omega), ho c (by omega) (by omega) (by omega)])⟩, h4.congr (fun a a1 a2 _ _ => w a (by omega) (by omega) (by omega) (by omega) (by omega) (by omega)), PastC.none (by rw [w20, c20 5 (by decide) (by decide)]; exact h5.1) (by rw [w20]; exact x3) (by rw [v0, if_pos rfl]), (h6.mono (by omega)).congr (by rw [w20, c20 8 (by decide) (by decide)]) (w 4 (by decide) (by decide) (by decide) (by decide) (by decide) (by decide)) (w 5 (by decide) (by decide) (by decide) (by decide) (by decide) (by decide)) (fun c a b => w c (by omega) (by omega) (by omega) (by omega) (by omega) (by omega))⟩
    · exact absurd x1 y1
  · rcases hr with ⟨y1, _⟩ | ⟨_, y2, y3⟩
    · exact absurd y1 x1
    · refine ⟨by rw [x2, y2], ?_⟩
      have v : ∀ a, a ≠ 0 → a ≠ 2 → tr2 mv a = T a := fun a a0 a2 => by rw [tr2_ne a2, y3, mset_nka a0]
      have v0 : ∀ j, tr2 mv 0 j = if j = 7 then 0 else T 0 j := fun j => by
        rw [tr2_ne (by decide), y3]
        by_cases q7 : j = 7
        · rw [if_pos q7, q7, mset_eq]
        · rw [if_neg q7, mset_ne (fun w => q7 w.2)]
      have w : ∀ a, a ≠ 0 → a ≠ 2 → a ≠ 7 → (a < 20 ∨ 42 < a) → a ≠ 175 → tr2 mv a = m0 a := fun a a0 a2 a7 b b2 => by rw [v a a0 a2, g a a0 a2 a7 b b2]
      have w20 : ∀ j, tr2 mv 20 j = m1 20 j := fun j => by rw [v 20 (by decide) (by decide), ho 20 (by decide) (by decide) (by decide)]
      have w21 : ∀ c, 21 ≤ c → c ≤ 31 → tr2 mv c = m0 c := fun c a b => by rw [v c (by omega) (by omega), ho c (by omega) (by omega) (by omega), x4 c a b]
      have w1 : tr2 mv 1 = m0 1 := w 1 (by decide) (by decide) (by decide) (by decide) (by decide)
      refine ⟨⟨by rw [v0, if_pos rfl]; decide, by rw [w20, c3, v0, if_pos rfl], fun p hp => by rw [w 176 (by decide) (by decide) (by decide) (by decide) (by decide), w 6 (by decide) (by decide) (by decide) (by decide) (by decide)]; exact h1.2.2.1 p hp, fun k => by rw [w 6 (by decide) (by decide) (by decide) (by decide) (by decide)]; exact h1.2.2.2 k⟩, ⟨by rw [v0, if_neg (by decide)]; exact e10, fun k hk => if_pos ⟨rfl, hk⟩, fun k => by rw [v 7 (by decide) (by decide)]; exact h7 k⟩, ⟨by rw [w1]; exact h3.1.up, by rw [w1]; exact h3.2.congr (fun c a b => w21 c a (by omega))⟩, h4.congr (fun a a1 a2 _ _ => w a (by omega) (by omega) (by omega) (by omega) (by omega)), (h5.mono (by omega)).congr (w 3 (by decide) (by decide) (by decide) (by decide) (by decide)) (by rw [v0, if_neg (by decide), r5, c1 0 (by decide) (by decide)]) (by rw [w20, c20 5 (by decide) (by decide)]) (by rw [w20, x3]) (fun c a b => w c (by omega) (by omega) (by omega) (by omega) (by omega)), (h6.mono (by omega)).congr (by rw [w20, c20 8 (by decide) (by decide)]) (w 4 (by decide) (by decide) (by decide) (by decide) (by decide)) (w 5 (by decide) (by decide) (by decide) (by decide) (by decide)) (fun c a b => w c (by omega) (by omega) (by omega) (by omega) (by omega))⟩
