/-! what holds of the two before and behind every call -/
def ReadC (mem : Mem) : Prop := (0 ≤ mem 0 10 ∧ mem 0 10 ≤ 400) ∧ (∀ k : Nat, 459 ≤ k → mem 2 k = 0) ∧ ∀ k : Nat, mem 7 k = 0 ∨ mem 7 k = 1
def ShelfC (n : Int) (mem : Mem) : Prop := (0 ≤ mem 20 8 ∧ mem 20 8 ≤ 3) ∧ ∀ k : Nat, (mem 5 k = 0 ∨ mem 5 k = 1) ∧ (k < 2 → iand (ishr (mem 20 8) (k : Int)) 1 = mem 5 k ∧ (mem 5 k = 1 → RI n (rowP mem 4 k) ∧ RS mem (stB (12 + k)) (rowP mem 4 k)))
def NowC (n : Int) (mem : Mem) : Prop := RI n (mem 1) ∧ RS mem 21 (mem 1)
def CR (n : Int) (mem : Mem) : Prop := TC mem mem ∧ ReadC mem ∧ NowC n mem ∧ CI mem ∧ PastC n mem ∧ ShelfC n mem
theorem ReadC.congr {m mv : Mem} (h : ReadC m) (e0 : mv 0 10 = m 0 10) (e2 : mv 2 = m 2) (e7 : mv 7 = m 7) : ReadC mv := by
  unfold ReadC
  rw [e0, e2, e7]
  exact h
theorem NowC.congr {n : Int} {m mv : Mem} (h : NowC n m) (e1 : mv 1 = m 1) (e : ∀ c, 21 ≤ c → c ≤ 31 → mv c = m c) : NowC n mv := by
  unfold NowC
  rw [e1]
  exact ⟨h.1, h.2.congr (fun c c1 c2 => e c c1 (by omega))⟩
theorem ShelfC.congr {n : Int} {m mv : Mem} (h : ShelfC n m) (e8 : mv 20 8 = m 20 8) (e4 : mv 4 = m 4) (e5 : mv 5 = m 5) (e : ∀ c, 153 ≤ c → c < 175 → mv c = m c) : ShelfC n mv := by
  refine ⟨by rw [e8]; exact h.1, fun k => ⟨by rw [e5]; exact (h.2 k).1, fun hk => ?_⟩⟩
  obtain ⟨a1, a2⟩ := (h.2 k).2 hk
  have er : rowP mv 4 k = rowP m 4 k := rowP_congr (fun b _ => by rw [e4])
  rw [e8, e5, er]
  exact ⟨a1, fun q => ⟨(a2 q).1, (a2 q).2.congr (fun c c1 c2 => by unfold stB at c1 c2; exact e c (by omega) (by omega))⟩⟩
theorem ShelfC.mono {n m : Int} {mem : Mem} (h : ShelfC n mem) (hm : n ≤ m) : ShelfC m mem := ⟨h.1, fun k => ⟨(h.2 k).1, fun hk => ⟨((h.2 k).2 hk).1, fun q => ⟨(((h.2 k).2 hk).2 q).1.mono hm, (((h.2 k).2 hk).2 q).2⟩⟩⟩⟩
theorem CR.mono {n m : Int} {mem : Mem} (h : CR n mem) (hm : n ≤ m) : CR m mem := ⟨h.1, h.2.1, ⟨h.2.2.1.1.mono hm, h.2.2.1.2⟩, h.2.2.2.1, h.2.2.2.2.1.mono hm, h.2.2.2.2.2.mono hm⟩
/-- nothing that is told of has changed -/
theorem CR.frame {n : Int} {m0 mv : Mem} (h : CR n m0) (e : ∀ a, 1 ≤ a → a ≤ 7 → mv a = m0 a) (e05 : mv 0 5 = m0 0 5) (e07 : mv 0 7 = m0 0 7) (e010 : mv 0 10 = m0 0 10) (ec : ∀ a, 20 ≤ a → a < 179 → mv a = m0 a) (hCI : CI mv) : CR n mv := by
  obtain ⟨h1, h2, h3, h4, h5, h6⟩ := h
  have e20 := ec 20 (by decide) (by decide)
  exact ⟨h1.congr e07 (by rw [e20]) (e 6 (by decide) (by decide)) (ec 176 (by decide) (by decide)), h2.congr e010 (e 2 (by decide) (by decide)) (e 7 (by decide) (by decide)), h3.congr (e 1 (by decide) (by decide)) (fun c c1 c2 => ec c (by omega) (by omega)), hCI, h5.congr (e 3 (by decide) (by decide)) e05 (by rw [e20]) (by rw [e20]) (fun c c1 c2 => ec c (by omega) (by omega)), h6.congr (by rw [e20]) (e 4 (by decide) (by decide)) (e 5 (by decide) (by decide)) (fun c c1 c2 => ec c (by omega) (by omega))⟩
/-- behind a question to both -/
theorem CR.asked {n : Int} {m0 m1 mv : Mem} (h : CR n m0) (hc : KeepC m0 m1) (hk : Keep m1 mv) : CR n mv := by
  obtain ⟨k1, k3, k4, k5, k6, k05, k07, ka, k10⟩ := hk
  have c := hc.1
  refine h.frame (fun a a1 a7 => ?_) (by rw [k05, c 0 (by decide)]) (by rw [k07, c 0 (by decide)]) (by rw [k10, c 0 (by decide)]) (fun a a1 a2 => by rw [ka a (Or.inl a1)]; exact c a a2) (hc.2.congr (fun a a1 a2 _ _ => ka a (Or.inl (by omega))))
  have ha : a = 1 ∨ a = 2 ∨ a = 3 ∨ a = 4 ∨ a = 5 ∨ a = 6 ∨ a = 7 := by omega
  rcases ha with rfl | rfl | rfl | rfl | rfl | rfl | rfl
  · rw [k1]; exact c 1 (by decide)
  · rw [ka 2 (by decide)]; exact c 2 (by decide)
  · rw [k3]; exact c 3 (by decide)
  · rw [k4]; exact c 4 (by decide)
  · rw [k5]; exact c 5 (by decide)
  · rw [k6]; exact c 6 (by decide)
  · rw [ka 7 (by decide)]; exact c 7 (by decide)
theorem CR.feed {n : Int} {m0 : Mem} {a b c d e : Int} (h : CR n m0) (hT : m0 0 7 ≤ 380) : CR n (feedN (feedC m0 a b c d e) a b c d e) := by
  obtain ⟨h1, h2, h3, h4, h5, h6⟩ := h
  have g : TC m0 (feedC m0 a b c d e) := h1.congr (by rw [feedC_ne (by decide) (by decide)]) rfl (feedC_ne (by decide) (by decide)) rfl
  have t := g.feed (a := a) (b := b) (c := c) (d := d) (e := e) (by rw [feedC_ne (by decide) (by decide)]; exact hT)
  have o : ∀ k, k ≠ 0 → k ≠ 6 → k ≠ 20 → k ≠ 176 → feedN (feedC m0 a b c d e) a b c d e k = m0 k := fun k k0 k6 k20 k176 => by rw [feedN_ne k0 k6, feedC_ne k20 k176]
  have o20 : ∀ j, j ≠ 3 → feedN (feedC m0 a b c d e) a b c d e 20 j = m0 20 j := fun j hj => by rw [feedN_ne (by decide) (by decide), feedC_20 hj]
  have o0 : ∀ j, j ≠ 7 → feedN (feedC m0 a b c d e) a b c d e 0 j = m0 0 j := fun j hj => by rw [feedN_0 hj, feedC_ne (by decide) (by decide)]
  refine ⟨t.congr rfl (by rw [feedN_ne (by decide) (by decide)]) rfl (feedN_ne (by decide) (by decide)), h2.congr (o0 10 (by decide)) (o 2 (by decide) (by decide) (by decide) (by decide)) (o 7 (by decide) (by decide) (by decide) (by decide)), h3.congr (o 1 (by decide) (by decide) (by decide) (by decide)) (fun c c1 c2 => o c (by omega) (by omega) (by omega) (by omega)), h4.congr (fun a a1 a2 _ _ => o a (by omega) (by omega) (by omega) (by omega)), h5.congr (o 3 (by decide) (by decide) (by decide) (by decide)) (o0 5 (by decide)) (o20 5 (by decide)) (o20 6 (by decide)) (fun c c1 c2 => o c (by omega) (by omega) (by omega) (by omega)), h6.congr (o20 8 (by decide)) (o 4 (by decide) (by decide) (by decide) (by decide)) (o 5 (by decide) (by decide) (by decide) (by decide)) (fun c c1 c2 => o c (by omega) (by omega) (by omega) (by omega))⟩
theorem CR.end {n z : Int} {m0 : Mem} (h : CR n m0) (hz : 0 ≤ z ∧ z ≤ m0 0 7) : CR n (mset (mset m0 20 3 z) 0 7 z) := by
  obtain ⟨h1, h2, h3, h4, h5, h6⟩ := h
  have o : ∀ k, k ≠ 0 → k ≠ 20 → mset (mset m0 20 3 z) 0 7 z k = m0 k := fun k k0 k20 => by rw [mset_nka k0, mset_nka k20]
  have o20 : ∀ j, j ≠ 3 → mset (mset m0 20 3 z) 0 7 z 20 j = m0 20 j := fun j hj => by rw [mset_nk (by decide), mset_ne (fun q => hj q.2)]
  have o0 : ∀ j, j ≠ 7 → mset (mset m0 20 3 z) 0 7 z 0 j = m0 0 j := fun j hj => by rw [mset_ne (fun q => hj q.2), mset_nk (by decide)]
  have x7 : mset (mset m0 20 3 z) 0 7 z 0 7 = z := mset_eq _ _ _ _
  have x3 : mset (mset m0 20 3 z) 0 7 z 20 3 = z := by rw [mset_nk (by decide), mset_eq]
  obtain ⟨t1, t2, t3, t4⟩ := h1
  refine ⟨⟨by rw [x7]; omega, by rw [x3, x7], fun p hp => by rw [o 176 (by decide) (by decide), o 6 (by decide) (by decide)]; exact t3 p hp, fun k => by rw [o 6 (by decide) (by decide)]; exact t4 k⟩, h2.congr (o0 10 (by decide)) (o 2 (by decide) (by decide)) (o 7 (by decide) (by decide)), h3.congr (o 1 (by decide) (by decide)) (fun c c1 c2 => o c (by omega) (by omega)), h4.congr (fun a a1 a2 _ _ => o a (by omega) (by omega)), h5.congr (o 3 (by decide) (by decide)) (o0 5 (by decide)) (o20 5 (by decide)) (o20 6 (by decide)) (fun c c1 c2 => o c (by omega) (by omega)), h6.congr (o20 8 (by decide)) (o 4 (by decide) (by decide)) (o 5 (by decide) (by decide)) (fun c c1 c2 => o c (by omega) (by omega))⟩
