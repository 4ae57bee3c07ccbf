/-! undone, kept, back -/
theorem sh_keep : ∀ x : Fin 4, ∀ r : Fin 2, (0 ≤ ior (x.val : Int) (ishl 1 (r.val : Int)) ∧ ior (x.val : Int) (ishl 1 (r.val : Int)) ≤ 3) ∧ ∀ r2 : Fin 2, iand (ishr (ior (x.val : Int) (ishl 1 (r.val : Int))) (r2.val : Int)) 1 = if r2.val = r.val then 1 else iand (ishr (x.val : Int) (r2.val : Int)) 1 := by decide +kernel
theorem RI.up {n : Int} {f : Nat → Int} (h : RI n f) : RI (n + 1) f := h.mono (by omega)
/-- an act undone, on both sides -/
theorem CR.undo {n : Int} {m0 : Mem} (h : CR n m0) (h0 : m0 20 6 ≠ 0) : CR (n + 1) (undoM (undoC m0)) := by
  obtain ⟨h1, h2, h3, h4, h5, h6⟩ := h
  have e05 : m0 0 5 = m0 20 6 := h5.2.2.1
  have p6 := h5.2.1
  have p5 := h5.1
  have tm := tmod10 (x := m0 20 5 + 10 - 1) (by omega)
  obtain ⟨C, hC⟩ : ∃ x, x = undoC m0 := ⟨_, rfl⟩
  obtain ⟨M, hM⟩ : ∃ x, x = undoM C := ⟨_, rfl⟩
  rw [← hC, ← hM]
  have c20 : ∀ j, C 20 j = if j = 6 then m0 20 6 - 1 else if j = 5 then (m0 20 5 + 10 - 1).tmod 10 else m0 20 j := fun j => by
    rw [hC]
    unfold undoC
    by_cases q : j = 6
    · rw [if_pos q, q, mset_eq]
    · rw [if_neg q, mset_ne (fun w => q w.2), cpyS_ne (by omega)]
      by_cases q5 : j = 5
      · rw [if_pos q5, q5, mset_eq]
      · rw [if_neg q5, mset_ne (fun w => q5 w.2)]
  have cc : ∀ c, c ≠ 20 → C c = cpyS (mset m0 20 5 ((m0 20 5 + 10 - 1).tmod 10)) 21 (stB (2 + ((m0 20 5 + 10 - 1).tmod 10).toNat)) 11 c := fun c hc => by
    rw [hC]
    unfold undoC
    rw [mset_nka hc]
  have cn : ∀ c, c ≠ 20 → (c < 21 ∨ 31 < c) → C c = m0 c := fun c hc hc2 => by rw [cc c hc, cpyS_ne (by omega), mset_nka hc]
  have cw : ∀ c, 21 ≤ c → c ≤ 31 → C c = cpyS m0 21 (stB (2 + ((m0 20 5 + 10 - 1).tmod 10).toNat)) 11 c := fun c a b => by
    rw [cc c (by omega)]
    funext j
    unfold cpyS
    by_cases q : 21 ≤ c ∧ c < 21 + 11 ∧ j < wid (c - 21)
    · rw [if_pos q, if_pos q, mset_nk (by unfold stB; omega)]
    · rw [if_neg q, if_neg q, mset_nk (by omega)]
  have mn : ∀ c, c ≠ 0 → c ≠ 1 → M c = C c := fun c a b => by
    rw [hM]
    unfold undoM
    funext j
    unfold cpyN
    rw [if_neg (by omega), mset_nk a]
  have m0j : ∀ j, M 0 j = if j = 5 then m0 0 5 - 1 else m0 0 j := fun j => by
    rw [hM]
    unfold undoM cpyN
    rw [if_neg (by omega), cn 0 (by decide) (by decide)]
    by_cases q : j = 5
    · rw [if_pos q, q, mset_eq]
    · rw [if_neg q, mset_ne (fun w => q w.2), cn 0 (by decide) (by decide)]
  have hP := h5.undo (mv := M) h0 (by rw [mn 3 (by decide) (by decide), cn 3 (by decide) (by decide)]) (by rw [m0j, if_pos rfl]) (by rw [mn 20 (by decide) (by decide), c20, if_neg (by decide), if_pos rfl]) (by rw [mn 20 (by decide) (by decide), c20, if_pos rfl]) (fun c a b => by rw [mn c (by omega) (by omega), cn c (by omega) (by omega)]) (fun c a b => by rw [mn c (by omega) (by omega), cw c a b])
  obtain ⟨hP1, hP2, hP3⟩ := hP
  have hM1 : M 1 = rowP m0 3 (m0 20 6 - 1).toNat := by
    funext b
    rw [hM]
    unfold undoM cpyN rowP
    rw [cn 0 (by decide) (by decide)]
    by_cases q : b < 459
    · rw [if_pos (by omega), if_pos q, mset_nk (by decide), cn 3 (by decide) (by decide)]
      congr 1
      omega
    · rw [if_neg (by omega), if_neg q, mset_nk (by decide), cn 1 (by decide) (by decide)]
      exact h3.1.far (by omega)
  have lo : ∀ a, 2 ≤ a → a < 20 → M a = m0 a := fun a a1 a2 => by rw [mn a (by omega) (by omega), cn a (by omega) (by omega)]
  have hi : ∀ a, 32 ≤ a → M a = m0 a := fun a a1 => by rw [mn a (by omega) (by omega), cn a (by omega) (by omega)]
  have o20 : ∀ j, j ≠ 5 → j ≠ 6 → M 20 j = m0 20 j := fun j a b => by rw [mn 20 (by decide) (by decide), c20, if_neg b, if_neg a]
  refine ⟨h1.congr (by rw [m0j, if_neg (by decide)]) (o20 3 (by decide) (by decide)) (lo 6 (by decide) (by decide)) (hi 176 (by decide)), h2.congr (by rw [m0j, if_neg (by decide)]) (lo 2 (by decide) (by decide)) (lo 7 (by decide) (by decide)), ⟨by rw [hM1]; exact hP2.up, by rw [hM1]; exact hP3⟩, h4.congr (fun a a1 a2 _ _ => hi a (by omega)), hP1.mono (by omega), (h6.mono (by omega)).congr (o20 8 (by decide) (by decide)) (lo 4 (by decide) (by decide)) (lo 5 (by decide) (by decide)) (fun c c1 c2 => hi c (by omega))⟩
theorem CR.keep {n k : Int} {m0 : Mem} (h : CR n m0) (hk : 0 ≤ k ∧ k ≤ 1) : CR (n + 1) (keepM (keepC m0 k) k) := by
  obtain ⟨h1, h2, h3, h4, h5, h6⟩ := h
  obtain ⟨C, hC⟩ : ∃ x, x = keepC m0 k := ⟨_, rfl⟩
  obtain ⟨M, hM⟩ : ∃ x, x = keepM C k := ⟨_, rfl⟩
  rw [← hC, ← hM]
  have cb : ∀ c, c ≠ 20 → C c = cpyS m0 (stB (12 + k.toNat)) 21 11 c := fun c a => by
    rw [hC]
    unfold keepC
    rw [mset_nka a]
  have cn : ∀ c, c ≠ 20 → (c < stB (12 + k.toNat) ∨ stB (12 + k.toNat) + 11 ≤ c) → C c = m0 c := fun c a b => by rw [cb c a, cpyS_ne b]
  have c20 : ∀ j, C 20 j = if j = 8 then ior (m0 20 8) (ishl 1 k) else m0 20 j := fun j => by
    rw [hC]
    unfold keepC
    by_cases q : j = 8
    · rw [if_pos q, q, mset_eq]
    · rw [if_neg q, mset_ne (fun w => q w.2), cpyS_ne (by unfold stB; omega)]
  have mn : ∀ c, c ≠ 4 → c ≠ 5 → M c = C c := fun c a b => by
    rw [hM]
    unfold keepM
    rw [mset_nka b]
    funext j
    unfold cpyN
    rw [if_neg (by omega)]
  have sb : 153 ≤ stB (12 + k.toNat) := by unfold stB; omega
  have sb2 : stB (12 + k.toNat) + 11 ≤ 175 := by unfold stB; omega
  have lo : ∀ a, a < 20 → a ≠ 4 → a ≠ 5 → M a = m0 a := fun a a1 a2 a3 => by rw [mn a a2 a3, cn a (by omega) (by omega)]
  have mi : ∀ a, 21 ≤ a → (a < 153 ∨ 175 ≤ a) → M a = m0 a := fun a a1 a2 => by rw [mn a (by omega) (by omega), cn a (by omega) (by omega)]
  have o20 : ∀ j, j ≠ 8 → M 20 j = m0 20 j := fun j a => by rw [mn 20 (by decide) (by decide), c20, if_neg a]
  have m4 : ∀ b, M 4 b = if 459 * k.toNat ≤ b ∧ b < 459 * k.toNat + 459 then m0 1 (b - 459 * k.toNat) else m0 4 b := fun b => by
    rw [hM]
    unfold keepM
    rw [mset_nk (by decide)]
    unfold cpyN
    rw [show (459 * k).toNat = 459 * k.toNat by omega, cn 1 (by decide) (by omega), cn 4 (by decide) (by omega)]
    by_cases q : 459 * k.toNat ≤ b ∧ b < 459 * k.toNat + 459
    · rw [if_pos ⟨rfl, q⟩, if_pos q, Nat.zero_add]
    · rw [if_neg (fun w => q w.2), if_neg q]
  have m5 : ∀ j, M 5 j = if j = k.toNat then 1 else m0 5 j := fun j => by
    rw [hM]
    unfold keepM
    by_cases q : j = k.toNat
    · rw [if_pos q, q, mset_eq]
    · rw [if_neg q, mset_ne (fun w => q w.2)]
      unfold cpyN
      rw [if_neg (by omega), cn 5 (by decide) (by omega)]
  refine ⟨h1.congr (by rw [lo 0 (by decide) (by decide) (by decide)]) (o20 3 (by decide)) (lo 6 (by decide) (by decide) (by decide)) (mi 176 (by decide) (by decide)), h2.congr (by rw [lo 0 (by decide) (by decide) (by decide)]) (lo 2 (by decide) (by decide) (by decide)) (lo 7 (by decide) (by decide) (by decide)), ⟨by rw [lo 1 (by decide) (by decide) (by decide)]; exact h3.1.up, by rw [lo 1 (by decide) (by decide) (by decide)]; exact h3.2.congr (fun c a b => mi c a (by omega))⟩, h4.congr (fun a a1 a2 _ _ => mi a (by omega) (by omega)), (h5.mono (by omega)).congr (lo 3 (by decide) (by decide) (by decide)) (by rw [lo 0 (by decide) (by decide) (by decide)]) (o20 5 (by decide)) (o20 6 (by decide)) (fun c a b => mi c (by omega) (by omega)), ?_⟩
  obtain ⟨s8, sk⟩ := h6
  have key := sh_keep ⟨(m0 20 8).toNat, by omega⟩ ⟨k.toNat, by omega⟩
  simp only [Int.toNat_of_nonneg s8.1, Int.toNat_of_nonneg hk.1] at key
  have e8 : M 20 8 = ior (m0 20 8) (ishl 1 k) := by rw [mn 20 (by decide) (by decide), c20, if_pos rfl]
  refine ⟨by rw [e8]; exact key.1, fun j => ⟨?_, fun hj => ?_⟩⟩
  · rw [m5]
    by_cases q : j = k.toNat
    · rw [if_pos q]; exact Or.inr rfl
    · rw [if_neg q]; exact (sk j).1
  · have kj := key.2 ⟨j, hj⟩
    rw [e8, m5]
    by_cases q : j = k.toNat
    · have er : rowP M 4 j = m0 1 := rowP_eq h3.1 (fun b hb => by rw [m4, if_pos (by omega), q]; congr 1; omega)
      rw [if_pos q] at kj
      rw [if_pos q, er]
      refine ⟨kj, fun _ => ⟨h3.1.up, ?_⟩⟩
      rw [q]
      exact (h3.2.cpy (b := stB (12 + k.toNat)) h3.1.1).congr (fun c a b => by rw [mn c (by omega) (by omega), cb c (by omega)])
    · have er : rowP M 4 j = rowP m0 4 j := rowP_congr (fun b hb => by rw [m4, if_neg (by omega)])
      rw [if_neg q] at kj
      rw [if_neg q, er]
      obtain ⟨a1, a2⟩ := (sk j).2 hj
      refine ⟨kj.trans a1, fun w => ⟨(a2 w).1.up, (a2 w).2.congr (fun c a b => ?_)⟩⟩
      unfold stB at a b
      rw [mn c (by omega) (by omega), cn c (by omega) (by unfold stB; omega)]
theorem CR.back {n k : Int} {m0 : Mem} (h : CR n m0) (hk : 0 ≤ k ∧ k ≤ 1) (hkept : m0 5 k.toNat = 1) : CR (n + 1) (backM (backC m0 k) k) := by
  obtain ⟨h1, h2, h3, h4, h5, h6⟩ := h
  obtain ⟨a1, a2⟩ := (h6.2 k.toNat).2 (by omega)
  obtain ⟨hRI, hRS⟩ := a2 hkept
  obtain ⟨C, hC⟩ : ∃ x, x = backC m0 k := ⟨_, rfl⟩
  obtain ⟨M, hM⟩ : ∃ x, x = backM C k := ⟨_, rfl⟩
  rw [← hC, ← hM]
  have cb : ∀ c, c ≠ 20 → C c = cpyS m0 21 (stB (12 + k.toNat)) 11 c := fun c a => by
    rw [hC]
    unfold backC
    rw [mset_nka a]
  have cn : ∀ c, c ≠ 20 → (c < 21 ∨ 32 ≤ c) → C c = m0 c := fun c a b => by rw [cb c a, cpyS_ne (by omega)]
  have c20 : ∀ j, C 20 j = if j = 6 then 0 else m0 20 j := fun j => by
    rw [hC]
    unfold backC
    by_cases q : j = 6
    · rw [if_pos q, q, mset_eq]
    · rw [if_neg q, mset_ne (fun w => q w.2), cpyS_ne (by omega)]
  have mn : ∀ c, c ≠ 0 → c ≠ 1 → M c = C c := fun c a b => by
    rw [hM]
    unfold backM
    rw [mset_nka a]
    funext j
    unfold cpyN
    rw [if_neg (by omega)]
  have m0j : ∀ j, M 0 j = if j = 5 then 0 else m0 0 j := fun j => by
    rw [hM]
    unfold backM
    by_cases q : j = 5
    · rw [if_pos q, q, mset_eq]
    · rw [if_neg q, mset_ne (fun w => q w.2)]
      unfold cpyN
      rw [if_neg (by omega), cn 0 (by decide) (by decide)]
  have hM1 : M 1 = rowP m0 4 k.toNat := by
    funext b
    rw [hM]
    unfold backM
    rw [mset_nk (by decide)]
    unfold cpyN rowP
    by_cases q : b < 459
    · rw [if_pos (by omega), if_pos q, cn 4 (by decide) (by decide)]
      congr 1
      omega
    · rw [if_neg (by omega), if_neg q, cn 1 (by decide) (by decide)]
      exact h3.1.far (by omega)
  have lo : ∀ a, 2 ≤ a → a < 20 → M a = m0 a := fun a a1 a2 => by rw [mn a (by omega) (by omega), cn a (by omega) (by omega)]
  have hi : ∀ a, 32 ≤ a → M a = m0 a := fun a a1 => by rw [mn a (by omega) (by omega), cn a (by omega) (by omega)]
  have o20 : ∀ j, j ≠ 6 → M 20 j = m0 20 j := fun j b => by rw [mn 20 (by decide) (by decide), c20, if_neg b]
  refine ⟨h1.congr (by rw [m0j, if_neg (by decide)]) (o20 3 (by decide)) (lo 6 (by decide) (by decide)) (hi 176 (by decide)), h2.congr (by rw [m0j, if_neg (by decide)]) (lo 2 (by decide) (by decide)) (lo 7 (by decide) (by decide)), ⟨by rw [hM1]; exact hRI.up, ?_⟩, h4.congr (fun a a1 a2 _ _ => hi a (by omega)), PastC.none (by rw [o20 5 (by decide)]; exact h5.1) (by rw [mn 20 (by decide) (by decide), c20, if_pos rfl]) (by rw [m0j, if_pos rfl]), (h6.mono (by omega)).congr (o20 8 (by decide)) (lo 4 (by decide) (by decide)) (lo 5 (by decide) (by decide)) (fun c c1 c2 => hi c (by omega))⟩
  rw [hM1]
  exact (hRS.cpy (b := 21) hRI.1).congr (fun c a b => by rw [mn c (by omega) (by omega), cb c (by omega)])
