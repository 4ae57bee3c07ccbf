/-! the reference: the kinds read -/
def kA (m : Mem) : Mem := if numM m 1 500 0 9 = -1 ∧ 0 < m 2 0 ∧ (numR m 1 500).1 ≤ m 2 (3 + m 2 0 - 1).toNat then flM (numM m 1 500) 2 (numM m 1 500 0 10) else numM m 1 500
def kB (m : Mem) : Mem := if kA m 0 9 = -1 ∧ m 2 0 = 8 then flM (kA m) 3 (kA m 0 10) else kA m
def kC (m : Mem) : Mem := if kB m 0 9 = -1 then mset (mset (kB m) 2 (3 + m 2 0).toNat (numR m 1 500).1) 2 0 (m 2 0 + 1) else kB m
def kD (m : Mem) : Mem := if kC m 0 9 = -1 then mset (kC m) 0 8 (skipF (kC m) 401 (kC m 0 8)) else kC m
def kMore (m : Mem) : Bool := decide (kC m 0 9 = -1 ∧ 48 ≤ sgn (kC m) (skipF (kC m) 401 (kC m 0 8)) ∧ sgn (kC m) (skipF (kC m) 401 (kC m 0 8)) ≤ 57)
def kindsL : Nat → Mem → Mem
  | 0, m => m
  | c + 1, m => if kMore m = true then kindsL c (kD m) else kD m
theorem kindsL_s (c : Nat) (m : Mem) : kindsL (c + 1) m = if kMore m = true then kindsL c (kD m) else kD m := rfl
theorem kA_ok {m : Mem} (h : RdOk m) : RdOk (kA m) ∧ ∀ a, a ≠ 0 → kA m a = m a := by
  have hn := numM_ok h 1 500
  have ha := (numM_at m 1 500).1
  unfold kA
  by_cases g : numM m 1 500 0 9 = -1 ∧ 0 < m 2 0 ∧ (numR m 1 500).1 ≤ m 2 (3 + m 2 0 - 1).toNat
  · rw [if_pos g]; exact ⟨flM_ok hn (by omega) hn.2.2.2, fun a h0 => by rw [flM_cell h0, ha a h0]⟩
  · rw [if_neg g]; exact ⟨hn, ha⟩
theorem kB_ok {m : Mem} (h : RdOk m) : RdOk (kB m) ∧ ∀ a, a ≠ 0 → kB m a = m a := by
  obtain ⟨hn, ha⟩ := kA_ok h
  unfold kB
  by_cases g : kA m 0 9 = -1 ∧ m 2 0 = 8
  · rw [if_pos g]; exact ⟨flM_ok hn (by omega) hn.2.2.2, fun a h0 => by rw [flM_cell h0, ha a h0]⟩
  · rw [if_neg g]; exact ⟨hn, ha⟩
theorem RdOk.cell {m mv : Mem} (h : RdOk m) (e : mv 0 = m 0) : RdOk mv := by
  unfold RdOk at h ⊢
  rw [e]; exact h
theorem kC_ok {m : Mem} (h : RdOk m) : RdOk (kC m) ∧ (∀ a, a ≠ 0 → a ≠ 2 → kC m a = m a) ∧ kC m 0 = kB m 0 := by
  obtain ⟨hn, ha⟩ := kB_ok h
  unfold kC
  by_cases g : kB m 0 9 = -1
  · rw [if_pos g]
    have e : mset (mset (kB m) 2 (3 + m 2 0).toNat (numR m 1 500).1) 2 0 (m 2 0 + 1) 0 = kB m 0 := by rw [mset_nka (by decide), mset_nka (by decide)]
    exact ⟨hn.cell e, fun a h0 h2 => by rw [mset_nka h2, mset_nka h2, ha a h0], e⟩
  · rw [if_neg g]; exact ⟨hn, fun a h0 _ => ha a h0, rfl⟩
theorem kD_ok {m : Mem} (h : RdOk m) : RdOk (kD m) ∧ ∀ a, a ≠ 0 → kD m a = kC m a := by
  obtain ⟨hn, ha, hz⟩ := kC_ok h
  have hs := skipF_bd (mem := kC m) hn.1.2 401 hn.2.1
  unfold kD
  by_cases g : kC m 0 9 = -1
  · rw [if_pos g]
    obtain ⟨h7, h8, h9, h10⟩ := hn
    exact ⟨⟨by rw [mset_ne (by decide)]; exact h7, by rw [mset_eq]; omega, by rw [mset_ne (by decide)]; exact h9, by rw [mset_ne (by decide)]; exact h10⟩, fun a h0 => mset_nka h0⟩
  · rw [if_neg g]; exact ⟨hn, fun _ _ => rfl⟩
