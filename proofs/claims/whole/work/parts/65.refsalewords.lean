/-! the reference: a sale read -/
def qV (m : Mem) : Int := (numR m 1 500).1
def qK (m : Mem) : Int := kindAt (fun k => numM m 1 500 2 (3 + k)) (qV m) (numM m 1 500 2 0).toNat 0
def qA (m : Mem) : Mem := if numM m 1 500 0 9 = -1 ∧ qK m = -1 then flM (numM m 1 500) 2 (numM m 1 500 0 10) else numM m 1 500
def qB (m : Mem) (c : Int) : Mem := if qA m 0 9 = -1 ∧ c = 5 then flM (qA m) 3 (qA m 0 10) else qA m
def qC (m : Mem) (c t : Int) : Mem := if qB m c 0 9 = -1 then mset (qB m c) 2 (t + 2 + qK m).toNat (qB m c 2 (t + 2 + qK m).toNat + 1) else qB m c
def qD (m : Mem) (c t : Int) : Mem := if qC m c t 0 9 = -1 then mset (qC m c t) 0 8 (skipF (qC m c t) 401 (qC m c t 0 8)) else qC m c t
def qMore (m : Mem) (c t : Int) : Bool := decide (qC m c t 0 9 = -1 ∧ 48 ≤ sgn (qC m c t) (skipF (qC m c t) 401 (qC m c t 0 8)) ∧ sgn (qC m c t) (skipF (qC m c t) 401 (qC m c t 0 8)) ≤ 57)
def pcL : Nat → Int → Int → Int → Mem → Mem × Int
  | 0, _, _, g, m => (m, g)
  | n + 1, c, t, g, m => if qMore m c t = true then pcL n (c + 1) t (g + qV m) (qD m c t) else (qD m c t, g + qV m)
theorem pcL_s (n : Nat) (c t g : Int) (m : Mem) : pcL (n + 1) c t g m = if qMore m c t = true then pcL n (c + 1) t (g + qV m) (qD m c t) else (qD m c t, g + qV m) := rfl
theorem kindAt_bd (g : Nat → Int) (v : Int) : ∀ (n k : Nat), kindAt g v n k = -1 ∨ (k : Int) ≤ kindAt g v n k ∧ kindAt g v n k < k + n
  | 0, k => Or.inl rfl
  | n + 1, k => by
    rw [kindAt]
    by_cases e : g k = v
    · rw [if_pos e]; omega
    · rw [if_neg e]
      have := kindAt_bd g v n (k + 1)
      omega
theorem qA_ok {m : Mem} (h : RdOk m) : RdOk (qA m) ∧ (∀ a, a ≠ 0 → qA m a = m a) ∧ (qA m 0 9 = -1 → qK m ≠ -1) := by
  have hn := numM_ok h 1 500
  have ha := (numM_at m 1 500).1
  unfold qA
  by_cases g : numM m 1 500 0 9 = -1 ∧ qK m = -1
  · rw [if_pos g]
    refine ⟨flM_ok hn (by omega) hn.2.2.2, fun a h0 => by rw [flM_cell h0, ha a h0], fun e => ?_⟩
    unfold flM at e
    rw [if_pos g.1, mset_eq] at e
    have := hn.2.2.2
    omega
  · rw [if_neg g]; exact ⟨hn, ha, fun e q => g ⟨e, q⟩⟩
theorem qB_ok {m : Mem} (h : RdOk m) (c : Int) : RdOk (qB m c) ∧ (∀ a, a ≠ 0 → qB m c a = m a) ∧ (qB m c 0 9 = -1 → qK m ≠ -1 ∧ c ≠ 5 ∧ qA m 0 9 = -1) := by
  obtain ⟨hn, ha, hk⟩ := qA_ok h
  unfold qB
  by_cases g : qA m 0 9 = -1 ∧ c = 5
  · rw [if_pos g]
    refine ⟨flM_ok hn (by omega) hn.2.2.2, fun a h0 => by rw [flM_cell h0, ha a h0], fun e => ?_⟩
    unfold flM at e
    rw [if_pos g.1, mset_eq] at e
    have := hn.2.2.2
    omega
  · rw [if_neg g]; exact ⟨hn, ha, fun e => ⟨hk e, fun q => g ⟨e, q⟩, e⟩⟩
theorem qC_ok {m : Mem} (h : RdOk m) (c t : Int) : RdOk (qC m c t) ∧ (∀ a, a ≠ 0 → a ≠ 2 → qC m c t a = m a) ∧ qC m c t 0 = qB m c 0 := by
  obtain ⟨hn, ha, _⟩ := qB_ok h c
  unfold qC
  by_cases g : qB m c 0 9 = -1
  · rw [if_pos g]
    have e : ∀ j x, mset (qB m c) 2 j x 0 = qB m c 0 := fun j x => mset_nka (by decide)
    exact ⟨hn.cell (e _ _), fun a h0 h2 => by rw [mset_nka h2, ha a h0], e _ _⟩
  · rw [if_neg g]; exact ⟨hn, fun a h0 _ => ha a h0, rfl⟩
theorem qD_ok {m : Mem} (h : RdOk m) (c t : Int) : RdOk (qD m c t) ∧ ∀ a, a ≠ 0 → qD m c t a = qC m c t a := by
  obtain ⟨hn, ha, hz⟩ := qC_ok h c t
  have hs := skipF_bd (mem := qC m c t) hn.1.2 401 hn.2.1
  unfold qD
  by_cases g : qC m c t 0 9 = -1
  · rw [if_pos g]
    obtain ⟨h7, h8, h9, h10⟩ := hn
    exact ⟨⟨by rw [mset_ne (by decide)]; exact h7, by rw [mset_eq]; omega, by rw [mset_ne (by decide)]; exact h9, by rw [mset_ne (by decide)]; exact h10⟩, fun a h0 => mset_nka h0⟩
  · rw [if_neg g]; exact ⟨hn, fun _ _ => rfl⟩
def sA (m : Mem) (p : Int) : Mem := if m 2 1 = 0 then flM m 1 p else m
def sB (m : Mem) (p : Int) : Mem := if m 2 2 = 40 then flM (sA m p) 3 p else sA m p
def sTo (m : Mem) : Int := 59 + 10 * m 2 2
def sC0 (m : Mem) : Mem := mset m 2 (sTo m).toNat (m 2 1 - 1)
def sC (m : Mem) : Mem := mset (numM (sC0 m) 1 1000) 2 (sTo m + 1).toNat (numR (sC0 m) 1 1000).1
def sCs (m : Mem) : Mem := mset (sC m) 0 8 (skipF (sC m) 401 (sC m 0 8))
def sD (m : Mem) : Mem := if sC m 0 9 = -1 then (if sgn (sC m) (skipF (sC m) 401 (sC m 0 8)) = 58 then sCs m else flM (sCs m) 1 (sCs m 0 8)) else sC m
def sE (m : Mem) : Mem := mset (sD m) 0 8 (sD m 0 8 + if sD m 0 9 = -1 then 1 else 0)
def sF (m : Mem) : Mem × Int := pcL 7 0 (sTo m) 0 (sE m)
def sG (m : Mem) : Mem := if (sF m).1 0 9 = -1 ∧ (sF m).2 < (sF m).1 2 (sTo m + 1).toNat then flM (sF m).1 4 ((sF m).1 0 10) else (sF m).1
def saleM (m : Mem) (p : Int) : Mem := if sB m p 0 9 = -1 then mset (sG (sB m p)) 2 2 (sG (sB m p) 2 2 + 1) else sB m p
theorem sB_ok {m : Mem} {p : Int} (h : RdOk m) (hp : 0 ≤ p ∧ p ≤ 400) : RdOk (sA m p) ∧ RdOk (sB m p) ∧ (∀ a, a ≠ 0 → sA m p a = m a) ∧ (∀ a, a ≠ 0 → sB m p a = m a) ∧ (sB m p 0 9 = -1 → m 2 1 ≠ 0 ∧ m 2 2 ≠ 40 ∧ m 0 9 = -1) := by
  have h1 : RdOk (sA m p) ∧ (∀ a, a ≠ 0 → sA m p a = m a) ∧ (sA m p 0 9 = -1 → m 2 1 ≠ 0 ∧ m 0 9 = -1) := by
    unfold sA
    by_cases g : m 2 1 = 0
    · rw [if_pos g]
      refine ⟨flM_ok h (by omega) hp, fun a ha => flM_cell ha, fun e => ?_⟩
      unfold flM at e
      by_cases q : m 0 9 = -1
      · rw [if_pos q, mset_eq] at e; omega
      · rw [if_neg q] at e; exact absurd e q
    · rw [if_neg g]; exact ⟨h, fun _ _ => rfl, fun e => ⟨g, e⟩⟩
  obtain ⟨a1, a2, a3⟩ := h1
  refine ⟨a1, ?_⟩
  unfold sB
  by_cases g : m 2 2 = 40
  · rw [if_pos g]
    refine ⟨flM_ok a1 (by omega) hp, a2, fun a ha => by rw [flM_cell ha, a2 a ha], fun e => ?_⟩
    unfold flM at e
    by_cases q : sA m p 0 9 = -1
    · rw [if_pos q, mset_eq] at e; omega
    · rw [if_neg q] at e; exact absurd e q
  · rw [if_neg g]; exact ⟨a1, a2, a2, fun e => ⟨(a3 e).1, g, (a3 e).2⟩⟩
theorem sC_ok {m : Mem} (h : RdOk m) : RdOk (sC0 m) ∧ RdOk (sC m) ∧ (∀ a, a ≠ 0 → a ≠ 2 → sC m a = m a) ∧ sC m 2 = mset (sC0 m) 2 (sTo m + 1).toNat (numR (sC0 m) 1 1000).1 2 := by
  have e0 : sC0 m 0 = m 0 := mset_nka (by decide)
  have h0 : RdOk (sC0 m) := h.cell e0
  have hn := numM_ok h0 1 1000
  have ha := (numM_at (sC0 m) 1 1000).1
  have e1 : sC m 0 = numM (sC0 m) 1 1000 0 := mset_nka (by decide)
  refine ⟨h0, hn.cell e1, fun a h1 h2 => ?_, ?_⟩
  · unfold sC
    rw [mset_nka h2, ha a h1]
    exact mset_nka h2
  · unfold sC
    funext j
    by_cases q : j = (sTo m + 1).toNat
    · rw [q, mset_eq, mset_eq]
    · rw [mset_ne (fun z => q z.2), mset_ne (fun z => q z.2), ha 2 (by decide)]
theorem sD_ok {m : Mem} (h : RdOk m) : RdOk (sD m) ∧ (∀ a, a ≠ 0 → sD m a = sC m a) ∧ (sD m 0 9 = -1 → sD m 0 8 + 1 ≤ 400) := by
  obtain ⟨_, hn, _, _⟩ := sC_ok h
  have hs := skipF_bd (mem := sC m) hn.1.2 401 hn.2.1
  obtain ⟨h7, h8, h9, h10⟩ := hn
  have hc : RdOk (sCs m) := by
    unfold sCs
    exact ⟨by rw [mset_ne (by decide)]; exact h7, by rw [mset_eq]; omega, by rw [mset_ne (by decide)]; exact h9, by rw [mset_ne (by decide)]; exact h10⟩
  have hca : ∀ a, a ≠ 0 → sCs m a = sC m a := fun a h0 => mset_nka h0
  unfold sD
  by_cases g : sC m 0 9 = -1
  · rw [if_pos g]
    by_cases q : sgn (sC m) (skipF (sC m) 401 (sC m 0 8)) = 58
    · rw [if_pos q]
      refine ⟨hc, hca, fun _ => ?_⟩
      have hlt : skipF (sC m) 401 (sC m 0 8) < sC m 0 7 := by
        by_cases y : skipF (sC m) 401 (sC m 0 8) < sC m 0 7
        · exact y
        · have e : sgn (sC m) (skipF (sC m) 401 (sC m 0 8)) = -1 := if_neg y
          omega
      unfold sCs
      rw [mset_eq]
      omega
    · rw [if_neg q]
      refine ⟨flM_ok hc (by omega) hc.2.1, fun a h0 => by rw [flM_cell h0, hca a h0], fun e => ?_⟩
      unfold flM at e
      have e9 : sCs m 0 9 = -1 := by unfold sCs; rw [mset_ne (by decide)]; exact g
      rw [if_pos e9, mset_eq] at e
      have := hc.2.1
      omega
  · rw [if_neg g]; exact ⟨⟨h7, h8, h9, h10⟩, fun _ _ => rfl, fun e => absurd e g⟩
theorem sE_ok {m : Mem} (h : RdOk m) : RdOk (sE m) ∧ (∀ a, a ≠ 0 → sE m a = sC m a) := by
  obtain ⟨⟨h7, h8, h9, h10⟩, ha, hb⟩ := sD_ok h
  unfold sE
  refine ⟨⟨by rw [mset_ne (by decide)]; exact h7, ?_, by rw [mset_ne (by decide)]; exact h9, by rw [mset_ne (by decide)]; exact h10⟩, fun a h0 => by rw [mset_nka h0, ha a h0]⟩
  rw [mset_eq]
  by_cases g : sD m 0 9 = -1
  · rw [if_pos g]; have := hb g; omega
  · rw [if_neg g]; omega
