/-! the class and the reference beside each other -/
/-- what holds of every row of the reference that is now, past or on a shelf, behind so many calls -/
def RI (n : Int) (f : Nat → Int) : Prop := GR f ∧ (1 ≤ f 1 → 1 ≤ f 0) ∧ (∀ j : Nat, 59 + 10 * (f 2).toNat ≤ j → f j = 0) ∧ ∀ k : Nat, k < 8 → 0 ≤ f (51 + k) ∧ f (51 + k) ≤ 100240 + 99 * n
theorem RI.mono {n m : Int} {f : Nat → Int} (h : RI n f) (hm : n ≤ m) : RI m f := ⟨h.1, h.2.1, h.2.2.1, fun k hk => by have := h.2.2.2 k hk; omega⟩
theorem RI.far {n : Int} {f : Nat → Int} (h : RI n f) {j : Nat} (hj : 459 ≤ j) : f j = 0 := h.2.2.1 j (by have := h.1.2.2.1; omega)
/-- a row of a cell of many -/
def rowP (mem : Mem) (c i : Nat) : Nat → Int := fun b => if b < 459 then mem c (459 * i + b) else 0
theorem rowP_eq {mem : Mem} {c i : Nat} {f : Nat → Int} {n : Int} (hf : RI n f) (h : ∀ b, b < 459 → mem c (459 * i + b) = f b) : rowP mem c i = f := by
  funext b
  unfold rowP
  by_cases q : b < 459
  · rw [if_pos q, h b q]
  · rw [if_neg q, hf.far (by omega)]
theorem rowP_congr {mem mv : Mem} {c i j : Nat} (h : ∀ b, b < 459 → mv c (459 * i + b) = mem c (459 * j + b)) : rowP mv c i = rowP mem c j := by
  funext b
  unfold rowP
  by_cases q : b < 459
  · rw [if_pos q, if_pos q, h b q]
  · rw [if_neg q, if_neg q]
/-- where the class keeps the i-th of what is past, the oldest first -/
def posP (mem : Mem) (i : Nat) : Nat := ((mem 20 5).toNat + 10 + i - (mem 20 6).toNat) % 10
def PastC (n : Int) (mem : Mem) : Prop := (0 ≤ mem 20 5 ∧ mem 20 5 ≤ 9) ∧ (0 ≤ mem 20 6 ∧ mem 20 6 ≤ 10) ∧ mem 0 5 = mem 20 6 ∧ ∀ i : Nat, (i : Int) < mem 20 6 → RI n (rowP mem 3 i) ∧ RS mem (stB (2 + posP mem i)) (rowP mem 3 i)
theorem remM_20 (m : Mem) : remM m 20 5 = (m 20 5 + 1).tmod 10 ∧ remM m 20 6 = min (m 20 6 + 1) 10 ∧ ∀ j, j ≠ 5 → j ≠ 6 → remM m 20 j = m 20 j := by
  refine ⟨?_, ?_, fun j h5 h6 => ?_⟩
  · unfold remM
    rw [mset_ne (by decide), mset_eq]
  · unfold remM
    rw [mset_eq]
  · unfold remM
    rw [mset_ne (fun q => h6 q.2), mset_ne (fun q => h5 q.2), cpyS_ne (by unfold stB; omega)]
theorem remM_c {m : Mem} {c : Nat} (h : c ≠ 20) : remM m c = cpyS m (stB (2 + (m 20 5).toNat)) 21 11 c := by
  unfold remM
  rw [mset_nka h, mset_nka h]
/-- an act: now goes behind what is past, on both sides -/
theorem PastC.push {n : Int} {m0 mr m1 mv : Mem} (h : PastC n m0) (hI : RI n (m0 1)) (hR : RS m0 21 (m0 1)) (hc : ∀ c, 43 ≤ c → c < 153 → mv c = remM m0 c) (h5 : mv 20 5 = remM m0 20 5) (h6 : mv 20 6 = remM m0 20 6) (hp : PastPush mr m1) (r1 : mr 1 = m0 1) (r3 : mr 3 = m0 3) (r5 : mr 0 5 = m0 0 5) (e3 : mv 3 = m1 3) (e5 : mv 0 5 = m1 0 5) : PastC n mv := by
  obtain ⟨p5, p6, p0, pr⟩ := h
  obtain ⟨_, _, q, s, hq, hq1, hs, hn, ho⟩ := hp
  obtain ⟨x5, x6, _⟩ := remM_20 m0
  rw [Int.tmod_eq_emod_of_nonneg (by omega)] at x5
  rw [r5] at hs
  have hv6 : mv 20 6 = q + 1 := by rw [h6, x6]; omega
  have hv5 : mv 20 5 = (m0 20 5 + 1) % 10 := by rw [h5, x5]
  have hblk : ∀ j, j < 10 → j ≠ (m0 20 5).toNat → ∀ c, stB (2 + j) ≤ c → c ≤ stB (2 + j) + 10 → mv c = m0 c := fun j hj hne c c1 c2 => by
    unfold stB at c1 c2
    rw [hc c (by omega) (by omega), remM_c (by omega), cpyS_ne (by unfold stB; omega)]
  refine ⟨by omega, by omega, by rw [e5, hq1, hv6], fun i hi => ?_⟩
  rw [hv6] at hi
  have ep : posP mv i = if i = q then (m0 20 5).toNat else posP m0 (i + s) := by
    unfold posP
    by_cases z : i = q
    · rw [if_pos z]; omega
    · rw [if_neg z]; omega
  rw [ep]
  by_cases z : i = q
  · subst z
    have er : rowP mv 3 i = m0 1 := rowP_eq hI (fun b hb => by rw [e3, hn b hb, r1])
    rw [er, if_pos rfl]
    refine ⟨hI, (hR.cpy (b := stB (2 + (m0 20 5).toNat)) hI.1).congr (fun c c1 c2 => ?_)⟩
    unfold stB at c1 c2
    rw [hc c (by omega) (by omega), remM_c (by omega)]
  · have er : rowP mv 3 i = rowP m0 3 (i + s) := rowP_congr (fun b hb => by rw [e3, ho i b (by omega) hb, r3])
    rw [er, if_neg z]
    obtain ⟨a1, a2⟩ := pr (i + s) (by omega)
    have hpl : posP m0 (i + s) < 10 := Nat.mod_lt _ (by decide)
    have hne : posP m0 (i + s) ≠ (m0 20 5).toNat := by
      unfold posP
      omega
    exact ⟨a1, a2.congr (hblk _ hpl hne)⟩
theorem PastC.mono {n m : Int} {mem : Mem} (h : PastC n mem) (hm : n ≤ m) : PastC m mem := ⟨h.1, h.2.1, h.2.2.1, fun i hi => ⟨(h.2.2.2 i hi).1.mono hm, (h.2.2.2 i hi).2⟩⟩
theorem PastC.congr {n : Int} {mem mv : Mem} (h : PastC n mem) (e3 : mv 3 = mem 3) (e05 : mv 0 5 = mem 0 5) (e5 : mv 20 5 = mem 20 5) (e6 : mv 20 6 = mem 20 6) (e : ∀ c, 43 ≤ c → c < 153 → mv c = mem c) : PastC n mv := by
  obtain ⟨p5, p6, p0, pr⟩ := h
  refine ⟨by rw [e5]; exact p5, by rw [e6]; exact p6, by rw [e05, e6]; exact p0, fun i hi => ?_⟩
  rw [e6] at hi
  have er : rowP mv 3 i = rowP mem 3 i := rowP_congr (fun b _ => by rw [e3])
  have ep : posP mv i = posP mem i := by unfold posP; rw [e5, e6]
  rw [er, ep]
  have hpl : posP mem i < 10 := Nat.mod_lt _ (by decide)
  exact ⟨(pr i hi).1, (pr i hi).2.congr (fun c c1 c2 => by unfold stB at c1 c2; exact e c (by omega) (by omega))⟩
/-- nothing is past -/
theorem PastC.none {n : Int} {mv : Mem} (h5 : 0 ≤ mv 20 5 ∧ mv 20 5 ≤ 9) (h6 : mv 20 6 = 0) (h0 : mv 0 5 = 0) : PastC n mv := ⟨h5, by omega, by omega, fun i hi => by omega⟩
/-- an act undone -/
theorem PastC.undo {n : Int} {m0 mv : Mem} (h : PastC n m0) (h0 : m0 20 6 ≠ 0) (e3 : mv 3 = m0 3) (e05 : mv 0 5 = m0 0 5 - 1) (e5 : mv 20 5 = (m0 20 5 + 10 - 1).tmod 10) (e6 : mv 20 6 = m0 20 6 - 1) (e : ∀ c, 43 ≤ c → c < 153 → mv c = m0 c) (hn : ∀ c, 21 ≤ c → c ≤ 31 → mv c = cpyS m0 21 (stB (2 + ((m0 20 5 + 10 - 1).tmod 10).toNat)) 11 c) : PastC n mv ∧ RI n (rowP m0 3 (m0 20 6 - 1).toNat) ∧ RS mv 21 (rowP m0 3 (m0 20 6 - 1).toNat) := by
  obtain ⟨p5, p6, p0, pr⟩ := h
  rw [Int.tmod_eq_emod_of_nonneg (by omega)] at e5 hn
  have hlast := pr (m0 20 6 - 1).toNat (by omega)
  have el : posP m0 (m0 20 6 - 1).toNat = ((m0 20 5 + 10 - 1) % 10).toNat := by
    unfold posP
    omega
  rw [el] at hlast
  refine ⟨⟨by omega, by omega, by omega, fun i hi => ?_⟩, hlast.1, ?_⟩
  · rw [e6] at hi
    have er : rowP mv 3 i = rowP m0 3 i := rowP_congr (fun b _ => by rw [e3])
    have ep : posP mv i = posP m0 i := by
      unfold posP
      omega
    rw [er, ep]
    have hpl : posP m0 i < 10 := Nat.mod_lt _ (by decide)
    exact ⟨(pr i (by omega)).1, (pr i (by omega)).2.congr (fun c c1 c2 => by unfold stB at c1 c2; exact e c (by omega) (by omega))⟩
  · exact (hlast.2.cpy (b := 21) hlast.1.1).congr (fun c c1 c2 => hn c c1 (by omega))
