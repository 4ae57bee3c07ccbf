/-! the reference: a day lived, sale by sale -/
theorem goneD_congr {f g : Nat → Bool} {num : Int} : ∀ {n : Nat} {a b : Int}, (∀ i, i < n → f i = g i) → goneD f num n a b = goneD g num n a b
  | 0, _, _, _ => rfl
  | n + 1, a, b, h => by
    unfold goneD
    rw [h n (Nat.lt_succ_self n), goneD_congr (a := num) (b := n) (fun i hi => h i (Nat.lt_succ_of_lt hi)), goneD_congr (a := a) (b := b) (fun i hi => h i (Nat.lt_succ_of_lt hi))]
theorem goneD_bd {f : Nat → Bool} {num : Int} : ∀ {n : Nat} {a b : Int}, (goneD f num n a b).1 = a ∨ (goneD f num n a b).1 = num
  | 0, _, _ => Or.inl rfl
  | n + 1, a, b => by
    unfold goneD
    split
    · rcases goneD_bd (f := f) (num := num) (n := n) (a := num) (b := n) with h | h
      · exact Or.inr h
      · exact Or.inr h
    · exact goneD_bd
/-- what a day's living has come to: the row, the least of each kind, how many short, pieces, not short, the first short one, which sale, which kind went, how many sales -/
abbrev LfS : Type := (Nat → Int) × (Nat → Int) × Int × Int × Int × Int × Int × Int × Int
def lifeS (m1 : Nat → Int) (s : Nat) (L : LfS) : LfS := match L with
  | (w, low, sh, pc, gd, fs, gs, gk, num) => (rowS m1 w s, (fun i => if (i : Int) < m1 0 then min (low i) (rowS m1 w s i) else low i), sh + (if shortS m1 w s = true then 1 else 0), pc + pcsS m1 w s, gd + (if shortS m1 w s = true then 0 else 1), (if shortS m1 w s = true ∧ fs = -2 then num else fs), (goneD (fun i => decide (rowS m1 w s i = 0) && decide (0 < w i)) num (m1 0).toNat gs gk).1, (goneD (fun i => decide (rowS m1 w s i = 0) && decide (0 < w i)) num (m1 0).toNat gs gk).2, num + 1)
def lifeN (m1 : Nat → Int) (d : Int) (L : LfS) : Nat → LfS
  | 0 => L
  | n + 1 => if sDay m1 n = d then lifeS m1 n (lifeN m1 d L n) else lifeN m1 d L n
theorem lifeN_s (m1 : Nat → Int) (d : Int) (L : LfS) {s : Int} (h : 0 ≤ s) : lifeN m1 d L (s + 1).toNat = if sDay m1 s.toNat = d then lifeS m1 s.toNat (lifeN m1 d L s.toNat) else lifeN m1 d L s.toNat := by
  rw [show (s + 1).toNat = s.toNat + 1 by omega]
  rfl
/-- its start from a row -/
def life0 (w low : Nat → Int) : LfS := (w, (fun i => if i < 8 then w i else low i), 0, 0, 0, -2, -2, -2, 0)
theorem rowS_bd {m1 w : Nat → Int} {s : Nat} (hN : m1 0 ≤ 8) (hw : ∀ k : Nat, k < 8 → 0 ≤ w k ∧ w k ≤ 99) (hg : ∀ k : Nat, k < 8 → 0 ≤ sGiven m1 s k) : ∀ k : Nat, k < 8 → 0 ≤ rowS m1 w s k ∧ rowS m1 w s k ≤ 99 := by
  intro k hk
  unfold rowS
  by_cases h : shortS m1 w s = true
  · rw [if_pos h]; exact hw k hk
  · rw [if_neg h]
    by_cases h2 : (k : Int) < m1 0
    · rw [if_pos h2]
      have h3 : ¬ anyN (overS m1 w s) (m1 0).toNat = true := fun z => h (by unfold shortS; rw [z, Bool.or_true])
      have h4 : ¬ overS m1 w s k = true := fun z => h3 (anyN_of (by omega) z)
      unfold overS at h4
      rw [decide_eq_true_iff] at h4
      have h5 := takR_le (valF m1) (fun i => (stk m1 w s i).toNat) (m1 0).toNat (abvS m1 s).toNat k (by omega)
      have h6 : 0 ≤ stk m1 w s k := by
        rw [stk, if_pos h2]
        have := hw k hk
        have := hg k hk
        omega
      try dsimp only at h5
      unfold takS at h4 ⊢
      omega
    · rw [if_neg h2]; exact hw k hk
/-- the bounds of what it comes to -/
def LB (n : Nat) (L : LfS) : Prop := (∀ k : Nat, k < 8 → 0 ≤ L.1 k ∧ L.1 k ≤ 99) ∧ (∀ k : Nat, k < 8 → 0 ≤ L.2.1 k ∧ L.2.1 k ≤ 99) ∧ (0 ≤ L.2.2.1 ∧ L.2.2.1 ≤ n) ∧ (0 ≤ L.2.2.2.2.1 ∧ L.2.2.2.2.1 ≤ n) ∧ (-2 ≤ L.2.2.2.2.2.1 ∧ L.2.2.2.2.2.1 ≤ n) ∧ (-2 ≤ L.2.2.2.2.2.2.1 ∧ L.2.2.2.2.2.2.1 ≤ n) ∧ (0 ≤ L.2.2.2.2.2.2.2.2 ∧ L.2.2.2.2.2.2.2.2 ≤ n)
theorem LB.step {m1 : Nat → Int} {s n : Nat} {L : LfS} (hN : m1 0 ≤ 8) (hg : ∀ k : Nat, k < 8 → 0 ≤ sGiven m1 s k) (h : LB n L) : LB (n + 1) (lifeS m1 s L) := by
  obtain ⟨w, low, sh, pc, gd, fs, gs, gk, num⟩ := L
  obtain ⟨h1, h2, h3, h4, h5, h6, h7⟩ := h
  dsimp only at h1 h2 h3 h4 h5 h6 h7
  have hr := rowS_bd (s := s) hN h1 hg
  refine ⟨hr, fun k hk => ?_, ?_, ?_, ?_, ?_, ?_⟩
  · have := hr k hk
    have := h2 k hk
    show 0 ≤ (if (k : Int) < m1 0 then min (low k) (rowS m1 w s k) else low k) ∧ (if (k : Int) < m1 0 then min (low k) (rowS m1 w s k) else low k) ≤ 99
    omega
  · show 0 ≤ sh + (if shortS m1 w s = true then 1 else 0) ∧ sh + (if shortS m1 w s = true then 1 else 0) ≤ ((n + 1 : Nat) : Int)
    split <;> omega
  · show 0 ≤ gd + (if shortS m1 w s = true then 0 else 1) ∧ gd + (if shortS m1 w s = true then 0 else 1) ≤ ((n + 1 : Nat) : Int)
    split <;> omega
  · show -2 ≤ (if shortS m1 w s = true ∧ fs = -2 then num else fs) ∧ (if shortS m1 w s = true ∧ fs = -2 then num else fs) ≤ ((n + 1 : Nat) : Int)
    split <;> omega
  · show -2 ≤ (goneD (fun i => decide (rowS m1 w s i = 0) && decide (0 < w i)) num (m1 0).toNat gs gk).1 ∧ (goneD (fun i => decide (rowS m1 w s i = 0) && decide (0 < w i)) num (m1 0).toNat gs gk).1 ≤ ((n + 1 : Nat) : Int)
    rcases goneD_bd (f := fun i => decide (rowS m1 w s i = 0) && decide (0 < w i)) (num := num) (n := (m1 0).toNat) (a := gs) (b := gk) with e | e <;> rw [e] <;> omega
  · show 0 ≤ num + 1 ∧ num + 1 ≤ ((n + 1 : Nat) : Int)
    omega
theorem LB.mono {n : Nat} {L : LfS} (h : LB n L) : LB (n + 1) L := ⟨h.1, h.2.1, by have := h.2.2.1; omega, by have := h.2.2.2.1; omega, by have := h.2.2.2.2.1; omega, by have := h.2.2.2.2.2.1; omega, by have := h.2.2.2.2.2.2; omega⟩
theorem lifeN_bd {m1 : Nat → Int} {d : Int} {L : LfS} (hN : m1 0 ≤ 8) (h : LB 0 L) : ∀ {n : Nat}, (∀ s : Nat, s < n → ∀ k : Nat, k < 8 → 0 ≤ sGiven m1 s k) → LB n (lifeN m1 d L n)
  | 0, _ => h
  | n + 1, hg => by
    have ih := lifeN_bd (d := d) hN h (n := n) (fun s hs => hg s (Nat.lt_succ_of_lt hs))
    unfold lifeN
    split
    · exact ih.step hN (hg n (Nat.lt_succ_self n))
    · exact ih.mono
/-- the memory holds it -/
def LRep (m : Mem) (L : LfS) (nu : Int) : Prop := m 14 = L.1 ∧ m 16 = L.2.1 ∧ m 0 21 = L.2.2.1 ∧ m 0 22 = L.2.2.2.1 ∧ m 0 23 = L.2.2.2.2.1 ∧ m 0 24 = L.2.2.2.2.2.1 ∧ m 0 25 = L.2.2.2.2.2.2.1 ∧ m 0 26 = L.2.2.2.2.2.2.2.1 ∧ nu = L.2.2.2.2.2.2.2.2
theorem LRep.step {m1 : Nat → Int} {s : Nat} {m mv : Mem} {L : LfS} {nu nu2 : Int} (h : LRep m L nu) (e14 : mv 14 = rowS m1 (m 14) s) (e16 : mv 16 = fun i : Nat => if (i : Int) < m1 0 then min (m 16 i) (mv 14 i) else m 16 i) (e21 : mv 0 21 = m 0 21 + (if shortS m1 (m 14) s = true then 1 else 0)) (e22 : mv 0 22 = m 0 22 + pcsS m1 (m 14) s) (e23 : mv 0 23 = m 0 23 + (if shortS m1 (m 14) s = true then 0 else 1)) (e24 : mv 0 24 = if shortS m1 (m 14) s = true ∧ m 0 24 = -2 then nu else m 0 24) (e25 : (mv 0 25, mv 0 26) = goneD (fun i => decide (mv 14 i = 0) && decide (0 < m 14 i)) nu (m1 0).toNat (m 0 25) (m 0 26)) (enu : nu2 = nu + 1) : LRep mv (lifeS m1 s L) nu2 := by
  obtain ⟨w, low, sh, pc, gd, fs, gs, gk, num⟩ := L
  obtain ⟨h1, h2, h3, h4, h5, h6, h7, h8, h9⟩ := h
  dsimp only at h1 h2 h3 h4 h5 h6 h7 h8 h9
  subst h9
  rw [h1] at e14 e21 e22 e23 e24 e25
  rw [h7, h8, e14] at e25
  rw [h2, e14] at e16
  refine ⟨e14, e16, by rw [e21, h3]; rfl, by rw [e22, h4]; rfl, by rw [e23, h5]; rfl, by rw [e24, h6]; rfl, ?_, ?_, enu⟩
  · exact congrArg Prod.fst e25
  · exact congrArg Prod.snd e25
theorem dX8_lives_0 : decode cX8_lives 0 = .ok (.aload_n 0, 1) := by decide +kernel
theorem dX8_lives_1 : decode cX8_lives 1 = .ok (.iconst 0, 1) := by decide +kernel
theorem dX8_lives_2 : decode cX8_lives 2 = .ok (.putfield 258, 3) := by decide +kernel
theorem dX8_lives_5 : decode cX8_lives 5 = .ok (.aload_n 0, 1) := by decide +kernel
theorem dX8_lives_6 : decode cX8_lives 6 = .ok (.iconst 0, 1) := by decide +kernel
theorem dX8_lives_7 : decode cX8_lives 7 = .ok (.putfield 255, 3) := by decide +kernel
theorem dX8_lives_10 : decode cX8_lives 10 = .ok (.aload_n 0, 1) := by decide +kernel
theorem dX8_lives_11 : decode cX8_lives 11 = .ok (.iconst 0, 1) := by decide +kernel
theorem dX8_lives_12 : decode cX8_lives 12 = .ok (.putfield 261, 3) := by decide +kernel
theorem dX8_lives_15 : decode cX8_lives 15 = .ok (.aload_n 0, 1) := by decide +kernel
theorem dX8_lives_16 : decode cX8_lives 16 = .ok (.bipush (-2), 2) := by decide +kernel
theorem dX8_lives_18 : decode cX8_lives 18 = .ok (.putfield 264, 3) := by decide +kernel
theorem dX8_lives_21 : decode cX8_lives 21 = .ok (.aload_n 0, 1) := by decide +kernel
theorem dX8_lives_22 : decode cX8_lives 22 = .ok (.bipush (-2), 2) := by decide +kernel
theorem dX8_lives_24 : decode cX8_lives 24 = .ok (.putfield 267, 3) := by decide +kernel
theorem dX8_lives_27 : decode cX8_lives 27 = .ok (.aload_n 0, 1) := by decide +kernel
theorem dX8_lives_28 : decode cX8_lives 28 = .ok (.bipush (-2), 2) := by decide +kernel
theorem dX8_lives_30 : decode cX8_lives 30 = .ok (.putfield 270, 3) := by decide +kernel
theorem dX8_lives_33 : decode cX8_lives 33 = .ok (.iconst 0, 1) := by decide +kernel
theorem dX8_lives_34 : decode cX8_lives 34 = .ok (.istore_n 2, 1) := by decide +kernel
theorem dX8_lives_35 : decode cX8_lives 35 = .ok (.iload_n 2, 1) := by decide +kernel
theorem dX8_lives_36 : decode cX8_lives 36 = .ok (.bipush 8, 2) := by decide +kernel
theorem dX8_lives_38 : decode cX8_lives 38 = .ok (.if_icmp .ge 21, 3) := by decide +kernel
theorem dX8_lives_41 : decode cX8_lives 41 = .ok (.aload_n 0, 1) := by decide +kernel
theorem dX8_lives_42 : decode cX8_lives 42 = .ok (.getfield 58, 3) := by decide +kernel
theorem dX8_lives_45 : decode cX8_lives 45 = .ok (.iload_n 2, 1) := by decide +kernel
theorem dX8_lives_46 : decode cX8_lives 46 = .ok (.aload_n 0, 1) := by decide +kernel
theorem dX8_lives_47 : decode cX8_lives 47 = .ok (.getfield 52, 3) := by decide +kernel
theorem dX8_lives_50 : decode cX8_lives 50 = .ok (.iload_n 2, 1) := by decide +kernel
theorem dX8_lives_51 : decode cX8_lives 51 = .ok (.iaload, 1) := by decide +kernel
theorem dX8_lives_52 : decode cX8_lives 52 = .ok (.iastore, 1) := by decide +kernel
theorem dX8_lives_53 : decode cX8_lives 53 = .ok (.iinc 2 1, 3) := by decide +kernel
theorem dX8_lives_56 : decode cX8_lives 56 = .ok (.goto (-21), 3) := by decide +kernel
theorem dX8_lives_59 : decode cX8_lives 59 = .ok (.iconst 0, 1) := by decide +kernel
theorem dX8_lives_60 : decode cX8_lives 60 = .ok (.istore_n 2, 1) := by decide +kernel
theorem dX8_lives_61 : decode cX8_lives 61 = .ok (.iconst 0, 1) := by decide +kernel
theorem dX8_lives_62 : decode cX8_lives 62 = .ok (.istore_n 3, 1) := by decide +kernel
theorem dX8_lives_63 : decode cX8_lives 63 = .ok (.iload_n 3, 1) := by decide +kernel
theorem dX8_lives_64 : decode cX8_lives 64 = .ok (.aload_n 0, 1) := by decide +kernel
theorem dX8_lives_65 : decode cX8_lives 65 = .ok (.getfield 9, 3) := by decide +kernel
theorem dX8_lives_68 : decode cX8_lives 68 = .ok (.iconst 2, 1) := by decide +kernel
theorem dX8_lives_69 : decode cX8_lives 69 = .ok (.iaload, 1) := by decide +kernel
theorem dX8_lives_70 : decode cX8_lives 70 = .ok (.if_icmp .ge 105, 3) := by decide +kernel
theorem dX8_lives_73 : decode cX8_lives 73 = .ok (.aload_n 0, 1) := by decide +kernel
theorem dX8_lives_74 : decode cX8_lives 74 = .ok (.getfield 9, 3) := by decide +kernel
theorem dX8_lives_77 : decode cX8_lives 77 = .ok (.bipush 59, 2) := by decide +kernel
theorem dX8_lives_79 : decode cX8_lives 79 = .ok (.bipush 10, 2) := by decide +kernel
theorem dX8_lives_81 : decode cX8_lives 81 = .ok (.iload_n 3, 1) := by decide +kernel
theorem dX8_lives_82 : decode cX8_lives 82 = .ok (.imul, 1) := by decide +kernel
theorem dX8_lives_83 : decode cX8_lives 83 = .ok (.iadd, 1) := by decide +kernel
theorem dX8_lives_84 : decode cX8_lives 84 = .ok (.iaload, 1) := by decide +kernel
theorem dX8_lives_85 : decode cX8_lives 85 = .ok (.iload_n 1, 1) := by decide +kernel
theorem dX8_lives_86 : decode cX8_lives 86 = .ok (.if_icmp .eq 6, 3) := by decide +kernel
theorem dX8_lives_89 : decode cX8_lives 89 = .ok (.goto 80, 3) := by decide +kernel
theorem dX8_lives_92 : decode cX8_lives 92 = .ok (.aload_n 0, 1) := by decide +kernel
theorem dX8_lives_93 : decode cX8_lives 93 = .ok (.iload_n 3, 1) := by decide +kernel
theorem dX8_lives_94 : decode cX8_lives 94 = .ok (.invokevirtual 273, 3) := by decide +kernel
theorem dX8_lives_97 : decode cX8_lives 97 = .ok (.istore 4, 2) := by decide +kernel
theorem dX8_lives_99 : decode cX8_lives 99 = .ok (.aload_n 0, 1) := by decide +kernel
theorem dX8_lives_100 : decode cX8_lives 100 = .ok (.dup, 1) := by decide +kernel
theorem dX8_lives_101 : decode cX8_lives 101 = .ok (.getfield 258, 3) := by decide +kernel
theorem dX8_lives_104 : decode cX8_lives 104 = .ok (.iload 4, 2) := by decide +kernel
theorem dX8_lives_106 : decode cX8_lives 106 = .ok (.invokestatic 137, 3) := by decide +kernel
theorem dX8_lives_109 : decode cX8_lives 109 = .ok (.iadd, 1) := by decide +kernel
theorem dX8_lives_110 : decode cX8_lives 110 = .ok (.putfield 258, 3) := by decide +kernel
theorem dX8_lives_113 : decode cX8_lives 113 = .ok (.aload_n 0, 1) := by decide +kernel
theorem dX8_lives_114 : decode cX8_lives 114 = .ok (.dup, 1) := by decide +kernel
theorem dX8_lives_115 : decode cX8_lives 115 = .ok (.getfield 261, 3) := by decide +kernel
theorem dX8_lives_118 : decode cX8_lives 118 = .ok (.iload 4, 2) := by decide +kernel
theorem dX8_lives_120 : decode cX8_lives 120 = .ok (.ifCond .ne 7, 3) := by decide +kernel
theorem dX8_lives_123 : decode cX8_lives 123 = .ok (.iconst 1, 1) := by decide +kernel
theorem dX8_lives_124 : decode cX8_lives 124 = .ok (.goto 4, 3) := by decide +kernel
theorem dX8_lives_127 : decode cX8_lives 127 = .ok (.iconst 0, 1) := by decide +kernel
theorem dX8_lives_128 : decode cX8_lives 128 = .ok (.invokestatic 137, 3) := by decide +kernel
theorem dX8_lives_131 : decode cX8_lives 131 = .ok (.iadd, 1) := by decide +kernel
theorem dX8_lives_132 : decode cX8_lives 132 = .ok (.putfield 261, 3) := by decide +kernel
theorem dX8_lives_135 : decode cX8_lives 135 = .ok (.aload_n 0, 1) := by decide +kernel
theorem dX8_lives_136 : decode cX8_lives 136 = .ok (.iload 4, 2) := by decide +kernel
theorem dX8_lives_138 : decode cX8_lives 138 = .ok (.ifCond .eq 16, 3) := by decide +kernel
theorem dX8_lives_141 : decode cX8_lives 141 = .ok (.aload_n 0, 1) := by decide +kernel
theorem dX8_lives_142 : decode cX8_lives 142 = .ok (.getfield 264, 3) := by decide +kernel
theorem dX8_lives_145 : decode cX8_lives 145 = .ok (.bipush (-2), 2) := by decide +kernel
theorem dX8_lives_147 : decode cX8_lives 147 = .ok (.if_icmp .ne 7, 3) := by decide +kernel
theorem dX8_lives_150 : decode cX8_lives 150 = .ok (.iload_n 2, 1) := by decide +kernel
theorem dX8_lives_151 : decode cX8_lives 151 = .ok (.goto 7, 3) := by decide +kernel
theorem dX8_lives_154 : decode cX8_lives 154 = .ok (.aload_n 0, 1) := by decide +kernel
theorem dX8_lives_155 : decode cX8_lives 155 = .ok (.getfield 264, 3) := by decide +kernel
theorem dX8_lives_158 : decode cX8_lives 158 = .ok (.putfield 264, 3) := by decide +kernel
theorem dX8_lives_161 : decode cX8_lives 161 = .ok (.aload_n 0, 1) := by decide +kernel
theorem dX8_lives_162 : decode cX8_lives 162 = .ok (.iload_n 2, 1) := by decide +kernel
theorem dX8_lives_163 : decode cX8_lives 163 = .ok (.invokevirtual 276, 3) := by decide +kernel
theorem dX8_lives_166 : decode cX8_lives 166 = .ok (.iinc 2 1, 3) := by decide +kernel
theorem dX8_lives_169 : decode cX8_lives 169 = .ok (.iinc 3 1, 3) := by decide +kernel
theorem dX8_lives_172 : decode cX8_lives 172 = .ok (.goto (-109), 3) := by decide +kernel
theorem dX8_lives_175 : decode cX8_lives 175 = .ok (.return_, 1) := by decide +kernel
set_option maxHeartbeats 4000000 in
set_option maxRecDepth 100000 in
theorem m_X8_lives (l : Launch) (d : Int) (mem : Mem) (hd : i32 d) (hN : 0 ≤ mem 1 0 ∧ mem 1 0 ≤ 8) (hVl : ∀ i : Nat, (i : Int) < mem 1 0 → 1 ≤ mem 1 (3 + i) ∧ mem 1 (3 + i) ≤ 500) (hN2 : 0 ≤ mem 1 2 ∧ mem 1 2 ≤ 40) (hR : ∀ b, i32 (mem 1 b)) (hAb : ∀ s : Nat, (s : Int) < mem 1 2 → 0 ≤ abvS (mem 1) s ∧ abvS (mem 1) s ≤ 2500) (hG : ∀ s : Nat, (s : Int) < mem 1 2 → ∀ k : Nat, k < 8 → 0 ≤ sGiven (mem 1) s k ∧ sGiven (mem 1) s k ≤ 5) (hW : ∀ k : Nat, k < 8 → 0 ≤ mem 14 k ∧ mem 14 k ≤ 99) : Ret shp l yX8_lives cX8_lives 5 none 5 [pR 0, pI d] mem (fun rv mv => rv = none ∧ (∀ a, a ≠ 0 → a ≠ 8 → a ≠ 9 → a ≠ 11 → a ≠ 14 → a ≠ 15 → a ≠ 16 → mv a = mem a) ∧ (∀ j, (j < 21 ∨ 26 < j) → mv 0 j = mem 0 j) ∧ ∃ nu, LRep mv (lifeN (mem 1) d (life0 (mem 14) (mem 16)) (mem 1 2).toNat) nu) := by
  refine ret_of (by decide +kernel) (Nat.le_of_ble_eq_true rfl) (fun X hX F G => ?_)
  show Ok shp X 5 0 [(0, pR 0), (1, pI d)] [] mem
  refine ok_aload_n F dX8_lives_0 0 rfl ?_
  refine ok_iconst F dX8_lives_1 ?_
  refine ok_putf F dX8_lives_2 kF_X8_258 sh_0 rfl rfl rfl (fun m_1 e_2 => ?_)
  refine ok_aload_n F dX8_lives_5 0 rfl ?_
  refine ok_iconst F dX8_lives_6 ?_
  refine ok_putf F dX8_lives_7 kF_X8_255 sh_0 rfl rfl rfl (fun m_3 e_4 => ?_)
  refine ok_aload_n F dX8_lives_10 0 rfl ?_
  refine ok_iconst F dX8_lives_11 ?_
  refine ok_putf F dX8_lives_12 kF_X8_261 sh_0 rfl rfl rfl (fun m_5 e_6 => ?_)
  refine ok_aload_n F dX8_lives_15 0 rfl ?_
  refine ok_bipush F dX8_lives_16 rfl ?_
  refine ok_putf F dX8_lives_18 kF_X8_264 sh_0 rfl rfl rfl (fun m_7 e_8 => ?_)
  refine ok_aload_n F dX8_lives_21 0 rfl ?_
  refine ok_bipush F dX8_lives_22 rfl ?_
  refine ok_putf F dX8_lives_24 kF_X8_267 sh_0 rfl rfl rfl (fun m_9 e_10 => ?_)
  refine ok_aload_n F dX8_lives_27 0 rfl ?_
  refine ok_bipush F dX8_lives_28 rfl ?_
  refine ok_putf F dX8_lives_30 kF_X8_270 sh_0 rfl rfl rfl (fun m_11 e_12 => ?_)
  refine ok_iconst F dX8_lives_33 ?_
  refine ok_istore_n (lv' := [(2, pI 0), (0, pR 0), (1, pI d)]) F dX8_lives_34 (by decide) rfl ?_
  have hL_35 : ∀ (n_35 : Nat) (i : Int) (m : Mem), (0 ≤ i ∧ i ≤ 8 ∧ (∀ a, a ≠ 0 → a ≠ 16 → m a = mem a) ∧ (∀ j, (j < 21 ∨ 26 < j) → m 0 j = mem 0 j) ∧ (m 0 21 = 0 ∧ m 0 22 = 0 ∧ m 0 23 = 0 ∧ m 0 24 = -2 ∧ m 0 25 = -2 ∧ m 0 26 = -2) ∧ ∀ j : Nat, m 16 j = if (j : Int) < i then mem 14 j else mem 16 j) → (8 - i).toNat = n_35 → Ok shp X 5 35 [(0, pR 0), (1, pI d), (2, pI i)] [] m := by
    intro n_35
    induction n_35 using Nat.strongRecOn with
    | _ n_35 ih_35 =>
      intro i m hI_35 hn_35
      obtain ⟨hi0, hi1, hF, hF0, hfl, hF16⟩ := hI_35
      have hF14 := hF 14 (by decide) (by decide)
      refine ok_iload_n F dX8_lives_35 2 rfl ?_
      refine ok_bipush F dX8_lives_36 rfl ?_
      refine ok_icmp_ge F 59 dX8_lives_38 (by decide) (by first | omega | exact hR _) (by first | omega | exact hR _) (fun c_13 => ?_) (fun c_13 => ?_)
      · refine ok_iconst F dX8_lives_59 ?_
        refine ok_istore_n (lv' := [(2, pI 0), (0, pR 0), (1, pI d)]) F dX8_lives_60 (by decide) rfl ?_
        refine ok_iconst F dX8_lives_61 ?_
        refine ok_istore_n (lv' := [(3, pI 0), (2, pI 0), (0, pR 0), (1, pI d)]) F dX8_lives_62 (by decide) rfl ?_
        have hL_63 : ∀ (n_63 : Nat) (nu : Int) (s : Int) (m2 : Mem), (0 ≤ s ∧ s ≤ mem 1 2 ∧ (∀ a, a ≠ 0 → a ≠ 8 → a ≠ 9 → a ≠ 11 → a ≠ 14 → a ≠ 15 → a ≠ 16 → m2 a = mem a) ∧ (∀ j, (j < 21 ∨ 26 < j) → m2 0 j = mem 0 j) ∧ LRep m2 (lifeN (mem 1) d (life0 (mem 14) (mem 16)) s.toNat) nu) → (mem 1 2 - s).toNat = n_63 → Ok shp X 5 63 [(0, pR 0), (1, pI d), (2, pI nu), (3, pI s)] [] m2 := by
          intro n_63
          induction n_63 using Nat.strongRecOn with
          | _ n_63 ih_63 =>
            intro nu s m2 hI_63 hn_63
            obtain ⟨hs0, hs1, hF2, hF20, hL⟩ := hI_63
            have h1 := hF2 1 (by decide) (by decide) (by decide) (by decide) (by decide) (by decide) (by decide)
            have hB : LB s.toNat (lifeN (mem 1) d (life0 (mem 14) (mem 16)) s.toNat) := lifeN_bd hN.2 ⟨hW, fun k hk => by show 0 ≤ (if k < 8 then mem 14 k else mem 16 k) ∧ (if k < 8 then mem 14 k else mem 16 k) ≤ 99; rw [if_pos hk]; exact hW k hk, by show (0 : Int) ≤ 0 ∧ (0 : Int) ≤ ((0 : Nat) : Int); omega, by show (0 : Int) ≤ 0 ∧ (0 : Int) ≤ ((0 : Nat) : Int); omega, by show (-2 : Int) ≤ -2 ∧ (-2 : Int) ≤ ((0 : Nat) : Int); omega, by show (-2 : Int) ≤ -2 ∧ (-2 : Int) ≤ ((0 : Nat) : Int); omega, by show (0 : Int) ≤ 0 ∧ (0 : Int) ≤ ((0 : Nat) : Int); omega⟩ (fun t ht k hk => (hG t (by omega) k hk).1)
            obtain ⟨b1, b2, b3, b4, b5, b6, b7⟩ := hB
            obtain ⟨r1, r2, r3, r4, r5, r6, r7, r8, r9⟩ := id hL
            rw [← r1] at b1
            rw [← r2] at b2
            rw [← r3] at b3
            rw [← r5] at b4
            rw [← r6] at b5
            rw [← r7] at b6
            rw [← r9] at b7
            refine ok_iload_n F dX8_lives_63 3 rfl ?_
            refine ok_aload_n F dX8_lives_64 0 rfl ?_
            refine ok_getr F dX8_lives_65 kF_X8_9 sh_0 rfl ?_
            refine ok_iconst F dX8_lives_68 ?_
            refine ok_iald (v := mem 1 2) F dX8_lives_69 sh_1 (by first | decide | assumption) (by first | omega | exact hR _) (by first | omega | exact hR _) (by rw [h1] <;> rfl) ?_
            refine ok_icmp_ge F 175 dX8_lives_70 (by decide) (by first | omega | exact hR _) (by first | omega | exact hR _) (fun c_14 => ?_) (fun c_14 => ?_)
            · refine ok_vret F G dX8_lives_175 ?_
              refine ⟨rfl, hF2, hF20, nu, ?_⟩
              rw [show mem 1 2 = s by omega]
              exact hL
            · refine ok_aload_n F dX8_lives_73 0 rfl ?_
              refine ok_getr F dX8_lives_74 kF_X8_9 sh_0 rfl ?_
              refine ok_bipush F dX8_lives_77 rfl ?_
              refine ok_bipush F dX8_lives_79 rfl ?_
              refine ok_iload_n F dX8_lives_81 3 rfl ?_
              refine ok_imul F dX8_lives_82 ?_
              refine ok_iadd F dX8_lives_83 ?_
              refine ok_iald (v := mem 1 ((59 + (10 * s)).toNat)) F dX8_lives_84 sh_1 (by first | decide | assumption) (by first | omega | exact hR _) (by first | omega | exact hR _) (by rw [h1] <;> rfl) ?_
              refine ok_iload_n F dX8_lives_85 1 rfl ?_
              refine ok_icmp_eq F 92 dX8_lives_86 (by decide) (by first | omega | exact hR _) (by first | omega | exact hR _) (fun c_15 => ?_) (fun c_15 => ?_)
              · have hyd : sDay (mem 1) s.toNat = d := by rw [sDay, show 59 + 10 * s.toNat = (59 + (10 * s)).toNat by omega]; assumption
                refine ok_aload_n F dX8_lives_92 0 rfl ?_
                refine ok_iload_n F dX8_lives_93 3 rfl ?_
                refine ok_callv F [pI s] dX8_lives_94 kM_X8_livesOne kI_X8_livesOne kV_X8_livesOne kL_X8_273 (ci := 8) rfl sh_0 rfl (by decide) (Nat.le_of_ble_eq_true rfl) rfl (m_X8_livesOne _ s m2 (by omega) (by rw [h1]; exact hN) (by rw [h1]; exact hVl) (by rw [h1]; exact hAb s.toNat (by omega)) (by rw [h1]; exact hG s.toNat (by omega)) (b1)) ?_
                rintro _ m_17 ⟨z_16, rfl, r_18⟩
                obtain ⟨ml, hml⟩ : ∃ x, x = m_17 := ⟨_, rfl⟩
                obtain ⟨o1, o2, o3, o4, o5, o6⟩ := id r_18
                rw [h1] at o3 o4 o5 o6
                rw [← hml] at o1 o2 o3 o5 o6
                refine ok_istore (lv' := [(4, pI z_16), (0, pR 0), (1, pI d), (2, pI nu), (3, pI s)]) F dX8_lives_97 (by decide) rfl ?_
                refine ok_aload_n F dX8_lives_99 1 rfl ?_
                refine ok_dup F dX8_lives_100 rfl ?_
                refine ok_getf (v := m_17 0 21) F dX8_lives_101 kF_X8_258 sh_0 rfl rfl ?_
                refine ok_iload F dX8_lives_104 0 rfl ?_
                refine ok_calls F [pI z_16] dX8_lives_106 kM_X8_truth kS_X8_truth kL_X8_137 rfl (by decide) (Nat.le_of_ble_eq_true rfl) rfl (m_X8_truth _ z_16 m_17 (by omega)) ?_
                rintro _ _ ⟨rfl, rfl⟩
                refine ok_iadd F dX8_lives_109 ?_
                refine ok_putf F dX8_lives_110 kF_X8_258 sh_0 rfl rfl rfl (fun m_19 e_20 => ?_)
                refine ok_aload_n F dX8_lives_113 1 rfl ?_
                refine ok_dup F dX8_lives_114 rfl ?_
                refine ok_getf (v := m_17 0 23) F dX8_lives_115 kF_X8_261 sh_0 rfl (by rw [e_20, mset_ne (by decide)] <;> rfl) ?_
                refine ok_iload F dX8_lives_118 0 rfl ?_
                refine ok_if_ne F 127 dX8_lives_120 (by decide) (by first | omega | exact hR _) (fun c_21 => ?_) (fun c_21 => ?_)
                · refine ok_iconst F dX8_lives_127 ?_
                  refine ok_calls F [pI 0] dX8_lives_128 kM_X8_truth kS_X8_truth kL_X8_137 rfl (by decide) (Nat.le_of_ble_eq_true rfl) rfl (m_X8_truth _ 0 m_19 (by omega)) ?_
                  rintro _ _ ⟨rfl, rfl⟩
                  refine ok_iadd F dX8_lives_131 ?_
                  refine ok_putf F dX8_lives_132 kF_X8_261 sh_0 rfl rfl rfl (fun m_22 e_23 => ?_)
                  refine ok_aload_n F dX8_lives_135 1 rfl ?_
                  refine ok_iload F dX8_lives_136 0 rfl ?_
                  refine ok_if_eq F 154 dX8_lives_138 (by decide) (by first | omega | exact hR _) (fun c_24 => ?_) (fun c_24 => ?_)
                  · refine ok_aload_n F dX8_lives_154 1 rfl ?_
                    refine ok_getf (v := m_17 0 24) F dX8_lives_155 kF_X8_264 sh_0 rfl (by rw [e_23, mset_ne (by decide), e_20, mset_ne (by decide)] <;> rfl) ?_
                    refine ok_putf F dX8_lives_158 kF_X8_264 sh_0 rfl rfl rfl (fun m_25 e_26 => ?_)
                    obtain ⟨m6, hm6⟩ : ∃ x, x = m_25 := ⟨_, rfl⟩
                    have g1 : ∀ a, a ≠ 0 → m_25 a = ml a := fun a a0 => by rw [hml, e_26, e_23, e_20]; funext b; rw [mset_nk a0, mset_nk a0, mset_nk a0]
                    have g0 : ∀ j, (j < 21 ∨ 26 < j) → m_25 0 j = ml 0 j := fun j hj => by rw [hml, e_26, e_23, e_20, mset_ne (by omega), mset_ne (by omega), mset_ne (by omega)]
                    have g25 : m_25 0 25 = ml 0 25 := by rw [hml, e_26, e_23, e_20, mset_ne (by decide), mset_ne (by decide), mset_ne (by decide)]
                    have g26 : m_25 0 26 = ml 0 26 := by rw [hml, e_26, e_23, e_20, mset_ne (by decide), mset_ne (by decide), mset_ne (by decide)]
                    have g22 : m_25 0 22 = ml 0 22 := by rw [hml, e_26, e_23, e_20, mset_ne (by decide), mset_ne (by decide), mset_ne (by decide)]
                    have g11 : m_25 1 0 = mem 1 0 := by rw [g1 1 (by decide), o1 1 (by decide) (by decide) (by decide) (by decide) (by decide) (by decide), h1]
                    have e21 : m_25 0 21 = m2 0 21 + (if shortS (mem 1) (m2 14) s.toNat = true then 1 else 0) := by
                      rw [e_26, e_23, e_20, mset_ne (by decide), mset_ne (by decide), mset_eq, ← hml, o2 21 (by decide), o4]
                      by_cases hS : shortS (mem 1) (m2 14) s.toNat = true <;> simp [hS]
                    have e23 : m_25 0 23 = m2 0 23 + (if shortS (mem 1) (m2 14) s.toNat = true then 0 else 1) := by
                      rw [e_26, e_23, e_20, mset_ne (by decide), mset_eq, ← hml, o2 23 (by decide)]
                      by_cases hS : shortS (mem 1) (m2 14) s.toNat = true
                      · rw [if_pos hS] at o4 ⊢; omega
                      · rw [if_neg hS] at o4 ⊢; omega
                    have e24 : m_25 0 24 = if shortS (mem 1) (m2 14) s.toNat = true ∧ m2 0 24 = -2 then nu else m2 0 24 := by
                      have o24 := o2 24 (by decide)
                      rw [e_26, e_23, e_20, mset_eq]
                      try rw [← hml]
                      try rw [← hml] at *
                      by_cases hS : shortS (mem 1) (m2 14) s.toNat = true
                      · rw [if_pos hS] at o4
                        simp only [hS, true_and]
                        split <;> omega
                      · rw [if_neg hS] at o4
                        rw [if_neg (fun q => hS q.1)]
                        omega
                    have q14 : ∀ i : Nat, i < 8 → 0 ≤ ml 14 i ∧ ml 14 i ≤ 99 := fun i hi => by rw [o5]; exact rowS_bd hN.2 b1 (fun k hk => (hG s.toNat (by omega) k hk).1) i hi
                    refine ok_aload_n F dX8_lives_161 1 rfl ?_
                    refine ok_iload_n F dX8_lives_162 3 rfl ?_
                    refine ok_callv F [pI nu] dX8_lives_163 kM_X8_seesBehind kI_X8_seesBehind kV_X8_seesBehind kL_X8_276 (ci := 8) rfl sh_0 rfl (by decide) (Nat.le_of_ble_eq_true rfl) rfl (m_X8_seesBehind _ nu m_25 (by omega) (by rw [g1 1 (by decide), o1 1 (by decide) (by decide) (by decide) (by decide) (by decide) (by decide), h1]; exact hN) (fun i hi => by have := q14 i hi; rw [g1 14 (by decide)]; omega) (fun i hi => by have hi2 : (i : Int) < mem 1 0 := by { rw [← g11]; exact hi }; have := b1 i (by omega); rw [g1 15 (by decide), o6 i hi2]; omega) (fun i hi => by have := b2 i hi; rw [g1 16 (by decide), o1 16 (by decide) (by decide) (by decide) (by decide) (by decide) (by decide)]; omega) (by rw [g25, o2 25 (by decide)]; omega)) ?_
                    rintro _ m_28 ⟨rfl, r_29⟩
                    obtain ⟨p1, p2, p3, p4, p5⟩ := id r_29
                    rw [← hm6] at p1 p2 p3 p4
                    have f14 : m_28 14 = rowS (mem 1) (m2 14) s.toNat := by rw [p1 14 (by decide) (by decide), hm6, g1 14 (by decide)]; funext i; exact o5 i
                    have fL : LRep m_28 (lifeN (mem 1) d (life0 (mem 14) (mem 16)) (s + 1).toNat) (nu + 1) := by
                      rw [lifeN_s _ _ _ hs0, if_pos hyd]
                      refine hL.step f14 ?_ ?_ ?_ ?_ ?_ ?_ rfl
                      · funext i
                        rw [p3 i, f14, hm6, g11, g1 16 (by decide), g1 14 (by decide), o1 16 (by decide) (by decide) (by decide) (by decide) (by decide) (by decide), o5 i]
                      · rw [p2 21 (by decide) (by decide), hm6, e21]
                      · rw [p2 22 (by decide) (by decide), hm6, g22, o3]
                      · rw [p2 23 (by decide) (by decide), hm6, e23]
                      · rw [p2 24 (by decide) (by decide), hm6, e24]
                      · rw [p4, hm6, g11, g25, g26, o2 25 (by decide), o2 26 (by decide)]
                        exact goneD_congr (fun i hi => by rw [f14, g1 14 (by decide), g1 15 (by decide), o5 i, o6 i (by omega)])
                    have fFa : (∀ a, a ≠ 0 → a ≠ 8 → a ≠ 9 → a ≠ 11 → a ≠ 14 → a ≠ 15 → a ≠ 16 → m_28 a = mem a) := fun a a0 a1 a2 a3 a4 a5 a6 => by rw [p1 a a0 a6, hm6, g1 a a0, o1 a a0 a1 a2 a3 a4 a5, hF2 a a0 a1 a2 a3 a4 a5 a6]
                    have fF0 : ∀ j, (j < 21 ∨ 26 < j) → m_28 0 j = mem 0 j := fun j hj => by rw [p2 j (by omega) (by omega), hm6, g0 j hj, o2 j (by omega), hF20 j hj]
                    refine ok_iinc (lv' := [(2, pI (nu + 1)), (4, pI z_16), (0, pR 0), (1, pI d), (3, pI s)]) F dX8_lives_166 3 rfl (by decide) rfl ?_
                    refine ok_iinc (lv' := [(3, pI (s + 1)), (2, pI (nu + 1)), (4, pI z_16), (0, pR 0), (1, pI d)]) F dX8_lives_169 4 rfl (by decide) rfl ?_
                    refine ok_goto F 63 dX8_lives_172 (by decide) ?_
                    refine ok_lvp [3, 4, 1, 0] (lv' := [(0, pR 0), (1, pI d), (2, pI (nu + 1)), (3, pI (s + 1))]) rfl ?_
                    refine ih_63 _ ?_ (nu + 1) (s + 1) m_28 ?_ rfl
                    · omega
                    · first
                        | (have hnd : ¬ sDay (mem 1) s.toNat = d := by rw [sDay, show 59 + 10 * s.toNat = (59 + (10 * s)).toNat by omega]; assumption
                           exact ⟨by omega, by omega, hF2, hF20, by rw [lifeN_s _ _ _ hs0, if_neg hnd]; exact hL⟩)
                        | exact ⟨by omega, by omega, fFa, fF0, fL⟩
                  · refine ok_aload_n F dX8_lives_141 1 rfl ?_
                    refine ok_getf (v := m_17 0 24) F dX8_lives_142 kF_X8_264 sh_0 rfl (by rw [e_23, mset_ne (by decide), e_20, mset_ne (by decide)] <;> rfl) ?_
                    refine ok_bipush F dX8_lives_145 rfl ?_
                    refine ok_icmp_ne F 154 dX8_lives_147 (by decide) (by have := o2 24 (by decide); rw [← hml]; omega) (by first | omega | exact hR _) (fun c_30 => ?_) (fun c_30 => ?_)
                    · refine ok_aload_n F dX8_lives_154 1 rfl ?_
                      refine ok_getf (v := m_17 0 24) F dX8_lives_155 kF_X8_264 sh_0 rfl (by rw [e_23, mset_ne (by decide), e_20, mset_ne (by decide)] <;> rfl) ?_
                      refine ok_putf F dX8_lives_158 kF_X8_264 sh_0 rfl rfl rfl (fun m_31 e_32 => ?_)
                      obtain ⟨m6, hm6⟩ : ∃ x, x = m_31 := ⟨_, rfl⟩
                      have g1 : ∀ a, a ≠ 0 → m_31 a = ml a := fun a a0 => by rw [hml, e_32, e_23, e_20]; funext b; rw [mset_nk a0, mset_nk a0, mset_nk a0]
                      have g0 : ∀ j, (j < 21 ∨ 26 < j) → m_31 0 j = ml 0 j := fun j hj => by rw [hml, e_32, e_23, e_20, mset_ne (by omega), mset_ne (by omega), mset_ne (by omega)]
                      have g25 : m_31 0 25 = ml 0 25 := by rw [hml, e_32, e_23, e_20, mset_ne (by decide), mset_ne (by decide), mset_ne (by decide)]
                      have g26 : m_31 0 26 = ml 0 26 := by rw [hml, e_32, e_23, e_20, mset_ne (by decide), mset_ne (by decide), mset_ne (by decide)]
                      have g22 : m_31 0 22 = ml 0 22 := by rw [hml, e_32, e_23, e_20, mset_ne (by decide), mset_ne (by decide), mset_ne (by decide)]
                      have g11 : m_31 1 0 = mem 1 0 := by rw [g1 1 (by decide), o1 1 (by decide) (by decide) (by decide) (by decide) (by decide) (by decide), h1]
                      have e21 : m_31 0 21 = m2 0 21 + (if shortS (mem 1) (m2 14) s.toNat = true then 1 else 0) := by
                        rw [e_32, e_23, e_20, mset_ne (by decide), mset_ne (by decide), mset_eq, ← hml, o2 21 (by decide), o4]
                        by_cases hS : shortS (mem 1) (m2 14) s.toNat = true <;> simp [hS]
                      have e23 : m_31 0 23 = m2 0 23 + (if shortS (mem 1) (m2 14) s.toNat = true then 0 else 1) := by
                        rw [e_32, e_23, e_20, mset_ne (by decide), mset_eq, ← hml, o2 23 (by decide)]
                        by_cases hS : shortS (mem 1) (m2 14) s.toNat = true
                        · rw [if_pos hS] at o4 ⊢; omega
                        · rw [if_neg hS] at o4 ⊢; omega
                      have e24 : m_31 0 24 = if shortS (mem 1) (m2 14) s.toNat = true ∧ m2 0 24 = -2 then nu else m2 0 24 := by
                        have o24 := o2 24 (by decide)
                        rw [e_32, e_23, e_20, mset_eq]
                        try rw [← hml]
                        try rw [← hml] at *
                        by_cases hS : shortS (mem 1) (m2 14) s.toNat = true
                        · rw [if_pos hS] at o4
                          simp only [hS, true_and]
                          split <;> omega
                        · rw [if_neg hS] at o4
                          rw [if_neg (fun q => hS q.1)]
                          omega
                      have q14 : ∀ i : Nat, i < 8 → 0 ≤ ml 14 i ∧ ml 14 i ≤ 99 := fun i hi => by rw [o5]; exact rowS_bd hN.2 b1 (fun k hk => (hG s.toNat (by omega) k hk).1) i hi
                      refine ok_aload_n F dX8_lives_161 1 rfl ?_
                      refine ok_iload_n F dX8_lives_162 3 rfl ?_
                      refine ok_callv F [pI nu] dX8_lives_163 kM_X8_seesBehind kI_X8_seesBehind kV_X8_seesBehind kL_X8_276 (ci := 8) rfl sh_0 rfl (by decide) (Nat.le_of_ble_eq_true rfl) rfl (m_X8_seesBehind _ nu m_31 (by omega) (by rw [g1 1 (by decide), o1 1 (by decide) (by decide) (by decide) (by decide) (by decide) (by decide), h1]; exact hN) (fun i hi => by have := q14 i hi; rw [g1 14 (by decide)]; omega) (fun i hi => by have hi2 : (i : Int) < mem 1 0 := by { rw [← g11]; exact hi }; have := b1 i (by omega); rw [g1 15 (by decide), o6 i hi2]; omega) (fun i hi => by have := b2 i hi; rw [g1 16 (by decide), o1 16 (by decide) (by decide) (by decide) (by decide) (by decide) (by decide)]; omega) (by rw [g25, o2 25 (by decide)]; omega)) ?_
                      rintro _ m_34 ⟨rfl, r_35⟩
                      obtain ⟨p1, p2, p3, p4, p5⟩ := id r_35
                      rw [← hm6] at p1 p2 p3 p4
                      have f14 : m_34 14 = rowS (mem 1) (m2 14) s.toNat := by rw [p1 14 (by decide) (by decide), hm6, g1 14 (by decide)]; funext i; exact o5 i
                      have fL : LRep m_34 (lifeN (mem 1) d (life0 (mem 14) (mem 16)) (s + 1).toNat) (nu + 1) := by
                        rw [lifeN_s _ _ _ hs0, if_pos hyd]
                        refine hL.step f14 ?_ ?_ ?_ ?_ ?_ ?_ rfl
                        · funext i
                          rw [p3 i, f14, hm6, g11, g1 16 (by decide), g1 14 (by decide), o1 16 (by decide) (by decide) (by decide) (by decide) (by decide) (by decide), o5 i]
                        · rw [p2 21 (by decide) (by decide), hm6, e21]
                        · rw [p2 22 (by decide) (by decide), hm6, g22, o3]
                        · rw [p2 23 (by decide) (by decide), hm6, e23]
                        · rw [p2 24 (by decide) (by decide), hm6, e24]
                        · rw [p4, hm6, g11, g25, g26, o2 25 (by decide), o2 26 (by decide)]
                          exact goneD_congr (fun i hi => by rw [f14, g1 14 (by decide), g1 15 (by decide), o5 i, o6 i (by omega)])
                      have fFa : (∀ a, a ≠ 0 → a ≠ 8 → a ≠ 9 → a ≠ 11 → a ≠ 14 → a ≠ 15 → a ≠ 16 → m_34 a = mem a) := fun a a0 a1 a2 a3 a4 a5 a6 => by rw [p1 a a0 a6, hm6, g1 a a0, o1 a a0 a1 a2 a3 a4 a5, hF2 a a0 a1 a2 a3 a4 a5 a6]
                      have fF0 : ∀ j, (j < 21 ∨ 26 < j) → m_34 0 j = mem 0 j := fun j hj => by rw [p2 j (by omega) (by omega), hm6, g0 j hj, o2 j (by omega), hF20 j hj]
                      refine ok_iinc (lv' := [(2, pI (nu + 1)), (4, pI z_16), (0, pR 0), (1, pI d), (3, pI s)]) F dX8_lives_166 3 rfl (by decide) rfl ?_
                      refine ok_iinc (lv' := [(3, pI (s + 1)), (2, pI (nu + 1)), (4, pI z_16), (0, pR 0), (1, pI d)]) F dX8_lives_169 4 rfl (by decide) rfl ?_
                      refine ok_goto F 63 dX8_lives_172 (by decide) ?_
                      refine ok_lvp [3, 4, 1, 0] (lv' := [(0, pR 0), (1, pI d), (2, pI (nu + 1)), (3, pI (s + 1))]) rfl ?_
                      refine ih_63 _ ?_ (nu + 1) (s + 1) m_34 ?_ rfl
                      · omega
                      · first
                          | (have hnd : ¬ sDay (mem 1) s.toNat = d := by rw [sDay, show 59 + 10 * s.toNat = (59 + (10 * s)).toNat by omega]; assumption
                             exact ⟨by omega, by omega, hF2, hF20, by rw [lifeN_s _ _ _ hs0, if_neg hnd]; exact hL⟩)
                          | exact ⟨by omega, by omega, fFa, fF0, fL⟩
                    · refine ok_iload_n F dX8_lives_150 3 rfl ?_
                      refine ok_goto F 158 dX8_lives_151 (by decide) ?_
                      refine ok_putf F dX8_lives_158 kF_X8_264 sh_0 rfl rfl rfl (fun m_36 e_37 => ?_)
                      obtain ⟨m6, hm6⟩ : ∃ x, x = m_36 := ⟨_, rfl⟩
                      have g1 : ∀ a, a ≠ 0 → m_36 a = ml a := fun a a0 => by rw [hml, e_37, e_23, e_20]; funext b; rw [mset_nk a0, mset_nk a0, mset_nk a0]
                      have g0 : ∀ j, (j < 21 ∨ 26 < j) → m_36 0 j = ml 0 j := fun j hj => by rw [hml, e_37, e_23, e_20, mset_ne (by omega), mset_ne (by omega), mset_ne (by omega)]
                      have g25 : m_36 0 25 = ml 0 25 := by rw [hml, e_37, e_23, e_20, mset_ne (by decide), mset_ne (by decide), mset_ne (by decide)]
                      have g26 : m_36 0 26 = ml 0 26 := by rw [hml, e_37, e_23, e_20, mset_ne (by decide), mset_ne (by decide), mset_ne (by decide)]
                      have g22 : m_36 0 22 = ml 0 22 := by rw [hml, e_37, e_23, e_20, mset_ne (by decide), mset_ne (by decide), mset_ne (by decide)]
                      have g11 : m_36 1 0 = mem 1 0 := by rw [g1 1 (by decide), o1 1 (by decide) (by decide) (by decide) (by decide) (by decide) (by decide), h1]
                      have e21 : m_36 0 21 = m2 0 21 + (if shortS (mem 1) (m2 14) s.toNat = true then 1 else 0) := by
                        rw [e_37, e_23, e_20, mset_ne (by decide), mset_ne (by decide), mset_eq, ← hml, o2 21 (by decide), o4]
                        by_cases hS : shortS (mem 1) (m2 14) s.toNat = true <;> simp [hS]
                      have e23 : m_36 0 23 = m2 0 23 + (if shortS (mem 1) (m2 14) s.toNat = true then 0 else 1) := by
                        rw [e_37, e_23, e_20, mset_ne (by decide), mset_eq, ← hml, o2 23 (by decide)]
                        by_cases hS : shortS (mem 1) (m2 14) s.toNat = true
                        · rw [if_pos hS] at o4 ⊢; omega
                        · rw [if_neg hS] at o4 ⊢; omega
                      have e24 : m_36 0 24 = if shortS (mem 1) (m2 14) s.toNat = true ∧ m2 0 24 = -2 then nu else m2 0 24 := by
                        have o24 := o2 24 (by decide)
                        rw [e_37, e_23, e_20, mset_eq]
                        try rw [← hml]
                        try rw [← hml] at *
                        by_cases hS : shortS (mem 1) (m2 14) s.toNat = true
                        · rw [if_pos hS] at o4
                          simp only [hS, true_and]
                          split <;> omega
                        · rw [if_neg hS] at o4
                          rw [if_neg (fun q => hS q.1)]
                          omega
                      have q14 : ∀ i : Nat, i < 8 → 0 ≤ ml 14 i ∧ ml 14 i ≤ 99 := fun i hi => by rw [o5]; exact rowS_bd hN.2 b1 (fun k hk => (hG s.toNat (by omega) k hk).1) i hi
                      refine ok_aload_n F dX8_lives_161 1 rfl ?_
                      refine ok_iload_n F dX8_lives_162 3 rfl ?_
                      refine ok_callv F [pI nu] dX8_lives_163 kM_X8_seesBehind kI_X8_seesBehind kV_X8_seesBehind kL_X8_276 (ci := 8) rfl sh_0 rfl (by decide) (Nat.le_of_ble_eq_true rfl) rfl (m_X8_seesBehind _ nu m_36 (by omega) (by rw [g1 1 (by decide), o1 1 (by decide) (by decide) (by decide) (by decide) (by decide) (by decide), h1]; exact hN) (fun i hi => by have := q14 i hi; rw [g1 14 (by decide)]; omega) (fun i hi => by have hi2 : (i : Int) < mem 1 0 := by { rw [← g11]; exact hi }; have := b1 i (by omega); rw [g1 15 (by decide), o6 i hi2]; omega) (fun i hi => by have := b2 i hi; rw [g1 16 (by decide), o1 16 (by decide) (by decide) (by decide) (by decide) (by decide) (by decide)]; omega) (by rw [g25, o2 25 (by decide)]; omega)) ?_
                      rintro _ m_39 ⟨rfl, r_40⟩
                      obtain ⟨p1, p2, p3, p4, p5⟩ := id r_40
                      rw [← hm6] at p1 p2 p3 p4
                      have f14 : m_39 14 = rowS (mem 1) (m2 14) s.toNat := by rw [p1 14 (by decide) (by decide), hm6, g1 14 (by decide)]; funext i; exact o5 i
                      have fL : LRep m_39 (lifeN (mem 1) d (life0 (mem 14) (mem 16)) (s + 1).toNat) (nu + 1) := by
                        rw [lifeN_s _ _ _ hs0, if_pos hyd]
                        refine hL.step f14 ?_ ?_ ?_ ?_ ?_ ?_ rfl
                        · funext i
                          rw [p3 i, f14, hm6, g11, g1 16 (by decide), g1 14 (by decide), o1 16 (by decide) (by decide) (by decide) (by decide) (by decide) (by decide), o5 i]
                        · rw [p2 21 (by decide) (by decide), hm6, e21]
                        · rw [p2 22 (by decide) (by decide), hm6, g22, o3]
                        · rw [p2 23 (by decide) (by decide), hm6, e23]
                        · rw [p2 24 (by decide) (by decide), hm6, e24]
                        · rw [p4, hm6, g11, g25, g26, o2 25 (by decide), o2 26 (by decide)]
                          exact goneD_congr (fun i hi => by rw [f14, g1 14 (by decide), g1 15 (by decide), o5 i, o6 i (by omega)])
                      have fFa : (∀ a, a ≠ 0 → a ≠ 8 → a ≠ 9 → a ≠ 11 → a ≠ 14 → a ≠ 15 → a ≠ 16 → m_39 a = mem a) := fun a a0 a1 a2 a3 a4 a5 a6 => by rw [p1 a a0 a6, hm6, g1 a a0, o1 a a0 a1 a2 a3 a4 a5, hF2 a a0 a1 a2 a3 a4 a5 a6]
                      have fF0 : ∀ j, (j < 21 ∨ 26 < j) → m_39 0 j = mem 0 j := fun j hj => by rw [p2 j (by omega) (by omega), hm6, g0 j hj, o2 j (by omega), hF20 j hj]
                      refine ok_iinc (lv' := [(2, pI (nu + 1)), (4, pI z_16), (0, pR 0), (1, pI d), (3, pI s)]) F dX8_lives_166 3 rfl (by decide) rfl ?_
                      refine ok_iinc (lv' := [(3, pI (s + 1)), (2, pI (nu + 1)), (4, pI z_16), (0, pR 0), (1, pI d)]) F dX8_lives_169 4 rfl (by decide) rfl ?_
                      refine ok_goto F 63 dX8_lives_172 (by decide) ?_
                      refine ok_lvp [3, 4, 1, 0] (lv' := [(0, pR 0), (1, pI d), (2, pI (nu + 1)), (3, pI (s + 1))]) rfl ?_
                      refine ih_63 _ ?_ (nu + 1) (s + 1) m_39 ?_ rfl
                      · omega
                      · first
                          | (have hnd : ¬ sDay (mem 1) s.toNat = d := by rw [sDay, show 59 + 10 * s.toNat = (59 + (10 * s)).toNat by omega]; assumption
                             exact ⟨by omega, by omega, hF2, hF20, by rw [lifeN_s _ _ _ hs0, if_neg hnd]; exact hL⟩)
                          | exact ⟨by omega, by omega, fFa, fF0, fL⟩
                · refine ok_iconst F dX8_lives_123 ?_
                  refine ok_goto F 128 dX8_lives_124 (by decide) ?_
                  refine ok_calls F [pI 1] dX8_lives_128 kM_X8_truth kS_X8_truth kL_X8_137 rfl (by decide) (Nat.le_of_ble_eq_true rfl) rfl (m_X8_truth _ 1 m_19 (by omega)) ?_
                  rintro _ _ ⟨rfl, rfl⟩
                  refine ok_iadd F dX8_lives_131 ?_
                  refine ok_putf F dX8_lives_132 kF_X8_261 sh_0 rfl rfl rfl (fun m_41 e_42 => ?_)
                  refine ok_aload_n F dX8_lives_135 1 rfl ?_
                  refine ok_iload F dX8_lives_136 0 rfl ?_
                  refine ok_if_eq F 154 dX8_lives_138 (by decide) (by first | omega | exact hR _) (fun c_43 => ?_) (fun c_43 => ?_)
                  · refine ok_aload_n F dX8_lives_154 1 rfl ?_
                    refine ok_getf (v := m_17 0 24) F dX8_lives_155 kF_X8_264 sh_0 rfl (by rw [e_42, mset_ne (by decide), e_20, mset_ne (by decide)] <;> rfl) ?_
                    refine ok_putf F dX8_lives_158 kF_X8_264 sh_0 rfl rfl rfl (fun m_44 e_45 => ?_)
                    obtain ⟨m6, hm6⟩ : ∃ x, x = m_44 := ⟨_, rfl⟩
                    have g1 : ∀ a, a ≠ 0 → m_44 a = ml a := fun a a0 => by rw [hml, e_45, e_42, e_20]; funext b; rw [mset_nk a0, mset_nk a0, mset_nk a0]
                    have g0 : ∀ j, (j < 21 ∨ 26 < j) → m_44 0 j = ml 0 j := fun j hj => by rw [hml, e_45, e_42, e_20, mset_ne (by omega), mset_ne (by omega), mset_ne (by omega)]
                    have g25 : m_44 0 25 = ml 0 25 := by rw [hml, e_45, e_42, e_20, mset_ne (by decide), mset_ne (by decide), mset_ne (by decide)]
                    have g26 : m_44 0 26 = ml 0 26 := by rw [hml, e_45, e_42, e_20, mset_ne (by decide), mset_ne (by decide), mset_ne (by decide)]
                    have g22 : m_44 0 22 = ml 0 22 := by rw [hml, e_45, e_42, e_20, mset_ne (by decide), mset_ne (by decide), mset_ne (by decide)]
                    have g11 : m_44 1 0 = mem 1 0 := by rw [g1 1 (by decide), o1 1 (by decide) (by decide) (by decide) (by decide) (by decide) (by decide), h1]
                    have e21 : m_44 0 21 = m2 0 21 + (if shortS (mem 1) (m2 14) s.toNat = true then 1 else 0) := by
                      rw [e_45, e_42, e_20, mset_ne (by decide), mset_ne (by decide), mset_eq, ← hml, o2 21 (by decide), o4]
                      by_cases hS : shortS (mem 1) (m2 14) s.toNat = true <;> simp [hS]
                    have e23 : m_44 0 23 = m2 0 23 + (if shortS (mem 1) (m2 14) s.toNat = true then 0 else 1) := by
                      rw [e_45, e_42, e_20, mset_ne (by decide), mset_eq, ← hml, o2 23 (by decide)]
                      by_cases hS : shortS (mem 1) (m2 14) s.toNat = true
                      · rw [if_pos hS] at o4 ⊢; omega
                      · rw [if_neg hS] at o4 ⊢; omega
                    have e24 : m_44 0 24 = if shortS (mem 1) (m2 14) s.toNat = true ∧ m2 0 24 = -2 then nu else m2 0 24 := by
                      have o24 := o2 24 (by decide)
                      rw [e_45, e_42, e_20, mset_eq]
                      try rw [← hml]
                      try rw [← hml] at *
                      by_cases hS : shortS (mem 1) (m2 14) s.toNat = true
                      · rw [if_pos hS] at o4
                        simp only [hS, true_and]
                        split <;> omega
                      · rw [if_neg hS] at o4
                        rw [if_neg (fun q => hS q.1)]
                        omega
                    have q14 : ∀ i : Nat, i < 8 → 0 ≤ ml 14 i ∧ ml 14 i ≤ 99 := fun i hi => by rw [o5]; exact rowS_bd hN.2 b1 (fun k hk => (hG s.toNat (by omega) k hk).1) i hi
                    refine ok_aload_n F dX8_lives_161 1 rfl ?_
                    refine ok_iload_n F dX8_lives_162 3 rfl ?_
                    refine ok_callv F [pI nu] dX8_lives_163 kM_X8_seesBehind kI_X8_seesBehind kV_X8_seesBehind kL_X8_276 (ci := 8) rfl sh_0 rfl (by decide) (Nat.le_of_ble_eq_true rfl) rfl (m_X8_seesBehind _ nu m_44 (by omega) (by rw [g1 1 (by decide), o1 1 (by decide) (by decide) (by decide) (by decide) (by decide) (by decide), h1]; exact hN) (fun i hi => by have := q14 i hi; rw [g1 14 (by decide)]; omega) (fun i hi => by have hi2 : (i : Int) < mem 1 0 := by { rw [← g11]; exact hi }; have := b1 i (by omega); rw [g1 15 (by decide), o6 i hi2]; omega) (fun i hi => by have := b2 i hi; rw [g1 16 (by decide), o1 16 (by decide) (by decide) (by decide) (by decide) (by decide) (by decide)]; omega) (by rw [g25, o2 25 (by decide)]; omega)) ?_
                    rintro _ m_47 ⟨rfl, r_48⟩
                    obtain ⟨p1, p2, p3, p4, p5⟩ := id r_48
                    rw [← hm6] at p1 p2 p3 p4
                    have f14 : m_47 14 = rowS (mem 1) (m2 14) s.toNat := by rw [p1 14 (by decide) (by decide), hm6, g1 14 (by decide)]; funext i; exact o5 i
                    have fL : LRep m_47 (lifeN (mem 1) d (life0 (mem 14) (mem 16)) (s + 1).toNat) (nu + 1) := by
                      rw [lifeN_s _ _ _ hs0, if_pos hyd]
                      refine hL.step f14 ?_ ?_ ?_ ?_ ?_ ?_ rfl
                      · funext i
                        rw [p3 i, f14, hm6, g11, g1 16 (by decide), g1 14 (by decide), o1 16 (by decide) (by decide) (by decide) (by decide) (by decide) (by decide), o5 i]
                      · rw [p2 21 (by decide) (by decide), hm6, e21]
                      · rw [p2 22 (by decide) (by decide), hm6, g22, o3]
                      · rw [p2 23 (by decide) (by decide), hm6, e23]
                      · rw [p2 24 (by decide) (by decide), hm6, e24]
                      · rw [p4, hm6, g11, g25, g26, o2 25 (by decide), o2 26 (by decide)]
                        exact goneD_congr (fun i hi => by rw [f14, g1 14 (by decide), g1 15 (by decide), o5 i, o6 i (by omega)])
                    have fFa : (∀ a, a ≠ 0 → a ≠ 8 → a ≠ 9 → a ≠ 11 → a ≠ 14 → a ≠ 15 → a ≠ 16 → m_47 a = mem a) := fun a a0 a1 a2 a3 a4 a5 a6 => by rw [p1 a a0 a6, hm6, g1 a a0, o1 a a0 a1 a2 a3 a4 a5, hF2 a a0 a1 a2 a3 a4 a5 a6]
                    have fF0 : ∀ j, (j < 21 ∨ 26 < j) → m_47 0 j = mem 0 j := fun j hj => by rw [p2 j (by omega) (by omega), hm6, g0 j hj, o2 j (by omega), hF20 j hj]
                    refine ok_iinc (lv' := [(2, pI (nu + 1)), (4, pI z_16), (0, pR 0), (1, pI d), (3, pI s)]) F dX8_lives_166 3 rfl (by decide) rfl ?_
                    refine ok_iinc (lv' := [(3, pI (s + 1)), (2, pI (nu + 1)), (4, pI z_16), (0, pR 0), (1, pI d)]) F dX8_lives_169 4 rfl (by decide) rfl ?_
                    refine ok_goto F 63 dX8_lives_172 (by decide) ?_
                    refine ok_lvp [3, 4, 1, 0] (lv' := [(0, pR 0), (1, pI d), (2, pI (nu + 1)), (3, pI (s + 1))]) rfl ?_
                    refine ih_63 _ ?_ (nu + 1) (s + 1) m_47 ?_ rfl
                    · omega
                    · first
                        | (have hnd : ¬ sDay (mem 1) s.toNat = d := by rw [sDay, show 59 + 10 * s.toNat = (59 + (10 * s)).toNat by omega]; assumption
                           exact ⟨by omega, by omega, hF2, hF20, by rw [lifeN_s _ _ _ hs0, if_neg hnd]; exact hL⟩)
                        | exact ⟨by omega, by omega, fFa, fF0, fL⟩
                  · refine ok_aload_n F dX8_lives_141 1 rfl ?_
                    refine ok_getf (v := m_17 0 24) F dX8_lives_142 kF_X8_264 sh_0 rfl (by rw [e_42, mset_ne (by decide), e_20, mset_ne (by decide)] <;> rfl) ?_
                    refine ok_bipush F dX8_lives_145 rfl ?_
                    refine ok_icmp_ne F 154 dX8_lives_147 (by decide) (by have := o2 24 (by decide); rw [← hml]; omega) (by first | omega | exact hR _) (fun c_49 => ?_) (fun c_49 => ?_)
                    · refine ok_aload_n F dX8_lives_154 1 rfl ?_
                      refine ok_getf (v := m_17 0 24) F dX8_lives_155 kF_X8_264 sh_0 rfl (by rw [e_42, mset_ne (by decide), e_20, mset_ne (by decide)] <;> rfl) ?_
                      refine ok_putf F dX8_lives_158 kF_X8_264 sh_0 rfl rfl rfl (fun m_50 e_51 => ?_)
                      obtain ⟨m6, hm6⟩ : ∃ x, x = m_50 := ⟨_, rfl⟩
                      have g1 : ∀ a, a ≠ 0 → m_50 a = ml a := fun a a0 => by rw [hml, e_51, e_42, e_20]; funext b; rw [mset_nk a0, mset_nk a0, mset_nk a0]
                      have g0 : ∀ j, (j < 21 ∨ 26 < j) → m_50 0 j = ml 0 j := fun j hj => by rw [hml, e_51, e_42, e_20, mset_ne (by omega), mset_ne (by omega), mset_ne (by omega)]
                      have g25 : m_50 0 25 = ml 0 25 := by rw [hml, e_51, e_42, e_20, mset_ne (by decide), mset_ne (by decide), mset_ne (by decide)]
                      have g26 : m_50 0 26 = ml 0 26 := by rw [hml, e_51, e_42, e_20, mset_ne (by decide), mset_ne (by decide), mset_ne (by decide)]
                      have g22 : m_50 0 22 = ml 0 22 := by rw [hml, e_51, e_42, e_20, mset_ne (by decide), mset_ne (by decide), mset_ne (by decide)]
                      have g11 : m_50 1 0 = mem 1 0 := by rw [g1 1 (by decide), o1 1 (by decide) (by decide) (by decide) (by decide) (by decide) (by decide), h1]
                      have e21 : m_50 0 21 = m2 0 21 + (if shortS (mem 1) (m2 14) s.toNat = true then 1 else 0) := by
                        rw [e_51, e_42, e_20, mset_ne (by decide), mset_ne (by decide), mset_eq, ← hml, o2 21 (by decide), o4]
                        by_cases hS : shortS (mem 1) (m2 14) s.toNat = true <;> simp [hS]
                      have e23 : m_50 0 23 = m2 0 23 + (if shortS (mem 1) (m2 14) s.toNat = true then 0 else 1) := by
                        rw [e_51, e_42, e_20, mset_ne (by decide), mset_eq, ← hml, o2 23 (by decide)]
                        by_cases hS : shortS (mem 1) (m2 14) s.toNat = true
                        · rw [if_pos hS] at o4 ⊢; omega
                        · rw [if_neg hS] at o4 ⊢; omega
                      have e24 : m_50 0 24 = if shortS (mem 1) (m2 14) s.toNat = true ∧ m2 0 24 = -2 then nu else m2 0 24 := by
                        have o24 := o2 24 (by decide)
                        rw [e_51, e_42, e_20, mset_eq]
                        try rw [← hml]
                        try rw [← hml] at *
                        by_cases hS : shortS (mem 1) (m2 14) s.toNat = true
                        · rw [if_pos hS] at o4
                          simp only [hS, true_and]
                          split <;> omega
                        · rw [if_neg hS] at o4
                          rw [if_neg (fun q => hS q.1)]
                          omega
                      have q14 : ∀ i : Nat, i < 8 → 0 ≤ ml 14 i ∧ ml 14 i ≤ 99 := fun i hi => by rw [o5]; exact rowS_bd hN.2 b1 (fun k hk => (hG s.toNat (by omega) k hk).1) i hi
                      refine ok_aload_n F dX8_lives_161 1 rfl ?_
                      refine ok_iload_n F dX8_lives_162 3 rfl ?_
                      refine ok_callv F [pI nu] dX8_lives_163 kM_X8_seesBehind kI_X8_seesBehind kV_X8_seesBehind kL_X8_276 (ci := 8) rfl sh_0 rfl (by decide) (Nat.le_of_ble_eq_true rfl) rfl (m_X8_seesBehind _ nu m_50 (by omega) (by rw [g1 1 (by decide), o1 1 (by decide) (by decide) (by decide) (by decide) (by decide) (by decide), h1]; exact hN) (fun i hi => by have := q14 i hi; rw [g1 14 (by decide)]; omega) (fun i hi => by have hi2 : (i : Int) < mem 1 0 := by { rw [← g11]; exact hi }; have := b1 i (by omega); rw [g1 15 (by decide), o6 i hi2]; omega) (fun i hi => by have := b2 i hi; rw [g1 16 (by decide), o1 16 (by decide) (by decide) (by decide) (by decide) (by decide) (by decide)]; omega) (by rw [g25, o2 25 (by decide)]; omega)) ?_
                      rintro _ m_53 ⟨rfl, r_54⟩
                      obtain ⟨p1, p2, p3, p4, p5⟩ := id r_54
                      rw [← hm6] at p1 p2 p3 p4
                      have f14 : m_53 14 = rowS (mem 1) (m2 14) s.toNat := by rw [p1 14 (by decide) (by decide), hm6, g1 14 (by decide)]; funext i; exact o5 i
                      have fL : LRep m_53 (lifeN (mem 1) d (life0 (mem 14) (mem 16)) (s + 1).toNat) (nu + 1) := by
                        rw [lifeN_s _ _ _ hs0, if_pos hyd]
                        refine hL.step f14 ?_ ?_ ?_ ?_ ?_ ?_ rfl
                        · funext i
                          rw [p3 i, f14, hm6, g11, g1 16 (by decide), g1 14 (by decide), o1 16 (by decide) (by decide) (by decide) (by decide) (by decide) (by decide), o5 i]
                        · rw [p2 21 (by decide) (by decide), hm6, e21]
                        · rw [p2 22 (by decide) (by decide), hm6, g22, o3]
                        · rw [p2 23 (by decide) (by decide), hm6, e23]
                        · rw [p2 24 (by decide) (by decide), hm6, e24]
                        · rw [p4, hm6, g11, g25, g26, o2 25 (by decide), o2 26 (by decide)]
                          exact goneD_congr (fun i hi => by rw [f14, g1 14 (by decide), g1 15 (by decide), o5 i, o6 i (by omega)])
                      have fFa : (∀ a, a ≠ 0 → a ≠ 8 → a ≠ 9 → a ≠ 11 → a ≠ 14 → a ≠ 15 → a ≠ 16 → m_53 a = mem a) := fun a a0 a1 a2 a3 a4 a5 a6 => by rw [p1 a a0 a6, hm6, g1 a a0, o1 a a0 a1 a2 a3 a4 a5, hF2 a a0 a1 a2 a3 a4 a5 a6]
                      have fF0 : ∀ j, (j < 21 ∨ 26 < j) → m_53 0 j = mem 0 j := fun j hj => by rw [p2 j (by omega) (by omega), hm6, g0 j hj, o2 j (by omega), hF20 j hj]
                      refine ok_iinc (lv' := [(2, pI (nu + 1)), (4, pI z_16), (0, pR 0), (1, pI d), (3, pI s)]) F dX8_lives_166 3 rfl (by decide) rfl ?_
                      refine ok_iinc (lv' := [(3, pI (s + 1)), (2, pI (nu + 1)), (4, pI z_16), (0, pR 0), (1, pI d)]) F dX8_lives_169 4 rfl (by decide) rfl ?_
                      refine ok_goto F 63 dX8_lives_172 (by decide) ?_
                      refine ok_lvp [3, 4, 1, 0] (lv' := [(0, pR 0), (1, pI d), (2, pI (nu + 1)), (3, pI (s + 1))]) rfl ?_
                      refine ih_63 _ ?_ (nu + 1) (s + 1) m_53 ?_ rfl
                      · omega
                      · first
                          | (have hnd : ¬ sDay (mem 1) s.toNat = d := by rw [sDay, show 59 + 10 * s.toNat = (59 + (10 * s)).toNat by omega]; assumption
                             exact ⟨by omega, by omega, hF2, hF20, by rw [lifeN_s _ _ _ hs0, if_neg hnd]; exact hL⟩)
                          | exact ⟨by omega, by omega, fFa, fF0, fL⟩
                    · refine ok_iload_n F dX8_lives_150 3 rfl ?_
                      refine ok_goto F 158 dX8_lives_151 (by decide) ?_
                      refine ok_putf F dX8_lives_158 kF_X8_264 sh_0 rfl rfl rfl (fun m_55 e_56 => ?_)
                      obtain ⟨m6, hm6⟩ : ∃ x, x = m_55 := ⟨_, rfl⟩
                      have g1 : ∀ a, a ≠ 0 → m_55 a = ml a := fun a a0 => by rw [hml, e_56, e_42, e_20]; funext b; rw [mset_nk a0, mset_nk a0, mset_nk a0]
                      have g0 : ∀ j, (j < 21 ∨ 26 < j) → m_55 0 j = ml 0 j := fun j hj => by rw [hml, e_56, e_42, e_20, mset_ne (by omega), mset_ne (by omega), mset_ne (by omega)]
                      have g25 : m_55 0 25 = ml 0 25 := by rw [hml, e_56, e_42, e_20, mset_ne (by decide), mset_ne (by decide), mset_ne (by decide)]
                      have g26 : m_55 0 26 = ml 0 26 := by rw [hml, e_56, e_42, e_20, mset_ne (by decide), mset_ne (by decide), mset_ne (by decide)]
                      have g22 : m_55 0 22 = ml 0 22 := by rw [hml, e_56, e_42, e_20, mset_ne (by decide), mset_ne (by decide), mset_ne (by decide)]
                      have g11 : m_55 1 0 = mem 1 0 := by rw [g1 1 (by decide), o1 1 (by decide) (by decide) (by decide) (by decide) (by decide) (by decide), h1]
                      have e21 : m_55 0 21 = m2 0 21 + (if shortS (mem 1) (m2 14) s.toNat = true then 1 else 0) := by
                        rw [e_56, e_42, e_20, mset_ne (by decide), mset_ne (by decide), mset_eq, ← hml, o2 21 (by decide), o4]
                        by_cases hS : shortS (mem 1) (m2 14) s.toNat = true <;> simp [hS]
                      have e23 : m_55 0 23 = m2 0 23 + (if shortS (mem 1) (m2 14) s.toNat = true then 0 else 1) := by
                        rw [e_56, e_42, e_20, mset_ne (by decide), mset_eq, ← hml, o2 23 (by decide)]
                        by_cases hS : shortS (mem 1) (m2 14) s.toNat = true
                        · rw [if_pos hS] at o4 ⊢; omega
                        · rw [if_neg hS] at o4 ⊢; omega
                      have e24 : m_55 0 24 = if shortS (mem 1) (m2 14) s.toNat = true ∧ m2 0 24 = -2 then nu else m2 0 24 := by
                        have o24 := o2 24 (by decide)
                        rw [e_56, e_42, e_20, mset_eq]
                        try rw [← hml]
                        try rw [← hml] at *
                        by_cases hS : shortS (mem 1) (m2 14) s.toNat = true
                        · rw [if_pos hS] at o4
                          simp only [hS, true_and]
                          split <;> omega
                        · rw [if_neg hS] at o4
                          rw [if_neg (fun q => hS q.1)]
                          omega
                      have q14 : ∀ i : Nat, i < 8 → 0 ≤ ml 14 i ∧ ml 14 i ≤ 99 := fun i hi => by rw [o5]; exact rowS_bd hN.2 b1 (fun k hk => (hG s.toNat (by omega) k hk).1) i hi
                      refine ok_aload_n F dX8_lives_161 1 rfl ?_
                      refine ok_iload_n F dX8_lives_162 3 rfl ?_
                      refine ok_callv F [pI nu] dX8_lives_163 kM_X8_seesBehind kI_X8_seesBehind kV_X8_seesBehind kL_X8_276 (ci := 8) rfl sh_0 rfl (by decide) (Nat.le_of_ble_eq_true rfl) rfl (m_X8_seesBehind _ nu m_55 (by omega) (by rw [g1 1 (by decide), o1 1 (by decide) (by decide) (by decide) (by decide) (by decide) (by decide), h1]; exact hN) (fun i hi => by have := q14 i hi; rw [g1 14 (by decide)]; omega) (fun i hi => by have hi2 : (i : Int) < mem 1 0 := by { rw [← g11]; exact hi }; have := b1 i (by omega); rw [g1 15 (by decide), o6 i hi2]; omega) (fun i hi => by have := b2 i hi; rw [g1 16 (by decide), o1 16 (by decide) (by decide) (by decide) (by decide) (by decide) (by decide)]; omega) (by rw [g25, o2 25 (by decide)]; omega)) ?_
                      rintro _ m_58 ⟨rfl, r_59⟩
                      obtain ⟨p1, p2, p3, p4, p5⟩ := id r_59
                      rw [← hm6] at p1 p2 p3 p4
                      have f14 : m_58 14 = rowS (mem 1) (m2 14) s.toNat := by rw [p1 14 (by decide) (by decide), hm6, g1 14 (by decide)]; funext i; exact o5 i
                      have fL : LRep m_58 (lifeN (mem 1) d (life0 (mem 14) (mem 16)) (s + 1).toNat) (nu + 1) := by
                        rw [lifeN_s _ _ _ hs0, if_pos hyd]
                        refine hL.step f14 ?_ ?_ ?_ ?_ ?_ ?_ rfl
                        · funext i
                          rw [p3 i, f14, hm6, g11, g1 16 (by decide), g1 14 (by decide), o1 16 (by decide) (by decide) (by decide) (by decide) (by decide) (by decide), o5 i]
                        · rw [p2 21 (by decide) (by decide), hm6, e21]
                        · rw [p2 22 (by decide) (by decide), hm6, g22, o3]
                        · rw [p2 23 (by decide) (by decide), hm6, e23]
                        · rw [p2 24 (by decide) (by decide), hm6, e24]
                        · rw [p4, hm6, g11, g25, g26, o2 25 (by decide), o2 26 (by decide)]
                          exact goneD_congr (fun i hi => by rw [f14, g1 14 (by decide), g1 15 (by decide), o5 i, o6 i (by omega)])
                      have fFa : (∀ a, a ≠ 0 → a ≠ 8 → a ≠ 9 → a ≠ 11 → a ≠ 14 → a ≠ 15 → a ≠ 16 → m_58 a = mem a) := fun a a0 a1 a2 a3 a4 a5 a6 => by rw [p1 a a0 a6, hm6, g1 a a0, o1 a a0 a1 a2 a3 a4 a5, hF2 a a0 a1 a2 a3 a4 a5 a6]
                      have fF0 : ∀ j, (j < 21 ∨ 26 < j) → m_58 0 j = mem 0 j := fun j hj => by rw [p2 j (by omega) (by omega), hm6, g0 j hj, o2 j (by omega), hF20 j hj]
                      refine ok_iinc (lv' := [(2, pI (nu + 1)), (4, pI z_16), (0, pR 0), (1, pI d), (3, pI s)]) F dX8_lives_166 3 rfl (by decide) rfl ?_
                      refine ok_iinc (lv' := [(3, pI (s + 1)), (2, pI (nu + 1)), (4, pI z_16), (0, pR 0), (1, pI d)]) F dX8_lives_169 4 rfl (by decide) rfl ?_
                      refine ok_goto F 63 dX8_lives_172 (by decide) ?_
                      refine ok_lvp [3, 4, 1, 0] (lv' := [(0, pR 0), (1, pI d), (2, pI (nu + 1)), (3, pI (s + 1))]) rfl ?_
                      refine ih_63 _ ?_ (nu + 1) (s + 1) m_58 ?_ rfl
                      · omega
                      · first
                          | (have hnd : ¬ sDay (mem 1) s.toNat = d := by rw [sDay, show 59 + 10 * s.toNat = (59 + (10 * s)).toNat by omega]; assumption
                             exact ⟨by omega, by omega, hF2, hF20, by rw [lifeN_s _ _ _ hs0, if_neg hnd]; exact hL⟩)
                          | exact ⟨by omega, by omega, fFa, fF0, fL⟩
              · refine ok_goto F 169 dX8_lives_89 (by decide) ?_
                refine ok_iinc (lv' := [(3, pI (s + 1)), (0, pR 0), (1, pI d), (2, pI nu)]) F dX8_lives_169 3 rfl (by decide) rfl ?_
                refine ok_goto F 63 dX8_lives_172 (by decide) ?_
                refine ok_lvp [1, 2, 3, 0] (lv' := [(0, pR 0), (1, pI d), (2, pI nu), (3, pI (s + 1))]) rfl ?_
                refine ih_63 _ ?_ nu (s + 1) m2 ?_ rfl
                · omega
                · first
                    | (have hnd : ¬ sDay (mem 1) s.toNat = d := by rw [sDay, show 59 + 10 * s.toNat = (59 + (10 * s)).toNat by omega]; assumption
                       exact ⟨by omega, by omega, hF2, hF20, by rw [lifeN_s _ _ _ hs0, if_neg hnd]; exact hL⟩)
                    | exact ⟨by omega, by omega, fFa, fF0, fL⟩
        refine ok_lvp [2, 3, 1, 0] (lv' := [(0, pR 0), (1, pI d), (2, pI 0), (3, pI 0)]) rfl ?_
        refine hL_63 _ 0 0 m ?_ rfl
        refine ⟨by omega, by omega, fun a a0 _ _ _ _ _ a6 => hF a a0 a6, hF0, hF14, ?_, hfl.1, hfl.2.1, hfl.2.2.1, hfl.2.2.2.1, hfl.2.2.2.2.1, hfl.2.2.2.2.2, rfl⟩
        funext j
        rw [hF16]
        show _ = if j < 8 then mem 14 j else mem 16 j
        by_cases g : j < 8
        · rw [if_pos g, if_pos (by omega)]
        · rw [if_neg g, if_neg (by omega)]
      · refine ok_aload_n F dX8_lives_41 0 rfl ?_
        refine ok_getr F dX8_lives_42 kF_X8_58 sh_0 rfl ?_
        refine ok_iload_n F dX8_lives_45 2 rfl ?_
        refine ok_aload_n F dX8_lives_46 0 rfl ?_
        refine ok_getr F dX8_lives_47 kF_X8_52 sh_0 rfl ?_
        refine ok_iload_n F dX8_lives_50 2 rfl ?_
        refine ok_iald (v := mem 14 i.toNat) F dX8_lives_51 sh_14 (by first | decide | assumption) (by first | omega | exact hR _) (by first | omega | exact hR _) (by rw [hF14] <;> rfl) ?_
        refine ok_iast F dX8_lives_52 sh_16 (by first | decide | assumption) (by first | omega | exact hR _) (by first | omega | exact hR _) (fun m_60 e_61 => ?_)
        refine ok_iinc (lv' := [(2, pI (i + 1)), (0, pR 0), (1, pI d)]) F dX8_lives_53 2 rfl (by decide) rfl ?_
        refine ok_goto F 35 dX8_lives_56 (by decide) ?_
        refine ok_lvp [1, 2, 0] (lv' := [(0, pR 0), (1, pI d), (2, pI (i + 1))]) rfl ?_
        refine ih_35 _ ?_ (i + 1) m_60 ?_ rfl
        · omega
        · refine ⟨by omega, by omega, fun a a0 a1 => ?_, fun j hj => ?_, ?_, fun j => ?_⟩
          · rw [← hF a a0 a1, e_61]; funext b; exact mset_nk a1
          · rw [e_61, mset_nk (by decide)]; exact hF0 j hj
          · rw [e_61]; simp only [mset_nk (show (0 : Nat) ≠ 16 by decide)]; exact hfl
          · rw [e_61]
            by_cases e : j = i.toNat
            · subst e; rw [mset_eq, if_pos (by omega)]
            · rw [mset_ne (fun q => e q.2), hF16]; by_cases g : (j : Int) < i
              · rw [if_pos g, if_pos (by omega)]
              · rw [if_neg g, if_neg (by omega)]
  refine ok_lvp [1, 2, 0] (lv' := [(0, pR 0), (1, pI d), (2, pI 0)]) rfl ?_
  refine hL_35 _ 0 m_11 ?_ rfl
  refine ⟨by omega, by omega, fun a a0 _ => ?_, fun j hj => ?_, ?_, fun j => ?_⟩
  · rw [e_12, e_10, e_8, e_6, e_4, e_2]; funext b; repeat rw [mset_nk a0]
  · rw [e_12, e_10, e_8, e_6, e_4, e_2]; repeat rw [mset_ne (by omega)]
  · rw [e_12, e_10, e_8, e_6, e_4, e_2]; simp [mset]
  · rw [e_12, e_10, e_8, e_6, e_4, e_2, if_neg (by omega)]; repeat rw [mset_nk (by decide)]
