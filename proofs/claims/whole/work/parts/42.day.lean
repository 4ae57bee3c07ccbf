/-! the class: a day lived -/
/-- how many sales there are of the days up to d -/
def endF (f : Nat → Int) (d : Int) : Int := sumN (fun s => if sDay f s ≤ d then 1 else 0) (f 2).toNat
/-- a State holds what a row of the reference holds -/
def RS (m : Mem) (b : Nat) (f : Nat → Int) : Prop := m b 0 = f 0 ∧ m b 1 = f 1 ∧ (∀ r : Nat, r < 7 → ∀ k : Nat, k < 8 → m (b + 1 + r) k = f (3 + 8 * r + k)) ∧ (∀ s : Nat, (s : Int) < f 2 → m (b + 9) s = sPrice f s ∧ ∀ k : Nat, k < 8 → m (b + 10) (8 * s + k) = sGiven f s k) ∧ ∀ d : Nat, (d : Int) < f 1 → m (b + 8) d = endF f d
theorem RS.congr {m mv : Mem} {b : Nat} {f : Nat → Int} (h : RS m b f) (e : ∀ a, b ≤ a → a ≤ b + 10 → mv a = m a) : RS mv b f := by
  obtain ⟨h1, h2, h3, h4, h5⟩ := h
  refine ⟨by rw [e b (by omega) (by omega)]; exact h1, by rw [e b (by omega) (by omega)]; exact h2, fun r hr k hk => by rw [e _ (by omega) (by omega)]; exact h3 r hr k hk, fun s hs => ?_, fun d hd => by rw [e _ (by omega) (by omega)]; exact h5 d hd⟩
  rw [e (b + 9) (by omega) (by omega), e (b + 10) (by omega) (by omega)]
  exact h4 s hs
/-- what holds of every row of the reference that is now, past or on a shelf -/
def GR (f : Nat → Int) : Prop := (0 ≤ f 0 ∧ f 0 ≤ 8) ∧ (0 ≤ f 1 ∧ f 1 ≤ 5) ∧ (0 ≤ f 2 ∧ f 2 ≤ 40) ∧ (∀ i : Nat, i < 8 → 0 ≤ f (3 + i) ∧ f (3 + i) ≤ 500) ∧ (∀ i : Nat, (i : Int) < f 0 → 1 ≤ f (3 + i)) ∧ (∀ r : Nat, r < 5 → ∀ k : Nat, k < 8 → 0 ≤ f (11 + 8 * r + k) ∧ f (11 + 8 * r + k) ≤ 99) ∧ (∀ i : Nat, (i : Int) < f 0 → 1 ≤ f (35 + i)) ∧ (∀ s : Nat, (s : Int) < f 2 → (0 ≤ sDay f s ∧ sDay f s < f 1) ∧ (1 ≤ sPrice f s ∧ sPrice f s ≤ 1000) ∧ (∀ k : Nat, k < 8 → 0 ≤ sGiven f s k ∧ sGiven f s k ≤ 5) ∧ (0 ≤ abvS f s ∧ abvS f s ≤ 2500)) ∧ (∀ s : Nat, (s : Int) + 1 < f 2 → sDay f s ≤ sDay f (s + 1)) ∧ sumN (fun k => f (43 + k)) (f 0).toNat ≤ 5
/-- the rows of a life, in the class's cells -/
def LRepC (m : Mem) (L : LfS) : Prop := (∀ k : Nat, k < 8 → m 180 k = L.1 k) ∧ (∀ k : Nat, k < 8 → m 181 k = L.2.1 k) ∧ m 179 3 = L.2.2.1 ∧ m 179 4 = L.2.2.2.1 ∧ m 179 5 = L.2.2.2.2.2.1 ∧ m 179 6 = L.2.2.2.2.2.2.1 ∧ m 179 7 = L.2.2.2.2.2.2.2.1
def LI (n : Nat) (L : LfS) : Prop := LB n L ∧ (∀ k : Nat, k < 8 → L.2.1 k ≤ L.1 k) ∧ (L.2.2.1 = 0 ∧ L.2.2.2.2.2.1 = -2 ∨ 1 ≤ L.2.2.1 ∧ 0 ≤ L.2.2.2.2.2.1) ∧ (L.2.2.2.2.2.2.1 = -2 ∨ 0 ≤ L.2.2.2.2.2.2.1)
/-- pieces of a kind behind a sale, were its change taken -/
def behS (f w : Nat → Int) (s k : Nat) : Int := stk f w s k - takS f w s k
/-- of how many kinds there would be too many -/
def fullS (f w : Nat → Int) (s : Nat) : Int := sumN (fun k => if 100 ≤ behS f w s k then 1 else 0) (f 0).toNat
/-- what is spare of each kind behind a sale -/
def spS (f w : Nat → Int) (s : Nat) (sp : Nat → Int) (k : Nat) : Int := if fewS f w s = 1000000 then sp k else if (k : Int) < f 0 then min (sp k) (if fullS f w s = 1 ∧ 100 ≤ behS f w s k then behS f w s k - 100 else behS f w s k) else sp k
theorem cnt_pos {g : Nat → Bool} : ∀ {n : Nat}, (0 < sumN (fun k => if g k = true then (1 : Int) else 0) n ↔ anyN g n = true) ∧ 0 ≤ sumN (fun k => if g k = true then (1 : Int) else 0) n
  | 0 => ⟨⟨fun h => by simp [sumN] at h, fun h => by simp [anyN] at h⟩, Int.le_refl _⟩
  | n + 1 => by
    obtain ⟨i1, i2⟩ := cnt_pos (g := g) (n := n)
    have e1 : sumN (fun k => if g k = true then (1 : Int) else 0) (n + 1) = sumN (fun k => if g k = true then (1 : Int) else 0) n + (if g n = true then 1 else 0) := rfl
    have e2 : anyN g (n + 1) = (anyN g n || g n) := by
      first
        | rfl
        | (unfold anyN; cases g n <;> simp)
    rw [e1, e2]
    cases hg : g n
    · rw [if_neg (by decide), Bool.or_false, ← i1]; omega
    · rw [if_pos rfl, Bool.or_true]
      exact ⟨⟨fun _ => rfl, fun _ => by omega⟩, by omega⟩
theorem full_any (f w : Nat → Int) (s : Nat) : (0 < fullS f w s ↔ anyN (overS f w s) (f 0).toNat = true) ∧ 0 ≤ fullS f w s := by
  have h := cnt_pos (g := overS f w s) (n := (f 0).toNat)
  have e : fullS f w s = sumN (fun k => if overS f w s k = true then (1 : Int) else 0) (f 0).toNat := by
    unfold fullS
    refine sumN_congr (fun k _ => ?_)
    unfold overS behS
    by_cases g : 99 < stk f w s k - takS f w s k
    · rw [if_pos (by omega), if_pos (decide_eq_true g)]
    · rw [if_neg (by omega), if_neg (by rw [decide_eq_true_eq]; exact g)]
  rw [e]
  exact h
theorem goneD_no {g : Nat → Bool} {num : Int} : ∀ {n : Nat} {a b : Int}, (∀ i, i < n → g i = false) → goneD g num n a b = (a, b)
  | 0, _, _, _ => rfl
  | n + 1, a, b, h => by
    show (if g n = true ∧ (a = -2 ∨ a = num) then goneD g num n num n else goneD g num n a b) = _
    rw [if_neg (by rw [h n (by omega)]; simp)]
    exact goneD_no (fun i hi => h i (by omega))
theorem LI.step {f : Nat → Int} {s n : Nat} {L : LfS} (hN : f 0 ≤ 8) (hg : ∀ k : Nat, k < 8 → 0 ≤ sGiven f s k) (h : LI n L) : LI (n + 1) (lifeS f s L) := by
  obtain ⟨h1, h2, h3, h4⟩ := h
  have hb := LB.step (s := s) hN hg h1
  obtain ⟨w, low, sh, pc, gd, fs, gs, gk, num⟩ := L
  obtain ⟨l1, l2, l3, l4, l5, l6, l7⟩ := h1
  dsimp only at l1 l2 l3 l4 l5 l6 l7 h2 h3 h4
  refine ⟨hb, fun k hk => ?_, ?_, ?_⟩
  · show (if (k : Int) < f 0 then min (low k) (rowS f w s k) else low k) ≤ rowS f w s k
    by_cases g : (k : Int) < f 0
    · rw [if_pos g]; exact Int.min_le_right _ _
    · rw [if_neg g]
      unfold rowS
      by_cases q : shortS f w s = true
      · rw [if_pos q]; exact h2 k hk
      · rw [if_neg q, if_neg g]; exact h2 k hk
  · show sh + (if shortS f w s = true then 1 else 0) = 0 ∧ (if shortS f w s = true ∧ fs = -2 then num else fs) = -2 ∨ 1 ≤ sh + (if shortS f w s = true then 1 else 0) ∧ 0 ≤ (if shortS f w s = true ∧ fs = -2 then num else fs)
    by_cases q : shortS f w s = true
    · rw [if_pos q]
      by_cases q2 : fs = -2
      · rw [if_pos ⟨q, q2⟩]; right; omega
      · rw [if_neg (fun z => q2 z.2)]; right; omega
    · rw [if_neg q, if_neg (fun z => q z.1)]; omega
  · show (goneD _ num (f 0).toNat gs gk).1 = -2 ∨ 0 ≤ (goneD _ num (f 0).toNat gs gk).1
    rcases goneD_bd (f := fun i => decide (rowS f w s i = 0) && decide (0 < w i)) (num := num) (n := (f 0).toNat) (a := gs) (b := gk) with q | q
    · rw [q]; exact h4
    · rw [q]; exact Or.inr l7.1
theorem LI.mono {n m : Nat} {L : LfS} (hnm : n ≤ m) (h : LI n L) : LI m L := by
  induction m with
  | zero => obtain rfl : n = 0 := by omega
            exact h
  | succ m ih =>
    by_cases e : n = m + 1
    · subst e; exact h
    · have q := ih (by omega)
      exact ⟨q.1.mono, q.2⟩
theorem LI.start {w low : Nat → Int} (h : ∀ k : Nat, k < 8 → 0 ≤ w k ∧ w k ≤ 99) : LI 0 (life0 w low) := by
  refine ⟨life0_bd h, fun k hk => ?_, Or.inl ⟨rfl, rfl⟩, Or.inl rfl⟩
  show (if k < 8 then w k else low k) ≤ w k
  rw [if_pos hk]
  exact Int.le_refl _
/-- c sales from a-th on, lived one behind the other -/
def blkF (f : Nat → Int) (a : Nat) (L : LfS) : Nat → LfS
  | 0 => L
  | i + 1 => lifeS f (a + i) (blkF f a L i)
theorem blkF_s (f : Nat → Int) (a : Nat) (L : LfS) (i : Nat) : blkF f a L (i + 1) = lifeS f (a + i) (blkF f a L i) := rfl
theorem life_blk {f : Nat → Int} {d : Int} {a c : Nat} {L : LfS} {n2 : Nat} (hac : a + c ≤ n2) (h : ∀ s : Nat, s < n2 → (sDay f s = d ↔ a ≤ s ∧ s < a + c)) : lifeN f d L n2 = blkF f a L c := by
  have key : ∀ n, n ≤ n2 → lifeN f d L n = blkF f a L (min n (a + c) - a) := by
    intro n
    induction n with
    | zero => intro _; rw [show min 0 (a + c) - a = 0 by omega]; rfl
    | succ n ih =>
      intro hn
      show (if sDay f n = d then lifeS f n (lifeN f d L n) else lifeN f d L n) = _
      rw [ih (by omega)]
      by_cases g : a ≤ n ∧ n < a + c
      · rw [if_pos ((h n (by omega)).mpr g), show min (n + 1) (a + c) - a = (min n (a + c) - a) + 1 by omega, blkF_s, show a + (min n (a + c) - a) = n by omega]
      · rw [if_neg (fun q => g ((h n (by omega)).mp q)), show min (n + 1) (a + c) - a = min n (a + c) - a by omega]
  rw [key n2 (Nat.le_refl _), show min n2 (a + c) - a = c by omega]
theorem dX2_takesTooMuch_0 : decode cX2_takesTooMuch 0 = .ok (.iconst 0, 1) := by decide +kernel
theorem dX2_takesTooMuch_1 : decode cX2_takesTooMuch 1 = .ok (.istore_n 2, 1) := by decide +kernel
theorem dX2_takesTooMuch_2 : decode cX2_takesTooMuch 2 = .ok (.iconst 0, 1) := by decide +kernel
theorem dX2_takesTooMuch_3 : decode cX2_takesTooMuch 3 = .ok (.istore_n 3, 1) := by decide +kernel
theorem dX2_takesTooMuch_4 : decode cX2_takesTooMuch 4 = .ok (.iload_n 3, 1) := by decide +kernel
theorem dX2_takesTooMuch_5 : decode cX2_takesTooMuch 5 = .ok (.aload_n 1, 1) := by decide +kernel
theorem dX2_takesTooMuch_6 : decode cX2_takesTooMuch 6 = .ok (.getfield 68, 3) := by decide +kernel
theorem dX2_takesTooMuch_9 : decode cX2_takesTooMuch 9 = .ok (.if_icmp .ge 46, 3) := by decide +kernel
theorem dX2_takesTooMuch_12 : decode cX2_takesTooMuch 12 = .ok (.aload_n 0, 1) := by decide +kernel
theorem dX2_takesTooMuch_13 : decode cX2_takesTooMuch 13 = .ok (.getfield 28, 3) := by decide +kernel
theorem dX2_takesTooMuch_16 : decode cX2_takesTooMuch 16 = .ok (.iload_n 3, 1) := by decide +kernel
theorem dX2_takesTooMuch_17 : decode cX2_takesTooMuch 17 = .ok (.dup2, 1) := by decide +kernel
theorem dX2_takesTooMuch_18 : decode cX2_takesTooMuch 18 = .ok (.iaload, 1) := by decide +kernel
theorem dX2_takesTooMuch_19 : decode cX2_takesTooMuch 19 = .ok (.aload_n 0, 1) := by decide +kernel
theorem dX2_takesTooMuch_20 : decode cX2_takesTooMuch 20 = .ok (.getfield 24, 3) := by decide +kernel
theorem dX2_takesTooMuch_23 : decode cX2_takesTooMuch 23 = .ok (.getfield 94, 3) := by decide +kernel
theorem dX2_takesTooMuch_26 : decode cX2_takesTooMuch 26 = .ok (.iload_n 3, 1) := by decide +kernel
theorem dX2_takesTooMuch_27 : decode cX2_takesTooMuch 27 = .ok (.iaload, 1) := by decide +kernel
theorem dX2_takesTooMuch_28 : decode cX2_takesTooMuch 28 = .ok (.isub, 1) := by decide +kernel
theorem dX2_takesTooMuch_29 : decode cX2_takesTooMuch 29 = .ok (.iastore, 1) := by decide +kernel
theorem dX2_takesTooMuch_30 : decode cX2_takesTooMuch 30 = .ok (.iload_n 2, 1) := by decide +kernel
theorem dX2_takesTooMuch_31 : decode cX2_takesTooMuch 31 = .ok (.aload_n 0, 1) := by decide +kernel
theorem dX2_takesTooMuch_32 : decode cX2_takesTooMuch 32 = .ok (.getfield 28, 3) := by decide +kernel
theorem dX2_takesTooMuch_35 : decode cX2_takesTooMuch 35 = .ok (.iload_n 3, 1) := by decide +kernel
theorem dX2_takesTooMuch_36 : decode cX2_takesTooMuch 36 = .ok (.iaload, 1) := by decide +kernel
theorem dX2_takesTooMuch_37 : decode cX2_takesTooMuch 37 = .ok (.bipush 100, 2) := by decide +kernel
theorem dX2_takesTooMuch_39 : decode cX2_takesTooMuch 39 = .ok (.if_icmp .lt 7, 3) := by decide +kernel
theorem dX2_takesTooMuch_42 : decode cX2_takesTooMuch 42 = .ok (.iconst 1, 1) := by decide +kernel
theorem dX2_takesTooMuch_43 : decode cX2_takesTooMuch 43 = .ok (.goto 4, 3) := by decide +kernel
theorem dX2_takesTooMuch_46 : decode cX2_takesTooMuch 46 = .ok (.iconst 0, 1) := by decide +kernel
theorem dX2_takesTooMuch_47 : decode cX2_takesTooMuch 47 = .ok (.iadd, 1) := by decide +kernel
theorem dX2_takesTooMuch_48 : decode cX2_takesTooMuch 48 = .ok (.istore_n 2, 1) := by decide +kernel
theorem dX2_takesTooMuch_49 : decode cX2_takesTooMuch 49 = .ok (.iinc 3 1, 3) := by decide +kernel
theorem dX2_takesTooMuch_52 : decode cX2_takesTooMuch 52 = .ok (.goto (-48), 3) := by decide +kernel
theorem dX2_takesTooMuch_55 : decode cX2_takesTooMuch 55 = .ok (.iconst 0, 1) := by decide +kernel
theorem dX2_takesTooMuch_56 : decode cX2_takesTooMuch 56 = .ok (.istore_n 3, 1) := by decide +kernel
theorem dX2_takesTooMuch_57 : decode cX2_takesTooMuch 57 = .ok (.iload_n 3, 1) := by decide +kernel
theorem dX2_takesTooMuch_58 : decode cX2_takesTooMuch 58 = .ok (.aload_n 1, 1) := by decide +kernel
theorem dX2_takesTooMuch_59 : decode cX2_takesTooMuch 59 = .ok (.getfield 68, 3) := by decide +kernel
theorem dX2_takesTooMuch_62 : decode cX2_takesTooMuch 62 = .ok (.if_icmp .ge 70, 3) := by decide +kernel
theorem dX2_takesTooMuch_65 : decode cX2_takesTooMuch 65 = .ok (.iload_n 2, 1) := by decide +kernel
theorem dX2_takesTooMuch_66 : decode cX2_takesTooMuch 66 = .ok (.iconst 1, 1) := by decide +kernel
theorem dX2_takesTooMuch_67 : decode cX2_takesTooMuch 67 = .ok (.if_icmp .ne 18, 3) := by decide +kernel
theorem dX2_takesTooMuch_70 : decode cX2_takesTooMuch 70 = .ok (.aload_n 0, 1) := by decide +kernel
theorem dX2_takesTooMuch_71 : decode cX2_takesTooMuch 71 = .ok (.getfield 28, 3) := by decide +kernel
theorem dX2_takesTooMuch_74 : decode cX2_takesTooMuch 74 = .ok (.iload_n 3, 1) := by decide +kernel
theorem dX2_takesTooMuch_75 : decode cX2_takesTooMuch 75 = .ok (.iaload, 1) := by decide +kernel
theorem dX2_takesTooMuch_76 : decode cX2_takesTooMuch 76 = .ok (.bipush 100, 2) := by decide +kernel
theorem dX2_takesTooMuch_78 : decode cX2_takesTooMuch 78 = .ok (.if_icmp .lt 7, 3) := by decide +kernel
theorem dX2_takesTooMuch_81 : decode cX2_takesTooMuch 81 = .ok (.iconst 1, 1) := by decide +kernel
theorem dX2_takesTooMuch_82 : decode cX2_takesTooMuch 82 = .ok (.goto 4, 3) := by decide +kernel
theorem dX2_takesTooMuch_85 : decode cX2_takesTooMuch 85 = .ok (.iconst 0, 1) := by decide +kernel
theorem dX2_takesTooMuch_86 : decode cX2_takesTooMuch 86 = .ok (.istore 4, 2) := by decide +kernel
theorem dX2_takesTooMuch_88 : decode cX2_takesTooMuch 88 = .ok (.aload_n 0, 1) := by decide +kernel
theorem dX2_takesTooMuch_89 : decode cX2_takesTooMuch 89 = .ok (.getfield 18, 3) := by decide +kernel
theorem dX2_takesTooMuch_92 : decode cX2_takesTooMuch 92 = .ok (.iload_n 3, 1) := by decide +kernel
theorem dX2_takesTooMuch_93 : decode cX2_takesTooMuch 93 = .ok (.aload_n 0, 1) := by decide +kernel
theorem dX2_takesTooMuch_94 : decode cX2_takesTooMuch 94 = .ok (.getfield 18, 3) := by decide +kernel
theorem dX2_takesTooMuch_97 : decode cX2_takesTooMuch 97 = .ok (.iload_n 3, 1) := by decide +kernel
theorem dX2_takesTooMuch_98 : decode cX2_takesTooMuch 98 = .ok (.iaload, 1) := by decide +kernel
theorem dX2_takesTooMuch_99 : decode cX2_takesTooMuch 99 = .ok (.iload 4, 2) := by decide +kernel
theorem dX2_takesTooMuch_101 : decode cX2_takesTooMuch 101 = .ok (.ifCond .eq 15, 3) := by decide +kernel
theorem dX2_takesTooMuch_104 : decode cX2_takesTooMuch 104 = .ok (.aload_n 0, 1) := by decide +kernel
theorem dX2_takesTooMuch_105 : decode cX2_takesTooMuch 105 = .ok (.getfield 28, 3) := by decide +kernel
theorem dX2_takesTooMuch_108 : decode cX2_takesTooMuch 108 = .ok (.iload_n 3, 1) := by decide +kernel
theorem dX2_takesTooMuch_109 : decode cX2_takesTooMuch 109 = .ok (.iaload, 1) := by decide +kernel
theorem dX2_takesTooMuch_110 : decode cX2_takesTooMuch 110 = .ok (.bipush 100, 2) := by decide +kernel
theorem dX2_takesTooMuch_112 : decode cX2_takesTooMuch 112 = .ok (.isub, 1) := by decide +kernel
theorem dX2_takesTooMuch_113 : decode cX2_takesTooMuch 113 = .ok (.goto 9, 3) := by decide +kernel
theorem dX2_takesTooMuch_116 : decode cX2_takesTooMuch 116 = .ok (.aload_n 0, 1) := by decide +kernel
theorem dX2_takesTooMuch_117 : decode cX2_takesTooMuch 117 = .ok (.getfield 28, 3) := by decide +kernel
theorem dX2_takesTooMuch_120 : decode cX2_takesTooMuch 120 = .ok (.iload_n 3, 1) := by decide +kernel
theorem dX2_takesTooMuch_121 : decode cX2_takesTooMuch 121 = .ok (.iaload, 1) := by decide +kernel
theorem dX2_takesTooMuch_122 : decode cX2_takesTooMuch 122 = .ok (.invokestatic 89, 3) := by decide +kernel
theorem dX2_takesTooMuch_125 : decode cX2_takesTooMuch 125 = .ok (.iastore, 1) := by decide +kernel
theorem dX2_takesTooMuch_126 : decode cX2_takesTooMuch 126 = .ok (.iinc 3 1, 3) := by decide +kernel
theorem dX2_takesTooMuch_129 : decode cX2_takesTooMuch 129 = .ok (.goto (-72), 3) := by decide +kernel
theorem dX2_takesTooMuch_132 : decode cX2_takesTooMuch 132 = .ok (.iload_n 2, 1) := by decide +kernel
theorem dX2_takesTooMuch_133 : decode cX2_takesTooMuch 133 = .ok (.ifCond .le 7, 3) := by decide +kernel
theorem dX2_takesTooMuch_136 : decode cX2_takesTooMuch 136 = .ok (.iconst 1, 1) := by decide +kernel
theorem dX2_takesTooMuch_137 : decode cX2_takesTooMuch 137 = .ok (.goto 4, 3) := by decide +kernel
theorem dX2_takesTooMuch_140 : decode cX2_takesTooMuch 140 = .ok (.iconst 0, 1) := by decide +kernel
theorem dX2_takesTooMuch_141 : decode cX2_takesTooMuch 141 = .ok (.ireturn, 1) := by decide +kernel
set_option maxHeartbeats 4000000 in
set_option maxRecDepth 100000 in
theorem m_X2_takesTooMuch (l : Launch) (mem : Mem) (hN : 0 ≤ mem 21 0 ∧ mem 21 0 ≤ 8) (hS : ∀ k : Nat, (k : Int) < mem 21 0 → 0 ≤ mem 184 k ∧ mem 184 k ≤ 300) (hR : ∀ k : Nat, (k : Int) < mem 21 0 → 0 ≤ mem 185 k ∧ mem 185 k ≤ 300) (hP : ∀ k : Nat, (k : Int) < mem 21 0 → i32 (mem 182 k)) : Ret shp l yX2_takesTooMuch cX2_takesTooMuch 5 (some .boolean) 1 [pR 179, pR 21] mem (fun rv mv => ∃ z, rv = some (pI z) ∧ (∀ c, c ≠ 182 → c ≠ 184 → mv c = mem c) ∧ (∀ i : Nat, mv 184 i = if (i : Int) < mem 21 0 then (mem 184 i - mem 185 i) else mem 184 i) ∧ (∀ i : Nat, mv 182 i = if (i : Int) < mem 21 0 then min (mem 182 i) (if sumN (fun i => if 100 ≤ mem 184 i - mem 185 i then 1 else 0) (mem 21 0).toNat = 1 ∧ 100 ≤ (mem 184 i - mem 185 i) then (mem 184 i - mem 185 i) - 100 else (mem 184 i - mem 185 i)) else mem 182 i) ∧ z = if 0 < sumN (fun i => if 100 ≤ mem 184 i - mem 185 i then 1 else 0) (mem 21 0).toNat then 1 else 0) := by
  refine ret_of (by decide +kernel) (Nat.le_of_ble_eq_true rfl) (fun X hX F G => ?_)
  show Ok shp X 5 0 [(0, pR 179), (1, pR 21)] [] mem
  refine ok_iconst F dX2_takesTooMuch_0 ?_
  refine ok_istore_n (lv' := [(2, pI 0), (0, pR 179), (1, pR 21)]) F dX2_takesTooMuch_1 (by decide) rfl ?_
  refine ok_iconst F dX2_takesTooMuch_2 ?_
  refine ok_istore_n (lv' := [(3, pI 0), (2, pI 0), (0, pR 179), (1, pR 21)]) F dX2_takesTooMuch_3 (by decide) rfl ?_
  have hL_4 : ∀ (n_4 : Nat) (fu : Int) (k : Int) (m : Mem), (0 ≤ k ∧ k ≤ mem 21 0 ∧ fu = sumN (fun i => if 100 ≤ mem 184 i - mem 185 i then 1 else 0) k.toNat ∧ (0 ≤ fu ∧ fu ≤ k) ∧ (∀ c, c ≠ 184 → m c = mem c) ∧ ∀ i : Nat, m 184 i = if (i : Int) < k then (mem 184 i - mem 185 i) else mem 184 i) → (mem 21 0 - k).toNat = n_4 → Ok shp X 5 4 [(0, pR 179), (1, pR 21), (2, pI fu), (3, pI k)] [] m := by
    intro n_4
    induction n_4 using Nat.strongRecOn with
    | _ n_4 ih_4 =>
      intro fu k m hI_4 hn_4
      obtain ⟨hk0, hk1, hfu, hfb, hF, hM⟩ := hI_4
      have h21 := hF 21 (by decide)
      have h185 := hF 185 (by decide)
      refine ok_iload_n F dX2_takesTooMuch_4 3 rfl ?_
      refine ok_aload_n F dX2_takesTooMuch_5 1 rfl ?_
      refine ok_getf (v := mem 21 0) F dX2_takesTooMuch_6 kF_X2_68 sh_21 rfl (by rw [h21] <;> rfl) ?_
      refine ok_icmp_ge F 55 dX2_takesTooMuch_9 (by decide) (by omega) (by omega) (fun c_1 => ?_) (fun c_1 => ?_)
      · refine ok_iconst F dX2_takesTooMuch_55 ?_
        refine ok_istore_n (lv' := [(3, pI 0), (0, pR 179), (1, pR 21), (2, pI fu)]) F dX2_takesTooMuch_56 (by decide) rfl ?_
        have ek : mem 21 0 = k := by omega
        rw [← ek] at hM hfu
        have hL_57 : ∀ (n_57 : Nat) (j : Int) (m2 : Mem), (0 ≤ j ∧ j ≤ mem 21 0 ∧ (∀ c, c ≠ 182 → c ≠ 184 → m2 c = mem c) ∧ (∀ i : Nat, m2 184 i = if (i : Int) < mem 21 0 then (mem 184 i - mem 185 i) else mem 184 i) ∧ ∀ i : Nat, m2 182 i = if (i : Int) < j then min (mem 182 i) (if sumN (fun i => if 100 ≤ mem 184 i - mem 185 i then 1 else 0) (mem 21 0).toNat = 1 ∧ 100 ≤ (mem 184 i - mem 185 i) then (mem 184 i - mem 185 i) - 100 else (mem 184 i - mem 185 i)) else mem 182 i) → (mem 21 0 - j).toNat = n_57 → Ok shp X 5 57 [(0, pR 179), (1, pR 21), (2, pI fu), (3, pI j)] [] m2 := by
          intro n_57
          induction n_57 using Nat.strongRecOn with
          | _ n_57 ih_57 =>
            intro j m2 hI_57 hn_57
            obtain ⟨hj0, hj1, hF2, hM2, hP2⟩ := hI_57
            have h221 := hF2 21 (by decide) (by decide)
            refine ok_iload_n F dX2_takesTooMuch_57 3 rfl ?_
            refine ok_aload_n F dX2_takesTooMuch_58 1 rfl ?_
            refine ok_getf (v := mem 21 0) F dX2_takesTooMuch_59 kF_X2_68 sh_21 rfl (by rw [h221] <;> rfl) ?_
            refine ok_icmp_ge F 132 dX2_takesTooMuch_62 (by decide) (by omega) (by omega) (fun c_2 => ?_) (fun c_2 => ?_)
            · refine ok_iload_n F dX2_takesTooMuch_132 2 rfl ?_
              refine ok_if_le F 140 dX2_takesTooMuch_133 (by decide) (by omega) (fun c_3 => ?_) (fun c_3 => ?_)
              · refine ok_iconst F dX2_takesTooMuch_140 ?_
                refine ok_zret F G dX2_takesTooMuch_141 (by first | rfl | exact zb_nar) ?_
                have ej : mem 21 0 = j := by omega
                refine ⟨_, rfl, hF2, hM2, by rw [← ej] at hP2; exact hP2, ?_⟩
                first | (rw [if_pos (by omega)]; done) | (rw [if_neg (by omega)]; done)
              · refine ok_iconst F dX2_takesTooMuch_136 ?_
                refine ok_goto F 141 dX2_takesTooMuch_137 (by decide) ?_
                refine ok_zret F G dX2_takesTooMuch_141 (by first | rfl | exact zb_nar) ?_
                have ej : mem 21 0 = j := by omega
                refine ⟨_, rfl, hF2, hM2, by rw [← ej] at hP2; exact hP2, ?_⟩
                first | (rw [if_pos (by omega)]; done) | (rw [if_neg (by omega)]; done)
            · have qS := hS j.toNat (by omega)
              have qR := hR j.toNat (by omega)
              have q2 : m2 184 j.toNat = mem 184 j.toNat - mem 185 j.toNat := by rw [hM2, if_pos (by omega)]
              have qP : m2 182 j.toNat = mem 182 j.toNat := by rw [hP2, if_neg (by omega)]
              have q3 := hP j.toNat (by omega)
              have hJ_88 : ∀ (ca : Int), (ca = if sumN (fun i => if 100 ≤ mem 184 i - mem 185 i then 1 else 0) (mem 21 0).toNat = 1 ∧ 100 ≤ mem 184 j.toNat - mem 185 j.toNat then 1 else 0) → Ok shp X 5 88 [(0, pR 179), (1, pR 21), (2, pI fu), (3, pI j), (4, pI ca)] [] m2 := by
                intro ca hI_88
                have hca := hI_88
                refine ok_aload_n F dX2_takesTooMuch_88 0 rfl ?_
                refine ok_getr F dX2_takesTooMuch_89 kF_X2_18 sh_179 rfl ?_
                refine ok_iload_n F dX2_takesTooMuch_92 3 rfl ?_
                refine ok_aload_n F dX2_takesTooMuch_93 0 rfl ?_
                refine ok_getr F dX2_takesTooMuch_94 kF_X2_18 sh_179 rfl ?_
                refine ok_iload_n F dX2_takesTooMuch_97 3 rfl ?_
                refine ok_iald (v := m2 182 j.toNat) F dX2_takesTooMuch_98 sh_182 (by first | decide | assumption) (by omega) (by omega) rfl ?_
                refine ok_iload F dX2_takesTooMuch_99 4 rfl ?_
                refine ok_if_eq F 116 dX2_takesTooMuch_101 (by decide) (by omega) (fun c_4 => ?_) (fun c_4 => ?_)
                · refine ok_aload_n F dX2_takesTooMuch_116 0 rfl ?_
                  refine ok_getr F dX2_takesTooMuch_117 kF_X2_28 sh_179 rfl ?_
                  refine ok_iload_n F dX2_takesTooMuch_120 3 rfl ?_
                  refine ok_iald (v := m2 184 j.toNat) F dX2_takesTooMuch_121 sh_184 (by first | decide | assumption) (by omega) (by omega) rfl ?_
                  refine ok_mmin F dX2_takesTooMuch_122 kL_X2_89 kS_J9_min_7cf53 kM_J9_min_7cf53.2.1 kM_J9_min_7cf53.2.2.1 (by omega) (by omega) (by decide) (Nat.le_of_ble_eq_true rfl) ?_
                  refine ok_iast F dX2_takesTooMuch_125 sh_182 (by first | decide | assumption) (by omega) (by omega) (fun m_5 e_6 => ?_)
                  refine ok_iinc (lv' := [(3, pI (j + 1)), (0, pR 179), (1, pR 21), (2, pI fu), (4, pI ca)]) F dX2_takesTooMuch_126 3 rfl (by decide) rfl ?_
                  refine ok_goto F 57 dX2_takesTooMuch_129 (by decide) ?_
                  refine ok_lvp [1, 2, 3, 0] (lv' := [(0, pR 179), (1, pR 21), (2, pI fu), (3, pI (j + 1))]) rfl ?_
                  refine ih_57 _ ?_ (j + 1) m_5 ?_ rfl
                  · omega
                  · refine ⟨by omega, by omega, fun c c1 c2 => by rw [e_6, mset_nka c1]; exact hF2 c c1 c2, fun i => by rw [e_6, mset_nk (by decide)]; exact hM2 i, fun i => ?_⟩
                    rw [e_6]
                    by_cases e : i = j.toNat
                    · subst e; rw [mset_eq, if_pos (by omega), qP, q2]; congr 1; first | (rw [if_pos (by omega)]; done) | (rw [if_neg (by omega)]; done)
                    · rw [mset_ne (fun q => e q.2), hP2]; by_cases g : (i : Int) < j
                      · rw [if_pos g, if_pos (by omega : (i : Int) < j + 1)]
                      · rw [if_neg g, if_neg (by omega : ¬ (i : Int) < j + 1)]
                · refine ok_aload_n F dX2_takesTooMuch_104 0 rfl ?_
                  refine ok_getr F dX2_takesTooMuch_105 kF_X2_28 sh_179 rfl ?_
                  refine ok_iload_n F dX2_takesTooMuch_108 3 rfl ?_
                  refine ok_iald (v := m2 184 j.toNat) F dX2_takesTooMuch_109 sh_184 (by first | decide | assumption) (by omega) (by omega) rfl ?_
                  refine ok_bipush F dX2_takesTooMuch_110 rfl ?_
                  refine ok_isub F dX2_takesTooMuch_112 ?_
                  refine ok_goto F 122 dX2_takesTooMuch_113 (by decide) ?_
                  refine ok_mmin F dX2_takesTooMuch_122 kL_X2_89 kS_J9_min_7cf53 kM_J9_min_7cf53.2.1 kM_J9_min_7cf53.2.2.1 (by omega) (by omega) (by decide) (Nat.le_of_ble_eq_true rfl) ?_
                  refine ok_iast F dX2_takesTooMuch_125 sh_182 (by first | decide | assumption) (by omega) (by omega) (fun m_7 e_8 => ?_)
                  refine ok_iinc (lv' := [(3, pI (j + 1)), (0, pR 179), (1, pR 21), (2, pI fu), (4, pI ca)]) F dX2_takesTooMuch_126 3 rfl (by decide) rfl ?_
                  refine ok_goto F 57 dX2_takesTooMuch_129 (by decide) ?_
                  refine ok_lvp [1, 2, 3, 0] (lv' := [(0, pR 179), (1, pR 21), (2, pI fu), (3, pI (j + 1))]) rfl ?_
                  refine ih_57 _ ?_ (j + 1) m_7 ?_ rfl
                  · omega
                  · refine ⟨by omega, by omega, fun c c1 c2 => by rw [e_8, mset_nka c1]; exact hF2 c c1 c2, fun i => by rw [e_8, mset_nk (by decide)]; exact hM2 i, fun i => ?_⟩
                    rw [e_8]
                    by_cases e : i = j.toNat
                    · subst e; rw [mset_eq, if_pos (by omega), qP, q2]; congr 1; first | (rw [if_pos (by omega)]; done) | (rw [if_neg (by omega)]; done)
                    · rw [mset_ne (fun q => e q.2), hP2]; by_cases g : (i : Int) < j
                      · rw [if_pos g, if_pos (by omega : (i : Int) < j + 1)]
                      · rw [if_neg g, if_neg (by omega : ¬ (i : Int) < j + 1)]
              refine ok_iload_n F dX2_takesTooMuch_65 2 rfl ?_
              refine ok_iconst F dX2_takesTooMuch_66 ?_
              refine ok_icmp_ne F 85 dX2_takesTooMuch_67 (by decide) (by omega) (by omega) (fun c_9 => ?_) (fun c_9 => ?_)
              · refine ok_iconst F dX2_takesTooMuch_85 ?_
                refine ok_istore (lv' := [(4, pI 0), (0, pR 179), (1, pR 21), (2, pI fu), (3, pI j)]) F dX2_takesTooMuch_86 (by decide) rfl ?_
                refine ok_lvp [1, 2, 3, 4, 0] (lv' := [(0, pR 179), (1, pR 21), (2, pI fu), (3, pI j), (4, pI 0)]) rfl ?_
                refine hJ_88 0 ?_
                first | (rw [if_pos ⟨by omega, by omega⟩]; done) | (rw [if_neg (by omega)]; done)
              · refine ok_aload_n F dX2_takesTooMuch_70 0 rfl ?_
                refine ok_getr F dX2_takesTooMuch_71 kF_X2_28 sh_179 rfl ?_
                refine ok_iload_n F dX2_takesTooMuch_74 3 rfl ?_
                refine ok_iald (v := m2 184 j.toNat) F dX2_takesTooMuch_75 sh_184 (by first | decide | assumption) (by omega) (by omega) rfl ?_
                refine ok_bipush F dX2_takesTooMuch_76 rfl ?_
                refine ok_icmp_lt F 85 dX2_takesTooMuch_78 (by decide) (by omega) (by omega) (fun c_10 => ?_) (fun c_10 => ?_)
                · refine ok_iconst F dX2_takesTooMuch_85 ?_
                  refine ok_istore (lv' := [(4, pI 0), (0, pR 179), (1, pR 21), (2, pI fu), (3, pI j)]) F dX2_takesTooMuch_86 (by decide) rfl ?_
                  refine ok_lvp [1, 2, 3, 4, 0] (lv' := [(0, pR 179), (1, pR 21), (2, pI fu), (3, pI j), (4, pI 0)]) rfl ?_
                  refine hJ_88 0 ?_
                  first | (rw [if_pos ⟨by omega, by omega⟩]; done) | (rw [if_neg (by omega)]; done)
                · refine ok_iconst F dX2_takesTooMuch_81 ?_
                  refine ok_goto F 86 dX2_takesTooMuch_82 (by decide) ?_
                  refine ok_istore (lv' := [(4, pI 1), (0, pR 179), (1, pR 21), (2, pI fu), (3, pI j)]) F dX2_takesTooMuch_86 (by decide) rfl ?_
                  refine ok_lvp [1, 2, 3, 4, 0] (lv' := [(0, pR 179), (1, pR 21), (2, pI fu), (3, pI j), (4, pI 1)]) rfl ?_
                  refine hJ_88 1 ?_
                  first | (rw [if_pos ⟨by omega, by omega⟩]; done) | (rw [if_neg (by omega)]; done)
        refine ok_lvp [1, 2, 3, 0] (lv' := [(0, pR 179), (1, pR 21), (2, pI fu), (3, pI 0)]) rfl ?_
        refine hL_57 _ 0 m ?_ rfl
        exact ⟨by omega, by omega, fun c _ c2 => hF c c2, hM, fun i => by rw [if_neg (by omega), hF 182 (by decide)]⟩
      · have qS := hS k.toNat (by omega)
        have qR := hR k.toNat (by omega)
        have qM : m 184 k.toNat = mem 184 k.toNat := by rw [hM, if_neg (by omega)]
        refine ok_aload_n F dX2_takesTooMuch_12 0 rfl ?_
        refine ok_getr F dX2_takesTooMuch_13 kF_X2_28 sh_179 rfl ?_
        refine ok_iload_n F dX2_takesTooMuch_16 3 rfl ?_
        refine ok_dup2 F dX2_takesTooMuch_17 rfl rfl ?_
        refine ok_iald (v := m 184 k.toNat) F dX2_takesTooMuch_18 sh_184 (by first | decide | assumption) (by omega) (by omega) rfl ?_
        refine ok_aload_n F dX2_takesTooMuch_19 0 rfl ?_
        refine ok_getr F dX2_takesTooMuch_20 kF_X2_24 sh_179 rfl ?_
        refine ok_getr F dX2_takesTooMuch_23 kF_X2_94 sh_183 rfl ?_
        refine ok_iload_n F dX2_takesTooMuch_26 3 rfl ?_
        refine ok_iald (v := mem 185 k.toNat) F dX2_takesTooMuch_27 sh_185 (by first | decide | assumption) (by omega) (by omega) (by rw [h185] <;> rfl) ?_
        refine ok_isub F dX2_takesTooMuch_28 ?_
        refine ok_iast F dX2_takesTooMuch_29 sh_184 (by first | decide | assumption) (by omega) (by omega) (fun m_11 e_12 => ?_)
        refine ok_iload_n F dX2_takesTooMuch_30 2 rfl ?_
        refine ok_aload_n F dX2_takesTooMuch_31 0 rfl ?_
        refine ok_getr F dX2_takesTooMuch_32 kF_X2_28 sh_179 rfl ?_
        refine ok_iload_n F dX2_takesTooMuch_35 3 rfl ?_
        refine ok_iald (v := ((m 184 k.toNat) - (mem 185 k.toNat))) F dX2_takesTooMuch_36 sh_184 (by first | decide | assumption) (by omega) (by omega) (by rw [e_12]; exact mset_eq _ _ _ _) ?_
        refine ok_bipush F dX2_takesTooMuch_37 rfl ?_
        refine ok_icmp_lt F 46 dX2_takesTooMuch_39 (by decide) (by omega) (by omega) (fun c_13 => ?_) (fun c_13 => ?_)
        · refine ok_iconst F dX2_takesTooMuch_46 ?_
          refine ok_iadd F dX2_takesTooMuch_47 ?_
          refine ok_istore_n (lv' := [(2, pI (fu + 0)), (0, pR 179), (1, pR 21), (3, pI k)]) F dX2_takesTooMuch_48 (by decide) rfl ?_
          refine ok_iinc (lv' := [(3, pI (k + 1)), (2, pI (fu + 0)), (0, pR 179), (1, pR 21)]) F dX2_takesTooMuch_49 3 rfl (by decide) rfl ?_
          refine ok_goto F 4 dX2_takesTooMuch_52 (by decide) ?_
          refine ok_lvp [2, 3, 1, 0] (lv' := [(0, pR 179), (1, pR 21), (2, pI (fu + 0)), (3, pI (k + 1))]) rfl ?_
          refine ih_4 _ ?_ (fu + 0) (k + 1) m_11 ?_ rfl
          · omega
          · refine ⟨by omega, by omega, ?_, by omega, fun c hc => by rw [e_12, mset_nka hc]; exact hF c hc, fun i => ?_⟩
            · rw [sumN_s _ hk0, hfu]; first | (rw [if_pos (by omega)]; done) | (rw [if_neg (by omega), Int.add_zero] <;> rfl) | (rw [if_neg (by omega)])
            · rw [e_12]; by_cases e : i = k.toNat
              · subst e; rw [mset_eq, if_pos (by omega), hM, if_neg (by omega)]
              · rw [mset_ne (fun q => e q.2), hM]; by_cases g : (i : Int) < k
                · rw [if_pos g, if_pos (by omega)]
                · rw [if_neg g, if_neg (by omega)]
        · refine ok_iconst F dX2_takesTooMuch_42 ?_
          refine ok_goto F 47 dX2_takesTooMuch_43 (by decide) ?_
          refine ok_iadd F dX2_takesTooMuch_47 ?_
          refine ok_istore_n (lv' := [(2, pI (fu + 1)), (0, pR 179), (1, pR 21), (3, pI k)]) F dX2_takesTooMuch_48 (by decide) rfl ?_
          refine ok_iinc (lv' := [(3, pI (k + 1)), (2, pI (fu + 1)), (0, pR 179), (1, pR 21)]) F dX2_takesTooMuch_49 3 rfl (by decide) rfl ?_
          refine ok_goto F 4 dX2_takesTooMuch_52 (by decide) ?_
          refine ok_lvp [2, 3, 1, 0] (lv' := [(0, pR 179), (1, pR 21), (2, pI (fu + 1)), (3, pI (k + 1))]) rfl ?_
          refine ih_4 _ ?_ (fu + 1) (k + 1) m_11 ?_ rfl
          · omega
          · refine ⟨by omega, by omega, ?_, by omega, fun c hc => by rw [e_12, mset_nka hc]; exact hF c hc, fun i => ?_⟩
            · rw [sumN_s _ hk0, hfu]; first | (rw [if_pos (by omega)]; done) | (rw [if_neg (by omega), Int.add_zero] <;> rfl) | (rw [if_neg (by omega)])
            · rw [e_12]; by_cases e : i = k.toNat
              · subst e; rw [mset_eq, if_pos (by omega), hM, if_neg (by omega)]
              · rw [mset_ne (fun q => e q.2), hM]; by_cases g : (i : Int) < k
                · rw [if_pos g, if_pos (by omega)]
                · rw [if_neg g, if_neg (by omega)]
  refine ok_lvp [2, 3, 1, 0] (lv' := [(0, pR 179), (1, pR 21), (2, pI 0), (3, pI 0)]) rfl ?_
  refine hL_4 _ 0 0 mem ?_ rfl
  exact ⟨by omega, by omega, rfl, by omega, fun _ _ => rfl, fun i => (if_neg (by omega)).symm⟩
theorem dX2_begin_0 : decode cX2_begin 0 = .ok (.aload_n 1, 1) := by decide +kernel
theorem dX2_begin_1 : decode cX2_begin 1 = .ok (.aload_n 0, 1) := by decide +kernel
theorem dX2_begin_2 : decode cX2_begin 2 = .ok (.getfield 9, 3) := by decide +kernel
theorem dX2_begin_5 : decode cX2_begin 5 = .ok (.invokestatic 52, 3) := by decide +kernel
theorem dX2_begin_8 : decode cX2_begin 8 = .ok (.aload_n 1, 1) := by decide +kernel
theorem dX2_begin_9 : decode cX2_begin 9 = .ok (.aload_n 0, 1) := by decide +kernel
theorem dX2_begin_10 : decode cX2_begin 10 = .ok (.getfield 15, 3) := by decide +kernel
theorem dX2_begin_13 : decode cX2_begin 13 = .ok (.invokestatic 52, 3) := by decide +kernel
theorem dX2_begin_16 : decode cX2_begin 16 = .ok (.aload_n 1, 1) := by decide +kernel
theorem dX2_begin_17 : decode cX2_begin 17 = .ok (.aload_n 0, 1) := by decide +kernel
theorem dX2_begin_18 : decode cX2_begin 18 = .ok (.getfield 18, 3) := by decide +kernel
theorem dX2_begin_21 : decode cX2_begin 21 = .ok (.invokestatic 52, 3) := by decide +kernel
theorem dX2_begin_24 : decode cX2_begin 24 = .ok (.aload_n 0, 1) := by decide +kernel
theorem dX2_begin_25 : decode cX2_begin 25 = .ok (.iconst 0, 1) := by decide +kernel
theorem dX2_begin_26 : decode cX2_begin 26 = .ok (.putfield 48, 3) := by decide +kernel
theorem dX2_begin_29 : decode cX2_begin 29 = .ok (.aload_n 0, 1) := by decide +kernel
theorem dX2_begin_30 : decode cX2_begin 30 = .ok (.iconst 0, 1) := by decide +kernel
theorem dX2_begin_31 : decode cX2_begin 31 = .ok (.putfield 56, 3) := by decide +kernel
theorem dX2_begin_34 : decode cX2_begin 34 = .ok (.aload_n 0, 1) := by decide +kernel
theorem dX2_begin_35 : decode cX2_begin 35 = .ok (.bipush (-2), 2) := by decide +kernel
theorem dX2_begin_37 : decode cX2_begin 37 = .ok (.putfield 59, 3) := by decide +kernel
theorem dX2_begin_40 : decode cX2_begin 40 = .ok (.aload_n 0, 1) := by decide +kernel
theorem dX2_begin_41 : decode cX2_begin 41 = .ok (.bipush (-2), 2) := by decide +kernel
theorem dX2_begin_43 : decode cX2_begin 43 = .ok (.putfield 62, 3) := by decide +kernel
theorem dX2_begin_46 : decode cX2_begin 46 = .ok (.aload_n 0, 1) := by decide +kernel
theorem dX2_begin_47 : decode cX2_begin 47 = .ok (.bipush (-2), 2) := by decide +kernel
theorem dX2_begin_49 : decode cX2_begin 49 = .ok (.putfield 65, 3) := by decide +kernel
theorem dX2_begin_52 : decode cX2_begin 52 = .ok (.return_, 1) := by decide +kernel
set_option maxHeartbeats 4000000 in
set_option maxRecDepth 100000 in
theorem m_X2_begin (l : Launch) (R : Nat) (mem : Mem) (hR : shp[R]? = some (.inr (.inl (0, 8)))) (hRn : R = 180 ∨ R < 179 ∨ 206 < R) : Ret shp l yX2_begin cX2_begin 2 none 2 [pR 179, pR R] mem (fun rv mv => rv = none ∧ (∀ c, c ≠ 179 → c ≠ 180 → c ≠ 181 → c ≠ 182 → mv c = mem c) ∧ (∀ k : Nat, k < 8 → mv 180 k = mem R k ∧ mv 181 k = mem R k ∧ mv 182 k = mem R k) ∧ mv 179 3 = 0 ∧ mv 179 4 = 0 ∧ mv 179 5 = -2 ∧ mv 179 6 = -2 ∧ mv 179 7 = -2) := by
  refine ret_of (by decide +kernel) (Nat.le_of_ble_eq_true rfl) (fun X hX F G => ?_)
  show Ok shp X 2 0 [(0, pR 179), (1, pR R)] [] mem
  refine ok_aload_n F dX2_begin_0 1 rfl ?_
  refine ok_aload_n F dX2_begin_1 0 rfl ?_
  refine ok_getr F dX2_begin_2 kF_X2_9 sh_179 rfl ?_
  refine ok_calln F [pR R, pR 180] dX2_begin_5 kM_X7_copyRow kS_X7_copyRow (List.mem_of_getElem? (i := 1) rfl) rfl (by decide) (Nat.le_of_ble_eq_true rfl) rfl (m_X7_copyRow _ R 180 mem (8) (hR) (sh_180) (by decide)) ?_
  rintro _ m_1 ⟨rfl, e_2⟩
  have c180 := e_2
  refine ok_aload_n F dX2_begin_8 1 rfl ?_
  refine ok_aload_n F dX2_begin_9 0 rfl ?_
  refine ok_getr F dX2_begin_10 kF_X2_15 sh_179 rfl ?_
  refine ok_calln F [pR R, pR 181] dX2_begin_13 kM_X7_copyRow kS_X7_copyRow (List.mem_of_getElem? (i := 1) rfl) rfl (by decide) (Nat.le_of_ble_eq_true rfl) rfl (m_X7_copyRow _ R 181 m_1 (8) (hR) (sh_181) (by decide)) ?_
  rintro _ m_3 ⟨rfl, e_4⟩
  have c181 := e_4
  refine ok_aload_n F dX2_begin_16 1 rfl ?_
  refine ok_aload_n F dX2_begin_17 0 rfl ?_
  refine ok_getr F dX2_begin_18 kF_X2_18 sh_179 rfl ?_
  refine ok_calln F [pR R, pR 182] dX2_begin_21 kM_X7_copyRow kS_X7_copyRow (List.mem_of_getElem? (i := 1) rfl) rfl (by decide) (Nat.le_of_ble_eq_true rfl) rfl (m_X7_copyRow _ R 182 m_3 (8) (hR) (sh_182) (by decide)) ?_
  rintro _ m_5 ⟨rfl, e_6⟩
  have c182 := e_6
  refine ok_aload_n F dX2_begin_24 0 rfl ?_
  refine ok_iconst F dX2_begin_25 ?_
  refine ok_putf F dX2_begin_26 kF_X2_48 sh_179 rfl rfl rfl (fun m_7 e_8 => ?_)
  refine ok_aload_n F dX2_begin_29 0 rfl ?_
  refine ok_iconst F dX2_begin_30 ?_
  refine ok_putf F dX2_begin_31 kF_X2_56 sh_179 rfl rfl rfl (fun m_9 e_10 => ?_)
  refine ok_aload_n F dX2_begin_34 0 rfl ?_
  refine ok_bipush F dX2_begin_35 rfl ?_
  refine ok_putf F dX2_begin_37 kF_X2_59 sh_179 rfl rfl rfl (fun m_11 e_12 => ?_)
  refine ok_aload_n F dX2_begin_40 0 rfl ?_
  refine ok_bipush F dX2_begin_41 rfl ?_
  refine ok_putf F dX2_begin_43 kF_X2_62 sh_179 rfl rfl rfl (fun m_13 e_14 => ?_)
  refine ok_aload_n F dX2_begin_46 0 rfl ?_
  refine ok_bipush F dX2_begin_47 rfl ?_
  refine ok_putf F dX2_begin_49 kF_X2_65 sh_179 rfl rfl rfl (fun m_15 e_16 => ?_)
  refine ok_vret F G dX2_begin_52 ?_
  have b1 : ∀ c j, c ≠ 179 → m_15 c j = m_5 c j := fun c j hc => by rw [e_16, e_14, e_12, e_10, e_8, mset_nk hc, mset_nk hc, mset_nk hc, mset_nk hc, mset_nk hc]
  refine ⟨rfl, fun c c0 c1 c2 c3 => by funext j; rw [b1 c j c0, c182, cpyN_ne c3, c181, cpyN_ne c2, c180, cpyN_ne c1], fun k hk => ?_, by rw [e_16, e_14, e_12, e_10, e_8]; rfl, by rw [e_16, e_14, e_12, e_10, e_8]; rfl, by rw [e_16, e_14, e_12, e_10, e_8]; rfl, by rw [e_16, e_14, e_12, e_10, e_8]; rfl, by rw [e_16, e_14, e_12, e_10, e_8]; rfl⟩
  have eR : m_1 R k = mem R k := by rw [c180]; unfold cpyN; by_cases e : R = 180; (rw [if_pos (by omega), show 0 + (k - 0) = k by omega]); (rw [if_neg (fun q => e q.1)])
  have eR3 : m_3 R k = mem R k := by rw [c181, cpyN_ne (by omega)]; exact eR
  refine ⟨?_, ?_, ?_⟩
  · rw [b1 180 k (by decide), c182, cpyN_ne (by decide), c181, cpyN_ne (by decide), c180]; unfold cpyN; rw [if_pos (by omega), show 0 + (k - 0) = k by omega]
  · rw [b1 181 k (by decide), c182, cpyN_ne (by decide), c181]; unfold cpyN; rw [if_pos (by omega), show 0 + (k - 0) = k by omega]; exact eR
  · rw [b1 182 k (by decide), c182]; unfold cpyN; rw [if_pos (by omega), show 0 + (k - 0) = k by omega]; exact eR3
