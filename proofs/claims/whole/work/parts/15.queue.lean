/-! the fewest pieces by one kind more: the least of a window, and the queue that finds it -/
/-- f at a, or z pieces of a value v and f at what is left, z up to so many -/
def winF (f : Nat → Int) (v a : Nat) : Nat → Int
  | 0 => f a
  | z + 1 => if (z + 1) * v ≤ a then min (winF f v a z) (f (a - (z + 1) * v) + ((z + 1 : Nat) : Int)) else winF f v a z
def stepF (f : Nat → Int) (v c a : Nat) : Int := min 1000000 (winF f v a c)
theorem winF_le {f : Nat → Int} {v a : Nat} : ∀ {c z : Nat}, z ≤ c → z * v ≤ a → winF f v a c ≤ f (a - z * v) + z
  | 0, z, h, _ => by
    obtain rfl : z = 0 := by omega
    simp [winF]
  | c + 1, z, h, hz => by
    unfold winF
    by_cases e : z = c + 1
    · subst e
      rw [if_pos hz]
      exact Int.min_le_right _ _
    · have h1 := winF_le (f := f) (v := v) (a := a) (c := c) (z := z) (by omega) hz
      by_cases g : (c + 1) * v ≤ a
      · rw [if_pos g]
        exact Int.le_trans (Int.min_le_left _ _) h1
      · rw [if_neg g]
        exact h1
theorem winF_at (f : Nat → Int) (v a : Nat) : ∀ c : Nat, ∃ z, z ≤ c ∧ z * v ≤ a ∧ winF f v a c = f (a - z * v) + z
  | 0 => ⟨0, Nat.le_refl _, by omega, by simp [winF]⟩
  | c + 1 => by
    obtain ⟨z, h1, h2, h3⟩ := winF_at f v a c
    unfold winF
    by_cases g : (c + 1) * v ≤ a
    · rw [if_pos g]
      rcases Int.le_total (winF f v a c) (f (a - (c + 1) * v) + ((c + 1 : Nat) : Int)) with w | w
      · exact ⟨z, by omega, h2, by rw [Int.min_eq_left w, h3]⟩
      · exact ⟨c + 1, by omega, g, by rw [Int.min_eq_right w]⟩
    · rw [if_neg g]
      exact ⟨z, by omega, h2, h3⟩
theorem stepF_of {f : Nat → Int} {v c a : Nat} {g : Int} (h1 : ∃ z, z ≤ c ∧ z * v ≤ a ∧ g = f (a - z * v) + z) (h2 : ∀ z, z ≤ c → z * v ≤ a → g ≤ f (a - z * v) + z) : min 1000000 g = stepF f v c a := by
  obtain ⟨z, a1, a2, a3⟩ := h1
  obtain ⟨w, b1, b2, b3⟩ := winF_at f v a c
  have e1 := winF_le (f := f) a1 a2
  have e2 := h2 w b1 b2
  unfold stepF
  congr 1
  omega
/-- the queue ahead of the i-th place -/
def QA (g : Nat → Int) (c i h n : Nat) (τ : Nat → Nat) : Prop := h ≤ n ∧ n ≤ i ∧ (∀ j, h ≤ j → j < n → τ j < i) ∧ (∀ j, h ≤ j → j + 1 < n → τ j < τ (j + 1) ∧ g (τ j) - τ j < g (τ (j + 1)) - τ (j + 1)) ∧ ∀ t, t < i → i ≤ t + c + 1 → ∃ j, h ≤ j ∧ j < n ∧ t ≤ τ j ∧ g (τ j) - τ j ≤ g t - t
/-- while what the i-th place outdoes is taken away -/
def QB (g : Nat → Int) (c i h n : Nat) (τ : Nat → Nat) : Prop := h ≤ n ∧ n ≤ i ∧ (∀ j, h ≤ j → j < n → τ j < i) ∧ (∀ j, h ≤ j → j + 1 < n → τ j < τ (j + 1) ∧ g (τ j) - τ j < g (τ (j + 1)) - τ (j + 1)) ∧ ∀ t, t < i → i ≤ t + c + 1 → (∃ j, h ≤ j ∧ j < n ∧ t ≤ τ j ∧ g (τ j) - τ j ≤ g t - t) ∨ g i - i ≤ g t - t
/-- with the i-th place in it -/
def QC (g : Nat → Int) (c i h n : Nat) (τ : Nat → Nat) : Prop := h < n ∧ n ≤ i + 1 ∧ τ (n - 1) = i ∧ (∀ j, h ≤ j → j < n → τ j ≤ i) ∧ (∀ j, h ≤ j → j + 1 < n → τ j < τ (j + 1) ∧ g (τ j) - τ j < g (τ (j + 1)) - τ (j + 1)) ∧ ∀ t, t ≤ i → i ≤ t + c → ∃ j, h ≤ j ∧ j < n ∧ t ≤ τ j ∧ g (τ j) - τ j ≤ g t - t
theorem QA.toB {g : Nat → Int} {c i h n : Nat} {τ : Nat → Nat} (q : QA g c i h n τ) : QB g c i h n τ := ⟨q.1, q.2.1, q.2.2.1, q.2.2.2.1, fun t h1 h2 => Or.inl (q.2.2.2.2 t h1 h2)⟩
theorem QB.pop {g : Nat → Int} {c i h n : Nat} {τ : Nat → Nat} (q : QB g c i h n τ) (hn : h < n) (hk : g i - i ≤ g (τ (n - 1)) - τ (n - 1)) : QB g c i h (n - 1) τ := by
  obtain ⟨q1, q2, q3, q4, q5⟩ := q
  refine ⟨by omega, by omega, fun j h1 h2 => q3 j h1 (by omega), fun j h1 h2 => q4 j h1 (by omega), fun t h1 h2 => ?_⟩
  rcases q5 t h1 h2 with ⟨j, a1, a2, a3, a4⟩ | e
  · by_cases ej : j = n - 1
    · subst ej
      exact Or.inr (by omega)
    · exact Or.inl ⟨j, a1, by omega, a3, a4⟩
  · exact Or.inr e
theorem QB.push {g : Nat → Int} {c i h n : Nat} {τ σ : Nat → Nat} (q : QB g c i h n τ) (hk : n = h ∨ g (τ (n - 1)) - τ (n - 1) < g i - i) (hσ : σ n = i) (hτ : ∀ j, j < n → σ j = τ j) : QC g c i h (n + 1) σ := by
  obtain ⟨q1, q2, q3, q4, q5⟩ := q
  refine ⟨by omega, by omega, by simpa using hσ, fun j h1 h2 => ?_, fun j h1 h2 => ?_, fun t h1 h2 => ?_⟩
  · by_cases e : j = n
    · subst e; omega
    · rw [hτ j (by omega)]; have := q3 j h1 (by omega); omega
  · by_cases e : j + 1 = n
    · rw [e, hσ, hτ j (by omega)]
      have a1 := q3 j h1 (by omega)
      rcases hk with hk | hk
      · omega
      · rw [show n - 1 = j by omega] at hk
        exact ⟨a1, hk⟩
    · rw [hτ j (by omega), hτ (j + 1) (by omega)]
      exact q4 j h1 (by omega)
  · by_cases e : t = i
    · subst e
      exact ⟨n, by omega, by omega, by rw [hσ]; exact Nat.le_refl _, by rw [hσ]; exact Int.le_refl _⟩
    · rcases q5 t (by omega) (by omega) with ⟨j, a1, a2, a3, a4⟩ | w
      · exact ⟨j, a1, by omega, by rw [hτ j a2]; exact a3, by rw [hτ j a2]; exact a4⟩
      · exact ⟨n, by omega, by omega, by rw [hσ]; omega, by rw [hσ]; exact w⟩
theorem QC.pop {g : Nat → Int} {c i h n : Nat} {τ : Nat → Nat} (q : QC g c i h n τ) (hw : τ h + c < i) : QC g c i (h + 1) n τ := by
  obtain ⟨q1, q2, q3, q4, q5, q6⟩ := q
  have hne : h ≠ n - 1 := fun e => by rw [e, q3] at hw; omega
  refine ⟨by omega, q2, q3, fun j h1 h2 => q4 j (by omega) h2, fun j h1 h2 => q5 j (by omega) h2, fun t h1 h2 => ?_⟩
  obtain ⟨j, a1, a2, a3, a4⟩ := q6 t h1 h2
  have : j ≠ h := fun e => by rw [e] at a3; omega
  exact ⟨j, by omega, a2, a3, a4⟩
theorem QC.lt {g : Nat → Int} {c i h n : Nat} {τ : Nat → Nat} (q : QC g c i h n τ) (hw : τ h + c < i) : h + 1 < n := (q.pop hw).1
theorem QC.mono {g : Nat → Int} {c i h n : Nat} {τ : Nat → Nat} (q : QC g c i h n τ) : ∀ d, h + d < n → g (τ h) - τ h ≤ g (τ (h + d)) - τ (h + d)
  | 0, _ => Int.le_refl _
  | d + 1, hd => by
    have h1 := q.mono d (by omega)
    have h2 := (q.2.2.2.2.1 (h + d) (by omega) (by omega)).2
    rw [show h + (d + 1) = h + d + 1 by omega]
    omega
theorem QC.toA {g : Nat → Int} {c i h n : Nat} {τ : Nat → Nat} (q : QC g c i h n τ) : QA g c (i + 1) h n τ := by
  obtain ⟨q1, q2, q3, q4, q5, q6⟩ := q
  exact ⟨by omega, q2, fun j h1 h2 => by have := q4 j h1 h2; omega, q5, fun t h1 h2 => q6 t (by omega) (by omega)⟩
theorem QC.least {g : Nat → Int} {c i h n : Nat} {τ : Nat → Nat} (q : QC g c i h n τ) : ∀ t, t ≤ i → i ≤ t + c → g (τ h) + ((i : Int) - τ h) ≤ g t + ((i : Int) - t) := by
  intro t h1 h2
  obtain ⟨j, a1, a2, a3, a4⟩ := q.2.2.2.2.2 t h1 h2
  have := q.mono (j - h) (by omega)
  rw [show h + (j - h) = j by omega] at this
  omega
/-- the step's value, by the queue's head -/
theorem QC.step {f : Nat → Int} {v c r i h n : Nat} {τ : Nat → Nat} (hv : 0 < v) (hr : r < v) (q : QC (fun t => f (r + t * v)) c i h n τ) (hw : i ≤ τ h + c) : min 1000000 (f (r + τ h * v) + ((i : Int) - τ h)) = stepF f v c (r + i * v) := by
  have hle := q.2.2.2.1 h (Nat.le_refl _) q.1
  refine stepF_of ⟨i - τ h, by omega, ?_, ?_⟩ (fun z h1 h2 => ?_)
  · exact Nat.le_trans (Nat.mul_le_mul_right v (Nat.sub_le i (τ h))) (Nat.le_add_left _ _)
  · have e : r + i * v - (i - τ h) * v = r + τ h * v := by
      have : (i - τ h) * v + τ h * v = i * v := by rw [← Nat.add_mul, Nat.sub_add_cancel hle]
      omega
    rw [e]
    omega
  · have hz : z ≤ i := by
      by_cases g : z ≤ i
      · exact g
      · exfalso
        have : (i + 1) * v ≤ z * v := Nat.mul_le_mul_right v (by omega)
        rw [Nat.add_mul] at this
        omega
    have e : r + i * v - z * v = r + (i - z) * v := by
      have : (i - z) * v + z * v = i * v := by rw [← Nat.add_mul, Nat.sub_add_cancel hz]
      omega
    have := q.least (i - z) (by omega) (by omega)
    rw [e]
    try dsimp only at this
    omega
theorem tdiv_at {r i v : Nat} (hr : r < v) : ((r : Int) + (i : Int) * (v : Int)).tdiv (v : Int) = i := by
  rw [Int.tdiv_eq_ediv_of_nonneg (by have := Int.mul_nonneg (Int.natCast_nonneg i) (Int.natCast_nonneg v); omega), Int.add_mul_ediv_right _ _ (by omega), Int.ediv_eq_zero_of_lt (by omega) (by omega)]
  omega
theorem tdiv_mul {d v : Nat} (hv : 0 < v) : ((d : Int) * (v : Int)).tdiv (v : Int) = d := by
  rw [Int.tdiv_eq_ediv_of_nonneg (Int.mul_nonneg (Int.natCast_nonneg d) (Int.natCast_nonneg v)), Int.mul_ediv_cancel _ (by omega)]

theorem QA_0 (g : Nat → Int) (c : Nat) (τ : Nat → Nat) : QA g c 0 0 0 τ := ⟨Nat.le_refl _, Nat.le_refl _, fun j h1 h2 => by omega, fun j h1 h2 => by omega, fun t h1 h2 => by omega⟩
theorem win_iff {R i s c v : Nat} (hv : 0 < v) : (((R + i * v : Nat) : Int) - ((R + s * v : Nat) : Int) ≤ (c : Int) * (v : Int)) ↔ i ≤ s + c := by
  rw [← Int.natCast_mul]
  constructor
  · intro h
    by_cases g : i ≤ s + c
    · exact g
    · exfalso
      have h1 : (s + c + 1) * v ≤ i * v := Nat.mul_le_mul_right v (by omega)
      rw [Nat.add_mul, Nat.add_mul] at h1
      omega
  · intro h
    have h1 : i * v ≤ (s + c) * v := Nat.mul_le_mul_right v h
    rw [Nat.add_mul] at h1
    omega
/-- how far the table's row of one kind more is laid: for amounts of the rests below r, and of the rest r below x -/
def LK (mem m : Mem) (K v c M r x : Nat) : Prop := (∀ a, a ≠ 8 → a ≠ 9 → m a = mem a) ∧ (∀ b, b < 2501 * (K + 1) ∨ 2501 * (K + 1) + M < b → m 8 b = mem 8 b) ∧ ∀ a, a ≤ M → (a % v < r ∨ a % v = r ∧ a < x) → m 8 (2501 * (K + 1) + a) = stepF (fun y => mem 8 (2501 * K + y)) v c a
theorem LK.start {mem m : Mem} {K v c M r : Nat} (h : LK mem m K v c M r 0) : LK mem m K v c M r (r + 0 * v) := ⟨h.1, h.2.1, fun a h1 h2 => h.2.2 a h1 (by have := Nat.mod_le a v; omega)⟩
theorem LK.queue {mem m : Mem} {K v c M r x j : Nat} {z : Int} (h : LK mem m K v c M r x) : LK mem (mset m 9 j z) K v c M r x := ⟨fun a h1 h2 => by rw [← h.1 a h1 h2]; funext b; exact mset_nk h2, fun b hb => by rw [mset_nk (by decide)]; exact h.2.1 b hb, fun a h1 h2 => by rw [mset_nk (by decide)]; exact h.2.2 a h1 h2⟩
theorem LK.store {mem m : Mem} {K v c M r i : Nat} (hv : 0 < v) (hr : r < v) (hM : r + i * v ≤ M) (h : LK mem m K v c M r (r + i * v)) : LK mem (mset m 8 (2501 * (K + 1) + (r + i * v)) (stepF (fun y => mem 8 (2501 * K + y)) v c (r + i * v))) K v c M r (r + (i + 1) * v) := by
  refine ⟨fun a h1 h2 => by rw [← h.1 a h1 h2]; funext b; exact mset_nk h1, fun b hb => by rw [mset_ne (by omega)]; exact h.2.1 b hb, fun a h1 h2 => ?_⟩
  by_cases e : a = r + i * v
  · subst e
    exact mset_eq _ _ _ _
  · rw [mset_ne (by omega)]
    refine h.2.2 a h1 ?_
    rcases h2 with h2 | ⟨h2, h3⟩
    · exact Or.inl h2
    · refine Or.inr ⟨h2, ?_⟩
      have d := Nat.div_add_mod a v
      rw [h2, Nat.mul_comm] at d
      have q : a / v < i + 1 := by
        by_cases g : a / v < i + 1
        · exact g
        · exfalso
          have := Nat.mul_le_mul_right v (by omega : i + 1 ≤ a / v)
          omega
      have q2 : a / v ≠ i := fun z => e (by rw [z] at d; omega)
      have := Nat.mul_le_mul_right v (by omega : a / v + 1 ≤ i)
      rw [Nat.add_mul] at this
      omega
theorem LK.next {mem m : Mem} {K v c M r x : Nat} (hx : M < x) (h : LK mem m K v c M r x) : LK mem m K v c M (r + 1) 0 := ⟨h.1, h.2.1, fun a h1 h2 => h.2.2 a h1 (by omega)⟩
theorem LK.all {mem m : Mem} {K v c M r x : Nat} (hv : 0 < v) (hx : v ≤ r ∨ M < r) (h : LK mem m K v c M r x) : ∀ a, a ≤ M → m 8 (2501 * (K + 1) + a) = stepF (fun y => mem 8 (2501 * K + y)) v c a := fun a h1 => h.2.2 a h1 (Or.inl (by
  rcases hx with hx | hx
  · exact Nat.lt_of_lt_of_le (Nat.mod_lt a hv) hx
  · have := Nat.mod_le a v; omega))
theorem LK_0 (mem : Mem) (K v c M : Nat) : LK mem mem K v c M 0 0 := ⟨fun _ _ _ => rfl, fun _ _ => rfl, fun a h1 h2 => by omega⟩
theorem dX8_laysKind_0 : decode cX8_laysKind 0 = .ok (.aload_n 0, 1) := by decide +kernel
theorem dX8_laysKind_1 : decode cX8_laysKind 1 = .ok (.iload_n 1, 1) := by decide +kernel
theorem dX8_laysKind_2 : decode cX8_laysKind 2 = .ok (.invokevirtual 191, 3) := by decide +kernel
theorem dX8_laysKind_5 : decode cX8_laysKind 5 = .ok (.istore 4, 2) := by decide +kernel
theorem dX8_laysKind_7 : decode cX8_laysKind 7 = .ok (.iconst 0, 1) := by decide +kernel
theorem dX8_laysKind_8 : decode cX8_laysKind 8 = .ok (.istore 5, 2) := by decide +kernel
theorem dX8_laysKind_10 : decode cX8_laysKind 10 = .ok (.iload 5, 2) := by decide +kernel
theorem dX8_laysKind_12 : decode cX8_laysKind 12 = .ok (.iload 4, 2) := by decide +kernel
theorem dX8_laysKind_14 : decode cX8_laysKind 14 = .ok (.if_icmp .ge 196, 3) := by decide +kernel
theorem dX8_laysKind_17 : decode cX8_laysKind 17 = .ok (.iload 5, 2) := by decide +kernel
theorem dX8_laysKind_19 : decode cX8_laysKind 19 = .ok (.iload_n 3, 1) := by decide +kernel
theorem dX8_laysKind_20 : decode cX8_laysKind 20 = .ok (.if_icmp .gt 190, 3) := by decide +kernel
theorem dX8_laysKind_23 : decode cX8_laysKind 23 = .ok (.iconst 0, 1) := by decide +kernel
theorem dX8_laysKind_24 : decode cX8_laysKind 24 = .ok (.istore 6, 2) := by decide +kernel
theorem dX8_laysKind_26 : decode cX8_laysKind 26 = .ok (.iconst 0, 1) := by decide +kernel
theorem dX8_laysKind_27 : decode cX8_laysKind 27 = .ok (.istore 7, 2) := by decide +kernel
theorem dX8_laysKind_29 : decode cX8_laysKind 29 = .ok (.iload 5, 2) := by decide +kernel
theorem dX8_laysKind_31 : decode cX8_laysKind 31 = .ok (.istore 8, 2) := by decide +kernel
theorem dX8_laysKind_33 : decode cX8_laysKind 33 = .ok (.iload 8, 2) := by decide +kernel
theorem dX8_laysKind_35 : decode cX8_laysKind 35 = .ok (.iload_n 3, 1) := by decide +kernel
theorem dX8_laysKind_36 : decode cX8_laysKind 36 = .ok (.if_icmp .gt 168, 3) := by decide +kernel
theorem dX8_laysKind_39 : decode cX8_laysKind 39 = .ok (.aload_n 0, 1) := by decide +kernel
theorem dX8_laysKind_40 : decode cX8_laysKind 40 = .ok (.getfield 33, 3) := by decide +kernel
theorem dX8_laysKind_43 : decode cX8_laysKind 43 = .ok (.iload_n 1, 1) := by decide +kernel
theorem dX8_laysKind_44 : decode cX8_laysKind 44 = .ok (.iload 8, 2) := by decide +kernel
theorem dX8_laysKind_46 : decode cX8_laysKind 46 = .ok (.invokestatic 194, 3) := by decide +kernel
theorem dX8_laysKind_49 : decode cX8_laysKind 49 = .ok (.iaload, 1) := by decide +kernel
theorem dX8_laysKind_50 : decode cX8_laysKind 50 = .ok (.iload 8, 2) := by decide +kernel
theorem dX8_laysKind_52 : decode cX8_laysKind 52 = .ok (.iload 4, 2) := by decide +kernel
theorem dX8_laysKind_54 : decode cX8_laysKind 54 = .ok (.idiv, 1) := by decide +kernel
theorem dX8_laysKind_55 : decode cX8_laysKind 55 = .ok (.isub, 1) := by decide +kernel
theorem dX8_laysKind_56 : decode cX8_laysKind 56 = .ok (.istore 9, 2) := by decide +kernel
theorem dX8_laysKind_58 : decode cX8_laysKind 58 = .ok (.iload 7, 2) := by decide +kernel
theorem dX8_laysKind_60 : decode cX8_laysKind 60 = .ok (.iload 6, 2) := by decide +kernel
theorem dX8_laysKind_62 : decode cX8_laysKind 62 = .ok (.if_icmp .le 45, 3) := by decide +kernel
theorem dX8_laysKind_65 : decode cX8_laysKind 65 = .ok (.aload_n 0, 1) := by decide +kernel
theorem dX8_laysKind_66 : decode cX8_laysKind 66 = .ok (.getfield 33, 3) := by decide +kernel
theorem dX8_laysKind_69 : decode cX8_laysKind 69 = .ok (.iload_n 1, 1) := by decide +kernel
theorem dX8_laysKind_70 : decode cX8_laysKind 70 = .ok (.aload_n 0, 1) := by decide +kernel
theorem dX8_laysKind_71 : decode cX8_laysKind 71 = .ok (.getfield 36, 3) := by decide +kernel
theorem dX8_laysKind_74 : decode cX8_laysKind 74 = .ok (.iload 7, 2) := by decide +kernel
theorem dX8_laysKind_76 : decode cX8_laysKind 76 = .ok (.iconst 1, 1) := by decide +kernel
theorem dX8_laysKind_77 : decode cX8_laysKind 77 = .ok (.isub, 1) := by decide +kernel
theorem dX8_laysKind_78 : decode cX8_laysKind 78 = .ok (.iaload, 1) := by decide +kernel
theorem dX8_laysKind_79 : decode cX8_laysKind 79 = .ok (.invokestatic 194, 3) := by decide +kernel
theorem dX8_laysKind_82 : decode cX8_laysKind 82 = .ok (.iaload, 1) := by decide +kernel
theorem dX8_laysKind_83 : decode cX8_laysKind 83 = .ok (.aload_n 0, 1) := by decide +kernel
theorem dX8_laysKind_84 : decode cX8_laysKind 84 = .ok (.getfield 36, 3) := by decide +kernel
theorem dX8_laysKind_87 : decode cX8_laysKind 87 = .ok (.iload 7, 2) := by decide +kernel
theorem dX8_laysKind_89 : decode cX8_laysKind 89 = .ok (.iconst 1, 1) := by decide +kernel
theorem dX8_laysKind_90 : decode cX8_laysKind 90 = .ok (.isub, 1) := by decide +kernel
theorem dX8_laysKind_91 : decode cX8_laysKind 91 = .ok (.iaload, 1) := by decide +kernel
theorem dX8_laysKind_92 : decode cX8_laysKind 92 = .ok (.iload 4, 2) := by decide +kernel
theorem dX8_laysKind_94 : decode cX8_laysKind 94 = .ok (.idiv, 1) := by decide +kernel
theorem dX8_laysKind_95 : decode cX8_laysKind 95 = .ok (.isub, 1) := by decide +kernel
theorem dX8_laysKind_96 : decode cX8_laysKind 96 = .ok (.iload 9, 2) := by decide +kernel
theorem dX8_laysKind_98 : decode cX8_laysKind 98 = .ok (.if_icmp .lt 9, 3) := by decide +kernel
theorem dX8_laysKind_101 : decode cX8_laysKind 101 = .ok (.iinc 7 (-1), 3) := by decide +kernel
theorem dX8_laysKind_104 : decode cX8_laysKind 104 = .ok (.goto (-46), 3) := by decide +kernel
theorem dX8_laysKind_107 : decode cX8_laysKind 107 = .ok (.aload_n 0, 1) := by decide +kernel
theorem dX8_laysKind_108 : decode cX8_laysKind 108 = .ok (.getfield 36, 3) := by decide +kernel
theorem dX8_laysKind_111 : decode cX8_laysKind 111 = .ok (.iload 7, 2) := by decide +kernel
theorem dX8_laysKind_113 : decode cX8_laysKind 113 = .ok (.iload 8, 2) := by decide +kernel
theorem dX8_laysKind_115 : decode cX8_laysKind 115 = .ok (.iastore, 1) := by decide +kernel
theorem dX8_laysKind_116 : decode cX8_laysKind 116 = .ok (.iinc 7 1, 3) := by decide +kernel
theorem dX8_laysKind_119 : decode cX8_laysKind 119 = .ok (.iload 8, 2) := by decide +kernel
theorem dX8_laysKind_121 : decode cX8_laysKind 121 = .ok (.aload_n 0, 1) := by decide +kernel
theorem dX8_laysKind_122 : decode cX8_laysKind 122 = .ok (.getfield 36, 3) := by decide +kernel
theorem dX8_laysKind_125 : decode cX8_laysKind 125 = .ok (.iload 6, 2) := by decide +kernel
theorem dX8_laysKind_127 : decode cX8_laysKind 127 = .ok (.iaload, 1) := by decide +kernel
theorem dX8_laysKind_128 : decode cX8_laysKind 128 = .ok (.isub, 1) := by decide +kernel
theorem dX8_laysKind_129 : decode cX8_laysKind 129 = .ok (.iload_n 2, 1) := by decide +kernel
theorem dX8_laysKind_130 : decode cX8_laysKind 130 = .ok (.iload 4, 2) := by decide +kernel
theorem dX8_laysKind_132 : decode cX8_laysKind 132 = .ok (.imul, 1) := by decide +kernel
theorem dX8_laysKind_133 : decode cX8_laysKind 133 = .ok (.if_icmp .le 9, 3) := by decide +kernel
theorem dX8_laysKind_136 : decode cX8_laysKind 136 = .ok (.iinc 6 1, 3) := by decide +kernel
theorem dX8_laysKind_139 : decode cX8_laysKind 139 = .ok (.goto (-20), 3) := by decide +kernel
theorem dX8_laysKind_142 : decode cX8_laysKind 142 = .ok (.aload_n 0, 1) := by decide +kernel
theorem dX8_laysKind_143 : decode cX8_laysKind 143 = .ok (.getfield 33, 3) := by decide +kernel
theorem dX8_laysKind_146 : decode cX8_laysKind 146 = .ok (.iload_n 1, 1) := by decide +kernel
theorem dX8_laysKind_147 : decode cX8_laysKind 147 = .ok (.aload_n 0, 1) := by decide +kernel
theorem dX8_laysKind_148 : decode cX8_laysKind 148 = .ok (.getfield 36, 3) := by decide +kernel
theorem dX8_laysKind_151 : decode cX8_laysKind 151 = .ok (.iload 6, 2) := by decide +kernel
theorem dX8_laysKind_153 : decode cX8_laysKind 153 = .ok (.iaload, 1) := by decide +kernel
theorem dX8_laysKind_154 : decode cX8_laysKind 154 = .ok (.invokestatic 194, 3) := by decide +kernel
theorem dX8_laysKind_157 : decode cX8_laysKind 157 = .ok (.iaload, 1) := by decide +kernel
theorem dX8_laysKind_158 : decode cX8_laysKind 158 = .ok (.iload 8, 2) := by decide +kernel
theorem dX8_laysKind_160 : decode cX8_laysKind 160 = .ok (.aload_n 0, 1) := by decide +kernel
theorem dX8_laysKind_161 : decode cX8_laysKind 161 = .ok (.getfield 36, 3) := by decide +kernel
theorem dX8_laysKind_164 : decode cX8_laysKind 164 = .ok (.iload 6, 2) := by decide +kernel
theorem dX8_laysKind_166 : decode cX8_laysKind 166 = .ok (.iaload, 1) := by decide +kernel
theorem dX8_laysKind_167 : decode cX8_laysKind 167 = .ok (.isub, 1) := by decide +kernel
theorem dX8_laysKind_168 : decode cX8_laysKind 168 = .ok (.iload 4, 2) := by decide +kernel
theorem dX8_laysKind_170 : decode cX8_laysKind 170 = .ok (.idiv, 1) := by decide +kernel
theorem dX8_laysKind_171 : decode cX8_laysKind 171 = .ok (.iadd, 1) := by decide +kernel
theorem dX8_laysKind_172 : decode cX8_laysKind 172 = .ok (.istore 10, 2) := by decide +kernel
theorem dX8_laysKind_174 : decode cX8_laysKind 174 = .ok (.aload_n 0, 1) := by decide +kernel
theorem dX8_laysKind_175 : decode cX8_laysKind 175 = .ok (.getfield 33, 3) := by decide +kernel
theorem dX8_laysKind_178 : decode cX8_laysKind 178 = .ok (.iload_n 1, 1) := by decide +kernel
theorem dX8_laysKind_179 : decode cX8_laysKind 179 = .ok (.iconst 1, 1) := by decide +kernel
theorem dX8_laysKind_180 : decode cX8_laysKind 180 = .ok (.iadd, 1) := by decide +kernel
theorem dX8_laysKind_181 : decode cX8_laysKind 181 = .ok (.iload 8, 2) := by decide +kernel
theorem dX8_laysKind_183 : decode cX8_laysKind 183 = .ok (.invokestatic 194, 3) := by decide +kernel
theorem dX8_laysKind_186 : decode cX8_laysKind 186 = .ok (.ldc 197, 2) := by decide +kernel
theorem dX8_laysKind_188 : decode cX8_laysKind 188 = .ok (.iload 10, 2) := by decide +kernel
theorem dX8_laysKind_190 : decode cX8_laysKind 190 = .ok (.invokestatic 128, 3) := by decide +kernel
theorem dX8_laysKind_193 : decode cX8_laysKind 193 = .ok (.iastore, 1) := by decide +kernel
theorem dX8_laysKind_194 : decode cX8_laysKind 194 = .ok (.iload 8, 2) := by decide +kernel
theorem dX8_laysKind_196 : decode cX8_laysKind 196 = .ok (.iload 4, 2) := by decide +kernel
theorem dX8_laysKind_198 : decode cX8_laysKind 198 = .ok (.iadd, 1) := by decide +kernel
theorem dX8_laysKind_199 : decode cX8_laysKind 199 = .ok (.istore 8, 2) := by decide +kernel
theorem dX8_laysKind_201 : decode cX8_laysKind 201 = .ok (.goto (-168), 3) := by decide +kernel
theorem dX8_laysKind_204 : decode cX8_laysKind 204 = .ok (.iinc 5 1, 3) := by decide +kernel
theorem dX8_laysKind_207 : decode cX8_laysKind 207 = .ok (.goto (-197), 3) := by decide +kernel
theorem dX8_laysKind_210 : decode cX8_laysKind 210 = .ok (.return_, 1) := by decide +kernel
set_option maxHeartbeats 4000000 in
set_option maxRecDepth 100000 in
theorem m_X8_laysKind (l : Launch) (k : Int) (c : Int) (M : Int) (mem : Mem) (hk : 0 ≤ k ∧ k < 8) (hc : 0 ≤ c ∧ c ≤ 200) (hM : 0 ≤ M ∧ M ≤ 2500) (hv : 1 ≤ mem 1 (3 + k).toNat ∧ mem 1 (3 + k).toNat ≤ 500) (hf : ∀ x : Nat, x ≤ M.toNat → 0 ≤ mem 8 (2501 * k.toNat + x) ∧ mem 8 (2501 * k.toNat + x) ≤ 1000000) : Ret shp l yX8_laysKind cX8_laysKind 11 none 1 [pR 0, pI k, pI c, pI M] mem (fun rv mv => rv = none ∧ (∀ a, a ≠ 8 → a ≠ 9 → mv a = mem a) ∧ (∀ b, b < 2501 * (k.toNat + 1) ∨ 2501 * (k.toNat + 1) + M.toNat < b → mv 8 b = mem 8 b) ∧ ∀ a : Nat, a ≤ M.toNat → mv 8 (2501 * (k.toNat + 1) + a) = stepF (fun y => mem 8 (2501 * k.toNat + y)) (mem 1 (3 + k).toNat).toNat c.toNat a) := by
  refine ret_of (by decide +kernel) (Nat.le_of_ble_eq_true rfl) (fun X hX F G => ?_)
  show Ok shp X 11 0 [(0, pR 0), (1, pI k), (2, pI c), (3, pI M)] [] mem
  refine ok_aload_n F dX8_laysKind_0 0 rfl ?_
  refine ok_iload_n F dX8_laysKind_1 1 rfl ?_
  refine ok_callv F [pI k] dX8_laysKind_2 kM_X8_value kI_X8_value kV_X8_value kL_X8_191 (ci := 8) rfl sh_0 rfl (by decide) (Nat.le_of_ble_eq_true rfl) rfl (m_X8_value _ k mem (by omega)) ?_
  rintro _ _ ⟨rfl, rfl⟩
  refine ok_istore (lv' := [(4, pI (mem 1 (3 + k).toNat)), (0, pR 0), (1, pI k), (2, pI c), (3, pI M)]) F dX8_laysKind_5 (by decide) rfl ?_
  refine ok_iconst F dX8_laysKind_7 ?_
  refine ok_istore (lv' := [(5, pI 0), (4, pI (mem 1 (3 + k).toNat)), (0, pR 0), (1, pI k), (2, pI c), (3, pI M)]) F dX8_laysKind_8 (by decide) rfl ?_
  have hL_10 : ∀ (n_10 : Nat) (V : Int) (r : Int) (m : Mem), (V = mem 1 (3 + k).toNat ∧ 0 ≤ r ∧ r ≤ V ∧ LK mem m k.toNat V.toNat c.toNat M.toNat r.toNat (0)) → (V - r).toNat = n_10 → Ok shp X 11 10 [(0, pR 0), (1, pI k), (2, pI c), (3, pI M), (4, pI V), (5, pI r)] [] m := by
    intro n_10
    induction n_10 using Nat.strongRecOn with
    | _ n_10 ih_10 =>
      intro V r m hI_10 hn_10
      obtain ⟨hV, hr0, hr1, hLK⟩ := hI_10
      have hv0 : 0 < V.toNat := by omega
      have hVv : V = (V.toNat : Int) := by omega
      have hRr : r = (r.toNat : Int) := by omega
      refine ok_iload F dX8_laysKind_10 5 rfl ?_
      refine ok_iload F dX8_laysKind_12 4 rfl ?_
      refine ok_icmp_ge F 210 dX8_laysKind_14 (by decide) (by omega) (by omega) (fun c_1 => ?_) (fun c_1 => ?_)
      · refine ok_vret F G dX8_laysKind_210 ?_
        refine ⟨rfl, hLK.1, hLK.2.1, ?_⟩
        rw [← hV]
        exact hLK.all hv0 (by omega)
      · refine ok_iload F dX8_laysKind_17 5 rfl ?_
        refine ok_iload_n F dX8_laysKind_19 3 rfl ?_
        refine ok_icmp_gt F 210 dX8_laysKind_20 (by decide) (by omega) (by omega) (fun c_2 => ?_) (fun c_2 => ?_)
        · refine ok_vret F G dX8_laysKind_210 ?_
          refine ⟨rfl, hLK.1, hLK.2.1, ?_⟩
          rw [← hV]
          exact hLK.all hv0 (by omega)
        · refine ok_iconst F dX8_laysKind_23 ?_
          refine ok_istore (lv' := [(6, pI 0), (0, pR 0), (1, pI k), (2, pI c), (3, pI M), (4, pI V), (5, pI r)]) F dX8_laysKind_24 (by decide) rfl ?_
          refine ok_iconst F dX8_laysKind_26 ?_
          refine ok_istore (lv' := [(7, pI 0), (6, pI 0), (0, pR 0), (1, pI k), (2, pI c), (3, pI M), (4, pI V), (5, pI r)]) F dX8_laysKind_27 (by decide) rfl ?_
          refine ok_iload F dX8_laysKind_29 7 rfl ?_
          refine ok_istore (lv' := [(8, pI r), (7, pI 0), (6, pI 0), (0, pR 0), (1, pI k), (2, pI c), (3, pI M), (4, pI V), (5, pI r)]) F dX8_laysKind_31 (by decide) rfl ?_
          have hL_33 : ∀ (n_33 : Nat) (hd : Int) (tl : Int) (a : Int) (m2 : Mem), (∃ (i h n : Nat) (τ : Nat → Nat), hd = h ∧ tl = n ∧ a = ((r.toNat + i * V.toNat : Nat) : Int) ∧ QA (fun t => mem 8 (2501 * k.toNat + (r.toNat + t * V.toNat))) c.toNat i h n τ ∧ (∀ j, h ≤ j → j < n → m2 9 j = ((r.toNat + τ j * V.toNat : Nat) : Int)) ∧ LK mem m2 k.toNat V.toNat c.toNat M.toNat r.toNat (r.toNat + i * V.toNat) ∧ a ≤ 3000) → (M + 1 - a).toNat = n_33 → Ok shp X 11 33 [(0, pR 0), (1, pI k), (2, pI c), (3, pI M), (4, pI V), (5, pI r), (6, pI hd), (7, pI tl), (8, pI a)] [] m2 := by
            intro n_33
            induction n_33 using Nat.strongRecOn with
            | _ n_33 ih_33 =>
              intro hd tl a m2 hI_33 hn_33
              obtain ⟨i, h, n, τ, hh, hnn, ha, hQ, hq, hLK2, ha3⟩ := hI_33
              refine ok_iload F dX8_laysKind_33 8 rfl ?_
              refine ok_iload_n F dX8_laysKind_35 3 rfl ?_
              refine ok_icmp_gt F 204 dX8_laysKind_36 (by decide) (by omega) (by omega) (fun c_3 => ?_) (fun c_3 => ?_)
              · refine ok_iinc (lv' := [(5, pI (r + 1)), (0, pR 0), (1, pI k), (2, pI c), (3, pI M), (4, pI V), (6, pI hd), (7, pI tl), (8, pI a)]) F dX8_laysKind_204 5 rfl (by decide) rfl ?_
                refine ok_goto F 10 dX8_laysKind_207 (by decide) ?_
                refine ok_lvp [1, 2, 3, 4, 5, 0] (lv' := [(0, pR 0), (1, pI k), (2, pI c), (3, pI M), (4, pI V), (5, pI (r + 1))]) rfl ?_
                refine ih_10 _ ?_ V (r + 1) m2 ?_ rfl
                · omega
                · exact ⟨hV, by omega, by omega, by rw [show (r + 1).toNat = r.toNat + 1 by omega]; exact hLK2.next (by omega)⟩
              · have hiM : r.toNat + i * V.toNat ≤ M.toNat := by omega
                have hii : i ≤ i * V.toNat := Nat.le_mul_of_pos_right i hv0
                have hF : ∀ y : Nat, y ≤ M.toNat → m2 8 (2501 * k.toNat + y) = mem 8 (2501 * k.toNat + y) := fun y hy => hLK2.2.1 _ (Or.inl (by omega))
                have hFa : m2 8 (2501 * k + a).toNat = mem 8 (2501 * k.toNat + (r.toNat + i * V.toNat)) := by rw [show (2501 * k + a).toNat = 2501 * k.toNat + (r.toNat + i * V.toNat) by omega]; exact hF _ hiM
                have hga := hf _ hiM
                have hda : a.tdiv V = i := by rw [ha, hVv, Int.natCast_add, Int.natCast_mul]; exact tdiv_at (by omega)
                refine ok_aload_n F dX8_laysKind_39 0 rfl ?_
                refine ok_getr F dX8_laysKind_40 kF_X8_33 sh_0 rfl ?_
                refine ok_iload_n F dX8_laysKind_43 1 rfl ?_
                refine ok_iload F dX8_laysKind_44 8 rfl ?_
                refine ok_calls F [pI k, pI a] dX8_laysKind_46 kM_X8_cell kS_X8_cell kL_X8_194 rfl (by decide) (Nat.le_of_ble_eq_true rfl) rfl (m_X8_cell _ k a m2) ?_
                rintro _ _ ⟨rfl, rfl⟩
                refine ok_iald (v := m2 8 ((2501 * k + a).toNat)) F dX8_laysKind_49 sh_8 (by first | decide | assumption) (by omega) (by omega) rfl ?_
                refine ok_iload F dX8_laysKind_50 8 rfl ?_
                refine ok_iload F dX8_laysKind_52 4 rfl ?_
                refine ok_idiv F dX8_laysKind_54 (by omega) (by omega) (by omega) ?_
                refine ok_isub F dX8_laysKind_55 ?_
                refine ok_istore (lv' := [(9, pI ((m2 8 ((2501 * k + a).toNat)) - (a.tdiv V))), (0, pR 0), (1, pI k), (2, pI c), (3, pI M), (4, pI V), (5, pI r), (6, pI hd), (7, pI tl), (8, pI a)]) F dX8_laysKind_56 (by decide) rfl ?_
                have hL_58 : ∀ (n_58 : Nat) (tl2 : Int), (∃ n2 : Nat, tl2 = n2 ∧ QB (fun t => mem 8 (2501 * k.toNat + (r.toNat + t * V.toNat))) c.toNat i h n2 τ ∧ n2 ≤ n) → tl2.toNat = n_58 → Ok shp X 11 58 [(0, pR 0), (1, pI k), (2, pI c), (3, pI M), (4, pI V), (5, pI r), (6, pI hd), (7, pI tl2), (8, pI a), (9, pI ((m2 8 ((2501 * k + a).toNat)) - (a.tdiv V)))] [] m2 := by
                  intro n_58
                  induction n_58 using Nat.strongRecOn with
                  | _ n_58 ih_58 =>
                    intro tl2 hI_58 hn_58
                    obtain ⟨n2, hn2, hQB, hn2n⟩ := hI_58
                    have hb1 := hQB.1
                    have hb2 := hQB.2.1
                    refine ok_iload F dX8_laysKind_58 7 rfl ?_
                    refine ok_iload F dX8_laysKind_60 6 rfl ?_
                    refine ok_icmp_le F 107 dX8_laysKind_62 (by decide) (by omega) (by omega) (fun c_4 => ?_) (fun c_4 => ?_)
                    · have hni : n2 ≤ i := hQB.2.1
                      obtain ⟨σ, hσ⟩ : ∃ σ : Nat → Nat, σ = fun j => if j = n2 then i else τ j := ⟨_, rfl⟩
                      have hQC : QC (fun t => mem 8 (2501 * k.toNat + (r.toNat + t * V.toNat))) c.toNat i h (n2 + 1) σ := hQB.push (by first | exact Or.inl (by have := hQB.1; omega) | exact Or.inr (by (try dsimp only); omega)) (by rw [hσ]; exact if_pos rfl) (fun j hj => by rw [hσ]; exact if_neg (by omega))
                      refine ok_aload_n F dX8_laysKind_107 0 rfl ?_
                      refine ok_getr F dX8_laysKind_108 kF_X8_36 sh_0 rfl ?_
                      refine ok_iload F dX8_laysKind_111 7 rfl ?_
                      refine ok_iload F dX8_laysKind_113 8 rfl ?_
                      refine ok_iast F dX8_laysKind_115 sh_9 (by first | decide | assumption) (by omega) (by omega) (fun m_5 e_6 => ?_)
                      obtain ⟨m5, hm5⟩ : ∃ x, x = m_5 := ⟨_, rfl⟩
                      have hq5 : ∀ j, h ≤ j → j < n2 + 1 → m5 9 j = ((r.toNat + σ j * V.toNat : Nat) : Int) := by
                        intro j h1 h2
                        rw [hm5, e_6, hσ]
                        show _ = ((r.toNat + (if j = n2 then i else τ j) * V.toNat : Nat) : Int)
                        by_cases e : j = n2
                        · subst e; rw [show tl2.toNat = j by omega, mset_eq, if_pos rfl, ha]
                        · rw [mset_ne (by omega), if_neg e]; exact hq j h1 (by omega)
                      have hLK5 : LK mem m5 k.toNat V.toNat c.toNat M.toNat r.toNat (r.toNat + i * V.toNat) := by rw [hm5, e_6]; exact hLK2.queue
                      refine ok_iinc (lv' := [(7, pI (tl2 + 1)), (0, pR 0), (1, pI k), (2, pI c), (3, pI M), (4, pI V), (5, pI r), (6, pI hd), (8, pI a), (9, pI ((m2 8 ((2501 * k + a).toNat)) - (a.tdiv V)))]) F dX8_laysKind_116 7 rfl (by decide) rfl ?_
                      have hL_119 : ∀ (n_119 : Nat) (hd3 : Int), (∃ h3 : Nat, hd3 = h3 ∧ h ≤ h3 ∧ QC (fun t => mem 8 (2501 * k.toNat + (r.toNat + t * V.toNat))) c.toNat i h3 (n2 + 1) σ) → (tl2 + 1 - hd3).toNat = n_119 → Ok shp X 11 119 [(0, pR 0), (1, pI k), (2, pI c), (3, pI M), (4, pI V), (5, pI r), (6, pI hd3), (7, pI (tl2 + 1)), (8, pI a), (9, pI ((m2 8 ((2501 * k + a).toNat)) - (a.tdiv V)))] [] m_5 := by
                        intro n_119
                        induction n_119 using Nat.strongRecOn with
                        | _ n_119 ih_119 =>
                          intro hd3 hI_119 hn_119
                          obtain ⟨h3, hh3, hle3, hQ3⟩ := hI_119
                          have hb3 := hQ3.1
                          have hb4 := hQ3.2.1
                          refine ok_iload F dX8_laysKind_119 8 rfl ?_
                          have hq3 : m_5 9 hd3.toNat = ((r.toNat + σ h3 * V.toNat : Nat) : Int) := by rw [← hm5, show hd3.toNat = h3 by omega]; exact hq5 _ hle3 hQ3.1
                          have hs3 := hQ3.2.2.2.1 h3 (Nat.le_refl _) hQ3.1
                          have hl3 : σ h3 * V.toNat ≤ i * V.toNat := Nat.mul_le_mul_right _ hs3
                          have hcv : 0 ≤ c * V ∧ c * V ≤ 200 * 500 := ⟨Int.mul_nonneg hc.1 (by omega), Int.mul_le_mul hc.2 (by omega) (by omega) (by omega)⟩
                          have hwin := win_iff (R := r.toNat) (i := i) (s := σ h3) (c := c.toNat) hv0
                          rw [← ha, ← hq3, ← hVv, show ((c.toNat : Nat) : Int) = c by omega] at hwin
                          refine ok_aload_n F dX8_laysKind_121 0 rfl ?_
                          refine ok_getr F dX8_laysKind_122 kF_X8_36 sh_0 rfl ?_
                          refine ok_iload F dX8_laysKind_125 6 rfl ?_
                          refine ok_iald (v := m_5 9 hd3.toNat) F dX8_laysKind_127 sh_9 (by first | decide | assumption) (by omega) (by omega) rfl ?_
                          refine ok_isub F dX8_laysKind_128 ?_
                          refine ok_iload_n F dX8_laysKind_129 2 rfl ?_
                          refine ok_iload F dX8_laysKind_130 4 rfl ?_
                          refine ok_imul F dX8_laysKind_132 ?_
                          refine ok_icmp_le F 142 dX8_laysKind_133 (by decide) (by omega) (by omega) (fun c_7 => ?_) (fun c_7 => ?_)
                          · have hF5 : m2 8 (2501 * k + m_5 9 hd3.toNat).toNat = mem 8 (2501 * k.toNat + (r.toNat + σ h3 * V.toNat)) := by rw [show (2501 * k + m_5 9 hd3.toNat).toNat = 2501 * k.toNat + (r.toNat + σ h3 * V.toNat) by omega]; exact hF _ (by omega)
                            have hg5 := hf (r.toNat + σ h3 * V.toNat) (by omega)
                            have hd5 : (a - m_5 9 hd3.toNat).tdiv V = ((i - σ h3 : Nat) : Int) := by
                              have e : i * V.toNat = (i - σ h3) * V.toNat + σ h3 * V.toNat := by rw [← Nat.add_mul, Nat.sub_add_cancel hs3]
                              rw [show a - m_5 9 hd3.toNat = (((i - σ h3) * V.toNat : Nat) : Int) by omega, hVv, Int.natCast_mul]
                              exact tdiv_mul hv0
                            have hst : min 1000000 (m2 8 (2501 * k + m_5 9 hd3.toNat).toNat + (a - m_5 9 hd3.toNat).tdiv V) = stepF (fun y => mem 8 (2501 * k.toNat + y)) V.toNat c.toNat (r.toNat + i * V.toNat) := by
                              rw [hF5, hd5, ← hQ3.step hv0 (by omega) (by omega)]
                              congr 2
                              omega
                            refine ok_aload_n F dX8_laysKind_142 0 rfl ?_
                            refine ok_getr F dX8_laysKind_143 kF_X8_33 sh_0 rfl ?_
                            refine ok_iload_n F dX8_laysKind_146 1 rfl ?_
                            refine ok_aload_n F dX8_laysKind_147 0 rfl ?_
                            refine ok_getr F dX8_laysKind_148 kF_X8_36 sh_0 rfl ?_
                            refine ok_iload F dX8_laysKind_151 6 rfl ?_
                            refine ok_iald (v := m_5 9 hd3.toNat) F dX8_laysKind_153 sh_9 (by first | decide | assumption) (by omega) (by omega) rfl ?_
                            refine ok_calls F [pI k, pI (m_5 9 hd3.toNat)] dX8_laysKind_154 kM_X8_cell kS_X8_cell kL_X8_194 rfl (by decide) (Nat.le_of_ble_eq_true rfl) rfl (m_X8_cell _ k (m_5 9 hd3.toNat) m_5) ?_
                            rintro _ _ ⟨rfl, rfl⟩
                            refine ok_iald (v := m2 8 ((2501 * k + (m_5 9 hd3.toNat)).toNat)) F dX8_laysKind_157 sh_8 (by first | decide | assumption) (by omega) (by omega) (by rw [e_6, mset_nk (by decide)] <;> rfl) ?_
                            refine ok_iload F dX8_laysKind_158 8 rfl ?_
                            refine ok_aload_n F dX8_laysKind_160 0 rfl ?_
                            refine ok_getr F dX8_laysKind_161 kF_X8_36 sh_0 rfl ?_
                            refine ok_iload F dX8_laysKind_164 6 rfl ?_
                            refine ok_iald (v := m_5 9 hd3.toNat) F dX8_laysKind_166 sh_9 (by first | decide | assumption) (by omega) (by omega) rfl ?_
                            refine ok_isub F dX8_laysKind_167 ?_
                            refine ok_iload F dX8_laysKind_168 4 rfl ?_
                            refine ok_idiv F dX8_laysKind_170 (by omega) (by omega) (by omega) ?_
                            refine ok_iadd F dX8_laysKind_171 ?_
                            refine ok_istore (lv' := [(10, pI ((m2 8 ((2501 * k + (m_5 9 hd3.toNat)).toNat)) + ((a - (m_5 9 hd3.toNat)).tdiv V))), (0, pR 0), (1, pI k), (2, pI c), (3, pI M), (4, pI V), (5, pI r), (6, pI hd3), (7, pI (tl2 + 1)), (8, pI a), (9, pI ((m2 8 ((2501 * k + a).toNat)) - (a.tdiv V)))]) F dX8_laysKind_172 (by decide) rfl ?_
                            refine ok_aload_n F dX8_laysKind_174 1 rfl ?_
                            refine ok_getr F dX8_laysKind_175 kF_X8_33 sh_0 rfl ?_
                            refine ok_iload_n F dX8_laysKind_178 2 rfl ?_
                            refine ok_iconst F dX8_laysKind_179 ?_
                            refine ok_iadd F dX8_laysKind_180 ?_
                            refine ok_iload F dX8_laysKind_181 9 rfl ?_
                            refine ok_calls F [pI (k + 1), pI a] dX8_laysKind_183 kM_X8_cell kS_X8_cell kL_X8_194 rfl (by decide) (Nat.le_of_ble_eq_true rfl) rfl (m_X8_cell _ (k + 1) a m_5) ?_
                            rintro _ _ ⟨rfl, rfl⟩
                            refine ok_ldc (n := 1000000) F dX8_laysKind_186 kK_X8_197 rfl ?_
                            refine ok_iload F dX8_laysKind_188 0 rfl ?_
                            refine ok_mmin F dX8_laysKind_190 kL_X8_128 kS_J9_min_7cf53 kM_J9_min_7cf53.2.1 kM_J9_min_7cf53.2.2.1 (by omega) (by omega) (by decide) (Nat.le_of_ble_eq_true rfl) ?_
                            refine ok_iast F dX8_laysKind_193 sh_8 (by first | decide | assumption) (by omega) (by omega) (fun m_8 e_9 => ?_)
                            refine ok_iload F dX8_laysKind_194 9 rfl ?_
                            refine ok_iload F dX8_laysKind_196 5 rfl ?_
                            refine ok_iadd F dX8_laysKind_198 ?_
                            refine ok_istore (lv' := [(8, pI (a + V)), (10, pI ((m2 8 ((2501 * k + (m_5 9 hd3.toNat)).toNat)) + ((a - (m_5 9 hd3.toNat)).tdiv V))), (0, pR 0), (1, pI k), (2, pI c), (3, pI M), (4, pI V), (5, pI r), (6, pI hd3), (7, pI (tl2 + 1)), (9, pI ((m2 8 ((2501 * k + a).toNat)) - (a.tdiv V)))]) F dX8_laysKind_199 (by decide) rfl ?_
                            refine ok_goto F 33 dX8_laysKind_201 (by decide) ?_
                            refine ok_lvp [2, 3, 4, 5, 6, 7, 8, 9, 0] (lv' := [(0, pR 0), (1, pI k), (2, pI c), (3, pI M), (4, pI V), (5, pI r), (6, pI hd3), (7, pI (tl2 + 1)), (8, pI (a + V))]) rfl ?_
                            refine ih_33 _ ?_ hd3 (tl2 + 1) (a + V) m_8 ?_ rfl
                            · omega
                            · refine ⟨i + 1, h3, n2 + 1, σ, by omega, by omega, by rw [Nat.add_mul]; omega, hQ3.toA, fun j h1 h2 => ?_, ?_, by omega⟩
                              · rw [e_9, mset_nk (by decide), ← hm5]; exact hq5 j (by omega) h2
                              · rw [e_9, hst, show (2501 * (k + 1) + a).toNat = 2501 * (k.toNat + 1) + (r.toNat + i * V.toNat) by omega, ← hm5]; exact hLK5.store hv0 (by omega) (by omega)
                          · refine ok_iinc (lv' := [(6, pI (hd3 + 1)), (0, pR 0), (1, pI k), (2, pI c), (3, pI M), (4, pI V), (5, pI r), (7, pI (tl2 + 1)), (8, pI a), (9, pI ((m2 8 ((2501 * k + a).toNat)) - (a.tdiv V)))]) F dX8_laysKind_136 6 rfl (by decide) rfl ?_
                            refine ok_goto F 119 dX8_laysKind_139 (by decide) ?_
                            refine ok_lvp [1, 2, 3, 4, 5, 6, 0, 7, 8, 9] (lv' := [(0, pR 0), (1, pI k), (2, pI c), (3, pI M), (4, pI V), (5, pI r), (6, pI (hd3 + 1)), (7, pI (tl2 + 1)), (8, pI a), (9, pI ((m2 8 ((2501 * k + a).toNat)) - (a.tdiv V)))]) rfl ?_
                            refine ih_119 _ ?_ (hd3 + 1) ?_ rfl
                            · (have := hQ3.1; omega)
                            · exact ⟨h3 + 1, by omega, by omega, hQ3.pop (by omega)⟩
                      refine ok_lvp [1, 2, 3, 4, 5, 6, 7, 0, 8, 9] (lv' := [(0, pR 0), (1, pI k), (2, pI c), (3, pI M), (4, pI V), (5, pI r), (6, pI hd), (7, pI (tl2 + 1)), (8, pI a), (9, pI ((m2 8 ((2501 * k + a).toNat)) - (a.tdiv V)))]) rfl ?_
                      refine hL_119 _ hd ?_ rfl
                      exact ⟨h, by omega, Nat.le_refl _, hQC⟩
                    · have htb : τ (n2 - 1) < i := hQB.2.2.1 _ (by omega) (by omega)
                      have hlm : τ (n2 - 1) * V.toNat ≤ i * V.toNat := Nat.mul_le_mul_right _ (by omega)
                      have hq2 : m2 9 (tl2 - 1).toNat = ((r.toNat + τ (n2 - 1) * V.toNat : Nat) : Int) := by rw [show (tl2 - 1).toNat = n2 - 1 by omega]; exact hq _ (by omega) (by omega)
                      have hFq : m2 8 (2501 * k + m2 9 (tl2 - 1).toNat).toNat = mem 8 (2501 * k.toNat + (r.toNat + τ (n2 - 1) * V.toNat)) := by rw [show (2501 * k + m2 9 (tl2 - 1).toNat).toNat = 2501 * k.toNat + (r.toNat + τ (n2 - 1) * V.toNat) by omega]; exact hF _ (by omega)
                      have hgq := hf (r.toNat + τ (n2 - 1) * V.toNat) (by omega)
                      have hdq : (m2 9 (tl2 - 1).toNat).tdiv V = τ (n2 - 1) := by rw [hq2, hVv, Int.natCast_add, Int.natCast_mul]; exact tdiv_at (by omega)
                      refine ok_aload_n F dX8_laysKind_65 0 rfl ?_
                      refine ok_getr F dX8_laysKind_66 kF_X8_33 sh_0 rfl ?_
                      refine ok_iload_n F dX8_laysKind_69 1 rfl ?_
                      refine ok_aload_n F dX8_laysKind_70 0 rfl ?_
                      refine ok_getr F dX8_laysKind_71 kF_X8_36 sh_0 rfl ?_
                      refine ok_iload F dX8_laysKind_74 7 rfl ?_
                      refine ok_iconst F dX8_laysKind_76 ?_
                      refine ok_isub F dX8_laysKind_77 ?_
                      refine ok_iald (v := m2 9 ((tl2 - 1).toNat)) F dX8_laysKind_78 sh_9 (by first | decide | assumption) (by omega) (by omega) rfl ?_
                      refine ok_calls F [pI k, pI (m2 9 ((tl2 - 1).toNat))] dX8_laysKind_79 kM_X8_cell kS_X8_cell kL_X8_194 rfl (by decide) (Nat.le_of_ble_eq_true rfl) rfl (m_X8_cell _ k (m2 9 ((tl2 - 1).toNat)) m2) ?_
                      rintro _ _ ⟨rfl, rfl⟩
                      refine ok_iald (v := m2 8 ((2501 * k + (m2 9 ((tl2 - 1).toNat))).toNat)) F dX8_laysKind_82 sh_8 (by first | decide | assumption) (by omega) (by omega) rfl ?_
                      refine ok_aload_n F dX8_laysKind_83 0 rfl ?_
                      refine ok_getr F dX8_laysKind_84 kF_X8_36 sh_0 rfl ?_
                      refine ok_iload F dX8_laysKind_87 7 rfl ?_
                      refine ok_iconst F dX8_laysKind_89 ?_
                      refine ok_isub F dX8_laysKind_90 ?_
                      refine ok_iald (v := m2 9 ((tl2 - 1).toNat)) F dX8_laysKind_91 sh_9 (by first | decide | assumption) (by omega) (by omega) rfl ?_
                      refine ok_iload F dX8_laysKind_92 4 rfl ?_
                      refine ok_idiv F dX8_laysKind_94 (by omega) (by omega) (by omega) ?_
                      refine ok_isub F dX8_laysKind_95 ?_
                      refine ok_iload F dX8_laysKind_96 9 rfl ?_
                      refine ok_icmp_lt F 107 dX8_laysKind_98 (by decide) (by omega) (by omega) (fun c_10 => ?_) (fun c_10 => ?_)
                      · have hni : n2 ≤ i := hQB.2.1
                        obtain ⟨σ, hσ⟩ : ∃ σ : Nat → Nat, σ = fun j => if j = n2 then i else τ j := ⟨_, rfl⟩
                        have hQC : QC (fun t => mem 8 (2501 * k.toNat + (r.toNat + t * V.toNat))) c.toNat i h (n2 + 1) σ := hQB.push (by first | exact Or.inl (by have := hQB.1; omega) | exact Or.inr (by (try dsimp only); omega)) (by rw [hσ]; exact if_pos rfl) (fun j hj => by rw [hσ]; exact if_neg (by omega))
                        refine ok_aload_n F dX8_laysKind_107 0 rfl ?_
                        refine ok_getr F dX8_laysKind_108 kF_X8_36 sh_0 rfl ?_
                        refine ok_iload F dX8_laysKind_111 7 rfl ?_
                        refine ok_iload F dX8_laysKind_113 8 rfl ?_
                        refine ok_iast F dX8_laysKind_115 sh_9 (by first | decide | assumption) (by omega) (by omega) (fun m_11 e_12 => ?_)
                        obtain ⟨m5, hm5⟩ : ∃ x, x = m_11 := ⟨_, rfl⟩
                        have hq5 : ∀ j, h ≤ j → j < n2 + 1 → m5 9 j = ((r.toNat + σ j * V.toNat : Nat) : Int) := by
                          intro j h1 h2
                          rw [hm5, e_12, hσ]
                          show _ = ((r.toNat + (if j = n2 then i else τ j) * V.toNat : Nat) : Int)
                          by_cases e : j = n2
                          · subst e; rw [show tl2.toNat = j by omega, mset_eq, if_pos rfl, ha]
                          · rw [mset_ne (by omega), if_neg e]; exact hq j h1 (by omega)
                        have hLK5 : LK mem m5 k.toNat V.toNat c.toNat M.toNat r.toNat (r.toNat + i * V.toNat) := by rw [hm5, e_12]; exact hLK2.queue
                        refine ok_iinc (lv' := [(7, pI (tl2 + 1)), (0, pR 0), (1, pI k), (2, pI c), (3, pI M), (4, pI V), (5, pI r), (6, pI hd), (8, pI a), (9, pI ((m2 8 ((2501 * k + a).toNat)) - (a.tdiv V)))]) F dX8_laysKind_116 7 rfl (by decide) rfl ?_
                        have hL_119 : ∀ (n_119 : Nat) (hd3 : Int), (∃ h3 : Nat, hd3 = h3 ∧ h ≤ h3 ∧ QC (fun t => mem 8 (2501 * k.toNat + (r.toNat + t * V.toNat))) c.toNat i h3 (n2 + 1) σ) → (tl2 + 1 - hd3).toNat = n_119 → Ok shp X 11 119 [(0, pR 0), (1, pI k), (2, pI c), (3, pI M), (4, pI V), (5, pI r), (6, pI hd3), (7, pI (tl2 + 1)), (8, pI a), (9, pI ((m2 8 ((2501 * k + a).toNat)) - (a.tdiv V)))] [] m_11 := by
                          intro n_119
                          induction n_119 using Nat.strongRecOn with
                          | _ n_119 ih_119 =>
                            intro hd3 hI_119 hn_119
                            obtain ⟨h3, hh3, hle3, hQ3⟩ := hI_119
                            have hb3 := hQ3.1
                            have hb4 := hQ3.2.1
                            refine ok_iload F dX8_laysKind_119 8 rfl ?_
                            have hq3 : m_11 9 hd3.toNat = ((r.toNat + σ h3 * V.toNat : Nat) : Int) := by rw [← hm5, show hd3.toNat = h3 by omega]; exact hq5 _ hle3 hQ3.1
                            have hs3 := hQ3.2.2.2.1 h3 (Nat.le_refl _) hQ3.1
                            have hl3 : σ h3 * V.toNat ≤ i * V.toNat := Nat.mul_le_mul_right _ hs3
                            have hcv : 0 ≤ c * V ∧ c * V ≤ 200 * 500 := ⟨Int.mul_nonneg hc.1 (by omega), Int.mul_le_mul hc.2 (by omega) (by omega) (by omega)⟩
                            have hwin := win_iff (R := r.toNat) (i := i) (s := σ h3) (c := c.toNat) hv0
                            rw [← ha, ← hq3, ← hVv, show ((c.toNat : Nat) : Int) = c by omega] at hwin
                            refine ok_aload_n F dX8_laysKind_121 0 rfl ?_
                            refine ok_getr F dX8_laysKind_122 kF_X8_36 sh_0 rfl ?_
                            refine ok_iload F dX8_laysKind_125 6 rfl ?_
                            refine ok_iald (v := m_11 9 hd3.toNat) F dX8_laysKind_127 sh_9 (by first | decide | assumption) (by omega) (by omega) rfl ?_
                            refine ok_isub F dX8_laysKind_128 ?_
                            refine ok_iload_n F dX8_laysKind_129 2 rfl ?_
                            refine ok_iload F dX8_laysKind_130 4 rfl ?_
                            refine ok_imul F dX8_laysKind_132 ?_
                            refine ok_icmp_le F 142 dX8_laysKind_133 (by decide) (by omega) (by omega) (fun c_13 => ?_) (fun c_13 => ?_)
                            · have hF5 : m2 8 (2501 * k + m_11 9 hd3.toNat).toNat = mem 8 (2501 * k.toNat + (r.toNat + σ h3 * V.toNat)) := by rw [show (2501 * k + m_11 9 hd3.toNat).toNat = 2501 * k.toNat + (r.toNat + σ h3 * V.toNat) by omega]; exact hF _ (by omega)
                              have hg5 := hf (r.toNat + σ h3 * V.toNat) (by omega)
                              have hd5 : (a - m_11 9 hd3.toNat).tdiv V = ((i - σ h3 : Nat) : Int) := by
                                have e : i * V.toNat = (i - σ h3) * V.toNat + σ h3 * V.toNat := by rw [← Nat.add_mul, Nat.sub_add_cancel hs3]
                                rw [show a - m_11 9 hd3.toNat = (((i - σ h3) * V.toNat : Nat) : Int) by omega, hVv, Int.natCast_mul]
                                exact tdiv_mul hv0
                              have hst : min 1000000 (m2 8 (2501 * k + m_11 9 hd3.toNat).toNat + (a - m_11 9 hd3.toNat).tdiv V) = stepF (fun y => mem 8 (2501 * k.toNat + y)) V.toNat c.toNat (r.toNat + i * V.toNat) := by
                                rw [hF5, hd5, ← hQ3.step hv0 (by omega) (by omega)]
                                congr 2
                                omega
                              refine ok_aload_n F dX8_laysKind_142 0 rfl ?_
                              refine ok_getr F dX8_laysKind_143 kF_X8_33 sh_0 rfl ?_
                              refine ok_iload_n F dX8_laysKind_146 1 rfl ?_
                              refine ok_aload_n F dX8_laysKind_147 0 rfl ?_
                              refine ok_getr F dX8_laysKind_148 kF_X8_36 sh_0 rfl ?_
                              refine ok_iload F dX8_laysKind_151 6 rfl ?_
                              refine ok_iald (v := m_11 9 hd3.toNat) F dX8_laysKind_153 sh_9 (by first | decide | assumption) (by omega) (by omega) rfl ?_
                              refine ok_calls F [pI k, pI (m_11 9 hd3.toNat)] dX8_laysKind_154 kM_X8_cell kS_X8_cell kL_X8_194 rfl (by decide) (Nat.le_of_ble_eq_true rfl) rfl (m_X8_cell _ k (m_11 9 hd3.toNat) m_11) ?_
                              rintro _ _ ⟨rfl, rfl⟩
                              refine ok_iald (v := m2 8 ((2501 * k + (m_11 9 hd3.toNat)).toNat)) F dX8_laysKind_157 sh_8 (by first | decide | assumption) (by omega) (by omega) (by rw [e_12, mset_nk (by decide)] <;> rfl) ?_
                              refine ok_iload F dX8_laysKind_158 8 rfl ?_
                              refine ok_aload_n F dX8_laysKind_160 0 rfl ?_
                              refine ok_getr F dX8_laysKind_161 kF_X8_36 sh_0 rfl ?_
                              refine ok_iload F dX8_laysKind_164 6 rfl ?_
                              refine ok_iald (v := m_11 9 hd3.toNat) F dX8_laysKind_166 sh_9 (by first | decide | assumption) (by omega) (by omega) rfl ?_
                              refine ok_isub F dX8_laysKind_167 ?_
                              refine ok_iload F dX8_laysKind_168 4 rfl ?_
                              refine ok_idiv F dX8_laysKind_170 (by omega) (by omega) (by omega) ?_
                              refine ok_iadd F dX8_laysKind_171 ?_
                              refine ok_istore (lv' := [(10, pI ((m2 8 ((2501 * k + (m_11 9 hd3.toNat)).toNat)) + ((a - (m_11 9 hd3.toNat)).tdiv V))), (0, pR 0), (1, pI k), (2, pI c), (3, pI M), (4, pI V), (5, pI r), (6, pI hd3), (7, pI (tl2 + 1)), (8, pI a), (9, pI ((m2 8 ((2501 * k + a).toNat)) - (a.tdiv V)))]) F dX8_laysKind_172 (by decide) rfl ?_
                              refine ok_aload_n F dX8_laysKind_174 1 rfl ?_
                              refine ok_getr F dX8_laysKind_175 kF_X8_33 sh_0 rfl ?_
                              refine ok_iload_n F dX8_laysKind_178 2 rfl ?_
                              refine ok_iconst F dX8_laysKind_179 ?_
                              refine ok_iadd F dX8_laysKind_180 ?_
                              refine ok_iload F dX8_laysKind_181 9 rfl ?_
                              refine ok_calls F [pI (k + 1), pI a] dX8_laysKind_183 kM_X8_cell kS_X8_cell kL_X8_194 rfl (by decide) (Nat.le_of_ble_eq_true rfl) rfl (m_X8_cell _ (k + 1) a m_11) ?_
                              rintro _ _ ⟨rfl, rfl⟩
                              refine ok_ldc (n := 1000000) F dX8_laysKind_186 kK_X8_197 rfl ?_
                              refine ok_iload F dX8_laysKind_188 0 rfl ?_
                              refine ok_mmin F dX8_laysKind_190 kL_X8_128 kS_J9_min_7cf53 kM_J9_min_7cf53.2.1 kM_J9_min_7cf53.2.2.1 (by omega) (by omega) (by decide) (Nat.le_of_ble_eq_true rfl) ?_
                              refine ok_iast F dX8_laysKind_193 sh_8 (by first | decide | assumption) (by omega) (by omega) (fun m_14 e_15 => ?_)
                              refine ok_iload F dX8_laysKind_194 9 rfl ?_
                              refine ok_iload F dX8_laysKind_196 5 rfl ?_
                              refine ok_iadd F dX8_laysKind_198 ?_
                              refine ok_istore (lv' := [(8, pI (a + V)), (10, pI ((m2 8 ((2501 * k + (m_11 9 hd3.toNat)).toNat)) + ((a - (m_11 9 hd3.toNat)).tdiv V))), (0, pR 0), (1, pI k), (2, pI c), (3, pI M), (4, pI V), (5, pI r), (6, pI hd3), (7, pI (tl2 + 1)), (9, pI ((m2 8 ((2501 * k + a).toNat)) - (a.tdiv V)))]) F dX8_laysKind_199 (by decide) rfl ?_
                              refine ok_goto F 33 dX8_laysKind_201 (by decide) ?_
                              refine ok_lvp [2, 3, 4, 5, 6, 7, 8, 9, 0] (lv' := [(0, pR 0), (1, pI k), (2, pI c), (3, pI M), (4, pI V), (5, pI r), (6, pI hd3), (7, pI (tl2 + 1)), (8, pI (a + V))]) rfl ?_
                              refine ih_33 _ ?_ hd3 (tl2 + 1) (a + V) m_14 ?_ rfl
                              · omega
                              · refine ⟨i + 1, h3, n2 + 1, σ, by omega, by omega, by rw [Nat.add_mul]; omega, hQ3.toA, fun j h1 h2 => ?_, ?_, by omega⟩
                                · rw [e_15, mset_nk (by decide), ← hm5]; exact hq5 j (by omega) h2
                                · rw [e_15, hst, show (2501 * (k + 1) + a).toNat = 2501 * (k.toNat + 1) + (r.toNat + i * V.toNat) by omega, ← hm5]; exact hLK5.store hv0 (by omega) (by omega)
                            · refine ok_iinc (lv' := [(6, pI (hd3 + 1)), (0, pR 0), (1, pI k), (2, pI c), (3, pI M), (4, pI V), (5, pI r), (7, pI (tl2 + 1)), (8, pI a), (9, pI ((m2 8 ((2501 * k + a).toNat)) - (a.tdiv V)))]) F dX8_laysKind_136 6 rfl (by decide) rfl ?_
                              refine ok_goto F 119 dX8_laysKind_139 (by decide) ?_
                              refine ok_lvp [1, 2, 3, 4, 5, 6, 0, 7, 8, 9] (lv' := [(0, pR 0), (1, pI k), (2, pI c), (3, pI M), (4, pI V), (5, pI r), (6, pI (hd3 + 1)), (7, pI (tl2 + 1)), (8, pI a), (9, pI ((m2 8 ((2501 * k + a).toNat)) - (a.tdiv V)))]) rfl ?_
                              refine ih_119 _ ?_ (hd3 + 1) ?_ rfl
                              · (have := hQ3.1; omega)
                              · exact ⟨h3 + 1, by omega, by omega, hQ3.pop (by omega)⟩
                        refine ok_lvp [1, 2, 3, 4, 5, 6, 7, 0, 8, 9] (lv' := [(0, pR 0), (1, pI k), (2, pI c), (3, pI M), (4, pI V), (5, pI r), (6, pI hd), (7, pI (tl2 + 1)), (8, pI a), (9, pI ((m2 8 ((2501 * k + a).toNat)) - (a.tdiv V)))]) rfl ?_
                        refine hL_119 _ hd ?_ rfl
                        exact ⟨h, by omega, Nat.le_refl _, hQC⟩
                      · refine ok_iinc (lv' := [(7, pI (tl2 + (-1))), (0, pR 0), (1, pI k), (2, pI c), (3, pI M), (4, pI V), (5, pI r), (6, pI hd), (8, pI a), (9, pI ((m2 8 ((2501 * k + a).toNat)) - (a.tdiv V)))]) F dX8_laysKind_101 7 rfl (by decide) rfl ?_
                        refine ok_goto F 58 dX8_laysKind_104 (by decide) ?_
                        refine ok_lvp [1, 2, 3, 4, 5, 6, 7, 0, 8, 9] (lv' := [(0, pR 0), (1, pI k), (2, pI c), (3, pI M), (4, pI V), (5, pI r), (6, pI hd), (7, pI (tl2 + (-1))), (8, pI a), (9, pI ((m2 8 ((2501 * k + a).toNat)) - (a.tdiv V)))]) rfl ?_
                        refine ih_58 _ ?_ (tl2 + (-1)) ?_ rfl
                        · omega
                        · exact ⟨n2 - 1, by omega, hQB.pop (by omega) (by (try dsimp only); omega), by omega⟩
                refine ok_lvp [1, 2, 3, 4, 5, 6, 7, 8, 9, 0] (lv' := [(0, pR 0), (1, pI k), (2, pI c), (3, pI M), (4, pI V), (5, pI r), (6, pI hd), (7, pI tl), (8, pI a), (9, pI ((m2 8 ((2501 * k + a).toNat)) - (a.tdiv V)))]) rfl ?_
                refine hL_58 _ tl ?_ rfl
                exact ⟨n, by omega, hQ.toB, Nat.le_refl _⟩
          refine ok_lvp [3, 4, 5, 6, 7, 8, 2, 1, 0] (lv' := [(0, pR 0), (1, pI k), (2, pI c), (3, pI M), (4, pI V), (5, pI r), (6, pI 0), (7, pI 0), (8, pI r)]) rfl ?_
          refine hL_33 _ 0 0 r m ?_ rfl
          exact ⟨0, 0, 0, fun _ => 0, rfl, rfl, by omega, QA_0 _ _ _, fun j h1 h2 => by omega, hLK.start, by omega⟩
  refine ok_lvp [2, 3, 4, 5, 1, 0] (lv' := [(0, pR 0), (1, pI k), (2, pI c), (3, pI M), (4, pI (mem 1 (3 + k).toNat)), (5, pI 0)]) rfl ?_
  refine hL_10 _ (mem 1 (3 + k).toNat) 0 mem ?_ rfl
  exact ⟨rfl, by omega, by omega, LK_0 _ _ _ _ _⟩
