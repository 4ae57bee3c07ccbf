/-! the class: a level of the table spread by one kind, along one way -/
def lvShL : List Nat := [194, 195, 196, 197, 198, 199, 200, 201, 202]
theorem lvAt {i : Nat} (h : i < 9) : ([194, 195, 196, 197, 198, 199, 200, 201, 202] : List Nat)[i]? = some (194 + i) := by
  have g : i = 0 ∨ i = 1 ∨ i = 2 ∨ i = 3 ∨ i = 4 ∨ i = 5 ∨ i = 6 ∨ i = 7 ∨ i = 8 := by omega
  rcases g with rfl | rfl | rfl | rfl | rfl | rfl | rfl | rfl | rfl <;> rfl
theorem shLv {i : Nat} (h : i < 9) : shp[194 + i]? = some (.inr (.inl (0, 4001))) := by
  have g : i = 0 ∨ i = 1 ∨ i = 2 ∨ i = 3 ∨ i = 4 ∨ i = 5 ∨ i = 6 ∨ i = 7 ∨ i = 8 := by omega
  rcases g with rfl | rfl | rfl | rfl | rfl | rfl | rfl | rfl | rfl <;> rfl
theorem mset_self (f : Mem) (k j : Nat) : mset f k j (f k j) = f := by
  funext a b
  by_cases e : a = k ∧ b = j
  · obtain ⟨rfl, rfl⟩ := e; exact mset_eq _ _ _ _
  · exact mset_ne e
/-- what a level has at the A-th place along a way from a base -/
def phiS (g : Nat → Int) (O lo hi bs w : Int) (A : Nat) : Int := if lo ≤ bs + w * A ∧ bs + w * A ≤ hi then g (bs + w * A + O).toNat else 1000000
def posS (O bs w : Int) (A : Nat) : Nat := (bs + w * A + O).toNat
/-- the queue ahead of the i-th step; while the last ones go; behind the push; with none too old -/
def SX (f : Nat → Int) (c i h n : Nat) (τ : Nat → Nat) : Prop := h ≤ n ∧ n ≤ i ∧ (∀ j, h ≤ j → j < n → τ j < i ∧ i ≤ τ j + c + 1) ∧ (∀ j, h ≤ j → j + 1 < n → τ j < τ (j + 1) ∧ f (τ j) - τ j ≤ f (τ (j + 1)) - τ (j + 1)) ∧ ∀ t, t < i → i ≤ t + c + 1 → f t < 1000000 → ∃ j, h ≤ j ∧ j < n ∧ t ≤ τ j ∧ f (τ j) - τ j ≤ f t - t
def SY (f : Nat → Int) (c i h n : Nat) (τ : Nat → Nat) : Prop := h ≤ n ∧ n ≤ i ∧ (∀ j, h ≤ j → j < n → τ j < i ∧ i ≤ τ j + c + 1) ∧ (∀ j, h ≤ j → j + 1 < n → τ j < τ (j + 1) ∧ f (τ j) - τ j ≤ f (τ (j + 1)) - τ (j + 1)) ∧ ∀ t, t < i → i ≤ t + c + 1 → f t < 1000000 → (∃ j, h ≤ j ∧ j < n ∧ t ≤ τ j ∧ f (τ j) - τ j ≤ f t - t) ∨ f i - i ≤ f t - t
def SZ (f : Nat → Int) (c i h n : Nat) (τ : Nat → Nat) : Prop := h ≤ n ∧ n ≤ i + 1 ∧ (∀ j, h ≤ j → j < n → τ j ≤ i ∧ i ≤ τ j + c + 1) ∧ (∀ j, h ≤ j → j + 1 < n → τ j < τ (j + 1) ∧ f (τ j) - τ j ≤ f (τ (j + 1)) - τ (j + 1)) ∧ ∀ t, t ≤ i → i ≤ t + c + 1 → f t < 1000000 → ∃ j, h ≤ j ∧ j < n ∧ t ≤ τ j ∧ f (τ j) - τ j ≤ f t - t
def SW4 (f : Nat → Int) (c i h n : Nat) (τ : Nat → Nat) : Prop := h ≤ n ∧ n ≤ i + 1 ∧ (∀ j, h ≤ j → j < n → τ j ≤ i ∧ i ≤ τ j + c) ∧ (∀ j, h ≤ j → j + 1 < n → τ j < τ (j + 1) ∧ f (τ j) - τ j ≤ f (τ (j + 1)) - τ (j + 1)) ∧ ∀ t, t ≤ i → i ≤ t + c → f t < 1000000 → ∃ j, h ≤ j ∧ j < n ∧ t ≤ τ j ∧ f (τ j) - τ j ≤ f t - t
theorem SX_0 (f : Nat → Int) (c : Nat) (τ : Nat → Nat) : SX f c 0 0 0 τ := ⟨Nat.le_refl _, Nat.le_refl _, fun j h1 h2 => by omega, fun j h1 h2 => by omega, fun t h1 => by omega⟩
theorem SX.toY {f : Nat → Int} {c i h n : Nat} {τ : Nat → Nat} (q : SX f c i h n τ) : SY f c i h n τ := ⟨q.1, q.2.1, q.2.2.1, q.2.2.2.1, fun t h1 h2 h3 => Or.inl (q.2.2.2.2 t h1 h2 h3)⟩
theorem SX.skip {f : Nat → Int} {c i h n : Nat} {τ : Nat → Nat} (q : SX f c i h n τ) (hn : ¬ f i < 1000000) : SZ f c i h n τ := by
  obtain ⟨q1, q2, q3, q4, q5⟩ := q
  refine ⟨q1, by omega, fun j h1 h2 => by have := q3 j h1 h2; omega, q4, fun t h1 h2 h3 => ?_⟩
  by_cases e : t = i
  · subst e; exact absurd h3 hn
  · exact q5 t (by omega) h2 h3
theorem SY.pop {f : Nat → Int} {c i h n : Nat} {τ : Nat → Nat} (q : SY f c i h n τ) (hn : h < n) (hk : f i - i < f (τ (n - 1)) - τ (n - 1)) : SY f c i h (n - 1) τ := by
  obtain ⟨q1, q2, q3, q4, q5⟩ := q
  refine ⟨by omega, by omega, fun j h1 h2 => q3 j h1 (by omega), fun j h1 h2 => q4 j h1 (by omega), fun t h1 h2 h3 => ?_⟩
  rcases q5 t h1 h2 h3 with ⟨j, a1, a2, a3, a4⟩ | e
  · by_cases ej : j = n - 1
    · subst ej; exact Or.inr (by omega)
    · exact Or.inl ⟨j, a1, by omega, a3, a4⟩
  · exact Or.inr e
theorem SY.push {f : Nat → Int} {c i h n : Nat} {τ σ : Nat → Nat} (q : SY f c i h n τ) (hk : n = h ∨ f (τ (n - 1)) - τ (n - 1) ≤ f i - i) (hσ : σ n = i) (hτ : ∀ j, j < n → σ j = τ j) : SZ f c i h (n + 1) σ := by
  obtain ⟨q1, q2, q3, q4, q5⟩ := q
  refine ⟨by omega, by omega, fun j h1 h2 => ?_, fun j h1 h2 => ?_, fun t h1 h2 h3 => ?_⟩
  · by_cases e : j = n
    · subst e; omega
    · rw [hτ j (by omega)]; have := q3 j h1 (by omega); omega
  · by_cases e : j + 1 = n
    · rw [e, hσ, hτ j (by omega)]
      have a1 := q3 j h1 (by omega)
      rcases hk with hk | hk
      · omega
      · rw [show n - 1 = j by omega] at hk
        exact ⟨a1.1, hk⟩
    · rw [hτ j (by omega), hτ (j + 1) (by omega)]
      exact q4 j h1 (by omega)
  · by_cases e : t = i
    · subst e
      exact ⟨n, by omega, by omega, by omega, by rw [hσ]; exact Int.le_refl _⟩
    · rcases q5 t (by omega) h2 h3 with ⟨j, a1, a2, a3, a4⟩ | w
      · exact ⟨j, a1, by omega, by rw [hτ j a2]; exact a3, by rw [hτ j a2]; exact a4⟩
      · exact ⟨n, by omega, by omega, by rw [hσ]; omega, by rw [hσ]; exact w⟩
theorem SZ.mono {f : Nat → Int} {c i h n : Nat} {τ : Nat → Nat} (q : SZ f c i h n τ) : ∀ d, h + d < n → τ h + d ≤ τ (h + d) ∧ f (τ h) - τ h ≤ f (τ (h + d)) - τ (h + d)
  | 0, _ => ⟨Nat.le_refl _, Int.le_refl _⟩
  | d + 1, hd => by
    have h1 := q.mono d (by omega)
    have h2 := q.2.2.2.1 (h + d) (by omega) (by omega)
    rw [show h + (d + 1) = h + d + 1 by omega]
    omega
theorem SZ.popHead {f : Nat → Int} {c i h n : Nat} {τ : Nat → Nat} (q : SZ f c i h n τ) (hn : h < n) (hw : τ h + c < i) : SW4 f c i (h + 1) n τ := by
  have hm := q.mono
  obtain ⟨q1, q2, q3, q4, q5⟩ := q
  refine ⟨by omega, q2, fun j h1 h2 => ?_, fun j h1 h2 => q4 j (by omega) h2, fun t h1 h2 h3 => ?_⟩
  · have a1 := q3 j (by omega) h2
    have a2 := hm (j - h) (by omega)
    rw [show h + (j - h) = j by omega] at a2
    have a3 := q3 h (Nat.le_refl _) hn
    omega
  · obtain ⟨j, a1, a2, a3, a4⟩ := q5 t h1 (by omega) h3
    have : j ≠ h := fun e => by rw [e] at a3; omega
    exact ⟨j, by omega, a2, a3, a4⟩
theorem SZ.keep {f : Nat → Int} {c i h n : Nat} {τ : Nat → Nat} (q : SZ f c i h n τ) (hw : n ≤ h ∨ i ≤ τ h + c) : SW4 f c i h n τ := by
  have hm := q.mono
  obtain ⟨q1, q2, q3, q4, q5⟩ := q
  refine ⟨q1, q2, fun j h1 h2 => ?_, q4, fun t h1 h2 h3 => q5 t h1 (by omega) h3⟩
  have a1 := q3 j h1 h2
  have a2 := hm (j - h) (by omega)
  rw [show h + (j - h) = j by omega] at a2
  omega
theorem SW4.next {f : Nat → Int} {c i h n : Nat} {τ : Nat → Nat} (q : SW4 f c i h n τ) : SX f c (i + 1) h n τ := by
  obtain ⟨q1, q2, q3, q4, q5⟩ := q
  exact ⟨q1, q2, fun j h1 h2 => by have := q3 j h1 h2; omega, q4, fun t h1 h2 h3 => q5 t (by omega) (by omega) h3⟩
theorem SW4.mono {f : Nat → Int} {c i h n : Nat} {τ : Nat → Nat} (q : SW4 f c i h n τ) : ∀ d, h + d < n → f (τ h) - τ h ≤ f (τ (h + d)) - τ (h + d)
  | 0, _ => Int.le_refl _
  | d + 1, hd => by
    have h1 := q.mono d (by omega)
    have h2 := q.2.2.2.1 (h + d) (by omega) (by omega)
    rw [show h + (d + 1) = h + d + 1 by omega]
    omega
/-- a step's value, by the queue -/
theorem SW4.val {φ : Nat → Int} {v c r i h n : Nat} {τ : Nat → Nat} (hr : r < v) (q : SW4 (fun t => φ (r + t * v)) c i h n τ) {x : Int} (hx : x ≤ 1000000) : min x (stepF φ v c (r + i * v)) = if h < n then min x (φ (r + τ h * v) - τ h + i) else x := by
  obtain ⟨z, z1, z2, z3⟩ := winF_at φ v (r + i * v) c
  have hzi : z ≤ i := by
    by_cases g : z ≤ i
    · exact g
    · exfalso
      have : (i + 1) * v ≤ z * v := Nat.mul_le_mul_right v (by omega)
      rw [Nat.add_mul] at this
      omega
  have ez : r + i * v - z * v = r + (i - z) * v := by
    have : (i - z) * v + z * v = i * v := by rw [← Nat.add_mul, Nat.sub_add_cancel hzi]
    omega
  rw [ez] at z3
  have hcov := q.2.2.2.2 (i - z) (by omega) (by omega)
  have hm := q.mono
  by_cases hn : h < n
  · rw [if_pos hn]
    have hb := q.2.2.1 h (Nat.le_refl _) hn
    have e : r + i * v - (i - τ h) * v = r + τ h * v := by
      have : (i - τ h) * v + τ h * v = i * v := by rw [← Nat.add_mul, Nat.sub_add_cancel hb.1]
      omega
    have hle : (i - τ h) * v ≤ r + i * v := Nat.le_trans (Nat.mul_le_mul_right v (Nat.sub_le _ _)) (Nat.le_add_left _ _)
    have h1 := winF_le (f := φ) (v := v) (a := r + i * v) (c := c) (z := i - τ h) (by omega) hle
    rw [e] at h1
    unfold stepF
    by_cases ok : φ (r + (i - z) * v) < 1000000
    · obtain ⟨j, a1, a2, a3, a4⟩ := hcov ok
      have a5 := hm (j - h) (by omega)
      rw [show h + (j - h) = j by omega] at a5
      dsimp only at a4 a5
      omega
    · omega
  · rw [if_neg hn]
    have ok : ¬ φ (r + (i - z) * v) < 1000000 := fun ok => by
      obtain ⟨j, a1, a2, a3, a4⟩ := hcov ok
      omega
    unfold stepF
    omega
/-- how far a level is spread: all places of the lines below r, and of the line r those below x -/
def SP (mem m : Mem) (T : Nat) (P : Nat → Nat) (φ : Nat → Int) (v c s r x : Nat) : Prop := (∀ a, a ≠ T → a ≠ 205 → a ≠ 206 → m a = mem a) ∧ (∀ b, (∀ A, A ≤ s → b ≠ P A) → m T b = mem T b) ∧ ∀ A, A ≤ s → m T (P A) = if A % v < r ∨ A % v = r ∧ A < x then min (mem T (P A)) (stepF φ v c A) else mem T (P A)
theorem SP_0 (mem : Mem) (T : Nat) (P : Nat → Nat) (φ : Nat → Int) (v c s : Nat) : SP mem mem T P φ v c s 0 0 := ⟨fun _ _ _ _ => rfl, fun _ _ => rfl, fun A _ => by rw [if_neg (by omega)]⟩
theorem SP.start {mem m : Mem} {T : Nat} {P : Nat → Nat} {φ : Nat → Int} {v c s r : Nat} (h : SP mem m T P φ v c s r 0) : SP mem m T P φ v c s r (r + 0 * v) := ⟨h.1, h.2.1, fun A h1 => by
  rw [h.2.2 A h1]
  by_cases g : A % v < r
  · rw [if_pos (by omega), if_pos (by omega)]
  · rw [if_neg (by omega), if_neg (by have := Nat.mod_le A v; omega)]⟩
theorem SP.queue {mem m : Mem} {T : Nat} {P : Nat → Nat} {φ : Nat → Int} {v c s r x k j : Nat} {z : Int} (hT : T ≠ 205 ∧ T ≠ 206) (hk : k = 205 ∨ k = 206) (h : SP mem m T P φ v c s r x) : SP mem (mset m k j z) T P φ v c s r x := ⟨fun a h1 h2 h3 => by rw [← h.1 a h1 h2 h3]; funext b; exact mset_nk (by omega), fun b hb => by rw [mset_nk (by omega)]; exact h.2.1 b hb, fun A h1 => by rw [mset_nk (by omega)]; exact h.2.2 A h1⟩
theorem SP.store {mem m : Mem} {T : Nat} {P : Nat → Nat} {φ : Nat → Int} {v c s r i : Nat} (hT : T ≠ 205 ∧ T ≠ 206) (hP : ∀ A B, A ≤ s → B ≤ s → P A = P B → A = B) (hv : 0 < v) (hr : r < v) (hs : r + i * v ≤ s) (h : SP mem m T P φ v c s r (r + i * v)) : SP mem (mset m T (P (r + i * v)) (min (mem T (P (r + i * v))) (stepF φ v c (r + i * v)))) T P φ v c s r (r + (i + 1) * v) := by
  refine ⟨fun a h1 h2 h3 => by rw [← h.1 a h1 h2 h3]; funext b; exact mset_nk h1, fun b hb => by rw [mset_ne (fun q => hb _ hs q.2)]; exact h.2.1 b hb, fun A h1 => ?_⟩
  have em : (r + i * v) % v = r := by rw [Nat.add_mul_mod_self_right, Nat.mod_eq_of_lt hr]
  by_cases e : A = r + i * v
  · subst e
    rw [mset_eq, if_pos (by rw [em, Nat.add_mul]; omega)]
  · rw [mset_ne (fun q => e (hP _ _ h1 hs q.2)), h.2.2 A h1]
    by_cases g : A % v < r ∨ A % v = r ∧ A < r + i * v
    · rw [if_pos g, if_pos (by rw [Nat.add_mul]; omega)]
    · rw [if_neg g, if_neg (fun g2 => ?_)]
      rcases g2 with g2 | ⟨g2, g3⟩
      · exact g (Or.inl g2)
      · have d := Nat.div_add_mod A v
        rw [g2, Nat.mul_comm] at d
        have q : A / v < i + 1 := by
          by_cases g4 : A / v < i + 1
          · exact g4
          · exfalso
            have := Nat.mul_le_mul_right v (by omega : i + 1 ≤ A / v)
            omega
        have q2 : A / v ≠ i := fun z => e (by rw [z] at d; omega)
        have := Nat.mul_le_mul_right v (by omega : A / v + 1 ≤ i)
        rw [Nat.add_mul] at this
        exact g (Or.inr ⟨g2, by omega⟩)
theorem SP.stay {mem m : Mem} {T : Nat} {P : Nat → Nat} {φ : Nat → Int} {v c s r i : Nat} (hT : T ≠ 205 ∧ T ≠ 206) (hP : ∀ A B, A ≤ s → B ≤ s → P A = P B → A = B) (hv : 0 < v) (hr : r < v) (hs : r + i * v ≤ s) (h : SP mem m T P φ v c s r (r + i * v)) (e : min (mem T (P (r + i * v))) (stepF φ v c (r + i * v)) = mem T (P (r + i * v))) : SP mem m T P φ v c s r (r + (i + 1) * v) := by
  have k := h.store hT hP hv hr hs
  have em : (r + i * v) % v = r := by rw [Nat.add_mul_mod_self_right, Nat.mod_eq_of_lt hr]
  have e2 : m T (P (r + i * v)) = mem T (P (r + i * v)) := by rw [h.2.2 _ hs, if_neg (by rw [em]; omega)]
  rw [e, ← e2, mset_self] at k
  exact k
theorem SP.here {mem m : Mem} {T : Nat} {P : Nat → Nat} {φ : Nat → Int} {v c s r i : Nat} (hr : r < v) (hs : r + i * v ≤ s) (h : SP mem m T P φ v c s r (r + i * v)) : m T (P (r + i * v)) = mem T (P (r + i * v)) := by
  have em : (r + i * v) % v = r := by rw [Nat.add_mul_mod_self_right, Nat.mod_eq_of_lt hr]
  rw [h.2.2 _ hs, if_neg (by rw [em]; omega)]
theorem SP.next {mem m : Mem} {T : Nat} {P : Nat → Nat} {φ : Nat → Int} {v c s r x : Nat} (hx : s < x) (h : SP mem m T P φ v c s r x) : SP mem m T P φ v c s (r + 1) 0 := ⟨h.1, h.2.1, fun A h1 => by
  rw [h.2.2 A h1]
  by_cases g : A % v < r ∨ A % v = r
  · rw [if_pos (by omega), if_pos (by omega)]
  · rw [if_neg (by omega), if_neg (by omega)]⟩
theorem SP.all {mem m : Mem} {T : Nat} {P : Nat → Nat} {φ : Nat → Int} {v c s r : Nat} (hv : 0 < v) (hr : v ≤ r ∨ s < r) (h : SP mem m T P φ v c s r 0) : ∀ A, A ≤ s → m T (P A) = min (mem T (P A)) (stepF φ v c A) := fun A h1 => by
  rw [h.2.2 A h1, if_pos]
  have a1 := Nat.mod_lt A hv
  have a2 := Nat.mod_le A v
  omega
theorem way_mul {w : Int} (hw : w = 1 ∨ w = -1) (x : Int) : w = 1 ∧ w * x = x ∨ w = -1 ∧ w * x = -x := by
  rcases hw with rfl | rfl
  · exact Or.inl ⟨rfl, Int.one_mul x⟩
  · exact Or.inr ⟨rfl, by rw [Int.neg_mul, Int.one_mul]⟩
theorem dX1_spread_0 : decode cX1_spread 0 = .ok (.aload_n 0, 1) := by decide +kernel
theorem dX1_spread_1 : decode cX1_spread 1 = .ok (.getfield 9, 3) := by decide +kernel
theorem dX1_spread_4 : decode cX1_spread 4 = .ok (.iload_n 1, 1) := by decide +kernel
theorem dX1_spread_5 : decode cX1_spread 5 = .ok (.iaload, 1) := by decide +kernel
theorem dX1_spread_6 : decode cX1_spread 6 = .ok (.istore 4, 2) := by decide +kernel
theorem dX1_spread_8 : decode cX1_spread 8 = .ok (.iload 4, 2) := by decide +kernel
theorem dX1_spread_10 : decode cX1_spread 10 = .ok (.iconst 1, 1) := by decide +kernel
theorem dX1_spread_11 : decode cX1_spread 11 = .ok (.if_icmp .ge 4, 3) := by decide +kernel
theorem dX1_spread_15 : decode cX1_spread 15 = .ok (.aload_n 0, 1) := by decide +kernel
theorem dX1_spread_16 : decode cX1_spread 16 = .ok (.getfield 27, 3) := by decide +kernel
theorem dX1_spread_19 : decode cX1_spread 19 = .ok (.iload_n 1, 1) := by decide +kernel
theorem dX1_spread_20 : decode cX1_spread 20 = .ok (.aaload, 1) := by decide +kernel
theorem dX1_spread_21 : decode cX1_spread 21 = .ok (.astore 5, 2) := by decide +kernel
theorem dX1_spread_23 : decode cX1_spread 23 = .ok (.aload_n 0, 1) := by decide +kernel
theorem dX1_spread_24 : decode cX1_spread 24 = .ok (.getfield 27, 3) := by decide +kernel
theorem dX1_spread_27 : decode cX1_spread 27 = .ok (.iload_n 1, 1) := by decide +kernel
theorem dX1_spread_28 : decode cX1_spread 28 = .ok (.iconst 1, 1) := by decide +kernel
theorem dX1_spread_29 : decode cX1_spread 29 = .ok (.iadd, 1) := by decide +kernel
theorem dX1_spread_30 : decode cX1_spread 30 = .ok (.aaload, 1) := by decide +kernel
theorem dX1_spread_31 : decode cX1_spread 31 = .ok (.astore 6, 2) := by decide +kernel
theorem dX1_spread_33 : decode cX1_spread 33 = .ok (.aload_n 0, 1) := by decide +kernel
theorem dX1_spread_34 : decode cX1_spread 34 = .ok (.getfield 30, 3) := by decide +kernel
theorem dX1_spread_37 : decode cX1_spread 37 = .ok (.iload_n 1, 1) := by decide +kernel
theorem dX1_spread_38 : decode cX1_spread 38 = .ok (.iaload, 1) := by decide +kernel
theorem dX1_spread_39 : decode cX1_spread 39 = .ok (.aload_n 0, 1) := by decide +kernel
theorem dX1_spread_40 : decode cX1_spread 40 = .ok (.getfield 42, 3) := by decide +kernel
theorem dX1_spread_43 : decode cX1_spread 43 = .ok (.iadd, 1) := by decide +kernel
theorem dX1_spread_44 : decode cX1_spread 44 = .ok (.istore 7, 2) := by decide +kernel
theorem dX1_spread_46 : decode cX1_spread 46 = .ok (.aload_n 0, 1) := by decide +kernel
theorem dX1_spread_47 : decode cX1_spread 47 = .ok (.getfield 33, 3) := by decide +kernel
theorem dX1_spread_50 : decode cX1_spread 50 = .ok (.iload_n 1, 1) := by decide +kernel
theorem dX1_spread_51 : decode cX1_spread 51 = .ok (.iaload, 1) := by decide +kernel
theorem dX1_spread_52 : decode cX1_spread 52 = .ok (.aload_n 0, 1) := by decide +kernel
theorem dX1_spread_53 : decode cX1_spread 53 = .ok (.getfield 42, 3) := by decide +kernel
theorem dX1_spread_56 : decode cX1_spread 56 = .ok (.iadd, 1) := by decide +kernel
theorem dX1_spread_57 : decode cX1_spread 57 = .ok (.istore 8, 2) := by decide +kernel
theorem dX1_spread_59 : decode cX1_spread 59 = .ok (.aload_n 0, 1) := by decide +kernel
theorem dX1_spread_60 : decode cX1_spread 60 = .ok (.getfield 33, 3) := by decide +kernel
theorem dX1_spread_63 : decode cX1_spread 63 = .ok (.iload_n 1, 1) := by decide +kernel
theorem dX1_spread_64 : decode cX1_spread 64 = .ok (.iconst 1, 1) := by decide +kernel
theorem dX1_spread_65 : decode cX1_spread 65 = .ok (.iadd, 1) := by decide +kernel
theorem dX1_spread_66 : decode cX1_spread 66 = .ok (.iaload, 1) := by decide +kernel
theorem dX1_spread_67 : decode cX1_spread 67 = .ok (.aload_n 0, 1) := by decide +kernel
theorem dX1_spread_68 : decode cX1_spread 68 = .ok (.getfield 30, 3) := by decide +kernel
theorem dX1_spread_71 : decode cX1_spread 71 = .ok (.iload_n 1, 1) := by decide +kernel
theorem dX1_spread_72 : decode cX1_spread 72 = .ok (.iconst 1, 1) := by decide +kernel
theorem dX1_spread_73 : decode cX1_spread 73 = .ok (.iadd, 1) := by decide +kernel
theorem dX1_spread_74 : decode cX1_spread 74 = .ok (.iaload, 1) := by decide +kernel
theorem dX1_spread_75 : decode cX1_spread 75 = .ok (.isub, 1) := by decide +kernel
theorem dX1_spread_76 : decode cX1_spread 76 = .ok (.istore 9, 2) := by decide +kernel
theorem dX1_spread_78 : decode cX1_spread 78 = .ok (.iload_n 3, 1) := by decide +kernel
theorem dX1_spread_79 : decode cX1_spread 79 = .ok (.ifCond .le 14, 3) := by decide +kernel
theorem dX1_spread_82 : decode cX1_spread 82 = .ok (.aload_n 0, 1) := by decide +kernel
theorem dX1_spread_83 : decode cX1_spread 83 = .ok (.getfield 30, 3) := by decide +kernel
theorem dX1_spread_86 : decode cX1_spread 86 = .ok (.iload_n 1, 1) := by decide +kernel
theorem dX1_spread_87 : decode cX1_spread 87 = .ok (.iconst 1, 1) := by decide +kernel
theorem dX1_spread_88 : decode cX1_spread 88 = .ok (.iadd, 1) := by decide +kernel
theorem dX1_spread_89 : decode cX1_spread 89 = .ok (.iaload, 1) := by decide +kernel
theorem dX1_spread_90 : decode cX1_spread 90 = .ok (.goto 11, 3) := by decide +kernel
theorem dX1_spread_93 : decode cX1_spread 93 = .ok (.aload_n 0, 1) := by decide +kernel
theorem dX1_spread_94 : decode cX1_spread 94 = .ok (.getfield 33, 3) := by decide +kernel
theorem dX1_spread_97 : decode cX1_spread 97 = .ok (.iload_n 1, 1) := by decide +kernel
theorem dX1_spread_98 : decode cX1_spread 98 = .ok (.iconst 1, 1) := by decide +kernel
theorem dX1_spread_99 : decode cX1_spread 99 = .ok (.iadd, 1) := by decide +kernel
theorem dX1_spread_100 : decode cX1_spread 100 = .ok (.iaload, 1) := by decide +kernel
theorem dX1_spread_101 : decode cX1_spread 101 = .ok (.aload_n 0, 1) := by decide +kernel
theorem dX1_spread_102 : decode cX1_spread 102 = .ok (.getfield 42, 3) := by decide +kernel
theorem dX1_spread_105 : decode cX1_spread 105 = .ok (.iadd, 1) := by decide +kernel
theorem dX1_spread_106 : decode cX1_spread 106 = .ok (.istore 10, 2) := by decide +kernel
theorem dX1_spread_108 : decode cX1_spread 108 = .ok (.iconst 0, 1) := by decide +kernel
theorem dX1_spread_109 : decode cX1_spread 109 = .ok (.istore 11, 2) := by decide +kernel
theorem dX1_spread_111 : decode cX1_spread 111 = .ok (.iload 11, 2) := by decide +kernel
theorem dX1_spread_113 : decode cX1_spread 113 = .ok (.iload 4, 2) := by decide +kernel
theorem dX1_spread_115 : decode cX1_spread 115 = .ok (.if_icmp .ge 204, 3) := by decide +kernel
theorem dX1_spread_118 : decode cX1_spread 118 = .ok (.iload 11, 2) := by decide +kernel
theorem dX1_spread_120 : decode cX1_spread 120 = .ok (.iload 9, 2) := by decide +kernel
theorem dX1_spread_122 : decode cX1_spread 122 = .ok (.if_icmp .gt 197, 3) := by decide +kernel
theorem dX1_spread_125 : decode cX1_spread 125 = .ok (.iconst 0, 1) := by decide +kernel
theorem dX1_spread_126 : decode cX1_spread 126 = .ok (.istore 12, 2) := by decide +kernel
theorem dX1_spread_128 : decode cX1_spread 128 = .ok (.iconst 0, 1) := by decide +kernel
theorem dX1_spread_129 : decode cX1_spread 129 = .ok (.istore 13, 2) := by decide +kernel
theorem dX1_spread_131 : decode cX1_spread 131 = .ok (.iconst 0, 1) := by decide +kernel
theorem dX1_spread_132 : decode cX1_spread 132 = .ok (.istore 14, 2) := by decide +kernel
theorem dX1_spread_134 : decode cX1_spread 134 = .ok (.iload 11, 2) := by decide +kernel
theorem dX1_spread_136 : decode cX1_spread 136 = .ok (.istore 15, 2) := by decide +kernel
theorem dX1_spread_138 : decode cX1_spread 138 = .ok (.iload 15, 2) := by decide +kernel
theorem dX1_spread_140 : decode cX1_spread 140 = .ok (.iload 9, 2) := by decide +kernel
theorem dX1_spread_142 : decode cX1_spread 142 = .ok (.if_icmp .gt 171, 3) := by decide +kernel
theorem dX1_spread_145 : decode cX1_spread 145 = .ok (.iload 10, 2) := by decide +kernel
theorem dX1_spread_147 : decode cX1_spread 147 = .ok (.iload_n 3, 1) := by decide +kernel
theorem dX1_spread_148 : decode cX1_spread 148 = .ok (.iload 15, 2) := by decide +kernel
theorem dX1_spread_150 : decode cX1_spread 150 = .ok (.imul, 1) := by decide +kernel
theorem dX1_spread_151 : decode cX1_spread 151 = .ok (.iadd, 1) := by decide +kernel
theorem dX1_spread_152 : decode cX1_spread 152 = .ok (.istore 16, 2) := by decide +kernel
theorem dX1_spread_154 : decode cX1_spread 154 = .ok (.iload 16, 2) := by decide +kernel
theorem dX1_spread_156 : decode cX1_spread 156 = .ok (.iload 7, 2) := by decide +kernel
theorem dX1_spread_158 : decode cX1_spread 158 = .ok (.if_icmp .lt 78, 3) := by decide +kernel
theorem dX1_spread_161 : decode cX1_spread 161 = .ok (.iload 16, 2) := by decide +kernel
theorem dX1_spread_163 : decode cX1_spread 163 = .ok (.iload 8, 2) := by decide +kernel
theorem dX1_spread_165 : decode cX1_spread 165 = .ok (.if_icmp .gt 71, 3) := by decide +kernel
theorem dX1_spread_168 : decode cX1_spread 168 = .ok (.aload 5, 2) := by decide +kernel
theorem dX1_spread_170 : decode cX1_spread 170 = .ok (.iload 16, 2) := by decide +kernel
theorem dX1_spread_172 : decode cX1_spread 172 = .ok (.iaload, 1) := by decide +kernel
theorem dX1_spread_173 : decode cX1_spread 173 = .ok (.ldc 78, 2) := by decide +kernel
theorem dX1_spread_175 : decode cX1_spread 175 = .ok (.if_icmp .ge 61, 3) := by decide +kernel
theorem dX1_spread_178 : decode cX1_spread 178 = .ok (.aload 5, 2) := by decide +kernel
theorem dX1_spread_180 : decode cX1_spread 180 = .ok (.iload 16, 2) := by decide +kernel
theorem dX1_spread_182 : decode cX1_spread 182 = .ok (.iaload, 1) := by decide +kernel
theorem dX1_spread_183 : decode cX1_spread 183 = .ok (.iload 14, 2) := by decide +kernel
theorem dX1_spread_185 : decode cX1_spread 185 = .ok (.isub, 1) := by decide +kernel
theorem dX1_spread_186 : decode cX1_spread 186 = .ok (.istore 17, 2) := by decide +kernel
theorem dX1_spread_188 : decode cX1_spread 188 = .ok (.iload 13, 2) := by decide +kernel
theorem dX1_spread_190 : decode cX1_spread 190 = .ok (.iload 12, 2) := by decide +kernel
theorem dX1_spread_192 : decode cX1_spread 192 = .ok (.if_icmp .le 23, 3) := by decide +kernel
theorem dX1_spread_195 : decode cX1_spread 195 = .ok (.aload_n 0, 1) := by decide +kernel
theorem dX1_spread_196 : decode cX1_spread 196 = .ok (.getfield 39, 3) := by decide +kernel
theorem dX1_spread_199 : decode cX1_spread 199 = .ok (.iload 13, 2) := by decide +kernel
theorem dX1_spread_201 : decode cX1_spread 201 = .ok (.iconst 1, 1) := by decide +kernel
theorem dX1_spread_202 : decode cX1_spread 202 = .ok (.isub, 1) := by decide +kernel
theorem dX1_spread_203 : decode cX1_spread 203 = .ok (.iaload, 1) := by decide +kernel
theorem dX1_spread_204 : decode cX1_spread 204 = .ok (.iload 17, 2) := by decide +kernel
theorem dX1_spread_206 : decode cX1_spread 206 = .ok (.if_icmp .le 9, 3) := by decide +kernel
theorem dX1_spread_209 : decode cX1_spread 209 = .ok (.iinc 13 (-1), 3) := by decide +kernel
theorem dX1_spread_212 : decode cX1_spread 212 = .ok (.goto (-24), 3) := by decide +kernel
theorem dX1_spread_215 : decode cX1_spread 215 = .ok (.aload_n 0, 1) := by decide +kernel
theorem dX1_spread_216 : decode cX1_spread 216 = .ok (.getfield 36, 3) := by decide +kernel
theorem dX1_spread_219 : decode cX1_spread 219 = .ok (.iload 13, 2) := by decide +kernel
theorem dX1_spread_221 : decode cX1_spread 221 = .ok (.iload 14, 2) := by decide +kernel
theorem dX1_spread_223 : decode cX1_spread 223 = .ok (.iastore, 1) := by decide +kernel
theorem dX1_spread_224 : decode cX1_spread 224 = .ok (.aload_n 0, 1) := by decide +kernel
theorem dX1_spread_225 : decode cX1_spread 225 = .ok (.getfield 39, 3) := by decide +kernel
theorem dX1_spread_228 : decode cX1_spread 228 = .ok (.iload 13, 2) := by decide +kernel
theorem dX1_spread_230 : decode cX1_spread 230 = .ok (.iload 17, 2) := by decide +kernel
theorem dX1_spread_232 : decode cX1_spread 232 = .ok (.iastore, 1) := by decide +kernel
theorem dX1_spread_233 : decode cX1_spread 233 = .ok (.iinc 13 1, 3) := by decide +kernel
theorem dX1_spread_236 : decode cX1_spread 236 = .ok (.iload 13, 2) := by decide +kernel
theorem dX1_spread_238 : decode cX1_spread 238 = .ok (.iload 12, 2) := by decide +kernel
theorem dX1_spread_240 : decode cX1_spread 240 = .ok (.if_icmp .le 20, 3) := by decide +kernel
theorem dX1_spread_243 : decode cX1_spread 243 = .ok (.aload_n 0, 1) := by decide +kernel
theorem dX1_spread_244 : decode cX1_spread 244 = .ok (.getfield 36, 3) := by decide +kernel
theorem dX1_spread_247 : decode cX1_spread 247 = .ok (.iload 12, 2) := by decide +kernel
theorem dX1_spread_249 : decode cX1_spread 249 = .ok (.iaload, 1) := by decide +kernel
theorem dX1_spread_250 : decode cX1_spread 250 = .ok (.iload 14, 2) := by decide +kernel
theorem dX1_spread_252 : decode cX1_spread 252 = .ok (.iload_n 2, 1) := by decide +kernel
theorem dX1_spread_253 : decode cX1_spread 253 = .ok (.isub, 1) := by decide +kernel
theorem dX1_spread_254 : decode cX1_spread 254 = .ok (.if_icmp .ge 6, 3) := by decide +kernel
theorem dX1_spread_257 : decode cX1_spread 257 = .ok (.iinc 12 1, 3) := by decide +kernel
theorem dX1_spread_260 : decode cX1_spread 260 = .ok (.iload 13, 2) := by decide +kernel
theorem dX1_spread_262 : decode cX1_spread 262 = .ok (.iload 12, 2) := by decide +kernel
theorem dX1_spread_264 : decode cX1_spread 264 = .ok (.if_icmp .le 36, 3) := by decide +kernel
theorem dX1_spread_267 : decode cX1_spread 267 = .ok (.aload_n 0, 1) := by decide +kernel
theorem dX1_spread_268 : decode cX1_spread 268 = .ok (.getfield 39, 3) := by decide +kernel
theorem dX1_spread_271 : decode cX1_spread 271 = .ok (.iload 12, 2) := by decide +kernel
theorem dX1_spread_273 : decode cX1_spread 273 = .ok (.iaload, 1) := by decide +kernel
theorem dX1_spread_274 : decode cX1_spread 274 = .ok (.iload 14, 2) := by decide +kernel
theorem dX1_spread_276 : decode cX1_spread 276 = .ok (.iadd, 1) := by decide +kernel
theorem dX1_spread_277 : decode cX1_spread 277 = .ok (.aload 6, 2) := by decide +kernel
theorem dX1_spread_279 : decode cX1_spread 279 = .ok (.iload 16, 2) := by decide +kernel
theorem dX1_spread_281 : decode cX1_spread 281 = .ok (.iaload, 1) := by decide +kernel
theorem dX1_spread_282 : decode cX1_spread 282 = .ok (.if_icmp .ge 18, 3) := by decide +kernel
theorem dX1_spread_285 : decode cX1_spread 285 = .ok (.aload 6, 2) := by decide +kernel
theorem dX1_spread_287 : decode cX1_spread 287 = .ok (.iload 16, 2) := by decide +kernel
theorem dX1_spread_289 : decode cX1_spread 289 = .ok (.aload_n 0, 1) := by decide +kernel
theorem dX1_spread_290 : decode cX1_spread 290 = .ok (.getfield 39, 3) := by decide +kernel
theorem dX1_spread_293 : decode cX1_spread 293 = .ok (.iload 12, 2) := by decide +kernel
theorem dX1_spread_295 : decode cX1_spread 295 = .ok (.iaload, 1) := by decide +kernel
theorem dX1_spread_296 : decode cX1_spread 296 = .ok (.iload 14, 2) := by decide +kernel
theorem dX1_spread_298 : decode cX1_spread 298 = .ok (.iadd, 1) := by decide +kernel
theorem dX1_spread_299 : decode cX1_spread 299 = .ok (.iastore, 1) := by decide +kernel
theorem dX1_spread_300 : decode cX1_spread 300 = .ok (.iinc 14 1, 3) := by decide +kernel
theorem dX1_spread_303 : decode cX1_spread 303 = .ok (.iload 15, 2) := by decide +kernel
theorem dX1_spread_305 : decode cX1_spread 305 = .ok (.iload 4, 2) := by decide +kernel
theorem dX1_spread_307 : decode cX1_spread 307 = .ok (.iadd, 1) := by decide +kernel
theorem dX1_spread_308 : decode cX1_spread 308 = .ok (.istore 15, 2) := by decide +kernel
theorem dX1_spread_310 : decode cX1_spread 310 = .ok (.goto (-172), 3) := by decide +kernel
theorem dX1_spread_313 : decode cX1_spread 313 = .ok (.iinc 11 1, 3) := by decide +kernel
theorem dX1_spread_316 : decode cX1_spread 316 = .ok (.goto (-205), 3) := by decide +kernel
theorem dX1_spread_319 : decode cX1_spread 319 = .ok (.return_, 1) := by decide +kernel
set_option maxHeartbeats 4000000 in
set_option maxRecDepth 100000 in
theorem m_X1_spread (l : Launch) (L : Int) (c : Int) (w : Int) (mem : Mem) (hL : 0 ≤ L ∧ L < 8) (hc : 1 ≤ c ∧ c ≤ 200) (hw : w = 1 ∨ w = -1) (hO : 0 ≤ mem 186 4 ∧ mem 186 4 ≤ 2000) (hv : 1 ≤ mem 190 L.toNat ∧ mem 190 L.toNat ≤ 500) (hr : -(mem 186 4) ≤ mem 203 (L + 1).toNat ∧ mem 203 (L + 1).toNat ≤ mem 203 L.toNat ∧ mem 203 L.toNat ≤ 0 ∧ 0 ≤ mem 204 L.toNat ∧ mem 204 L.toNat ≤ mem 204 (L + 1).toNat ∧ mem 204 (L + 1).toNat + mem 186 4 ≤ 4000) (hf : ∀ s : Int, mem 203 L.toNat ≤ s → s ≤ mem 204 L.toNat → 0 ≤ mem (194 + L.toNat) (s + mem 186 4).toNat ∧ mem (194 + L.toNat) (s + mem 186 4).toNat ≤ 1000000) (ht : ∀ s : Int, mem 203 (L + 1).toNat ≤ s → s ≤ mem 204 (L + 1).toNat → 0 ≤ mem (194 + (L + 1).toNat) (s + mem 186 4).toNat ∧ mem (194 + (L + 1).toNat) (s + mem 186 4).toNat ≤ 1000000) : Ret shp l yX1_spread cX1_spread 18 none 0 [pR 186, pI L, pI c, pI w] mem (fun rv mv => rv = none ∧ (∀ a, a ≠ (194 + (L + 1).toNat) → a ≠ 205 → a ≠ 206 → mv a = mem a) ∧ (∀ b, (∀ A, A ≤ (mem 204 (L + 1).toNat - mem 203 (L + 1).toNat).toNat → b ≠ posS (mem 186 4) (if w = 1 then mem 203 (L + 1).toNat else mem 204 (L + 1).toNat) w A) → mv (194 + (L + 1).toNat) b = mem (194 + (L + 1).toNat) b) ∧ ∀ A : Nat, A ≤ (mem 204 (L + 1).toNat - mem 203 (L + 1).toNat).toNat → mv (194 + (L + 1).toNat) (posS (mem 186 4) (if w = 1 then mem 203 (L + 1).toNat else mem 204 (L + 1).toNat) w A) = min (mem (194 + (L + 1).toNat) (posS (mem 186 4) (if w = 1 then mem 203 (L + 1).toNat else mem 204 (L + 1).toNat) w A)) (stepF (phiS (mem (194 + L.toNat)) (mem 186 4) (mem 203 L.toNat) (mem 204 L.toNat) (if w = 1 then mem 203 (L + 1).toNat else mem 204 (L + 1).toNat) w) (mem 190 L.toNat).toNat c.toNat A)) := by
  refine ret_of (by decide +kernel) (Nat.le_of_ble_eq_true rfl) (fun X hX F G => ?_)
  show Ok shp X 18 0 [(0, pR 186), (1, pI L), (2, pI c), (3, pI w)] [] mem
  obtain ⟨φ, hφ⟩ : ∃ x, x = phiS (mem (194 + L.toNat)) (mem 186 4) (mem 203 L.toNat) (mem 204 L.toNat) (if w = 1 then mem 203 (L + 1).toNat else mem 204 (L + 1).toNat) w := ⟨_, rfl⟩
  obtain ⟨P, hPe⟩ : ∃ x, x = posS (mem 186 4) (if w = 1 then mem 203 (L + 1).toNat else mem 204 (L + 1).toNat) w := ⟨_, rfl⟩
  obtain ⟨bs, hbs⟩ : ∃ x : Int, x = (if w = 1 then mem 203 (L + 1).toNat else mem 204 (L + 1).toNat) := ⟨_, rfl⟩
  have hbs2 : w = 1 ∧ bs = mem 203 (L + 1).toNat ∨ w = -1 ∧ bs = mem 204 (L + 1).toNat := by rcases hw with g | g; (left; refine ⟨g, ?_⟩; rw [hbs, if_pos g]); (right; refine ⟨g, ?_⟩; rw [hbs, if_neg (by omega)])
  have hPA : ∀ A : Nat, A ≤ (mem 204 (L + 1).toNat - mem 203 (L + 1).toNat).toNat → (P A : Int) = bs + w * A + mem 186 4 ∧ mem 203 (L + 1).toNat ≤ bs + w * A ∧ bs + w * A ≤ mem 204 (L + 1).toNat := fun A hA => by
    have q := way_mul hw (A : Int)
    have e : P A = (bs + w * A + mem 186 4).toNat := by rw [hPe, hbs]; rfl
    omega
  have hPi : ∀ A B, A ≤ (mem 204 (L + 1).toNat - mem 203 (L + 1).toNat).toNat → B ≤ (mem 204 (L + 1).toNat - mem 203 (L + 1).toNat).toNat → P A = P B → A = B := fun A B hA hB e => by
    have q := way_mul hw (A : Int)
    have q2 := way_mul hw (B : Int)
    have a1 := (hPA A hA).1
    have a2 := (hPA B hB).1
    omega
  have hφA : ∀ A : Nat, φ A = if mem 203 L.toNat ≤ bs + w * A ∧ bs + w * A ≤ mem 204 L.toNat then mem (194 + L.toNat) (bs + w * A + mem 186 4).toNat else 1000000 := fun A => by rw [hφ, hbs]; rfl
  have hφb : ∀ A : Nat, 0 ≤ φ A ∧ φ A ≤ 1000000 := fun A => by
    rw [hφA A]
    by_cases g : mem 203 L.toNat ≤ bs + w * A ∧ bs + w * A ≤ mem 204 L.toNat
    · rw [if_pos g]; exact hf _ g.1 g.2
    · rw [if_neg g]; omega
  have hTn : (194 + (L + 1).toNat) ≠ 205 ∧ (194 + (L + 1).toNat) ≠ 206 := by omega
  refine ok_aload_n F dX1_spread_0 0 rfl ?_
  refine ok_getr F dX1_spread_1 kF_X1_9 sh_186 rfl ?_
  refine ok_iload_n F dX1_spread_4 1 rfl ?_
  refine ok_iald (v := mem 190 L.toNat) F dX1_spread_5 sh_190 (by first | decide | assumption) (by omega) (by omega) rfl ?_
  refine ok_istore (lv' := [(4, pI (mem 190 L.toNat)), (0, pR 186), (1, pI L), (2, pI c), (3, pI w)]) F dX1_spread_6 (by decide) rfl ?_
  refine ok_iload F dX1_spread_8 0 rfl ?_
  refine ok_iconst F dX1_spread_10 ?_
  refine ok_icmp_ge F 15 dX1_spread_11 (by decide) (by omega) (by omega) (fun c_1 => ?_) (fun c_1 => ?_)
  · refine ok_aload_n F dX1_spread_15 1 rfl ?_
    refine ok_getr F dX1_spread_16 kF_X1_27 sh_186 rfl ?_
    refine ok_iload_n F dX1_spread_19 2 rfl ?_
    refine ok_aald (r := (194 + L.toNat)) F dX1_spread_20 sh_193 rfl (by first | exact Or.inl rfl | exact Or.inr rfl) (by decide) (by omega) (show _ < (9 : Int) from (by omega)) (lvAt (by omega)) ?_
    refine ok_astore (lv' := [(5, pR (194 + L.toNat)), (4, pI (mem 190 L.toNat)), (0, pR 186), (1, pI L), (2, pI c), (3, pI w)]) F dX1_spread_21 (by decide) rfl ?_
    refine ok_aload_n F dX1_spread_23 2 rfl ?_
    refine ok_getr F dX1_spread_24 kF_X1_27 sh_186 rfl ?_
    refine ok_iload_n F dX1_spread_27 3 rfl ?_
    refine ok_iconst F dX1_spread_28 ?_
    refine ok_iadd F dX1_spread_29 ?_
    refine ok_aald (r := (194 + (L + 1).toNat)) F dX1_spread_30 sh_193 rfl (by first | exact Or.inl rfl | exact Or.inr rfl) (by decide) (by omega) (show _ < (9 : Int) from (by omega)) (lvAt (by omega)) ?_
    refine ok_astore (lv' := [(6, pR (194 + (L + 1).toNat)), (5, pR (194 + L.toNat)), (4, pI (mem 190 L.toNat)), (0, pR 186), (1, pI L), (2, pI c), (3, pI w)]) F dX1_spread_31 (by decide) rfl ?_
    refine ok_aload_n F dX1_spread_33 3 rfl ?_
    refine ok_getr F dX1_spread_34 kF_X1_30 sh_186 rfl ?_
    refine ok_iload_n F dX1_spread_37 4 rfl ?_
    refine ok_iald (v := mem 203 L.toNat) F dX1_spread_38 sh_203 (by first | decide | assumption) (by omega) (by omega) rfl ?_
    refine ok_aload_n F dX1_spread_39 3 rfl ?_
    refine ok_getf (v := mem 186 4) F dX1_spread_40 kF_X1_42 sh_186 rfl rfl ?_
    refine ok_iadd F dX1_spread_43 ?_
    refine ok_istore (lv' := [(7, pI ((mem 203 L.toNat) + (mem 186 4))), (6, pR (194 + (L + 1).toNat)), (5, pR (194 + L.toNat)), (4, pI (mem 190 L.toNat)), (0, pR 186), (1, pI L), (2, pI c), (3, pI w)]) F dX1_spread_44 (by decide) rfl ?_
    refine ok_aload_n F dX1_spread_46 4 rfl ?_
    refine ok_getr F dX1_spread_47 kF_X1_33 sh_186 rfl ?_
    refine ok_iload_n F dX1_spread_50 5 rfl ?_
    refine ok_iald (v := mem 204 L.toNat) F dX1_spread_51 sh_204 (by first | decide | assumption) (by omega) (by omega) rfl ?_
    refine ok_aload_n F dX1_spread_52 4 rfl ?_
    refine ok_getf (v := mem 186 4) F dX1_spread_53 kF_X1_42 sh_186 rfl rfl ?_
    refine ok_iadd F dX1_spread_56 ?_
    refine ok_istore (lv' := [(8, pI ((mem 204 L.toNat) + (mem 186 4))), (7, pI ((mem 203 L.toNat) + (mem 186 4))), (6, pR (194 + (L + 1).toNat)), (5, pR (194 + L.toNat)), (4, pI (mem 190 L.toNat)), (0, pR 186), (1, pI L), (2, pI c), (3, pI w)]) F dX1_spread_57 (by decide) rfl ?_
    refine ok_aload_n F dX1_spread_59 5 rfl ?_
    refine ok_getr F dX1_spread_60 kF_X1_33 sh_186 rfl ?_
    refine ok_iload_n F dX1_spread_63 6 rfl ?_
    refine ok_iconst F dX1_spread_64 ?_
    refine ok_iadd F dX1_spread_65 ?_
    refine ok_iald (v := mem 204 ((L + 1).toNat)) F dX1_spread_66 sh_204 (by first | decide | assumption) (by omega) (by omega) rfl ?_
    refine ok_aload_n F dX1_spread_67 5 rfl ?_
    refine ok_getr F dX1_spread_68 kF_X1_30 sh_186 rfl ?_
    refine ok_iload_n F dX1_spread_71 6 rfl ?_
    refine ok_iconst F dX1_spread_72 ?_
    refine ok_iadd F dX1_spread_73 ?_
    refine ok_iald (v := mem 203 ((L + 1).toNat)) F dX1_spread_74 sh_203 (by first | decide | assumption) (by omega) (by omega) rfl ?_
    refine ok_isub F dX1_spread_75 ?_
    refine ok_istore (lv' := [(9, pI ((mem 204 ((L + 1).toNat)) - (mem 203 ((L + 1).toNat)))), (8, pI ((mem 204 L.toNat) + (mem 186 4))), (7, pI ((mem 203 L.toNat) + (mem 186 4))), (6, pR (194 + (L + 1).toNat)), (5, pR (194 + L.toNat)), (4, pI (mem 190 L.toNat)), (0, pR 186), (1, pI L), (2, pI c), (3, pI w)]) F dX1_spread_76 (by decide) rfl ?_
    have hJ_108 : ∀ (V : Int) (fl : Int) (fh : Int) (sp : Int) (fs : Int), (V = mem 190 L.toNat ∧ fl = mem 203 L.toNat + mem 186 4 ∧ fh = mem 204 L.toNat + mem 186 4 ∧ sp = mem 204 (L + 1).toNat - mem 203 (L + 1).toNat ∧ fs = bs + mem 186 4) → Ok shp X 18 108 [(0, pR 186), (1, pI L), (2, pI c), (3, pI w), (4, pI V), (5, pR (194 + L.toNat)), (6, pR (194 + (L + 1).toNat)), (7, pI fl), (8, pI fh), (9, pI sp), (10, pI fs)] [] mem := by
      intro V fl fh sp fs hI_108
      obtain ⟨hV, hfl, hfh, hsp, hfs⟩ := hI_108
      have hv0 : 0 < V.toNat := by omega
      refine ok_iconst F dX1_spread_108 ?_
      refine ok_istore (lv' := [(11, pI 0), (0, pR 186), (1, pI L), (2, pI c), (3, pI w), (4, pI V), (5, pR (194 + L.toNat)), (6, pR (194 + (L + 1).toNat)), (7, pI fl), (8, pI fh), (9, pI sp), (10, pI fs)]) F dX1_spread_109 (by decide) rfl ?_
      have hL_111 : ∀ (n_111 : Nat) (ln : Int) (m : Mem), (0 ≤ ln ∧ ln ≤ V ∧ SP mem m (194 + (L + 1).toNat) P φ V.toNat c.toNat (mem 204 (L + 1).toNat - mem 203 (L + 1).toNat).toNat ln.toNat 0) → (V - ln).toNat = n_111 → Ok shp X 18 111 [(0, pR 186), (1, pI L), (2, pI c), (3, pI w), (4, pI V), (5, pR (194 + L.toNat)), (6, pR (194 + (L + 1).toNat)), (7, pI fl), (8, pI fh), (9, pI sp), (10, pI fs), (11, pI ln)] [] m := by
        intro n_111
        induction n_111 using Nat.strongRecOn with
        | _ n_111 ih_111 =>
          intro ln m hI_111 hn_111
          obtain ⟨hl0, hl1, hSP0⟩ := hI_111
          refine ok_iload F dX1_spread_111 11 rfl ?_
          refine ok_iload F dX1_spread_113 4 rfl ?_
          refine ok_icmp_ge F 319 dX1_spread_115 (by decide) (by omega) (by omega) (fun c_2 => ?_) (fun c_2 => ?_)
          · refine ok_vret F G dX1_spread_319 ?_
            refine ⟨rfl, hSP0.1, ?_, ?_⟩
            · rw [← hPe]; exact hSP0.2.1
            · rw [← hφ, ← hPe, ← hV]; exact hSP0.all hv0 (by omega)
          · refine ok_iload F dX1_spread_118 11 rfl ?_
            refine ok_iload F dX1_spread_120 9 rfl ?_
            refine ok_icmp_gt F 319 dX1_spread_122 (by decide) (by omega) (by omega) (fun c_3 => ?_) (fun c_3 => ?_)
            · refine ok_vret F G dX1_spread_319 ?_
              refine ⟨rfl, hSP0.1, ?_, ?_⟩
              · rw [← hPe]; exact hSP0.2.1
              · rw [← hφ, ← hPe, ← hV]; exact hSP0.all hv0 (by omega)
            · refine ok_iconst F dX1_spread_125 ?_
              refine ok_istore (lv' := [(12, pI 0), (0, pR 186), (1, pI L), (2, pI c), (3, pI w), (4, pI V), (5, pR (194 + L.toNat)), (6, pR (194 + (L + 1).toNat)), (7, pI fl), (8, pI fh), (9, pI sp), (10, pI fs), (11, pI ln)]) F dX1_spread_126 (by decide) rfl ?_
              refine ok_iconst F dX1_spread_128 ?_
              refine ok_istore (lv' := [(13, pI 0), (12, pI 0), (0, pR 186), (1, pI L), (2, pI c), (3, pI w), (4, pI V), (5, pR (194 + L.toNat)), (6, pR (194 + (L + 1).toNat)), (7, pI fl), (8, pI fh), (9, pI sp), (10, pI fs), (11, pI ln)]) F dX1_spread_129 (by decide) rfl ?_
              refine ok_iconst F dX1_spread_131 ?_
              refine ok_istore (lv' := [(14, pI 0), (13, pI 0), (12, pI 0), (0, pR 186), (1, pI L), (2, pI c), (3, pI w), (4, pI V), (5, pR (194 + L.toNat)), (6, pR (194 + (L + 1).toNat)), (7, pI fl), (8, pI fh), (9, pI sp), (10, pI fs), (11, pI ln)]) F dX1_spread_132 (by decide) rfl ?_
              refine ok_iload F dX1_spread_134 14 rfl ?_
              refine ok_istore (lv' := [(15, pI ln), (14, pI 0), (13, pI 0), (12, pI 0), (0, pR 186), (1, pI L), (2, pI c), (3, pI w), (4, pI V), (5, pR (194 + L.toNat)), (6, pR (194 + (L + 1).toNat)), (7, pI fl), (8, pI fh), (9, pI sp), (10, pI fs), (11, pI ln)]) F dX1_spread_136 (by decide) rfl ?_
              have hL_138 : ∀ (n_138 : Nat) (hd : Int) (tl : Int) (st : Int) (al : Int) (m2 : Mem), (∃ (i h n : Nat) (τ : Nat → Nat), hd = h ∧ tl = n ∧ st = i ∧ al = ((ln.toNat + i * V.toNat) : Nat) ∧ SX (fun t => φ (ln.toNat + t * V.toNat)) c.toNat i h n τ ∧ (∀ j, h ≤ j → j < n → m2 205 j = τ j ∧ m2 206 j = φ (ln.toNat + τ j * V.toNat) - τ j) ∧ SP mem m2 (194 + (L + 1).toNat) P φ V.toNat c.toNat (mem 204 (L + 1).toNat - mem 203 (L + 1).toNat).toNat ln.toNat ((ln.toNat + i * V.toNat)) ∧ al ≤ 5000) → (sp + 1 - al).toNat = n_138 → Ok shp X 18 138 [(0, pR 186), (1, pI L), (2, pI c), (3, pI w), (4, pI V), (5, pR (194 + L.toNat)), (6, pR (194 + (L + 1).toNat)), (7, pI fl), (8, pI fh), (9, pI sp), (10, pI fs), (11, pI ln), (12, pI hd), (13, pI tl), (14, pI st), (15, pI al)] [] m2 := by
                intro n_138
                induction n_138 using Nat.strongRecOn with
                | _ n_138 ih_138 =>
                  intro hd tl st al m2 hI_138 hn_138
                  obtain ⟨i, h, n, τ, hh, hnn, hst, ha, hSX, hq, hSP, ha5⟩ := hI_138
                  have hx1 := hSX.1
                  have hx2 := hSX.2.1
                  refine ok_iload F dX1_spread_138 15 rfl ?_
                  refine ok_iload F dX1_spread_140 9 rfl ?_
                  refine ok_icmp_gt F 313 dX1_spread_142 (by decide) (by omega) (by omega) (fun c_4 => ?_) (fun c_4 => ?_)
                  · refine ok_iinc (lv' := [(11, pI (ln + 1)), (0, pR 186), (1, pI L), (2, pI c), (3, pI w), (4, pI V), (5, pR (194 + L.toNat)), (6, pR (194 + (L + 1).toNat)), (7, pI fl), (8, pI fh), (9, pI sp), (10, pI fs), (12, pI hd), (13, pI tl), (14, pI st), (15, pI al)]) F dX1_spread_313 11 rfl (by decide) rfl ?_
                    refine ok_goto F 111 dX1_spread_316 (by decide) ?_
                    refine ok_lvp [1, 2, 3, 4, 5, 6, 7, 8, 9, 10, 11, 0] (lv' := [(0, pR 186), (1, pI L), (2, pI c), (3, pI w), (4, pI V), (5, pR (194 + L.toNat)), (6, pR (194 + (L + 1).toNat)), (7, pI fl), (8, pI fh), (9, pI sp), (10, pI fs), (11, pI (ln + 1))]) rfl ?_
                    refine ih_111 _ ?_ (ln + 1) m2 ?_ rfl
                    · omega
                    · exact ⟨by omega, by omega, by rw [show (ln + 1).toNat = ln.toNat + 1 by omega]; exact hSP.next (by omega)⟩
                  · have hiM : (ln.toNat + i * V.toNat) ≤ (mem 204 (L + 1).toNat - mem 203 (L + 1).toNat).toNat := by omega
                    have hii : i ≤ i * V.toNat := Nat.le_mul_of_pos_right i hv0
                    obtain ⟨hp1, hp2, hp3⟩ := hPA (ln.toNat + i * V.toNat) hiM
                    have hwa : w * al = w * (((ln.toNat + i * V.toNat) : Nat) : Int) := by rw [ha]
                    have hidx : (fs + w * al).toNat = P (ln.toNat + i * V.toNat) := by omega
                    have hxT : mem (194 + (L + 1).toNat) (P (ln.toNat + i * V.toNat)) ≤ 1000000 := by
                      have q := ht (bs + w * (((ln.toNat + i * V.toNat) : Nat) : Int)) hp2 hp3
                      rw [show (bs + w * (((ln.toNat + i * V.toNat) : Nat) : Int) + mem 186 4).toNat = P (ln.toNat + i * V.toNat) by omega] at q
                      exact q.2
                    have hxT0 : 0 ≤ mem (194 + (L + 1).toNat) (P (ln.toNat + i * V.toNat)) := by
                      have q := ht (bs + w * (((ln.toNat + i * V.toNat) : Nat) : Int)) hp2 hp3
                      rw [show (bs + w * (((ln.toNat + i * V.toNat) : Nat) : Int) + mem 186 4).toNat = P (ln.toNat + i * V.toNat) by omega] at q
                      exact q.1
                    have hφi := hφb (ln.toNat + i * V.toNat)
                    refine ok_iload F dX1_spread_145 10 rfl ?_
                    refine ok_iload_n F dX1_spread_147 3 rfl ?_
                    refine ok_iload F dX1_spread_148 15 rfl ?_
                    refine ok_imul F dX1_spread_150 ?_
                    refine ok_iadd F dX1_spread_151 ?_
                    refine ok_istore (lv' := [(16, pI (fs + (w * al))), (0, pR 186), (1, pI L), (2, pI c), (3, pI w), (4, pI V), (5, pR (194 + L.toNat)), (6, pR (194 + (L + 1).toNat)), (7, pI fl), (8, pI fh), (9, pI sp), (10, pI fs), (11, pI ln), (12, pI hd), (13, pI tl), (14, pI st), (15, pI al)]) F dX1_spread_152 (by decide) rfl ?_
                    have hJ_236 : ∀ (tl3 : Int) (m3 : Mem), (∃ (n3 : Nat) (σ : Nat → Nat), tl3 = n3 ∧ SZ (fun t => φ (ln.toNat + t * V.toNat)) c.toNat i h n3 σ ∧ (∀ j, h ≤ j → j < n3 → m3 205 j = σ j ∧ m3 206 j = φ (ln.toNat + σ j * V.toNat) - σ j) ∧ SP mem m3 (194 + (L + 1).toNat) P φ V.toNat c.toNat (mem 204 (L + 1).toNat - mem 203 (L + 1).toNat).toNat ln.toNat ((ln.toNat + i * V.toNat))) → Ok shp X 18 236 [(0, pR 186), (1, pI L), (2, pI c), (3, pI w), (4, pI V), (5, pR (194 + L.toNat)), (6, pR (194 + (L + 1).toNat)), (7, pI fl), (8, pI fh), (9, pI sp), (10, pI fs), (11, pI ln), (12, pI hd), (13, pI tl3), (14, pI st), (15, pI al), (16, pI (fs + (w * al)))] [] m3 := by
                      intro tl3 m3 hI_236
                      obtain ⟨n3, σ, hn3, hSZ, hq3, hSP3⟩ := hI_236
                      have hz1 := hSZ.1
                      have hz2 := hSZ.2.1
                      have hJ_260 : ∀ (hd3 : Int), (∃ h3 : Nat, hd3 = h3 ∧ h ≤ h3 ∧ SW4 (fun t => φ (ln.toNat + t * V.toNat)) c.toNat i h3 n3 σ) → Ok shp X 18 260 [(0, pR 186), (1, pI L), (2, pI c), (3, pI w), (4, pI V), (5, pR (194 + L.toNat)), (6, pR (194 + (L + 1).toNat)), (7, pI fl), (8, pI fh), (9, pI sp), (10, pI fs), (11, pI ln), (12, pI hd3), (13, pI tl3), (14, pI st), (15, pI al), (16, pI (fs + (w * al)))] [] m3 := by
                        intro hd3 hI_260
                        obtain ⟨h3, hh3, hle3, hSW⟩ := hI_260
                        have hw1 := hSW.1
                        have hw2 := hSW.2.1
                        refine ok_iload F dX1_spread_260 13 rfl ?_
                        refine ok_iload F dX1_spread_262 12 rfl ?_
                        refine ok_icmp_le F 300 dX1_spread_264 (by decide) (by omega) (by omega) (fun c_5 => ?_) (fun c_5 => ?_)
                        · refine ok_iinc (lv' := [(14, pI (st + 1)), (0, pR 186), (1, pI L), (2, pI c), (3, pI w), (4, pI V), (5, pR (194 + L.toNat)), (6, pR (194 + (L + 1).toNat)), (7, pI fl), (8, pI fh), (9, pI sp), (10, pI fs), (11, pI ln), (12, pI hd3), (13, pI tl3), (15, pI al), (16, pI (fs + (w * al)))]) F dX1_spread_300 14 rfl (by decide) rfl ?_
                          refine ok_iload F dX1_spread_303 15 rfl ?_
                          refine ok_iload F dX1_spread_305 5 rfl ?_
                          refine ok_iadd F dX1_spread_307 ?_
                          refine ok_istore (lv' := [(15, pI (al + V)), (14, pI (st + 1)), (0, pR 186), (1, pI L), (2, pI c), (3, pI w), (4, pI V), (5, pR (194 + L.toNat)), (6, pR (194 + (L + 1).toNat)), (7, pI fl), (8, pI fh), (9, pI sp), (10, pI fs), (11, pI ln), (12, pI hd3), (13, pI tl3), (16, pI (fs + (w * al)))]) F dX1_spread_308 (by decide) rfl ?_
                          refine ok_goto F 138 dX1_spread_310 (by decide) ?_
                          refine ok_lvp [2, 3, 4, 5, 6, 7, 8, 9, 10, 11, 12, 13, 14, 15, 1, 0] (lv' := [(0, pR 186), (1, pI L), (2, pI c), (3, pI w), (4, pI V), (5, pR (194 + L.toNat)), (6, pR (194 + (L + 1).toNat)), (7, pI fl), (8, pI fh), (9, pI sp), (10, pI fs), (11, pI ln), (12, pI hd3), (13, pI tl3), (14, pI (st + 1)), (15, pI (al + V))]) rfl ?_
                          refine ih_138 _ ?_ hd3 tl3 (st + 1) (al + V) m3 ?_ rfl
                          · omega
                          · refine ⟨i + 1, h3, n3, σ, by omega, by omega, by omega, by rw [Nat.add_mul]; omega, hSW.next, ?_, ?_, by omega⟩
                            · first
                              | exact fun j h1 h2 => hq3 j (by omega) h2
                              | (intro j h1 h2; rw [rfl, mset_nk (by omega), mset_nk (by omega)]; exact hq3 j (by omega) h2)
                            · have hval := hSW.val (φ := φ) (r := ln.toNat) (v := V.toNat) (by omega) hxT
                              first
                                | exact hSP3.stay hTn hPi hv0 (by omega) hiM (by rw [hval, if_neg (by omega)])
                                | exact hSP3.stay hTn hPi hv0 (by omega) hiM (by rw [hval, if_pos (by omega)]; omega)
                                | (have k := hSP3.store hTn hPi hv0 (by omega) hiM; rw [hval, if_pos (by omega), Int.min_eq_right (by omega)] at k; rw [rfl, hidx, show m3 206 hd3.toNat + st = φ (ln.toNat + σ h3 * V.toNat) - σ h3 + i by omega]; exact k)
                        · obtain ⟨hq7, hq8⟩ := hq3 h3 hle3 (by omega)
                          have hτ7 := hSW.2.2.1 h3 (Nat.le_refl _) (by omega)
                          have eh3 : hd3.toNat = h3 := by omega
                          have hq8b : m3 206 hd3.toNat = φ (ln.toNat + σ h3 * V.toNat) - σ h3 := by rw [eh3]; exact hq8
                          have hφ7 := hφb (ln.toNat + σ h3 * V.toNat)
                          have hto : m3 (194 + (L + 1).toNat) (fs + w * al).toNat = mem (194 + (L + 1).toNat) (P (ln.toNat + i * V.toNat)) := by rw [hidx]; exact hSP3.here (by omega) hiM
                          refine ok_aload_n F dX1_spread_267 0 rfl ?_
                          refine ok_getr F dX1_spread_268 kF_X1_39 sh_186 rfl ?_
                          refine ok_iload F dX1_spread_271 12 rfl ?_
                          refine ok_iald (v := m3 206 hd3.toNat) F dX1_spread_273 sh_206 (by first | decide | assumption) (by omega) (by omega) rfl ?_
                          refine ok_iload F dX1_spread_274 14 rfl ?_
                          refine ok_iadd F dX1_spread_276 ?_
                          refine ok_aload F dX1_spread_277 6 rfl ?_
                          refine ok_iload F dX1_spread_279 16 rfl ?_
                          refine ok_iald (v := m3 (194 + (L + 1).toNat) ((fs + (w * al)).toNat)) F dX1_spread_281 (shLv (by omega)) (by first | decide | assumption) (by omega) (by omega) rfl ?_
                          refine ok_icmp_ge F 300 dX1_spread_282 (by decide) (by omega) (by omega) (fun c_6 => ?_) (fun c_6 => ?_)
                          · refine ok_iinc (lv' := [(14, pI (st + 1)), (0, pR 186), (1, pI L), (2, pI c), (3, pI w), (4, pI V), (5, pR (194 + L.toNat)), (6, pR (194 + (L + 1).toNat)), (7, pI fl), (8, pI fh), (9, pI sp), (10, pI fs), (11, pI ln), (12, pI hd3), (13, pI tl3), (15, pI al), (16, pI (fs + (w * al)))]) F dX1_spread_300 14 rfl (by decide) rfl ?_
                            refine ok_iload F dX1_spread_303 15 rfl ?_
                            refine ok_iload F dX1_spread_305 5 rfl ?_
                            refine ok_iadd F dX1_spread_307 ?_
                            refine ok_istore (lv' := [(15, pI (al + V)), (14, pI (st + 1)), (0, pR 186), (1, pI L), (2, pI c), (3, pI w), (4, pI V), (5, pR (194 + L.toNat)), (6, pR (194 + (L + 1).toNat)), (7, pI fl), (8, pI fh), (9, pI sp), (10, pI fs), (11, pI ln), (12, pI hd3), (13, pI tl3), (16, pI (fs + (w * al)))]) F dX1_spread_308 (by decide) rfl ?_
                            refine ok_goto F 138 dX1_spread_310 (by decide) ?_
                            refine ok_lvp [2, 3, 4, 5, 6, 7, 8, 9, 10, 11, 12, 13, 14, 15, 1, 0] (lv' := [(0, pR 186), (1, pI L), (2, pI c), (3, pI w), (4, pI V), (5, pR (194 + L.toNat)), (6, pR (194 + (L + 1).toNat)), (7, pI fl), (8, pI fh), (9, pI sp), (10, pI fs), (11, pI ln), (12, pI hd3), (13, pI tl3), (14, pI (st + 1)), (15, pI (al + V))]) rfl ?_
                            refine ih_138 _ ?_ hd3 tl3 (st + 1) (al + V) m3 ?_ rfl
                            · omega
                            · refine ⟨i + 1, h3, n3, σ, by omega, by omega, by omega, by rw [Nat.add_mul]; omega, hSW.next, ?_, ?_, by omega⟩
                              · first
                                | exact fun j h1 h2 => hq3 j (by omega) h2
                                | (intro j h1 h2; rw [rfl, mset_nk (by omega), mset_nk (by omega)]; exact hq3 j (by omega) h2)
                              · have hval := hSW.val (φ := φ) (r := ln.toNat) (v := V.toNat) (by omega) hxT
                                first
                                  | exact hSP3.stay hTn hPi hv0 (by omega) hiM (by rw [hval, if_neg (by omega)])
                                  | exact hSP3.stay hTn hPi hv0 (by omega) hiM (by rw [hval, if_pos (by omega)]; omega)
                                  | (have k := hSP3.store hTn hPi hv0 (by omega) hiM; rw [hval, if_pos (by omega), Int.min_eq_right (by omega)] at k; rw [rfl, hidx, show m3 206 hd3.toNat + st = φ (ln.toNat + σ h3 * V.toNat) - σ h3 + i by omega]; exact k)
                          · refine ok_aload F dX1_spread_285 6 rfl ?_
                            refine ok_iload F dX1_spread_287 16 rfl ?_
                            refine ok_aload_n F dX1_spread_289 0 rfl ?_
                            refine ok_getr F dX1_spread_290 kF_X1_39 sh_186 rfl ?_
                            refine ok_iload F dX1_spread_293 12 rfl ?_
                            refine ok_iald (v := m3 206 hd3.toNat) F dX1_spread_295 sh_206 (by first | decide | assumption) (by omega) (by omega) rfl ?_
                            refine ok_iload F dX1_spread_296 14 rfl ?_
                            refine ok_iadd F dX1_spread_298 ?_
                            refine ok_iast F dX1_spread_299 (shLv (by omega)) (by first | decide | assumption) (by omega) (by omega) (fun m_7 e_8 => ?_)
                            refine ok_iinc (lv' := [(14, pI (st + 1)), (0, pR 186), (1, pI L), (2, pI c), (3, pI w), (4, pI V), (5, pR (194 + L.toNat)), (6, pR (194 + (L + 1).toNat)), (7, pI fl), (8, pI fh), (9, pI sp), (10, pI fs), (11, pI ln), (12, pI hd3), (13, pI tl3), (15, pI al), (16, pI (fs + (w * al)))]) F dX1_spread_300 14 rfl (by decide) rfl ?_
                            refine ok_iload F dX1_spread_303 15 rfl ?_
                            refine ok_iload F dX1_spread_305 5 rfl ?_
                            refine ok_iadd F dX1_spread_307 ?_
                            refine ok_istore (lv' := [(15, pI (al + V)), (14, pI (st + 1)), (0, pR 186), (1, pI L), (2, pI c), (3, pI w), (4, pI V), (5, pR (194 + L.toNat)), (6, pR (194 + (L + 1).toNat)), (7, pI fl), (8, pI fh), (9, pI sp), (10, pI fs), (11, pI ln), (12, pI hd3), (13, pI tl3), (16, pI (fs + (w * al)))]) F dX1_spread_308 (by decide) rfl ?_
                            refine ok_goto F 138 dX1_spread_310 (by decide) ?_
                            refine ok_lvp [2, 3, 4, 5, 6, 7, 8, 9, 10, 11, 12, 13, 14, 15, 1, 0] (lv' := [(0, pR 186), (1, pI L), (2, pI c), (3, pI w), (4, pI V), (5, pR (194 + L.toNat)), (6, pR (194 + (L + 1).toNat)), (7, pI fl), (8, pI fh), (9, pI sp), (10, pI fs), (11, pI ln), (12, pI hd3), (13, pI tl3), (14, pI (st + 1)), (15, pI (al + V))]) rfl ?_
                            refine ih_138 _ ?_ hd3 tl3 (st + 1) (al + V) m_7 ?_ rfl
                            · omega
                            · refine ⟨i + 1, h3, n3, σ, by omega, by omega, by omega, by rw [Nat.add_mul]; omega, hSW.next, ?_, ?_, by omega⟩
                              · first
                                | exact fun j h1 h2 => hq3 j (by omega) h2
                                | (intro j h1 h2; rw [e_8, mset_nk (by omega), mset_nk (by omega)]; exact hq3 j (by omega) h2)
                              · have hval := hSW.val (φ := φ) (r := ln.toNat) (v := V.toNat) (by omega) hxT
                                first
                                  | exact hSP3.stay hTn hPi hv0 (by omega) hiM (by rw [hval, if_neg (by omega)])
                                  | exact hSP3.stay hTn hPi hv0 (by omega) hiM (by rw [hval, if_pos (by omega)]; omega)
                                  | (have k := hSP3.store hTn hPi hv0 (by omega) hiM; rw [hval, if_pos (by omega), Int.min_eq_right (by omega)] at k; rw [e_8, hidx, show m3 206 hd3.toNat + st = φ (ln.toNat + σ h3 * V.toNat) - σ h3 + i by omega]; exact k)
                      refine ok_iload F dX1_spread_236 13 rfl ?_
                      refine ok_iload F dX1_spread_238 12 rfl ?_
                      refine ok_icmp_le F 260 dX1_spread_240 (by decide) (by omega) (by omega) (fun c_9 => ?_) (fun c_9 => ?_)
                      · refine ok_lvp [0, 1, 2, 3, 4, 5, 6, 7, 8, 9, 10, 11, 12, 13, 14, 15, 16] (lv' := [(0, pR 186), (1, pI L), (2, pI c), (3, pI w), (4, pI V), (5, pR (194 + L.toNat)), (6, pR (194 + (L + 1).toNat)), (7, pI fl), (8, pI fh), (9, pI sp), (10, pI fs), (11, pI ln), (12, pI hd), (13, pI tl3), (14, pI st), (15, pI al), (16, pI (fs + (w * al)))]) rfl ?_
                        refine hJ_260 hd ?_
                        first
                          | exact ⟨h, by omega, Nat.le_refl _, hSZ.keep (Or.inl (by omega))⟩
                          | exact ⟨h, by omega, Nat.le_refl _, hSZ.keep (Or.inr (by omega))⟩
                          | exact ⟨h + 1, by omega, by omega, hSZ.popHead (by omega) (by omega)⟩
                      · obtain ⟨hq5, hq6⟩ := hq3 h (Nat.le_refl _) (by omega)
                        have hτ5 := hSZ.2.2.1 h (Nat.le_refl _) (by omega)
                        have eh : hd.toNat = h := by omega
                        have hq5b : m3 205 hd.toNat = σ h := by rw [eh]; exact hq5
                        refine ok_aload_n F dX1_spread_243 0 rfl ?_
                        refine ok_getr F dX1_spread_244 kF_X1_36 sh_186 rfl ?_
                        refine ok_iload F dX1_spread_247 12 rfl ?_
                        refine ok_iald (v := m3 205 hd.toNat) F dX1_spread_249 sh_205 (by first | decide | assumption) (by omega) (by omega) rfl ?_
                        refine ok_iload F dX1_spread_250 14 rfl ?_
                        refine ok_iload_n F dX1_spread_252 2 rfl ?_
                        refine ok_isub F dX1_spread_253 ?_
                        refine ok_icmp_ge F 260 dX1_spread_254 (by decide) (by omega) (by omega) (fun c_10 => ?_) (fun c_10 => ?_)
                        · refine ok_lvp [0, 1, 2, 3, 4, 5, 6, 7, 8, 9, 10, 11, 12, 13, 14, 15, 16] (lv' := [(0, pR 186), (1, pI L), (2, pI c), (3, pI w), (4, pI V), (5, pR (194 + L.toNat)), (6, pR (194 + (L + 1).toNat)), (7, pI fl), (8, pI fh), (9, pI sp), (10, pI fs), (11, pI ln), (12, pI hd), (13, pI tl3), (14, pI st), (15, pI al), (16, pI (fs + (w * al)))]) rfl ?_
                          refine hJ_260 hd ?_
                          first
                            | exact ⟨h, by omega, Nat.le_refl _, hSZ.keep (Or.inl (by omega))⟩
                            | exact ⟨h, by omega, Nat.le_refl _, hSZ.keep (Or.inr (by omega))⟩
                            | exact ⟨h + 1, by omega, by omega, hSZ.popHead (by omega) (by omega)⟩
                        · refine ok_iinc (lv' := [(12, pI (hd + 1)), (0, pR 186), (1, pI L), (2, pI c), (3, pI w), (4, pI V), (5, pR (194 + L.toNat)), (6, pR (194 + (L + 1).toNat)), (7, pI fl), (8, pI fh), (9, pI sp), (10, pI fs), (11, pI ln), (13, pI tl3), (14, pI st), (15, pI al), (16, pI (fs + (w * al)))]) F dX1_spread_257 12 rfl (by decide) rfl ?_
                          refine ok_lvp [1, 2, 3, 4, 5, 6, 7, 8, 9, 10, 11, 12, 0, 13, 14, 15, 16] (lv' := [(0, pR 186), (1, pI L), (2, pI c), (3, pI w), (4, pI V), (5, pR (194 + L.toNat)), (6, pR (194 + (L + 1).toNat)), (7, pI fl), (8, pI fh), (9, pI sp), (10, pI fs), (11, pI ln), (12, pI (hd + 1)), (13, pI tl3), (14, pI st), (15, pI al), (16, pI (fs + (w * al)))]) rfl ?_
                          refine hJ_260 (hd + 1) ?_
                          first
                            | exact ⟨h, by omega, Nat.le_refl _, hSZ.keep (Or.inl (by omega))⟩
                            | exact ⟨h, by omega, Nat.le_refl _, hSZ.keep (Or.inr (by omega))⟩
                            | exact ⟨h + 1, by omega, by omega, hSZ.popHead (by omega) (by omega)⟩
                    refine ok_iload F dX1_spread_154 0 rfl ?_
                    refine ok_iload F dX1_spread_156 8 rfl ?_
                    refine ok_icmp_lt F 236 dX1_spread_158 (by decide) (by omega) (by omega) (fun c_11 => ?_) (fun c_11 => ?_)
                    · refine ok_lvp [1, 2, 3, 4, 5, 6, 7, 8, 9, 10, 11, 12, 13, 14, 15, 16, 0] (lv' := [(0, pR 186), (1, pI L), (2, pI c), (3, pI w), (4, pI V), (5, pR (194 + L.toNat)), (6, pR (194 + (L + 1).toNat)), (7, pI fl), (8, pI fh), (9, pI sp), (10, pI fs), (11, pI ln), (12, pI hd), (13, pI tl), (14, pI st), (15, pI al), (16, pI (fs + (w * al)))]) rfl ?_
                      refine hJ_236 tl m2 ?_
                      first
                        | exact ⟨n, τ, hnn, hSX.skip (by (try dsimp only); first | (rw [hφA, if_neg (by omega)]; omega) | omega), hq, hSP⟩
                        | (refine ⟨n2 + 1, fun j => if j = n2 then i else τ j, by omega, hSY.push (by first | exact Or.inl (by have := hSY.1; omega) | exact Or.inr (by (try dsimp only); omega)) (if_pos rfl) (fun j hj => if_neg (by omega)), fun j h1 h2 => ?_, ?_⟩
                           · rw []; dsimp only; by_cases e : j = n2
                             · subst e; rw [mset_nk (by decide), show tl2.toNat = j by omega, mset_eq, mset_eq, if_pos rfl]; exact ⟨hst, by omega⟩
                             · rw [mset_nk (by decide), mset_ne (by omega), mset_ne (by omega), mset_nk (by decide), if_neg e]; exact hq j h1 (by omega)
                           · rw []; exact (hSP.queue hTn (Or.inl rfl)).queue hTn (Or.inr rfl))
                    · refine ok_iload F dX1_spread_161 0 rfl ?_
                      refine ok_iload F dX1_spread_163 9 rfl ?_
                      refine ok_icmp_gt F 236 dX1_spread_165 (by decide) (by omega) (by omega) (fun c_12 => ?_) (fun c_12 => ?_)
                      · refine ok_lvp [1, 2, 3, 4, 5, 6, 7, 8, 9, 10, 11, 12, 13, 14, 15, 16, 0] (lv' := [(0, pR 186), (1, pI L), (2, pI c), (3, pI w), (4, pI V), (5, pR (194 + L.toNat)), (6, pR (194 + (L + 1).toNat)), (7, pI fl), (8, pI fh), (9, pI sp), (10, pI fs), (11, pI ln), (12, pI hd), (13, pI tl), (14, pI st), (15, pI al), (16, pI (fs + (w * al)))]) rfl ?_
                        refine hJ_236 tl m2 ?_
                        first
                          | exact ⟨n, τ, hnn, hSX.skip (by (try dsimp only); first | (rw [hφA, if_neg (by omega)]; omega) | omega), hq, hSP⟩
                          | (refine ⟨n2 + 1, fun j => if j = n2 then i else τ j, by omega, hSY.push (by first | exact Or.inl (by have := hSY.1; omega) | exact Or.inr (by (try dsimp only); omega)) (if_pos rfl) (fun j hj => if_neg (by omega)), fun j h1 h2 => ?_, ?_⟩
                             · rw []; dsimp only; by_cases e : j = n2
                               · subst e; rw [mset_nk (by decide), show tl2.toNat = j by omega, mset_eq, mset_eq, if_pos rfl]; exact ⟨hst, by omega⟩
                               · rw [mset_nk (by decide), mset_ne (by omega), mset_ne (by omega), mset_nk (by decide), if_neg e]; exact hq j h1 (by omega)
                             · rw []; exact (hSP.queue hTn (Or.inl rfl)).queue hTn (Or.inr rfl))
                      · have hfr : m2 (194 + L.toNat) (fs + w * al).toNat = φ (ln.toNat + i * V.toNat) := by
                          rw [hSP.1 _ (by omega) (by omega) (by omega), hφA, if_pos (by omega), show (fs + w * al).toNat = (bs + w * (((ln.toNat + i * V.toNat) : Nat) : Int) + mem 186 4).toNat by omega]
                        refine ok_aload F dX1_spread_168 6 rfl ?_
                        refine ok_iload F dX1_spread_170 0 rfl ?_
                        refine ok_iald (v := m2 (194 + L.toNat) ((fs + (w * al)).toNat)) F dX1_spread_172 (shLv (by omega)) (by first | decide | assumption) (by omega) (by omega) rfl ?_
                        refine ok_ldc (n := 1000000) F dX1_spread_173 kK_X1_78 rfl ?_
                        refine ok_icmp_ge F 236 dX1_spread_175 (by decide) (by omega) (by omega) (fun c_13 => ?_) (fun c_13 => ?_)
                        · refine ok_lvp [1, 2, 3, 4, 5, 6, 7, 8, 9, 10, 11, 12, 13, 14, 15, 16, 0] (lv' := [(0, pR 186), (1, pI L), (2, pI c), (3, pI w), (4, pI V), (5, pR (194 + L.toNat)), (6, pR (194 + (L + 1).toNat)), (7, pI fl), (8, pI fh), (9, pI sp), (10, pI fs), (11, pI ln), (12, pI hd), (13, pI tl), (14, pI st), (15, pI al), (16, pI (fs + (w * al)))]) rfl ?_
                          refine hJ_236 tl m2 ?_
                          first
                            | exact ⟨n, τ, hnn, hSX.skip (by (try dsimp only); first | (rw [hφA, if_neg (by omega)]; omega) | omega), hq, hSP⟩
                            | (refine ⟨n2 + 1, fun j => if j = n2 then i else τ j, by omega, hSY.push (by first | exact Or.inl (by have := hSY.1; omega) | exact Or.inr (by (try dsimp only); omega)) (if_pos rfl) (fun j hj => if_neg (by omega)), fun j h1 h2 => ?_, ?_⟩
                               · rw []; dsimp only; by_cases e : j = n2
                                 · subst e; rw [mset_nk (by decide), show tl2.toNat = j by omega, mset_eq, mset_eq, if_pos rfl]; exact ⟨hst, by omega⟩
                                 · rw [mset_nk (by decide), mset_ne (by omega), mset_ne (by omega), mset_nk (by decide), if_neg e]; exact hq j h1 (by omega)
                               · rw []; exact (hSP.queue hTn (Or.inl rfl)).queue hTn (Or.inr rfl))
                        · refine ok_aload F dX1_spread_178 6 rfl ?_
                          refine ok_iload F dX1_spread_180 0 rfl ?_
                          refine ok_iald (v := m2 (194 + L.toNat) ((fs + (w * al)).toNat)) F dX1_spread_182 (shLv (by omega)) (by first | decide | assumption) (by omega) (by omega) rfl ?_
                          refine ok_iload F dX1_spread_183 15 rfl ?_
                          refine ok_isub F dX1_spread_185 ?_
                          refine ok_istore (lv' := [(17, pI ((m2 (194 + L.toNat) ((fs + (w * al)).toNat)) - st)), (16, pI (fs + (w * al))), (0, pR 186), (1, pI L), (2, pI c), (3, pI w), (4, pI V), (5, pR (194 + L.toNat)), (6, pR (194 + (L + 1).toNat)), (7, pI fl), (8, pI fh), (9, pI sp), (10, pI fs), (11, pI ln), (12, pI hd), (13, pI tl), (14, pI st), (15, pI al)]) F dX1_spread_186 (by decide) rfl ?_
                          have hL_188 : ∀ (n_188 : Nat) (tl2 : Int), (∃ n2 : Nat, tl2 = n2 ∧ SY (fun t => φ (ln.toNat + t * V.toNat)) c.toNat i h n2 τ ∧ n2 ≤ n) → tl2.toNat = n_188 → Ok shp X 18 188 [(0, pR 186), (1, pI L), (2, pI c), (3, pI w), (4, pI V), (5, pR (194 + L.toNat)), (6, pR (194 + (L + 1).toNat)), (7, pI fl), (8, pI fh), (9, pI sp), (10, pI fs), (11, pI ln), (12, pI hd), (13, pI tl2), (14, pI st), (15, pI al), (16, pI (fs + (w * al))), (17, pI ((m2 (194 + L.toNat) ((fs + (w * al)).toNat)) - st))] [] m2 := by
                            intro n_188
                            induction n_188 using Nat.strongRecOn with
                            | _ n_188 ih_188 =>
                              intro tl2 hI_188 hn_188
                              obtain ⟨n2, hn2, hSY, hn2n⟩ := hI_188
                              have hy1 := hSY.1
                              have hy2 := hSY.2.1
                              refine ok_iload F dX1_spread_188 13 rfl ?_
                              refine ok_iload F dX1_spread_190 12 rfl ?_
                              refine ok_icmp_le F 215 dX1_spread_192 (by decide) (by omega) (by omega) (fun c_14 => ?_) (fun c_14 => ?_)
                              · refine ok_aload_n F dX1_spread_215 0 rfl ?_
                                refine ok_getr F dX1_spread_216 kF_X1_36 sh_186 rfl ?_
                                refine ok_iload F dX1_spread_219 13 rfl ?_
                                refine ok_iload F dX1_spread_221 14 rfl ?_
                                refine ok_iast F dX1_spread_223 sh_205 (by first | decide | assumption) (by omega) (by omega) (fun m_15 e_16 => ?_)
                                refine ok_aload_n F dX1_spread_224 0 rfl ?_
                                refine ok_getr F dX1_spread_225 kF_X1_39 sh_186 rfl ?_
                                refine ok_iload F dX1_spread_228 13 rfl ?_
                                refine ok_iload F dX1_spread_230 17 rfl ?_
                                refine ok_iast F dX1_spread_232 sh_206 (by first | decide | assumption) (by omega) (by omega) (fun m_17 e_18 => ?_)
                                refine ok_iinc (lv' := [(13, pI (tl2 + 1)), (0, pR 186), (1, pI L), (2, pI c), (3, pI w), (4, pI V), (5, pR (194 + L.toNat)), (6, pR (194 + (L + 1).toNat)), (7, pI fl), (8, pI fh), (9, pI sp), (10, pI fs), (11, pI ln), (12, pI hd), (14, pI st), (15, pI al), (16, pI (fs + (w * al))), (17, pI ((m2 (194 + L.toNat) ((fs + (w * al)).toNat)) - st))]) F dX1_spread_233 13 rfl (by decide) rfl ?_
                                refine ok_lvp [1, 2, 3, 4, 5, 6, 7, 8, 9, 10, 11, 12, 13, 0, 14, 15, 16] (lv' := [(0, pR 186), (1, pI L), (2, pI c), (3, pI w), (4, pI V), (5, pR (194 + L.toNat)), (6, pR (194 + (L + 1).toNat)), (7, pI fl), (8, pI fh), (9, pI sp), (10, pI fs), (11, pI ln), (12, pI hd), (13, pI (tl2 + 1)), (14, pI st), (15, pI al), (16, pI (fs + (w * al)))]) rfl ?_
                                refine hJ_236 (tl2 + 1) m_17 ?_
                                first
                                  | exact ⟨n, τ, hnn, hSX.skip (by (try dsimp only); first | (rw [hφA, if_neg (by omega)]; omega) | omega), hq, hSP⟩
                                  | (refine ⟨n2 + 1, fun j => if j = n2 then i else τ j, by omega, hSY.push (by first | exact Or.inl (by have := hSY.1; omega) | exact Or.inr (by (try dsimp only); omega)) (if_pos rfl) (fun j hj => if_neg (by omega)), fun j h1 h2 => ?_, ?_⟩
                                     · rw [e_18, e_16]; dsimp only; by_cases e : j = n2
                                       · subst e; rw [mset_nk (by decide), show tl2.toNat = j by omega, mset_eq, mset_eq, if_pos rfl]; exact ⟨hst, by omega⟩
                                       · rw [mset_nk (by decide), mset_ne (by omega), mset_ne (by omega), mset_nk (by decide), if_neg e]; exact hq j h1 (by omega)
                                     · rw [e_18, e_16]; exact (hSP.queue hTn (Or.inl rfl)).queue hTn (Or.inr rfl))
                              · obtain ⟨hq1, hq2⟩ := hq (n2 - 1) (by omega) (by omega)
                                rw [show n2 - 1 = (tl2 - 1).toNat by omega] at hq1 hq2
                                have hτb := hSX.2.2.1 (tl2 - 1).toNat (by omega) (by omega)
                                have hφj := hφb (ln.toNat + τ (tl2 - 1).toNat * V.toNat)
                                have hn21 : n2 - 1 = (tl2 - 1).toNat := by omega
                                have hcc : φ (ln.toNat + τ (n2 - 1) * V.toNat) - τ (n2 - 1) = m2 206 (tl2 - 1).toNat := by rw [hn21]; omega
                                refine ok_aload_n F dX1_spread_195 0 rfl ?_
                                refine ok_getr F dX1_spread_196 kF_X1_39 sh_186 rfl ?_
                                refine ok_iload F dX1_spread_199 13 rfl ?_
                                refine ok_iconst F dX1_spread_201 ?_
                                refine ok_isub F dX1_spread_202 ?_
                                refine ok_iald (v := m2 206 ((tl2 - 1).toNat)) F dX1_spread_203 sh_206 (by first | decide | assumption) (by omega) (by omega) rfl ?_
                                refine ok_iload F dX1_spread_204 17 rfl ?_
                                refine ok_icmp_le F 215 dX1_spread_206 (by decide) (by omega) (by omega) (fun c_19 => ?_) (fun c_19 => ?_)
                                · refine ok_aload_n F dX1_spread_215 0 rfl ?_
                                  refine ok_getr F dX1_spread_216 kF_X1_36 sh_186 rfl ?_
                                  refine ok_iload F dX1_spread_219 13 rfl ?_
                                  refine ok_iload F dX1_spread_221 14 rfl ?_
                                  refine ok_iast F dX1_spread_223 sh_205 (by first | decide | assumption) (by omega) (by omega) (fun m_20 e_21 => ?_)
                                  refine ok_aload_n F dX1_spread_224 0 rfl ?_
                                  refine ok_getr F dX1_spread_225 kF_X1_39 sh_186 rfl ?_
                                  refine ok_iload F dX1_spread_228 13 rfl ?_
                                  refine ok_iload F dX1_spread_230 17 rfl ?_
                                  refine ok_iast F dX1_spread_232 sh_206 (by first | decide | assumption) (by omega) (by omega) (fun m_22 e_23 => ?_)
                                  refine ok_iinc (lv' := [(13, pI (tl2 + 1)), (0, pR 186), (1, pI L), (2, pI c), (3, pI w), (4, pI V), (5, pR (194 + L.toNat)), (6, pR (194 + (L + 1).toNat)), (7, pI fl), (8, pI fh), (9, pI sp), (10, pI fs), (11, pI ln), (12, pI hd), (14, pI st), (15, pI al), (16, pI (fs + (w * al))), (17, pI ((m2 (194 + L.toNat) ((fs + (w * al)).toNat)) - st))]) F dX1_spread_233 13 rfl (by decide) rfl ?_
                                  refine ok_lvp [1, 2, 3, 4, 5, 6, 7, 8, 9, 10, 11, 12, 13, 0, 14, 15, 16] (lv' := [(0, pR 186), (1, pI L), (2, pI c), (3, pI w), (4, pI V), (5, pR (194 + L.toNat)), (6, pR (194 + (L + 1).toNat)), (7, pI fl), (8, pI fh), (9, pI sp), (10, pI fs), (11, pI ln), (12, pI hd), (13, pI (tl2 + 1)), (14, pI st), (15, pI al), (16, pI (fs + (w * al)))]) rfl ?_
                                  refine hJ_236 (tl2 + 1) m_22 ?_
                                  first
                                    | exact ⟨n, τ, hnn, hSX.skip (by (try dsimp only); first | (rw [hφA, if_neg (by omega)]; omega) | omega), hq, hSP⟩
                                    | (refine ⟨n2 + 1, fun j => if j = n2 then i else τ j, by omega, hSY.push (by first | exact Or.inl (by have := hSY.1; omega) | exact Or.inr (by (try dsimp only); omega)) (if_pos rfl) (fun j hj => if_neg (by omega)), fun j h1 h2 => ?_, ?_⟩
                                       · rw [e_23, e_21]; dsimp only; by_cases e : j = n2
                                         · subst e; rw [mset_nk (by decide), show tl2.toNat = j by omega, mset_eq, mset_eq, if_pos rfl]; exact ⟨hst, by omega⟩
                                         · rw [mset_nk (by decide), mset_ne (by omega), mset_ne (by omega), mset_nk (by decide), if_neg e]; exact hq j h1 (by omega)
                                       · rw [e_23, e_21]; exact (hSP.queue hTn (Or.inl rfl)).queue hTn (Or.inr rfl))
                                · refine ok_iinc (lv' := [(13, pI (tl2 + (-1))), (0, pR 186), (1, pI L), (2, pI c), (3, pI w), (4, pI V), (5, pR (194 + L.toNat)), (6, pR (194 + (L + 1).toNat)), (7, pI fl), (8, pI fh), (9, pI sp), (10, pI fs), (11, pI ln), (12, pI hd), (14, pI st), (15, pI al), (16, pI (fs + (w * al))), (17, pI ((m2 (194 + L.toNat) ((fs + (w * al)).toNat)) - st))]) F dX1_spread_209 13 rfl (by decide) rfl ?_
                                  refine ok_goto F 188 dX1_spread_212 (by decide) ?_
                                  refine ok_lvp [1, 2, 3, 4, 5, 6, 7, 8, 9, 10, 11, 12, 13, 0, 14, 15, 16, 17] (lv' := [(0, pR 186), (1, pI L), (2, pI c), (3, pI w), (4, pI V), (5, pR (194 + L.toNat)), (6, pR (194 + (L + 1).toNat)), (7, pI fl), (8, pI fh), (9, pI sp), (10, pI fs), (11, pI ln), (12, pI hd), (13, pI (tl2 + (-1))), (14, pI st), (15, pI al), (16, pI (fs + (w * al))), (17, pI ((m2 (194 + L.toNat) ((fs + (w * al)).toNat)) - st))]) rfl ?_
                                  refine ih_188 _ ?_ (tl2 + (-1)) ?_ rfl
                                  · omega
                                  · exact ⟨n2 - 1, by omega, hSY.pop (by omega) (by (try dsimp only); omega), by omega⟩
                          refine ok_lvp [2, 3, 4, 5, 6, 7, 8, 9, 10, 11, 12, 13, 14, 15, 16, 17, 1, 0] (lv' := [(0, pR 186), (1, pI L), (2, pI c), (3, pI w), (4, pI V), (5, pR (194 + L.toNat)), (6, pR (194 + (L + 1).toNat)), (7, pI fl), (8, pI fh), (9, pI sp), (10, pI fs), (11, pI ln), (12, pI hd), (13, pI tl), (14, pI st), (15, pI al), (16, pI (fs + (w * al))), (17, pI ((m2 (194 + L.toNat) ((fs + (w * al)).toNat)) - st))]) rfl ?_
                          refine hL_188 _ tl ?_ rfl
                          exact ⟨n, by omega, hSX.toY, Nat.le_refl _⟩
              refine ok_lvp [4, 5, 6, 7, 8, 9, 10, 11, 12, 13, 14, 15, 3, 2, 1, 0] (lv' := [(0, pR 186), (1, pI L), (2, pI c), (3, pI w), (4, pI V), (5, pR (194 + L.toNat)), (6, pR (194 + (L + 1).toNat)), (7, pI fl), (8, pI fh), (9, pI sp), (10, pI fs), (11, pI ln), (12, pI 0), (13, pI 0), (14, pI 0), (15, pI ln)]) rfl ?_
              refine hL_138 _ 0 0 0 ln m ?_ rfl
              exact ⟨0, 0, 0, fun _ => 0, rfl, rfl, rfl, by omega, SX_0 _ _ _, fun j h1 h2 => by omega, hSP0.start, by omega⟩
      refine ok_lvp [1, 2, 3, 4, 5, 6, 7, 8, 9, 10, 11, 0] (lv' := [(0, pR 186), (1, pI L), (2, pI c), (3, pI w), (4, pI V), (5, pR (194 + L.toNat)), (6, pR (194 + (L + 1).toNat)), (7, pI fl), (8, pI fh), (9, pI sp), (10, pI fs), (11, pI 0)]) rfl ?_
      refine hL_111 _ 0 mem ?_ rfl
      exact ⟨by omega, by omega, SP_0 _ _ _ _ _ _ _⟩
    refine ok_iload_n F dX1_spread_78 9 rfl ?_
    refine ok_if_le F 93 dX1_spread_79 (by decide) (by omega) (fun c_24 => ?_) (fun c_24 => ?_)
    · refine ok_aload_n F dX1_spread_93 6 rfl ?_
      refine ok_getr F dX1_spread_94 kF_X1_33 sh_186 rfl ?_
      refine ok_iload_n F dX1_spread_97 7 rfl ?_
      refine ok_iconst F dX1_spread_98 ?_
      refine ok_iadd F dX1_spread_99 ?_
      refine ok_iald (v := mem 204 ((L + 1).toNat)) F dX1_spread_100 sh_204 (by first | decide | assumption) (by omega) (by omega) rfl ?_
      refine ok_aload_n F dX1_spread_101 6 rfl ?_
      refine ok_getf (v := mem 186 4) F dX1_spread_102 kF_X1_42 sh_186 rfl rfl ?_
      refine ok_iadd F dX1_spread_105 ?_
      refine ok_istore (lv' := [(10, pI ((mem 204 ((L + 1).toNat)) + (mem 186 4))), (9, pI ((mem 204 ((L + 1).toNat)) - (mem 203 ((L + 1).toNat)))), (8, pI ((mem 204 L.toNat) + (mem 186 4))), (7, pI ((mem 203 L.toNat) + (mem 186 4))), (6, pR (194 + (L + 1).toNat)), (5, pR (194 + L.toNat)), (4, pI (mem 190 L.toNat)), (0, pR 186), (1, pI L), (2, pI c), (3, pI w)]) F dX1_spread_106 (by decide) rfl ?_
      refine ok_lvp [7, 8, 9, 10, 6, 5, 4, 3, 2, 1, 0] (lv' := [(0, pR 186), (1, pI L), (2, pI c), (3, pI w), (4, pI (mem 190 L.toNat)), (5, pR (194 + L.toNat)), (6, pR (194 + (L + 1).toNat)), (7, pI ((mem 203 L.toNat) + (mem 186 4))), (8, pI ((mem 204 L.toNat) + (mem 186 4))), (9, pI ((mem 204 ((L + 1).toNat)) - (mem 203 ((L + 1).toNat)))), (10, pI ((mem 204 ((L + 1).toNat)) + (mem 186 4)))]) rfl ?_
      refine hJ_108 (mem 190 L.toNat) ((mem 203 L.toNat) + (mem 186 4)) ((mem 204 L.toNat) + (mem 186 4)) ((mem 204 ((L + 1).toNat)) - (mem 203 ((L + 1).toNat))) ((mem 204 ((L + 1).toNat)) + (mem 186 4)) ?_
      exact ⟨rfl, rfl, rfl, rfl, by omega⟩
    · refine ok_aload_n F dX1_spread_82 6 rfl ?_
      refine ok_getr F dX1_spread_83 kF_X1_30 sh_186 rfl ?_
      refine ok_iload_n F dX1_spread_86 7 rfl ?_
      refine ok_iconst F dX1_spread_87 ?_
      refine ok_iadd F dX1_spread_88 ?_
      refine ok_iald (v := mem 203 ((L + 1).toNat)) F dX1_spread_89 sh_203 (by first | decide | assumption) (by omega) (by omega) rfl ?_
      refine ok_goto F 101 dX1_spread_90 (by decide) ?_
      refine ok_aload_n F dX1_spread_101 6 rfl ?_
      refine ok_getf (v := mem 186 4) F dX1_spread_102 kF_X1_42 sh_186 rfl rfl ?_
      refine ok_iadd F dX1_spread_105 ?_
      refine ok_istore (lv' := [(10, pI ((mem 203 ((L + 1).toNat)) + (mem 186 4))), (9, pI ((mem 204 ((L + 1).toNat)) - (mem 203 ((L + 1).toNat)))), (8, pI ((mem 204 L.toNat) + (mem 186 4))), (7, pI ((mem 203 L.toNat) + (mem 186 4))), (6, pR (194 + (L + 1).toNat)), (5, pR (194 + L.toNat)), (4, pI (mem 190 L.toNat)), (0, pR 186), (1, pI L), (2, pI c), (3, pI w)]) F dX1_spread_106 (by decide) rfl ?_
      refine ok_lvp [7, 8, 9, 10, 6, 5, 4, 3, 2, 1, 0] (lv' := [(0, pR 186), (1, pI L), (2, pI c), (3, pI w), (4, pI (mem 190 L.toNat)), (5, pR (194 + L.toNat)), (6, pR (194 + (L + 1).toNat)), (7, pI ((mem 203 L.toNat) + (mem 186 4))), (8, pI ((mem 204 L.toNat) + (mem 186 4))), (9, pI ((mem 204 ((L + 1).toNat)) - (mem 203 ((L + 1).toNat)))), (10, pI ((mem 203 ((L + 1).toNat)) + (mem 186 4)))]) rfl ?_
      refine hJ_108 (mem 190 L.toNat) ((mem 203 L.toNat) + (mem 186 4)) ((mem 204 L.toNat) + (mem 186 4)) ((mem 204 ((L + 1).toNat)) - (mem 203 ((L + 1).toNat))) ((mem 203 ((L + 1).toNat)) + (mem 186 4)) ?_
      exact ⟨rfl, rfl, rfl, rfl, by omega⟩
  · exfalso; omega
