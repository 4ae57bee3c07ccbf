/-! a call of both, as one: the contracts of the two, one behind the other -/
theorem Ret.imp {sh : List CS} {l : Launch} {y : MethodName} {bytes : ByteArray} {maxL : Nat} {ret : Option FieldType} {dp : Nat} {as : List PV} {mem : Mem} {post post' : Option PV → Mem → Prop} (h : Ret sh l y bytes maxL ret dp as mem post) (k : ∀ r mv, post r mv → post' r mv) : Ret sh l y bytes maxL ret dp as mem post' := by
  intro D ad aC adV sz p e ha hc hk s m args below hf happ hP hK
  obtain ⟨n, o, h1, h2, h3, ⟨⟨⟨r, mv, q1, q2, q3, q4⟩, q5⟩, h5⟩⟩ := h D ad aC adV sz p e ha hc hk s m args below hf happ hP hK
  exact ⟨n, o, h1, h2, h3, ⟨⟨r, mv, q1, k r mv q2, q3, q4⟩, q5⟩, h5⟩
/-- a memory that agrees with one where both are well -/
def CRx (n : Int) (mv : Mem) : Prop := ∃ mw, CR n mw ∧ ∀ k c, shp[k]? = some c → ∀ j, j < wdt c → mw k j = mv k j
theorem CR.x {n : Int} {m : Mem} (h : CR n m) : CRx n m := ⟨m, h, fun _ _ _ _ _ => rfl⟩
/-- both asked, one behind the other: the same answer, and both are well then -/
def Two (l : Launch) (w : Int → PV) (ty : FieldType) (n : Int) (m0 : Mem) (y7 : MethodName) (c7 : ByteArray) (L7 d7 : Nat) (y8 : MethodName) (c8 : ByteArray) (L8 d8 : Nat) (as : List PV) : Prop :=
  Ret shp l y7 c7 L7 (some ty) d7 (pR 20 :: as) m0 (fun r m1 => ∃ z, r = some (w z) ∧ Ret shp l y8 c8 L8 (some ty) d8 (pR 0 :: as) m1 (fun r2 mv => r2 = some (w z) ∧ CRx (n + 1) mv))
/-! what follows of CR -/
theorem g_row {f : Nat → Int} (hG : GR f) {r : Nat} (hr : r < 5) (j : Nat) (hj : j = 11 + 8 * r) : ∀ k : Nat, k < 8 → 0 ≤ f (j + k) ∧ f (j + k) ≤ 99 := fun k hk => by
  subst hj
  exact hG.2.2.2.2.2.1 r hr k hk
theorem g_N {f : Nat → Int} (hG : GR f) : 0 ≤ f 0 ∧ f 0 ≤ 8 := hG.1
theorem g_N1 {f : Nat → Int} (hG : GR f) : 0 ≤ f 1 ∧ f 1 ≤ 5 := hG.2.1
theorem g_N2 {f : Nat → Int} (hG : GR f) : 0 ≤ f 2 ∧ f 2 ≤ 40 := hG.2.2.1
theorem g_Vl {f : Nat → Int} (hG : GR f) : ∀ i : Nat, (i : Int) < f 0 → 1 ≤ f (3 + i) ∧ f (3 + i) ≤ 500 := fun i hi => ⟨hG.2.2.2.2.1 i hi, (hG.2.2.2.1 i (by have := hG.1; omega)).2⟩
theorem g_Tl {f : Nat → Int} (hG : GR f) : ∀ k : Nat, k < 8 → 0 ≤ f (11 + k) ∧ f (11 + k) ≤ 99 := g_row hG (r := 0) (by omega) 11 rfl
theorem g_Pu {f : Nat → Int} (hG : GR f) : ∀ k : Nat, k < 8 → 0 ≤ f (19 + k) ∧ f (19 + k) ≤ 99 := g_row hG (r := 1) (by omega) 19 rfl
theorem g_Lm {f : Nat → Int} (hG : GR f) : ∀ k : Nat, k < 8 → 0 ≤ f (27 + k) ∧ f (27 + k) ≤ 99 := g_row hG (r := 2) (by omega) 27 rfl
theorem g_Bg {f : Nat → Int} (hG : GR f) : ∀ k : Nat, k < 8 → 0 ≤ f (35 + k) ∧ f (35 + k) ≤ 99 := g_row hG (r := 3) (by omega) 35 rfl
theorem g_Tr {f : Nat → Int} (hG : GR f) : ∀ k : Nat, k < 8 → 0 ≤ f (43 + k) ∧ f (43 + k) ≤ 99 := g_row hG (r := 4) (by omega) 43 rfl
theorem g_B1 {f : Nat → Int} (hG : GR f) : ∀ k : Nat, (k : Int) < f 0 → 1 ≤ f (35 + k) ∧ f (35 + k) ≤ 99 := fun k hk => ⟨hG.2.2.2.2.2.2.1 k hk, (g_Bg hG k (by have := hG.1; omega)).2⟩
theorem g_Ab {f : Nat → Int} (hG : GR f) : ∀ s : Nat, (s : Int) < f 2 → 0 ≤ abvS f s ∧ abvS f s ≤ 2500 := fun s hs => (hG.2.2.2.2.2.2.2.1 s hs).2.2.2
theorem g_G {f : Nat → Int} (hG : GR f) : ∀ s : Nat, (s : Int) < f 2 → ∀ k : Nat, k < 8 → 0 ≤ sGiven f s k ∧ sGiven f s k ≤ 5 := fun s hs => (hG.2.2.2.2.2.2.2.1 s hs).2.2.1
theorem g_R {n : Int} {f : Nat → Int} (h : RI n f) (hn : n ≤ 600) : ∀ b, i32 (f b) := fun b => by
  obtain ⟨⟨g0, g1, g2, g3, g4, g5, g6, g7, g8, g9⟩, h2, h3, h4⟩ := h
  by_cases b0 : b < 11
  · have hb : b = 0 ∨ b = 1 ∨ b = 2 ∨ b = 3 + (b - 3) := by omega
    rcases hb with rfl | rfl | rfl | e
    · exact ⟨by omega, by omega⟩
    · exact ⟨by omega, by omega⟩
    · exact ⟨by omega, by omega⟩
    · by_cases b3 : 3 ≤ b
      · have q := g3 (b - 3) (by omega)
        rw [← e] at q
        exact ⟨by omega, by omega⟩
      · have hb : b = 0 ∨ b = 1 ∨ b = 2 := by omega
        rcases hb with rfl | rfl | rfl <;> exact ⟨by omega, by omega⟩
  by_cases b1 : b < 51
  · have q := g5 ((b - 11) / 8) (by omega) ((b - 11) % 8) (by omega)
    rw [show 11 + 8 * ((b - 11) / 8) + (b - 11) % 8 = b by omega] at q
    exact ⟨by omega, by omega⟩
  by_cases b2 : b < 59
  · have q := h4 (b - 51) (by omega)
    rw [show 51 + (b - 51) = b by omega] at q
    exact ⟨by omega, by omega⟩
  by_cases b3 : 59 + 10 * (f 2).toNat ≤ b
  · rw [h3 b b3]
    exact ⟨by decide, by decide⟩
  · obtain ⟨q1, q2, q3, q4⟩ := g7 ((b - 59) / 10) (by omega)
    have hb : (b - 59) % 10 = 0 ∨ (b - 59) % 10 = 1 ∨ 2 ≤ (b - 59) % 10 := by omega
    rcases hb with e | e | e
    · unfold sDay at q1
      rw [show 59 + 10 * ((b - 59) / 10) = b by omega] at q1
      exact ⟨by omega, by omega⟩
    · unfold sPrice at q2
      rw [show 60 + 10 * ((b - 59) / 10) = b by omega] at q2
      exact ⟨by omega, by omega⟩
    · have q := q3 ((b - 59) % 10 - 2) (by omega)
      unfold sGiven at q
      rw [show 61 + 10 * ((b - 59) / 10) + ((b - 59) % 10 - 2) = b by omega] at q
      exact ⟨by omega, by omega⟩
/-- a State's row, by what the reference's row has -/
theorem RS.row {m : Mem} {f : Nat → Int} (h : RS m 21 f) (r : Nat) (hr : r < 7) (c j : Nat) (hc : c = 22 + r) (hj : j = 3 + 8 * r) : ∀ k : Nat, k < 8 → m c k = f (j + k) := fun k hk => by
  subst hc hj
  have q := h.2.2.1 r hr k hk
  rw [show 21 + 1 + r = 22 + r by omega] at q
  exact q
theorem RS.vl {m : Mem} {f : Nat → Int} (h : RS m 21 f) : ∀ k : Nat, k < 8 → m 22 k = f (3 + k) := h.row 0 (by omega) 22 3 rfl rfl
theorem RS.tl {m : Mem} {f : Nat → Int} (h : RS m 21 f) : ∀ k : Nat, k < 8 → m 23 k = f (11 + k) := h.row 1 (by omega) 23 11 rfl rfl
theorem RS.pu {m : Mem} {f : Nat → Int} (h : RS m 21 f) : ∀ k : Nat, k < 8 → m 24 k = f (19 + k) := h.row 2 (by omega) 24 19 rfl rfl
theorem RS.lm {m : Mem} {f : Nat → Int} (h : RS m 21 f) : ∀ k : Nat, k < 8 → m 25 k = f (27 + k) := h.row 3 (by omega) 25 27 rfl rfl
theorem RS.bg {m : Mem} {f : Nat → Int} (h : RS m 21 f) : ∀ k : Nat, k < 8 → m 26 k = f (35 + k) := h.row 4 (by omega) 26 35 rfl rfl
theorem RS.tr {m : Mem} {f : Nat → Int} (h : RS m 21 f) : ∀ k : Nat, k < 8 → m 27 k = f (43 + k) := h.row 5 (by omega) 27 43 rfl rfl
theorem RS.sf {m : Mem} {f : Nat → Int} (h : RS m 21 f) : ∀ k : Nat, k < 8 → m 28 k = f (51 + k) := h.row 6 (by omega) 28 51 rfl rfl
theorem c_N {m : Mem} {f : Nat → Int} (h : RS m 21 f) (hG : GR f) : 0 ≤ m 21 0 ∧ m 21 0 ≤ 8 := by rw [h.1]; exact hG.1
theorem c_N1 {m : Mem} {f : Nat → Int} (h : RS m 21 f) (hG : GR f) : 0 ≤ m 21 1 ∧ m 21 1 ≤ 5 := by rw [h.2.1]; exact hG.2.1
theorem c_V {m : Mem} {f : Nat → Int} (h : RS m 21 f) (hG : GR f) : ∀ i : Nat, i < 8 → 0 ≤ m 22 i ∧ m 22 i ≤ 500 := fun i hi => by rw [h.vl i hi]; exact hG.2.2.2.1 i hi
theorem c_V1 {m : Mem} {f : Nat → Int} (h : RS m 21 f) (hG : GR f) : ∀ i : Nat, (i : Int) < m 21 0 → 1 ≤ m 22 i := fun i hi => by
  rw [h.1] at hi
  rw [h.vl i (by have := hG.1; omega)]
  exact hG.2.2.2.2.1 i hi
theorem c_Tl {m : Mem} {f : Nat → Int} (h : RS m 21 f) (hG : GR f) : ∀ k : Nat, k < 8 → 0 ≤ m 23 k ∧ m 23 k ≤ 99 := fun k hk => by rw [h.tl k hk]; exact g_Tl hG k hk
theorem c_Pu {m : Mem} {f : Nat → Int} (h : RS m 21 f) (hG : GR f) : ∀ k : Nat, k < 8 → 0 ≤ m 24 k ∧ m 24 k ≤ 99 := fun k hk => by rw [h.pu k hk]; exact g_Pu hG k hk
theorem c_Lm {m : Mem} {f : Nat → Int} (h : RS m 21 f) (hG : GR f) : ∀ k : Nat, k < 8 → 0 ≤ m 25 k ∧ m 25 k ≤ 99 := fun k hk => by rw [h.lm k hk]; exact g_Lm hG k hk
theorem c_Bg {m : Mem} {f : Nat → Int} (h : RS m 21 f) (hG : GR f) : ∀ k : Nat, k < 8 → 0 ≤ m 26 k ∧ m 26 k ≤ 99 := fun k hk => by rw [h.bg k hk]; exact g_Bg hG k hk
theorem c_Tr {m : Mem} {f : Nat → Int} (h : RS m 21 f) (hG : GR f) : ∀ k : Nat, k < 8 → 0 ≤ m 27 k ∧ m 27 k ≤ 99 := fun k hk => by rw [h.tr k hk]; exact g_Tr hG k hk
theorem c_I {n : Int} {m : Mem} {f : Nat → Int} (h : RS m 21 f) (hI : RI n f) (hn : n ≤ 600) : ∀ a : Nat, 22 ≤ a → a ≤ 28 → ∀ b : Nat, b < 8 → i32 (m a b) := fun a a1 a2 b hb => by
  have q := h.2.2.1 (a - 22) (by omega) b hb
  rw [show 21 + 1 + (a - 22) = a by omega] at q
  rw [q]
  exact g_R hI hn _
/-- the tray's worth -/
theorem tray_bd {v t : Nat → Int} : ∀ {n : Nat}, (∀ k, k < n → 0 ≤ v k ∧ v k ≤ 500 ∧ 0 ≤ t k) → 0 ≤ sumN t n ∧ 0 ≤ sumN (fun k => t k * v k) n ∧ sumN (fun k => t k * v k) n ≤ 500 * sumN t n
  | 0, _ => ⟨Int.le_refl _, Int.le_refl _, Int.le_refl _⟩
  | n + 1, h => by
    obtain ⟨a1, a2, a3⟩ := tray_bd (v := v) (t := t) (n := n) (fun k hk => h k (by omega))
    obtain ⟨b1, b2, b3⟩ := h n (by omega)
    have c1 : 0 ≤ t n * v n := Int.mul_nonneg b3 b1
    have c2 : t n * v n ≤ t n * 500 := Int.mul_le_mul_of_nonneg_left b2 b3
    show 0 ≤ sumN t n + t n ∧ 0 ≤ sumN (fun k => t k * v k) n + t n * v n ∧ sumN (fun k => t k * v k) n + t n * v n ≤ 500 * (sumN t n + t n)
    omega
theorem g_Ty {f : Nat → Int} (hG : GR f) : 0 ≤ sumN (fun k => f (43 + k) * f (3 + k)) (f 0).toNat ∧ sumN (fun k => f (43 + k) * f (3 + k)) (f 0).toNat ≤ 2500 := by
  have g0 := hG.1
  have q := tray_bd (v := fun k => f (3 + k)) (t := fun k => f (43 + k)) (n := (f 0).toNat) (fun k hk => ⟨(hG.2.2.2.1 k (by omega)).1, (hG.2.2.2.1 k (by omega)).2, (g_Tr hG k (by omega)).1⟩)
  have w := hG.2.2.2.2.2.2.2.2.2
  try dsimp only at q
  omega
theorem c_Ty {m : Mem} {f : Nat → Int} (h : RS m 21 f) (hG : GR f) : 0 ≤ sumN (fun k => m 27 k * m 22 k) (m 21 0).toNat ∧ sumN (fun k => m 27 k * m 22 k) (m 21 0).toNat ≤ 2500 := by
  have g0 := hG.1
  rw [h.1, sumN_congr (g := fun k => f (43 + k) * f (3 + k)) (fun k hk => by rw [h.tr k (by omega), h.vl k (by omega)])]
  exact g_Ty hG
/-! the answers in the class's words and in the reference's -/
theorem fw_eq {v c v' c' : Nat → Nat} {n : Nat} (h : ∀ i, i < n → v i = v' i ∧ c i = c' i) : fewT v c n = fewT v' c' n := funext fun a => fewT_congr2 a h
theorem gapsF_fw {v c v' c' : Nat → Nat} {n : Nat} (h : fewT v c n = fewT v' c' n) : gapsF v c n = gapsF v' c' n := by
  unfold gapsF
  rw [h]
theorem shrF_fw {v c v' c' : Nat → Nat} {n : Nat} (h : fewT v c n = fewT v' c' n) : ∀ a, shrF v c n a = shrF v' c' n a
  | 0 => rfl
  | a + 1 => by
    unfold shrF
    rw [h, shrF_fw h a]
theorem grL_cg {v c v' c' : Nat → Nat} : ∀ (k l n : Nat), (∀ i, i < k → v i = v' i ∧ c i = c' i) → grL v c k l n = grL v' c' k l n
  | 0, _, _, _ => rfl
  | k + 1, l, n, h => by
    rw [grL_s, grL_s, (h k (by omega)).1, (h k (by omega)).2]
    exact grL_cg k _ _ (fun i hi => h i (by omega))
theorem grdF_cg {v c v' c' : Nat → Nat} {n : Nat} (h : ∀ i, i < n → v i = v' i ∧ c i = c' i) : ∀ a, grdF v c n a = grdF v' c' n a
  | 0 => rfl
  | a + 1 => by
    unfold grdF greedF
    rw [fw_eq h, grL_cg n a 0 h, grdF_cg h a]
theorem evenF_v {v v' : Nat → Nat} {n a : Nat} (h : ∀ i, i < n → v i = v' i) : ∀ (t : Nat) (w : Nat → Int), evenF v n a t w = evenF v' n a t w
  | 0, w => by
    unfold evenF chgF
    rw [fewT_congr2 (v' := v') (c' := fun i => (w i).toNat) a (fun i hi => ⟨h i hi, rfl⟩)]
  | t + 1, w => by
    rw [evenF_s, evenF_s, fewT_congr2 (v' := v') (c' := fun i => (w i).toNat) a (fun i hi => ⟨h i hi, rfl⟩), evenF_v h t]
    have e : (fun k => if k < n then w k - takR v (fun i => (w i).toNat) n a k else w k) = (fun k => if k < n then w k - takR v' (fun i => (w i).toNat) n a k else w k) := funext fun k => by
      rw [takR_congr2 (v' := v') (c' := fun i => (w i).toNat) a k (fun i hi => ⟨h i hi, rfl⟩)]
    rw [e]
theorem RS.vt {m : Mem} {f : Nat → Int} (h : RS m 21 f) {n : Nat} (hn : n ≤ 8) : ∀ i, i < n → (m 22 i).toNat = (f (3 + i)).toNat ∧ (m 23 i).toNat = (f (11 + i)).toNat := fun i hi => by rw [h.vl i (by omega), h.tl i (by omega)]; exact ⟨rfl, rfl⟩
theorem RS.vp {m : Mem} {f : Nat → Int} (h : RS m 21 f) {n : Nat} (hn : n ≤ 8) : ∀ i, i < n → (m 22 i).toNat = (f (3 + i)).toNat ∧ (m 24 i).toNat = (f (19 + i)).toNat := fun i hi => by rw [h.vl i (by omega), h.pu i (by omega)]; exact ⟨rfl, rfl⟩
/-- the k-th sale of a day, where days' sales lie together -/
theorem saleAt_eq {f : Nat → Int} {d k A C : Int} {N : Nat} (hA : 0 ≤ A) (hC : 0 ≤ C) (hN : A + C ≤ N) (h : ∀ s : Nat, (s : Int) < N → (sDay f s = d ↔ A ≤ s ∧ (s : Int) < A + C)) : ∀ (n s : Nat), s + n = N → ∀ i : Int, i = (if (s : Int) < A then 0 else if (s : Int) < A + C then s - A else C) → saleAt f d k n s i = if i ≤ k ∧ k < C then A + k else -1
  | 0, s, e, i, hi => by
    have : i = C := by rw [hi]; split <;> (try split) <;> omega
    rw [if_neg (by omega)]
    rfl
  | n + 1, s, e, i, hi => by
    have q := h s (by omega)
    have ih := saleAt_eq (k := k) hA hC hN h n (s + 1) (by omega)
    unfold saleAt
    by_cases g : sDay f s = d
    · have g2 := q.mp g
      rw [if_neg (by omega), if_pos (by omega)] at hi
      rw [if_pos g]
      by_cases g3 : i = k
      · rw [if_pos g3, if_pos (by omega)]; omega
      · rw [if_neg g3, ih (i + 1) (by split <;> (try split) <;> omega)]
        by_cases g4 : i ≤ k ∧ k < C
        · rw [if_pos g4, if_pos (by omega)]
        · rw [if_neg g4, if_neg (by omega)]
    · have g2 : ¬ (A ≤ s ∧ (s : Int) < A + C) := fun z => g (q.mpr z)
      rw [if_neg g, ih i (by rw [hi]; split <;> (try split) <;> (try split) <;> (try split) <;> omega)]
