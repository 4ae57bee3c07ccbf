/-! questions, to both -/
/-- what a question leaves of the reference, as far as later calls go -/
def K8 (m1 mv : Mem) : Prop := (∀ a, 1 ≤ a → a ≤ 7 → mv a = m1 a) ∧ mv 0 5 = m1 0 5 ∧ mv 0 7 = m1 0 7 ∧ mv 0 10 = m1 0 10 ∧ ∀ a, 20 ≤ a → mv a = m1 a
theorem K8.rf (m : Mem) : K8 m m := ⟨fun _ _ _ => rfl, rfl, rfl, rfl, fun _ _ => rfl⟩
theorem Keep.k8 {m1 mv : Mem} (h : Keep m1 mv) : K8 m1 mv := by
  obtain ⟨k1, k3, k4, k5, k6, k05, k07, ka, k10⟩ := h
  refine ⟨fun a a1 a7 => ?_, k05, k07, k10, fun a ha => ka a (Or.inl ha)⟩
  have ha : a = 1 ∨ a = 2 ∨ a = 3 ∨ a = 4 ∨ a = 5 ∨ a = 6 ∨ a = 7 := by omega
  rcases ha with rfl | rfl | rfl | rfl | rfl | rfl | rfl
  · exact k1
  · exact ka 2 (by decide)
  · exact k3
  · exact k4
  · exact k5
  · exact k6
  · exact ka 7 (by decide)
theorem CR.asked8 {n : Int} {m0 m1 mv : Mem} (h : CR n m0) (hc : KeepC m0 m1) (hk : K8 m1 mv) : CR n mv := by
  obtain ⟨k1, k2, k3, k4, k5⟩ := hk
  have c := hc.1
  exact h.frame (fun a a1 a7 => by rw [k1 a a1 a7]; exact c a (by omega)) (by rw [k2, c 0 (by decide)]) (by rw [k3, c 0 (by decide)]) (by rw [k4, c 0 (by decide)]) (fun a a1 a2 => by rw [k5 a a1]; exact c a a2) (hc.2.congr (fun a a1 a2 _ _ => k5 a (by omega)))
theorem ask_of {l : Launch} {w : Int → PV} {ty : FieldType} {n : Int} {m0 : Mem} {y7 y8 : MethodName} {c7 c8 : ByteArray} {L7 L8 d7 d8 : Nat} {as : List PV} {E : Int} (h : CR n m0)
    (h7 : Ret shp l y7 c7 L7 (some ty) d7 (pR 20 :: as) m0 (fun rv mv => ∃ z, rv = some (w z) ∧ KeepC m0 mv ∧ z = E))
    (h8 : ∀ m1, KeepC m0 m1 → m1 1 = m0 1 → Ret shp l y8 c8 L8 (some ty) d8 (pR 0 :: as) m1 (fun rv mv => ∃ z, rv = some (w z) ∧ K8 m1 mv ∧ z = E)) : Two l w ty n m0 y7 c7 L7 d7 y8 c8 L8 d8 as :=
  h7.imp (fun r m1 ⟨z, hz, hk, e⟩ => ⟨z, hz, (h8 m1 hk (hk.1 1 (by decide))).imp (fun r2 mv ⟨y, hy, hk2, e2⟩ => ⟨by rw [hy, e, e2], ((h.asked8 hk hk2).mono (by omega)).x⟩)⟩)
section QS
variable {n : Int} {m0 : Mem} (l : Launch)
theorem t_kind (h : CR n m0) {a b : Int} (ha : i32 a) (hb : i32 b) : Two l pI .int n m0 yX7_kind cX7_kind 3 1 yX8_kind cX8_kind 3 2 [pI a, pI b] := by
  obtain ⟨hRI, hRS⟩ := h.2.2.1
  have hG := hRI.1
  have g0 := hG.1
  refine ask_of h ((m_X7_kind l a b m0 ha hb (c_N hRS hG)).imp (fun r mv ⟨p, q⟩ => ⟨_, p, by rw [← q]; exact KeepC.rf h.2.2.2.1, rfl⟩)) (fun m1 hk e1 => (m_X8_kind l a b m1 ha hb (by rw [e1]; exact g_N hG)).imp (fun r mv ⟨p, q⟩ => ⟨_, p, by rw [← q]; exact K8.rf m1, ?_⟩))
  rw [e1, hRS.1]
  by_cases g : (0 ≤ a ∧ a < m0 1 0) ∧ 0 ≤ b ∧ b ≤ 6
  · rw [if_pos ⟨g.1.1, g.1.2, g.2⟩, if_pos g]
    have q := hRS.2.2.1 b.toNat (by omega) a.toNat (by omega)
    rw [show 21 + 1 + b.toNat = 22 + b.toNat by omega] at q
    rw [q]
    congr 1
    omega
  · rw [if_neg (fun z => g ⟨⟨z.1, z.2.1⟩, z.2.2⟩), if_neg g]
theorem t_change (h : CR n m0) {a : Int} (ha : i32 a) : Two l pI .int n m0 yX7_change cX7_change 3 4 yX8_change cX8_change 3 4 [pI a] := by
  obtain ⟨hRI, hRS⟩ := h.2.2.1
  have hG := hRI.1
  have g0 := hG.1
  refine ask_of h (m_X7_change l a m0 ha h.2.2.2.1 (c_N hRS hG) (c_V hRS hG) (c_V1 hRS hG) (c_Tl hRS hG)) (fun m1 hk e1 => (m_X8_change l a m1 ha (by rw [e1]; exact g_N hG) (by rw [e1]; exact g_Vl hG) (by rw [e1]; exact g_Tl hG)).imp (fun r mv ⟨z, p, q, e⟩ => ⟨z, p, q.k8, ?_⟩))
  rw [e, e1, hRS.1]
  unfold chgF
  rw [fw_eq (hRS.vt (n := (m0 1 0).toNat) (by omega))]
theorem t_piece (h : CR n m0) {a b : Int} (ha : i32 a) (hb : i32 b) : Two l pI .int n m0 yX7_piece cX7_piece 3 4 yX8_piece cX8_piece 4 4 [pI a, pI b] := by
  obtain ⟨hRI, hRS⟩ := h.2.2.1
  have hG := hRI.1
  have g0 := hG.1
  refine ask_of h (m_X7_piece l a b m0 ha hb h.2.2.2.1 (c_N hRS hG) (c_V hRS hG) (c_V1 hRS hG) (c_Tl hRS hG)) (fun m1 hk e1 => (m_X8_piece l a b m1 ha hb (by rw [e1]; exact g_N hG) (by rw [e1]; exact g_Vl hG) (by rw [e1]; exact g_Tl hG)).imp (fun r mv ⟨z, p, q, e⟩ => ⟨z, p, q.k8, ?_⟩))
  rw [e, e1, hRS.1, fw_eq (hRS.vt (n := (m0 1 0).toNat) (by omega)), takR_congr2 _ _ (hRS.vt (n := (m0 1 0).toNat) (by omega))]
theorem t_settle (h : CR n m0) {a b : Int} (ha : i32 a) (hb : i32 b) : Two l pI .int n m0 yX7_settle cX7_settle 4 5 yX8_settle cX8_settle 4 3 [pI a, pI b] := by
  obtain ⟨hRI, hRS⟩ := h.2.2.1
  have hG := hRI.1
  have g0 := hG.1
  obtain ⟨sV, sD⟩ := st_rs hRS hG a
  refine ask_of h (m_X7_settle l a b m0 ha hb h.2.2.2.1 (c_N hRS hG) (c_V hRS hG) (c_V1 hRS hG) (c_Tl hRS hG) (c_Pu hRS hG)) (fun m1 hk e1 => (m_X8_settle l a b m1 ha hb (by rw [e1]; exact hG)).imp (fun r mv ⟨z, p, q, e⟩ => ⟨z, p, ⟨fun a a1 a2 => q a (by omega) (by omega), by rw [q 0 (by decide) (by decide)], by rw [q 0 (by decide) (by decide)], by rw [q 0 (by decide) (by decide)], fun a a1 => q a (by omega) (by omega)⟩, ?_⟩))
  show z = if (1 ≤ a ∧ a ≤ 1000) ∧ (b = -1 ∨ 0 ≤ b ∧ b < m0 21 0) then (if stV m0 a < 1000000 then (if b = -1 then stV m0 a else stD m0 a b.toNat) else -100) else -1000
  rw [e, e1, hRS.1, sV, sD]
theorem t_ways (h : CR n m0) {a : Int} (ha : i32 a) : Two l pL .long n m0 yX7_ways cX7_ways 3 1 yX8_ways cX8_ways 6 4 [pI a] := by
  obtain ⟨hRI, hRS⟩ := h.2.2.1
  have hG := hRI.1
  have g0 := hG.1
  refine ask_of h (m_X7_ways l a m0 ha h.2.2.2.1 (c_N hRS hG) (c_V hRS hG) (c_V1 hRS hG) (c_Tl hRS hG)) (fun m1 hk e1 => (m_X8_ways l a m1 ha (by rw [e1]; exact g_N hG) (by rw [e1]; exact g_Vl hG) (by rw [e1]; exact g_Tl hG)).imp (fun r mv ⟨z, p, q, e⟩ => ⟨z, p, ⟨fun a a1 a2 => q a (by omega), by rw [q 0 (by decide)], by rw [q 0 (by decide)], by rw [q 0 (by decide)], fun a a1 => q a (by omega)⟩, ?_⟩))
  rw [e, e1, hRS.1]
  by_cases g : 0 ≤ a ∧ a ≤ 2500
  · rw [if_pos g, if_pos g]
    unfold waysF
    exact (wayN_congr (fun _ _ => rfl) _ (fun i hi => ⟨((hRS.vt (n := (m0 1 0).toNat) (by omega)) i hi).1.symm, ((hRS.vt (n := (m0 1 0).toNat) (by omega)) i hi).2.symm⟩) _ (Nat.le_refl _))
  · rw [if_neg g, if_neg g]
theorem t_gap (h : CR n m0) {a : Int} (ha : i32 a) : Two l pI .int n m0 yX7_gap cX7_gap 2 3 yX8_gap cX8_gap 4 4 [pI a] := by
  obtain ⟨hRI, hRS⟩ := h.2.2.1
  have hG := hRI.1
  refine ask_of h (m_X7_gap l (m0 1) a m0 ha h.2.2.2.1 hRS hG) (fun m1 hk e1 => (m_X8_gap l a m1 ha (by rw [e1]; exact g_N hG) (by rw [e1]; exact g_Vl hG) (by rw [e1]; exact g_Tl hG)).imp (fun r mv ⟨z, p, q, e⟩ => ⟨z, p, q.k8, ?_⟩))
  rw [e, e1]
  by_cases a0 : a = 0
  · rw [if_pos a0, if_pos (by omega), if_pos a0]
  · rw [if_neg a0]
    by_cases a1 : a = 1
    · rw [if_pos a1, if_pos (by omega), if_neg a0]
    · rw [if_neg a1, if_neg (by omega)]
theorem t_scarce (h : CR n m0) {a : Int} (ha : i32 a) : Two l pI .int n m0 yX7_scarce cX7_scarce 5 3 yX8_scarce cX8_scarce 6 4 [pI a] := by
  obtain ⟨hRI, hRS⟩ := h.2.2.1
  have hG := hRI.1
  refine ask_of h (m_X7_scarce l (m0 1) a m0 ha h.2.2.2.1 hRS hG) (fun m1 hk e1 => (m_X8_scarce l a m1 ha (by rw [e1]; exact g_N hG) (by rw [e1]; exact g_Vl hG) (by rw [e1]; exact g_Tl hG)).imp (fun r mv ⟨z, p, q, e⟩ => ⟨z, p, q.k8, ?_⟩))
  rw [e, e1]
theorem t_day (h : CR n m0) (hn : n ≤ 600) {a b : Int} (ha : i32 a) (hb : i32 b) : Two l pI .int n m0 yX7_day cX7_day 3 6 yX8_day cX8_day 3 7 [pI a, pI b] := by
  obtain ⟨hRI, hRS⟩ := h.2.2.1
  have hG := hRI.1
  have g0 := hG.1
  refine ask_of h (m_X7_day l (m0 1) a b m0 ha hb h.2.2.2.1 hRS hG) (fun m1 hk e1 => (m_X8_day l a b m1 ha hb (by rw [e1]; exact g_N1 hG) (by rw [e1]; exact g_N hG) (by rw [e1]; exact g_Vl hG) (by rw [e1]; exact g_N2 hG) (by rw [e1]; exact g_R hRI hn) (by rw [e1]; exact g_Ab hG) (by rw [e1]; exact g_G hG) (by rw [e1]; exact g_Tl hG)).imp (fun r mv ⟨z, p, q, e⟩ => ⟨z, p, q.k8, ?_⟩))
  obtain ⟨l1, l2, l3⟩ := lifeD_LF hG e1 a
  rw [e, e1, l3, noneAt_congr (g := (lifeD m1 a).1) (h := (LF (m0 1) a (tilF (m0 1))).1) _ 0 (fun i _ hi => l1 i (by omega))]
theorem t_behind (h : CR n m0) (hn : n ≤ 600) {a b c : Int} (ha : i32 a) (hb : i32 b) (hc : i32 c) : Two l pI .int n m0 yX7_behind cX7_behind 5 6 yX8_behind cX8_behind 5 7 [pI a, pI b, pI c] := by
  obtain ⟨hRI, hRS⟩ := h.2.2.1
  have hG := hRI.1
  have g0 := hG.1
  refine ask_of h (m_X7_behind l (m0 1) a b c m0 ha hb hc h.2.2.2.1 hRS hG) (fun m1 hk e1 => (m_X8_behind l a b c m1 ha hb hc (by rw [e1]; exact g_N1 hG) (by rw [e1]; exact g_N hG) (by rw [e1]; exact g_Vl hG) (by rw [e1]; exact g_N2 hG) (by rw [e1]; exact g_R hRI hn) (by rw [e1]; exact g_Ab hG) (by rw [e1]; exact g_G hG) (by rw [e1]; exact g_Tl hG)).imp (fun r mv ⟨z, p, q, e⟩ => ⟨z, p, q.k8, ?_⟩))
  rw [e, e1]
  by_cases g : (0 ≤ a ∧ a < m0 1 1) ∧ (1 ≤ b ∧ b ≤ 20) ∧ 0 ≤ c ∧ c < m0 1 0
  · rw [if_pos g, if_pos g]
    exact again_congr g0.2 (fun k hk => by rw [tillW_at hk, e1]; rfl) _ _ (by omega)
  · rw [if_neg g, if_neg g]
theorem t_lasts (h : CR n m0) (hn : n ≤ 600) {a : Int} (ha : i32 a) : Two l pI .int n m0 yX7_lasts cX7_lasts 3 6 yX8_lasts cX8_lasts 4 7 [pI a] := by
  obtain ⟨hRI, hRS⟩ := h.2.2.1
  have hG := hRI.1
  have g0 := hG.1
  refine ask_of h (m_X7_lasts l (m0 1) a m0 ha h.2.2.2.1 hRS hG) (fun m1 hk e1 => (m_X8_lasts l a m1 ha (by rw [e1]; exact g_N1 hG) (by rw [e1]; exact g_N hG) (by rw [e1]; exact g_Vl hG) (by rw [e1]; exact g_N2 hG) (by rw [e1]; exact g_R hRI hn) (by rw [e1]; exact g_Ab hG) (by rw [e1]; exact g_G hG) (by rw [e1]; exact g_Tl hG)).imp (fun r mv ⟨z, p, q, e⟩ => ⟨z, p, q.k8, ?_⟩))
  rw [e, e1, last_congr g0.2 50 (w' := tilF (m0 1)) (low' := fun _ => 0) (fun k hk => by rw [tillW_at hk, e1]; rfl)]
theorem t_trim (h : CR n m0) (hn : n ≤ 600) {a b : Int} (ha : i32 a) (hb : i32 b) : Two l pI .int n m0 yX7_trim cX7_trim 6 6 yX8_trim cX8_trim 7 8 [pI a, pI b] := by
  obtain ⟨hRI, hRS⟩ := h.2.2.1
  have hG := hRI.1
  have g0 := hG.1
  refine ask_of h (m_X7_trim l (m0 1) a b m0 ha hb h.2.2.2.1 hRS hG) (fun m1 hk e1 => (m_X8_trim l a b m1 ha hb (by rw [e1]; exact g_N1 hG) (by rw [e1]; exact g_N hG) (by rw [e1]; exact g_Vl hG) (by rw [e1]; exact g_N2 hG) (by rw [e1]; exact g_R hRI hn) (by rw [e1]; exact g_Ab hG) (by rw [e1]; exact g_G hG) (by rw [e1]; exact g_Tl hG)).imp (fun r mv ⟨z, p, q, e⟩ => ⟨z, p, q.k8, ?_⟩))
  have hw : ∀ k, k < 8 → (fun i => if i < 8 then m0 1 (11 + i) else m1 18 i) k = tilF (m0 1) k := fun k hk => if_pos hk
  have hA : ∀ k, k < 8 → trimA (m0 1) a (m0 1 2).toNat (shR (m0 1) a (m0 1 2).toNat (fun i => if i < 8 then m0 1 (11 + i) else m1 18 i)) (m0 1 0).toNat (fun i => if i < 8 then m0 1 (11 + i) else m1 18 i) k = trmC (m0 1) a k := fun k hk => by
    rw [shR_congr g0.2 hw]
    exact trimA_congr g0.2 _ (by omega) hw k hk
  rw [e, e1]
  by_cases g : (0 ≤ a ∧ a < m0 1 1) ∧ (b = -1 ∨ 0 ≤ b ∧ b < m0 1 0)
  · rw [if_pos g, if_pos g]
    by_cases g2 : b = -1
    · rw [if_pos g2, if_pos g2]
      exact sumN_congr (fun k hk => by rw [hA k (by omega)])
    · rw [if_neg g2, if_neg g2]
      exact hA _ (by omega)
  · rw [if_neg g, if_neg g]
theorem wor_eq {m : Mem} {f : Nat → Int} (hG : GR f) (e : m 1 = f) : ∀ k : Nat, worstF m k = worC f k
  | 0 => rfl
  | k + 1 => by
    unfold worstF worC
    rw [wor_eq hG e k, (lifeD_LF hG e k).2.2]
theorem t_worst (h : CR n m0) (hn : n ≤ 600) {a : Int} (ha : i32 a) : Two l pI .int n m0 yX7_worst cX7_worst 6 6 yX8_worst cX8_worst 6 7 [pI a] := by
  obtain ⟨hRI, hRS⟩ := h.2.2.1
  have hG := hRI.1
  refine ask_of h (m_X7_worst l (m0 1) a m0 ha h.2.2.2.1 hRS hG) (fun m1 hk e1 => (m_X8_worst l a m1 ha (by rw [e1]; exact g_N1 hG) (by rw [e1]; exact g_N hG) (by rw [e1]; exact g_Vl hG) (by rw [e1]; exact g_N2 hG) (by rw [e1]; exact g_R hRI hn) (by rw [e1]; exact g_Ab hG) (by rw [e1]; exact g_G hG) (by rw [e1]; exact g_Tl hG)).imp (fun r mv ⟨z, p, q, e⟩ => ⟨z, p, q.k8, ?_⟩))
  rw [e, wor_eq hG e1, e1]
theorem t_bags (h : CR n m0) {a : Int} (ha : i32 a) : Two l pI .int n m0 yX7_bags cX7_bags 4 1 yX8_bags cX8_bags 3 2 [pI a] := by
  obtain ⟨hRI, hRS⟩ := h.2.2.1
  have hG := hRI.1
  have g0 := hG.1
  refine ask_of h ((m_X7_bags l a m0 ha (c_N hRS hG) (c_Tl hRS hG) (c_Lm hRS hG) (c_Bg hRS hG)).imp (fun r mv ⟨p, q⟩ => ⟨_, p, by rw [← q]; exact KeepC.rf h.2.2.2.1, rfl⟩)) (fun m1 hk e1 => (m_X8_bags l a m1 ha (by rw [e1]; exact g_N hG) (by rw [e1]; exact g_Tl hG) (by rw [e1]; exact g_Lm hG) (by rw [e1]; exact g_B1 hG)).imp (fun r mv ⟨p, q⟩ => ⟨_, p, by rw [← q]; exact K8.rf m1, ?_⟩))
  rw [e1, hRS.1]
  by_cases g : 0 ≤ a ∧ a < m0 1 0
  · rw [if_pos g, if_pos g]
    have b1 := g_B1 hG a.toNat (by omega)
    have e27 : (27 + a).toNat = 27 + a.toNat := by omega
    have e11 : (11 + a).toNat = 11 + a.toNat := by omega
    have e35 : (35 + a).toNat = 35 + a.toNat := by omega
    rw [e27, e11, e35, hRS.lm a.toNat (by omega), hRS.tl a.toNat (by omega), hRS.bg a.toNat (by omega)]
    by_cases g2 : m0 1 (27 + a.toNat) - m0 1 (11 + a.toNat) ≤ 0
    · rw [if_pos (Or.inl g2)]
      have e0 : max 0 (m0 1 (27 + a.toNat) - m0 1 (11 + a.toNat)) = 0 := by omega
      rw [e0]
      exact Int.tdiv_eq_zero_of_lt (by omega) (by omega)
    · rw [if_neg (by omega)]
      have e0 : max 0 (m0 1 (27 + a.toNat) - m0 1 (11 + a.toNat)) = m0 1 (27 + a.toNat) - m0 1 (11 + a.toNat) := by omega
      rw [e0]
  · rw [if_neg g, if_neg g]
theorem t_mean (h : CR n m0) (hn : n ≤ 600) {a : Int} (ha : i32 a) : Two l pL .long n m0 yX7_mean cX7_mean 2 6 yX8_mean cX8_mean 2 7 [pI a] := by
  obtain ⟨hRI, hRS⟩ := h.2.2.1
  have hG := hRI.1
  refine ask_of h (m_X7_mean l (m0 1) a m0 ha h.2.2.2.1 hRS hG) (fun m1 hk e1 => (m_X8_mean l a m1 ha (by rw [e1]; exact g_N1 hG) (by rw [e1]; exact g_N hG) (by rw [e1]; exact g_Vl hG) (by rw [e1]; exact g_N2 hG) (by rw [e1]; exact g_R hRI hn) (by rw [e1]; exact g_Ab hG) (by rw [e1]; exact g_G hG) (by rw [e1]; exact g_Tl hG)).imp (fun r mv ⟨z, p, q, e⟩ => ⟨z, p, q.k8, ?_⟩))
  rw [e, e1, (lifeD_LF hG e1 a).2.2]
theorem t_pays (h : CR n m0) {a b : Int} (ha : i32 a) (hb : i32 b) : Two l pI .int n m0 yX7_pays cX7_pays 4 4 yX8_pays cX8_pays 4 4 [pI a, pI b] := by
  obtain ⟨hRI, hRS⟩ := h.2.2.1
  have hG := hRI.1
  have g0 := hG.1
  refine ask_of h (m_X7_pays l a b m0 ha hb h.2.2.2.1 (c_N hRS hG) (c_V hRS hG) (c_V1 hRS hG) (c_Pu hRS hG)) (fun m1 hk e1 => (m_X8_pays l a b m1 ha hb (by rw [e1]; exact g_N hG) (by rw [e1]; exact g_Vl hG) (by rw [e1]; exact g_Pu hG)).imp (fun r mv ⟨z, p, q, e⟩ => ⟨z, p, q.k8, ?_⟩))
  rw [e, e1, hRS.1, fw_eq (hRS.vp (n := (m0 1 0).toNat) (by omega)), takR_congr2 _ _ (hRS.vp (n := (m0 1 0).toNat) (by omega))]
theorem t_swap (h : CR n m0) {a b : Int} (ha : i32 a) (hb : i32 b) : Two l pI .int n m0 yX7_swap cX7_swap 4 4 yX8_swap cX8_swap 4 4 [pI a, pI b] := by
  obtain ⟨hRI, hRS⟩ := h.2.2.1
  have hG := hRI.1
  have g0 := hG.1
  refine ask_of h (m_X7_swap l a b m0 ha hb h.2.2.2.1 (c_N hRS hG) (c_V hRS hG) (c_V1 hRS hG) (c_Tl hRS hG) (c_Pu hRS hG)) (fun m1 hk e1 => (m_X8_swap l a b m1 ha hb (by rw [e1]; exact g_N hG) (by rw [e1]; exact g_Vl hG) (by rw [e1]; exact g_Tl hG) (by rw [e1]; exact g_Pu hG)).imp (fun r mv ⟨z, p, q, e⟩ => ⟨z, p, q.k8, ?_⟩))
  rw [e, e1, hRS.1]
  by_cases g : 0 ≤ a ∧ a < m0 1 0
  · have e3 : (3 + a).toNat = 3 + a.toNat := by omega
    have e19 : (19 + a).toNat = 19 + a.toNat := by omega
    rw [e3, e19, fw_eq (hRS.vt (n := a.toNat) (by omega)), hRS.vl a.toNat (by omega), hRS.pu a.toNat (by omega)]
  · rw [if_neg (fun z => g z.1), if_neg (fun z => g z.1)]
theorem t_needs (h : CR n m0) (hn : n ≤ 600) {a b : Int} (ha : i32 a) (hb : i32 b) : Two l pI .int n m0 yX7_needs cX7_needs 5 6 yX8_needs cX8_needs 4 15 [pI a, pI b] := by
  obtain ⟨hRI, hRS⟩ := h.2.2.1
  have hG := hRI.1
  have g0 := hG.1
  refine ask_of h (m_X7_needs l (m0 1) a b m0 ha hb h.2.2.2.1 hRS hG hRI.2.1) (fun m1 hk e1 => (m_X8_needs l a b m1 ha hb (by rw [e1]; exact hG) (by rw [e1]; exact g_R hRI hn) (by rw [e1]; exact hRI.2.1)).imp (fun r mv ⟨z, p, q, q0, e⟩ => ⟨z, p, ⟨fun a a1 a2 => q a (by omega) (by omega) (by omega) (by omega) (by omega) (by omega) (by omega) (by omega), q0 5 (by decide), q0 7 (by decide), q0 10 (by decide), fun a a1 => q a (by omega) (by omega) (by omega) (by omega) (by omega) (by omega) (by omega) (by omega)⟩, ?_⟩))
  rw [e, e1]
  by_cases g : (0 ≤ a ∧ a < m0 1 1) ∧ (b = -1 ∨ 0 ≤ b ∧ b < m0 1 0)
  · rw [if_pos g, if_pos g]
    have hk1 := hRI.2.1 (by omega)
    have hg : ∀ a1 b1 : Nat → Int, (∀ i, i < (m0 1 0).toNat → a1 i = b1 i) → wellB (m0 1) a a1 = wellB (m0 1) a b1 := fun _ _ q => wellB_cong g0 q
    have h0 := fbR_cong0 (n := (m0 1 0).toNat) (by omega) hg 0 (m1 19) (fun _ => 0)
    have key : (neLoop (fun b r => fbR (wellB (m0 1) a) ((m0 1 0).toNat - 1) 0 b r) 5 0 (m1 19)).1 = (neF (m0 1) a).1 ∧ ∀ i, i < (m0 1 0).toNat → (neLoop (fun b r => fbR (wellB (m0 1) a) ((m0 1 0).toNat - 1) 0 b r) 5 0 (m1 19)).2 i = (neF (m0 1) a).2 i := by
      unfold neF
      rw [neLoop_s _ 4 0 (m1 19), neLoop_s _ 4 0 (fun _ => 0)]
      rw [h0.1]
      by_cases c : (fbR (wellB (m0 1) a) ((m0 1 0).toNat - 1) 0 0 (fun _ => 0)).1 = true
      · rw [if_pos c, if_pos c]
        exact ⟨rfl, h0.2⟩
      · rw [if_neg c, if_neg c]
        exact ne_cong hg _ 4 1 _ _ h0.2
    rw [key.1]
    by_cases c : (neF (m0 1) a).1 = -2
    · rw [if_pos c, if_pos c]
    · rw [if_neg c, if_neg c]
      by_cases c2 : b = -1
      · rw [if_pos c2, if_pos c2]
      · rw [if_neg c2, if_neg c2]
        exact key.2 _ (by omega)
  · rw [if_neg g, if_neg g]
theorem t_dearest (h : CR n m0) {a : Int} (ha : i32 a) : Two l pI .int n m0 yX7_dearest cX7_dearest 6 4 yX8_dearest cX8_dearest 6 4 [pI a] := by
  obtain ⟨hRI, hRS⟩ := h.2.2.1
  have hG := hRI.1
  have g0 := hG.1
  refine ask_of h (m_X7_dearest l a m0 ha h.2.2.2.1 (c_N hRS hG) (c_V hRS hG) (c_V1 hRS hG) (c_Tl hRS hG)) (fun m1 hk e1 => (m_X8_dearest l a m1 ha (by rw [e1]; exact g_N hG) (by rw [e1]; exact g_Vl hG) (by rw [e1]; exact g_Tl hG)).imp (fun r mv ⟨z, p, q, e⟩ => ⟨z, p, q.k8, ?_⟩))
  rw [e, e1, hRS.1, fw_eq (hRS.vt (n := (m0 1 0).toNat) (by omega))]
theorem t_share (h : CR n m0) : Two l pL .long n m0 yX7_share cX7_share 7 4 yX8_share cX8_share 4 4 [] := by
  obtain ⟨hRI, hRS⟩ := h.2.2.1
  have hG := hRI.1
  have g0 := hG.1
  refine ask_of h (m_X7_share l m0 h.2.2.2.1 (c_N hRS hG) (c_V hRS hG) (c_V1 hRS hG) (c_Tl hRS hG)) (fun m1 hk e1 => (m_X8_share l m1 (by rw [e1]; exact g_N hG) (by rw [e1]; exact g_Vl hG) (by rw [e1]; exact g_Tl hG)).imp (fun r mv ⟨z, p, q, e⟩ => ⟨z, p, q.k8, ?_⟩))
  rw [e, e1, hRS.1, shrF_fw (fw_eq (hRS.vt (n := (m0 1 0).toNat) (by omega)))]
theorem t_greedy (h : CR n m0) {a : Int} (ha : i32 a) : Two l pI .int n m0 yX7_greedy cX7_greedy 6 4 yX8_greedy cX8_greedy 5 4 [pI a] := by
  obtain ⟨hRI, hRS⟩ := h.2.2.1
  have hG := hRI.1
  have g0 := hG.1
  refine ask_of h (m_X7_greedy l a m0 ha h.2.2.2.1 (c_N hRS hG) (c_V hRS hG) (c_V1 hRS hG) (c_Tl hRS hG)) (fun m1 hk e1 => (m_X8_greedy l a m1 ha (by rw [e1]; exact g_N hG) (by rw [e1]; exact g_Vl hG) (by rw [e1]; exact g_Tl hG)).imp (fun r mv ⟨z, p, q, e⟩ => ⟨z, p, q.k8, ?_⟩))
  rw [e, e1, hRS.1, grdF_cg (hRS.vt (n := (m0 1 0).toNat) (by omega))]
theorem t_letter (h : CR n m0) {a : Int} (ha : i32 a) : Two l pI .int n m0 yX7_letter cX7_letter 2 7 yX8_letter cX8_letter 2 7 [pI a] := by
  obtain ⟨hRI, hRS⟩ := h.2.2.1
  have hG := hRI.1
  have g0 := hG.1
  refine ask_of h ((m_X7_letter l (m0 1) a m0 hRS hG ha).imp (fun r mv ⟨p, q⟩ => ⟨_, p, ?_, rfl⟩)) (fun m1 hk e1 => (m_X8_letter l a m1 ha (by rw [e1]; exact g_N hG) (by rw [e1]; exact g_N1 hG) (by rw [e1]; exact g_N2 hG) (fun k hk => ?_) (fun s hs => ?_)).imp (fun r mv ⟨p, q⟩ => ⟨_, p, ?_, ?_⟩))
  · by_cases g : a < -1
    · rw [q, if_pos g]; exact KeepC.rf h.2.2.2.1
    · rw [if_neg g] at q
      have w : ∀ c, c ≠ 209 → mv c = m0 c := fun c hc => by rw [q, (wcM_at _ _).2.2 c hc, mset_nka hc, mset_nka hc, mset_nka hc]
      exact ⟨fun c hc => w c (by omega), h.2.2.2.1.congr (fun c c1 c2 _ _ => w c (by omega))⟩
  · rw [e1]
    by_cases k8 : k < 8
    · have := hG.2.2.2.1 k k8; omega
    · have q := hG.2.2.2.2.2.1 ((k - 8) / 8) (by omega) ((k - 8) % 8) (by omega)
      rw [show 11 + 8 * ((k - 8) / 8) + (k - 8) % 8 = 3 + k by omega] at q
      omega
  · rw [e1] at hs ⊢
    obtain ⟨q1, q2, q3, q4⟩ := hG.2.2.2.2.2.2.2.1 s hs
    have g1 := hG.2.1
    unfold sDay at q1
    unfold sPrice at q2
    refine ⟨⟨by omega, by omega⟩, ?_, fun k hk => ?_⟩
    · rw [show 59 + 10 * s + 1 = 60 + 10 * s by omega]; omega
    · have q := q3 k hk
      unfold sGiven at q
      rw [show 59 + 10 * s + 2 + k = 61 + 10 * s + k by omega]; omega
  · by_cases g : a < -1
    · rw [q, if_pos g]; exact K8.rf m1
    · rw [if_neg g] at q
      have t := wrM_at (allT (m1 1)) (mset (mset m1 0 32 a) 0 31 0)
      have w : ∀ c, c ≠ 0 → mv c = m1 c := fun c hc => by rw [q, t.2.2 c hc, mset_nka hc, mset_nka hc]
      have w0 : ∀ j, j ≠ 31 → j ≠ 32 → j ≠ 33 → mv 0 j = m1 0 j := fun j j1 j2 j3 => by rw [q, t.2.1 j j1 j3, mset_ne (fun z => j1 z.2), mset_ne (fun z => j2 z.2)]
      exact ⟨fun c c1 _ => w c (by omega), w0 5 (by decide) (by decide) (by decide), w0 7 (by decide) (by decide) (by decide), w0 10 (by decide) (by decide) (by decide), fun c c1 => w c (by omega)⟩
  · rw [e1]
theorem t_flow (h : CR n m0) (hn : n ≤ 600) {a b : Int} (ha : i32 a) (hb : i32 b) : Two l pI .int n m0 yX7_flow cX7_flow 3 6 yX8_flow cX8_flow 3 7 [pI a, pI b] := by
  obtain ⟨hRI, hRS⟩ := h.2.2.1
  have hG := hRI.1
  have g0 := hG.1
  refine ask_of h (m_X7_flow l (m0 1) a b m0 ha hb h.2.2.2.1 hRS hG) (fun m1 hk e1 => (m_X8_flow l a b m1 ha hb (by rw [e1]; exact g_N1 hG) (by rw [e1]; exact g_N hG) (by rw [e1]; exact g_Vl hG) (by rw [e1]; exact g_N2 hG) (by rw [e1]; exact g_R hRI hn) (by rw [e1]; exact g_Ab hG) (by rw [e1]; exact g_G hG) (by rw [e1]; exact g_Tl hG)).imp (fun r mv ⟨z, p, q, e⟩ => ⟨z, p, q.k8, ?_⟩))
  rw [e, e1]
  by_cases g : (0 ≤ a ∧ a < m0 1 1) ∧ 0 ≤ b ∧ b < m0 1 0
  · rw [if_pos g, if_pos g]
    exact (lifeD_LF hG e1 a).2.1 _ (by omega)
  · rw [if_neg g, if_neg g]
theorem t_gone (h : CR n m0) (hn : n ≤ 600) {a b : Int} (ha : i32 a) (hb : i32 b) : Two l pI .int n m0 yX7_gone cX7_gone 3 6 yX8_gone cX8_gone 3 7 [pI a, pI b] := by
  obtain ⟨hRI, hRS⟩ := h.2.2.1
  have hG := hRI.1
  refine ask_of h (m_X7_gone l (m0 1) a b m0 ha hb h.2.2.2.1 hRS hG) (fun m1 hk e1 => (m_X8_gone l a b m1 ha hb (by rw [e1]; exact g_N1 hG) (by rw [e1]; exact g_N hG) (by rw [e1]; exact g_Vl hG) (by rw [e1]; exact g_N2 hG) (by rw [e1]; exact g_R hRI hn) (by rw [e1]; exact g_Ab hG) (by rw [e1]; exact g_G hG) (by rw [e1]; exact g_Tl hG)).imp (fun r mv ⟨z, p, q, e⟩ => ⟨z, p, q.k8, ?_⟩))
  rw [e, e1, (lifeD_LF hG e1 a).2.2]
theorem t_even (h : CR n m0) {a b : Int} (ha : i32 a) (hb : i32 b) : Two l pI .int n m0 yX7_even cX7_even 6 4 yX8_even cX8_even 5 4 [pI a, pI b] := by
  obtain ⟨hRI, hRS⟩ := h.2.2.1
  have hG := hRI.1
  have g0 := hG.1
  refine ask_of h (m_X7_even l a b m0 ha hb h.2.2.2.1 (c_N hRS hG) (c_V hRS hG) (c_V1 hRS hG) (c_Tl hRS hG)) (fun m1 hk e1 => (m_X8_even l a b m1 ha hb (by rw [e1]; exact g_N hG) (by rw [e1]; exact g_Vl hG) (by rw [e1]; exact g_Tl hG)).imp (fun r mv ⟨z, p, q, e⟩ => ⟨z, p, q.k8, ?_⟩))
  rw [e, e1, hRS.1, evenF_v (v' := fun i => (m0 1 (3 + i)).toNat) (fun i hi => ((hRS.vt (n := (m0 1 0).toNat) (by omega)) i hi).1), evenF_congr (w' := m0 23) (by omega) _ (fun k hk => by rw [tillW_at hk, e1, hRS.tl k hk])]
theorem t_total (h : CR n m0) {a : Int} (ha : i32 a) : Two l pI .int n m0 yX7_total cX7_total 2 1 yX8_total cX8_total 2 2 [pI a] := by
  obtain ⟨hRI, hRS⟩ := h.2.2.1
  have hG := hRI.1
  have g0 := hG.1
  refine ask_of h ((m_X7_total l a m0 ha (c_N hRS hG)).imp (fun r mv ⟨p, q⟩ => ⟨_, p, by rw [← q]; exact KeepC.rf h.2.2.2.1, rfl⟩)) (fun m1 hk e1 => (m_X8_total l a m1 ha (by rw [e1]; exact g_N hG)).imp (fun r mv ⟨p, q⟩ => ⟨_, p, by rw [← q]; exact K8.rf m1, ?_⟩))
  rw [e1, hRS.1]
  by_cases g : 0 ≤ a ∧ a ≤ 4
  · rw [if_pos g, if_pos g]
    refine sumN_congr (fun k hk => ?_)
    rw [hRS.vl k (by omega)]
    have ha5 : a = 0 ∨ a = 1 ∨ a = 2 ∨ a = 3 ∨ a = 4 := by omega
    rcases ha5 with rfl | rfl | rfl | rfl | rfl
    · rw [if_pos rfl, if_pos rfl, hRS.tl k (by omega)]
    · rw [if_neg (by decide), if_pos rfl, if_neg (by decide), if_pos rfl, hRS.pu k (by omega)]
    · rw [if_neg (by decide), if_neg (by decide), if_pos rfl, if_neg (by decide), if_neg (by decide), if_pos rfl, hRS.sf k (by omega)]
    · rw [if_neg (by decide), if_neg (by decide), if_neg (by decide), if_pos rfl, if_neg (by decide), if_neg (by decide), if_neg (by decide), if_pos rfl, hRS.tr k (by omega)]
    · rw [if_neg (by decide), if_neg (by decide), if_neg (by decide), if_neg (by decide), if_neg (by decide), if_neg (by decide), if_neg (by decide), if_neg (by decide), hRS.lm k (by omega)]
  · rw [if_neg g, if_neg g]
theorem bitsN_cg {f g : Nat → Bool} : ∀ {n : Nat}, (∀ i, i < n → f i = g i) → bitsN f n = bitsN g n
  | 0, _ => rfl
  | n + 1, h => by
    unfold bitsN
    rw [bitsN_cg (n := n) (fun i hi => h i (by omega)), h n (by omega)]
theorem kept_bits : ∀ x : Fin 4, ior (if iand (ishr (x.val : Int) 0) 1 = 0 then 0 else 1) (ishl (if iand (ishr (x.val : Int) 1) 1 = 0 then 0 else 1) 1) = (x.val : Int) := by decide +kernel
theorem t_count (h : CR n m0) {a : Int} (ha : i32 a) : Two l pI .int n m0 yX7_count cX7_count 2 2 yX8_count cX8_count 2 2 [pI a] := by
  obtain ⟨hRI, hRS⟩ := h.2.2.1
  have hG := hRI.1
  have g0 := hG.1
  obtain ⟨s8, sk⟩ := h.2.2.2.2.2
  refine ask_of h ((m_X7_count l a m0 ha (c_N hRS hG) (c_N1 hRS hG) (c_Tl hRS hG) (c_Lm hRS hG)).imp (fun r mv ⟨p, q⟩ => ⟨_, p, by rw [← q]; exact KeepC.rf h.2.2.2.1, rfl⟩)) (fun m1 hk e1 => (m_X8_count l a m1 ha (by rw [e1]; exact g_N hG) (by rw [e1]; exact g_Tl hG) (by rw [e1]; exact g_Lm hG) (by rw [hk.1 5 (by decide)]; exact (sk 0).1) (by rw [hk.1 5 (by decide)]; exact (sk 1).1)).imp (fun r mv ⟨p, q⟩ => ⟨_, p, by rw [← q]; exact K8.rf m1, ?_⟩))
  have e29 := hRS.all hG
  rw [e1, hk.1 0 (by decide), hk.1 5 (by decide), hRS.1, hRS.2.1, e29]
  have b8 : bitsN (fun k => decide (0 < (m0 23 k - m0 25 k) * 1)) (m0 1 0).toNat = bitsN (fun k => decide (m0 1 (27 + k) < m0 1 (11 + k))) (m0 1 0).toNat := bitsN_cg (fun i hi => by
    rw [hRS.tl i (by omega), hRS.lm i (by omega)]
    exact decide_eq_decide.mpr (by omega))
  have b9 : bitsN (fun k => decide (0 < (m0 23 k - m0 25 k) * (-1))) (m0 1 0).toNat = bitsN (fun k => decide (m0 1 (11 + k) < m0 1 (27 + k))) (m0 1 0).toNat := bitsN_cg (fun i hi => by
    rw [hRS.tl i (by omega), hRS.lm i (by omega)]
    exact decide_eq_decide.mpr (by omega))
  have s3 : sumN (m0 23) (m0 1 0).toNat = sumN (fun k => m0 1 (11 + k)) (m0 1 0).toNat := sumN_congr (fun k hk => hRS.tl k (by omega))
  have s4 : sumN (m0 27) (m0 1 0).toNat = sumN (fun k => m0 1 (43 + k)) (m0 1 0).toNat := sumN_congr (fun k hk => hRS.tr k (by omega))
  have k7 := kept_bits ⟨(m0 20 8).toNat, by omega⟩
  simp only [Int.toNat_of_nonneg s8.1] at k7
  have x0 := ((sk 0).2 (by decide)).1
  have x1 := ((sk 1).2 (by decide)).1
  rw [show (((0 : Nat)) : Int) = 0 by rfl] at x0
  rw [show (((1 : Nat)) : Int) = 1 by rfl] at x1
  rw [x0, x1] at k7
  rw [b8, b9, s3, s4, k7, h.2.2.2.2.1.2.2.1, h.1.2.1]
theorem t_sale (h : CR n m0) (hn : n ≤ 600) {a b c : Int} (ha : i32 a) (hb : i32 b) (hc : i32 c) : Two l pI .int n m0 yX7_sale cX7_sale 5 2 yX8_sale cX8_sale 8 2 [pI a, pI b, pI c] := by
  obtain ⟨hRI, hRS⟩ := h.2.2.1
  have hG := hRI.1
  have g0 := hG.1
  have g1 := hG.2.1
  have g2 := hG.2.2.1
  have hF : ∀ d : Int, 0 ≤ d ∧ d < m0 1 1 → fstD (m0 29) d = dayA (m0 1) d ∧ nsaD (m0 29) (m0 21 1) d = dayC (m0 1) d := fun d hd => by
    have p := hRS.fst hG (d := d) (by omega)
    have q := hRS.nsa hG hd
    rw [hRS.2.1]
    exact ⟨p, q⟩
  refine ask_of h ((m_X7_sale l a b c m0 ha hb hc (c_N hRS hG) (c_N1 hRS hG) (fun d hd => ?_)).imp (fun r mv ⟨p, q⟩ => ⟨_, p, by rw [← q]; exact KeepC.rf h.2.2.2.1, rfl⟩)) (fun m1 hk e1 => (m_X8_sale l a b c m1 ha hb hc (by rw [e1]; exact g_N hG) (by rw [e1]; exact g_N1 hG) (by rw [e1]; exact g_N2 hG) (by rw [e1]; exact g_R hRI hn)).imp (fun r mv ⟨p, q⟩ => ⟨_, p, by rw [← q]; exact K8.rf m1, ?_⟩))
  · rw [hRS.2.1] at hd
    obtain ⟨q1, q2⟩ := hF d hd
    obtain ⟨i1, i2, i3, _⟩ := day_iff hG hd.1
    rw [q1, q2]
    omega
  · dsimp only
    rw [e1, hRS.1]
    by_cases gd : 0 ≤ a ∧ a < m0 1 1
    · obtain ⟨q1, q2⟩ := hF a gd
      obtain ⟨i1, i2, i3, i4⟩ := day_iff hG gd.1
      have hs := saleAt_eq (f := m0 1) (d := a) (k := b) (N := (m0 1 2).toNat) i1 i2 (by omega) (fun s hs => i4 s (by omega)) (m0 1 2).toNat 0 (by omega) 0 (by split <;> (try split) <;> omega)
      rw [if_pos gd, q1, q2, hRS.2.1]
      have hp : placeOf (m0 1) (m0 1 2).toNat a b = if 0 ≤ b ∧ b < dayC (m0 1) a then 59 + 10 * (dayA (m0 1) a + b) else -1 := by
        unfold placeOf
        rw [hs]
        by_cases g : 0 ≤ b ∧ b < dayC (m0 1) a
        · rw [if_pos g, if_neg (by omega), if_pos g]
        · rw [if_neg g, if_pos rfl, if_neg g]
      rw [hp]
      by_cases gk : 0 ≤ b ∧ b < dayC (m0 1) a
      · rw [if_pos gk, if_pos (And.intro gd gk), if_neg (show ¬ (59 + 10 * (dayA (m0 1) a + b) = -1) by omega)]
        obtain ⟨s, es⟩ : ∃ s : Nat, (s : Int) = dayA (m0 1) a + b := ⟨(dayA (m0 1) a + b).toNat, by omega⟩
        rw [← es]
        obtain ⟨r4, r5⟩ := hRS.2.2.2.1 s (by omega)
        have p1 : (59 + 10 * (s : Int) + 1).toNat = 60 + 10 * s := by omega
        have p2 : (59 + 10 * (s : Int)).toNat = 59 + 10 * s := by omega
        have p3 : (s : Int).toNat = s := by omega
        simp only [p1, p2, p3]
        have r4' : m0 30 s = m0 1 (60 + 10 * s) := r4
        have gv : ∀ i : Nat, i < 8 → m0 31 (s * 8 + i) = m0 1 (59 + 10 * s + 2 + i) := fun i hi => by
          have r := r5 i hi
          rw [show s * 8 + i = 8 * s + i by omega, show 59 + 10 * s + 2 + i = 61 + 10 * s + i by omega]
          exact r
        by_cases c0 : c = 0
        · rw [if_pos c0, if_neg (by omega), if_pos c0, r4']
        · rw [if_neg c0]
          by_cases c1 : c = 1
          · rw [if_pos c1, if_neg (by omega), if_neg c0, if_pos c1]
            exact sumN_congr (fun i hi => by rw [gv i (by omega), hRS.vl i (by omega)])
          · rw [if_neg c1]
            by_cases c2 : c = 2
            · rw [if_pos c2, if_neg (by omega), if_neg c0, if_neg c1, if_pos c2]
              exact sumN_congr (fun i hi => by rw [gv i (by omega)])
            · rw [if_neg c2]
              by_cases c3 : 10 ≤ c ∧ c ≤ 9 + m0 1 0
              · rw [if_pos c3, if_pos (by omega)]
                have e1 : ((s : Int) * 8 + (c - 10)).toNat = s * 8 + (c - 10).toNat := by omega
                have e2 : (59 + 10 * (s : Int) + c - 8).toNat = 59 + 10 * s + 2 + (c - 10).toNat := by omega
                rw [e1, e2, gv _ (by omega)]
              · rw [if_neg c3, if_neg (by omega), if_neg c0, if_neg c1, if_neg c2]
      · rw [if_neg gk, if_pos rfl, if_neg (fun z => gk z.2)]
    · rw [if_neg gd, if_pos rfl, if_neg (by rw [hRS.2.1]; exact fun z => gd z.1)]
end QS
