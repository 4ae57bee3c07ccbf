/-! what changes the two, said to both -/
theorem two_of {l : Launch} {w : Int → PV} {ty : FieldType} {n : Int} {m0 : Mem} {y7 y8 : MethodName} {c7 c8 : ByteArray} {L7 L8 d7 d8 : Nat} {as : List PV} {P7 : Option PV → Mem → Prop} (h7 : Ret shp l y7 c7 L7 (some ty) d7 (pR 20 :: as) m0 P7)
    (k : ∀ r m1, P7 r m1 → ∃ P8, Ret shp l y8 c8 L8 (some ty) d8 (pR 0 :: as) m1 P8 ∧ ∃ z, r = some (w z) ∧ ∀ r2 mv, P8 r2 mv → r2 = some (w z) ∧ CRx (n + 1) mv) : Two l w ty n m0 y7 c7 L7 d7 y8 c8 L8 d8 as :=
  h7.imp (fun r m1 hp => let ⟨_, h8, z, e, q⟩ := k r m1 hp; ⟨z, e, h8.imp q⟩)
theorem CR.p5 {n : Int} {m : Mem} (h : CR n m) : 0 ≤ m 0 5 ∧ m 0 5 ≤ 10 := by
  have p := h.2.2.2.2.1
  rw [p.2.2.1]
  exact p.2.1
theorem CR.far {n : Int} {m : Mem} (h : CR n m) : remM m 0 = m 0 ∧ remM m 1 = m 1 := ⟨remM_far h.2.2.2.2.1 (by decide) (by decide), remM_far h.2.2.2.2.1 (by decide) (by decide)⟩
section DS
variable {n : Int} {m0 : Mem} (l : Launch)
theorem t_feed (h : CR n m0) {a b c d e : Int} : Two l pI .int n m0 yX7_feed cX7_feed 6 1 yX8_feed cX8_feed 6 1 [pI a, pI b, pI c, pI d, pI e] := by
  obtain ⟨t1, t2, t3, t4⟩ := h.1
  refine two_of (m_X7_feed l a b c d e m0 (by rw [t2]; exact t1)) (fun r m1 ⟨hz, hm⟩ => ?_)
  have e07 : m1 0 = m0 0 := by
    rw [hm]
    split
    · rfl
    · exact feedC_ne (by decide) (by decide)
  refine ⟨_, m_X8_feed l a b c d e m1 (by rw [e07]; exact t1), _, hz, fun r2 mv ⟨hy, hv⟩ => ?_⟩
  rw [e07] at hy hv
  rw [t2] at hm ⊢
  refine ⟨hy, ?_⟩
  by_cases g : 400 < m0 0 7 + 20
  · rw [if_pos g] at hm hv
    rw [hv, hm]
    exact (h.mono (by omega)).x
  · rw [if_neg g] at hm hv
    rw [hv, hm]
    exact ((h.feed (by omega)).mono (by omega)).x
theorem t_end (h : CR n m0) {a : Int} (ha : i32 a) : Two l pI .int n m0 yX7_end cX7_end 2 0 yX8_end cX8_end 2 0 [pI a] := by
  obtain ⟨t1, t2, t3, t4⟩ := h.1
  refine two_of (m_X7_end l a m0 (by rw [t2]; exact t1) ha) (fun r m1 ⟨hz, hm⟩ => ?_)
  have e07 : m1 0 = m0 0 := by
    rw [hm]
    split
    · rfl
    · exact mset_nka (by decide)
  refine ⟨_, m_X8_end l a m1 (by rw [e07]; exact t1) ha, _, hz, fun r2 mv ⟨hy, hv⟩ => ?_⟩
  rw [e07] at hy hv
  rw [t2] at hm ⊢
  refine ⟨hy, ?_⟩
  by_cases g : a < 0 ∨ m0 0 7 < a
  · rw [if_pos g] at hm hv
    rw [hv, hm]
    exact (h.mono (by omega)).x
  · rw [if_neg g] at hm hv
    rw [hv, hm]
    exact ((h.end (z := a) (by omega)).mono (by omega)).x
theorem t_tell (h : CR n m0) (hn : 0 ≤ n) : Two l pI .int n m0 yX7_tell cX7_tell 2 7 yX8_tell cX8_tell 2 7 [] := by
  obtain ⟨t1, t2, t3, t4⟩ := h.1
  obtain ⟨r1, r2, r3⟩ := h.2.1
  refine two_of (m_X7_tell l m0 m0 t2 t3 t1 r1 t4 r2 r3) (fun r m1 ⟨z, hz, c1, c20, c3, hc⟩ => ?_)
  have eL : ∀ c, c < 20 → m1 c = m0 c := fun c hc2 => c1 c (Or.inl hc2) (by omega)
  refine ⟨_, m_X8_tell l m1 (by rw [eL 0 (by decide)]; exact t1) (by rw [eL 0 (by decide)]; exact r1) (by rw [eL 6 (by decide)]; exact t4) (by rw [eL 2 (by decide)]; exact r2) (by rw [eL 7 (by decide)]; exact r3), z, hz, fun r2 mv ⟨y, hy, hr, hok, hb, h7, ho⟩ => ?_⟩
  obtain ⟨e, hcr⟩ := h.tell hn c1 c20 c3 hc hr hok hb h7 ho
  refine ⟨by rw [hy, e], tr2 mv, hcr, fun k c hk j hj => ?_⟩
  unfold tr2
  by_cases q : k = 2
  · subst q
    have hc2 : c = .inr (.inl (0, 459)) := by
      have : shp[2]? = some (.inr (.inl (0, 459))) := rfl
      rw [this] at hk
      exact (Option.some.inj hk).symm
    subst hc2
    have hj2 : j < 459 := hj
    rw [if_neg (by omega)]
  · rw [if_neg (fun z => q z.1)]
theorem t_put (h : CR n m0) (hn : n ≤ 600) {a b c : Int} (ha : i32 a) (hb : i32 b) (hc : i32 c) : Two l pI .int n m0 yX7_put cX7_put 6 4 yX8_put cX8_put 6 2 [pI a, pI b, pI c] := by
  obtain ⟨hRI, hRS⟩ := h.2.2.1
  have hG := hRI.1
  refine two_of (m_X7_put l a b c m0 ha hb hc (c_N hRS hG) h.2.2.2.2.1.1 h.2.2.2.2.1.2.1 (c_I hRS hRI hn)) (fun r m1 ⟨z, hz, hc7⟩ => ?_)
  have e01 : m1 0 = m0 0 ∧ m1 1 = m0 1 := by
    rcases hc7 with ⟨_, _, q⟩ | ⟨_, ⟨_, _, q⟩ | ⟨_, _, q⟩⟩
    · rw [q]; exact ⟨rfl, rfl⟩
    · rw [q]; exact ⟨rfl, rfl⟩
    · rw [q, mset_nka (by omega), mset_nka (by omega)]; exact h.far
  refine ⟨_, m_X8_put l a b c m1 ha hb hc (by rw [e01.2]; exact g_N hG) (by rw [e01.1]; exact h.p5) (by rw [e01.2]; exact g_R hRI hn), z, hz, fun r2 mv ⟨y, hy, hr⟩ => ?_⟩
  obtain ⟨e, hcr⟩ := h.put hc7 hr
  exact ⟨by rw [hy, e], hcr.x⟩
theorem g_Ts {f : Nat → Int} (hG : GR f) : i32 (sumN (fun k => f (43 + k)) (f 0).toNat) := by
  have g0 := hG.1
  have q := tray_bd (v := fun k => f (3 + k)) (t := fun k => f (43 + k)) (n := (f 0).toNat) (fun k hk => ⟨(hG.2.2.2.1 k (by omega)).1, (hG.2.2.2.1 k (by omega)).2, (g_Tr hG k (by omega)).1⟩)
  have w := hG.2.2.2.2.2.2.2.2.2
  exact ⟨by omega, by omega⟩
theorem t_hand (h : CR n m0) (hn : n ≤ 600) {a : Int} (ha : i32 a) : Two l pI .int n m0 yX7_hand cX7_hand 2 4 yX8_hand cX8_hand 2 2 [pI a] := by
  obtain ⟨hRI, hRS⟩ := h.2.2.1
  have hG := hRI.1
  have g0 := hG.1
  refine two_of (m_X7_hand l a m0 ha (c_N hRS hG) h.2.2.2.2.1.1 h.2.2.2.2.1.2.1 (c_I hRS hRI hn) (by rw [hRS.1, sumN_congr (g := fun k => m0 1 (43 + k)) (fun k hk => hRS.tr k (by omega))]; exact g_Ts hG)) (fun r m1 ⟨z, hz, hc7⟩ => ?_)
  have e01 : m1 0 = m0 0 ∧ m1 1 = m0 1 := by
    rcases hc7 with ⟨_, _, q⟩ | ⟨_, ⟨_, _, q⟩ | ⟨_, ⟨_, _, q⟩ | ⟨_, q, _⟩⟩⟩
    · rw [q]; exact ⟨rfl, rfl⟩
    · rw [q]; exact ⟨rfl, rfl⟩
    · rw [q]; exact ⟨rfl, rfl⟩
    · rw [q, mset_nka (by omega), mset_nka (by omega), mset_nka (by omega), mset_nka (by omega)]; exact h.far
  refine ⟨_, m_X8_hand l a m1 ha (by rw [e01.2]; exact g_N hG) (by rw [e01.1]; exact h.p5) (by rw [e01.2]; exact g_R hRI hn) (by rw [e01.2]; exact g_Ts hG), z, hz, fun r2 mv ⟨y, hy, hr⟩ => ?_⟩
  obtain ⟨e, hcr⟩ := h.hand hc7 hr
  exact ⟨by rw [hy, e], hcr.x⟩
theorem t_pay (h : CR n m0) {a : Int} (ha : i32 a) : Two l pI .int n m0 yX7_pay cX7_pay 6 5 yX8_pay cX8_pay 5 4 [pI a] := by
  obtain ⟨hRI, hRS⟩ := h.2.2.1
  have hG := hRI.1
  refine two_of (m_X7_pay l a m0 ha h.2.2.2.1 (c_N hRS hG) (c_V hRS hG) (c_V1 hRS hG) (c_Tl hRS hG) (c_Pu hRS hG) (c_Tr hRS hG) (c_Ty hRS hG) h.2.2.2.2.1.1 h.2.2.2.2.1.2.1) (fun r m1 ⟨z, hz, hc7⟩ => ?_)
  have e01 : m1 0 = m0 0 ∧ m1 1 = m0 1 := by
    rcases hc7 with ⟨_, q⟩ | ⟨_, _, _, _, _, _, ⟨mB, q1, q2⟩, _⟩
    · exact ⟨q.1 0 (by decide), q.1 1 (by decide)⟩
    · rw [q2 1 (by decide) (by decide) (by decide) (by decide), q2 0 (by decide) (by decide) (by decide) (by decide), remM_eq h q1 1 (by decide), remM_eq h q1 0 (by decide)]; exact h.far
  refine ⟨_, m_X8_pay l a m1 ha (by rw [e01.1]; exact h.p5) (by rw [e01.2]; exact hG) (by rw [e01.2]; exact g_Ty hG), z, hz, fun r2 mv ⟨y, hy, hr⟩ => ?_⟩
  obtain ⟨e, hcr⟩ := h.pay hc7 hr
  exact ⟨by rw [hy, e], hcr.x⟩
theorem t_sell (h : CR n m0) {a : Int} (ha : i32 a) : Two l pI .int n m0 yX7_sell cX7_sell 4 5 yX8_sell cX8_sell 4 3 [pI a] := by
  obtain ⟨hRI, hRS⟩ := h.2.2.1
  have hG := hRI.1
  refine two_of (m_X7_sell l a m0 ha h.2.2.2.1 (c_N hRS hG) (c_V hRS hG) (c_V1 hRS hG) (c_Tl hRS hG) (c_Pu hRS hG) h.2.2.2.2.1.1 h.2.2.2.2.1.2.1) (fun r m1 ⟨z, hz, hc7⟩ => ?_)
  have e01 : m1 0 = m0 0 ∧ m1 1 = m0 1 := by
    rcases hc7 with ⟨_, q⟩ | ⟨_, _, _, _, _, ⟨mB, q1, q2⟩, _⟩
    · exact ⟨q.1 0 (by decide), q.1 1 (by decide)⟩
    · rw [q2 1 (by decide) (by decide) (by decide), q2 0 (by decide) (by decide) (by decide), remM_eq h q1 1 (by decide), remM_eq h q1 0 (by decide)]; exact h.far
  refine ⟨_, m_X8_sell l a m1 ha (by rw [e01.1]; exact h.p5) (by rw [e01.2]; exact hG), z, hz, fun r2 mv ⟨y, hy, hr⟩ => ?_⟩
  obtain ⟨e, hcr⟩ := h.sell hc7 hr
  exact ⟨by rw [hy, e], hcr.x⟩
theorem t_live (h : CR n m0) (hn : n ≤ 600) {a : Int} (ha : i32 a) : Two l pI .int n m0 yX7_live cX7_live 2 6 yX8_live cX8_live 3 7 [pI a] := by
  obtain ⟨hRI, hRS⟩ := h.2.2.1
  have hG := hRI.1
  refine two_of (m_X7_live l (m0 1) a m0 ha h.2.2.2.2.1.1 h.2.2.2.2.1.2.1 h.2.2.2.1 hRS hG) (fun r m1 ⟨z, hz, hc7⟩ => ?_)
  have e01 : m1 0 = m0 0 ∧ m1 1 = m0 1 := by
    rcases hc7 with ⟨_, _, q⟩ | ⟨_, _, _, q, _⟩
    · rw [q]; exact ⟨rfl, rfl⟩
    · rw [q 1 (by decide) (by decide), q 0 (by decide) (by decide)]; exact h.far
  refine ⟨_, m_X8_live l a m1 ha (by rw [e01.1]; exact h.p5) (by rw [e01.2]; exact g_N1 hG) (by rw [e01.2]; exact g_N hG) (by rw [e01.2]; exact g_Vl hG) (by rw [e01.2]; exact g_N2 hG) (by rw [e01.2]; exact g_R hRI hn) (by rw [e01.2]; exact g_Ab hG) (by rw [e01.2]; exact g_G hG) (by rw [e01.2]; exact g_Tl hG), z, hz, fun r2 mv ⟨y, hy, hr⟩ => ?_⟩
  obtain ⟨e, hcr⟩ := h.live hc7 hr
  exact ⟨by rw [hy, e], hcr.x⟩
theorem t_bank (h : CR n m0) : Two l pI .int n m0 yX7_bank cX7_bank 4 4 yX8_bank cX8_bank 4 2 [] := by
  obtain ⟨hRI, hRS⟩ := h.2.2.1
  have hG := hRI.1
  refine two_of (m_X7_bank l m0 (c_N hRS hG) h.2.2.2.2.1.1 h.2.2.2.2.1.2.1 (c_Tl hRS hG) (c_Lm hRS hG)) (fun r m1 ⟨z, hz, hc7⟩ => ?_)
  have e01 : m1 0 = m0 0 ∧ m1 1 = m0 1 := by
    rcases hc7 with ⟨_, _, q⟩ | ⟨_, ⟨_, _, q⟩ | ⟨_, _, q⟩⟩
    · rw [q]; exact ⟨rfl, rfl⟩
    · rw [q]; exact ⟨rfl, rfl⟩
    · have w : ∀ c, c ≠ 23 → c ≠ 28 → m1 c = remM m0 c := fun c a b => by
        rw [q]
        funext j
        unfold bankC
        rw [if_neg (by omega), if_neg (by omega)]
      rw [w 0 (by decide) (by decide), w 1 (by decide) (by decide)]; exact h.far
  refine ⟨_, m_X8_bank l m1 (by rw [e01.2]; exact g_N hG) (by rw [e01.1]; exact h.p5) (by rw [e01.2]; exact g_Tl hG) (by rw [e01.2]; exact g_Lm hG), z, hz, fun r2 mv ⟨y, hy, hr⟩ => ?_⟩
  obtain ⟨e, hcr⟩ := h.bank hc7 hr
  exact ⟨by rw [hy, e], hcr.x⟩
theorem t_order (h : CR n m0) {a b : Int} (ha : i32 a) (hb : i32 b) : Two l pI .int n m0 yX7_order cX7_order 4 4 yX8_order cX8_order 4 2 [pI a, pI b] := by
  obtain ⟨hRI, hRS⟩ := h.2.2.1
  have hG := hRI.1
  refine two_of (m_X7_order l a b m0 ha hb (c_N hRS hG) h.2.2.2.2.1.1 h.2.2.2.2.1.2.1 (c_Tl hRS hG) (c_Bg hRS hG)) (fun r m1 ⟨z, hz, hc7⟩ => ?_)
  have e01 : m1 0 = m0 0 ∧ m1 1 = m0 1 := by
    rcases hc7 with ⟨_, _, q⟩ | ⟨_, ⟨_, _, q⟩ | ⟨_, _, q⟩⟩
    · rw [q]; exact ⟨rfl, rfl⟩
    · rw [q]; exact ⟨rfl, rfl⟩
    · rw [q, mset_nka (by omega), mset_nka (by omega)]; exact h.far
  refine ⟨_, m_X8_order l a b m1 ha hb (by rw [e01.2]; exact g_N hG) (by rw [e01.1]; exact h.p5) (by rw [e01.2]; exact g_Tl hG) (by rw [e01.2]; exact g_Bg hG), z, hz, fun r2 mv ⟨y, hy, hr⟩ => ?_⟩
  obtain ⟨e, hcr⟩ := h.order hc7 hr
  exact ⟨by rw [hy, e], hcr.x⟩
theorem t_drawn (h : CR n m0) {a b : Int} (ha : i32 a) (hb : i32 b) : Two l pI .int n m0 yX7_drawn cX7_drawn 6 5 yX8_drawn cX8_drawn 8 3 [pI a, pI b] := by
  obtain ⟨hRI, hRS⟩ := h.2.2.1
  have hG := hRI.1
  refine two_of (m_X7_drawn l (m0 1) a b m0 ha hb h.2.2.2.2.1.1 h.2.2.2.2.1.2.1 hRS hG) (fun r m1 ⟨z, hz, hc7⟩ => ?_)
  have e01 : m1 0 = m0 0 ∧ m1 1 = m0 1 := by
    rcases hc7 with ⟨_, _, q⟩ | ⟨_, _, _, q⟩ | ⟨_, _, _, _, q, _⟩
    · rw [q]; exact ⟨rfl, rfl⟩
    · rw [q]; exact ⟨rfl, rfl⟩
    · rw [q 1 (by decide) (by decide) (by decide) (by decide), q 0 (by decide) (by decide) (by decide) (by decide)]; exact h.far
  refine ⟨_, m_X8_drawn l a b m1 ha hb (by rw [e01.1]; exact h.p5) (by rw [e01.2]; exact hG), z, hz, fun r2 mv ⟨y, hy, hr⟩ => ?_⟩
  obtain ⟨e, hcr⟩ := h.drawn hc7 hr
  exact ⟨by rw [hy, e], hcr.x⟩
theorem t_undo (h : CR n m0) : Two l pI .int n m0 yX7_undo cX7_undo 1 3 yX8_undo cX8_undo 1 1 [] := by
  have e05 : m0 0 5 = m0 20 6 := h.2.2.2.2.1.2.2.1
  refine two_of (m_X7_undo l m0 h.2.2.2.2.1.1 h.2.2.2.2.1.2.1) (fun r m1 ⟨hz, hm⟩ => ?_)
  have e00 : m1 0 = m0 0 := by
    rw [hm]
    split
    · rfl
    · unfold undoC
      rw [mset_nka (by decide), cpyS_ne (by omega), mset_nka (by decide)]
  refine ⟨_, m_X8_undo l m1 (by rw [e00]; exact h.p5), _, hz, fun r2 mv ⟨hy, hv⟩ => ?_⟩
  rw [e00, e05] at hy hv
  refine ⟨hy, ?_⟩
  by_cases g : m0 20 6 = 0
  · rw [if_pos g] at hm hv
    rw [hv, hm]
    exact (h.mono (by omega)).x
  · rw [if_neg g] at hm hv
    rw [hv, hm]
    exact (h.undo g).x
theorem t_keep (h : CR n m0) {a : Int} (ha : i32 a) : Two l pI .int n m0 yX7_keep cX7_keep 2 3 yX8_keep cX8_keep 2 1 [pI a] := by
  obtain ⟨hRI, hRS⟩ := h.2.2.1
  refine two_of (m_X7_keep l a m0 ha) (fun r m1 ⟨hz, hm⟩ => ?_)
  refine ⟨_, m_X8_keep l a m1 ha, _, hz, fun r2 mv ⟨hy, hv⟩ => ?_⟩
  by_cases g : 0 ≤ a ∧ a ≤ 1
  · rw [if_pos g] at hm hv hy
    have e1 : m1 1 = m0 1 := by
      rw [hm]
      unfold keepC
      rw [mset_nka (by decide), cpyS_ne (by unfold stB; omega)]
    rw [if_pos g, hRS.1, hv, hm]
    rw [e1] at hy
    exact ⟨hy, (h.keep g).x⟩
  · rw [if_neg g] at hm hv hy
    rw [if_neg g, hv, hm]
    exact ⟨hy, (h.mono (by omega)).x⟩
theorem t_back (h : CR n m0) {a : Int} (ha : i32 a) : Two l pI .int n m0 yX7_back cX7_back 2 3 yX8_back cX8_back 2 1 [pI a] := by
  obtain ⟨s8, sk⟩ := h.2.2.2.2.2
  refine two_of (m_X7_back l a m0 ha) (fun r m1 ⟨hz, hm⟩ => ?_)
  have e45 : m1 4 = m0 4 ∧ m1 5 = m0 5 := by
    rw [hm]
    split
    · split
      · exact ⟨rfl, rfl⟩
      · unfold backC
        rw [mset_nka (by decide), mset_nka (by decide), cpyS_ne (by omega), cpyS_ne (by omega)]
        exact ⟨rfl, rfl⟩
    · exact ⟨rfl, rfl⟩
  refine ⟨_, m_X8_back l a m1 ha (fun b => by rw [e45.2]; rcases (sk b).1 with q | q <;> rw [q] <;> exact ⟨by decide, by decide⟩), _, hz, fun r2 mv ⟨hy, hv⟩ => ?_⟩
  rw [e45.1, e45.2] at hy
  rw [e45.2] at hv
  by_cases g : 0 ≤ a ∧ a ≤ 1
  · obtain ⟨k1, k2⟩ := (sk a.toNat).2 (by omega)
    rw [show ((a.toNat : Nat) : Int) = a by omega] at k1
    rw [if_pos g] at hm hv hy
    rw [if_pos g]
    rw [k1] at hm ⊢
    by_cases g2 : m0 5 a.toNat = 0
    · rw [if_pos g2] at hm hv hy
      rw [if_pos g2, hv, hm]
      exact ⟨hy, (h.mono (by omega)).x⟩
    · rw [if_neg g2] at hm hv hy
      have g3 : m0 5 a.toNat = 1 := (sk a.toNat).1.resolve_left g2
      rw [if_neg g2, (k2 g3).2.1, hv, hm]
      refine ⟨?_, (h.back g g3).x⟩
      rw [hy]
      unfold rowP
      rw [if_pos (by decide), show (459 * a).toNat = 459 * a.toNat + 0 by omega]
  · rw [if_neg g] at hm hv hy
    rw [if_neg g, hv, hm]
    exact ⟨hy, (h.mono (by omega)).x⟩
end DS
