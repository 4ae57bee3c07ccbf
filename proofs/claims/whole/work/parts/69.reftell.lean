/-! the reference: tell -/
def tlI (mem : Mem) (k j : Nat) : Mem := fun a b => if a = 0 ∧ b = 8 then 0 else if a = 0 ∧ b = 9 then -1 else if a = 2 ∧ b < k then startH b else if a = 7 ∧ b < j then 0 else mem a b
theorem tlI_0 (mem : Mem) : mset (mset mem 0 8 0) 0 9 (-1) = tlI mem 0 0 := by
  funext a b
  unfold tlI
  by_cases e8 : a = 0 ∧ b = 8
  · rw [mset_ne (by omega), if_pos e8, e8.1, e8.2, mset_eq]
  · rw [if_neg e8]
    by_cases e9 : a = 0 ∧ b = 9
    · rw [if_pos e9, e9.1, e9.2, mset_eq]
    · rw [if_neg e9, if_neg (by omega), if_neg (by omega), mset_ne e9, mset_ne e8]
theorem tlI_k (mem : Mem) (k : Nat) : mset (tlI mem k 0) 2 k (startH k) = tlI mem (k + 1) 0 := by
  funext a b
  by_cases e : a = 2 ∧ b = k
  · rw [e.1, e.2, mset_eq]
    unfold tlI
    rw [if_neg (by omega), if_neg (by omega), if_pos (by omega)]
  · rw [mset_ne e]
    unfold tlI
    by_cases e2 : a = 2 ∧ b < k
    · rw [if_neg (by omega), if_neg (by omega), if_pos e2, if_neg (by omega), if_neg (by omega), if_pos (by omega)]
    · rw [if_neg e2, if_neg (show ¬ (a = 2 ∧ b < k + 1) by omega)]
theorem tlI_j (mem : Mem) (j : Nat) : mset (tlI mem 459 j) 7 j 0 = tlI mem 459 (j + 1) := by
  funext a b
  by_cases e : a = 7 ∧ b = j
  · rw [e.1, e.2, mset_eq]
    unfold tlI
    rw [if_neg (by omega), if_neg (by omega), if_neg (by omega), if_pos (by omega)]
  · rw [mset_ne e]
    unfold tlI
    by_cases e2 : a = 7 ∧ b < j
    · rw [if_neg (by omega), if_neg (by omega), if_neg (by omega), if_pos e2, if_neg (by omega), if_neg (by omega), if_neg (by omega), if_pos (by omega)]
    · rw [if_neg e2, if_neg (show ¬ (a = 7 ∧ b < j + 1) by omega)]
theorem letN_of {m mem : Mem} (h6 : m 6 = mem 6) (h7 : m 0 7 = mem 0 7) : ∀ (n : Nat) (p : Int), letN m n p = letN mem n p
  | 0, p => rfl
  | n + 1, p => by rw [letN_s, letN_s, h6, h7, letN_of h6 h7 n]
theorem tkZ {m mv : Mem} {w : Nat} {z : Int} (h : spelT m (skipF m 401 (m 0 8)) (letN m 401 (skipF m 401 (m 0 8))) w ∧ z = 1 ∧ mv = mset m 0 8 (skipF m 401 (m 0 8) + letN m 401 (skipF m 401 (m 0 8))) ∨ ¬ spelT m (skipF m 401 (m 0 8)) (letN m 401 (skipF m 401 (m 0 8))) w ∧ z = 0 ∧ mv = mset m 0 8 (skipF m 401 (m 0 8))) : ptW m w = true ∧ z = 1 ∧ mv = ptT m ∨ ptW m w = false ∧ z = 0 ∧ mv = ptD m := by
  have e6 : ptD m 6 = m 6 := mset_nka (by decide)
  have e7 : ptD m 0 7 = m 0 7 := mset_ne (by decide)
  have eN : ptN m = letN m 401 (skipF m 401 (m 0 8)) := letN_of e6 e7 401 _
  have eS : spB (ptD m) (ptP m) (ptN m) w = spB m (ptP m) (ptN m) w := by
    unfold spB
    rw [e6]
  have eW : ptW m w = spB m (skipF m 401 (m 0 8)) (letN m 401 (skipF m 401 (m 0 8))) w := by
    unfold ptW
    rw [eS, eN]
    rfl
  rcases h with ⟨h1, h2, h3⟩ | ⟨h1, h2, h3⟩
  · refine Or.inl ⟨by rw [eW]; exact spB_iff.mpr h1, h2, ?_⟩
    rw [h3]
    unfold ptT ptD
    rw [mset_mset, eN]
    rfl
  · refine Or.inr ⟨?_, h2, h3⟩
    rw [eW]
    cases q : spB m (skipF m 401 (m 0 8)) (letN m 401 (skipF m 401 (m 0 8))) w
    · rfl
    · exact absurd (spB_iff.mp q) h1
theorem tl1_ok {m : Mem} (h : RdOk m) : RdOk (tl1 m) ∧ ∀ a, a ≠ 0 → tl1 m a = m a := by
  obtain ⟨hD, hT, hP, aD, aT, _⟩ := pt_ok h
  unfold tl1
  by_cases g : ptW m 0 = true
  · rw [if_pos g]; exact ⟨hT, aT⟩
  · rw [if_neg g]; exact ⟨flM_ok hD (by omega) hP, fun a ha => by rw [flM_cell ha]; exact aD a ha⟩
theorem kD_cells {m : Mem} (h : RdOk m) (h0 : 0 ≤ m 2 0) : 0 ≤ kD m 2 0 ∧ kD m 2 1 = m 2 1 ∧ kD m 2 2 = m 2 2 ∧ ∀ a, a ≠ 0 → a ≠ 2 → kD m a = m a := by
  have hD := (kD_ok h).2
  have hC := (kC_ok h).2.1
  have hB := (kB_ok h).2 2 (by decide)
  have e := hD 2 (by decide)
  refine ⟨?_, ?_, ?_, fun a a0 a2 => by rw [hD a a0, hC a a0 a2]⟩
  all_goals
    rw [e]
    unfold kC
    by_cases g : kB m 0 9 = -1
    · rw [if_pos g]
      first | (rw [mset_eq]; omega) | (rw [mset_ne (by omega), mset_ne (by omega), hB])
    · rw [if_neg g, hB]
      try exact h0
theorem kindsL_cells : ∀ (n : Nat) {m : Mem}, RdOk m → 0 ≤ m 2 0 → kindsL n m 2 1 = m 2 1 ∧ kindsL n m 2 2 = m 2 2 ∧ ∀ a, a ≠ 0 → a ≠ 2 → kindsL n m a = m a
  | 0, m, _, _ => ⟨rfl, rfl, fun _ _ _ => rfl⟩
  | n + 1, m, h, h0 => by
    obtain ⟨d0, d1, d2, d3⟩ := kD_cells h h0
    rw [kindsL_s]
    by_cases g : kMore m = true
    · rw [if_pos g]
      obtain ⟨r1, r2, r3⟩ := kindsL_cells n (kD_ok h).1 d0
      exact ⟨r1.trans d1, r2.trans d2, fun a a0 a2 => (r3 a a0 a2).trans (d3 a a0 a2)⟩
    · rw [if_neg g]; exact ⟨d1, d2, d3⟩
theorem startH_bd (b : Nat) : 0 ≤ startH b ∧ startH b ≤ 99 := by
  unfold startH
  split
  · omega
  · split <;> omega
theorem stopP_ok {m : Mem} (h : RdOk m) : RdOk (stopP m) ∧ (∀ a, a ≠ 0 → stopP m a = m a) ∧ stopP m 0 9 = m 0 9 := by
  obtain ⟨hD, _, _, aD, _, _, _, _, _, h9, _⟩ := pt_ok h
  unfold stopP
  by_cases g : m 0 9 = -1
  · rw [if_pos g]; exact ⟨hD, aD, h9⟩
  · rw [if_neg g]; exact ⟨h, fun _ _ => rfl, rfl⟩
theorem tl0_ok {mem : Mem} (hT : 0 ≤ mem 0 7 ∧ mem 0 7 ≤ 400) (h10 : 0 ≤ mem 0 10 ∧ mem 0 10 ≤ 400) : RdOk (tl0 mem) ∧ (∀ a, a ≠ 0 → a ≠ 2 → a ≠ 7 → tl0 mem a = mem a) ∧ (∀ k : Nat, k < 459 → tl0 mem 2 k = startH k) ∧ (∀ k : Nat, 459 ≤ k → tl0 mem 2 k = mem 2 k) ∧ tl0 mem 0 9 = -1 ∧ (∀ k : Nat, tl0 mem 7 k = 0 ∨ tl0 mem 7 k = mem 7 k) := by
  have e7 : tl0 mem 0 7 = mem 0 7 := rfl
  have e8 : tl0 mem 0 8 = 0 := rfl
  have e9 : tl0 mem 0 9 = -1 := rfl
  have e10 : tl0 mem 0 10 = mem 0 10 := rfl
  refine ⟨⟨by rw [e7]; exact hT, by rw [e8]; decide, by rw [e9]; decide, by rw [e10]; exact h10⟩, fun a a0 a2 a7 => ?_, fun k hk => ?_, fun k hk => ?_, e9, fun k => ?_⟩
  · funext b
    unfold tl0
    rw [if_neg (by omega), if_neg (by omega), if_neg (by omega), if_neg (by omega)]
  · unfold tl0
    rw [if_neg (by omega), if_neg (by omega), if_pos (by omega)]
  · unfold tl0
    rw [if_neg (by omega), if_neg (by omega), if_neg (by omega), if_neg (by omega)]
  · unfold tl0
    rw [if_neg (by omega), if_neg (by omega), if_neg (by omega)]
    by_cases y : 7 = 7 ∧ k < 4
    · rw [if_pos y]; exact Or.inl rfl
    · rw [if_neg y]; exact Or.inr rfl
theorem tl3_ok {m : Mem} (h : RdOk m) : RdOk (tl3 m) ∧ ∀ a, a ≠ 0 → tl3 m a = m a := by
  obtain ⟨hS, aS, _⟩ := stopP_ok h
  obtain ⟨_, _, hP, _⟩ := pt_ok h
  unfold tl3
  by_cases g : m 0 9 = -1 ∧ sgn m (ptP m) ≠ -1
  · rw [if_pos g]; exact ⟨flM_ok hS (by omega) hP, fun a ha => by rw [flM_cell ha]; exact aS a ha⟩
  · rw [if_neg g]; exact ⟨hS, aS⟩
theorem ptS_ok {m : Mem} (h : RdOk m) (g : sgn m (ptP m) = 59) : RdOk (mset (ptD m) 0 8 (ptP m + 1)) ∧ ∀ a, a ≠ 0 → mset (ptD m) 0 8 (ptP m + 1) a = m a := by
  obtain ⟨⟨h7, h8, h9, h10⟩, _, hP, aD, _⟩ := pt_ok h
  have hlt : ptP m < m 0 7 := by
    by_cases y : ptP m < m 0 7
    · exact y
    · have e : sgn m (ptP m) = -1 := if_neg y
      omega
  have h7m := h.1
  exact ⟨⟨by rw [mset_ne (by decide)]; exact h7, by rw [mset_eq]; omega, by rw [mset_ne (by decide)]; exact h9, by rw [mset_ne (by decide)]; exact h10⟩, fun a ha => by rw [mset_nka ha]; exact aD a ha⟩
theorem dX8_tell_0 : decode cX8_tell 0 = .ok (.aload_n 0, 1) := by decide +kernel
theorem dX8_tell_1 : decode cX8_tell 1 = .ok (.iconst 0, 1) := by decide +kernel
theorem dX8_tell_2 : decode cX8_tell 2 = .ok (.putfield 79, 3) := by decide +kernel
theorem dX8_tell_5 : decode cX8_tell 5 = .ok (.aload_n 0, 1) := by decide +kernel
theorem dX8_tell_6 : decode cX8_tell 6 = .ok (.iconst (-1), 1) := by decide +kernel
theorem dX8_tell_7 : decode cX8_tell 7 = .ok (.putfield 86, 3) := by decide +kernel
theorem dX8_tell_10 : decode cX8_tell 10 = .ok (.iconst 0, 1) := by decide +kernel
theorem dX8_tell_11 : decode cX8_tell 11 = .ok (.istore_n 1, 1) := by decide +kernel
theorem dX8_tell_12 : decode cX8_tell 12 = .ok (.iload_n 1, 1) := by decide +kernel
theorem dX8_tell_13 : decode cX8_tell 13 = .ok (.sipush 459, 3) := by decide +kernel
theorem dX8_tell_16 : decode cX8_tell 16 = .ok (.if_icmp .ge 54, 3) := by decide +kernel
theorem dX8_tell_19 : decode cX8_tell 19 = .ok (.aload_n 0, 1) := by decide +kernel
theorem dX8_tell_20 : decode cX8_tell 20 = .ok (.getfield 13, 3) := by decide +kernel
theorem dX8_tell_23 : decode cX8_tell 23 = .ok (.iload_n 1, 1) := by decide +kernel
theorem dX8_tell_24 : decode cX8_tell 24 = .ok (.iload_n 1, 1) := by decide +kernel
theorem dX8_tell_25 : decode cX8_tell 25 = .ok (.i2l, 1) := by decide +kernel
theorem dX8_tell_26 : decode cX8_tell 26 = .ok (.ldc2_w 168, 3) := by decide +kernel
theorem dX8_tell_29 : decode cX8_tell 29 = .ok (.ldc2_w 170, 3) := by decide +kernel
theorem dX8_tell_32 : decode cX8_tell 32 = .ok (.invokestatic 100, 3) := by decide +kernel
theorem dX8_tell_35 : decode cX8_tell 35 = .ok (.ifCond .eq 8, 3) := by decide +kernel
theorem dX8_tell_38 : decode cX8_tell 38 = .ok (.bipush 99, 2) := by decide +kernel
theorem dX8_tell_40 : decode cX8_tell 40 = .ok (.goto 23, 3) := by decide +kernel
theorem dX8_tell_43 : decode cX8_tell 43 = .ok (.iload_n 1, 1) := by decide +kernel
theorem dX8_tell_44 : decode cX8_tell 44 = .ok (.i2l, 1) := by decide +kernel
theorem dX8_tell_45 : decode cX8_tell 45 = .ok (.ldc2_w 172, 3) := by decide +kernel
theorem dX8_tell_48 : decode cX8_tell 48 = .ok (.ldc2_w 174, 3) := by decide +kernel
theorem dX8_tell_51 : decode cX8_tell 51 = .ok (.invokestatic 100, 3) := by decide +kernel
theorem dX8_tell_54 : decode cX8_tell 54 = .ok (.ifCond .eq 8, 3) := by decide +kernel
theorem dX8_tell_57 : decode cX8_tell 57 = .ok (.bipush 10, 2) := by decide +kernel
theorem dX8_tell_59 : decode cX8_tell 59 = .ok (.goto 4, 3) := by decide +kernel
theorem dX8_tell_62 : decode cX8_tell 62 = .ok (.iconst 0, 1) := by decide +kernel
theorem dX8_tell_63 : decode cX8_tell 63 = .ok (.iastore, 1) := by decide +kernel
theorem dX8_tell_64 : decode cX8_tell 64 = .ok (.iinc 1 1, 3) := by decide +kernel
theorem dX8_tell_67 : decode cX8_tell 67 = .ok (.goto (-55), 3) := by decide +kernel
theorem dX8_tell_70 : decode cX8_tell 70 = .ok (.iconst 0, 1) := by decide +kernel
theorem dX8_tell_71 : decode cX8_tell 71 = .ok (.istore_n 1, 1) := by decide +kernel
theorem dX8_tell_72 : decode cX8_tell 72 = .ok (.iload_n 1, 1) := by decide +kernel
theorem dX8_tell_73 : decode cX8_tell 73 = .ok (.aload_n 0, 1) := by decide +kernel
theorem dX8_tell_74 : decode cX8_tell 74 = .ok (.getfield 30, 3) := by decide +kernel
theorem dX8_tell_77 : decode cX8_tell 77 = .ok (.arraylength, 1) := by decide +kernel
theorem dX8_tell_78 : decode cX8_tell 78 = .ok (.if_icmp .ge 16, 3) := by decide +kernel
theorem dX8_tell_81 : decode cX8_tell 81 = .ok (.aload_n 0, 1) := by decide +kernel
theorem dX8_tell_82 : decode cX8_tell 82 = .ok (.getfield 30, 3) := by decide +kernel
theorem dX8_tell_85 : decode cX8_tell 85 = .ok (.iload_n 1, 1) := by decide +kernel
theorem dX8_tell_86 : decode cX8_tell 86 = .ok (.iconst 0, 1) := by decide +kernel
theorem dX8_tell_87 : decode cX8_tell 87 = .ok (.bastore, 1) := by decide +kernel
theorem dX8_tell_88 : decode cX8_tell 88 = .ok (.iinc 1 1, 3) := by decide +kernel
theorem dX8_tell_91 : decode cX8_tell 91 = .ok (.goto (-19), 3) := by decide +kernel
theorem dX8_tell_94 : decode cX8_tell 94 = .ok (.aload_n 0, 1) := by decide +kernel
theorem dX8_tell_95 : decode cX8_tell 95 = .ok (.ldc 176, 2) := by decide +kernel
theorem dX8_tell_97 : decode cX8_tell 97 = .ok (.invokevirtual 147, 3) := by decide +kernel
theorem dX8_tell_100 : decode cX8_tell 100 = .ok (.ifCond .ne 12, 3) := by decide +kernel
theorem dX8_tell_103 : decode cX8_tell 103 = .ok (.aload_n 0, 1) := by decide +kernel
theorem dX8_tell_104 : decode cX8_tell 104 = .ok (.iconst 1, 1) := by decide +kernel
theorem dX8_tell_105 : decode cX8_tell 105 = .ok (.aload_n 0, 1) := by decide +kernel
theorem dX8_tell_106 : decode cX8_tell 106 = .ok (.getfield 79, 3) := by decide +kernel
theorem dX8_tell_109 : decode cX8_tell 109 = .ok (.invokevirtual 120, 3) := by decide +kernel
theorem dX8_tell_112 : decode cX8_tell 112 = .ok (.aload_n 0, 1) := by decide +kernel
theorem dX8_tell_113 : decode cX8_tell 113 = .ok (.invokevirtual 178, 3) := by decide +kernel
theorem dX8_tell_116 : decode cX8_tell 116 = .ok (.aload_n 0, 1) := by decide +kernel
theorem dX8_tell_117 : decode cX8_tell 117 = .ok (.invokevirtual 89, 3) := by decide +kernel
theorem dX8_tell_120 : decode cX8_tell 120 = .ok (.ifCond .eq 29, 3) := by decide +kernel
theorem dX8_tell_123 : decode cX8_tell 123 = .ok (.aload_n 0, 1) := by decide +kernel
theorem dX8_tell_124 : decode cX8_tell 124 = .ok (.invokevirtual 93, 3) := by decide +kernel
theorem dX8_tell_127 : decode cX8_tell 127 = .ok (.bipush 59, 2) := by decide +kernel
theorem dX8_tell_129 : decode cX8_tell 129 = .ok (.if_icmp .ne 20, 3) := by decide +kernel
theorem dX8_tell_132 : decode cX8_tell 132 = .ok (.aload_n 0, 1) := by decide +kernel
theorem dX8_tell_133 : decode cX8_tell 133 = .ok (.dup, 1) := by decide +kernel
theorem dX8_tell_134 : decode cX8_tell 134 = .ok (.getfield 79, 3) := by decide +kernel
theorem dX8_tell_137 : decode cX8_tell 137 = .ok (.iconst 1, 1) := by decide +kernel
theorem dX8_tell_138 : decode cX8_tell 138 = .ok (.iadd, 1) := by decide +kernel
theorem dX8_tell_139 : decode cX8_tell 139 = .ok (.putfield 79, 3) := by decide +kernel
theorem dX8_tell_142 : decode cX8_tell 142 = .ok (.aload_n 0, 1) := by decide +kernel
theorem dX8_tell_143 : decode cX8_tell 143 = .ok (.invokevirtual 181, 3) := by decide +kernel
theorem dX8_tell_146 : decode cX8_tell 146 = .ok (.goto (-30), 3) := by decide +kernel
theorem dX8_tell_149 : decode cX8_tell 149 = .ok (.aload_n 0, 1) := by decide +kernel
theorem dX8_tell_150 : decode cX8_tell 150 = .ok (.invokevirtual 89, 3) := by decide +kernel
theorem dX8_tell_153 : decode cX8_tell 153 = .ok (.ifCond .eq 20, 3) := by decide +kernel
theorem dX8_tell_156 : decode cX8_tell 156 = .ok (.aload_n 0, 1) := by decide +kernel
theorem dX8_tell_157 : decode cX8_tell 157 = .ok (.invokevirtual 93, 3) := by decide +kernel
theorem dX8_tell_160 : decode cX8_tell 160 = .ok (.iconst (-1), 1) := by decide +kernel
theorem dX8_tell_161 : decode cX8_tell 161 = .ok (.if_icmp .eq 12, 3) := by decide +kernel
theorem dX8_tell_164 : decode cX8_tell 164 = .ok (.aload_n 0, 1) := by decide +kernel
theorem dX8_tell_165 : decode cX8_tell 165 = .ok (.iconst 1, 1) := by decide +kernel
theorem dX8_tell_166 : decode cX8_tell 166 = .ok (.aload_n 0, 1) := by decide +kernel
theorem dX8_tell_167 : decode cX8_tell 167 = .ok (.getfield 79, 3) := by decide +kernel
theorem dX8_tell_170 : decode cX8_tell 170 = .ok (.invokevirtual 120, 3) := by decide +kernel
theorem dX8_tell_173 : decode cX8_tell 173 = .ok (.aload_n 0, 1) := by decide +kernel
theorem dX8_tell_174 : decode cX8_tell 174 = .ok (.iconst 0, 1) := by decide +kernel
theorem dX8_tell_175 : decode cX8_tell 175 = .ok (.putfield 71, 3) := by decide +kernel
theorem dX8_tell_178 : decode cX8_tell 178 = .ok (.aload_n 0, 1) := by decide +kernel
theorem dX8_tell_179 : decode cX8_tell 179 = .ok (.invokevirtual 89, 3) := by decide +kernel
theorem dX8_tell_182 : decode cX8_tell 182 = .ok (.ifCond .ne 11, 3) := by decide +kernel
theorem dX8_tell_185 : decode cX8_tell 185 = .ok (.bipush (-2), 2) := by decide +kernel
theorem dX8_tell_187 : decode cX8_tell 187 = .ok (.aload_n 0, 1) := by decide +kernel
theorem dX8_tell_188 : decode cX8_tell 188 = .ok (.getfield 86, 3) := by decide +kernel
theorem dX8_tell_191 : decode cX8_tell 191 = .ok (.isub, 1) := by decide +kernel
theorem dX8_tell_192 : decode cX8_tell 192 = .ok (.ireturn, 1) := by decide +kernel
theorem dX8_tell_193 : decode cX8_tell 193 = .ok (.aload_n 0, 1) := by decide +kernel
theorem dX8_tell_194 : decode cX8_tell 194 = .ok (.getfield 13, 3) := by decide +kernel
theorem dX8_tell_197 : decode cX8_tell 197 = .ok (.iconst 0, 1) := by decide +kernel
theorem dX8_tell_198 : decode cX8_tell 198 = .ok (.aload_n 0, 1) := by decide +kernel
theorem dX8_tell_199 : decode cX8_tell 199 = .ok (.getfield 9, 3) := by decide +kernel
theorem dX8_tell_202 : decode cX8_tell 202 = .ok (.iconst 0, 1) := by decide +kernel
theorem dX8_tell_203 : decode cX8_tell 203 = .ok (.invokestatic 184, 3) := by decide +kernel
theorem dX8_tell_206 : decode cX8_tell 206 = .ok (.aload_n 0, 1) := by decide +kernel
theorem dX8_tell_207 : decode cX8_tell 207 = .ok (.iconst 0, 1) := by decide +kernel
theorem dX8_tell_208 : decode cX8_tell 208 = .ok (.putfield 188, 3) := by decide +kernel
theorem dX8_tell_211 : decode cX8_tell 211 = .ok (.aload_n 0, 1) := by decide +kernel
theorem dX8_tell_212 : decode cX8_tell 212 = .ok (.getfield 9, 3) := by decide +kernel
theorem dX8_tell_215 : decode cX8_tell 215 = .ok (.iconst 0, 1) := by decide +kernel
theorem dX8_tell_216 : decode cX8_tell 216 = .ok (.iaload, 1) := by decide +kernel
theorem dX8_tell_217 : decode cX8_tell 217 = .ok (.ireturn, 1) := by decide +kernel
set_option maxHeartbeats 4000000 in
set_option maxRecDepth 100000 in
theorem m_X8_tell (l : Launch) (mem : Mem) (hT0 : 0 ≤ mem 0 7 ∧ mem 0 7 ≤ 400) (h10 : 0 ≤ mem 0 10 ∧ mem 0 10 ≤ 400) (hBy : ∀ k : Nat, -128 ≤ mem 6 k ∧ mem 6 k ≤ 127) (hZ : ∀ k : Nat, 459 ≤ k → mem 2 k = 0) (hZ7 : ∀ k : Nat, mem 7 k = 0 ∨ mem 7 k = 1) : Ret shp l yX8_tell cX8_tell 2 (some .int) 7 [pR 0] mem (fun rv mv => ∃ z, rv = some (pI z) ∧ (tellH mem 0 9 = -1 ∧ z = tellH mem 2 0 ∧ mv = mset (cpyN (mset (tellH mem) 0 7 0) 2 0 1 0 459) 0 5 0 ∨ tellH mem 0 9 ≠ -1 ∧ z = -2 - tellH mem 0 9 ∧ mv = mset (tellH mem) 0 7 0) ∧ RdOk (tellH mem) ∧ (∀ k : Nat, 0 ≤ tellH mem 2 k ∧ tellH mem 2 k ≤ 100240) ∧ (∀ k : Nat, tellH mem 7 k = 0 ∨ tellH mem 7 k = 1) ∧ (∀ a, a ≠ 0 → a ≠ 2 → a ≠ 7 → tellH mem a = mem a)) := by
  refine ret_of (by decide +kernel) (Nat.le_of_ble_eq_true rfl) (fun X hX F G => ?_)
  show Ok shp X 2 0 [(0, pR 0)] [] mem
  obtain ⟨hok0, h0a, h0k, h0z, h09, h07o⟩ := tl0_ok hT0 h10
  have h020 : tl0 mem 2 0 = 0 := h0k 0 (by decide)
  have h021 : tl0 mem 2 1 = 0 := h0k 1 (by decide)
  have h022 : tl0 mem 2 2 = 0 := h0k 2 (by decide)
  have h02 : ∀ k : Nat, 0 ≤ tl0 mem 2 k ∧ tl0 mem 2 k ≤ 99 := fun k => by
    by_cases y : k < 459
    · rw [h0k k y]; exact startH_bd k
    · rw [h0z k (by omega), hZ k (by omega)]; decide
  have h07 : ∀ k : Nat, tl0 mem 7 k = 0 ∨ tl0 mem 7 k = 1 := fun k => by
    have a := h07o k
    have b := hZ7 k
    omega
  obtain ⟨_, _, hPb0, _, _, eP0, _, _, _, p990, _⟩ := pt_ok hok0
  refine ok_aload_n F dX8_tell_0 0 rfl ?_
  refine ok_iconst F dX8_tell_1 ?_
  refine ok_putf F dX8_tell_2 kF_X8_79 sh_0 rfl rfl rfl (fun m_1 e_2 => ?_)
  refine ok_aload_n F dX8_tell_5 0 rfl ?_
  refine ok_iconst F dX8_tell_6 ?_
  refine ok_putf F dX8_tell_7 kF_X8_86 sh_0 rfl rfl rfl (fun m_3 e_4 => ?_)
  refine ok_iconst F dX8_tell_10 ?_
  refine ok_istore_n (lv' := [(1, pI 0), (0, pR 0)]) F dX8_tell_11 (by decide) rfl ?_
  have hL_12 : ∀ (n_12 : Nat) (k : Int) (m : Mem), (0 ≤ k ∧ k ≤ 459 ∧ m = tlI mem k.toNat 0) → (459 - k).toNat = n_12 → Ok shp X 2 12 [(0, pR 0), (1, pI k)] [] m := by
    intro n_12
    induction n_12 using Nat.strongRecOn with
    | _ n_12 ih_12 =>
      intro k m hI_12 hn_12
      refine ok_iload_n F dX8_tell_12 1 rfl ?_
      refine ok_sipush F dX8_tell_13 rfl ?_
      refine ok_icmp_ge F 70 dX8_tell_16 (by decide) (by omega) (by omega) (fun c_5 => ?_) (fun c_5 => ?_)
      · refine ok_iconst F dX8_tell_70 ?_
        refine ok_istore_n (lv' := [(1, pI 0), (0, pR 0)]) F dX8_tell_71 (by decide) rfl ?_
        have hL_72 : ∀ (n_72 : Nat) (k : Int) (m : Mem), (0 ≤ k ∧ k ≤ 4 ∧ m = tlI mem 459 k.toNat) → (4 - k).toNat = n_72 → Ok shp X 2 72 [(0, pR 0), (1, pI k)] [] m := by
          intro n_72
          induction n_72 using Nat.strongRecOn with
          | _ n_72 ih_72 =>
            intro k m hI_72 hn_72
            refine ok_iload_n F dX8_tell_72 1 rfl ?_
            refine ok_aload_n F dX8_tell_73 0 rfl ?_
            refine ok_getr F dX8_tell_74 kF_X8_30 sh_0 rfl ?_
            refine ok_alen F dX8_tell_77 sh_7 (by decide) ?_
            refine ok_icmp_ge F 94 dX8_tell_78 (by decide) (by omega) (by omega) (fun c_6 => ?_) (fun c_6 => ?_)
            · have e0 : m = tl0 mem := by rw [hI_72.2.2, show k.toNat = 4 by omega]; rfl
              refine ok_aload_n F dX8_tell_94 0 rfl ?_
              refine ok_ldcs (i := 0) F dX8_tell_95 (List.mem_of_getElem? (i := 20) rfl) ?_
              refine ok_callv F [pR (1000 + 0)] dX8_tell_97 kM_X8_takes kI_X8_takes kV_X8_takes kL_X8_147 (ci := 8) rfl sh_0 rfl (by decide) (Nat.le_of_ble_eq_true rfl) rfl (m_X8_takes _ 0 m (by omega) (by rw [e0]; exact hok0.1) (by rw [e0]; exact hok0.2.1) (fun k => by rw [e0, h0a 6 (by decide) (by decide) (by decide)]; exact hBy k)) ?_
              rintro _ m_8 ⟨z_7, rfl, r_9⟩
              have hT := tkZ r_9
              rw [e0] at hT
              have hJ_112 : ∀  (m1 : Mem), (m1 = tl1 (tl0 mem)) → Ok shp X 2 112 [(0, pR 0), (1, pI k)] [] m1 := by
                intro m1 hI_112
                obtain ⟨hok1, h1c⟩ := tl1_ok hok0
                rw [← hI_112] at hok1 h1c
                have h12 := h1c 2 (by decide)
                refine ok_aload_n F dX8_tell_112 0 rfl ?_
                refine ok_callv F [] dX8_tell_113 kM_X8_readsKinds kI_X8_readsKinds kV_X8_readsKinds kL_X8_178 (ci := 8) rfl sh_0 rfl (by decide) (Nat.le_of_ble_eq_true rfl) rfl (m_X8_readsKinds _ m1 (hok1) (by rw [h12]; exact h020) (fun k hk => by rw [h12]; have := h02 k; omega)) ?_
                rintro _ m_11 ⟨rfl, r_12⟩
                obtain ⟨y0, y1, y2, y3⟩ := id r_12
                obtain ⟨k1, k2, k3⟩ := kindsL_cells 10 hok1 (by rw [h12]; omega)
                rw [← y0] at k1 k2 k3
                have eT2 : m_11 = tl2 mem := by rw [y0, hI_112]; rfl
                have k22 : m_11 2 2 = 0 := by rw [k2, h12, h022]
                have hL_116 : ∀ (n_116 : Nat)  (m : Mem), (RdOk m ∧ (0 ≤ m 2 0 ∧ m 2 0 ≤ 8) ∧ (m 0 9 = -1 → 0 ≤ m 2 1 ∧ m 2 1 ≤ 5) ∧ (0 ≤ m 2 2 ∧ m 2 2 ≤ 40) ∧ (∀ k : Nat, 0 ≤ m 2 k ∧ m 2 k ≤ 100000 + 6 * m 2 2) ∧ (∀ k : Nat, m 7 k = 0 ∨ m 7 k = 1) ∧ (∀ a, a ≠ 0 → a ≠ 2 → a ≠ 7 → m a = mem a) ∧ ∃ n : Nat, 402 ≤ (n : Int) + m 0 8 ∧ partsL 402 (tl2 mem) = partsL n m) → (401 - m 0 8).toNat = n_116 → Ok shp X 2 116 [(0, pR 0)] [] m := by
                  intro n_116
                  induction n_116 using Nat.strongRecOn with
                  | _ n_116 ih_116 =>
                    intro m hI_116 hn_116
                    obtain ⟨hR, hN, hD, hS, hH, hTo, hca, n0, hn, hE⟩ := hI_116
                    obtain ⟨pD, pT, pP, aD, aT, eP1, pid, hle, pN, p99, p9t⟩ := pt_ok hR
                    have hb8 := hR.2.1
                    have hb9 := hR.2.2.1
                    obtain ⟨n, rfl⟩ : ∃ x, n0 = x + 1 := ⟨n0 - 1, by omega⟩
                    refine ok_aload_n F dX8_tell_116 0 rfl ?_
                    refine ok_callv F [] dX8_tell_117 kM_X8_isRight kI_X8_isRight kV_X8_isRight kL_X8_89 (ci := 8) rfl sh_0 rfl (by decide) (Nat.le_of_ble_eq_true rfl) rfl (m_X8_isRight _ m (by have := hR.2.2.1; omega)) ?_
                    rintro _ _ ⟨rfl, rfl⟩
                    have hJ_149 : ∀  (ms : Mem), (ms = stopP m ∧ goesP m = false) → Ok shp X 2 149 [(0, pR 0)] [] ms := by
                      intro ms hI_149
                      obtain ⟨hs0, hg0⟩ := hI_149
                      obtain ⟨hRs, hsc, hs9⟩ := stopP_ok hR
                      rw [← hs0] at hRs hsc hs9
                      have hs99 : ptD ms 0 9 = ms 0 9 := mset_ne (by decide)
                      have hE2 : partsL 402 (tl2 mem) = ms := by rw [hE, partsL_s, if_neg (by rw [hg0]; decide), ← hs0]
                      have hTe : tellH mem = tl3 ms := by unfold tellH; rw [hE2]
                      refine ok_aload_n F dX8_tell_149 0 rfl ?_
                      refine ok_callv F [] dX8_tell_150 kM_X8_isRight kI_X8_isRight kV_X8_isRight kL_X8_89 (ci := 8) rfl sh_0 rfl (by decide) (Nat.le_of_ble_eq_true rfl) rfl (m_X8_isRight _ ms (by have := hRs.2.2.1; omega)) ?_
                      rintro _ _ ⟨rfl, rfl⟩
                      have hJ_173 : ∀  (mt : Mem), (mt = tl3 ms) → Ok shp X 2 173 [(0, pR 0)] [] mt := by
                        intro mt hI_173
                        have hTm : tellH mem = mt := by rw [hTe, hI_173]
                        obtain ⟨hRt, htc⟩ := tl3_ok hRs
                        rw [← hI_173] at hRt htc
                        have hfin : RdOk (tellH mem) ∧ (∀ k : Nat, 0 ≤ tellH mem 2 k ∧ tellH mem 2 k ≤ 100240) ∧ (∀ k : Nat, tellH mem 7 k = 0 ∨ tellH mem 7 k = 1) ∧ (∀ a, a ≠ 0 → a ≠ 2 → a ≠ 7 → tellH mem a = mem a) := by
                          rw [hTm]
                          refine ⟨hRt, fun k => ?_, fun k => ?_, fun a a0 a2 a7 => ?_⟩
                          · rw [htc 2 (by decide), hsc 2 (by decide)]; have := hH k; omega
                          · rw [htc 7 (by decide), hsc 7 (by decide)]; exact hTo k
                          · rw [htc a a0, hsc a a0]; exact hca a a0 a2 a7
                        refine ok_aload_n F dX8_tell_173 0 rfl ?_
                        refine ok_iconst F dX8_tell_174 ?_
                        refine ok_putf F dX8_tell_175 kF_X8_71 sh_0 rfl rfl rfl (fun m_13 e_14 => ?_)
                        have eT7 := e_14
                        have q9 : m_13 0 9 = mt 0 9 := by rw [e_14]; exact mset_ne (by decide)
                        have q9b := hRt.2.2.1
                        refine ok_aload_n F dX8_tell_178 0 rfl ?_
                        refine ok_callv F [] dX8_tell_179 kM_X8_isRight kI_X8_isRight kV_X8_isRight kL_X8_89 (ci := 8) rfl sh_0 rfl (by decide) (Nat.le_of_ble_eq_true rfl) rfl (m_X8_isRight _ m_13 (by omega)) ?_
                        rintro _ _ ⟨rfl, rfl⟩
                        refine ok_if_ne F 193 dX8_tell_182 (by decide) (by omega) (fun c_15 => ?_) (fun c_15 => ?_)
                        · refine ok_aload_n F dX8_tell_193 0 rfl ?_
                          refine ok_getr F dX8_tell_194 kF_X8_13 sh_0 rfl ?_
                          refine ok_iconst F dX8_tell_197 ?_
                          refine ok_aload_n F dX8_tell_198 0 rfl ?_
                          refine ok_getr F dX8_tell_199 kF_X8_9 sh_0 rfl ?_
                          refine ok_iconst F dX8_tell_202 ?_
                          refine ok_calls F [pR 2, pI 0, pR 1, pI 0] dX8_tell_203 kM_X8_moves kS_X8_moves kL_X8_184 rfl (by decide) (Nat.le_of_ble_eq_true rfl) rfl (m_X8_moves _ 2 0 1 0 m_13 (459) (459) (sh_2) (sh_1) (by decide) (by decide) (by decide) (by omega) (by omega)) ?_
                          rintro _ m_16 ⟨rfl, e_17⟩
                          have eM := e_17
                          refine ok_aload_n F dX8_tell_206 0 rfl ?_
                          refine ok_iconst F dX8_tell_207 ?_
                          refine ok_putf F dX8_tell_208 kF_X8_188 sh_0 rfl rfl rfl (fun m_18 e_19 => ?_)
                          refine ok_aload_n F dX8_tell_211 0 rfl ?_
                          refine ok_getr F dX8_tell_212 kF_X8_9 sh_0 rfl ?_
                          refine ok_iconst F dX8_tell_215 ?_
                          refine ok_iald (v := m_16 1 0) F dX8_tell_216 sh_1 (by first | decide | assumption) (by omega) (by omega) (by rw [e_19, mset_nk (by decide)] <;> rfl) ?_
                          refine ok_iret F G dX8_tell_217 ?_
                          refine ⟨_, rfl, Or.inl ⟨by rw [hTm]; omega, ?_, ?_⟩, hfin⟩
                          · rw [hTm, eM, eT7]; simp [cpyN, mset]
                          · rw [e_19, eM, eT7, hTm]; rfl
                        · refine ok_bipush F dX8_tell_185 rfl ?_
                          refine ok_aload_n F dX8_tell_187 0 rfl ?_
                          refine ok_getf (v := mt 0 9) F dX8_tell_188 kF_X8_86 sh_0 rfl (by rw [e_14, mset_ne (by decide)] <;> rfl) ?_
                          refine ok_isub F dX8_tell_191 ?_
                          refine ok_iret F G dX8_tell_192 ?_
                          exact ⟨_, rfl, Or.inr ⟨by rw [hTm]; omega, by rw [hTm], by rw [hTm]; exact e_14⟩, hfin⟩
                      refine ok_if_eq F 173 dX8_tell_153 (by decide) (by omega) (fun c_20 => ?_) (fun c_20 => ?_)
                      · refine ok_lvp [0] (lv' := [(0, pR 0)]) rfl ?_
                        refine hJ_173 ms ?_
                        unfold tl3 stopP ptP
                        first
                          | (rw [if_neg (by omega), if_neg (by omega)]; done)
                          | (rw [if_neg (by omega), if_pos (by omega)]; exact eN)
                          | (rw [if_pos (by omega), if_pos (by omega), ← eN, eF, v8]; rfl)
                      · refine ok_aload_n F dX8_tell_156 0 rfl ?_
                        refine ok_callv F [] dX8_tell_157 kM_X8_next kI_X8_next kV_X8_next kL_X8_93 (ci := 8) rfl sh_0 rfl (by decide) (Nat.le_of_ble_eq_true rfl) rfl (m_X8_next _ ms (hRs.1) (hRs.2.1)) ?_
                        rintro _ m_21 ⟨rfl, e_22⟩
                        have eN : m_21 = ptD ms := e_22
                        have hsg := sgn_bd ms (skipF ms 401 (ms 0 8))
                        have v8 : m_21 0 8 = skipF ms 401 (ms 0 8) := by rw [eN]; exact mset_eq _ _ _ _
                        refine ok_iconst F dX8_tell_160 ?_
                        refine ok_icmp_eq F 173 dX8_tell_161 (by decide) (by omega) (by omega) (fun c_23 => ?_) (fun c_23 => ?_)
                        · refine ok_lvp [0] (lv' := [(0, pR 0)]) rfl ?_
                          refine hJ_173 m_21 ?_
                          unfold tl3 stopP ptP
                          first
                            | (rw [if_neg (by omega), if_neg (by omega)]; done)
                            | (rw [if_neg (by omega), if_pos (by omega)]; exact eN)
                            | (rw [if_pos (by omega), if_pos (by omega), ← eN, eF, v8]; rfl)
                        · refine ok_aload_n F dX8_tell_164 0 rfl ?_
                          refine ok_iconst F dX8_tell_165 ?_
                          refine ok_aload_n F dX8_tell_166 0 rfl ?_
                          refine ok_getf (v := m_21 0 8) F dX8_tell_167 kF_X8_79 sh_0 rfl rfl ?_
                          refine ok_callv F [pI 1, pI (m_21 0 8)] dX8_tell_170 kM_X8_fails kI_X8_fails kV_X8_fails kL_X8_120 (ci := 8) rfl sh_0 rfl (by decide) (Nat.le_of_ble_eq_true rfl) rfl (m_X8_fails _ 1 (m_21 0 8) m_21 (by rw [eN, hs99]; have := hRs.2.2.1; omega)) ?_
                          rintro _ m_24 ⟨rfl, e_25⟩
                          have eF := e_25
                          refine ok_lvp [0] (lv' := [(0, pR 0)]) rfl ?_
                          refine hJ_173 m_24 ?_
                          unfold tl3 stopP ptP
                          first
                            | (rw [if_neg (by omega), if_neg (by omega)]; done)
                            | (rw [if_neg (by omega), if_pos (by omega)]; exact eN)
                            | (rw [if_pos (by omega), if_pos (by omega), ← eN, eF, v8]; rfl)
                    refine ok_if_eq F 149 dX8_tell_120 (by decide) (by omega) (fun c_26 => ?_) (fun c_26 => ?_)
                    · refine ok_lvp [0] (lv' := [(0, pR 0)]) rfl ?_
                      refine hJ_149 m ?_
                      unfold stopP goesP ptP
                      first
                        | exact ⟨by rw [if_neg (by omega)], decide_eq_false (by omega)⟩
                        | exact ⟨by rw [if_pos (by omega), eN], decide_eq_false (by omega)⟩
                    · refine ok_aload_n F dX8_tell_123 0 rfl ?_
                      refine ok_callv F [] dX8_tell_124 kM_X8_next kI_X8_next kV_X8_next kL_X8_93 (ci := 8) rfl sh_0 rfl (by decide) (Nat.le_of_ble_eq_true rfl) rfl (m_X8_next _ m (hR.1) (hR.2.1)) ?_
                      rintro _ m_27 ⟨rfl, e_28⟩
                      have eN : m_27 = ptD m := e_28
                      have hsg := sgn_bd m (skipF m 401 (m 0 8))
                      refine ok_bipush F dX8_tell_127 rfl ?_
                      refine ok_icmp_ne F 149 dX8_tell_129 (by decide) (by omega) (by omega) (fun c_29 => ?_) (fun c_29 => ?_)
                      · refine ok_lvp [0] (lv' := [(0, pR 0)]) rfl ?_
                        refine hJ_149 m_27 ?_
                        unfold stopP goesP ptP
                        first
                          | exact ⟨by rw [if_neg (by omega)], decide_eq_false (by omega)⟩
                          | exact ⟨by rw [if_pos (by omega), eN], decide_eq_false (by omega)⟩
                      · refine ok_aload_n F dX8_tell_132 0 rfl ?_
                        refine ok_dup F dX8_tell_133 rfl ?_
                        refine ok_getf (v := m_27 0 8) F dX8_tell_134 kF_X8_79 sh_0 rfl rfl ?_
                        refine ok_iconst F dX8_tell_137 ?_
                        refine ok_iadd F dX8_tell_138 ?_
                        refine ok_putf F dX8_tell_139 kF_X8_79 sh_0 rfl rfl rfl (fun m_30 e_31 => ?_)
                        have hg59 : sgn m (ptP m) = 59 := show sgn m (skipF m 401 (m 0 8)) = 59 by omega
                        have e8x : m_30 = mset (ptD m) 0 8 (ptP m + 1) := by rw [e_31, eN, eP1]
                        obtain ⟨hR1, c1⟩ := ptS_ok hR hg59
                        rw [← e8x] at hR1 c1
                        have c12 := c1 2 (by decide)
                        have hgo := (rgo_partM m_30).1
                        have h8k : m_30 0 8 = ptP m + 1 := by rw [e8x]; exact mset_eq _ _ _ _
                        have hgp : goesP m = true := by unfold goesP; exact decide_eq_true ⟨by omega, hg59⟩
                        refine ok_aload_n F dX8_tell_142 0 rfl ?_
                        refine ok_callv F [] dX8_tell_143 kM_X8_readsPart kI_X8_readsPart kV_X8_readsPart kL_X8_181 (ci := 8) rfl sh_0 rfl (by decide) (Nat.le_of_ble_eq_true rfl) rfl (m_X8_readsPart _ m_30 (hR1) (by rw [c12]; exact hN) (by rw [c12]; exact hD (by omega)) (by rw [c12]; exact hS) (fun k => by rw [c12]; exact hH k) (fun k => by rw [c1 7 (by decide)]; exact hTo k) (fun k => by rw [c1 6 (by decide), hca 6 (by decide) (by decide) (by decide)]; exact hBy k)) ?_
                        rintro _ m_33 ⟨rfl, r_34⟩
                        obtain ⟨y0, y1, y2, y3, y4, y5, y6, y7⟩ := id r_34
                        rw [← y0] at hgo
                        refine ok_goto F 116 dX8_tell_146 (by decide) ?_
                        refine ok_lvp [0] (lv' := [(0, pR 0)]) rfl ?_
                        refine ih_116 _ ?_ m_33 ?_ rfl
                        · omega
                        · refine ⟨y1, by rw [y2, c12]; exact hN, y3, y4, y5, y6, fun a a0 a2 a7 => by rw [y7 a a0 a2 a7, c1 a a0]; exact hca a a0 a2 a7, n, by omega, ?_⟩
                          rw [hE, partsL_s, if_pos hgp, ← e8x, ← y0]
                refine ok_lvp [0] (lv' := [(0, pR 0)]) rfl ?_
                refine hL_116 _ m_11 ?_ rfl
                refine ⟨y1, y2, fun _ => by rw [k1, h12, h021]; decide, by rw [k22]; decide, fun k => ?_, fun k => by rw [k3 7 (by decide) (by decide), h1c 7 (by decide)]; exact h07 k, fun a a0 a2 a7 => by rw [k3 a a0 a2, h1c a a0]; exact h0a a a0 a2 a7, 402, by have := y1.2.1.1; omega, by rw [eT2]⟩
                by_cases q : k = 0
                · rw [q]; omega
                · have := y3 k (by omega); omega
              refine ok_if_ne F 112 dX8_tell_100 (by decide) (by omega) (fun c_35 => ?_) (fun c_35 => ?_)
              · refine ok_lvp [0, 1] (lv' := [(0, pR 0), (1, pI k)]) rfl ?_
                refine hJ_112 m_8 ?_
                unfold tl1
                first
                  | (obtain ⟨w, q1, v1⟩ := hT.resolve_right (fun q => by have := q.2.1; omega)
                     rw [if_pos w]
                     exact v1)
                  | (rw [if_neg (by rw [w0]; decide), eF, v0, eP0]; rfl)
              · obtain ⟨w0, q0, v0⟩ := hT.resolve_left (fun q => by have := q.2.1; omega)
                have v9 : m_8 0 9 = -1 := by rw [v0, p990]; exact h09
                refine ok_aload_n F dX8_tell_103 0 rfl ?_
                refine ok_iconst F dX8_tell_104 ?_
                refine ok_aload_n F dX8_tell_105 0 rfl ?_
                refine ok_getf (v := m_8 0 8) F dX8_tell_106 kF_X8_79 sh_0 rfl rfl ?_
                refine ok_callv F [pI 1, pI (m_8 0 8)] dX8_tell_109 kM_X8_fails kI_X8_fails kV_X8_fails kL_X8_120 (ci := 8) rfl sh_0 rfl (by decide) (Nat.le_of_ble_eq_true rfl) rfl (m_X8_fails _ 1 (m_8 0 8) m_8 (by omega)) ?_
                rintro _ m_36 ⟨rfl, e_37⟩
                have eF := e_37
                refine ok_lvp [0, 1] (lv' := [(0, pR 0), (1, pI k)]) rfl ?_
                refine hJ_112 m_36 ?_
                unfold tl1
                first
                  | (obtain ⟨w, q1, v1⟩ := hT.resolve_right (fun q => by have := q.2.1; omega)
                     rw [if_pos w]
                     exact v1)
                  | (rw [if_neg (by rw [w0]; decide), eF, v0, eP0]; rfl)
            · refine ok_aload_n F dX8_tell_81 0 rfl ?_
              refine ok_getr F dX8_tell_82 kF_X8_30 sh_0 rfl ?_
              refine ok_iload_n F dX8_tell_85 1 rfl ?_
              refine ok_iconst F dX8_tell_86 ?_
              refine ok_zast F dX8_tell_87 sh_7 (by first | decide | assumption) (by omega) (by omega) (rfl) (fun m_38 e_39 => ?_)
              refine ok_iinc (lv' := [(1, pI (k + 1)), (0, pR 0)]) F dX8_tell_88 1 rfl (by decide) rfl ?_
              refine ok_goto F 72 dX8_tell_91 (by decide) ?_
              refine ok_lvp [1, 0] (lv' := [(0, pR 0), (1, pI (k + 1))]) rfl ?_
              refine ih_72 _ ?_ (k + 1) m_38 ?_ rfl
              · omega
              · refine ⟨by omega, by omega, ?_⟩
                rw [e_39, hI_72.2.2, show (k + 1).toNat = k.toNat + 1 by omega, ← tlI_j]
        refine ok_lvp [1, 0] (lv' := [(0, pR 0), (1, pI 0)]) rfl ?_
        refine hL_72 _ 0 m ?_ rfl
        refine ⟨by omega, by omega, ?_⟩
        rw [hI_12.2.2, show k.toNat = 459 by omega]; rfl
      · refine ok_aload_n F dX8_tell_19 0 rfl ?_
        refine ok_getr F dX8_tell_20 kF_X8_13 sh_0 rfl ?_
        refine ok_iload_n F dX8_tell_23 1 rfl ?_
        refine ok_iload_n F dX8_tell_24 1 rfl ?_
        refine ok_i2l F dX8_tell_25 (by omega) ?_
        refine ok_ldc2 (n := 27) F dX8_tell_26 kJ_X8_168 rfl ?_
        refine ok_ldc2 (n := 34) F dX8_tell_29 kJ_X8_170 rfl ?_
        refine ok_calls F [pL k, pL 27, pL 34] dX8_tell_32 kM_X8_in kS_X8_in kL_X8_100 rfl (by decide) (Nat.le_of_ble_eq_true rfl) rfl (m_X8_in _ k 27 34 m (by omega) (by omega) (by omega)) ?_
        rintro _ _ ⟨rfl, rfl⟩
        refine ok_if_eq F 43 dX8_tell_35 (by decide) (by omega) (fun c_40 => ?_) (fun c_40 => ?_)
        · refine ok_iload_n F dX8_tell_43 1 rfl ?_
          refine ok_i2l F dX8_tell_44 (by omega) ?_
          refine ok_ldc2 (n := 35) F dX8_tell_45 kJ_X8_172 rfl ?_
          refine ok_ldc2 (n := 42) F dX8_tell_48 kJ_X8_174 rfl ?_
          refine ok_calls F [pL k, pL 35, pL 42] dX8_tell_51 kM_X8_in kS_X8_in kL_X8_100 rfl (by decide) (Nat.le_of_ble_eq_true rfl) rfl (m_X8_in _ k 35 42 m (by omega) (by omega) (by omega)) ?_
          rintro _ _ ⟨rfl, rfl⟩
          refine ok_if_eq F 62 dX8_tell_54 (by decide) (by omega) (fun c_41 => ?_) (fun c_41 => ?_)
          · refine ok_iconst F dX8_tell_62 ?_
            refine ok_iast F dX8_tell_63 sh_2 (by first | decide | assumption) (by omega) (by omega) (fun m_42 e_43 => ?_)
            refine ok_iinc (lv' := [(1, pI (k + 1)), (0, pR 0)]) F dX8_tell_64 1 rfl (by decide) rfl ?_
            refine ok_goto F 12 dX8_tell_67 (by decide) ?_
            refine ok_lvp [1, 0] (lv' := [(0, pR 0), (1, pI (k + 1))]) rfl ?_
            refine ih_12 _ ?_ (k + 1) m_42 ?_ rfl
            · omega
            · refine ⟨by omega, by omega, ?_⟩
              rw [e_43, hI_12.2.2, show (k + 1).toNat = k.toNat + 1 by omega, ← tlI_k]
              unfold startH
              first
                | rw [if_pos (by omega)]
                | rw [if_neg (by omega), if_pos (by omega)]
                | rw [if_neg (by omega), if_neg (by omega)]
          · refine ok_bipush F dX8_tell_57 rfl ?_
            refine ok_goto F 63 dX8_tell_59 (by decide) ?_
            refine ok_iast F dX8_tell_63 sh_2 (by first | decide | assumption) (by omega) (by omega) (fun m_44 e_45 => ?_)
            refine ok_iinc (lv' := [(1, pI (k + 1)), (0, pR 0)]) F dX8_tell_64 1 rfl (by decide) rfl ?_
            refine ok_goto F 12 dX8_tell_67 (by decide) ?_
            refine ok_lvp [1, 0] (lv' := [(0, pR 0), (1, pI (k + 1))]) rfl ?_
            refine ih_12 _ ?_ (k + 1) m_44 ?_ rfl
            · omega
            · refine ⟨by omega, by omega, ?_⟩
              rw [e_45, hI_12.2.2, show (k + 1).toNat = k.toNat + 1 by omega, ← tlI_k]
              unfold startH
              first
                | rw [if_pos (by omega)]
                | rw [if_neg (by omega), if_pos (by omega)]
                | rw [if_neg (by omega), if_neg (by omega)]
        · refine ok_bipush F dX8_tell_38 rfl ?_
          refine ok_goto F 63 dX8_tell_40 (by decide) ?_
          refine ok_iast F dX8_tell_63 sh_2 (by first | decide | assumption) (by omega) (by omega) (fun m_46 e_47 => ?_)
          refine ok_iinc (lv' := [(1, pI (k + 1)), (0, pR 0)]) F dX8_tell_64 1 rfl (by decide) rfl ?_
          refine ok_goto F 12 dX8_tell_67 (by decide) ?_
          refine ok_lvp [1, 0] (lv' := [(0, pR 0), (1, pI (k + 1))]) rfl ?_
          refine ih_12 _ ?_ (k + 1) m_46 ?_ rfl
          · omega
          · refine ⟨by omega, by omega, ?_⟩
            rw [e_47, hI_12.2.2, show (k + 1).toNat = k.toNat + 1 by omega, ← tlI_k]
            unfold startH
            first
              | rw [if_pos (by omega)]
              | rw [if_neg (by omega), if_pos (by omega)]
              | rw [if_neg (by omega), if_neg (by omega)]
  refine ok_lvp [1, 0] (lv' := [(0, pR 0), (1, pI 0)]) rfl ?_
  refine hL_12 _ 0 m_3 ?_ rfl
  refine ⟨by omega, by omega, ?_⟩
  rw [e_4, e_2]; exact tlI_0 mem
