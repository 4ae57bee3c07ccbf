/-! the class: trim -/
def trmO (f : Nat → Int) (d : Int) : Int := shR f d (f 2).toNat (tilF f)
def trmC (f : Nat → Int) (d : Int) : Nat → Int := trimA f d (f 2).toNat (trmO f d) (f 0).toNat (tilF f)
theorem dX7_trim_0 : decode cX7_trim 0 = .ok (.aload_n 0, 1) := by decide +kernel
theorem dX7_trim_1 : decode cX7_trim 1 = .ok (.iload_n 1, 1) := by decide +kernel
theorem dX7_trim_2 : decode cX7_trim 2 = .ok (.invokevirtual 146, 3) := by decide +kernel
theorem dX7_trim_5 : decode cX7_trim 5 = .ok (.ifCond .eq 11, 3) := by decide +kernel
theorem dX7_trim_8 : decode cX7_trim 8 = .ok (.aload_n 0, 1) := by decide +kernel
theorem dX7_trim_9 : decode cX7_trim 9 = .ok (.iload_n 2, 1) := by decide +kernel
theorem dX7_trim_10 : decode cX7_trim 10 = .ok (.invokevirtual 246, 3) := by decide +kernel
theorem dX7_trim_13 : decode cX7_trim 13 = .ok (.ifCond .ne 5, 3) := by decide +kernel
theorem dX7_trim_16 : decode cX7_trim 16 = .ok (.iconst (-1), 1) := by decide +kernel
theorem dX7_trim_17 : decode cX7_trim 17 = .ok (.ireturn, 1) := by decide +kernel
theorem dX7_trim_18 : decode cX7_trim 18 = .ok (.aload_n 0, 1) := by decide +kernel
theorem dX7_trim_19 : decode cX7_trim 19 = .ok (.getfield 38, 3) := by decide +kernel
theorem dX7_trim_22 : decode cX7_trim 22 = .ok (.aload_n 0, 1) := by decide +kernel
theorem dX7_trim_23 : decode cX7_trim 23 = .ok (.getfield 10, 3) := by decide +kernel
theorem dX7_trim_26 : decode cX7_trim 26 = .ok (.getfield 133, 3) := by decide +kernel
theorem dX7_trim_29 : decode cX7_trim 29 = .ok (.aload_n 0, 1) := by decide +kernel
theorem dX7_trim_30 : decode cX7_trim 30 = .ok (.getfield 10, 3) := by decide +kernel
theorem dX7_trim_33 : decode cX7_trim 33 = .ok (.iload_n 1, 1) := by decide +kernel
theorem dX7_trim_34 : decode cX7_trim 34 = .ok (.invokevirtual 149, 3) := by decide +kernel
theorem dX7_trim_37 : decode cX7_trim 37 = .ok (.aload_n 0, 1) := by decide +kernel
theorem dX7_trim_38 : decode cX7_trim 38 = .ok (.getfield 38, 3) := by decide +kernel
theorem dX7_trim_41 : decode cX7_trim 41 = .ok (.getfield 158, 3) := by decide +kernel
theorem dX7_trim_44 : decode cX7_trim 44 = .ok (.istore_n 3, 1) := by decide +kernel
theorem dX7_trim_45 : decode cX7_trim 45 = .ok (.aload_n 0, 1) := by decide +kernel
theorem dX7_trim_46 : decode cX7_trim 46 = .ok (.getfield 10, 3) := by decide +kernel
theorem dX7_trim_49 : decode cX7_trim 49 = .ok (.getfield 133, 3) := by decide +kernel
theorem dX7_trim_52 : decode cX7_trim 52 = .ok (.aload_n 0, 1) := by decide +kernel
theorem dX7_trim_53 : decode cX7_trim 53 = .ok (.getfield 65, 3) := by decide +kernel
theorem dX7_trim_56 : decode cX7_trim 56 = .ok (.invokestatic 154, 3) := by decide +kernel
theorem dX7_trim_59 : decode cX7_trim 59 = .ok (.aload_n 0, 1) := by decide +kernel
theorem dX7_trim_60 : decode cX7_trim 60 = .ok (.getfield 10, 3) := by decide +kernel
theorem dX7_trim_63 : decode cX7_trim 63 = .ok (.getfield 103, 3) := by decide +kernel
theorem dX7_trim_66 : decode cX7_trim 66 = .ok (.iconst 1, 1) := by decide +kernel
theorem dX7_trim_67 : decode cX7_trim 67 = .ok (.isub, 1) := by decide +kernel
theorem dX7_trim_68 : decode cX7_trim 68 = .ok (.istore 4, 2) := by decide +kernel
theorem dX7_trim_70 : decode cX7_trim 70 = .ok (.iload 4, 2) := by decide +kernel
theorem dX7_trim_72 : decode cX7_trim 72 = .ok (.ifCond .lt 141, 3) := by decide +kernel
theorem dX7_trim_75 : decode cX7_trim 75 = .ok (.aload_n 0, 1) := by decide +kernel
theorem dX7_trim_76 : decode cX7_trim 76 = .ok (.getfield 38, 3) := by decide +kernel
theorem dX7_trim_79 : decode cX7_trim 79 = .ok (.aload_n 0, 1) := by decide +kernel
theorem dX7_trim_80 : decode cX7_trim 80 = .ok (.getfield 65, 3) := by decide +kernel
theorem dX7_trim_83 : decode cX7_trim 83 = .ok (.aload_n 0, 1) := by decide +kernel
theorem dX7_trim_84 : decode cX7_trim 84 = .ok (.getfield 10, 3) := by decide +kernel
theorem dX7_trim_87 : decode cX7_trim 87 = .ok (.iload_n 1, 1) := by decide +kernel
theorem dX7_trim_88 : decode cX7_trim 88 = .ok (.invokevirtual 149, 3) := by decide +kernel
theorem dX7_trim_91 : decode cX7_trim 91 = .ok (.iconst 0, 1) := by decide +kernel
theorem dX7_trim_92 : decode cX7_trim 92 = .ok (.istore 5, 2) := by decide +kernel
theorem dX7_trim_94 : decode cX7_trim 94 = .ok (.iload 5, 2) := by decide +kernel
theorem dX7_trim_96 : decode cX7_trim 96 = .ok (.bipush 100, 2) := by decide +kernel
theorem dX7_trim_98 : decode cX7_trim 98 = .ok (.if_icmp .ge 87, 3) := by decide +kernel
theorem dX7_trim_101 : decode cX7_trim 101 = .ok (.aload_n 0, 1) := by decide +kernel
theorem dX7_trim_102 : decode cX7_trim 102 = .ok (.getfield 38, 3) := by decide +kernel
theorem dX7_trim_105 : decode cX7_trim 105 = .ok (.getfield 158, 3) := by decide +kernel
theorem dX7_trim_108 : decode cX7_trim 108 = .ok (.iload_n 3, 1) := by decide +kernel
theorem dX7_trim_109 : decode cX7_trim 109 = .ok (.if_icmp .gt 76, 3) := by decide +kernel
theorem dX7_trim_112 : decode cX7_trim 112 = .ok (.aload_n 0, 1) := by decide +kernel
theorem dX7_trim_113 : decode cX7_trim 113 = .ok (.getfield 65, 3) := by decide +kernel
theorem dX7_trim_116 : decode cX7_trim 116 = .ok (.iload 4, 2) := by decide +kernel
theorem dX7_trim_118 : decode cX7_trim 118 = .ok (.iaload, 1) := by decide +kernel
theorem dX7_trim_119 : decode cX7_trim 119 = .ok (.ifCond .le 66, 3) := by decide +kernel
theorem dX7_trim_122 : decode cX7_trim 122 = .ok (.aload_n 0, 1) := by decide +kernel
theorem dX7_trim_123 : decode cX7_trim 123 = .ok (.getfield 65, 3) := by decide +kernel
theorem dX7_trim_126 : decode cX7_trim 126 = .ok (.iload 4, 2) := by decide +kernel
theorem dX7_trim_128 : decode cX7_trim 128 = .ok (.dup2, 1) := by decide +kernel
theorem dX7_trim_129 : decode cX7_trim 129 = .ok (.iaload, 1) := by decide +kernel
theorem dX7_trim_130 : decode cX7_trim 130 = .ok (.aload_n 0, 1) := by decide +kernel
theorem dX7_trim_131 : decode cX7_trim 131 = .ok (.getfield 38, 3) := by decide +kernel
theorem dX7_trim_134 : decode cX7_trim 134 = .ok (.getfield 308, 3) := by decide +kernel
theorem dX7_trim_137 : decode cX7_trim 137 = .ok (.iload 4, 2) := by decide +kernel
theorem dX7_trim_139 : decode cX7_trim 139 = .ok (.iaload, 1) := by decide +kernel
theorem dX7_trim_140 : decode cX7_trim 140 = .ok (.isub, 1) := by decide +kernel
theorem dX7_trim_141 : decode cX7_trim 141 = .ok (.iastore, 1) := by decide +kernel
theorem dX7_trim_142 : decode cX7_trim 142 = .ok (.aload_n 0, 1) := by decide +kernel
theorem dX7_trim_143 : decode cX7_trim 143 = .ok (.getfield 65, 3) := by decide +kernel
theorem dX7_trim_146 : decode cX7_trim 146 = .ok (.iload 4, 2) := by decide +kernel
theorem dX7_trim_148 : decode cX7_trim 148 = .ok (.iaload, 1) := by decide +kernel
theorem dX7_trim_149 : decode cX7_trim 149 = .ok (.ifCond .le 30, 3) := by decide +kernel
theorem dX7_trim_152 : decode cX7_trim 152 = .ok (.aload_n 0, 1) := by decide +kernel
theorem dX7_trim_153 : decode cX7_trim 153 = .ok (.getfield 65, 3) := by decide +kernel
theorem dX7_trim_156 : decode cX7_trim 156 = .ok (.iload 4, 2) := by decide +kernel
theorem dX7_trim_158 : decode cX7_trim 158 = .ok (.dup2, 1) := by decide +kernel
theorem dX7_trim_159 : decode cX7_trim 159 = .ok (.iaload, 1) := by decide +kernel
theorem dX7_trim_160 : decode cX7_trim 160 = .ok (.iconst 1, 1) := by decide +kernel
theorem dX7_trim_161 : decode cX7_trim 161 = .ok (.isub, 1) := by decide +kernel
theorem dX7_trim_162 : decode cX7_trim 162 = .ok (.iastore, 1) := by decide +kernel
theorem dX7_trim_163 : decode cX7_trim 163 = .ok (.aload_n 0, 1) := by decide +kernel
theorem dX7_trim_164 : decode cX7_trim 164 = .ok (.getfield 38, 3) := by decide +kernel
theorem dX7_trim_167 : decode cX7_trim 167 = .ok (.aload_n 0, 1) := by decide +kernel
theorem dX7_trim_168 : decode cX7_trim 168 = .ok (.getfield 65, 3) := by decide +kernel
theorem dX7_trim_171 : decode cX7_trim 171 = .ok (.aload_n 0, 1) := by decide +kernel
theorem dX7_trim_172 : decode cX7_trim 172 = .ok (.getfield 10, 3) := by decide +kernel
theorem dX7_trim_175 : decode cX7_trim 175 = .ok (.iload_n 1, 1) := by decide +kernel
theorem dX7_trim_176 : decode cX7_trim 176 = .ok (.invokevirtual 149, 3) := by decide +kernel
theorem dX7_trim_179 : decode cX7_trim 179 = .ok (.iinc 5 1, 3) := by decide +kernel
theorem dX7_trim_182 : decode cX7_trim 182 = .ok (.goto (-88), 3) := by decide +kernel
theorem dX7_trim_185 : decode cX7_trim 185 = .ok (.aload_n 0, 1) := by decide +kernel
theorem dX7_trim_186 : decode cX7_trim 186 = .ok (.getfield 38, 3) := by decide +kernel
theorem dX7_trim_189 : decode cX7_trim 189 = .ok (.getfield 158, 3) := by decide +kernel
theorem dX7_trim_192 : decode cX7_trim 192 = .ok (.iload_n 3, 1) := by decide +kernel
theorem dX7_trim_193 : decode cX7_trim 193 = .ok (.if_icmp .le 14, 3) := by decide +kernel
theorem dX7_trim_196 : decode cX7_trim 196 = .ok (.aload_n 0, 1) := by decide +kernel
theorem dX7_trim_197 : decode cX7_trim 197 = .ok (.getfield 65, 3) := by decide +kernel
theorem dX7_trim_200 : decode cX7_trim 200 = .ok (.iload 4, 2) := by decide +kernel
theorem dX7_trim_202 : decode cX7_trim 202 = .ok (.dup2, 1) := by decide +kernel
theorem dX7_trim_203 : decode cX7_trim 203 = .ok (.iaload, 1) := by decide +kernel
theorem dX7_trim_204 : decode cX7_trim 204 = .ok (.iconst 1, 1) := by decide +kernel
theorem dX7_trim_205 : decode cX7_trim 205 = .ok (.iadd, 1) := by decide +kernel
theorem dX7_trim_206 : decode cX7_trim 206 = .ok (.iastore, 1) := by decide +kernel
theorem dX7_trim_207 : decode cX7_trim 207 = .ok (.iinc 4 (-1), 3) := by decide +kernel
theorem dX7_trim_210 : decode cX7_trim 210 = .ok (.goto (-140), 3) := by decide +kernel
theorem dX7_trim_213 : decode cX7_trim 213 = .ok (.iload_n 2, 1) := by decide +kernel
theorem dX7_trim_214 : decode cX7_trim 214 = .ok (.iconst (-1), 1) := by decide +kernel
theorem dX7_trim_215 : decode cX7_trim 215 = .ok (.if_icmp .ne 17, 3) := by decide +kernel
theorem dX7_trim_218 : decode cX7_trim 218 = .ok (.aload_n 0, 1) := by decide +kernel
theorem dX7_trim_219 : decode cX7_trim 219 = .ok (.getfield 10, 3) := by decide +kernel
theorem dX7_trim_222 : decode cX7_trim 222 = .ok (.aload_n 0, 1) := by decide +kernel
theorem dX7_trim_223 : decode cX7_trim 223 = .ok (.getfield 65, 3) := by decide +kernel
theorem dX7_trim_226 : decode cX7_trim 226 = .ok (.invokevirtual 130, 3) := by decide +kernel
theorem dX7_trim_229 : decode cX7_trim 229 = .ok (.goto 9, 3) := by decide +kernel
theorem dX7_trim_232 : decode cX7_trim 232 = .ok (.aload_n 0, 1) := by decide +kernel
theorem dX7_trim_233 : decode cX7_trim 233 = .ok (.getfield 65, 3) := by decide +kernel
theorem dX7_trim_236 : decode cX7_trim 236 = .ok (.iload_n 2, 1) := by decide +kernel
theorem dX7_trim_237 : decode cX7_trim 237 = .ok (.iaload, 1) := by decide +kernel
theorem dX7_trim_238 : decode cX7_trim 238 = .ok (.ireturn, 1) := by decide +kernel
set_option maxHeartbeats 4000000 in
set_option maxRecDepth 100000 in
theorem m_X7_trim (l : Launch) (f : Nat → Int) (d : Int) (g : Int) (mem : Mem) (hd : i32 d) (hg : i32 g) (hCI : CI mem) (hRS : RS mem 21 f) (hG : GR f) : Ret shp l yX7_trim cX7_trim 6 (some .int) 6 [pR 20, pI d, pI g] mem (fun rv mv => ∃ z, rv = some (pI z) ∧ KeepC mem mv ∧ z = if (0 ≤ d ∧ d < f 1) ∧ (g = -1 ∨ 0 ≤ g ∧ g < f 0) then (if g = -1 then sumN (fun k => trmC f d k * f (3 + k)) (f 0).toNat else trmC f d g.toNat) else -1) := by
  refine ret_of (by decide +kernel) (Nat.le_of_ble_eq_true rfl) (fun X hX F G => ?_)
  show Ok shp X 6 0 [(0, pR 20), (1, pI d), (2, pI g)] [] mem
  have he0 : mem 21 0 = f 0 := hRS.1
  have he1 : mem 21 1 = f 1 := hRS.2.1
  have gb0 := hG.1
  have gb1 := hG.2.1
  have gb2 := hG.2.2.1
  have hTl : ∀ k : Nat, k < 8 → mem 23 k = f (11 + k) := fun k hk => hRS.2.2.1 1 (by omega) k hk
  have hT : ∀ k : Nat, k < 8 → 0 ≤ f (11 + k) ∧ f (11 + k) ≤ 99 := fun k hk => hG.2.2.2.2.2.1 0 (by omega) k hk
  have hW : ∀ k : Nat, k < 8 → 0 ≤ mem 23 k ∧ mem 23 k ≤ 99 := fun k hk => by rw [hTl k hk]; exact hT k hk
  refine ok_aload_n F dX7_trim_0 0 rfl ?_
  refine ok_iload_n F dX7_trim_1 1 rfl ?_
  refine ok_callv F [pI d] dX7_trim_2 kM_X7_hasDay kI_X7_hasDay kV_X7_hasDay kL_X7_146 (ci := 7) rfl sh_20 rfl (by decide) (Nat.le_of_ble_eq_true rfl) rfl (m_X7_hasDay _ d mem (by omega) (by omega)) ?_
  rintro _ _ ⟨rfl, rfl⟩
  refine ok_if_eq F 16 dX7_trim_5 (by decide) (by omega) (fun c_1 => ?_) (fun c_1 => ?_)
  · refine ok_iconst F dX7_trim_16 ?_
    refine ok_iret F G dX7_trim_17 ?_
    exact ⟨_, rfl, KeepC.rf hCI, by rw [if_neg (by omega)]⟩
  · refine ok_aload_n F dX7_trim_8 0 rfl ?_
    refine ok_iload_n F dX7_trim_9 2 rfl ?_
    refine ok_callv F [pI g] dX7_trim_10 kM_X7_isKindOrNone kI_X7_isKindOrNone kV_X7_isKindOrNone kL_X7_246 (ci := 7) rfl sh_20 rfl (by decide) (Nat.le_of_ble_eq_true rfl) rfl (m_X7_isKindOrNone _ g mem (by omega) (by omega)) ?_
    rintro _ _ ⟨rfl, rfl⟩
    refine ok_if_ne F 18 dX7_trim_13 (by decide) (by omega) (fun c_2 => ?_) (fun c_2 => ?_)
    · refine ok_aload_n F dX7_trim_18 0 rfl ?_
      refine ok_getr F dX7_trim_19 kF_X7_38 sh_20 rfl ?_
      refine ok_aload_n F dX7_trim_22 0 rfl ?_
      refine ok_getr F dX7_trim_23 kF_X7_10 sh_20 rfl ?_
      refine ok_getr F dX7_trim_26 kF_X7_133 sh_21 rfl ?_
      refine ok_aload_n F dX7_trim_29 0 rfl ?_
      refine ok_getr F dX7_trim_30 kF_X7_10 sh_20 rfl ?_
      refine ok_iload_n F dX7_trim_33 1 rfl ?_
      refine ok_callv F [pR 23, pR 21, pI d] dX7_trim_34 kM_X2_liveFrom kI_X2_liveFrom kV_X2_liveFrom kL_X7_149 (ci := 2) rfl sh_179 rfl (by decide) (Nat.le_of_ble_eq_true rfl) rfl (m_X2_liveFrom _ f 23 d mem (hCI) (hRS) (hG) (sh_23) (by decide) (hW) (by omega)) ?_
      rintro _ m_4 ⟨rfl, r_5⟩
      obtain ⟨l1, l2, l3, l4⟩ := id r_5
      have lL : LRepC m_4 (LF f d (tilF f)) := l3.congr (LF_congr hG hTl)
      have lB := LF_bd (d := d) (w := tilF f) hG hT
      have lB3 := lB.2.2.1
      have hMO : m_4 179 3 = trmO f d := lL.2.2.1
      have hMb : 0 ≤ trmO f d ∧ trmO f d ≤ 40 := ⟨lB3.1, by have := lB3.2; have e : trmO f d = (LF f d (tilF f)).2.2.1 := rfl; omega⟩
      refine ok_aload_n F dX7_trim_37 0 rfl ?_
      refine ok_getr F dX7_trim_38 kF_X7_38 sh_20 rfl ?_
      refine ok_getf (v := m_4 179 3) F dX7_trim_41 kF_X7_158 sh_179 rfl rfl ?_
      refine ok_istore_n (lv' := [(3, pI (m_4 179 3)), (0, pR 20), (1, pI d), (2, pI g)]) F dX7_trim_44 (by decide) rfl ?_
      refine ok_aload_n F dX7_trim_45 1 rfl ?_
      refine ok_getr F dX7_trim_46 kF_X7_10 sh_20 rfl ?_
      refine ok_getr F dX7_trim_49 kF_X7_133 sh_21 rfl ?_
      refine ok_aload_n F dX7_trim_52 1 rfl ?_
      refine ok_getr F dX7_trim_53 kF_X7_65 sh_20 rfl ?_
      refine ok_calls F [pR 23, pR 211] dX7_trim_56 kM_X7_copyRow kS_X7_copyRow kL_X7_154 rfl (by decide) (Nat.le_of_ble_eq_true rfl) rfl (m_X7_copyRow _ 23 211 m_4 (8) (sh_23) (sh_211) (by decide)) ?_
      rintro _ m_6 ⟨rfl, e_7⟩
      have eC := e_7
      have hcN : ∀ c, c ≠ 211 → m_6 c = cpyN _ 23 0 211 0 8 c := fun c _ => by rw [eC]
      have hcF : ∀ c, (c < 179 ∨ 206 < c) → c ≠ 211 → m_6 c = mem c := fun c hc h2 => by
        rw [eC]; funext b
        exact (if_neg (fun q => h2 q.1)).trans (congrFun (l1 c hc) b)
      have hcC : CI m_6 := l2.congr (fun c c1 c2 _ _ => by
        rw [eC]; funext b
        exact if_neg (fun q => by omega))
      have hc211 : ∀ j : Nat, j < 8 → m_6 211 j = f (11 + j) := fun j hj => by
        rw [eC]
        refine (if_pos ⟨rfl, Nat.zero_le _, by omega⟩).trans ?_
        rw [show 0 + (j - 0) = j by omega, l1 23 (by decide)]; exact hTl j hj
      refine ok_aload_n F dX7_trim_59 1 rfl ?_
      refine ok_getr F dX7_trim_60 kF_X7_10 sh_20 rfl ?_
      refine ok_getf (v := m_6 21 0) F dX7_trim_63 kF_X7_103 sh_21 rfl rfl ?_
      refine ok_iconst F dX7_trim_66 ?_
      refine ok_isub F dX7_trim_67 ?_
      refine ok_istore (lv' := [(4, pI ((m_6 21 0) - 1)), (3, pI (m_4 179 3)), (0, pR 20), (1, pI d), (2, pI g)]) F dX7_trim_68 (by decide) rfl ?_
      have hL_70 : ∀ (n_70 : Nat) (k : Int) (m : Mem), ((-1 ≤ k ∧ k < f 0) ∧ (∀ c, (c < 179 ∨ 206 < c) → c ≠ 211 → m c = mem c) ∧ CI m ∧ (∀ j : Nat, j < 8 → 0 ≤ m 211 j ∧ m 211 j ≤ 99) ∧ shR f d (f 2).toNat (m 211) ≤ trmO f d ∧ ∀ j : Nat, j < 8 → trmC f d j = trimA f d (f 2).toNat (trmO f d) (k + 1).toNat (m 211) j) → (k + 1).toNat = n_70 → Ok shp X 6 70 [(0, pR 20), (1, pI d), (2, pI g), (3, pI (m_4 179 3)), (4, pI k)] [] m := by
        intro n_70
        induction n_70 using Nat.strongRecOn with
        | _ n_70 ih_70 =>
          intro k m hI_70 hn_70
          obtain ⟨hkb, hF, hC, hWm, hsh, hTA⟩ := hI_70
          have hRSm : RS m 21 f := hRS.congr (fun c c1 c2 => hF c (by omega) (by omega))
          have hdd : 0 ≤ d := by omega
          have hF21 := hF 21 (by decide) (by decide)
          have hF22 := hF 22 (by decide) (by decide)
          refine ok_iload F dX7_trim_70 4 rfl ?_
          refine ok_if_lt F 213 dX7_trim_72 (by decide) (by omega) (fun c_8 => ?_) (fun c_8 => ?_)
          · refine ok_iload_n F dX7_trim_213 2 rfl ?_
            refine ok_iconst F dX7_trim_214 ?_
            refine ok_icmp_ne F 232 dX7_trim_215 (by decide) (by omega) (by omega) (fun c_9 => ?_) (fun c_9 => ?_)
            · refine ok_aload_n F dX7_trim_232 0 rfl ?_
              refine ok_getr F dX7_trim_233 kF_X7_65 sh_20 rfl ?_
              refine ok_iload_n F dX7_trim_236 2 rfl ?_
              refine ok_iald (v := m 211 g.toNat) F dX7_trim_237 sh_211 (by first | decide | assumption) (by omega) (by omega) rfl ?_
              refine ok_iret F G dX7_trim_238 ?_
              have e0 : (k + 1).toNat = 0 := by omega
              have hTf : ∀ j : Nat, j < 8 → m 211 j = trmC f d j := fun j hj => by rw [hTA j hj, e0]; rfl
              refine ⟨_, rfl, ⟨fun c hc => hF c (by omega) (by omega), hC⟩, ?_⟩
              rw [if_pos (by omega)]
              first
                | (rw [if_pos (by omega), hF21, hF22, he0]
                   refine sumN_congr (fun j hj => ?_)
                   show m 211 j * mem 22 j = trmC f d j * f (3 + j)
                   rw [hTf j (by omega), show mem 22 j = f (3 + j) from hRS.2.2.1 0 (by omega) j (by omega)])
                | (rw [if_neg (by omega)]; exact hTf _ (by omega))
            · refine ok_aload_n F dX7_trim_218 0 rfl ?_
              refine ok_getr F dX7_trim_219 kF_X7_10 sh_20 rfl ?_
              refine ok_aload_n F dX7_trim_222 0 rfl ?_
              refine ok_getr F dX7_trim_223 kF_X7_65 sh_20 rfl ?_
              refine ok_callv F [pR 211] dX7_trim_226 kM_X6_worthOf kI_X6_worthOf kV_X6_worthOf kL_X7_130 (ci := 6) rfl sh_21 rfl (by decide) (Nat.le_of_ble_eq_true rfl) rfl (m_X6_worthOf _ 211 m (sh_211) (by rw [hF 21 (by decide) (by decide)]; omega)) ?_
              rintro _ _ ⟨rfl, rfl⟩
              refine ok_goto F 238 dX7_trim_229 (by decide) ?_
              refine ok_iret F G dX7_trim_238 ?_
              have e0 : (k + 1).toNat = 0 := by omega
              have hTf : ∀ j : Nat, j < 8 → m 211 j = trmC f d j := fun j hj => by rw [hTA j hj, e0]; rfl
              refine ⟨_, rfl, ⟨fun c hc => hF c (by omega) (by omega), hC⟩, ?_⟩
              rw [if_pos (by omega)]
              first
                | (rw [if_pos (by omega), hF21, hF22, he0]
                   refine sumN_congr (fun j hj => ?_)
                   show m 211 j * mem 22 j = trmC f d j * f (3 + j)
                   rw [hTf j (by omega), show mem 22 j = f (3 + j) from hRS.2.2.1 0 (by omega) j (by omega)])
                | (rw [if_neg (by omega)]; exact hTf _ (by omega))
          · refine ok_aload_n F dX7_trim_75 0 rfl ?_
            refine ok_getr F dX7_trim_76 kF_X7_38 sh_20 rfl ?_
            refine ok_aload_n F dX7_trim_79 0 rfl ?_
            refine ok_getr F dX7_trim_80 kF_X7_65 sh_20 rfl ?_
            refine ok_aload_n F dX7_trim_83 0 rfl ?_
            refine ok_getr F dX7_trim_84 kF_X7_10 sh_20 rfl ?_
            refine ok_iload_n F dX7_trim_87 1 rfl ?_
            refine ok_callv F [pR 211, pR 21, pI d] dX7_trim_88 kM_X2_liveFrom kI_X2_liveFrom kV_X2_liveFrom kL_X7_149 (ci := 2) rfl sh_179 rfl (by decide) (Nat.le_of_ble_eq_true rfl) rfl (m_X2_liveFrom _ f 211 d m (hC) (hRSm) (hG) (sh_211) (by decide) (hWm) (by omega)) ?_
            rintro _ m_11 ⟨rfl, r_12⟩
            obtain ⟨n1, n2, n3, n4⟩ := id r_12
            have n33 : m_11 179 3 = _ := n3.2.2.1
            refine ok_iconst F dX7_trim_91 ?_
            refine ok_istore (lv' := [(5, pI 0), (0, pR 20), (1, pI d), (2, pI g), (3, pI (m_4 179 3)), (4, pI k)]) F dX7_trim_92 (by decide) rfl ?_
            have b1 := (LF_bd (d := d) hG hWm).2.2.1
            have hm211 : m_11 211 = m 211 := n1 211 (by decide)
            have hwk0 := hWm k.toNat (by omega)
            have hL_94 : ∀ (n_94 : Nat) (i : Int) (m2 : Mem), ((0 ≤ i ∧ i ≤ 100) ∧ ((∀ c, (c < 179 ∨ 206 < c) → c ≠ 211 → m2 c = mem c) ∧ CI m2 ∧ (∀ j : Nat, j < 8 → 0 ≤ m2 211 j ∧ m2 211 j ≤ 99)) ∧ i + m2 211 k.toNat ≤ 99 ∧ (0 ≤ m2 179 3 ∧ m2 179 3 ≤ 40) ∧ ((m2 179 3 = shR f d (f 2).toNat (m2 211) ∧ shR f d (f 2).toNat (m2 211) ≤ trmO f d ∧ (∀ j : Nat, j < 8 → m2 182 j = spF f (dayA f d).toNat (life0 (m2 211) (fun _ => 0)) (m2 211) (dayC f d).toNat j) ∧ (trimK f d (f 2).toNat (trmO f d) k.toNat (m 211 k.toNat).toNat (m 211)) = trimK f d (f 2).toNat (trmO f d) k.toNat (m2 211 k.toNat).toNat (m2 211)) ∨ (1 ≤ i ∧ trmO f d < m2 179 3 ∧ (trimK f d (f 2).toNat (trmO f d) k.toNat (m 211 k.toNat).toNat (m 211)) = rput (m2 211) k.toNat (m2 211 k.toNat + 1)) ∨ (m2 179 3 ≤ trmO f d ∧ m2 211 k.toNat = 0 ∧ (trimK f d (f 2).toNat (trmO f d) k.toNat (m 211 k.toNat).toNat (m 211)) = m2 211))) → (100 - i).toNat = n_94 → Ok shp X 6 94 [(0, pR 20), (1, pI d), (2, pI g), (3, pI (m_4 179 3)), (4, pI k), (5, pI i)] [] m2 := by
              intro n_94
              induction n_94 using Nat.strongRecOn with
              | _ n_94 ih_94 =>
                intro i m2 hI_94 hn_94
                obtain ⟨hib, ⟨hF2, hC2, hW2⟩, hiw, hsb, hABC⟩ := hI_94
                have hRS2 : RS m2 21 f := hRS.congr (fun c c1 c2 => hF2 c (by omega) (by omega))
                have hwk := hW2 k.toNat (by omega)
                have hMO2 := hMO
                refine ok_iload F dX7_trim_94 5 rfl ?_
                refine ok_bipush F dX7_trim_96 rfl ?_
                have hJ_185 : (100 ≤ i ∨ trmO f d < m2 179 3 ∨ m2 211 k.toNat ≤ 0) → Ok shp X 6 185 [(0, pR 20), (1, pI d), (2, pI g), (3, pI (m_4 179 3)), (4, pI k), (5, pI i)] [] m2 := by
                  intro hI_185
                  refine ok_aload_n F dX7_trim_185 0 rfl ?_
                  refine ok_getr F dX7_trim_186 kF_X7_38 sh_20 rfl ?_
                  refine ok_getf (v := m2 179 3) F dX7_trim_189 kF_X7_158 sh_179 rfl rfl ?_
                  refine ok_iload_n F dX7_trim_192 3 rfl ?_
                  refine ok_icmp_le F 207 dX7_trim_193 (by decide) (by omega) (by omega) (fun c_13 => ?_) (fun c_13 => ?_)
                  · refine ok_iinc (lv' := [(4, pI (k + (-1))), (0, pR 20), (1, pI d), (2, pI g), (3, pI (m_4 179 3)), (5, pI i)]) F dX7_trim_207 4 rfl (by decide) rfl ?_
                    refine ok_goto F 70 dX7_trim_210 (by decide) ?_
                    refine ok_lvp [1, 2, 3, 4, 0] (lv' := [(0, pR 20), (1, pI d), (2, pI g), (3, pI (m_4 179 3)), (4, pI (k + (-1)))]) rfl ?_
                    refine ih_70 _ ?_ (k + (-1)) m2 ?_ rfl
                    · omega
                    · have hT3 : m2 211 = (trimK f d (f 2).toNat (trmO f d) k.toNat (m 211 k.toNat).toNat (m 211)) ∧ (∀ j : Nat, j < 8 → 0 ≤ m2 211 j ∧ m2 211 j ≤ 99) ∧ ∀ c, c ≠ 211 → m2 c = m2 c := by
                        rcases hABC with ⟨a1, a2, a3, a4⟩ | ⟨b1, b2, b3⟩ | ⟨c1, c2, c3⟩
                        · first
                          | (exfalso; omega)
                          | (refine ⟨?_, hW2, fun _ _ => rfl⟩
                             rw [a4, show (m2 211 k.toNat).toNat = 0 by omega]; rfl)
                        · first
                          | (exfalso; omega)
                          | (refine ⟨by rw [b3, rfl]; exact mset_row _ _ _ _, fun j hj => ?_, fun c hc => by rw [rfl]; exact mset_nka hc⟩
                             rw [rfl, mset_row]
                             unfold rput
                             have := hW2 j hj
                             by_cases z : j = k.toNat
                             · rw [if_pos z]; omega
                             · rw [if_neg z]; exact this)
                        · first
                          | (exfalso; omega)
                          | exact ⟨c3.symm, hW2, fun _ _ => rfl⟩
                      obtain ⟨t1, t2, t3⟩ := hT3
                      refine ⟨by omega, fun c hc h2 => by rw [t3 c h2]; exact hF2 c hc h2, hC2.congr (fun c c1 c2 _ _ => t3 c (by omega)), t2, ?_, fun j hj => ?_⟩
                      · rw [t1]; exact trimK_sh _ hsh
                      · rw [hTA j hj, t1, show (k + -1 + 1).toNat = k.toNat by omega, show (k + 1).toNat = k.toNat + 1 by omega]; rfl
                  · refine ok_aload_n F dX7_trim_196 0 rfl ?_
                    refine ok_getr F dX7_trim_197 kF_X7_65 sh_20 rfl ?_
                    refine ok_iload F dX7_trim_200 4 rfl ?_
                    refine ok_dup2 F dX7_trim_202 rfl rfl ?_
                    refine ok_iald (v := m2 211 k.toNat) F dX7_trim_203 sh_211 (by first | decide | assumption) (by omega) (by omega) rfl ?_
                    refine ok_iconst F dX7_trim_204 ?_
                    refine ok_iadd F dX7_trim_205 ?_
                    refine ok_iast F dX7_trim_206 sh_211 (by first | decide | assumption) (by omega) (by omega) (fun m_14 e_15 => ?_)
                    refine ok_iinc (lv' := [(4, pI (k + (-1))), (0, pR 20), (1, pI d), (2, pI g), (3, pI (m_4 179 3)), (5, pI i)]) F dX7_trim_207 4 rfl (by decide) rfl ?_
                    refine ok_goto F 70 dX7_trim_210 (by decide) ?_
                    refine ok_lvp [1, 2, 3, 4, 0] (lv' := [(0, pR 20), (1, pI d), (2, pI g), (3, pI (m_4 179 3)), (4, pI (k + (-1)))]) rfl ?_
                    refine ih_70 _ ?_ (k + (-1)) m_14 ?_ rfl
                    · omega
                    · have hT3 : m_14 211 = (trimK f d (f 2).toNat (trmO f d) k.toNat (m 211 k.toNat).toNat (m 211)) ∧ (∀ j : Nat, j < 8 → 0 ≤ m_14 211 j ∧ m_14 211 j ≤ 99) ∧ ∀ c, c ≠ 211 → m_14 c = m2 c := by
                        rcases hABC with ⟨a1, a2, a3, a4⟩ | ⟨b1, b2, b3⟩ | ⟨c1, c2, c3⟩
                        · first
                          | (exfalso; omega)
                          | (refine ⟨?_, hW2, fun _ _ => rfl⟩
                             rw [a4, show (m2 211 k.toNat).toNat = 0 by omega]; rfl)
                        · first
                          | (exfalso; omega)
                          | (refine ⟨by rw [b3, e_15]; exact mset_row _ _ _ _, fun j hj => ?_, fun c hc => by rw [e_15]; exact mset_nka hc⟩
                             rw [e_15, mset_row]
                             unfold rput
                             have := hW2 j hj
                             by_cases z : j = k.toNat
                             · rw [if_pos z]; omega
                             · rw [if_neg z]; exact this)
                        · first
                          | (exfalso; omega)
                          | exact ⟨c3.symm, hW2, fun _ _ => rfl⟩
                      obtain ⟨t1, t2, t3⟩ := hT3
                      refine ⟨by omega, fun c hc h2 => by rw [t3 c h2]; exact hF2 c hc h2, hC2.congr (fun c c1 c2 _ _ => t3 c (by omega)), t2, ?_, fun j hj => ?_⟩
                      · rw [t1]; exact trimK_sh _ hsh
                      · rw [hTA j hj, t1, show (k + -1 + 1).toNat = k.toNat by omega, show (k + 1).toNat = k.toNat + 1 by omega]; rfl
                refine ok_icmp_ge F 185 dX7_trim_98 (by decide) (by omega) (by omega) (fun c_16 => ?_) (fun c_16 => ?_)
                · refine ok_lvp [0, 1, 2, 3, 4, 5] (lv' := [(0, pR 20), (1, pI d), (2, pI g), (3, pI (m_4 179 3)), (4, pI k), (5, pI i)]) rfl ?_
                  refine hJ_185  ?_
                  omega
                · refine ok_aload_n F dX7_trim_101 0 rfl ?_
                  refine ok_getr F dX7_trim_102 kF_X7_38 sh_20 rfl ?_
                  refine ok_getf (v := m2 179 3) F dX7_trim_105 kF_X7_158 sh_179 rfl rfl ?_
                  refine ok_iload_n F dX7_trim_108 3 rfl ?_
                  refine ok_icmp_gt F 185 dX7_trim_109 (by decide) (by omega) (by omega) (fun c_17 => ?_) (fun c_17 => ?_)
                  · refine ok_lvp [0, 1, 2, 3, 4, 5] (lv' := [(0, pR 20), (1, pI d), (2, pI g), (3, pI (m_4 179 3)), (4, pI k), (5, pI i)]) rfl ?_
                    refine hJ_185  ?_
                    omega
                  · refine ok_aload_n F dX7_trim_112 0 rfl ?_
                    refine ok_getr F dX7_trim_113 kF_X7_65 sh_20 rfl ?_
                    refine ok_iload F dX7_trim_116 4 rfl ?_
                    refine ok_iald (v := m2 211 k.toNat) F dX7_trim_118 sh_211 (by first | decide | assumption) (by omega) (by omega) rfl ?_
                    refine ok_if_le F 185 dX7_trim_119 (by decide) (by omega) (fun c_18 => ?_) (fun c_18 => ?_)
                    · refine ok_lvp [0, 1, 2, 3, 4, 5] (lv' := [(0, pR 20), (1, pI d), (2, pI g), (3, pI (m_4 179 3)), (4, pI k), (5, pI i)]) rfl ?_
                      refine hJ_185  ?_
                      omega
                    · obtain ⟨a1, a2, a3, a4⟩ := hABC.resolve_right (fun q => by rcases q with ⟨q1, q2, q3⟩ | ⟨q1, q2, q3⟩ <;> omega)
                      clear hABC
                      obtain ⟨y1, y2, y3, y4⟩ := day_iff hG hdd
                      have hsp := a3 k.toNat (by omega)
                      have hspb := spF_bd (a := (dayA f d).toNat) hG (LI.start (low := fun _ => 0) hW2) hW2 (dayC f d).toNat (by omega) k.toNat (by omega)
                      rw [← hsp] at hspb
                      have hj := trimK_jump (f := f) (w := m2 211) (d := d) (most := trmO f d) (k := k.toNat) hG hdd (by omega) hW2 a2 (m2 182 k.toNat).toNat (by omega) (by rw [← hsp]; omega)
                      rw [show (((m2 182 k.toNat).toNat : Nat) : Int) = m2 182 k.toNat by omega] at hj
                      refine ok_aload_n F dX7_trim_122 0 rfl ?_
                      refine ok_getr F dX7_trim_123 kF_X7_65 sh_20 rfl ?_
                      refine ok_iload F dX7_trim_126 4 rfl ?_
                      refine ok_dup2 F dX7_trim_128 rfl rfl ?_
                      refine ok_iald (v := m2 211 k.toNat) F dX7_trim_129 sh_211 (by first | decide | assumption) (by omega) (by omega) rfl ?_
                      refine ok_aload_n F dX7_trim_130 0 rfl ?_
                      refine ok_getr F dX7_trim_131 kF_X7_38 sh_20 rfl ?_
                      refine ok_getr F dX7_trim_134 kF_X7_308 sh_179 rfl ?_
                      refine ok_iload F dX7_trim_137 4 rfl ?_
                      refine ok_iald (v := m2 182 k.toNat) F dX7_trim_139 sh_182 (by first | decide | assumption) (by omega) (by omega) rfl ?_
                      refine ok_isub F dX7_trim_140 ?_
                      refine ok_iast F dX7_trim_141 sh_211 (by first | decide | assumption) (by omega) (by omega) (fun m_19 e_20 => ?_)
                      have r3 : m_19 211 = rput (m2 211) k.toNat (m2 211 k.toNat - m2 182 k.toNat) := by rw [e_20]; exact mset_row _ _ _ _
                      have hF3 : ∀ c, c ≠ 211 → m_19 c = m2 c := fun c hc => by rw [e_20]; exact mset_nka hc
                      obtain ⟨m3, hm3⟩ : ∃ x, x = m_19 := ⟨_, rfl⟩
                      have r3x : m3 211 = rput (m2 211) k.toNat (m2 211 k.toNat - m2 182 k.toNat) := by rw [hm3]; exact r3
                      have r3k : m_19 211 k.toNat = m2 211 k.toNat - m2 182 k.toNat := by rw [r3]; exact rput_at _ _ _
                      refine ok_aload_n F dX7_trim_142 0 rfl ?_
                      refine ok_getr F dX7_trim_143 kF_X7_65 sh_20 rfl ?_
                      refine ok_iload F dX7_trim_146 4 rfl ?_
                      refine ok_iald (v := ((m2 211 k.toNat) - (m2 182 k.toNat))) F dX7_trim_148 sh_211 (by first | decide | assumption) (by omega) (by omega) (by rw [e_20]; exact mset_eq _ _ _ _) ?_
                      refine ok_if_le F 179 dX7_trim_149 (by decide) (by omega) (fun c_21 => ?_) (fun c_21 => ?_)
                      · refine ok_iinc (lv' := [(5, pI (i + 1)), (0, pR 20), (1, pI d), (2, pI g), (3, pI (m_4 179 3)), (4, pI k)]) F dX7_trim_179 5 rfl (by decide) rfl ?_
                        refine ok_goto F 94 dX7_trim_182 (by decide) ?_
                        refine ok_lvp [1, 2, 3, 4, 5, 0] (lv' := [(0, pR 20), (1, pI d), (2, pI g), (3, pI (m_4 179 3)), (4, pI k), (5, pI (i + 1))]) rfl ?_
                        refine ih_94 _ ?_ (i + 1) m_19 ?_ rfl
                        · omega
                        · first
                            | (refine ⟨by omega, ⟨fun c hc h2 => by rw [n1 c (by omega), hF4 c h2]; exact hF2 c hc h2, n2, fun j hj8 => by rw [n1 211 (by decide)]; exact hW4 j hj8⟩, by rw [n1 211 (by decide)]; omega, ?_, ?_⟩
                               · rw [n33]; exact ⟨b5.1, Int.le_trans b5.2 (by omega)⟩
                               · have hK : (trimK f d (f 2).toNat (trmO f d) k.toNat (m 211 k.toNat).toNat (m 211)) = if shR f d (f 2).toNat (rput (m2 211) k.toNat (m2 211 k.toNat - m2 182 k.toNat - 1)) ≤ trmO f d then trimK f d (f 2).toNat (trmO f d) k.toNat (m2 211 k.toNat - m2 182 k.toNat - 1).toNat (rput (m2 211) k.toNat (m2 211 k.toNat - m2 182 k.toNat - 1)) else rput (m2 211) k.toNat (m2 211 k.toNat - m2 182 k.toNat) := by
                                   rw [a4, hj, show (m2 211 k.toNat - m2 182 k.toNat).toNat = (m2 211 k.toNat - m2 182 k.toNat - 1).toNat + 1 by omega, trimK_s, rput_at, rput_rput]
                                 have h5 : m_19 211 = rput (m2 211) k.toNat (m2 211 k.toNat - m2 182 k.toNat - 1) := by rw [n1 211 (by decide), r4]
                                 have h53 : m_19 179 3 = shR f d (f 2).toNat (rput (m2 211) k.toNat (m2 211 k.toNat - m2 182 k.toNat - 1)) := by rw [n33, r4]; rfl
                                 by_cases z : shR f d (f 2).toNat (rput (m2 211) k.toNat (m2 211 k.toNat - m2 182 k.toNat - 1)) ≤ trmO f d
                                 · refine Or.inl ⟨by rw [h5]; exact h53, by rw [h5]; exact z, fun j hj8 => ?_, by rw [hK, if_pos z, h5, rput_at]⟩
                                   rw [n4 j hj8, r4, h5]
                                 · refine Or.inr (Or.inl ⟨by omega, by omega, ?_⟩)
                                   rw [hK, if_neg z, h5, rput_at, rput_rput]
                                   congr 1
                                   omega)
                            | (refine ⟨by omega, ⟨fun c hc h2 => by rw [hF3 c h2]; exact hF2 c hc h2, hC2.congr (fun c c1 c2 _ _ => hF3 c (by omega)), fun j hj8 => ?_⟩, by rw [r3k]; omega, by rw [hF3 179 (by decide)]; exact hsb, Or.inr (Or.inr ⟨by rw [hF3 179 (by decide)]; omega, by rw [r3k]; omega, ?_⟩)⟩
                               · rw [r3]
                                 unfold rput
                                 have := hW2 j hj8
                                 by_cases z : j = k.toNat
                                 · rw [if_pos z]; omega
                                 · rw [if_neg z]; exact this
                               · rw [a4, hj, r3, show (m2 211 k.toNat - m2 182 k.toNat).toNat = 0 by omega]; rfl)
                      · refine ok_aload_n F dX7_trim_152 0 rfl ?_
                        refine ok_getr F dX7_trim_153 kF_X7_65 sh_20 rfl ?_
                        refine ok_iload F dX7_trim_156 4 rfl ?_
                        refine ok_dup2 F dX7_trim_158 rfl rfl ?_
                        refine ok_iald (v := ((m2 211 k.toNat) - (m2 182 k.toNat))) F dX7_trim_159 sh_211 (by first | decide | assumption) (by omega) (by omega) (by rw [e_20]; exact mset_eq _ _ _ _) ?_
                        refine ok_iconst F dX7_trim_160 ?_
                        refine ok_isub F dX7_trim_161 ?_
                        refine ok_iast F dX7_trim_162 sh_211 (by first | decide | assumption) (by omega) (by omega) (fun m_22 e_23 => ?_)
                        have r4 : m_22 211 = rput (m2 211) k.toNat (m2 211 k.toNat - m2 182 k.toNat - 1) := by rw [e_23, mset_row, ← hm3, r3x, rput_rput]
                        have r4k : m_22 211 k.toNat = m2 211 k.toNat - m2 182 k.toNat - 1 := by rw [r4]; exact rput_at _ _ _
                        have hF4 : ∀ c, c ≠ 211 → m_22 c = m2 c := fun c hc => by rw [e_23, mset_nka hc]; exact hF3 c hc
                        have hC4 : CI m_22 := hC2.congr (fun c c1 c2 _ _ => hF4 c (by omega))
                        have hRS4 : RS m_22 21 f := hRS2.congr (fun c c1 c2 => hF4 c (by omega))
                        have hW4 : ∀ j : Nat, j < 8 → 0 ≤ m_22 211 j ∧ m_22 211 j ≤ 99 := fun j hj8 => by
                          rw [r4]
                          unfold rput
                          have := hW2 j hj8
                          by_cases z : j = k.toNat
                          · rw [if_pos z]; omega
                          · rw [if_neg z]; exact this
                        refine ok_aload_n F dX7_trim_163 0 rfl ?_
                        refine ok_getr F dX7_trim_164 kF_X7_38 sh_20 rfl ?_
                        refine ok_aload_n F dX7_trim_167 0 rfl ?_
                        refine ok_getr F dX7_trim_168 kF_X7_65 sh_20 rfl ?_
                        refine ok_aload_n F dX7_trim_171 0 rfl ?_
                        refine ok_getr F dX7_trim_172 kF_X7_10 sh_20 rfl ?_
                        refine ok_iload_n F dX7_trim_175 1 rfl ?_
                        refine ok_callv F [pR 211, pR 21, pI d] dX7_trim_176 kM_X2_liveFrom kI_X2_liveFrom kV_X2_liveFrom kL_X7_149 (ci := 2) rfl sh_179 rfl (by decide) (Nat.le_of_ble_eq_true rfl) rfl (m_X2_liveFrom _ f 211 d m_22 (hC4) (hRS4) (hG) (sh_211) (by decide) (hW4) (by omega)) ?_
                        rintro _ m_25 ⟨rfl, r_26⟩
                        obtain ⟨n1, n2, n3, n4⟩ := id r_26
                        have n33 : m_25 179 3 = _ := n3.2.2.1
                        have b5 := (LF_bd (d := d) hG hW4).2.2.1
                        have n35 : m_25 179 3 = _ := n33
                        refine ok_iinc (lv' := [(5, pI (i + 1)), (0, pR 20), (1, pI d), (2, pI g), (3, pI (m_4 179 3)), (4, pI k)]) F dX7_trim_179 5 rfl (by decide) rfl ?_
                        refine ok_goto F 94 dX7_trim_182 (by decide) ?_
                        refine ok_lvp [1, 2, 3, 4, 5, 0] (lv' := [(0, pR 20), (1, pI d), (2, pI g), (3, pI (m_4 179 3)), (4, pI k), (5, pI (i + 1))]) rfl ?_
                        refine ih_94 _ ?_ (i + 1) m_25 ?_ rfl
                        · omega
                        · first
                            | (refine ⟨by omega, ⟨fun c hc h2 => by rw [n1 c (by omega), hF4 c h2]; exact hF2 c hc h2, n2, fun j hj8 => by rw [n1 211 (by decide)]; exact hW4 j hj8⟩, by rw [n1 211 (by decide)]; omega, ?_, ?_⟩
                               · rw [n33]; exact ⟨b5.1, Int.le_trans b5.2 (by omega)⟩
                               · have hK : (trimK f d (f 2).toNat (trmO f d) k.toNat (m 211 k.toNat).toNat (m 211)) = if shR f d (f 2).toNat (rput (m2 211) k.toNat (m2 211 k.toNat - m2 182 k.toNat - 1)) ≤ trmO f d then trimK f d (f 2).toNat (trmO f d) k.toNat (m2 211 k.toNat - m2 182 k.toNat - 1).toNat (rput (m2 211) k.toNat (m2 211 k.toNat - m2 182 k.toNat - 1)) else rput (m2 211) k.toNat (m2 211 k.toNat - m2 182 k.toNat) := by
                                   rw [a4, hj, show (m2 211 k.toNat - m2 182 k.toNat).toNat = (m2 211 k.toNat - m2 182 k.toNat - 1).toNat + 1 by omega, trimK_s, rput_at, rput_rput]
                                 have h5 : m_25 211 = rput (m2 211) k.toNat (m2 211 k.toNat - m2 182 k.toNat - 1) := by rw [n1 211 (by decide), r4]
                                 have h53 : m_25 179 3 = shR f d (f 2).toNat (rput (m2 211) k.toNat (m2 211 k.toNat - m2 182 k.toNat - 1)) := by rw [n33, r4]; rfl
                                 by_cases z : shR f d (f 2).toNat (rput (m2 211) k.toNat (m2 211 k.toNat - m2 182 k.toNat - 1)) ≤ trmO f d
                                 · refine Or.inl ⟨by rw [h5]; exact h53, by rw [h5]; exact z, fun j hj8 => ?_, by rw [hK, if_pos z, h5, rput_at]⟩
                                   rw [n4 j hj8, r4, h5]
                                 · refine Or.inr (Or.inl ⟨by omega, by omega, ?_⟩)
                                   rw [hK, if_neg z, h5, rput_at, rput_rput]
                                   congr 1
                                   omega)
                            | (refine ⟨by omega, ⟨fun c hc h2 => by rw [hF3 c h2]; exact hF2 c hc h2, hC2.congr (fun c c1 c2 _ _ => hF3 c (by omega)), fun j hj8 => ?_⟩, by rw [r3k]; omega, by rw [hF3 179 (by decide)]; exact hsb, Or.inr (Or.inr ⟨by rw [hF3 179 (by decide)]; omega, by rw [r3k]; omega, ?_⟩)⟩
                               · rw [r3]
                                 unfold rput
                                 have := hW2 j hj8
                                 by_cases z : j = k.toNat
                                 · rw [if_pos z]; omega
                                 · rw [if_neg z]; exact this
                               · rw [a4, hj, r3, show (m2 211 k.toNat - m2 182 k.toNat).toNat = 0 by omega]; rfl)
            refine ok_lvp [1, 2, 3, 4, 5, 0] (lv' := [(0, pR 20), (1, pI d), (2, pI g), (3, pI (m_4 179 3)), (4, pI k), (5, pI 0)]) rfl ?_
            refine hL_94 _ 0 m_11 ?_ rfl
            rw [hm211]
            refine ⟨by omega, ⟨fun c hc h2 => by rw [n1 c (by omega)]; exact hF c hc h2, n2, hWm⟩, by omega, ?_, Or.inl ⟨n33, hsh, fun j hj => n4 j hj, rfl⟩⟩
            rw [n33]
            exact ⟨b1.1, Int.le_trans b1.2 (by omega)⟩
      refine ok_lvp [2, 3, 4, 1, 0] (lv' := [(0, pR 20), (1, pI d), (2, pI g), (3, pI (m_4 179 3)), (4, pI ((m_6 21 0) - 1))]) rfl ?_
      refine hL_70 _ ((m_6 21 0) - 1) m_6 ?_ rfl
      have c21 : m_6 21 0 = f 0 := by rw [hcF 21 (by decide) (by decide)]; exact he0
      refine ⟨by omega, hcF, hcC, fun j hj => by rw [hc211 j hj]; exact hT j hj, ?_, fun j hj => ?_⟩
      · have e : shR f d (f 2).toNat (m_6 211) = trmO f d := shR_congr gb0.2 (fun j hj => hc211 j hj)
        rw [e]; exact Int.le_refl _
      · rw [show (m_6 21 0 - 1 + 1).toNat = (f 0).toNat by omega]
        exact trimA_congr gb0.2 _ (by omega) (fun j hj => (hc211 j hj).symm) j hj
    · refine ok_iconst F dX7_trim_16 ?_
      refine ok_iret F G dX7_trim_17 ?_
      exact ⟨_, rfl, KeepC.rf hCI, by rw [if_neg (by omega)]⟩
