/-! the reference: a day drawn -/
theorem ceil_two {p v : Int} (hv : 1 ≤ v) (hp : 1 ≤ p ∧ p ≤ 2 * v) : (p + v - 1).tdiv v = if p ≤ v then 1 else 2 := by
  rw [Int.tdiv_eq_ediv_of_nonneg (by omega)]
  by_cases g : p ≤ v
  · rw [if_pos g, show p + v - 1 = (p - 1) + 1 * v by omega, Int.add_mul_ediv_right _ _ (by omega), Int.ediv_eq_zero_of_lt (by omega) (by omega)]
    rfl
  · rw [if_neg g, show p + v - 1 = (p - 1 - v) + 2 * v by omega, Int.add_mul_ediv_right _ _ (by omega), Int.ediv_eq_zero_of_lt (by omega) (by omega)]
    rfl
theorem dX8_draw_0 : decode cX8_draw 0 = .ok (.aload_n 0, 1) := by decide +kernel
theorem dX8_draw_1 : decode cX8_draw 1 = .ok (.aload_n 0, 1) := by decide +kernel
theorem dX8_draw_2 : decode cX8_draw 2 = .ok (.getfield 296, 3) := by decide +kernel
theorem dX8_draw_5 : decode cX8_draw 5 = .ok (.ldc_w 299, 3) := by decide +kernel
theorem dX8_draw_8 : decode cX8_draw 8 = .ok (.imul, 1) := by decide +kernel
theorem dX8_draw_9 : decode cX8_draw 9 = .ok (.sipush 12345, 3) := by decide +kernel
theorem dX8_draw_12 : decode cX8_draw 12 = .ok (.iadd, 1) := by decide +kernel
theorem dX8_draw_13 : decode cX8_draw 13 = .ok (.putfield 296, 3) := by decide +kernel
theorem dX8_draw_16 : decode cX8_draw 16 = .ok (.aload_n 0, 1) := by decide +kernel
theorem dX8_draw_17 : decode cX8_draw 17 = .ok (.getfield 296, 3) := by decide +kernel
theorem dX8_draw_20 : decode cX8_draw 20 = .ok (.bipush 16, 2) := by decide +kernel
theorem dX8_draw_22 : decode cX8_draw 22 = .ok (.iushr, 1) := by decide +kernel
theorem dX8_draw_23 : decode cX8_draw 23 = .ok (.iload_n 1, 1) := by decide +kernel
theorem dX8_draw_24 : decode cX8_draw 24 = .ok (.irem, 1) := by decide +kernel
theorem dX8_draw_25 : decode cX8_draw 25 = .ok (.ireturn, 1) := by decide +kernel
set_option maxHeartbeats 4000000 in
set_option maxRecDepth 100000 in
theorem m_X8_draw (l : Launch) (n : Int) (mem : Mem) (hn : 1 ≤ n ∧ n ≤ 1000) : Ret shp l yX8_draw cX8_draw 2 (some .int) 0 [pR 0, pI n] mem (fun rv mv => rv = some (pI ((iushr (mem 0 27 * 1103515245 + 12345) 16).tmod n)) ∧ mv = mset mem 0 27 (mem 0 27 * 1103515245 + 12345)) := by
  refine ret_of (by decide +kernel) (Nat.le_of_ble_eq_true rfl) (fun X hX F G => ?_)
  show Ok shp X 2 0 [(0, pR 0), (1, pI n)] [] mem
  refine ok_aload_n F dX8_draw_0 0 rfl ?_
  refine ok_aload_n F dX8_draw_1 0 rfl ?_
  refine ok_getf (v := mem 0 27) F dX8_draw_2 kF_X8_296 sh_0 rfl rfl ?_
  refine ok_ldcw (n := 1103515245) F dX8_draw_5 kK_X8_299 rfl ?_
  refine ok_imul F dX8_draw_8 ?_
  refine ok_sipush F dX8_draw_9 rfl ?_
  refine ok_iadd F dX8_draw_12 ?_
  refine ok_putf F dX8_draw_13 kF_X8_296 sh_0 rfl rfl rfl (fun m_1 e_2 => ?_)
  refine ok_aload_n F dX8_draw_16 0 rfl ?_
  refine ok_getf (v := (((mem 0 27) * 1103515245) + 12345)) F dX8_draw_17 kF_X8_296 sh_0 rfl (by rw [e_2]; exact mset_eq _ _ _ _) ?_
  refine ok_bipush F dX8_draw_20 rfl ?_
  have u1 := iushr16_bd (mem 0 27 * 1103515245 + 12345)
  refine ok_iushr F dX8_draw_22 ?_
  refine ok_iload_n F dX8_draw_23 1 rfl ?_
  refine ok_irem F dX8_draw_24 (by omega) (by omega) (by omega) ?_
  refine ok_iret F G dX8_draw_25 ?_
  exact ⟨rfl, e_2⟩
theorem dX8_drawn_0 : decode cX8_drawn 0 = .ok (.aload_n 0, 1) := by decide +kernel
theorem dX8_drawn_1 : decode cX8_drawn 1 = .ok (.getfield 9, 3) := by decide +kernel
theorem dX8_drawn_4 : decode cX8_drawn 4 = .ok (.iconst 0, 1) := by decide +kernel
theorem dX8_drawn_5 : decode cX8_drawn 5 = .ok (.iaload, 1) := by decide +kernel
theorem dX8_drawn_6 : decode cX8_drawn 6 = .ok (.ifCond .eq 15, 3) := by decide +kernel
theorem dX8_drawn_9 : decode cX8_drawn 9 = .ok (.iload_n 2, 1) := by decide +kernel
theorem dX8_drawn_10 : decode cX8_drawn 10 = .ok (.i2l, 1) := by decide +kernel
theorem dX8_drawn_11 : decode cX8_drawn 11 = .ok (.lconst 1, 1) := by decide +kernel
theorem dX8_drawn_12 : decode cX8_drawn 12 = .ok (.ldc2_w 300, 3) := by decide +kernel
theorem dX8_drawn_15 : decode cX8_drawn 15 = .ok (.invokestatic 100, 3) := by decide +kernel
theorem dX8_drawn_18 : decode cX8_drawn 18 = .ok (.ifCond .ne 5, 3) := by decide +kernel
theorem dX8_drawn_21 : decode cX8_drawn 21 = .ok (.iconst (-1), 1) := by decide +kernel
theorem dX8_drawn_22 : decode cX8_drawn 22 = .ok (.ireturn, 1) := by decide +kernel
theorem dX8_drawn_23 : decode cX8_drawn 23 = .ok (.aload_n 0, 1) := by decide +kernel
theorem dX8_drawn_24 : decode cX8_drawn 24 = .ok (.getfield 9, 3) := by decide +kernel
theorem dX8_drawn_27 : decode cX8_drawn 27 = .ok (.iconst 1, 1) := by decide +kernel
theorem dX8_drawn_28 : decode cX8_drawn 28 = .ok (.iaload, 1) := by decide +kernel
theorem dX8_drawn_29 : decode cX8_drawn 29 = .ok (.iconst 5, 1) := by decide +kernel
theorem dX8_drawn_30 : decode cX8_drawn 30 = .ok (.if_icmp .eq 16, 3) := by decide +kernel
theorem dX8_drawn_33 : decode cX8_drawn 33 = .ok (.aload_n 0, 1) := by decide +kernel
theorem dX8_drawn_34 : decode cX8_drawn 34 = .ok (.getfield 9, 3) := by decide +kernel
theorem dX8_drawn_37 : decode cX8_drawn 37 = .ok (.iconst 2, 1) := by decide +kernel
theorem dX8_drawn_38 : decode cX8_drawn 38 = .ok (.iaload, 1) := by decide +kernel
theorem dX8_drawn_39 : decode cX8_drawn 39 = .ok (.iload_n 2, 1) := by decide +kernel
theorem dX8_drawn_40 : decode cX8_drawn 40 = .ok (.iadd, 1) := by decide +kernel
theorem dX8_drawn_41 : decode cX8_drawn 41 = .ok (.bipush 40, 2) := by decide +kernel
theorem dX8_drawn_43 : decode cX8_drawn 43 = .ok (.if_icmp .le 6, 3) := by decide +kernel
theorem dX8_drawn_46 : decode cX8_drawn 46 = .ok (.bipush (-2), 2) := by decide +kernel
theorem dX8_drawn_48 : decode cX8_drawn 48 = .ok (.ireturn, 1) := by decide +kernel
theorem dX8_drawn_49 : decode cX8_drawn 49 = .ok (.aload_n 0, 1) := by decide +kernel
theorem dX8_drawn_50 : decode cX8_drawn 50 = .ok (.invokevirtual 224, 3) := by decide +kernel
theorem dX8_drawn_53 : decode cX8_drawn 53 = .ok (.aload_n 0, 1) := by decide +kernel
theorem dX8_drawn_54 : decode cX8_drawn 54 = .ok (.iload_n 1, 1) := by decide +kernel
theorem dX8_drawn_55 : decode cX8_drawn 55 = .ok (.putfield 296, 3) := by decide +kernel
theorem dX8_drawn_58 : decode cX8_drawn 58 = .ok (.aload_n 0, 1) := by decide +kernel
theorem dX8_drawn_59 : decode cX8_drawn 59 = .ok (.getfield 9, 3) := by decide +kernel
theorem dX8_drawn_62 : decode cX8_drawn 62 = .ok (.iconst 0, 1) := by decide +kernel
theorem dX8_drawn_63 : decode cX8_drawn 63 = .ok (.iaload, 1) := by decide +kernel
theorem dX8_drawn_64 : decode cX8_drawn 64 = .ok (.iconst 1, 1) := by decide +kernel
theorem dX8_drawn_65 : decode cX8_drawn 65 = .ok (.isub, 1) := by decide +kernel
theorem dX8_drawn_66 : decode cX8_drawn 66 = .ok (.istore_n 3, 1) := by decide +kernel
theorem dX8_drawn_67 : decode cX8_drawn 67 = .ok (.iconst 0, 1) := by decide +kernel
theorem dX8_drawn_68 : decode cX8_drawn 68 = .ok (.istore 4, 2) := by decide +kernel
theorem dX8_drawn_70 : decode cX8_drawn 70 = .ok (.iload 4, 2) := by decide +kernel
theorem dX8_drawn_72 : decode cX8_drawn 72 = .ok (.iload_n 2, 1) := by decide +kernel
theorem dX8_drawn_73 : decode cX8_drawn 73 = .ok (.if_icmp .ge 157, 3) := by decide +kernel
theorem dX8_drawn_76 : decode cX8_drawn 76 = .ok (.bipush 59, 2) := by decide +kernel
theorem dX8_drawn_78 : decode cX8_drawn 78 = .ok (.bipush 10, 2) := by decide +kernel
theorem dX8_drawn_80 : decode cX8_drawn 80 = .ok (.aload_n 0, 1) := by decide +kernel
theorem dX8_drawn_81 : decode cX8_drawn 81 = .ok (.getfield 9, 3) := by decide +kernel
theorem dX8_drawn_84 : decode cX8_drawn 84 = .ok (.iconst 2, 1) := by decide +kernel
theorem dX8_drawn_85 : decode cX8_drawn 85 = .ok (.iaload, 1) := by decide +kernel
theorem dX8_drawn_86 : decode cX8_drawn 86 = .ok (.imul, 1) := by decide +kernel
theorem dX8_drawn_87 : decode cX8_drawn 87 = .ok (.iadd, 1) := by decide +kernel
theorem dX8_drawn_88 : decode cX8_drawn 88 = .ok (.istore 5, 2) := by decide +kernel
theorem dX8_drawn_90 : decode cX8_drawn 90 = .ok (.aload_n 0, 1) := by decide +kernel
theorem dX8_drawn_91 : decode cX8_drawn 91 = .ok (.iconst 2, 1) := by decide +kernel
theorem dX8_drawn_92 : decode cX8_drawn 92 = .ok (.aload_n 0, 1) := by decide +kernel
theorem dX8_drawn_93 : decode cX8_drawn 93 = .ok (.iload_n 3, 1) := by decide +kernel
theorem dX8_drawn_94 : decode cX8_drawn 94 = .ok (.invokevirtual 191, 3) := by decide +kernel
theorem dX8_drawn_97 : decode cX8_drawn 97 = .ok (.imul, 1) := by decide +kernel
theorem dX8_drawn_98 : decode cX8_drawn 98 = .ok (.invokevirtual 302, 3) := by decide +kernel
theorem dX8_drawn_101 : decode cX8_drawn 101 = .ok (.iconst 1, 1) := by decide +kernel
theorem dX8_drawn_102 : decode cX8_drawn 102 = .ok (.iadd, 1) := by decide +kernel
theorem dX8_drawn_103 : decode cX8_drawn 103 = .ok (.istore 6, 2) := by decide +kernel
theorem dX8_drawn_105 : decode cX8_drawn 105 = .ok (.aload_n 0, 1) := by decide +kernel
theorem dX8_drawn_106 : decode cX8_drawn 106 = .ok (.getfield 9, 3) := by decide +kernel
theorem dX8_drawn_109 : decode cX8_drawn 109 = .ok (.iload 5, 2) := by decide +kernel
theorem dX8_drawn_111 : decode cX8_drawn 111 = .ok (.aload_n 0, 1) := by decide +kernel
theorem dX8_drawn_112 : decode cX8_drawn 112 = .ok (.getfield 9, 3) := by decide +kernel
theorem dX8_drawn_115 : decode cX8_drawn 115 = .ok (.iconst 1, 1) := by decide +kernel
theorem dX8_drawn_116 : decode cX8_drawn 116 = .ok (.iaload, 1) := by decide +kernel
theorem dX8_drawn_117 : decode cX8_drawn 117 = .ok (.iastore, 1) := by decide +kernel
theorem dX8_drawn_118 : decode cX8_drawn 118 = .ok (.aload_n 0, 1) := by decide +kernel
theorem dX8_drawn_119 : decode cX8_drawn 119 = .ok (.getfield 9, 3) := by decide +kernel
theorem dX8_drawn_122 : decode cX8_drawn 122 = .ok (.iload 5, 2) := by decide +kernel
theorem dX8_drawn_124 : decode cX8_drawn 124 = .ok (.iconst 1, 1) := by decide +kernel
theorem dX8_drawn_125 : decode cX8_drawn 125 = .ok (.iadd, 1) := by decide +kernel
theorem dX8_drawn_126 : decode cX8_drawn 126 = .ok (.iload 6, 2) := by decide +kernel
theorem dX8_drawn_128 : decode cX8_drawn 128 = .ok (.iastore, 1) := by decide +kernel
theorem dX8_drawn_129 : decode cX8_drawn 129 = .ok (.iconst 0, 1) := by decide +kernel
theorem dX8_drawn_130 : decode cX8_drawn 130 = .ok (.istore 7, 2) := by decide +kernel
theorem dX8_drawn_132 : decode cX8_drawn 132 = .ok (.iload 7, 2) := by decide +kernel
theorem dX8_drawn_134 : decode cX8_drawn 134 = .ok (.bipush 8, 2) := by decide +kernel
theorem dX8_drawn_136 : decode cX8_drawn 136 = .ok (.if_icmp .ge 22, 3) := by decide +kernel
theorem dX8_drawn_139 : decode cX8_drawn 139 = .ok (.aload_n 0, 1) := by decide +kernel
theorem dX8_drawn_140 : decode cX8_drawn 140 = .ok (.getfield 9, 3) := by decide +kernel
theorem dX8_drawn_143 : decode cX8_drawn 143 = .ok (.iload 5, 2) := by decide +kernel
theorem dX8_drawn_145 : decode cX8_drawn 145 = .ok (.iconst 2, 1) := by decide +kernel
theorem dX8_drawn_146 : decode cX8_drawn 146 = .ok (.iadd, 1) := by decide +kernel
theorem dX8_drawn_147 : decode cX8_drawn 147 = .ok (.iload 7, 2) := by decide +kernel
theorem dX8_drawn_149 : decode cX8_drawn 149 = .ok (.iadd, 1) := by decide +kernel
theorem dX8_drawn_150 : decode cX8_drawn 150 = .ok (.iconst 0, 1) := by decide +kernel
theorem dX8_drawn_151 : decode cX8_drawn 151 = .ok (.iastore, 1) := by decide +kernel
theorem dX8_drawn_152 : decode cX8_drawn 152 = .ok (.iinc 7 1, 3) := by decide +kernel
theorem dX8_drawn_155 : decode cX8_drawn 155 = .ok (.goto (-23), 3) := by decide +kernel
theorem dX8_drawn_158 : decode cX8_drawn 158 = .ok (.iconst 0, 1) := by decide +kernel
theorem dX8_drawn_159 : decode cX8_drawn 159 = .ok (.istore 7, 2) := by decide +kernel
theorem dX8_drawn_161 : decode cX8_drawn 161 = .ok (.iload 7, 2) := by decide +kernel
theorem dX8_drawn_163 : decode cX8_drawn 163 = .ok (.iload_n 3, 1) := by decide +kernel
theorem dX8_drawn_164 : decode cX8_drawn 164 = .ok (.if_icmp .ge 20, 3) := by decide +kernel
theorem dX8_drawn_167 : decode cX8_drawn 167 = .ok (.aload_n 0, 1) := by decide +kernel
theorem dX8_drawn_168 : decode cX8_drawn 168 = .ok (.iload 7, 2) := by decide +kernel
theorem dX8_drawn_170 : decode cX8_drawn 170 = .ok (.invokevirtual 191, 3) := by decide +kernel
theorem dX8_drawn_173 : decode cX8_drawn 173 = .ok (.iload 6, 2) := by decide +kernel
theorem dX8_drawn_175 : decode cX8_drawn 175 = .ok (.if_icmp .ge 9, 3) := by decide +kernel
theorem dX8_drawn_178 : decode cX8_drawn 178 = .ok (.iinc 7 1, 3) := by decide +kernel
theorem dX8_drawn_181 : decode cX8_drawn 181 = .ok (.goto (-20), 3) := by decide +kernel
theorem dX8_drawn_184 : decode cX8_drawn 184 = .ok (.aload_n 0, 1) := by decide +kernel
theorem dX8_drawn_185 : decode cX8_drawn 185 = .ok (.getfield 9, 3) := by decide +kernel
theorem dX8_drawn_188 : decode cX8_drawn 188 = .ok (.iload 5, 2) := by decide +kernel
theorem dX8_drawn_190 : decode cX8_drawn 190 = .ok (.iconst 2, 1) := by decide +kernel
theorem dX8_drawn_191 : decode cX8_drawn 191 = .ok (.iadd, 1) := by decide +kernel
theorem dX8_drawn_192 : decode cX8_drawn 192 = .ok (.iload 7, 2) := by decide +kernel
theorem dX8_drawn_194 : decode cX8_drawn 194 = .ok (.iadd, 1) := by decide +kernel
theorem dX8_drawn_195 : decode cX8_drawn 195 = .ok (.iload 6, 2) := by decide +kernel
theorem dX8_drawn_197 : decode cX8_drawn 197 = .ok (.aload_n 0, 1) := by decide +kernel
theorem dX8_drawn_198 : decode cX8_drawn 198 = .ok (.iload 7, 2) := by decide +kernel
theorem dX8_drawn_200 : decode cX8_drawn 200 = .ok (.invokevirtual 191, 3) := by decide +kernel
theorem dX8_drawn_203 : decode cX8_drawn 203 = .ok (.iadd, 1) := by decide +kernel
theorem dX8_drawn_204 : decode cX8_drawn 204 = .ok (.iconst 1, 1) := by decide +kernel
theorem dX8_drawn_205 : decode cX8_drawn 205 = .ok (.isub, 1) := by decide +kernel
theorem dX8_drawn_206 : decode cX8_drawn 206 = .ok (.aload_n 0, 1) := by decide +kernel
theorem dX8_drawn_207 : decode cX8_drawn 207 = .ok (.iload 7, 2) := by decide +kernel
theorem dX8_drawn_209 : decode cX8_drawn 209 = .ok (.invokevirtual 191, 3) := by decide +kernel
theorem dX8_drawn_212 : decode cX8_drawn 212 = .ok (.idiv, 1) := by decide +kernel
theorem dX8_drawn_213 : decode cX8_drawn 213 = .ok (.iastore, 1) := by decide +kernel
theorem dX8_drawn_214 : decode cX8_drawn 214 = .ok (.aload_n 0, 1) := by decide +kernel
theorem dX8_drawn_215 : decode cX8_drawn 215 = .ok (.getfield 9, 3) := by decide +kernel
theorem dX8_drawn_218 : decode cX8_drawn 218 = .ok (.iconst 2, 1) := by decide +kernel
theorem dX8_drawn_219 : decode cX8_drawn 219 = .ok (.dup2, 1) := by decide +kernel
theorem dX8_drawn_220 : decode cX8_drawn 220 = .ok (.iaload, 1) := by decide +kernel
theorem dX8_drawn_221 : decode cX8_drawn 221 = .ok (.iconst 1, 1) := by decide +kernel
theorem dX8_drawn_222 : decode cX8_drawn 222 = .ok (.iadd, 1) := by decide +kernel
theorem dX8_drawn_223 : decode cX8_drawn 223 = .ok (.iastore, 1) := by decide +kernel
theorem dX8_drawn_224 : decode cX8_drawn 224 = .ok (.iinc 4 1, 3) := by decide +kernel
theorem dX8_drawn_227 : decode cX8_drawn 227 = .ok (.goto (-157), 3) := by decide +kernel
theorem dX8_drawn_230 : decode cX8_drawn 230 = .ok (.aload_n 0, 1) := by decide +kernel
theorem dX8_drawn_231 : decode cX8_drawn 231 = .ok (.getfield 9, 3) := by decide +kernel
theorem dX8_drawn_234 : decode cX8_drawn 234 = .ok (.iconst 1, 1) := by decide +kernel
theorem dX8_drawn_235 : decode cX8_drawn 235 = .ok (.dup2, 1) := by decide +kernel
theorem dX8_drawn_236 : decode cX8_drawn 236 = .ok (.iaload, 1) := by decide +kernel
theorem dX8_drawn_237 : decode cX8_drawn 237 = .ok (.iconst 1, 1) := by decide +kernel
theorem dX8_drawn_238 : decode cX8_drawn 238 = .ok (.iadd, 1) := by decide +kernel
theorem dX8_drawn_239 : decode cX8_drawn 239 = .ok (.iastore, 1) := by decide +kernel
theorem dX8_drawn_240 : decode cX8_drawn 240 = .ok (.aload_n 0, 1) := by decide +kernel
theorem dX8_drawn_241 : decode cX8_drawn 241 = .ok (.getfield 9, 3) := by decide +kernel
theorem dX8_drawn_244 : decode cX8_drawn 244 = .ok (.iconst 1, 1) := by decide +kernel
theorem dX8_drawn_245 : decode cX8_drawn 245 = .ok (.iaload, 1) := by decide +kernel
theorem dX8_drawn_246 : decode cX8_drawn 246 = .ok (.ireturn, 1) := by decide +kernel
set_option maxHeartbeats 4000000 in
set_option maxRecDepth 100000 in
theorem m_X8_drawn (l : Launch) (x : Int) (n : Int) (mem : Mem) (hx : i32 x) (hn : i32 n) (hP : 0 ≤ mem 0 5 ∧ mem 0 5 ≤ 10) (hG : GR (mem 1)) : Ret shp l yX8_drawn cX8_drawn 8 (some .int) 3 [pR 0, pI x, pI n] mem (fun rv mv => ∃ z, rv = some (pI z) ∧ (¬ (mem 1 0 ≠ 0 ∧ 1 ≤ n ∧ n ≤ 10) ∧ z = -1 ∧ mv = mem ∨ (mem 1 0 ≠ 0 ∧ 1 ≤ n ∧ n ≤ 10) ∧ (mem 1 1 = 5 ∨ 40 < mem 1 2 + n) ∧ z = -2 ∧ mv = mem ∨ (mem 1 0 ≠ 0 ∧ 1 ≤ n ∧ n ≤ 10) ∧ mem 1 1 < 5 ∧ mem 1 2 + n ≤ 40 ∧ z = mem 1 1 + 1 ∧ ∃ m1, PastPush mem m1 ∧ (∀ a, a ≠ 0 → a ≠ 1 → mv a = m1 a) ∧ (∀ j, j ≠ 27 → mv 0 j = m1 0 j) ∧ mv 1 = (drwG (bump (mem 1)) (2 * mem 1 (3 + (mem 1 0 - 1).toNat)) x n.toNat).1)) := by
  refine ret_of (by decide +kernel) (Nat.le_of_ble_eq_true rfl) (fun X hX F G => ?_)
  show Ok shp X 8 0 [(0, pR 0), (1, pI x), (2, pI n)] [] mem
  have g0 := hG.1
  have g1 := hG.2.1
  have g2 := hG.2.2.1
  have hVb := hG.2.2.2.1
  have hV1 := hG.2.2.2.2.1
  have b0 : bump (mem 1) 0 = mem 1 0 := bump_ne _ (by decide)
  have b1 : bump (mem 1) 1 = mem 1 1 + 1 := if_pos rfl
  have b2 : bump (mem 1) 2 = mem 1 2 := bump_ne _ (by decide)
  refine ok_aload_n F dX8_drawn_0 0 rfl ?_
  refine ok_getr F dX8_drawn_1 kF_X8_9 sh_0 rfl ?_
  refine ok_iconst F dX8_drawn_4 ?_
  refine ok_iald (v := mem 1 0) F dX8_drawn_5 sh_1 (by first | decide | assumption) (by omega) (by omega) rfl ?_
  refine ok_if_eq F 21 dX8_drawn_6 (by decide) (by omega) (fun c_1 => ?_) (fun c_1 => ?_)
  · refine ok_iconst F dX8_drawn_21 ?_
    refine ok_iret F G dX8_drawn_22 ?_
    exact ⟨_, rfl, Or.inl ⟨by omega, rfl, rfl⟩⟩
  · refine ok_iload_n F dX8_drawn_9 2 rfl ?_
    refine ok_i2l F dX8_drawn_10 (by omega) ?_
    refine ok_lconst (z := 1) F dX8_drawn_11 rfl ?_
    refine ok_ldc2 (n := 10) F dX8_drawn_12 kJ_X8_300 rfl ?_
    refine ok_calls F [pL n, pL 1, pL 10] dX8_drawn_15 kM_X8_in kS_X8_in kL_X8_100 rfl (by decide) (Nat.le_of_ble_eq_true rfl) rfl (m_X8_in _ n 1 10 mem (by omega) (by omega) (by omega)) ?_
    rintro _ _ ⟨rfl, rfl⟩
    refine ok_if_ne F 23 dX8_drawn_18 (by decide) (by omega) (fun c_2 => ?_) (fun c_2 => ?_)
    · refine ok_aload_n F dX8_drawn_23 0 rfl ?_
      refine ok_getr F dX8_drawn_24 kF_X8_9 sh_0 rfl ?_
      refine ok_iconst F dX8_drawn_27 ?_
      refine ok_iald (v := mem 1 1) F dX8_drawn_28 sh_1 (by first | decide | assumption) (by omega) (by omega) rfl ?_
      refine ok_iconst F dX8_drawn_29 ?_
      refine ok_icmp_eq F 46 dX8_drawn_30 (by decide) (by omega) (by omega) (fun c_3 => ?_) (fun c_3 => ?_)
      · refine ok_bipush F dX8_drawn_46 rfl ?_
        refine ok_iret F G dX8_drawn_48 ?_
        exact ⟨_, rfl, Or.inr (Or.inl ⟨by omega, by omega, rfl, rfl⟩)⟩
      · refine ok_aload_n F dX8_drawn_33 0 rfl ?_
        refine ok_getr F dX8_drawn_34 kF_X8_9 sh_0 rfl ?_
        refine ok_iconst F dX8_drawn_37 ?_
        refine ok_iald (v := mem 1 2) F dX8_drawn_38 sh_1 (by first | decide | assumption) (by omega) (by omega) rfl ?_
        refine ok_iload_n F dX8_drawn_39 2 rfl ?_
        refine ok_iadd F dX8_drawn_40 ?_
        refine ok_bipush F dX8_drawn_41 rfl ?_
        refine ok_icmp_le F 49 dX8_drawn_43 (by decide) (by omega) (by omega) (fun c_4 => ?_) (fun c_4 => ?_)
        · refine ok_aload_n F dX8_drawn_49 0 rfl ?_
          refine ok_callv F [] dX8_drawn_50 kM_X8_keepsPast kI_X8_keepsPast kV_X8_keepsPast kL_X8_224 (ci := 8) rfl sh_0 rfl (by decide) (Nat.le_of_ble_eq_true rfl) rfl (m_X8_keepsPast _ mem (by omega)) ?_
          rintro _ m_6 ⟨rfl, r_7⟩
          obtain ⟨m9, hm9⟩ : ∃ x, x = m_6 := ⟨_, rfl⟩
          have hPP : PastPush mem m9 := by rw [hm9]; exact r_7
          have h91 : m9 1 = mem 1 := PastPush.now hPP
          have hdr : ∀ i : Nat, mem 1 2 + i ≤ 40 → GR (drwG (bump (mem 1)) (2 * mem 1 (3 + (mem 1 0 - 1).toNat)) x i).1 ∧ (drwG (bump (mem 1)) (2 * mem 1 (3 + (mem 1 0 - 1).toNat)) x i).1 2 = bump (mem 1) 2 + i ∧ ∀ b, b ≠ 2 → b < 59 → (drwG (bump (mem 1)) (2 * mem 1 (3 + (mem 1 0 - 1).toNat)) x i).1 b = bump (mem 1) b := fun i hi => drwG_ok (hG.dawn (by omega)) (by omega) (by omega) (by rw [b0, bump_ne _ (by omega)]) i (by omega)
          have eM1 := hVb (mem 1 0 - 1).toNat (by omega)
          have eM2 := hV1 (mem 1 0 - 1).toNat (by omega)
          refine ok_aload_n F dX8_drawn_53 0 rfl ?_
          refine ok_iload_n F dX8_drawn_54 1 rfl ?_
          refine ok_putf F dX8_drawn_55 kF_X8_296 sh_0 rfl rfl rfl (fun m_8 e_9 => ?_)
          refine ok_aload_n F dX8_drawn_58 0 rfl ?_
          refine ok_getr F dX8_drawn_59 kF_X8_9 sh_0 rfl ?_
          refine ok_iconst F dX8_drawn_62 ?_
          refine ok_iald (v := mem 1 0) F dX8_drawn_63 sh_1 (by first | decide | assumption) (by omega) (by omega) (by rw [e_9, mset_nk (by decide), PastPush.now r_7] <;> rfl) ?_
          refine ok_iconst F dX8_drawn_64 ?_
          refine ok_isub F dX8_drawn_65 ?_
          refine ok_istore_n (lv' := [(3, pI ((mem 1 0) - 1)), (0, pR 0), (1, pI x), (2, pI n)]) F dX8_drawn_66 (by decide) rfl ?_
          refine ok_iconst F dX8_drawn_67 ?_
          refine ok_istore (lv' := [(4, pI 0), (3, pI ((mem 1 0) - 1)), (0, pR 0), (1, pI x), (2, pI n)]) F dX8_drawn_68 (by decide) rfl ?_
          have hL_70 : ∀ (n_70 : Nat) (i : Int) (m : Mem), (0 ≤ i ∧ i ≤ n ∧ (∀ a, a ≠ 0 → a ≠ 1 → m a = m9 a) ∧ (∀ j, j ≠ 27 → m 0 j = m9 0 j) ∧ bump (m 1) = (drwG (bump (mem 1)) (2 * mem 1 (3 + (mem 1 0 - 1).toNat)) x i.toNat).1 ∧ m 1 1 = mem 1 1 ∧ m 0 27 = (drwG (bump (mem 1)) (2 * mem 1 (3 + (mem 1 0 - 1).toNat)) x i.toNat).2) → (n - i).toNat = n_70 → Ok shp X 8 70 [(0, pR 0), (1, pI x), (2, pI n), (3, pI ((mem 1 0) - 1)), (4, pI i)] [] m := by
            intro n_70
            induction n_70 using Nat.strongRecOn with
            | _ n_70 ih_70 =>
              intro i m hI_70 hn_70
              obtain ⟨hi0, hi1, hF, hF0, hR, hd, hX9⟩ := hI_70
              refine ok_iload F dX8_drawn_70 4 rfl ?_
              refine ok_iload_n F dX8_drawn_72 2 rfl ?_
              refine ok_icmp_ge F 230 dX8_drawn_73 (by decide) (by omega) (by omega) (fun c_10 => ?_) (fun c_10 => ?_)
              · refine ok_aload_n F dX8_drawn_230 0 rfl ?_
                refine ok_getr F dX8_drawn_231 kF_X8_9 sh_0 rfl ?_
                refine ok_iconst F dX8_drawn_234 ?_
                refine ok_dup2 F dX8_drawn_235 rfl rfl ?_
                refine ok_iald (v := m 1 1) F dX8_drawn_236 sh_1 (by first | decide | assumption) (by omega) (by omega) rfl ?_
                refine ok_iconst F dX8_drawn_237 ?_
                refine ok_iadd F dX8_drawn_238 ?_
                refine ok_iast F dX8_drawn_239 sh_1 (by first | decide | assumption) (by omega) (by omega) (fun m_11 e_12 => ?_)
                refine ok_aload_n F dX8_drawn_240 0 rfl ?_
                refine ok_getr F dX8_drawn_241 kF_X8_9 sh_0 rfl ?_
                refine ok_iconst F dX8_drawn_244 ?_
                refine ok_iald (v := ((m 1 1) + 1)) F dX8_drawn_245 sh_1 (by first | decide | assumption) (by omega) (by omega) (by rw [e_12]; exact mset_eq _ _ _ _) ?_
                refine ok_iret F G dX8_drawn_246 ?_
                have hin : i = n := by omega
                refine ⟨_, rfl, Or.inr (Or.inr ⟨by omega, by omega, by omega, ?_, m9, hPP, fun a c1 c2 => by rw [e_12, mset_nka c2]; exact hF a c1 c2, fun j hj => by rw [e_12, mset_nk (by decide)]; exact hF0 j hj, ?_⟩)⟩
                · first | omega | (rw [e_12, mset_eq]; omega)
                · rw [← hin, ← hR]
                  funext b
                  rw [e_12, show Int.toNat 1 = 1 from rfl]
                  by_cases y : b = 1
                  · subst y; rw [mset_eq, show bump (m 1) 1 = m 1 1 + 1 from if_pos rfl]
                  · rw [mset_ne (fun q => y q.2), bump_ne _ y]
              · obtain ⟨d1, d2, d3⟩ := hdr i.toNat (by omega)
                have e2 : m 1 2 = mem 1 2 + i := by rw [← bump_ne (m 1) (show (2 : Nat) ≠ 1 by decide), hR, d2, b2]; omega
                have elo : ∀ b, b ≠ 2 → b < 59 → m 1 b = mem 1 b := fun b c1 c2 => by
                  by_cases c : b = 1
                  · rw [c]; exact hd
                  · rw [← bump_ne (m 1) c, hR, d3 b c1 c2, bump_ne _ c]
                have el0 := elo 0 (by decide) (by decide)
                have eV : m 1 (3 + (mem 1 0 - 1)).toNat = mem 1 (3 + (mem 1 0 - 1).toNat) := by rw [show (3 + (mem 1 0 - 1)).toNat = 3 + (mem 1 0 - 1).toNat by omega]; exact elo _ (by omega) (by omega)
                have u1 := iushr16_bd (m 0 27 * 1103515245 + 12345)
                have t1 := tmod_bd (x := iushr (m 0 27 * 1103515245 + 12345) 16) (y := (2 * mem 1 (3 + (mem 1 0 - 1).toNat))) u1.1 (by omega)
                rw [← eV] at t1
                refine ok_bipush F dX8_drawn_76 rfl ?_
                refine ok_bipush F dX8_drawn_78 rfl ?_
                refine ok_aload_n F dX8_drawn_80 0 rfl ?_
                refine ok_getr F dX8_drawn_81 kF_X8_9 sh_0 rfl ?_
                refine ok_iconst F dX8_drawn_84 ?_
                refine ok_iald (v := m 1 2) F dX8_drawn_85 sh_1 (by first | decide | assumption) (by omega) (by omega) rfl ?_
                refine ok_imul F dX8_drawn_86 ?_
                refine ok_iadd F dX8_drawn_87 ?_
                refine ok_istore (lv' := [(5, pI (59 + (10 * (m 1 2)))), (0, pR 0), (1, pI x), (2, pI n), (3, pI ((mem 1 0) - 1)), (4, pI i)]) F dX8_drawn_88 (by decide) rfl ?_
                refine ok_aload_n F dX8_drawn_90 1 rfl ?_
                refine ok_iconst F dX8_drawn_91 ?_
                refine ok_aload_n F dX8_drawn_92 1 rfl ?_
                refine ok_iload_n F dX8_drawn_93 4 rfl ?_
                refine ok_callv F [pI ((mem 1 0) - 1)] dX8_drawn_94 kM_X8_value kI_X8_value kV_X8_value kL_X8_191 (ci := 8) rfl sh_0 rfl (by decide) (Nat.le_of_ble_eq_true rfl) rfl (m_X8_value _ ((mem 1 0) - 1) m (by omega)) ?_
                rintro _ _ ⟨rfl, rfl⟩
                refine ok_imul F dX8_drawn_97 ?_
                refine ok_callv F [pI (2 * (m 1 (3 + ((mem 1 0) - 1)).toNat))] dX8_drawn_98 kM_X8_draw kI_X8_draw kV_X8_draw kL_X8_302 (ci := 8) rfl sh_0 rfl (by decide) (Nat.le_of_ble_eq_true rfl) rfl (m_X8_draw _ (2 * (m 1 (3 + ((mem 1 0) - 1)).toNat)) m (by rw [eV]; omega)) ?_
                rintro _ m_13 ⟨rfl, e_14⟩
                have eX := e_14
                have q1 : m_13 1 = m 1 := by rw [eX]; exact mset_nka (by decide)
                have qo : ∀ a, a ≠ 0 → m_13 a = m a := fun a a1 => by rw [eX]; exact mset_nka a1
                refine ok_iconst F dX8_drawn_101 ?_
                refine ok_iadd F dX8_drawn_102 ?_
                refine ok_istore (lv' := [(6, pI (((iushr (m 0 27 * 1103515245 + 12345) 16).tmod (2 * (m 1 (3 + ((mem 1 0) - 1)).toNat))) + 1)), (5, pI (59 + (10 * (m 1 2)))), (0, pR 0), (1, pI x), (2, pI n), (3, pI ((mem 1 0) - 1)), (4, pI i)]) F dX8_drawn_103 (by decide) rfl ?_
                refine ok_aload_n F dX8_drawn_105 2 rfl ?_
                refine ok_getr F dX8_drawn_106 kF_X8_9 sh_0 rfl ?_
                refine ok_iload F dX8_drawn_109 1 rfl ?_
                refine ok_aload_n F dX8_drawn_111 2 rfl ?_
                refine ok_getr F dX8_drawn_112 kF_X8_9 sh_0 rfl ?_
                refine ok_iconst F dX8_drawn_115 ?_
                refine ok_iald (v := m 1 1) F dX8_drawn_116 sh_1 (by first | decide | assumption) (by omega) (by omega) (by rw [q1] <;> rfl) ?_
                refine ok_iast F dX8_drawn_117 sh_1 (by first | decide | assumption) (by omega) (by omega) (fun m_15 e_16 => ?_)
                refine ok_aload_n F dX8_drawn_118 2 rfl ?_
                refine ok_getr F dX8_drawn_119 kF_X8_9 sh_0 rfl ?_
                refine ok_iload F dX8_drawn_122 1 rfl ?_
                refine ok_iconst F dX8_drawn_124 ?_
                refine ok_iadd F dX8_drawn_125 ?_
                refine ok_iload F dX8_drawn_126 0 rfl ?_
                refine ok_iast F dX8_drawn_128 sh_1 (by first | decide | assumption) (by omega) (by omega) (fun m_17 e_18 => ?_)
                refine ok_iconst F dX8_drawn_129 ?_
                refine ok_istore (lv' := [(7, pI 0), (6, pI (((iushr (m 0 27 * 1103515245 + 12345) 16).tmod (2 * (m 1 (3 + ((mem 1 0) - 1)).toNat))) + 1)), (5, pI (59 + (10 * (m 1 2)))), (0, pR 0), (1, pI x), (2, pI n), (3, pI ((mem 1 0) - 1)), (4, pI i)]) F dX8_drawn_130 (by decide) rfl ?_
                obtain ⟨mS, hmS⟩ : ∃ x, x = m_17 := ⟨_, rfl⟩
                have hSo : ∀ a, a ≠ 0 → a ≠ 1 → mS a = m a := fun a c1 c2 => by rw [hmS, e_18, e_16, mset_nka c2, mset_nka c2]; exact qo a c1
                have hS0 : ∀ j, j ≠ 27 → mS 0 j = m 0 j := fun j hj => by rw [hmS, e_18, e_16, mset_nk (by decide), mset_nk (by decide), eX]; exact mset_ne (fun q => hj q.2)
                have hSx : mS 0 27 = m 0 27 * 1103515245 + 12345 := by rw [hmS, e_18, e_16, mset_nk (by decide), mset_nk (by decide), eX]; exact mset_eq _ _ _ _
                have hS : ∀ b, mS 1 b = if b = 59 + 10 * (m 1 2).toNat then mem 1 1 else if b = 60 + 10 * (m 1 2).toNat then (iushr (m 0 27 * 1103515245 + 12345) 16).tmod (2 * mem 1 (3 + (mem 1 0 - 1).toNat)) + 1 else m 1 b := fun b => by
                  rw [hmS, e_18, e_16]
                  by_cases z : b = 60 + 10 * (m 1 2).toNat
                  · rw [if_neg (by omega), if_pos z, show (59 + 10 * m 1 2 + 1).toNat = b by omega, mset_eq, eV]
                  · rw [mset_ne (fun y => z (by have := y.2; omega))]
                    by_cases z2 : b = 59 + 10 * (m 1 2).toNat
                    · rw [if_pos z2, show (59 + 10 * m 1 2).toNat = b by omega, mset_eq]; exact hd
                    · rw [mset_ne (fun y => z2 (by have := y.2; omega)), if_neg z2, if_neg z, q1]
                have hL_132 : ∀ (n_132 : Nat) (q : Int) (p : Int) (t : Int) (m5 : Mem), ((q = 59 + 10 * m 1 2 ∧ p = (iushr (m 0 27 * 1103515245 + 12345) 16).tmod (2 * mem 1 (3 + (mem 1 0 - 1).toNat)) + 1 ∧ 1 ≤ p ∧ p ≤ (2 * mem 1 (3 + (mem 1 0 - 1).toNat))) ∧ 0 ≤ t ∧ t ≤ 8 ∧ (∀ a, a ≠ 1 → m5 a = mS a) ∧ ∀ b, m5 1 b = if 61 + 10 * (m 1 2).toNat ≤ b ∧ (b : Int) < 61 + 10 * m 1 2 + t then 0 else mS 1 b) → (8 - t).toNat = n_132 → Ok shp X 8 132 [(0, pR 0), (1, pI x), (2, pI n), (3, pI ((mem 1 0) - 1)), (4, pI i), (5, pI q), (6, pI p), (7, pI t)] [] m5 := by
                  intro n_132
                  induction n_132 using Nat.strongRecOn with
                  | _ n_132 ih_132 =>
                    intro q p t m5 hI_132 hn_132
                    obtain ⟨⟨hq, hp1, hp2, hp3⟩, ht0, ht1, hF5, h5⟩ := hI_132
                    refine ok_iload F dX8_drawn_132 7 rfl ?_
                    refine ok_bipush F dX8_drawn_134 rfl ?_
                    refine ok_icmp_ge F 158 dX8_drawn_136 (by decide) (by omega) (by omega) (fun c_19 => ?_) (fun c_19 => ?_)
                    · refine ok_iconst F dX8_drawn_158 ?_
                      refine ok_istore (lv' := [(7, pI 0), (0, pR 0), (1, pI x), (2, pI n), (3, pI ((mem 1 0) - 1)), (4, pI i), (5, pI q), (6, pI p)]) F dX8_drawn_159 (by decide) rfl ?_
                      have ht8 : t = 8 := by omega
                      have e5 : ∀ k : Nat, k < 8 → m5 1 (3 + k) = mem 1 (3 + k) := fun k hk => by rw [h5, if_neg (by omega), hS, if_neg (by omega), if_neg (by omega)]; exact elo _ (by omega) (by omega)
                      have hL_161 : ∀ (n_161 : Nat) (k : Int), (0 ≤ k ∧ k ≤ mem 1 0 - 1 ∧ kdF (fun i => mem 1 (3 + i)) p (mem 1 0 - 1).toNat 0 = kdF (fun i => mem 1 (3 + i)) p (mem 1 0 - 1 - k).toNat k.toNat) → (mem 1 0 - 1 - k).toNat = n_161 → Ok shp X 8 161 [(0, pR 0), (1, pI x), (2, pI n), (3, pI ((mem 1 0) - 1)), (4, pI i), (5, pI q), (6, pI p), (7, pI k)] [] m5 := by
                        intro n_161
                        induction n_161 using Nat.strongRecOn with
                        | _ n_161 ih_161 =>
                          intro k hI_161 hn_161
                          have ht8 : t = 8 := by omega
                          have e5 : ∀ k : Nat, k < 8 → m5 1 (3 + k) = mem 1 (3 + k) := fun k hk => by rw [h5, if_neg (by omega), hS, if_neg (by omega), if_neg (by omega)]; exact elo _ (by omega) (by omega)
                          refine ok_iload F dX8_drawn_161 7 rfl ?_
                          refine ok_iload_n F dX8_drawn_163 3 rfl ?_
                          refine ok_icmp_ge F 184 dX8_drawn_164 (by decide) (by omega) (by omega) (fun c_20 => ?_) (fun c_20 => ?_)
                          · have a1 := e5 k.toNat (by omega)
                            have a2 := hVb k.toNat (by omega)
                            have a3 := hV1 k.toNat (by omega)
                            rw [show 3 + k.toNat = (3 + k).toNat by omega] at a1 a2 a3
                            have ek : k.toNat = kdF (fun i => mem 1 (3 + i)) p (mem 1 0 - 1).toNat 0 := by
                              rw [hI_161.2.2]
                              by_cases z : k < mem 1 0 - 1
                              · rw [show (mem 1 0 - 1 - k).toNat = (mem 1 0 - 1 - (k + 1)).toNat + 1 by omega, kdF_s, if_neg (by rw [show 3 + k.toNat = (3 + k).toNat by omega]; omega)]
                              · rw [show (mem 1 0 - 1 - k).toNat = 0 by omega]; rfl
                            have hh : ∀ b, b ≠ 1 → bump (m 1) b = m 1 b := fun b hb => bump_ne _ hb
                            have eK : drwK (bump (m 1)) p = k.toNat := by
                              rw [ek]
                              unfold drwK
                              rw [hh 0 (by decide), el0]
                              exact kdF_congr _ _ (fun j _ hj => by rw [hh _ (by omega)]; exact elo _ (by omega) (by omega))
                            have hGh : GR (bump (m 1)) := by rw [hR]; exact d1
                            obtain ⟨w1, w2, w3, w4, w5⟩ := drw_bd hGh (by rw [hh 0 (by decide)]; omega) (p := p) (by rw [hh 0 (by decide), hh _ (by omega), el0, elo _ (by omega) (by omega)]; exact ⟨hp2, hp3⟩)
                            have eKv : bump (m 1) (3 + drwK (bump (m 1)) p) = mem 1 (3 + k).toNat := by rw [eK, hh _ (by omega), elo _ (by omega) (by omega), show 3 + k.toNat = (3 + k).toNat by omega]
                            rw [eKv] at w2
                            have hcl := ceil_two (p := p) (v := mem 1 (3 + k).toNat) a3 ⟨hp2, by omega⟩
                            have eC : drwC (bump (m 1)) p = if p ≤ mem 1 (3 + k).toNat then 1 else 2 := by
                              have : drwC (bump (m 1)) p = if p ≤ bump (m 1) (3 + drwK (bump (m 1)) p) then 1 else 2 := rfl
                              rw [this, eKv]
                            refine ok_aload_n F dX8_drawn_184 0 rfl ?_
                            refine ok_getr F dX8_drawn_185 kF_X8_9 sh_0 rfl ?_
                            refine ok_iload F dX8_drawn_188 5 rfl ?_
                            refine ok_iconst F dX8_drawn_190 ?_
                            refine ok_iadd F dX8_drawn_191 ?_
                            refine ok_iload F dX8_drawn_192 7 rfl ?_
                            refine ok_iadd F dX8_drawn_194 ?_
                            refine ok_iload F dX8_drawn_195 6 rfl ?_
                            refine ok_aload_n F dX8_drawn_197 0 rfl ?_
                            refine ok_iload F dX8_drawn_198 7 rfl ?_
                            refine ok_callv F [pI k] dX8_drawn_200 kM_X8_value kI_X8_value kV_X8_value kL_X8_191 (ci := 8) rfl sh_0 rfl (by decide) (Nat.le_of_ble_eq_true rfl) rfl (m_X8_value _ k m5 (by omega)) ?_
                            rintro _ _ ⟨rfl, rfl⟩
                            refine ok_iadd F dX8_drawn_203 ?_
                            refine ok_iconst F dX8_drawn_204 ?_
                            refine ok_isub F dX8_drawn_205 ?_
                            refine ok_aload_n F dX8_drawn_206 0 rfl ?_
                            refine ok_iload F dX8_drawn_207 7 rfl ?_
                            refine ok_callv F [pI k] dX8_drawn_209 kM_X8_value kI_X8_value kV_X8_value kL_X8_191 (ci := 8) rfl sh_0 rfl (by decide) (Nat.le_of_ble_eq_true rfl) rfl (m_X8_value _ k m5 (by omega)) ?_
                            rintro _ _ ⟨rfl, rfl⟩
                            refine ok_idiv F dX8_drawn_212 (by omega) (by omega) (by omega) ?_
                            refine ok_iast F dX8_drawn_213 sh_1 (by first | decide | assumption) (by omega) (by omega) (fun m_21 e_22 => ?_)
                            refine ok_aload_n F dX8_drawn_214 0 rfl ?_
                            refine ok_getr F dX8_drawn_215 kF_X8_9 sh_0 rfl ?_
                            refine ok_iconst F dX8_drawn_218 ?_
                            refine ok_dup2 F dX8_drawn_219 rfl rfl ?_
                            refine ok_iald (v := m_21 1 2) F dX8_drawn_220 sh_1 (by first | decide | assumption) (by omega) (by omega) rfl ?_
                            refine ok_iconst F dX8_drawn_221 ?_
                            refine ok_iadd F dX8_drawn_222 ?_
                            refine ok_iast F dX8_drawn_223 sh_1 (by first | decide | assumption) (by omega) (by omega) (fun m_23 e_24 => ?_)
                            refine ok_iinc (lv' := [(4, pI (i + 1)), (0, pR 0), (1, pI x), (2, pI n), (3, pI ((mem 1 0) - 1)), (5, pI q), (6, pI p), (7, pI k)]) F dX8_drawn_224 4 rfl (by decide) rfl ?_
                            refine ok_goto F 70 dX8_drawn_227 (by decide) ?_
                            refine ok_lvp [1, 2, 3, 4, 0] (lv' := [(0, pR 0), (1, pI x), (2, pI n), (3, pI ((mem 1 0) - 1)), (4, pI (i + 1))]) rfl ?_
                            refine ih_70 _ ?_ (i + 1) m_23 ?_ rfl
                            · omega
                            · have hf : ∀ b, m_23 1 b = if b = 2 then m 1 2 + 1 else if b = 61 + 10 * (m 1 2).toNat + k.toNat then drwC (bump (m 1)) p else if 61 + 10 * (m 1 2).toNat ≤ b ∧ b < 69 + 10 * (m 1 2).toNat then 0 else if b = 59 + 10 * (m 1 2).toNat then mem 1 1 else if b = 60 + 10 * (m 1 2).toNat then p else m 1 b := fun b => by
                                rw [e_24, e_22, show Int.toNat 2 = 2 from rfl]
                                by_cases z : b = 2
                                · subst z; rw [mset_eq, if_pos rfl, mset_ne (by omega), h5, if_neg (by omega), hS, if_neg (by omega), if_neg (by omega)]
                                · rw [mset_ne (fun y => z y.2), if_neg z]
                                  by_cases z2 : b = 61 + 10 * (m 1 2).toNat + k.toNat
                                  · rw [if_pos z2, show (q + 2 + k).toNat = b by omega, mset_eq, a1, hcl, eC]
                                  · rw [if_neg z2, mset_ne (fun y => z2 (by have := y.2; omega)), h5]
                                    by_cases z3 : 61 + 10 * (m 1 2).toNat ≤ b ∧ b < 69 + 10 * (m 1 2).toNat
                                    · rw [if_pos z3, if_pos (by omega)]
                                    · rw [if_neg z3, if_neg (by omega), hS]
                                      by_cases z4 : b = 59 + 10 * (m 1 2).toNat
                                      · rw [if_pos z4, if_pos z4]
                                      · rw [if_neg z4, if_neg z4, ← hp1]
                              have e0f : m_23 0 = mS 0 := by rw [e_24, e_22, mset_nka (by decide), mset_nka (by decide)]; exact hF5 0 (by decide)
                              have eof : ∀ a, a ≠ 0 → a ≠ 1 → m_23 a = m a := fun a c1 c2 => by rw [e_24, e_22, mset_nka c2, mset_nka c2, hF5 a c2]; exact hSo a c1 c2
                              refine ⟨by omega, by omega, fun a c1 c2 => by rw [eof a c1 c2]; exact hF a c1 c2, fun j hj => by rw [e0f, hS0 j hj]; exact hF0 j hj, ?_, ?_, ?_⟩
                              · rw [show (i + 1).toNat = i.toNat + 1 by omega, drwG_s]
                                show _ = addS _ _
                                rw [← hX9, ← hp1, ← hR]
                                funext b
                                have hh2 : bump (m 1) 2 = m 1 2 := hh 2 (by decide)
                                have hh1 : bump (m 1) 1 = mem 1 1 + 1 := by rw [show bump (m 1) 1 = m 1 1 + 1 from if_pos rfl, hd]
                                by_cases y : b = 1
                                · subst y; rw [addS_at _ _ (by decide) (by omega), hh1, show bump (m_23 1) 1 = m_23 1 1 + 1 from if_pos rfl, hf, if_neg (by decide), if_neg (by omega), if_neg (by omega), if_neg (by omega), if_neg (by omega), hd]
                                · rw [bump_ne _ y, hf]
                                  unfold addS
                                  rw [hh2, hh1, eK]
                                  by_cases z : b = 2
                                  · rw [if_pos z, if_neg (by omega), if_neg (by omega), if_neg (by omega), if_pos z]
                                  · rw [if_neg z]
                                    by_cases z2 : b = 61 + 10 * (m 1 2).toNat + k.toNat
                                    · rw [if_pos z2, if_neg (by omega), if_neg (by omega), if_pos (by omega), if_pos z2]
                                    · rw [if_neg z2]
                                      by_cases z3 : 61 + 10 * (m 1 2).toNat ≤ b ∧ b < 69 + 10 * (m 1 2).toNat
                                      · rw [if_pos z3, if_neg (by omega), if_neg (by omega), if_pos z3, if_neg z2]
                                      · rw [if_neg z3]
                                        by_cases z4 : b = 59 + 10 * (m 1 2).toNat
                                        · rw [if_pos z4, if_pos z4]; omega
                                        · rw [if_neg z4, if_neg z4]
                                          by_cases z5 : b = 60 + 10 * (m 1 2).toNat
                                          · rw [if_pos z5, if_pos z5]
                                          · rw [if_neg z5, if_neg z5, if_neg z3, if_neg z, hh b y]
                              · rw [hf, if_neg (by decide), if_neg (by omega), if_neg (by omega), if_neg (by omega), if_neg (by omega)]; exact hd
                              · rw [e0f, hSx, show (i + 1).toNat = i.toNat + 1 by omega, drwG_s, ← hX9]
                          · have a1 := e5 k.toNat (by omega)
                            have a2 := hVb k.toNat (by omega)
                            rw [show 3 + k.toNat = (3 + k).toNat by omega] at a1 a2
                            refine ok_aload_n F dX8_drawn_167 0 rfl ?_
                            refine ok_iload F dX8_drawn_168 7 rfl ?_
                            refine ok_callv F [pI k] dX8_drawn_170 kM_X8_value kI_X8_value kV_X8_value kL_X8_191 (ci := 8) rfl sh_0 rfl (by decide) (Nat.le_of_ble_eq_true rfl) rfl (m_X8_value _ k m5 (by omega)) ?_
                            rintro _ _ ⟨rfl, rfl⟩
                            refine ok_iload F dX8_drawn_173 6 rfl ?_
                            refine ok_icmp_ge F 184 dX8_drawn_175 (by decide) (by omega) (by omega) (fun c_25 => ?_) (fun c_25 => ?_)
                            · have a1 := e5 k.toNat (by omega)
                              have a2 := hVb k.toNat (by omega)
                              have a3 := hV1 k.toNat (by omega)
                              rw [show 3 + k.toNat = (3 + k).toNat by omega] at a1 a2 a3
                              have ek : k.toNat = kdF (fun i => mem 1 (3 + i)) p (mem 1 0 - 1).toNat 0 := by
                                rw [hI_161.2.2]
                                by_cases z : k < mem 1 0 - 1
                                · rw [show (mem 1 0 - 1 - k).toNat = (mem 1 0 - 1 - (k + 1)).toNat + 1 by omega, kdF_s, if_neg (by rw [show 3 + k.toNat = (3 + k).toNat by omega]; omega)]
                                · rw [show (mem 1 0 - 1 - k).toNat = 0 by omega]; rfl
                              have hh : ∀ b, b ≠ 1 → bump (m 1) b = m 1 b := fun b hb => bump_ne _ hb
                              have eK : drwK (bump (m 1)) p = k.toNat := by
                                rw [ek]
                                unfold drwK
                                rw [hh 0 (by decide), el0]
                                exact kdF_congr _ _ (fun j _ hj => by rw [hh _ (by omega)]; exact elo _ (by omega) (by omega))
                              have hGh : GR (bump (m 1)) := by rw [hR]; exact d1
                              obtain ⟨w1, w2, w3, w4, w5⟩ := drw_bd hGh (by rw [hh 0 (by decide)]; omega) (p := p) (by rw [hh 0 (by decide), hh _ (by omega), el0, elo _ (by omega) (by omega)]; exact ⟨hp2, hp3⟩)
                              have eKv : bump (m 1) (3 + drwK (bump (m 1)) p) = mem 1 (3 + k).toNat := by rw [eK, hh _ (by omega), elo _ (by omega) (by omega), show 3 + k.toNat = (3 + k).toNat by omega]
                              rw [eKv] at w2
                              have hcl := ceil_two (p := p) (v := mem 1 (3 + k).toNat) a3 ⟨hp2, by omega⟩
                              have eC : drwC (bump (m 1)) p = if p ≤ mem 1 (3 + k).toNat then 1 else 2 := by
                                have : drwC (bump (m 1)) p = if p ≤ bump (m 1) (3 + drwK (bump (m 1)) p) then 1 else 2 := rfl
                                rw [this, eKv]
                              refine ok_aload_n F dX8_drawn_184 0 rfl ?_
                              refine ok_getr F dX8_drawn_185 kF_X8_9 sh_0 rfl ?_
                              refine ok_iload F dX8_drawn_188 5 rfl ?_
                              refine ok_iconst F dX8_drawn_190 ?_
                              refine ok_iadd F dX8_drawn_191 ?_
                              refine ok_iload F dX8_drawn_192 7 rfl ?_
                              refine ok_iadd F dX8_drawn_194 ?_
                              refine ok_iload F dX8_drawn_195 6 rfl ?_
                              refine ok_aload_n F dX8_drawn_197 0 rfl ?_
                              refine ok_iload F dX8_drawn_198 7 rfl ?_
                              refine ok_callv F [pI k] dX8_drawn_200 kM_X8_value kI_X8_value kV_X8_value kL_X8_191 (ci := 8) rfl sh_0 rfl (by decide) (Nat.le_of_ble_eq_true rfl) rfl (m_X8_value _ k m5 (by omega)) ?_
                              rintro _ _ ⟨rfl, rfl⟩
                              refine ok_iadd F dX8_drawn_203 ?_
                              refine ok_iconst F dX8_drawn_204 ?_
                              refine ok_isub F dX8_drawn_205 ?_
                              refine ok_aload_n F dX8_drawn_206 0 rfl ?_
                              refine ok_iload F dX8_drawn_207 7 rfl ?_
                              refine ok_callv F [pI k] dX8_drawn_209 kM_X8_value kI_X8_value kV_X8_value kL_X8_191 (ci := 8) rfl sh_0 rfl (by decide) (Nat.le_of_ble_eq_true rfl) rfl (m_X8_value _ k m5 (by omega)) ?_
                              rintro _ _ ⟨rfl, rfl⟩
                              refine ok_idiv F dX8_drawn_212 (by omega) (by omega) (by omega) ?_
                              refine ok_iast F dX8_drawn_213 sh_1 (by first | decide | assumption) (by omega) (by omega) (fun m_26 e_27 => ?_)
                              refine ok_aload_n F dX8_drawn_214 0 rfl ?_
                              refine ok_getr F dX8_drawn_215 kF_X8_9 sh_0 rfl ?_
                              refine ok_iconst F dX8_drawn_218 ?_
                              refine ok_dup2 F dX8_drawn_219 rfl rfl ?_
                              refine ok_iald (v := m_26 1 2) F dX8_drawn_220 sh_1 (by first | decide | assumption) (by omega) (by omega) rfl ?_
                              refine ok_iconst F dX8_drawn_221 ?_
                              refine ok_iadd F dX8_drawn_222 ?_
                              refine ok_iast F dX8_drawn_223 sh_1 (by first | decide | assumption) (by omega) (by omega) (fun m_28 e_29 => ?_)
                              refine ok_iinc (lv' := [(4, pI (i + 1)), (0, pR 0), (1, pI x), (2, pI n), (3, pI ((mem 1 0) - 1)), (5, pI q), (6, pI p), (7, pI k)]) F dX8_drawn_224 4 rfl (by decide) rfl ?_
                              refine ok_goto F 70 dX8_drawn_227 (by decide) ?_
                              refine ok_lvp [1, 2, 3, 4, 0] (lv' := [(0, pR 0), (1, pI x), (2, pI n), (3, pI ((mem 1 0) - 1)), (4, pI (i + 1))]) rfl ?_
                              refine ih_70 _ ?_ (i + 1) m_28 ?_ rfl
                              · omega
                              · have hf : ∀ b, m_28 1 b = if b = 2 then m 1 2 + 1 else if b = 61 + 10 * (m 1 2).toNat + k.toNat then drwC (bump (m 1)) p else if 61 + 10 * (m 1 2).toNat ≤ b ∧ b < 69 + 10 * (m 1 2).toNat then 0 else if b = 59 + 10 * (m 1 2).toNat then mem 1 1 else if b = 60 + 10 * (m 1 2).toNat then p else m 1 b := fun b => by
                                  rw [e_29, e_27, show Int.toNat 2 = 2 from rfl]
                                  by_cases z : b = 2
                                  · subst z; rw [mset_eq, if_pos rfl, mset_ne (by omega), h5, if_neg (by omega), hS, if_neg (by omega), if_neg (by omega)]
                                  · rw [mset_ne (fun y => z y.2), if_neg z]
                                    by_cases z2 : b = 61 + 10 * (m 1 2).toNat + k.toNat
                                    · rw [if_pos z2, show (q + 2 + k).toNat = b by omega, mset_eq, a1, hcl, eC]
                                    · rw [if_neg z2, mset_ne (fun y => z2 (by have := y.2; omega)), h5]
                                      by_cases z3 : 61 + 10 * (m 1 2).toNat ≤ b ∧ b < 69 + 10 * (m 1 2).toNat
                                      · rw [if_pos z3, if_pos (by omega)]
                                      · rw [if_neg z3, if_neg (by omega), hS]
                                        by_cases z4 : b = 59 + 10 * (m 1 2).toNat
                                        · rw [if_pos z4, if_pos z4]
                                        · rw [if_neg z4, if_neg z4, ← hp1]
                                have e0f : m_28 0 = mS 0 := by rw [e_29, e_27, mset_nka (by decide), mset_nka (by decide)]; exact hF5 0 (by decide)
                                have eof : ∀ a, a ≠ 0 → a ≠ 1 → m_28 a = m a := fun a c1 c2 => by rw [e_29, e_27, mset_nka c2, mset_nka c2, hF5 a c2]; exact hSo a c1 c2
                                refine ⟨by omega, by omega, fun a c1 c2 => by rw [eof a c1 c2]; exact hF a c1 c2, fun j hj => by rw [e0f, hS0 j hj]; exact hF0 j hj, ?_, ?_, ?_⟩
                                · rw [show (i + 1).toNat = i.toNat + 1 by omega, drwG_s]
                                  show _ = addS _ _
                                  rw [← hX9, ← hp1, ← hR]
                                  funext b
                                  have hh2 : bump (m 1) 2 = m 1 2 := hh 2 (by decide)
                                  have hh1 : bump (m 1) 1 = mem 1 1 + 1 := by rw [show bump (m 1) 1 = m 1 1 + 1 from if_pos rfl, hd]
                                  by_cases y : b = 1
                                  · subst y; rw [addS_at _ _ (by decide) (by omega), hh1, show bump (m_28 1) 1 = m_28 1 1 + 1 from if_pos rfl, hf, if_neg (by decide), if_neg (by omega), if_neg (by omega), if_neg (by omega), if_neg (by omega), hd]
                                  · rw [bump_ne _ y, hf]
                                    unfold addS
                                    rw [hh2, hh1, eK]
                                    by_cases z : b = 2
                                    · rw [if_pos z, if_neg (by omega), if_neg (by omega), if_neg (by omega), if_pos z]
                                    · rw [if_neg z]
                                      by_cases z2 : b = 61 + 10 * (m 1 2).toNat + k.toNat
                                      · rw [if_pos z2, if_neg (by omega), if_neg (by omega), if_pos (by omega), if_pos z2]
                                      · rw [if_neg z2]
                                        by_cases z3 : 61 + 10 * (m 1 2).toNat ≤ b ∧ b < 69 + 10 * (m 1 2).toNat
                                        · rw [if_pos z3, if_neg (by omega), if_neg (by omega), if_pos z3, if_neg z2]
                                        · rw [if_neg z3]
                                          by_cases z4 : b = 59 + 10 * (m 1 2).toNat
                                          · rw [if_pos z4, if_pos z4]; omega
                                          · rw [if_neg z4, if_neg z4]
                                            by_cases z5 : b = 60 + 10 * (m 1 2).toNat
                                            · rw [if_pos z5, if_pos z5]
                                            · rw [if_neg z5, if_neg z5, if_neg z3, if_neg z, hh b y]
                                · rw [hf, if_neg (by decide), if_neg (by omega), if_neg (by omega), if_neg (by omega), if_neg (by omega)]; exact hd
                                · rw [e0f, hSx, show (i + 1).toNat = i.toNat + 1 by omega, drwG_s, ← hX9]
                            · refine ok_iinc (lv' := [(7, pI (k + 1)), (0, pR 0), (1, pI x), (2, pI n), (3, pI ((mem 1 0) - 1)), (4, pI i), (5, pI q), (6, pI p)]) F dX8_drawn_178 7 rfl (by decide) rfl ?_
                              refine ok_goto F 161 dX8_drawn_181 (by decide) ?_
                              have ht8 : t = 8 := by omega
                              have e5 : ∀ k : Nat, k < 8 → m5 1 (3 + k) = mem 1 (3 + k) := fun k hk => by rw [h5, if_neg (by omega), hS, if_neg (by omega), if_neg (by omega)]; exact elo _ (by omega) (by omega)
                              refine ok_lvp [1, 2, 3, 4, 5, 6, 7, 0] (lv' := [(0, pR 0), (1, pI x), (2, pI n), (3, pI ((mem 1 0) - 1)), (4, pI i), (5, pI q), (6, pI p), (7, pI (k + 1))]) rfl ?_
                              refine ih_161 _ ?_ (k + 1) ?_ rfl
                              · omega
                              · refine ⟨by omega, by omega, ?_⟩
                                rw [hI_161.2.2, show (mem 1 0 - 1 - k).toNat = (mem 1 0 - 1 - (k + 1)).toNat + 1 by omega, kdF_s, if_pos (by rw [show 3 + k.toNat = (3 + k).toNat by omega]; omega), show (k + 1).toNat = k.toNat + 1 by omega]
                      refine ok_lvp [1, 2, 3, 4, 5, 6, 7, 0] (lv' := [(0, pR 0), (1, pI x), (2, pI n), (3, pI ((mem 1 0) - 1)), (4, pI i), (5, pI q), (6, pI p), (7, pI 0)]) rfl ?_
                      refine hL_161 _ 0 ?_ rfl
                      exact ⟨by omega, by omega, by rw [Int.sub_zero]; rfl⟩
                    · refine ok_aload_n F dX8_drawn_139 0 rfl ?_
                      refine ok_getr F dX8_drawn_140 kF_X8_9 sh_0 rfl ?_
                      refine ok_iload F dX8_drawn_143 5 rfl ?_
                      refine ok_iconst F dX8_drawn_145 ?_
                      refine ok_iadd F dX8_drawn_146 ?_
                      refine ok_iload F dX8_drawn_147 7 rfl ?_
                      refine ok_iadd F dX8_drawn_149 ?_
                      refine ok_iconst F dX8_drawn_150 ?_
                      refine ok_iast F dX8_drawn_151 sh_1 (by first | decide | assumption) (by omega) (by omega) (fun m_30 e_31 => ?_)
                      refine ok_iinc (lv' := [(7, pI (t + 1)), (0, pR 0), (1, pI x), (2, pI n), (3, pI ((mem 1 0) - 1)), (4, pI i), (5, pI q), (6, pI p)]) F dX8_drawn_152 7 rfl (by decide) rfl ?_
                      refine ok_goto F 132 dX8_drawn_155 (by decide) ?_
                      refine ok_lvp [1, 2, 3, 4, 5, 6, 7, 0] (lv' := [(0, pR 0), (1, pI x), (2, pI n), (3, pI ((mem 1 0) - 1)), (4, pI i), (5, pI q), (6, pI p), (7, pI (t + 1))]) rfl ?_
                      refine ih_132 _ ?_ q p (t + 1) m_30 ?_ rfl
                      · omega
                      · refine ⟨⟨hq, hp1, hp2, hp3⟩, by omega, by omega, fun a c1 => by rw [e_31, mset_nka c1]; exact hF5 a c1, fun b => ?_⟩
                        rw [e_31]
                        by_cases z : b = (q + 2 + t).toNat
                        · rw [z, mset_eq, if_pos (by omega)]
                        · rw [mset_ne (fun y => z y.2), h5]; by_cases g : 61 + 10 * (m 1 2).toNat ≤ b ∧ (b : Int) < 61 + 10 * m 1 2 + t
                          · rw [if_pos g, if_pos (by omega)]
                          · rw [if_neg g, if_neg (by omega)]
                refine ok_lvp [3, 4, 5, 6, 7, 2, 1, 0] (lv' := [(0, pR 0), (1, pI x), (2, pI n), (3, pI ((mem 1 0) - 1)), (4, pI i), (5, pI (59 + (10 * (m 1 2)))), (6, pI (((iushr (m 0 27 * 1103515245 + 12345) 16).tmod (2 * (m 1 (3 + ((mem 1 0) - 1)).toNat))) + 1)), (7, pI 0)]) rfl ?_
                refine hL_132 _ (59 + (10 * (m 1 2))) (((iushr (m 0 27 * 1103515245 + 12345) 16).tmod (2 * (m 1 (3 + ((mem 1 0) - 1)).toNat))) + 1) 0 m_17 ?_ rfl
                rw [← hmS]
                exact ⟨⟨rfl, by rw [eV], by omega, by omega⟩, by omega, by omega, fun _ _ => rfl, fun b => by rw [if_neg (by omega)]⟩
          refine ok_lvp [2, 3, 4, 1, 0] (lv' := [(0, pR 0), (1, pI x), (2, pI n), (3, pI ((mem 1 0) - 1)), (4, pI 0)]) rfl ?_
          refine hL_70 _ 0 m_8 ?_ rfl
          rw [e_9, ← hm9]
          refine ⟨by omega, by omega, fun a a1 a2 => mset_nka a1, fun j hj => mset_ne (fun q => hj q.2), ?_, ?_, mset_eq _ _ _ _⟩
          · rw [mset_nka (by decide), h91]; rfl
          · rw [mset_nka (by decide), h91]
        · refine ok_bipush F dX8_drawn_46 rfl ?_
          refine ok_iret F G dX8_drawn_48 ?_
          exact ⟨_, rfl, Or.inr (Or.inl ⟨by omega, by omega, rfl, rfl⟩)⟩
    · refine ok_iconst F dX8_drawn_21 ?_
      refine ok_iret F G dX8_drawn_22 ?_
      exact ⟨_, rfl, Or.inl ⟨by omega, rfl, rfl⟩⟩
