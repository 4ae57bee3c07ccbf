/-! the reference: a sale read, by its code -/
theorem qC_heard {m : Mem} {n : Int} (h : RdOk m) (c t : Int) (ht : 59 ≤ t ∧ t ≤ 449) (hn : m 2 0 = n) (hn8 : 0 ≤ n ∧ n ≤ 8) : (∀ k : Nat, k < 61 → qC m c t 2 k = m 2 k) ∧ (qC m c t 2 (t + 1).toNat = m 2 (t + 1).toNat) ∧ ∀ (B : Int), (∀ k : Nat, 0 ≤ m 2 k ∧ m 2 k ≤ B) → ∀ k : Nat, 0 ≤ qC m c t 2 k ∧ qC m c t 2 k ≤ B + 1 := by
  obtain ⟨hB, haB, hkB⟩ := qB_ok h c
  have h2 := haB 2 (by decide)
  have hk0 : qB m c 0 9 = -1 → 0 ≤ qK m := fun e => by
    have := kindAt_bd (fun k => numM m 1 500 2 (3 + k)) (qV m) (numM m 1 500 2 0).toNat 0
    have q := (hkB e).1
    unfold qK at q ⊢
    omega
  unfold qC
  by_cases g : qB m c 0 9 = -1
  · rw [if_pos g]
    have hk := hk0 g
    refine ⟨fun k hk1 => by rw [mset_ne (by omega), h2], by rw [mset_ne (by omega), h2], fun B hB k => ?_⟩
    by_cases e : k = (t + 2 + qK m).toNat
    · rw [e, mset_eq, h2]
      have := hB (t + 2 + qK m).toNat
      omega
    · rw [mset_ne (fun q => e q.2), h2]
      have := hB k
      omega
  · rw [if_neg g]
    refine ⟨fun k _ => by rw [h2], by rw [h2], fun B hB k => ?_⟩
    rw [h2]
    have := hB k
    omega
theorem sE_heard {m : Mem} (h : RdOk m) (hd : 1 ≤ m 2 1 ∧ m 2 1 ≤ 5) (hs : 0 ≤ m 2 2 ∧ m 2 2 ≤ 39) : (∀ k : Nat, k < 59 → sE m 2 k = m 2 k) ∧ ∀ B : Int, 100000 ≤ B → (∀ k : Nat, 0 ≤ m 2 k ∧ m 2 k ≤ B) → ∀ k : Nat, 0 ≤ sE m 2 k ∧ sE m 2 k ≤ B := by
  obtain ⟨h0, _, _, h2⟩ := sC_ok h
  have e := (sE_ok h).2 2 (by decide)
  have ht : sTo m = 59 + 10 * m 2 2 := rfl
  have hn := (numR_bd h0 1 1000).1
  refine ⟨fun k hk => ?_, fun B hB hA k => ?_⟩
  · rw [e, h2, mset_ne (by omega)]
    unfold sC0
    rw [mset_ne (by omega)]
  · rw [e, h2]
    by_cases y : k = (sTo m + 1).toNat
    · rw [y, mset_eq]; omega
    · rw [mset_ne (fun q => y q.2)]
      unfold sC0
      by_cases z : k = (sTo m).toNat
      · rw [z, mset_eq]; omega
      · rw [mset_ne (fun q => z q.2)]; exact hA k
theorem dX8_readsSale_0 : decode cX8_readsSale 0 = .ok (.aload_n 0, 1) := by decide +kernel
theorem dX8_readsSale_1 : decode cX8_readsSale 1 = .ok (.getfield 13, 3) := by decide +kernel
theorem dX8_readsSale_4 : decode cX8_readsSale 4 = .ok (.iconst 1, 1) := by decide +kernel
theorem dX8_readsSale_5 : decode cX8_readsSale 5 = .ok (.iaload, 1) := by decide +kernel
theorem dX8_readsSale_6 : decode cX8_readsSale 6 = .ok (.ifCond .ne 9, 3) := by decide +kernel
theorem dX8_readsSale_9 : decode cX8_readsSale 9 = .ok (.aload_n 0, 1) := by decide +kernel
theorem dX8_readsSale_10 : decode cX8_readsSale 10 = .ok (.iconst 1, 1) := by decide +kernel
theorem dX8_readsSale_11 : decode cX8_readsSale 11 = .ok (.iload_n 1, 1) := by decide +kernel
theorem dX8_readsSale_12 : decode cX8_readsSale 12 = .ok (.invokevirtual 120, 3) := by decide +kernel
theorem dX8_readsSale_15 : decode cX8_readsSale 15 = .ok (.aload_n 0, 1) := by decide +kernel
theorem dX8_readsSale_16 : decode cX8_readsSale 16 = .ok (.getfield 13, 3) := by decide +kernel
theorem dX8_readsSale_19 : decode cX8_readsSale 19 = .ok (.iconst 2, 1) := by decide +kernel
theorem dX8_readsSale_20 : decode cX8_readsSale 20 = .ok (.iaload, 1) := by decide +kernel
theorem dX8_readsSale_21 : decode cX8_readsSale 21 = .ok (.bipush 40, 2) := by decide +kernel
theorem dX8_readsSale_23 : decode cX8_readsSale 23 = .ok (.if_icmp .ne 9, 3) := by decide +kernel
theorem dX8_readsSale_26 : decode cX8_readsSale 26 = .ok (.aload_n 0, 1) := by decide +kernel
theorem dX8_readsSale_27 : decode cX8_readsSale 27 = .ok (.iconst 3, 1) := by decide +kernel
theorem dX8_readsSale_28 : decode cX8_readsSale 28 = .ok (.iload_n 1, 1) := by decide +kernel
theorem dX8_readsSale_29 : decode cX8_readsSale 29 = .ok (.invokevirtual 120, 3) := by decide +kernel
theorem dX8_readsSale_32 : decode cX8_readsSale 32 = .ok (.aload_n 0, 1) := by decide +kernel
theorem dX8_readsSale_33 : decode cX8_readsSale 33 = .ok (.invokevirtual 89, 3) := by decide +kernel
theorem dX8_readsSale_36 : decode cX8_readsSale 36 = .ok (.ifCond .ne 4, 3) := by decide +kernel
theorem dX8_readsSale_39 : decode cX8_readsSale 39 = .ok (.return_, 1) := by decide +kernel
theorem dX8_readsSale_40 : decode cX8_readsSale 40 = .ok (.bipush 59, 2) := by decide +kernel
theorem dX8_readsSale_42 : decode cX8_readsSale 42 = .ok (.bipush 10, 2) := by decide +kernel
theorem dX8_readsSale_44 : decode cX8_readsSale 44 = .ok (.aload_n 0, 1) := by decide +kernel
theorem dX8_readsSale_45 : decode cX8_readsSale 45 = .ok (.getfield 13, 3) := by decide +kernel
theorem dX8_readsSale_48 : decode cX8_readsSale 48 = .ok (.iconst 2, 1) := by decide +kernel
theorem dX8_readsSale_49 : decode cX8_readsSale 49 = .ok (.iaload, 1) := by decide +kernel
theorem dX8_readsSale_50 : decode cX8_readsSale 50 = .ok (.imul, 1) := by decide +kernel
theorem dX8_readsSale_51 : decode cX8_readsSale 51 = .ok (.iadd, 1) := by decide +kernel
theorem dX8_readsSale_52 : decode cX8_readsSale 52 = .ok (.istore_n 2, 1) := by decide +kernel
theorem dX8_readsSale_53 : decode cX8_readsSale 53 = .ok (.aload_n 0, 1) := by decide +kernel
theorem dX8_readsSale_54 : decode cX8_readsSale 54 = .ok (.getfield 13, 3) := by decide +kernel
theorem dX8_readsSale_57 : decode cX8_readsSale 57 = .ok (.iload_n 2, 1) := by decide +kernel
theorem dX8_readsSale_58 : decode cX8_readsSale 58 = .ok (.aload_n 0, 1) := by decide +kernel
theorem dX8_readsSale_59 : decode cX8_readsSale 59 = .ok (.getfield 13, 3) := by decide +kernel
theorem dX8_readsSale_62 : decode cX8_readsSale 62 = .ok (.iconst 1, 1) := by decide +kernel
theorem dX8_readsSale_63 : decode cX8_readsSale 63 = .ok (.iaload, 1) := by decide +kernel
theorem dX8_readsSale_64 : decode cX8_readsSale 64 = .ok (.iconst 1, 1) := by decide +kernel
theorem dX8_readsSale_65 : decode cX8_readsSale 65 = .ok (.isub, 1) := by decide +kernel
theorem dX8_readsSale_66 : decode cX8_readsSale 66 = .ok (.iastore, 1) := by decide +kernel
theorem dX8_readsSale_67 : decode cX8_readsSale 67 = .ok (.aload_n 0, 1) := by decide +kernel
theorem dX8_readsSale_68 : decode cX8_readsSale 68 = .ok (.getfield 13, 3) := by decide +kernel
theorem dX8_readsSale_71 : decode cX8_readsSale 71 = .ok (.iload_n 2, 1) := by decide +kernel
theorem dX8_readsSale_72 : decode cX8_readsSale 72 = .ok (.iconst 1, 1) := by decide +kernel
theorem dX8_readsSale_73 : decode cX8_readsSale 73 = .ok (.iadd, 1) := by decide +kernel
theorem dX8_readsSale_74 : decode cX8_readsSale 74 = .ok (.aload_n 0, 1) := by decide +kernel
theorem dX8_readsSale_75 : decode cX8_readsSale 75 = .ok (.iconst 1, 1) := by decide +kernel
theorem dX8_readsSale_76 : decode cX8_readsSale 76 = .ok (.sipush 1000, 3) := by decide +kernel
theorem dX8_readsSale_79 : decode cX8_readsSale 79 = .ok (.invokevirtual 134, 3) := by decide +kernel
theorem dX8_readsSale_82 : decode cX8_readsSale 82 = .ok (.iastore, 1) := by decide +kernel
theorem dX8_readsSale_83 : decode cX8_readsSale 83 = .ok (.aload_n 0, 1) := by decide +kernel
theorem dX8_readsSale_84 : decode cX8_readsSale 84 = .ok (.invokevirtual 89, 3) := by decide +kernel
theorem dX8_readsSale_87 : decode cX8_readsSale 87 = .ok (.ifCond .eq 21, 3) := by decide +kernel
theorem dX8_readsSale_90 : decode cX8_readsSale 90 = .ok (.aload_n 0, 1) := by decide +kernel
theorem dX8_readsSale_91 : decode cX8_readsSale 91 = .ok (.invokevirtual 93, 3) := by decide +kernel
theorem dX8_readsSale_94 : decode cX8_readsSale 94 = .ok (.bipush 58, 2) := by decide +kernel
theorem dX8_readsSale_96 : decode cX8_readsSale 96 = .ok (.if_icmp .eq 12, 3) := by decide +kernel
theorem dX8_readsSale_99 : decode cX8_readsSale 99 = .ok (.aload_n 0, 1) := by decide +kernel
theorem dX8_readsSale_100 : decode cX8_readsSale 100 = .ok (.iconst 1, 1) := by decide +kernel
theorem dX8_readsSale_101 : decode cX8_readsSale 101 = .ok (.aload_n 0, 1) := by decide +kernel
theorem dX8_readsSale_102 : decode cX8_readsSale 102 = .ok (.getfield 79, 3) := by decide +kernel
theorem dX8_readsSale_105 : decode cX8_readsSale 105 = .ok (.invokevirtual 120, 3) := by decide +kernel
theorem dX8_readsSale_108 : decode cX8_readsSale 108 = .ok (.aload_n 0, 1) := by decide +kernel
theorem dX8_readsSale_109 : decode cX8_readsSale 109 = .ok (.dup, 1) := by decide +kernel
theorem dX8_readsSale_110 : decode cX8_readsSale 110 = .ok (.getfield 79, 3) := by decide +kernel
theorem dX8_readsSale_113 : decode cX8_readsSale 113 = .ok (.aload_n 0, 1) := by decide +kernel
theorem dX8_readsSale_114 : decode cX8_readsSale 114 = .ok (.invokevirtual 89, 3) := by decide +kernel
theorem dX8_readsSale_117 : decode cX8_readsSale 117 = .ok (.invokestatic 137, 3) := by decide +kernel
theorem dX8_readsSale_120 : decode cX8_readsSale 120 = .ok (.iadd, 1) := by decide +kernel
theorem dX8_readsSale_121 : decode cX8_readsSale 121 = .ok (.putfield 79, 3) := by decide +kernel
theorem dX8_readsSale_124 : decode cX8_readsSale 124 = .ok (.iconst 0, 1) := by decide +kernel
theorem dX8_readsSale_125 : decode cX8_readsSale 125 = .ok (.istore_n 3, 1) := by decide +kernel
theorem dX8_readsSale_126 : decode cX8_readsSale 126 = .ok (.iconst 0, 1) := by decide +kernel
theorem dX8_readsSale_127 : decode cX8_readsSale 127 = .ok (.istore 4, 2) := by decide +kernel
theorem dX8_readsSale_129 : decode cX8_readsSale 129 = .ok (.iconst 1, 1) := by decide +kernel
theorem dX8_readsSale_130 : decode cX8_readsSale 130 = .ok (.istore 5, 2) := by decide +kernel
theorem dX8_readsSale_132 : decode cX8_readsSale 132 = .ok (.iload 5, 2) := by decide +kernel
theorem dX8_readsSale_134 : decode cX8_readsSale 134 = .ok (.ifCond .eq 120, 3) := by decide +kernel
theorem dX8_readsSale_137 : decode cX8_readsSale 137 = .ok (.aload_n 0, 1) := by decide +kernel
theorem dX8_readsSale_138 : decode cX8_readsSale 138 = .ok (.iconst 1, 1) := by decide +kernel
theorem dX8_readsSale_139 : decode cX8_readsSale 139 = .ok (.sipush 500, 3) := by decide +kernel
theorem dX8_readsSale_142 : decode cX8_readsSale 142 = .ok (.invokevirtual 134, 3) := by decide +kernel
theorem dX8_readsSale_145 : decode cX8_readsSale 145 = .ok (.istore 6, 2) := by decide +kernel
theorem dX8_readsSale_147 : decode cX8_readsSale 147 = .ok (.aload_n 0, 1) := by decide +kernel
theorem dX8_readsSale_148 : decode cX8_readsSale 148 = .ok (.iload 6, 2) := by decide +kernel
theorem dX8_readsSale_150 : decode cX8_readsSale 150 = .ok (.invokevirtual 141, 3) := by decide +kernel
theorem dX8_readsSale_153 : decode cX8_readsSale 153 = .ok (.istore 7, 2) := by decide +kernel
theorem dX8_readsSale_155 : decode cX8_readsSale 155 = .ok (.aload_n 0, 1) := by decide +kernel
theorem dX8_readsSale_156 : decode cX8_readsSale 156 = .ok (.invokevirtual 89, 3) := by decide +kernel
theorem dX8_readsSale_159 : decode cX8_readsSale 159 = .ok (.ifCond .eq 18, 3) := by decide +kernel
theorem dX8_readsSale_162 : decode cX8_readsSale 162 = .ok (.iload 7, 2) := by decide +kernel
theorem dX8_readsSale_164 : decode cX8_readsSale 164 = .ok (.iconst (-1), 1) := by decide +kernel
theorem dX8_readsSale_165 : decode cX8_readsSale 165 = .ok (.if_icmp .ne 12, 3) := by decide +kernel
theorem dX8_readsSale_168 : decode cX8_readsSale 168 = .ok (.aload_n 0, 1) := by decide +kernel
theorem dX8_readsSale_169 : decode cX8_readsSale 169 = .ok (.iconst 2, 1) := by decide +kernel
theorem dX8_readsSale_170 : decode cX8_readsSale 170 = .ok (.aload_n 0, 1) := by decide +kernel
theorem dX8_readsSale_171 : decode cX8_readsSale 171 = .ok (.getfield 124, 3) := by decide +kernel
theorem dX8_readsSale_174 : decode cX8_readsSale 174 = .ok (.invokevirtual 120, 3) := by decide +kernel
theorem dX8_readsSale_177 : decode cX8_readsSale 177 = .ok (.aload_n 0, 1) := by decide +kernel
theorem dX8_readsSale_178 : decode cX8_readsSale 178 = .ok (.invokevirtual 89, 3) := by decide +kernel
theorem dX8_readsSale_181 : decode cX8_readsSale 181 = .ok (.ifCond .eq 17, 3) := by decide +kernel
theorem dX8_readsSale_184 : decode cX8_readsSale 184 = .ok (.iload_n 3, 1) := by decide +kernel
theorem dX8_readsSale_185 : decode cX8_readsSale 185 = .ok (.iconst 5, 1) := by decide +kernel
theorem dX8_readsSale_186 : decode cX8_readsSale 186 = .ok (.if_icmp .ne 12, 3) := by decide +kernel
theorem dX8_readsSale_189 : decode cX8_readsSale 189 = .ok (.aload_n 0, 1) := by decide +kernel
theorem dX8_readsSale_190 : decode cX8_readsSale 190 = .ok (.iconst 3, 1) := by decide +kernel
theorem dX8_readsSale_191 : decode cX8_readsSale 191 = .ok (.aload_n 0, 1) := by decide +kernel
theorem dX8_readsSale_192 : decode cX8_readsSale 192 = .ok (.getfield 124, 3) := by decide +kernel
theorem dX8_readsSale_195 : decode cX8_readsSale 195 = .ok (.invokevirtual 120, 3) := by decide +kernel
theorem dX8_readsSale_198 : decode cX8_readsSale 198 = .ok (.aload_n 0, 1) := by decide +kernel
theorem dX8_readsSale_199 : decode cX8_readsSale 199 = .ok (.invokevirtual 89, 3) := by decide +kernel
theorem dX8_readsSale_202 : decode cX8_readsSale 202 = .ok (.ifCond .eq 18, 3) := by decide +kernel
theorem dX8_readsSale_205 : decode cX8_readsSale 205 = .ok (.aload_n 0, 1) := by decide +kernel
theorem dX8_readsSale_206 : decode cX8_readsSale 206 = .ok (.getfield 13, 3) := by decide +kernel
theorem dX8_readsSale_209 : decode cX8_readsSale 209 = .ok (.iload_n 2, 1) := by decide +kernel
theorem dX8_readsSale_210 : decode cX8_readsSale 210 = .ok (.iconst 2, 1) := by decide +kernel
theorem dX8_readsSale_211 : decode cX8_readsSale 211 = .ok (.iadd, 1) := by decide +kernel
theorem dX8_readsSale_212 : decode cX8_readsSale 212 = .ok (.iload 7, 2) := by decide +kernel
theorem dX8_readsSale_214 : decode cX8_readsSale 214 = .ok (.iadd, 1) := by decide +kernel
theorem dX8_readsSale_215 : decode cX8_readsSale 215 = .ok (.dup2, 1) := by decide +kernel
theorem dX8_readsSale_216 : decode cX8_readsSale 216 = .ok (.iaload, 1) := by decide +kernel
theorem dX8_readsSale_217 : decode cX8_readsSale 217 = .ok (.iconst 1, 1) := by decide +kernel
theorem dX8_readsSale_218 : decode cX8_readsSale 218 = .ok (.iadd, 1) := by decide +kernel
theorem dX8_readsSale_219 : decode cX8_readsSale 219 = .ok (.iastore, 1) := by decide +kernel
theorem dX8_readsSale_220 : decode cX8_readsSale 220 = .ok (.iinc 3 1, 3) := by decide +kernel
theorem dX8_readsSale_223 : decode cX8_readsSale 223 = .ok (.iload 4, 2) := by decide +kernel
theorem dX8_readsSale_225 : decode cX8_readsSale 225 = .ok (.iload 6, 2) := by decide +kernel
theorem dX8_readsSale_227 : decode cX8_readsSale 227 = .ok (.iadd, 1) := by decide +kernel
theorem dX8_readsSale_228 : decode cX8_readsSale 228 = .ok (.istore 4, 2) := by decide +kernel
theorem dX8_readsSale_230 : decode cX8_readsSale 230 = .ok (.aload_n 0, 1) := by decide +kernel
theorem dX8_readsSale_231 : decode cX8_readsSale 231 = .ok (.invokevirtual 89, 3) := by decide +kernel
theorem dX8_readsSale_234 : decode cX8_readsSale 234 = .ok (.ifCond .eq 14, 3) := by decide +kernel
theorem dX8_readsSale_237 : decode cX8_readsSale 237 = .ok (.aload_n 0, 1) := by decide +kernel
theorem dX8_readsSale_238 : decode cX8_readsSale 238 = .ok (.invokevirtual 117, 3) := by decide +kernel
theorem dX8_readsSale_241 : decode cX8_readsSale 241 = .ok (.ifCond .eq 7, 3) := by decide +kernel
theorem dX8_readsSale_244 : decode cX8_readsSale 244 = .ok (.iconst 1, 1) := by decide +kernel
theorem dX8_readsSale_245 : decode cX8_readsSale 245 = .ok (.goto 4, 3) := by decide +kernel
theorem dX8_readsSale_248 : decode cX8_readsSale 248 = .ok (.iconst 0, 1) := by decide +kernel
theorem dX8_readsSale_249 : decode cX8_readsSale 249 = .ok (.istore 5, 2) := by decide +kernel
theorem dX8_readsSale_251 : decode cX8_readsSale 251 = .ok (.goto (-119), 3) := by decide +kernel
theorem dX8_readsSale_254 : decode cX8_readsSale 254 = .ok (.aload_n 0, 1) := by decide +kernel
theorem dX8_readsSale_255 : decode cX8_readsSale 255 = .ok (.invokevirtual 89, 3) := by decide +kernel
theorem dX8_readsSale_258 : decode cX8_readsSale 258 = .ok (.ifCond .eq 25, 3) := by decide +kernel
theorem dX8_readsSale_261 : decode cX8_readsSale 261 = .ok (.iload 4, 2) := by decide +kernel
theorem dX8_readsSale_263 : decode cX8_readsSale 263 = .ok (.aload_n 0, 1) := by decide +kernel
theorem dX8_readsSale_264 : decode cX8_readsSale 264 = .ok (.getfield 13, 3) := by decide +kernel
theorem dX8_readsSale_267 : decode cX8_readsSale 267 = .ok (.iload_n 2, 1) := by decide +kernel
theorem dX8_readsSale_268 : decode cX8_readsSale 268 = .ok (.iconst 1, 1) := by decide +kernel
theorem dX8_readsSale_269 : decode cX8_readsSale 269 = .ok (.iadd, 1) := by decide +kernel
theorem dX8_readsSale_270 : decode cX8_readsSale 270 = .ok (.iaload, 1) := by decide +kernel
theorem dX8_readsSale_271 : decode cX8_readsSale 271 = .ok (.if_icmp .ge 12, 3) := by decide +kernel
theorem dX8_readsSale_274 : decode cX8_readsSale 274 = .ok (.aload_n 0, 1) := by decide +kernel
theorem dX8_readsSale_275 : decode cX8_readsSale 275 = .ok (.iconst 4, 1) := by decide +kernel
theorem dX8_readsSale_276 : decode cX8_readsSale 276 = .ok (.aload_n 0, 1) := by decide +kernel
theorem dX8_readsSale_277 : decode cX8_readsSale 277 = .ok (.getfield 124, 3) := by decide +kernel
theorem dX8_readsSale_280 : decode cX8_readsSale 280 = .ok (.invokevirtual 120, 3) := by decide +kernel
theorem dX8_readsSale_283 : decode cX8_readsSale 283 = .ok (.aload_n 0, 1) := by decide +kernel
theorem dX8_readsSale_284 : decode cX8_readsSale 284 = .ok (.getfield 13, 3) := by decide +kernel
theorem dX8_readsSale_287 : decode cX8_readsSale 287 = .ok (.iconst 2, 1) := by decide +kernel
theorem dX8_readsSale_288 : decode cX8_readsSale 288 = .ok (.dup2, 1) := by decide +kernel
theorem dX8_readsSale_289 : decode cX8_readsSale 289 = .ok (.iaload, 1) := by decide +kernel
theorem dX8_readsSale_290 : decode cX8_readsSale 290 = .ok (.iconst 1, 1) := by decide +kernel
theorem dX8_readsSale_291 : decode cX8_readsSale 291 = .ok (.iadd, 1) := by decide +kernel
theorem dX8_readsSale_292 : decode cX8_readsSale 292 = .ok (.iastore, 1) := by decide +kernel
theorem dX8_readsSale_293 : decode cX8_readsSale 293 = .ok (.return_, 1) := by decide +kernel
set_option maxHeartbeats 4000000 in
set_option maxRecDepth 100000 in
theorem m_X8_readsSale (l : Launch) (p : Int) (mem : Mem) (hRd : RdOk mem) (hp : 0 ≤ p ∧ p ≤ 400) (hN : 0 ≤ mem 2 0 ∧ mem 2 0 ≤ 8) (hD : 0 ≤ mem 2 1 ∧ mem 2 1 ≤ 5) (hS : 0 ≤ mem 2 2 ∧ mem 2 2 ≤ 40) (hH : ∀ k : Nat, 0 ≤ mem 2 k ∧ mem 2 k ≤ 100000 + 6 * mem 2 2) : Ret shp l yX8_readsSale cX8_readsSale 8 none 5 [pR 0, pI p] mem (fun rv mv => rv = none ∧ mv = saleM mem p ∧ RdOk mv ∧ mv 2 0 = mem 2 0 ∧ mv 2 1 = mem 2 1 ∧ (0 ≤ mv 2 2 ∧ mv 2 2 ≤ 40) ∧ (∀ k : Nat, 0 ≤ mv 2 k ∧ mv 2 k ≤ 100000 + 6 * mv 2 2) ∧ ∀ a, a ≠ 0 → a ≠ 2 → mv a = mem a) := by
  refine ret_of (by decide +kernel) (Nat.le_of_ble_eq_true rfl) (fun X hX F G => ?_)
  show Ok shp X 8 0 [(0, pR 0), (1, pI p)] [] mem
  have hJ_15 : ∀  (ma : Mem), (ma = sA mem p) → Ok shp X 8 15 [(0, pR 0), (1, pI p)] [] ma := by
    intro ma hI_15
    obtain ⟨hoA, hoB, hcA, hcB, hrB⟩ := sB_ok hRd hp
    rw [← hI_15] at hoA hcA
    have hA2 := hcA 2 (by decide)
    have qA2 := congrFun hA2 2
    have hsB : sB mem p = if mem 2 2 = 40 then flM (sA mem p) 3 p else sA mem p := rfl
    rw [← hI_15] at hsB
    have hA9 := hoA.2.2.1
    refine ok_aload_n F dX8_readsSale_15 0 rfl ?_
    have hJ_32 : ∀  (mb : Mem), (mb = sB mem p) → Ok shp X 8 32 [(0, pR 0), (1, pI p)] [] mb := by
      intro mb hI_32
      rw [← hI_32] at hoB hcB hrB
      have hB2 := hcB 2 (by decide)
      have b0 := congrFun hB2 0
      have b1 := congrFun hB2 1
      have b2 := congrFun hB2 2
      have hB9 := hoB.2.2.1
      have hTo : sTo mb = 59 + 10 * mb 2 2 := rfl
      have hsM : saleM mem p = if mb 0 9 = -1 then mset (sG mb) 2 2 (sG mb 2 2 + 1) else mb := by unfold saleM; rw [← hI_32]
      refine ok_aload_n F dX8_readsSale_32 0 rfl ?_
      refine ok_callv F [] dX8_readsSale_33 kM_X8_isRight kI_X8_isRight kV_X8_isRight kL_X8_89 (ci := 8) rfl sh_0 rfl (by decide) (Nat.le_of_ble_eq_true rfl) rfl (m_X8_isRight _ mb (by have := hoB.2.2.1; omega)) ?_
      rintro _ _ ⟨rfl, rfl⟩
      refine ok_if_ne F 40 dX8_readsSale_36 (by decide) (by omega) (fun c_1 => ?_) (fun c_1 => ?_)
      · obtain ⟨hr1, hr2, hr3⟩ := hrB (by omega)
        refine ok_bipush F dX8_readsSale_40 rfl ?_
        refine ok_bipush F dX8_readsSale_42 rfl ?_
        refine ok_aload_n F dX8_readsSale_44 0 rfl ?_
        refine ok_getr F dX8_readsSale_45 kF_X8_13 sh_0 rfl ?_
        refine ok_iconst F dX8_readsSale_48 ?_
        refine ok_iald (v := mb 2 2) F dX8_readsSale_49 sh_2 (by first | decide | assumption) (by omega) (by omega) rfl ?_
        refine ok_imul F dX8_readsSale_50 ?_
        refine ok_iadd F dX8_readsSale_51 ?_
        refine ok_istore_n (lv' := [(2, pI (59 + (10 * (mb 2 2)))), (0, pR 0), (1, pI p)]) F dX8_readsSale_52 (by decide) rfl ?_
        refine ok_aload_n F dX8_readsSale_53 1 rfl ?_
        refine ok_getr F dX8_readsSale_54 kF_X8_13 sh_0 rfl ?_
        refine ok_iload_n F dX8_readsSale_57 0 rfl ?_
        refine ok_aload_n F dX8_readsSale_58 1 rfl ?_
        refine ok_getr F dX8_readsSale_59 kF_X8_13 sh_0 rfl ?_
        refine ok_iconst F dX8_readsSale_62 ?_
        refine ok_iald (v := mb 2 1) F dX8_readsSale_63 sh_2 (by first | decide | assumption) (by omega) (by omega) rfl ?_
        refine ok_iconst F dX8_readsSale_64 ?_
        refine ok_isub F dX8_readsSale_65 ?_
        refine ok_iast F dX8_readsSale_66 sh_2 (by first | decide | assumption) (by omega) (by omega) (fun m_2 e_3 => ?_)
        refine ok_aload_n F dX8_readsSale_67 1 rfl ?_
        refine ok_getr F dX8_readsSale_68 kF_X8_13 sh_0 rfl ?_
        refine ok_iload_n F dX8_readsSale_71 0 rfl ?_
        refine ok_iconst F dX8_readsSale_72 ?_
        refine ok_iadd F dX8_readsSale_73 ?_
        have q0 : m_2 = sC0 mb := e_3
        obtain ⟨hR0, hoC, hcCs, hC2⟩ := sC_ok hoB
        rw [← q0] at hR0
        refine ok_aload_n F dX8_readsSale_74 1 rfl ?_
        refine ok_iconst F dX8_readsSale_75 ?_
        refine ok_sipush F dX8_readsSale_76 rfl ?_
        refine ok_callv F [pI 1, pI 1000] dX8_readsSale_79 kM_X8_number kI_X8_number kV_X8_number kL_X8_134 (ci := 8) rfl sh_0 rfl (by decide) (Nat.le_of_ble_eq_true rfl) rfl (m_X8_number _ 1 1000 m_2 (by omega) (by omega) (hR0.1) (hR0.2.1) (by have := hR0.2.2.1; omega)) ?_
        rintro _ m_5 ⟨z_4, rfl, r_6⟩
        obtain ⟨r1, r2, r3⟩ := id r_6
        obtain ⟨z1, z2⟩ := numM_of r1 r2 r3
        refine ok_iast F dX8_readsSale_82 sh_2 (by first | decide | assumption) (by omega) (by omega) (fun m_7 e_8 => ?_)
        have qc : m_7 = sC mb := by rw [e_8, z2, z1, q0]; rfl
        rw [← qc] at hoC
        have hC9 := hoC.2.2.1
        have hsD : sD mb = if m_7 0 9 = -1 then (if sgn m_7 (skipF m_7 401 (m_7 0 8)) = 58 then mset m_7 0 8 (skipF m_7 401 (m_7 0 8)) else flM (mset m_7 0 8 (skipF m_7 401 (m_7 0 8))) 1 (mset m_7 0 8 (skipF m_7 401 (m_7 0 8)) 0 8)) else m_7 := by rw [qc]; rfl
        have hsg := sgn_bd m_7 (skipF m_7 401 (m_7 0 8))
        refine ok_aload_n F dX8_readsSale_83 1 rfl ?_
        refine ok_callv F [] dX8_readsSale_84 kM_X8_isRight kI_X8_isRight kV_X8_isRight kL_X8_89 (ci := 8) rfl sh_0 rfl (by decide) (Nat.le_of_ble_eq_true rfl) rfl (m_X8_isRight _ m_7 (by have := hoC.2.2.1; omega)) ?_
        rintro _ _ ⟨rfl, rfl⟩
        have hJ_108 : ∀  (md : Mem), (md = sD mb) → Ok shp X 8 108 [(0, pR 0), (1, pI p), (2, pI (59 + (10 * (mb 2 2))))] [] md := by
          intro md hI_108
          obtain ⟨hoD, hcD, hD8⟩ := sD_ok hoB
          rw [← hI_108] at hoD hcD hD8
          have hD9 := hoD.2.2.1
          have hd8 := hoD.2.1
          obtain ⟨hoE, hcE⟩ := sE_ok hoB
          have hsE : sE mb = mset md 0 8 (md 0 8 + if md 0 9 = -1 then 1 else 0) := by unfold sE; rw [← hI_108]
          obtain ⟨hE1, hE2⟩ := sE_heard hoB (by omega) (by omega)
          refine ok_aload_n F dX8_readsSale_108 0 rfl ?_
          refine ok_dup F dX8_readsSale_109 rfl ?_
          refine ok_getf (v := md 0 8) F dX8_readsSale_110 kF_X8_79 sh_0 rfl rfl ?_
          refine ok_aload_n F dX8_readsSale_113 0 rfl ?_
          refine ok_callv F [] dX8_readsSale_114 kM_X8_isRight kI_X8_isRight kV_X8_isRight kL_X8_89 (ci := 8) rfl sh_0 rfl (by decide) (Nat.le_of_ble_eq_true rfl) rfl (m_X8_isRight _ md (by have := hoD.2.2.1; omega)) ?_
          rintro _ _ ⟨rfl, rfl⟩
          refine ok_calls F [pI (if md 0 9 = -1 then 1 else 0)] dX8_readsSale_117 kM_X8_truth kS_X8_truth kL_X8_137 rfl (by decide) (Nat.le_of_ble_eq_true rfl) rfl (m_X8_truth _ (if md 0 9 = -1 then 1 else 0) md (by omega)) ?_
          rintro _ _ ⟨rfl, rfl⟩
          refine ok_iadd F dX8_readsSale_120 ?_
          refine ok_putf F dX8_readsSale_121 kF_X8_79 sh_0 rfl rfl rfl (fun m_9 e_10 => ?_)
          refine ok_iconst F dX8_readsSale_124 ?_
          refine ok_istore_n (lv' := [(3, pI 0), (0, pR 0), (1, pI p), (2, pI (59 + (10 * (mb 2 2))))]) F dX8_readsSale_125 (by decide) rfl ?_
          refine ok_iconst F dX8_readsSale_126 ?_
          refine ok_istore (lv' := [(4, pI 0), (3, pI 0), (0, pR 0), (1, pI p), (2, pI (59 + (10 * (mb 2 2))))]) F dX8_readsSale_127 (by decide) rfl ?_
          refine ok_iconst F dX8_readsSale_129 ?_
          refine ok_istore (lv' := [(5, pI 1), (4, pI 0), (3, pI 0), (0, pR 0), (1, pI p), (2, pI (59 + (10 * (mb 2 2))))]) F dX8_readsSale_130 (by decide) rfl ?_
          have hL_132 : ∀ (n_132 : Nat) (c : Int) (g : Int) (z : Int) (m : Mem), ((z = 0 ∨ z = 1) ∧ RdOk m ∧ (∀ k : Nat, k < 59 → m 2 k = mem 2 k) ∧ (0 ≤ c ∧ c ≤ 6) ∧ (∀ k : Nat, 0 ≤ m 2 k ∧ m 2 k ≤ 100000 + 6 * mem 2 2 + c) ∧ (0 ≤ g ∧ g ≤ 100000 * c) ∧ (∀ a, a ≠ 0 → a ≠ 2 → m a = mem a) ∧ (z = 0 ∧ sF mb = (m, g) ∨ z = 1 ∧ c ≤ 5 ∧ ∃ n : Nat, (n : Int) + c = 7 ∧ sF mb = pcL n c (sTo mb) g m)) → (20 * z + 10 - c).toNat = n_132 → Ok shp X 8 132 [(0, pR 0), (1, pI p), (2, pI (59 + (10 * (mb 2 2)))), (3, pI c), (4, pI g), (5, pI z)] [] m := by
            intro n_132
            induction n_132 using Nat.strongRecOn with
            | _ n_132 ih_132 =>
              intro c g z m hI_132 hn_132
              obtain ⟨hz, hR, h59, hc, hbd, hg, hca, hE⟩ := hI_132
              have hm0 := h59 0 (by omega)
              refine ok_iload F dX8_readsSale_132 5 rfl ?_
              refine ok_if_eq F 254 dX8_readsSale_134 (by decide) (by omega) (fun c_11 => ?_) (fun c_11 => ?_)
              · obtain ⟨e1, eF0⟩ := hE.resolve_right (fun q => by have := q.1; omega)
                clear hE
                have hsG : sG mb = if m 0 9 = -1 ∧ g < m 2 (59 + 10 * mb 2 2 + 1).toNat then flM m 4 (m 0 10) else m := by unfold sG sTo; rw [eF0]
                have hR9 := hR.2.2.1
                have hB1 := hbd (59 + 10 * mb 2 2 + 1).toNat
                refine ok_aload_n F dX8_readsSale_254 0 rfl ?_
                refine ok_callv F [] dX8_readsSale_255 kM_X8_isRight kI_X8_isRight kV_X8_isRight kL_X8_89 (ci := 8) rfl sh_0 rfl (by decide) (Nat.le_of_ble_eq_true rfl) rfl (m_X8_isRight _ m (by have := hR.2.2.1; omega)) ?_
                rintro _ _ ⟨rfl, rfl⟩
                have hJ_283 : ∀  (mg : Mem), (mg = sG mb) → Ok shp X 8 283 [(0, pR 0), (1, pI p), (2, pI (59 + (10 * (mb 2 2)))), (3, pI c), (4, pI g), (5, pI z)] [] mg := by
                  intro mg hI_283
                  have hgo : RdOk mg ∧ ∀ a, a ≠ 0 → mg a = m a := by
                    rw [hI_283, hsG]
                    by_cases y : m 0 9 = -1 ∧ g < m 2 (59 + 10 * mb 2 2 + 1).toNat
                    · rw [if_pos y]; exact ⟨flM_ok hR (by omega) hR.2.2.2, fun a h0 => flM_cell h0⟩
                    · rw [if_neg y]; exact ⟨hR, fun _ _ => rfl⟩
                  obtain ⟨hg1, hg2⟩ := hgo
                  have k2 : mg 2 = m 2 := hg2 2 (by decide)
                  have hg22 := congrFun k2 2
                  have hm2 := h59 2 (by omega)
                  refine ok_aload_n F dX8_readsSale_283 0 rfl ?_
                  refine ok_getr F dX8_readsSale_284 kF_X8_13 sh_0 rfl ?_
                  refine ok_iconst F dX8_readsSale_287 ?_
                  refine ok_dup2 F dX8_readsSale_288 rfl rfl ?_
                  refine ok_iald (v := mg 2 2) F dX8_readsSale_289 sh_2 (by first | decide | assumption) (by omega) (by omega) rfl ?_
                  refine ok_iconst F dX8_readsSale_290 ?_
                  refine ok_iadd F dX8_readsSale_291 ?_
                  refine ok_iast F dX8_readsSale_292 sh_2 (by first | decide | assumption) (by omega) (by omega) (fun m_12 e_13 => ?_)
                  refine ok_vret F G dX8_readsSale_293 ?_
                  have e1x : m_12 = mset mg 2 2 (mg 2 2 + 1) := e_13
                  have e0 : m_12 0 = mg 0 := by rw [e1x]; exact mset_nka (by decide)
                  have e22 : m_12 2 2 = m 2 2 + 1 := by rw [e1x, mset_eq, k2]
                  refine ⟨rfl, by rw [hsM, if_pos (by omega), e1x, hI_283], hg1.cell e0, ?_, ?_, by omega, fun k => ?_, fun a h0 h2 => by rw [e1x, mset_nka h2, hg2 a h0]; exact hca a h0 h2⟩
                  · rw [e1x, mset_ne (by decide), k2]; exact h59 0 (by omega)
                  · rw [e1x, mset_ne (by decide), k2]; exact h59 1 (by omega)
                  · rw [e22]
                    by_cases y : k = 2
                    · rw [y, e22]; omega
                    · rw [e1x, mset_ne (fun q => y q.2), k2]; have := hbd k; omega
                refine ok_if_eq F 283 dX8_readsSale_258 (by decide) (by omega) (fun c_14 => ?_) (fun c_14 => ?_)
                · refine ok_lvp [0, 1, 2, 3, 4, 5] (lv' := [(0, pR 0), (1, pI p), (2, pI (59 + (10 * (mb 2 2)))), (3, pI c), (4, pI g), (5, pI z)]) rfl ?_
                  refine hJ_283 m ?_
                  first
                    | (rw [hsG, if_neg (by omega)]; done)
                    | (rw [hsG, if_pos (by omega), eF]; rfl)
                · refine ok_iload F dX8_readsSale_261 4 rfl ?_
                  refine ok_aload_n F dX8_readsSale_263 0 rfl ?_
                  refine ok_getr F dX8_readsSale_264 kF_X8_13 sh_0 rfl ?_
                  refine ok_iload_n F dX8_readsSale_267 2 rfl ?_
                  refine ok_iconst F dX8_readsSale_268 ?_
                  refine ok_iadd F dX8_readsSale_269 ?_
                  refine ok_iald (v := m 2 (((59 + (10 * (mb 2 2))) + 1).toNat)) F dX8_readsSale_270 sh_2 (by first | decide | assumption) (by omega) (by omega) rfl ?_
                  refine ok_icmp_ge F 283 dX8_readsSale_271 (by decide) (by omega) (by omega) (fun c_15 => ?_) (fun c_15 => ?_)
                  · refine ok_lvp [0, 1, 2, 3, 4, 5] (lv' := [(0, pR 0), (1, pI p), (2, pI (59 + (10 * (mb 2 2)))), (3, pI c), (4, pI g), (5, pI z)]) rfl ?_
                    refine hJ_283 m ?_
                    first
                      | (rw [hsG, if_neg (by omega)]; done)
                      | (rw [hsG, if_pos (by omega), eF]; rfl)
                  · refine ok_aload_n F dX8_readsSale_274 0 rfl ?_
                    refine ok_iconst F dX8_readsSale_275 ?_
                    refine ok_aload_n F dX8_readsSale_276 0 rfl ?_
                    refine ok_getf (v := m 0 10) F dX8_readsSale_277 kF_X8_124 sh_0 rfl rfl ?_
                    refine ok_callv F [pI 4, pI (m 0 10)] dX8_readsSale_280 kM_X8_fails kI_X8_fails kV_X8_fails kL_X8_120 (ci := 8) rfl sh_0 rfl (by decide) (Nat.le_of_ble_eq_true rfl) rfl (m_X8_fails _ 4 (m 0 10) m (by have := hR.2.2.1; omega)) ?_
                    rintro _ m_16 ⟨rfl, e_17⟩
                    have eF := e_17
                    refine ok_lvp [0, 1, 2, 3, 4, 5] (lv' := [(0, pR 0), (1, pI p), (2, pI (59 + (10 * (mb 2 2)))), (3, pI c), (4, pI g), (5, pI z)]) rfl ?_
                    refine hJ_283 m_16 ?_
                    first
                      | (rw [hsG, if_neg (by omega)]; done)
                      | (rw [hsG, if_pos (by omega), eF]; rfl)
              · obtain ⟨e1, hc5, n0, hn, hEc⟩ := hE.resolve_left (fun q => by have := q.1; omega)
                obtain ⟨n2, rfl⟩ : ∃ x, n0 = x + 1 := ⟨n0 - 1, by omega⟩
                have hEd : sF mb = if qMore m c (sTo mb) = true then pcL n2 (c + 1) (sTo mb) (g + qV m) (qD m c (sTo mb)) else (qD m c (sTo mb), g + qV m) := hEc
                clear hE hEc
                refine ok_aload_n F dX8_readsSale_137 0 rfl ?_
                refine ok_iconst F dX8_readsSale_138 ?_
                refine ok_sipush F dX8_readsSale_139 rfl ?_
                refine ok_callv F [pI 1, pI 500] dX8_readsSale_142 kM_X8_number kI_X8_number kV_X8_number kL_X8_134 (ci := 8) rfl sh_0 rfl (by decide) (Nat.le_of_ble_eq_true rfl) rfl (m_X8_number _ 1 500 m (by omega) (by omega) (hR.1) (hR.2.1) (by have := hR.2.2.1; omega)) ?_
                rintro _ m_19 ⟨z_18, rfl, r_20⟩
                obtain ⟨r1, r2, r3⟩ := id r_20
                obtain ⟨z1, z2⟩ := numM_of r1 r2 r3
                have hzb := (numR_bd hR 1 500).1
                rw [← z1] at hzb
                have hn1 := numM_ok hR 1 500
                have hn2 := (numM_at m 1 500).1
                rw [← z2] at hn1 hn2
                have n22 := hn2 2 (by decide)
                have n20 := congrFun n22 0
                have hV : qV m = z_18 := z1.symm
                have hK : qK m = kindAt (fun k => m_19 2 (3 + k)) z_18 (m_19 2 0).toNat 0 := by unfold qK; rw [hV, ← z2]
                have hkb := kindAt_bd (fun k => m_19 2 (3 + k)) z_18 (m_19 2 0).toNat 0
                have hsA : qA m = if m_19 0 9 = -1 ∧ qK m = -1 then flM m_19 2 (m_19 0 10) else m_19 := by unfold qA; rw [← z2]
                have hn9 := hn1.2.2.1
                refine ok_istore (lv' := [(6, pI z_18), (0, pR 0), (1, pI p), (2, pI (59 + (10 * (mb 2 2)))), (3, pI c), (4, pI g), (5, pI z)]) F dX8_readsSale_145 (by decide) rfl ?_
                refine ok_aload_n F dX8_readsSale_147 1 rfl ?_
                refine ok_iload F dX8_readsSale_148 0 rfl ?_
                refine ok_callv F [pI z_18] dX8_readsSale_150 kM_X8_kindOf kI_X8_kindOf kV_X8_kindOf kL_X8_141 (ci := 8) rfl sh_0 rfl (by decide) (Nat.le_of_ble_eq_true rfl) rfl (m_X8_kindOf _ z_18 m_19 (by omega) (by omega) (fun b => by rw [n22]; have := hbd b; omega)) ?_
                rintro _ _ ⟨rfl, rfl⟩
                refine ok_istore (lv' := [(7, pI (kindAt (fun k => m_19 2 (3 + k)) z_18 (m_19 2 0).toNat 0)), (6, pI z_18), (0, pR 0), (1, pI p), (2, pI (59 + (10 * (mb 2 2)))), (3, pI c), (4, pI g), (5, pI z)]) F dX8_readsSale_153 (by decide) rfl ?_
                refine ok_aload_n F dX8_readsSale_155 2 rfl ?_
                refine ok_callv F [] dX8_readsSale_156 kM_X8_isRight kI_X8_isRight kV_X8_isRight kL_X8_89 (ci := 8) rfl sh_0 rfl (by decide) (Nat.le_of_ble_eq_true rfl) rfl (m_X8_isRight _ m_19 (by have := hn1.2.2.1; omega)) ?_
                rintro _ _ ⟨rfl, rfl⟩
                have hJ_177 : ∀  (ma1 : Mem), (ma1 = qA m) → Ok shp X 8 177 [(0, pR 0), (1, pI p), (2, pI (59 + (10 * (mb 2 2)))), (3, pI c), (4, pI g), (5, pI z), (6, pI z_18), (7, pI (kindAt (fun k => m_19 2 (3 + k)) z_18 (m_19 2 0).toNat 0))] [] ma1 := by
                  intro ma1 hI_177
                  obtain ⟨hoA1, hcA1, hkA1⟩ := qA_ok hR
                  rw [← hI_177] at hoA1 hcA1 hkA1
                  have hA19 := hoA1.2.2.1
                  have hsB1 : qB m c = if ma1 0 9 = -1 ∧ c = 5 then flM ma1 3 (ma1 0 10) else ma1 := by unfold qB; rw [← hI_177]
                  refine ok_aload_n F dX8_readsSale_177 0 rfl ?_
                  refine ok_callv F [] dX8_readsSale_178 kM_X8_isRight kI_X8_isRight kV_X8_isRight kL_X8_89 (ci := 8) rfl sh_0 rfl (by decide) (Nat.le_of_ble_eq_true rfl) rfl (m_X8_isRight _ ma1 (by have := hoA1.2.2.1; omega)) ?_
                  rintro _ _ ⟨rfl, rfl⟩
                  have hJ_198 : ∀  (mb1 : Mem), (mb1 = qB m c) → Ok shp X 8 198 [(0, pR 0), (1, pI p), (2, pI (59 + (10 * (mb 2 2)))), (3, pI c), (4, pI g), (5, pI z), (6, pI z_18), (7, pI (kindAt (fun k => m_19 2 (3 + k)) z_18 (m_19 2 0).toNat 0))] [] mb1 := by
                    intro mb1 hI_198
                    obtain ⟨hoB1, hcB1, hkB1⟩ := qB_ok hR c
                    rw [← hI_198] at hoB1 hcB1 hkB1
                    have hB19 := hoB1.2.2.1
                    have hB12 := hcB1 2 (by decide)
                    have hsC1 : qC m c (sTo mb) = if mb1 0 9 = -1 then mset mb1 2 (sTo mb + 2 + qK m).toNat (mb1 2 (sTo mb + 2 + qK m).toNat + 1) else mb1 := by unfold qC; rw [← hI_198]
                    refine ok_aload_n F dX8_readsSale_198 0 rfl ?_
                    refine ok_callv F [] dX8_readsSale_199 kM_X8_isRight kI_X8_isRight kV_X8_isRight kL_X8_89 (ci := 8) rfl sh_0 rfl (by decide) (Nat.le_of_ble_eq_true rfl) rfl (m_X8_isRight _ mb1 (by have := hoB1.2.2.1; omega)) ?_
                    rintro _ _ ⟨rfl, rfl⟩
                    have hJ_220 : ∀  (mc1 : Mem), (mc1 = qC m c (sTo mb)) → Ok shp X 8 220 [(0, pR 0), (1, pI p), (2, pI (59 + (10 * (mb 2 2)))), (3, pI c), (4, pI g), (5, pI z), (6, pI z_18), (7, pI (kindAt (fun k => m_19 2 (3 + k)) z_18 (m_19 2 0).toNat 0))] [] mc1 := by
                      intro mc1 hI_220
                      obtain ⟨hoC1, hcC1, hc10⟩ := qC_ok hR c (sTo mb)
                      rw [← hI_220] at hoC1 hcC1 hc10
                      obtain ⟨hoD1, hcD1⟩ := qD_ok hR c (sTo mb)
                      have hkD : qD m c (sTo mb) = if mc1 0 9 = -1 then mset mc1 0 8 (skipF mc1 401 (mc1 0 8)) else mc1 := by unfold qD; rw [← hI_220]
                      have hkM : qMore m c (sTo mb) = decide (mc1 0 9 = -1 ∧ 48 ≤ sgn mc1 (skipF mc1 401 (mc1 0 8)) ∧ sgn mc1 (skipF mc1 401 (mc1 0 8)) ≤ 57) := by unfold qMore; rw [← hI_220]
                      have hC19 := hoC1.2.2.1
                      have hc19 : mc1 0 9 = mb1 0 9 := by rw [hc10, ← hI_198]
                      obtain ⟨hx1, hx2, hx3⟩ := qC_heard hR c (sTo mb) (by omega) hm0 hN
                      rw [← hI_220] at hx1 hx2 hx3
                      have hrc := fun q : mb1 0 9 = -1 => (hkB1 q).2.1
                      refine ok_iinc (lv' := [(3, pI (c + 1)), (0, pR 0), (1, pI p), (2, pI (59 + (10 * (mb 2 2)))), (4, pI g), (5, pI z), (6, pI z_18), (7, pI (kindAt (fun k => m_19 2 (3 + k)) z_18 (m_19 2 0).toNat 0))]) F dX8_readsSale_220 3 rfl (by decide) rfl ?_
                      refine ok_iload F dX8_readsSale_223 4 rfl ?_
                      refine ok_iload F dX8_readsSale_225 6 rfl ?_
                      refine ok_iadd F dX8_readsSale_227 ?_
                      refine ok_istore (lv' := [(4, pI (g + z_18)), (3, pI (c + 1)), (0, pR 0), (1, pI p), (2, pI (59 + (10 * (mb 2 2)))), (5, pI z), (6, pI z_18), (7, pI (kindAt (fun k => m_19 2 (3 + k)) z_18 (m_19 2 0).toNat 0))]) F dX8_readsSale_228 (by decide) rfl ?_
                      refine ok_aload_n F dX8_readsSale_230 2 rfl ?_
                      refine ok_callv F [] dX8_readsSale_231 kM_X8_isRight kI_X8_isRight kV_X8_isRight kL_X8_89 (ci := 8) rfl sh_0 rfl (by decide) (Nat.le_of_ble_eq_true rfl) rfl (m_X8_isRight _ mc1 (by have := hoC1.2.2.1; omega)) ?_
                      rintro _ _ ⟨rfl, rfl⟩
                      refine ok_if_eq F 248 dX8_readsSale_234 (by decide) (by omega) (fun c_21 => ?_) (fun c_21 => ?_)
                      · refine ok_iconst F dX8_readsSale_248 ?_
                        refine ok_istore (lv' := [(5, pI 0), (4, pI (g + z_18)), (3, pI (c + 1)), (0, pR 0), (1, pI p), (2, pI (59 + (10 * (mb 2 2)))), (6, pI z_18), (7, pI (kindAt (fun k => m_19 2 (3 + k)) z_18 (m_19 2 0).toNat 0))]) F dX8_readsSale_249 (by decide) rfl ?_
                        refine ok_goto F 132 dX8_readsSale_251 (by decide) ?_
                        refine ok_lvp [3, 4, 5, 2, 1, 0] (lv' := [(0, pR 0), (1, pI p), (2, pI (59 + (10 * (mb 2 2)))), (3, pI (c + 1)), (4, pI (g + z_18)), (5, pI 0)]) rfl ?_
                        refine ih_132 _ ?_ (c + 1) (g + z_18) 0 mc1 ?_ rfl
                        · omega
                        · have hk2 : mc1 2 = mc1 2 := by first | rfl | (rw [eN]; exact mset_nka (by decide))
                          have hka : ∀ a, a ≠ 0 → mc1 a = mc1 a := fun a ha => by first | rfl | (rw [eN]; exact mset_nka ha)
                          have hD : mc1 = qD m c (sTo mb) := by first | (rw [hkD, if_neg (by omega)]; done) | (rw [hkD, if_pos (by omega), eN]; done)
                          refine ⟨by omega, by rw [hD]; exact hoD1, fun k hk => by rw [hk2, hx1 k (by omega)]; exact h59 k hk, by omega, fun k => by rw [hk2]; have := hx3 _ hbd k; omega, by omega, fun a h0 h2 => by rw [hka a h0, hcC1 a h0 h2]; exact hca a h0 h2, ?_⟩
                          first
                            | (exact Or.inr ⟨rfl, by have := hrc (by omega); omega, n2, by omega, by rw [hEd, if_pos (by rw [hkM]; exact decide_eq_true (by omega)), hD, hV]⟩)
                            | (exact Or.inl ⟨rfl, by rw [hEd, if_neg (by rw [hkM, decide_eq_true_eq]; omega), hD, hV]⟩)
                      · refine ok_aload_n F dX8_readsSale_237 2 rfl ?_
                        refine ok_callv F [] dX8_readsSale_238 kM_X8_isDigit kI_X8_isDigit kV_X8_isDigit kL_X8_117 (ci := 8) rfl sh_0 rfl (by decide) (Nat.le_of_ble_eq_true rfl) rfl (m_X8_isDigit _ mc1 (hoC1.1) (hoC1.2.1)) ?_
                        rintro _ m_22 ⟨rfl, e_23⟩
                        have eN := e_23
                        refine ok_if_eq F 248 dX8_readsSale_241 (by decide) (by omega) (fun c_24 => ?_) (fun c_24 => ?_)
                        · refine ok_iconst F dX8_readsSale_248 ?_
                          refine ok_istore (lv' := [(5, pI 0), (4, pI (g + z_18)), (3, pI (c + 1)), (0, pR 0), (1, pI p), (2, pI (59 + (10 * (mb 2 2)))), (6, pI z_18), (7, pI (kindAt (fun k => m_19 2 (3 + k)) z_18 (m_19 2 0).toNat 0))]) F dX8_readsSale_249 (by decide) rfl ?_
                          refine ok_goto F 132 dX8_readsSale_251 (by decide) ?_
                          refine ok_lvp [3, 4, 5, 2, 1, 0] (lv' := [(0, pR 0), (1, pI p), (2, pI (59 + (10 * (mb 2 2)))), (3, pI (c + 1)), (4, pI (g + z_18)), (5, pI 0)]) rfl ?_
                          refine ih_132 _ ?_ (c + 1) (g + z_18) 0 m_22 ?_ rfl
                          · omega
                          · have hk2 : m_22 2 = mc1 2 := by first | rfl | (rw [eN]; exact mset_nka (by decide))
                            have hka : ∀ a, a ≠ 0 → m_22 a = mc1 a := fun a ha => by first | rfl | (rw [eN]; exact mset_nka ha)
                            have hD : m_22 = qD m c (sTo mb) := by first | (rw [hkD, if_neg (by omega)]; done) | (rw [hkD, if_pos (by omega), eN]; done)
                            refine ⟨by omega, by rw [hD]; exact hoD1, fun k hk => by rw [hk2, hx1 k (by omega)]; exact h59 k hk, by omega, fun k => by rw [hk2]; have := hx3 _ hbd k; omega, by omega, fun a h0 h2 => by rw [hka a h0, hcC1 a h0 h2]; exact hca a h0 h2, ?_⟩
                            first
                              | (exact Or.inr ⟨rfl, by have := hrc (by omega); omega, n2, by omega, by rw [hEd, if_pos (by rw [hkM]; exact decide_eq_true (by omega)), hD, hV]⟩)
                              | (exact Or.inl ⟨rfl, by rw [hEd, if_neg (by rw [hkM, decide_eq_true_eq]; omega), hD, hV]⟩)
                        · refine ok_iconst F dX8_readsSale_244 ?_
                          refine ok_goto F 249 dX8_readsSale_245 (by decide) ?_
                          refine ok_istore (lv' := [(5, pI 1), (4, pI (g + z_18)), (3, pI (c + 1)), (0, pR 0), (1, pI p), (2, pI (59 + (10 * (mb 2 2)))), (6, pI z_18), (7, pI (kindAt (fun k => m_19 2 (3 + k)) z_18 (m_19 2 0).toNat 0))]) F dX8_readsSale_249 (by decide) rfl ?_
                          refine ok_goto F 132 dX8_readsSale_251 (by decide) ?_
                          refine ok_lvp [3, 4, 5, 2, 1, 0] (lv' := [(0, pR 0), (1, pI p), (2, pI (59 + (10 * (mb 2 2)))), (3, pI (c + 1)), (4, pI (g + z_18)), (5, pI 1)]) rfl ?_
                          refine ih_132 _ ?_ (c + 1) (g + z_18) 1 m_22 ?_ rfl
                          · omega
                          · have hk2 : m_22 2 = mc1 2 := by first | rfl | (rw [eN]; exact mset_nka (by decide))
                            have hka : ∀ a, a ≠ 0 → m_22 a = mc1 a := fun a ha => by first | rfl | (rw [eN]; exact mset_nka ha)
                            have hD : m_22 = qD m c (sTo mb) := by first | (rw [hkD, if_neg (by omega)]; done) | (rw [hkD, if_pos (by omega), eN]; done)
                            refine ⟨by omega, by rw [hD]; exact hoD1, fun k hk => by rw [hk2, hx1 k (by omega)]; exact h59 k hk, by omega, fun k => by rw [hk2]; have := hx3 _ hbd k; omega, by omega, fun a h0 h2 => by rw [hka a h0, hcC1 a h0 h2]; exact hca a h0 h2, ?_⟩
                            first
                              | (exact Or.inr ⟨rfl, by have := hrc (by omega); omega, n2, by omega, by rw [hEd, if_pos (by rw [hkM]; exact decide_eq_true (by omega)), hD, hV]⟩)
                              | (exact Or.inl ⟨rfl, by rw [hEd, if_neg (by rw [hkM, decide_eq_true_eq]; omega), hD, hV]⟩)
                    refine ok_if_eq F 220 dX8_readsSale_202 (by decide) (by omega) (fun c_25 => ?_) (fun c_25 => ?_)
                    · refine ok_lvp [0, 1, 2, 3, 4, 5, 6, 7] (lv' := [(0, pR 0), (1, pI p), (2, pI (59 + (10 * (mb 2 2)))), (3, pI c), (4, pI g), (5, pI z), (6, pI z_18), (7, pI (kindAt (fun k => m_19 2 (3 + k)) z_18 (m_19 2 0).toNat 0))]) rfl ?_
                      refine hJ_220 mb1 ?_
                      first
                        | (rw [hsC1, if_neg (by omega)]; done)
                        | (rw [hsC1, if_pos (by omega), hK, hTo]; exact rfl)
                    · have hk9 := (hkB1 (by omega)).1
                      refine ok_aload_n F dX8_readsSale_205 0 rfl ?_
                      refine ok_getr F dX8_readsSale_206 kF_X8_13 sh_0 rfl ?_
                      refine ok_iload_n F dX8_readsSale_209 2 rfl ?_
                      refine ok_iconst F dX8_readsSale_210 ?_
                      refine ok_iadd F dX8_readsSale_211 ?_
                      refine ok_iload F dX8_readsSale_212 7 rfl ?_
                      refine ok_iadd F dX8_readsSale_214 ?_
                      refine ok_dup2 F dX8_readsSale_215 rfl rfl ?_
                      refine ok_iald (v := mb1 2 ((((59 + (10 * (mb 2 2))) + 2) + (kindAt (fun k => m_19 2 (3 + k)) z_18 (m_19 2 0).toNat 0)).toNat)) F dX8_readsSale_216 sh_2 (by first | decide | assumption) (by omega) (by omega) rfl ?_
                      refine ok_iconst F dX8_readsSale_217 ?_
                      refine ok_iadd F dX8_readsSale_218 ?_
                      refine ok_iast F dX8_readsSale_219 sh_2 (by first | decide | assumption) (by omega) (by omega) (fun m_26 e_27 => ?_)
                      refine ok_lvp [0, 1, 2, 3, 4, 5, 6, 7] (lv' := [(0, pR 0), (1, pI p), (2, pI (59 + (10 * (mb 2 2)))), (3, pI c), (4, pI g), (5, pI z), (6, pI z_18), (7, pI (kindAt (fun k => m_19 2 (3 + k)) z_18 (m_19 2 0).toNat 0))]) rfl ?_
                      refine hJ_220 m_26 ?_
                      first
                        | (rw [hsC1, if_neg (by omega)]; done)
                        | (rw [hsC1, if_pos (by omega), hK, hTo]; exact e_27)
                  refine ok_if_eq F 198 dX8_readsSale_181 (by decide) (by omega) (fun c_28 => ?_) (fun c_28 => ?_)
                  · refine ok_lvp [0, 1, 2, 3, 4, 5, 6, 7] (lv' := [(0, pR 0), (1, pI p), (2, pI (59 + (10 * (mb 2 2)))), (3, pI c), (4, pI g), (5, pI z), (6, pI z_18), (7, pI (kindAt (fun k => m_19 2 (3 + k)) z_18 (m_19 2 0).toNat 0))]) rfl ?_
                    refine hJ_198 ma1 ?_
                    first
                      | (rw [hsB1, if_neg (by omega)]; done)
                      | (rw [hsB1, if_pos (by omega), eF]; rfl)
                  · refine ok_iload_n F dX8_readsSale_184 3 rfl ?_
                    refine ok_iconst F dX8_readsSale_185 ?_
                    refine ok_icmp_ne F 198 dX8_readsSale_186 (by decide) (by omega) (by omega) (fun c_29 => ?_) (fun c_29 => ?_)
                    · refine ok_lvp [0, 1, 2, 3, 4, 5, 6, 7] (lv' := [(0, pR 0), (1, pI p), (2, pI (59 + (10 * (mb 2 2)))), (3, pI c), (4, pI g), (5, pI z), (6, pI z_18), (7, pI (kindAt (fun k => m_19 2 (3 + k)) z_18 (m_19 2 0).toNat 0))]) rfl ?_
                      refine hJ_198 ma1 ?_
                      first
                        | (rw [hsB1, if_neg (by omega)]; done)
                        | (rw [hsB1, if_pos (by omega), eF]; rfl)
                    · refine ok_aload_n F dX8_readsSale_189 0 rfl ?_
                      refine ok_iconst F dX8_readsSale_190 ?_
                      refine ok_aload_n F dX8_readsSale_191 0 rfl ?_
                      refine ok_getf (v := ma1 0 10) F dX8_readsSale_192 kF_X8_124 sh_0 rfl rfl ?_
                      refine ok_callv F [pI 3, pI (ma1 0 10)] dX8_readsSale_195 kM_X8_fails kI_X8_fails kV_X8_fails kL_X8_120 (ci := 8) rfl sh_0 rfl (by decide) (Nat.le_of_ble_eq_true rfl) rfl (m_X8_fails _ 3 (ma1 0 10) ma1 (by have := hoA1.2.2.1; omega)) ?_
                      rintro _ m_30 ⟨rfl, e_31⟩
                      have eF := e_31
                      refine ok_lvp [0, 1, 2, 3, 4, 5, 6, 7] (lv' := [(0, pR 0), (1, pI p), (2, pI (59 + (10 * (mb 2 2)))), (3, pI c), (4, pI g), (5, pI z), (6, pI z_18), (7, pI (kindAt (fun k => m_19 2 (3 + k)) z_18 (m_19 2 0).toNat 0))]) rfl ?_
                      refine hJ_198 m_30 ?_
                      first
                        | (rw [hsB1, if_neg (by omega)]; done)
                        | (rw [hsB1, if_pos (by omega), eF]; rfl)
                refine ok_if_eq F 177 dX8_readsSale_159 (by decide) (by omega) (fun c_32 => ?_) (fun c_32 => ?_)
                · refine ok_lvp [2, 3, 4, 5, 6, 7, 1, 0] (lv' := [(0, pR 0), (1, pI p), (2, pI (59 + (10 * (mb 2 2)))), (3, pI c), (4, pI g), (5, pI z), (6, pI z_18), (7, pI (kindAt (fun k => m_19 2 (3 + k)) z_18 (m_19 2 0).toNat 0))]) rfl ?_
                  refine hJ_177 m_19 ?_
                  first
                    | (rw [hsA, if_neg (by omega)]; done)
                    | (rw [hsA, if_pos (by omega), eF]; rfl)
                · refine ok_iload F dX8_readsSale_162 0 rfl ?_
                  refine ok_iconst F dX8_readsSale_164 ?_
                  refine ok_icmp_ne F 177 dX8_readsSale_165 (by decide) (by omega) (by omega) (fun c_33 => ?_) (fun c_33 => ?_)
                  · refine ok_lvp [2, 3, 4, 5, 6, 7, 1, 0] (lv' := [(0, pR 0), (1, pI p), (2, pI (59 + (10 * (mb 2 2)))), (3, pI c), (4, pI g), (5, pI z), (6, pI z_18), (7, pI (kindAt (fun k => m_19 2 (3 + k)) z_18 (m_19 2 0).toNat 0))]) rfl ?_
                    refine hJ_177 m_19 ?_
                    first
                      | (rw [hsA, if_neg (by omega)]; done)
                      | (rw [hsA, if_pos (by omega), eF]; rfl)
                  · refine ok_aload_n F dX8_readsSale_168 2 rfl ?_
                    refine ok_iconst F dX8_readsSale_169 ?_
                    refine ok_aload_n F dX8_readsSale_170 2 rfl ?_
                    refine ok_getf (v := m_19 0 10) F dX8_readsSale_171 kF_X8_124 sh_0 rfl rfl ?_
                    refine ok_callv F [pI 2, pI (m_19 0 10)] dX8_readsSale_174 kM_X8_fails kI_X8_fails kV_X8_fails kL_X8_120 (ci := 8) rfl sh_0 rfl (by decide) (Nat.le_of_ble_eq_true rfl) rfl (m_X8_fails _ 2 (m_19 0 10) m_19 (by have := hn1.2.2.1; omega)) ?_
                    rintro _ m_34 ⟨rfl, e_35⟩
                    have eF := e_35
                    refine ok_lvp [2, 3, 4, 5, 6, 7, 1, 0] (lv' := [(0, pR 0), (1, pI p), (2, pI (59 + (10 * (mb 2 2)))), (3, pI c), (4, pI g), (5, pI z), (6, pI z_18), (7, pI (kindAt (fun k => m_19 2 (3 + k)) z_18 (m_19 2 0).toNat 0))]) rfl ?_
                    refine hJ_177 m_34 ?_
                    first
                      | (rw [hsA, if_neg (by omega)]; done)
                      | (rw [hsA, if_pos (by omega), eF]; rfl)
          refine ok_lvp [3, 4, 5, 2, 1, 0] (lv' := [(0, pR 0), (1, pI p), (2, pI (59 + (10 * (mb 2 2)))), (3, pI 0), (4, pI 0), (5, pI 1)]) rfl ?_
          refine hL_132 _ 0 0 1 m_9 ?_ rfl
          have eT : (if (if md 0 9 = -1 then (1 : Int) else 0) = 0 then (0 : Int) else 1) = if md 0 9 = -1 then 1 else 0 := by
            by_cases q : md 0 9 = -1
            · rw [if_pos q, if_neg (by decide)]
            · rw [if_neg q, if_pos rfl]
          have qE : m_9 = sE mb := by rw [hsE, e_10, eT]
          refine ⟨Or.inr rfl, by rw [qE]; exact hoE, fun k hk => by rw [qE, hE1 k hk, hB2], by omega, fun k => ?_, by omega, fun a h0 h2 => by rw [qE, hcE a h0, hcCs a h0 h2, hcB a h0], Or.inr ⟨rfl, by omega, 7, by omega, by unfold sF; rw [qE]⟩⟩
          rw [qE]
          have := hE2 (100000 + 6 * mem 2 2) (by omega) (fun j => by rw [hB2]; exact hH j) k
          omega
        refine ok_if_eq F 108 dX8_readsSale_87 (by decide) (by omega) (fun c_36 => ?_) (fun c_36 => ?_)
        · refine ok_lvp [1, 2, 0] (lv' := [(0, pR 0), (1, pI p), (2, pI (59 + (10 * (mb 2 2))))]) rfl ?_
          refine hJ_108 m_7 ?_
          first
            | (rw [hsD, if_neg (by omega)]; done)
            | (rw [hsD, if_pos (by omega), if_pos (by omega)]; exact eN)
            | (rw [hsD, if_pos (by omega), if_neg (by omega), ← eN, eF]; rfl)
        · refine ok_aload_n F dX8_readsSale_90 1 rfl ?_
          refine ok_callv F [] dX8_readsSale_91 kM_X8_next kI_X8_next kV_X8_next kL_X8_93 (ci := 8) rfl sh_0 rfl (by decide) (Nat.le_of_ble_eq_true rfl) rfl (m_X8_next _ m_7 (hoC.1) (hoC.2.1)) ?_
          rintro _ m_37 ⟨rfl, e_38⟩
          have eN := e_38
          refine ok_bipush F dX8_readsSale_94 rfl ?_
          refine ok_icmp_eq F 108 dX8_readsSale_96 (by decide) (by omega) (by omega) (fun c_39 => ?_) (fun c_39 => ?_)
          · refine ok_lvp [1, 2, 0] (lv' := [(0, pR 0), (1, pI p), (2, pI (59 + (10 * (mb 2 2))))]) rfl ?_
            refine hJ_108 m_37 ?_
            first
              | (rw [hsD, if_neg (by omega)]; done)
              | (rw [hsD, if_pos (by omega), if_pos (by omega)]; exact eN)
              | (rw [hsD, if_pos (by omega), if_neg (by omega), ← eN, eF]; rfl)
          · refine ok_aload_n F dX8_readsSale_99 1 rfl ?_
            refine ok_iconst F dX8_readsSale_100 ?_
            refine ok_aload_n F dX8_readsSale_101 1 rfl ?_
            refine ok_getf (v := m_37 0 8) F dX8_readsSale_102 kF_X8_79 sh_0 rfl rfl ?_
            refine ok_callv F [pI 1, pI (m_37 0 8)] dX8_readsSale_105 kM_X8_fails kI_X8_fails kV_X8_fails kL_X8_120 (ci := 8) rfl sh_0 rfl (by decide) (Nat.le_of_ble_eq_true rfl) rfl (m_X8_fails _ 1 (m_37 0 8) m_37 (by rw [eN, mset_ne (by decide)]; have := hoC.2.2.1; omega)) ?_
            rintro _ m_40 ⟨rfl, e_41⟩
            have eF := e_41
            refine ok_lvp [1, 2, 0] (lv' := [(0, pR 0), (1, pI p), (2, pI (59 + (10 * (mb 2 2))))]) rfl ?_
            refine hJ_108 m_40 ?_
            first
              | (rw [hsD, if_neg (by omega)]; done)
              | (rw [hsD, if_pos (by omega), if_pos (by omega)]; exact eN)
              | (rw [hsD, if_pos (by omega), if_neg (by omega), ← eN, eF]; rfl)
      · refine ok_vret F G dX8_readsSale_39 ?_
        exact ⟨rfl, by rw [hsM, if_neg (by omega)], hoB, b0, b1, by omega, fun k => by rw [hB2]; exact hH k, fun a h0 _ => hcB a h0⟩
    refine ok_getr F dX8_readsSale_16 kF_X8_13 sh_0 rfl ?_
    refine ok_iconst F dX8_readsSale_19 ?_
    refine ok_iald (v := ma 2 2) F dX8_readsSale_20 sh_2 (by first | decide | assumption) (by omega) (by omega) rfl ?_
    refine ok_bipush F dX8_readsSale_21 rfl ?_
    refine ok_icmp_ne F 32 dX8_readsSale_23 (by decide) (by omega) (by omega) (fun c_42 => ?_) (fun c_42 => ?_)
    · refine ok_lvp [0, 1] (lv' := [(0, pR 0), (1, pI p)]) rfl ?_
      refine hJ_32 ma ?_
      first
        | (rw [hsB, if_neg (by omega)]; done)
        | (rw [hsB, if_pos (by omega), eF]; rfl)
    · refine ok_aload_n F dX8_readsSale_26 0 rfl ?_
      refine ok_iconst F dX8_readsSale_27 ?_
      refine ok_iload_n F dX8_readsSale_28 1 rfl ?_
      refine ok_callv F [pI 3, pI p] dX8_readsSale_29 kM_X8_fails kI_X8_fails kV_X8_fails kL_X8_120 (ci := 8) rfl sh_0 rfl (by decide) (Nat.le_of_ble_eq_true rfl) rfl (m_X8_fails _ 3 p ma (by have := hoA.2.2.1; omega)) ?_
      rintro _ m_43 ⟨rfl, e_44⟩
      have eF := e_44
      refine ok_lvp [0, 1] (lv' := [(0, pR 0), (1, pI p)]) rfl ?_
      refine hJ_32 m_43 ?_
      first
        | (rw [hsB, if_neg (by omega)]; done)
        | (rw [hsB, if_pos (by omega), eF]; rfl)
  refine ok_aload_n F dX8_readsSale_0 0 rfl ?_
  refine ok_getr F dX8_readsSale_1 kF_X8_13 sh_0 rfl ?_
  refine ok_iconst F dX8_readsSale_4 ?_
  refine ok_iald (v := mem 2 1) F dX8_readsSale_5 sh_2 (by first | decide | assumption) (by omega) (by omega) rfl ?_
  refine ok_if_ne F 15 dX8_readsSale_6 (by decide) (by omega) (fun c_45 => ?_) (fun c_45 => ?_)
  · refine ok_lvp [0, 1] (lv' := [(0, pR 0), (1, pI p)]) rfl ?_
    refine hJ_15 mem ?_
    unfold sA
    first
      | (rw [if_neg (by omega)]; done)
      | (rw [if_pos (by omega), eF]; rfl)
  · refine ok_aload_n F dX8_readsSale_9 0 rfl ?_
    refine ok_iconst F dX8_readsSale_10 ?_
    refine ok_iload_n F dX8_readsSale_11 1 rfl ?_
    refine ok_callv F [pI 1, pI p] dX8_readsSale_12 kM_X8_fails kI_X8_fails kV_X8_fails kL_X8_120 (ci := 8) rfl sh_0 rfl (by decide) (Nat.le_of_ble_eq_true rfl) rfl (m_X8_fails _ 1 p mem (by have := hRd.2.2.1; omega)) ?_
    rintro _ m_46 ⟨rfl, e_47⟩
    have eF := e_47
    refine ok_lvp [0, 1] (lv' := [(0, pR 0), (1, pI p)]) rfl ?_
    refine hJ_15 m_46 ?_
    unfold sA
    first
      | (rw [if_neg (by omega)]; done)
      | (rw [if_pos (by omega), eF]; rfl)
