/-! the reference: paid -/
def rpA (f : Nat → Int) (p : Int) : Int := sumN (fun k => f (43 + k) * f (3 + k)) (f 0).toNat - p
def rpV (f : Nat → Int) (p : Int) : Int := fewT (fun i => (f (3 + i)).toNat) (fun i => (f (11 + i) + f (43 + i)).toNat) (f 0).toNat (rpA f p).toNat
def rpD (f : Nat → Int) (p : Int) (k : Nat) : Int := (takR (fun i => (f (3 + i)).toNat) (fun i => (f (11 + i) + f (43 + i)).toNat) (f 0).toNat (rpA f p).toNat k : Nat)
def rpOk (f : Nat → Int) (p : Int) (k : Nat) : Prop := f (11 + k) + f (43 + k) - rpD f p k < 100 ∧ f (19 + k) + rpD f p k < 100
/-- the row behind it, so many kinds done -/
def rpN (f : Nat → Int) (p : Int) (n : Nat) : Nat → Int := fun b => if 11 ≤ b ∧ b < 11 + n then f b + f (b + 32) - rpD f p (b - 11) else if 19 ≤ b ∧ b < 19 + n then f b + rpD f p (b - 19) else if 43 ≤ b ∧ b < 43 + n then 0 else f b
theorem rpN_0 (f : Nat → Int) (p : Int) : rpN f p 0 = f := by
  funext b
  unfold rpN
  rw [if_neg (by omega), if_neg (by omega), if_neg (by omega)]
theorem dX8_pay_0 : decode cX8_pay 0 = .ok (.iload_n 1, 1) := by decide +kernel
theorem dX8_pay_1 : decode cX8_pay 1 = .ok (.i2l, 1) := by decide +kernel
theorem dX8_pay_2 : decode cX8_pay 2 = .ok (.lconst 1, 1) := by decide +kernel
theorem dX8_pay_3 : decode cX8_pay 3 = .ok (.ldc2_w 230, 3) := by decide +kernel
theorem dX8_pay_6 : decode cX8_pay 6 = .ok (.invokestatic 100, 3) := by decide +kernel
theorem dX8_pay_9 : decode cX8_pay 9 = .ok (.ifCond .ne 5, 3) := by decide +kernel
theorem dX8_pay_12 : decode cX8_pay 12 = .ok (.iconst (-1), 1) := by decide +kernel
theorem dX8_pay_13 : decode cX8_pay 13 = .ok (.ireturn, 1) := by decide +kernel
theorem dX8_pay_14 : decode cX8_pay 14 = .ok (.aload_n 0, 1) := by decide +kernel
theorem dX8_pay_15 : decode cX8_pay 15 = .ok (.bipush 43, 2) := by decide +kernel
theorem dX8_pay_17 : decode cX8_pay 17 = .ok (.invokevirtual 232, 3) := by decide +kernel
theorem dX8_pay_20 : decode cX8_pay 20 = .ok (.iload_n 1, 1) := by decide +kernel
theorem dX8_pay_21 : decode cX8_pay 21 = .ok (.isub, 1) := by decide +kernel
theorem dX8_pay_22 : decode cX8_pay 22 = .ok (.istore_n 2, 1) := by decide +kernel
theorem dX8_pay_23 : decode cX8_pay 23 = .ok (.iload_n 2, 1) := by decide +kernel
theorem dX8_pay_24 : decode cX8_pay 24 = .ok (.ifCond .ge 6, 3) := by decide +kernel
theorem dX8_pay_27 : decode cX8_pay 27 = .ok (.bipush (-2), 2) := by decide +kernel
theorem dX8_pay_29 : decode cX8_pay 29 = .ok (.ireturn, 1) := by decide +kernel
theorem dX8_pay_30 : decode cX8_pay 30 = .ok (.iconst 0, 1) := by decide +kernel
theorem dX8_pay_31 : decode cX8_pay 31 = .ok (.istore_n 3, 1) := by decide +kernel
theorem dX8_pay_32 : decode cX8_pay 32 = .ok (.iload_n 3, 1) := by decide +kernel
theorem dX8_pay_33 : decode cX8_pay 33 = .ok (.aload_n 0, 1) := by decide +kernel
theorem dX8_pay_34 : decode cX8_pay 34 = .ok (.getfield 9, 3) := by decide +kernel
theorem dX8_pay_37 : decode cX8_pay 37 = .ok (.iconst 0, 1) := by decide +kernel
theorem dX8_pay_38 : decode cX8_pay 38 = .ok (.iaload, 1) := by decide +kernel
theorem dX8_pay_39 : decode cX8_pay 39 = .ok (.if_icmp .ge 34, 3) := by decide +kernel
theorem dX8_pay_42 : decode cX8_pay 42 = .ok (.aload_n 0, 1) := by decide +kernel
theorem dX8_pay_43 : decode cX8_pay 43 = .ok (.getfield 39, 3) := by decide +kernel
theorem dX8_pay_46 : decode cX8_pay 46 = .ok (.iload_n 3, 1) := by decide +kernel
theorem dX8_pay_47 : decode cX8_pay 47 = .ok (.aload_n 0, 1) := by decide +kernel
theorem dX8_pay_48 : decode cX8_pay 48 = .ok (.getfield 9, 3) := by decide +kernel
theorem dX8_pay_51 : decode cX8_pay 51 = .ok (.bipush 11, 2) := by decide +kernel
theorem dX8_pay_53 : decode cX8_pay 53 = .ok (.iload_n 3, 1) := by decide +kernel
theorem dX8_pay_54 : decode cX8_pay 54 = .ok (.iadd, 1) := by decide +kernel
theorem dX8_pay_55 : decode cX8_pay 55 = .ok (.iaload, 1) := by decide +kernel
theorem dX8_pay_56 : decode cX8_pay 56 = .ok (.aload_n 0, 1) := by decide +kernel
theorem dX8_pay_57 : decode cX8_pay 57 = .ok (.getfield 9, 3) := by decide +kernel
theorem dX8_pay_60 : decode cX8_pay 60 = .ok (.bipush 43, 2) := by decide +kernel
theorem dX8_pay_62 : decode cX8_pay 62 = .ok (.iload_n 3, 1) := by decide +kernel
theorem dX8_pay_63 : decode cX8_pay 63 = .ok (.iadd, 1) := by decide +kernel
theorem dX8_pay_64 : decode cX8_pay 64 = .ok (.iaload, 1) := by decide +kernel
theorem dX8_pay_65 : decode cX8_pay 65 = .ok (.iadd, 1) := by decide +kernel
theorem dX8_pay_66 : decode cX8_pay 66 = .ok (.iastore, 1) := by decide +kernel
theorem dX8_pay_67 : decode cX8_pay 67 = .ok (.iinc 3 1, 3) := by decide +kernel
theorem dX8_pay_70 : decode cX8_pay 70 = .ok (.goto (-38), 3) := by decide +kernel
theorem dX8_pay_73 : decode cX8_pay 73 = .ok (.aload_n 0, 1) := by decide +kernel
theorem dX8_pay_74 : decode cX8_pay 74 = .ok (.aload_n 0, 1) := by decide +kernel
theorem dX8_pay_75 : decode cX8_pay 75 = .ok (.getfield 39, 3) := by decide +kernel
theorem dX8_pay_78 : decode cX8_pay 78 = .ok (.iconst 0, 1) := by decide +kernel
theorem dX8_pay_79 : decode cX8_pay 79 = .ok (.aload_n 0, 1) := by decide +kernel
theorem dX8_pay_80 : decode cX8_pay 80 = .ok (.getfield 9, 3) := by decide +kernel
theorem dX8_pay_83 : decode cX8_pay 83 = .ok (.iconst 0, 1) := by decide +kernel
theorem dX8_pay_84 : decode cX8_pay 84 = .ok (.iaload, 1) := by decide +kernel
theorem dX8_pay_85 : decode cX8_pay 85 = .ok (.iload_n 2, 1) := by decide +kernel
theorem dX8_pay_86 : decode cX8_pay 86 = .ok (.invokevirtual 235, 3) := by decide +kernel
theorem dX8_pay_89 : decode cX8_pay 89 = .ok (.istore_n 3, 1) := by decide +kernel
theorem dX8_pay_90 : decode cX8_pay 90 = .ok (.iload_n 3, 1) := by decide +kernel
theorem dX8_pay_91 : decode cX8_pay 91 = .ok (.iconst (-1), 1) := by decide +kernel
theorem dX8_pay_92 : decode cX8_pay 92 = .ok (.if_icmp .ne 6, 3) := by decide +kernel
theorem dX8_pay_95 : decode cX8_pay 95 = .ok (.bipush (-3), 2) := by decide +kernel
theorem dX8_pay_97 : decode cX8_pay 97 = .ok (.ireturn, 1) := by decide +kernel
theorem dX8_pay_98 : decode cX8_pay 98 = .ok (.iconst 0, 1) := by decide +kernel
theorem dX8_pay_99 : decode cX8_pay 99 = .ok (.istore 4, 2) := by decide +kernel
theorem dX8_pay_101 : decode cX8_pay 101 = .ok (.iload 4, 2) := by decide +kernel
theorem dX8_pay_103 : decode cX8_pay 103 = .ok (.aload_n 0, 1) := by decide +kernel
theorem dX8_pay_104 : decode cX8_pay 104 = .ok (.getfield 9, 3) := by decide +kernel
theorem dX8_pay_107 : decode cX8_pay 107 = .ok (.iconst 0, 1) := by decide +kernel
theorem dX8_pay_108 : decode cX8_pay 108 = .ok (.iaload, 1) := by decide +kernel
theorem dX8_pay_109 : decode cX8_pay 109 = .ok (.if_icmp .ge 55, 3) := by decide +kernel
theorem dX8_pay_112 : decode cX8_pay 112 = .ok (.aload_n 0, 1) := by decide +kernel
theorem dX8_pay_113 : decode cX8_pay 113 = .ok (.getfield 39, 3) := by decide +kernel
theorem dX8_pay_116 : decode cX8_pay 116 = .ok (.iload 4, 2) := by decide +kernel
theorem dX8_pay_118 : decode cX8_pay 118 = .ok (.iaload, 1) := by decide +kernel
theorem dX8_pay_119 : decode cX8_pay 119 = .ok (.aload_n 0, 1) := by decide +kernel
theorem dX8_pay_120 : decode cX8_pay 120 = .ok (.getfield 42, 3) := by decide +kernel
theorem dX8_pay_123 : decode cX8_pay 123 = .ok (.iload 4, 2) := by decide +kernel
theorem dX8_pay_125 : decode cX8_pay 125 = .ok (.iaload, 1) := by decide +kernel
theorem dX8_pay_126 : decode cX8_pay 126 = .ok (.isub, 1) := by decide +kernel
theorem dX8_pay_127 : decode cX8_pay 127 = .ok (.bipush 99, 2) := by decide +kernel
theorem dX8_pay_129 : decode cX8_pay 129 = .ok (.if_icmp .gt 26, 3) := by decide +kernel
theorem dX8_pay_132 : decode cX8_pay 132 = .ok (.aload_n 0, 1) := by decide +kernel
theorem dX8_pay_133 : decode cX8_pay 133 = .ok (.getfield 9, 3) := by decide +kernel
theorem dX8_pay_136 : decode cX8_pay 136 = .ok (.bipush 19, 2) := by decide +kernel
theorem dX8_pay_138 : decode cX8_pay 138 = .ok (.iload 4, 2) := by decide +kernel
theorem dX8_pay_140 : decode cX8_pay 140 = .ok (.iadd, 1) := by decide +kernel
theorem dX8_pay_141 : decode cX8_pay 141 = .ok (.iaload, 1) := by decide +kernel
theorem dX8_pay_142 : decode cX8_pay 142 = .ok (.aload_n 0, 1) := by decide +kernel
theorem dX8_pay_143 : decode cX8_pay 143 = .ok (.getfield 42, 3) := by decide +kernel
theorem dX8_pay_146 : decode cX8_pay 146 = .ok (.iload 4, 2) := by decide +kernel
theorem dX8_pay_148 : decode cX8_pay 148 = .ok (.iaload, 1) := by decide +kernel
theorem dX8_pay_149 : decode cX8_pay 149 = .ok (.iadd, 1) := by decide +kernel
theorem dX8_pay_150 : decode cX8_pay 150 = .ok (.bipush 99, 2) := by decide +kernel
theorem dX8_pay_152 : decode cX8_pay 152 = .ok (.if_icmp .le 6, 3) := by decide +kernel
theorem dX8_pay_155 : decode cX8_pay 155 = .ok (.bipush (-4), 2) := by decide +kernel
theorem dX8_pay_157 : decode cX8_pay 157 = .ok (.ireturn, 1) := by decide +kernel
theorem dX8_pay_158 : decode cX8_pay 158 = .ok (.iinc 4 1, 3) := by decide +kernel
theorem dX8_pay_161 : decode cX8_pay 161 = .ok (.goto (-60), 3) := by decide +kernel
theorem dX8_pay_164 : decode cX8_pay 164 = .ok (.aload_n 0, 1) := by decide +kernel
theorem dX8_pay_165 : decode cX8_pay 165 = .ok (.invokevirtual 224, 3) := by decide +kernel
theorem dX8_pay_168 : decode cX8_pay 168 = .ok (.iconst 0, 1) := by decide +kernel
theorem dX8_pay_169 : decode cX8_pay 169 = .ok (.istore 4, 2) := by decide +kernel
theorem dX8_pay_171 : decode cX8_pay 171 = .ok (.iload 4, 2) := by decide +kernel
theorem dX8_pay_173 : decode cX8_pay 173 = .ok (.aload_n 0, 1) := by decide +kernel
theorem dX8_pay_174 : decode cX8_pay 174 = .ok (.getfield 9, 3) := by decide +kernel
theorem dX8_pay_177 : decode cX8_pay 177 = .ok (.iconst 0, 1) := by decide +kernel
theorem dX8_pay_178 : decode cX8_pay 178 = .ok (.iaload, 1) := by decide +kernel
theorem dX8_pay_179 : decode cX8_pay 179 = .ok (.if_icmp .ge 65, 3) := by decide +kernel
theorem dX8_pay_182 : decode cX8_pay 182 = .ok (.aload_n 0, 1) := by decide +kernel
theorem dX8_pay_183 : decode cX8_pay 183 = .ok (.getfield 9, 3) := by decide +kernel
theorem dX8_pay_186 : decode cX8_pay 186 = .ok (.bipush 11, 2) := by decide +kernel
theorem dX8_pay_188 : decode cX8_pay 188 = .ok (.iload 4, 2) := by decide +kernel
theorem dX8_pay_190 : decode cX8_pay 190 = .ok (.iadd, 1) := by decide +kernel
theorem dX8_pay_191 : decode cX8_pay 191 = .ok (.aload_n 0, 1) := by decide +kernel
theorem dX8_pay_192 : decode cX8_pay 192 = .ok (.getfield 39, 3) := by decide +kernel
theorem dX8_pay_195 : decode cX8_pay 195 = .ok (.iload 4, 2) := by decide +kernel
theorem dX8_pay_197 : decode cX8_pay 197 = .ok (.iaload, 1) := by decide +kernel
theorem dX8_pay_198 : decode cX8_pay 198 = .ok (.aload_n 0, 1) := by decide +kernel
theorem dX8_pay_199 : decode cX8_pay 199 = .ok (.getfield 42, 3) := by decide +kernel
theorem dX8_pay_202 : decode cX8_pay 202 = .ok (.iload 4, 2) := by decide +kernel
theorem dX8_pay_204 : decode cX8_pay 204 = .ok (.iaload, 1) := by decide +kernel
theorem dX8_pay_205 : decode cX8_pay 205 = .ok (.isub, 1) := by decide +kernel
theorem dX8_pay_206 : decode cX8_pay 206 = .ok (.iastore, 1) := by decide +kernel
theorem dX8_pay_207 : decode cX8_pay 207 = .ok (.aload_n 0, 1) := by decide +kernel
theorem dX8_pay_208 : decode cX8_pay 208 = .ok (.getfield 9, 3) := by decide +kernel
theorem dX8_pay_211 : decode cX8_pay 211 = .ok (.bipush 19, 2) := by decide +kernel
theorem dX8_pay_213 : decode cX8_pay 213 = .ok (.iload 4, 2) := by decide +kernel
theorem dX8_pay_215 : decode cX8_pay 215 = .ok (.iadd, 1) := by decide +kernel
theorem dX8_pay_216 : decode cX8_pay 216 = .ok (.dup2, 1) := by decide +kernel
theorem dX8_pay_217 : decode cX8_pay 217 = .ok (.iaload, 1) := by decide +kernel
theorem dX8_pay_218 : decode cX8_pay 218 = .ok (.aload_n 0, 1) := by decide +kernel
theorem dX8_pay_219 : decode cX8_pay 219 = .ok (.getfield 42, 3) := by decide +kernel
theorem dX8_pay_222 : decode cX8_pay 222 = .ok (.iload 4, 2) := by decide +kernel
theorem dX8_pay_224 : decode cX8_pay 224 = .ok (.iaload, 1) := by decide +kernel
theorem dX8_pay_225 : decode cX8_pay 225 = .ok (.iadd, 1) := by decide +kernel
theorem dX8_pay_226 : decode cX8_pay 226 = .ok (.iastore, 1) := by decide +kernel
theorem dX8_pay_227 : decode cX8_pay 227 = .ok (.aload_n 0, 1) := by decide +kernel
theorem dX8_pay_228 : decode cX8_pay 228 = .ok (.getfield 9, 3) := by decide +kernel
theorem dX8_pay_231 : decode cX8_pay 231 = .ok (.bipush 43, 2) := by decide +kernel
theorem dX8_pay_233 : decode cX8_pay 233 = .ok (.iload 4, 2) := by decide +kernel
theorem dX8_pay_235 : decode cX8_pay 235 = .ok (.iadd, 1) := by decide +kernel
theorem dX8_pay_236 : decode cX8_pay 236 = .ok (.iconst 0, 1) := by decide +kernel
theorem dX8_pay_237 : decode cX8_pay 237 = .ok (.iastore, 1) := by decide +kernel
theorem dX8_pay_238 : decode cX8_pay 238 = .ok (.iinc 4 1, 3) := by decide +kernel
theorem dX8_pay_241 : decode cX8_pay 241 = .ok (.goto (-70), 3) := by decide +kernel
theorem dX8_pay_244 : decode cX8_pay 244 = .ok (.iload_n 3, 1) := by decide +kernel
theorem dX8_pay_245 : decode cX8_pay 245 = .ok (.ireturn, 1) := by decide +kernel
set_option maxHeartbeats 4000000 in
set_option maxRecDepth 100000 in
theorem m_X8_pay (l : Launch) (p : Int) (mem : Mem) (hp : i32 p) (hP : 0 ≤ mem 0 5 ∧ mem 0 5 ≤ 10) (hG : GR (mem 1)) (hTy : 0 ≤ sumN (fun k => mem 1 (43 + k) * mem 1 (3 + k)) (mem 1 0).toNat ∧ sumN (fun k => mem 1 (43 + k) * mem 1 (3 + k)) (mem 1 0).toNat ≤ 2500) : Ret shp l yX8_pay cX8_pay 5 (some .int) 4 [pR 0, pI p] mem (fun rv mv => ∃ z, rv = some (pI z) ∧ ((¬ (1 ≤ p ∧ p ≤ 1000) ∧ z = -1 ∨ (1 ≤ p ∧ p ≤ 1000) ∧ rpA (mem 1) p < 0 ∧ z = -2 ∨ (1 ≤ p ∧ p ≤ 1000) ∧ 0 ≤ rpA (mem 1) p ∧ ¬ rpV (mem 1) p < 1000000 ∧ z = -3 ∨ (1 ≤ p ∧ p ≤ 1000) ∧ 0 ≤ rpA (mem 1) p ∧ rpV (mem 1) p < 1000000 ∧ (∃ k : Nat, (k : Int) < mem 1 0 ∧ ¬ rpOk (mem 1) p k) ∧ z = -4) ∧ (∀ a, a ≠ 8 → a ≠ 9 → a ≠ 10 → a ≠ 11 → mv a = mem a) ∨ (1 ≤ p ∧ p ≤ 1000) ∧ 0 ≤ rpA (mem 1) p ∧ rpV (mem 1) p < 1000000 ∧ (∀ k : Nat, (k : Int) < mem 1 0 → rpOk (mem 1) p k) ∧ z = rpV (mem 1) p ∧ ∃ mS m1, (∀ a, a ≠ 8 → a ≠ 9 → a ≠ 10 → a ≠ 11 → mS a = mem a) ∧ PastPush mS m1 ∧ (∀ a, a ≠ 1 → mv a = m1 a) ∧ mv 1 = rpN (mem 1) p (mem 1 0).toNat)) := by
  refine ret_of (by decide +kernel) (Nat.le_of_ble_eq_true rfl) (fun X hX F G => ?_)
  show Ok shp X 5 0 [(0, pR 0), (1, pI p)] [] mem
  have g0 := hG.1
  have hV := hG.2.2.2.1
  have hV1 := hG.2.2.2.2.1
  have hT := fun k hk => hG.2.2.2.2.2.1 0 (by decide) k hk
  have hU := fun k hk => hG.2.2.2.2.2.1 1 (by decide) k hk
  have hY := fun k hk => hG.2.2.2.2.2.1 4 (by decide) k hk
  have hpd : rpA (mem 1) p = sumN (fun k => mem 1 (43 + k) * mem 1 (3 + k)) (mem 1 0).toNat - p := rfl
  have hT : ∀ k : Nat, k < 8 → 0 ≤ mem 1 (11 + k) ∧ mem 1 (11 + k) ≤ 99 := hT
  have hU : ∀ k : Nat, k < 8 → 0 ≤ mem 1 (19 + k) ∧ mem 1 (19 + k) ≤ 99 := hU
  have hY : ∀ k : Nat, k < 8 → 0 ≤ mem 1 (43 + k) ∧ mem 1 (43 + k) ≤ 99 := hY
  refine ok_iload_n F dX8_pay_0 1 rfl ?_
  refine ok_i2l F dX8_pay_1 (by omega) ?_
  refine ok_lconst (z := 1) F dX8_pay_2 rfl ?_
  refine ok_ldc2 (n := 1000) F dX8_pay_3 kJ_X8_230 rfl ?_
  refine ok_calls F [pL p, pL 1, pL 1000] dX8_pay_6 kM_X8_in kS_X8_in kL_X8_100 rfl (by decide) (Nat.le_of_ble_eq_true rfl) rfl (m_X8_in _ p 1 1000 mem (by omega) (by omega) (by omega)) ?_
  rintro _ _ ⟨rfl, rfl⟩
  refine ok_if_ne F 14 dX8_pay_9 (by decide) (by omega) (fun c_1 => ?_) (fun c_1 => ?_)
  · refine ok_aload_n F dX8_pay_14 0 rfl ?_
    refine ok_bipush F dX8_pay_15 rfl ?_
    refine ok_callv F [pI 43] dX8_pay_17 kM_X8_worthOf kI_X8_worthOf kV_X8_worthOf kL_X8_232 (ci := 8) rfl sh_0 rfl (by decide) (Nat.le_of_ble_eq_true rfl) rfl (m_X8_worthOf _ 43 mem (by omega) (g0)) ?_
    rintro _ _ ⟨rfl, rfl⟩
    refine ok_iload_n F dX8_pay_20 1 rfl ?_
    refine ok_isub F dX8_pay_21 ?_
    refine ok_istore_n (lv' := [(2, pI ((sumN (fun k => mem 1 (43 + k) * mem 1 (3 + k)) (mem 1 0).toNat) - p)), (0, pR 0), (1, pI p)]) F dX8_pay_22 (by decide) rfl ?_
    refine ok_iload_n F dX8_pay_23 0 rfl ?_
    refine ok_if_ge F 30 dX8_pay_24 (by decide) (by omega) (fun c_2 => ?_) (fun c_2 => ?_)
    · refine ok_iconst F dX8_pay_30 ?_
      refine ok_istore_n (lv' := [(3, pI 0), (2, pI ((sumN (fun k => mem 1 (43 + k) * mem 1 (3 + k)) (mem 1 0).toNat) - p)), (0, pR 0), (1, pI p)]) F dX8_pay_31 (by decide) rfl ?_
      have hL_32 : ∀ (n_32 : Nat) (i : Int) (m8 : Mem), (0 ≤ i ∧ i ≤ mem 1 0 ∧ (∀ c, c ≠ 10 → m8 c = mem c) ∧ ∀ k : Nat, m8 10 k = if (k : Int) < i then mem 1 (11 + k) + mem 1 (43 + k) else mem 10 k) → (mem 1 0 - i).toNat = n_32 → Ok shp X 5 32 [(0, pR 0), (1, pI p), (2, pI ((sumN (fun k => mem 1 (43 + k) * mem 1 (3 + k)) (mem 1 0).toNat) - p)), (3, pI i)] [] m8 := by
        intro n_32
        induction n_32 using Nat.strongRecOn with
        | _ n_32 ih_32 =>
          intro i m8 hI_32 hn_32
          obtain ⟨hi0, hi1, hF8, h8i⟩ := hI_32
          refine ok_iload_n F dX8_pay_32 3 rfl ?_
          refine ok_aload_n F dX8_pay_33 0 rfl ?_
          refine ok_getr F dX8_pay_34 kF_X8_9 sh_0 rfl ?_
          refine ok_iconst F dX8_pay_37 ?_
          refine ok_iald (v := mem 1 0) F dX8_pay_38 sh_1 (by first | decide | assumption) (by omega) (by omega) (by rw [(hF8 1 (by decide))] <;> rfl) ?_
          refine ok_icmp_ge F 73 dX8_pay_39 (by decide) (by omega) (by omega) (fun c_3 => ?_) (fun c_3 => ?_)
          · have h8 : ∀ k : Nat, m8 10 k = if (k : Int) < mem 1 0 then mem 1 (11 + k) + mem 1 (43 + k) else mem 10 k := fun k => by rw [h8i, show i = mem 1 0 by omega]
            refine ok_aload_n F dX8_pay_73 0 rfl ?_
            refine ok_aload_n F dX8_pay_74 0 rfl ?_
            refine ok_getr F dX8_pay_75 kF_X8_39 sh_0 rfl ?_
            refine ok_iconst F dX8_pay_78 ?_
            refine ok_aload_n F dX8_pay_79 0 rfl ?_
            refine ok_getr F dX8_pay_80 kF_X8_9 sh_0 rfl ?_
            refine ok_iconst F dX8_pay_83 ?_
            refine ok_iald (v := mem 1 0) F dX8_pay_84 sh_1 (by first | decide | assumption) (by omega) (by omega) (by rw [(hF8 1 (by decide))] <;> rfl) ?_
            refine ok_iload_n F dX8_pay_85 2 rfl ?_
            refine ok_callv F [pR 10, pI 0, pI (mem 1 0), pI ((sumN (fun k => mem 1 (43 + k) * mem 1 (3 + k)) (mem 1 0).toNat) - p)] dX8_pay_86 kM_X8_changes kI_X8_changes kV_X8_changes kL_X8_235 (ci := 8) rfl sh_0 rfl (by decide) (Nat.le_of_ble_eq_true rfl) rfl (m_X8_changes _ 10 0 (mem 1 0) ((sumN (fun k => mem 1 (43 + k) * mem 1 (3 + k)) (mem 1 0).toNat) - p) m8 (8) (sh_10) (by decide) (by decide) (by decide) (by omega) (by omega) (by omega) (fun i hi => by rw [hF8 1 (by decide)]; have q1 := hV i (by omega); have q2 := hV1 i (by omega); omega) (fun i hi => by have q1 := h8 i; rw [if_pos (by omega)] at q1; rw [show (0 : Int).toNat + i = i from Nat.zero_add i, q1]; have q2 := hT i (by omega); have q3 := hY i (by omega); omega) (by decide)) ?_
            rintro _ m_5 ⟨z_4, rfl, r_6⟩
            obtain ⟨t1, t3⟩ := id r_6
            rw [hF8 1 (by decide)] at t3
            have cg : ∀ i, i < (mem 1 0).toNat → (m8 10 ((0 : Int).toNat + i)).toNat = (mem 1 (11 + i) + mem 1 (43 + i)).toNat := fun i hi => by rw [show (0 : Int).toNat + i = i from Nat.zero_add i, h8, if_pos (by omega)]
            have ef : fewT (fun i => (mem 1 (3 + i)).toNat) (fun i => (m8 10 ((0 : Int).toNat + i)).toNat) (mem 1 0).toNat (sumN (fun k => mem 1 (43 + k) * mem 1 (3 + k)) (mem 1 0).toNat - p).toNat = rpV (mem 1) p := fewT_congr _ cg
            rw [ef] at t3
            have pb : 0 ≤ rpV (mem 1) p ∧ rpV (mem 1) p ≤ 1000000 := fewT_bd _ _ _ _
            obtain ⟨mB, hmB⟩ : ∃ x, x = m_5 := ⟨_, rfl⟩
            have t4 : rpV (mem 1) p = 1000000 ∧ z_4 = -1 ∨ rpV (mem 1) p < 1000000 ∧ z_4 = rpV (mem 1) p := t3.imp id (fun q => ⟨q.1, q.2.1⟩)
            have hz0 : rpV (mem 1) p < 1000000 → z_4 = rpV (mem 1) p := fun q => by omega
            have t5 : rpV (mem 1) p < 1000000 → ∀ j : Nat, (j : Int) < mem 1 0 → mB 11 j = rpD (mem 1) p j ∧ rpD (mem 1) p j ≤ mem 1 (11 + j) + mem 1 (43 + j) ∧ 0 ≤ rpD (mem 1) p j := fun q j hj => by
              have q2 := (t3.resolve_left (fun z => by omega)).2.2 j (by omega)
              rw [takR_congr (c' := (fun i => (mem 1 (11 + i) + mem 1 (43 + i)).toNat)) _ _ cg] at q2
              have q3 := (takR_rep q).2.2 j (by omega)
              have q4 := hT j (by omega)
              have q5 := hY j (by omega)
              have q6 : rpD (mem 1) p j = ((takR (fun i => (mem 1 (3 + i)).toNat) (fun i => (mem 1 (11 + i) + mem 1 (43 + i)).toNat) (mem 1 0).toNat (rpA (mem 1) p).toNat j : Nat) : Int) := rfl
              refine ⟨by rw [hmB]; exact q2, ?_, ?_⟩ <;> omega
            have t6 : ∀ j : Nat, mB 10 j = m8 10 j := fun j => by rw [hmB, t1 10 (by decide) (by decide) (by decide)]
            refine ok_istore_n (lv' := [(3, pI z_4), (0, pR 0), (1, pI p), (2, pI ((sumN (fun k => mem 1 (43 + k) * mem 1 (3 + k)) (mem 1 0).toNat) - p))]) F dX8_pay_89 (by decide) rfl ?_
            refine ok_iload_n F dX8_pay_90 0 rfl ?_
            refine ok_iconst F dX8_pay_91 ?_
            refine ok_icmp_ne F 98 dX8_pay_92 (by decide) (by omega) (by omega) (fun c_7 => ?_) (fun c_7 => ?_)
            · have hT1 : rpV (mem 1) p < 1000000 := by omega
              have hz := hz0 hT1
              refine ok_iconst F dX8_pay_98 ?_
              refine ok_istore (lv' := [(4, pI 0), (3, pI z_4), (0, pR 0), (1, pI p), (2, pI ((sumN (fun k => mem 1 (43 + k) * mem 1 (3 + k)) (mem 1 0).toNat) - p))]) F dX8_pay_99 (by decide) rfl ?_
              have hL_101 : ∀ (n_101 : Nat) (k : Int), (0 ≤ k ∧ k ≤ mem 1 0 ∧ ∀ i : Nat, (i : Int) < k → rpOk (mem 1) p i) → (mem 1 0 - k).toNat = n_101 → Ok shp X 5 101 [(0, pR 0), (1, pI p), (2, pI ((sumN (fun k => mem 1 (43 + k) * mem 1 (3 + k)) (mem 1 0).toNat) - p)), (3, pI z_4), (4, pI k)] [] m_5 := by
                intro n_101
                induction n_101 using Nat.strongRecOn with
                | _ n_101 ih_101 =>
                  intro k hI_101 hn_101
                  refine ok_iload F dX8_pay_101 4 rfl ?_
                  refine ok_aload_n F dX8_pay_103 0 rfl ?_
                  refine ok_getr F dX8_pay_104 kF_X8_9 sh_0 rfl ?_
                  refine ok_iconst F dX8_pay_107 ?_
                  refine ok_iald (v := mem 1 0) F dX8_pay_108 sh_1 (by first | decide | assumption) (by omega) (by omega) (by rw [(r_6.1 1 (by decide) (by decide) (by decide)), (hF8 1 (by decide))] <;> rfl) ?_
                  refine ok_icmp_ge F 164 dX8_pay_109 (by decide) (by omega) (by omega) (fun c_8 => ?_) (fun c_8 => ?_)
                  · refine ok_aload_n F dX8_pay_164 0 rfl ?_
                    refine ok_callv F [] dX8_pay_165 kM_X8_keepsPast kI_X8_keepsPast kV_X8_keepsPast kL_X8_224 (ci := 8) rfl sh_0 rfl (by decide) (Nat.le_of_ble_eq_true rfl) rfl (m_X8_keepsPast _ m_5 (by rw [t1 0 (by decide) (by decide) (by decide), hF8 0 (by decide)]; exact hP)) ?_
                    rintro _ m_10 ⟨rfl, r_11⟩
                    obtain ⟨m9, hm9⟩ : ∃ x, x = m_10 := ⟨_, rfl⟩
                    have hPP : PastPush mB m9 := by rw [hm9, hmB]; exact r_11
                    have h91 : m9 1 = mem 1 := by rw [PastPush.now hPP, hmB, t1 1 (by decide) (by decide) (by decide), hF8 1 (by decide)]
                    have h9o : ∀ a, a ≠ 0 → a ≠ 3 → m9 a = mB a := hPP.1
                    refine ok_iconst F dX8_pay_168 ?_
                    refine ok_istore (lv' := [(4, pI 0), (0, pR 0), (1, pI p), (2, pI ((sumN (fun k => mem 1 (43 + k) * mem 1 (3 + k)) (mem 1 0).toNat) - p)), (3, pI z_4)]) F dX8_pay_169 (by decide) rfl ?_
                    have hL_171 : ∀ (n_171 : Nat) (j : Int) (m : Mem), (0 ≤ j ∧ j ≤ mem 1 0 ∧ (∀ c, c ≠ 1 → m c = m9 c) ∧ m 1 = rpN (mem 1) p j.toNat) → (mem 1 0 - j).toNat = n_171 → Ok shp X 5 171 [(0, pR 0), (1, pI p), (2, pI ((sumN (fun k => mem 1 (43 + k) * mem 1 (3 + k)) (mem 1 0).toNat) - p)), (3, pI z_4), (4, pI j)] [] m := by
                      intro n_171
                      induction n_171 using Nat.strongRecOn with
                      | _ n_171 ih_171 =>
                        intro j m hI_171 hn_171
                        obtain ⟨hj0, hj1, hF, hR⟩ := hI_171
                        have hN0 : m 1 0 = mem 1 0 := by rw [hR]; unfold rpN; rw [if_neg (by omega), if_neg (by omega), if_neg (by omega)]
                        refine ok_iload F dX8_pay_171 4 rfl ?_
                        refine ok_aload_n F dX8_pay_173 0 rfl ?_
                        refine ok_getr F dX8_pay_174 kF_X8_9 sh_0 rfl ?_
                        refine ok_iconst F dX8_pay_177 ?_
                        refine ok_iald (v := m 1 0) F dX8_pay_178 sh_1 (by first | decide | assumption) (by omega) (by omega) rfl ?_
                        refine ok_icmp_ge F 244 dX8_pay_179 (by decide) (by omega) (by omega) (fun c_12 => ?_) (fun c_12 => ?_)
                        · refine ok_iload_n F dX8_pay_244 3 rfl ?_
                          refine ok_iret F G dX8_pay_245 ?_
                          refine ⟨_, rfl, Or.inr ⟨by omega, by omega, hT1, fun i hi => hI_101.2.2 i (by omega), hz, mB, m9, fun a c1 c2 c3 c4 => by rw [hmB, t1 a c1 c2 c4]; exact hF8 a c3, hPP, hF, ?_⟩⟩
                          rw [hR, show j = mem 1 0 by omega]
                        · have a1 := hT j.toNat (by omega)
                          have a2 := hU j.toNat (by omega)
                          have a5 := hY j.toNat (by omega)
                          obtain ⟨a3, a4, a6⟩ := t5 hT1 j.toNat (by omega)
                          have a7 := t6 j.toNat
                          have a8 := h8 j.toNat
                          rw [if_pos (by omega)] at a8
                          have s1 : 11 + j.toNat = (11 + j).toNat := by omega
                          have s2 : 19 + j.toNat = (19 + j).toNat := by omega
                          have s3 : 43 + j.toNat = (43 + j).toNat := by omega
                          have b1 : m 10 j.toNat = mem 1 (11 + j.toNat) + mem 1 (43 + j.toNat) := by rw [hF 10 (by decide), h9o 10 (by decide) (by decide), a7, a8]
                          have b2 : m 11 j.toNat = rpD (mem 1) p j.toNat := by rw [hF 11 (by decide), h9o 11 (by decide) (by decide), a3]
                          have b3 : m 1 (19 + j).toNat = mem 1 (19 + j.toNat) := by rw [← s2, hR]; unfold rpN; rw [if_neg (by omega), if_neg (by omega), if_neg (by omega)]
                          have b4 : mem 1 (19 + j.toNat) = mem 1 (19 + j).toNat := by rw [s2]
                          refine ok_aload_n F dX8_pay_182 0 rfl ?_
                          refine ok_getr F dX8_pay_183 kF_X8_9 sh_0 rfl ?_
                          refine ok_bipush F dX8_pay_186 rfl ?_
                          refine ok_iload F dX8_pay_188 4 rfl ?_
                          refine ok_iadd F dX8_pay_190 ?_
                          refine ok_aload_n F dX8_pay_191 0 rfl ?_
                          refine ok_getr F dX8_pay_192 kF_X8_39 sh_0 rfl ?_
                          refine ok_iload F dX8_pay_195 4 rfl ?_
                          refine ok_iald (v := m 10 j.toNat) F dX8_pay_197 sh_10 (by first | decide | assumption) (by omega) (by omega) rfl ?_
                          refine ok_aload_n F dX8_pay_198 0 rfl ?_
                          refine ok_getr F dX8_pay_199 kF_X8_42 sh_0 rfl ?_
                          refine ok_iload F dX8_pay_202 4 rfl ?_
                          refine ok_iald (v := m 11 j.toNat) F dX8_pay_204 sh_11 (by first | decide | assumption) (by omega) (by omega) rfl ?_
                          refine ok_isub F dX8_pay_205 ?_
                          refine ok_iast F dX8_pay_206 sh_1 (by first | decide | assumption) (by omega) (by omega) (fun m_13 e_14 => ?_)
                          refine ok_aload_n F dX8_pay_207 0 rfl ?_
                          refine ok_getr F dX8_pay_208 kF_X8_9 sh_0 rfl ?_
                          refine ok_bipush F dX8_pay_211 rfl ?_
                          refine ok_iload F dX8_pay_213 4 rfl ?_
                          refine ok_iadd F dX8_pay_215 ?_
                          refine ok_dup2 F dX8_pay_216 rfl rfl ?_
                          refine ok_iald (v := m_13 1 ((19 + j).toNat)) F dX8_pay_217 sh_1 (by first | decide | assumption) (by omega) (by omega) rfl ?_
                          refine ok_aload_n F dX8_pay_218 0 rfl ?_
                          refine ok_getr F dX8_pay_219 kF_X8_42 sh_0 rfl ?_
                          refine ok_iload F dX8_pay_222 4 rfl ?_
                          refine ok_iald (v := m 11 j.toNat) F dX8_pay_224 sh_11 (by first | decide | assumption) (by omega) (by omega) (by rw [e_14, mset_nk (by decide)] <;> rfl) ?_
                          refine ok_iadd F dX8_pay_225 ?_
                          refine ok_iast F dX8_pay_226 sh_1 (by first | decide | assumption) (by omega) (by omega) (fun m_15 e_16 => ?_)
                          refine ok_aload_n F dX8_pay_227 0 rfl ?_
                          refine ok_getr F dX8_pay_228 kF_X8_9 sh_0 rfl ?_
                          refine ok_bipush F dX8_pay_231 rfl ?_
                          refine ok_iload F dX8_pay_233 4 rfl ?_
                          refine ok_iadd F dX8_pay_235 ?_
                          refine ok_iconst F dX8_pay_236 ?_
                          refine ok_iast F dX8_pay_237 sh_1 (by first | decide | assumption) (by omega) (by omega) (fun m_17 e_18 => ?_)
                          refine ok_iinc (lv' := [(4, pI (j + 1)), (0, pR 0), (1, pI p), (2, pI ((sumN (fun k => mem 1 (43 + k) * mem 1 (3 + k)) (mem 1 0).toNat) - p)), (3, pI z_4)]) F dX8_pay_238 4 rfl (by decide) rfl ?_
                          refine ok_goto F 171 dX8_pay_241 (by decide) ?_
                          refine ok_lvp [1, 2, 3, 4, 0] (lv' := [(0, pR 0), (1, pI p), (2, pI ((sumN (fun k => mem 1 (43 + k) * mem 1 (3 + k)) (mem 1 0).toNat) - p)), (3, pI z_4), (4, pI (j + 1))]) rfl ?_
                          refine ih_171 _ ?_ (j + 1) m_17 ?_ rfl
                          · omega
                          · refine ⟨by omega, by omega, fun c c1 => by rw [e_18, e_16, e_14, mset_nka c1, mset_nka c1, mset_nka c1]; exact hF c c1, ?_⟩
                            funext b
                            rw [e_18, e_16, e_14, show (j + 1).toNat = j.toNat + 1 by omega]
                            by_cases z3 : b = (43 + j).toNat
                            · rw [z3, mset_eq]; unfold rpN; rw [if_neg (by omega), if_neg (by omega), if_pos (by omega)]
                            · rw [mset_ne (fun q => z3 q.2)]
                              by_cases z2 : b = (19 + j).toNat
                              · rw [z2, mset_eq]; unfold rpN; rw [if_neg (by omega), if_pos (by omega), show (19 + j).toNat - 19 = j.toNat by omega, mset_ne (by omega)]; omega
                              · rw [mset_ne (fun q => z2 q.2)]
                                by_cases z1 : b = (11 + j).toNat
                                · rw [z1, mset_eq]; unfold rpN; rw [if_pos (by omega), show (11 + j).toNat - 11 = j.toNat by omega, show (11 + j).toNat + 32 = 43 + j.toNat by omega, ← s1]; omega
                                · rw [mset_ne (fun q => z1 q.2), hR]; unfold rpN
                                  by_cases y1 : 11 ≤ b ∧ b < 11 + j.toNat
                                  · rw [if_pos y1, if_pos (show 11 ≤ b ∧ b < 11 + (j.toNat + 1) by omega)]
                                  · rw [if_neg y1, if_neg (show ¬ (11 ≤ b ∧ b < 11 + (j.toNat + 1)) by omega)]
                                    by_cases y2 : 19 ≤ b ∧ b < 19 + j.toNat
                                    · rw [if_pos y2, if_pos (show 19 ≤ b ∧ b < 19 + (j.toNat + 1) by omega)]
                                    · rw [if_neg y2, if_neg (show ¬ (19 ≤ b ∧ b < 19 + (j.toNat + 1)) by omega)]
                                      by_cases y3 : 43 ≤ b ∧ b < 43 + j.toNat
                                      · rw [if_pos y3, if_pos (show 43 ≤ b ∧ b < 43 + (j.toNat + 1) by omega)]
                                      · rw [if_neg y3, if_neg (show ¬ (43 ≤ b ∧ b < 43 + (j.toNat + 1)) by omega)]
                    refine ok_lvp [1, 2, 3, 4, 0] (lv' := [(0, pR 0), (1, pI p), (2, pI ((sumN (fun k => mem 1 (43 + k) * mem 1 (3 + k)) (mem 1 0).toNat) - p)), (3, pI z_4), (4, pI 0)]) rfl ?_
                    refine hL_171 _ 0 m_10 ?_ rfl
                    rw [← hm9]
                    exact ⟨by omega, by omega, fun _ _ => rfl, by rw [h91]; exact (rpN_0 _ _).symm⟩
                  · have a1 := hT k.toNat (by omega)
                    have a2 := hU k.toNat (by omega)
                    have a5 := hY k.toNat (by omega)
                    obtain ⟨a3, a4, a6⟩ := t5 hT1 k.toNat (by omega)
                    have a7 := t6 k.toNat
                    have a8 := h8 k.toNat
                    rw [if_pos (by omega)] at a8
                    rw [hmB] at a3 a7
                    have s1 : 11 + k.toNat = (11 + k).toNat := by omega
                    have s2 : 19 + k.toNat = (19 + k).toNat := by omega
                    have s3 : 43 + k.toNat = (43 + k).toNat := by omega
                    have okd : rpOk (mem 1) p k.toNat ↔ mem 1 (11 + k.toNat) + mem 1 (43 + k.toNat) - rpD (mem 1) p k.toNat < 100 ∧ mem 1 (19 + k.toNat) + rpD (mem 1) p k.toNat < 100 := Iff.rfl
                    rw [s1] at a1 a4 a8 okd
                    rw [s2] at a2 okd
                    rw [s3] at a5 a4 a8 okd
                    refine ok_aload_n F dX8_pay_112 0 rfl ?_
                    refine ok_getr F dX8_pay_113 kF_X8_39 sh_0 rfl ?_
                    refine ok_iload F dX8_pay_116 4 rfl ?_
                    refine ok_iald (v := m_5 10 k.toNat) F dX8_pay_118 sh_10 (by first | decide | assumption) (by omega) (by omega) rfl ?_
                    refine ok_aload_n F dX8_pay_119 0 rfl ?_
                    refine ok_getr F dX8_pay_120 kF_X8_42 sh_0 rfl ?_
                    refine ok_iload F dX8_pay_123 4 rfl ?_
                    refine ok_iald (v := m_5 11 k.toNat) F dX8_pay_125 sh_11 (by first | decide | assumption) (by omega) (by omega) rfl ?_
                    refine ok_isub F dX8_pay_126 ?_
                    refine ok_bipush F dX8_pay_127 rfl ?_
                    refine ok_icmp_gt F 155 dX8_pay_129 (by decide) (by omega) (by omega) (fun c_19 => ?_) (fun c_19 => ?_)
                    · refine ok_bipush F dX8_pay_155 rfl ?_
                      refine ok_iret F G dX8_pay_157 ?_
                      exact ⟨_, rfl, Or.inl ⟨Or.inr (Or.inr (Or.inr ⟨by omega, by omega, hT1, ⟨k.toNat, by omega, fun q => by have q1 := okd.mp q; omega⟩, rfl⟩)), fun a c1 c2 c3 c4 => by rw [t1 a c1 c2 c4]; exact hF8 a c3⟩⟩
                    · refine ok_aload_n F dX8_pay_132 0 rfl ?_
                      refine ok_getr F dX8_pay_133 kF_X8_9 sh_0 rfl ?_
                      refine ok_bipush F dX8_pay_136 rfl ?_
                      refine ok_iload F dX8_pay_138 4 rfl ?_
                      refine ok_iadd F dX8_pay_140 ?_
                      refine ok_iald (v := mem 1 ((19 + k).toNat)) F dX8_pay_141 sh_1 (by first | decide | assumption) (by omega) (by omega) (by rw [(r_6.1 1 (by decide) (by decide) (by decide)), (hF8 1 (by decide))] <;> rfl) ?_
                      refine ok_aload_n F dX8_pay_142 0 rfl ?_
                      refine ok_getr F dX8_pay_143 kF_X8_42 sh_0 rfl ?_
                      refine ok_iload F dX8_pay_146 4 rfl ?_
                      refine ok_iald (v := m_5 11 k.toNat) F dX8_pay_148 sh_11 (by first | decide | assumption) (by omega) (by omega) rfl ?_
                      refine ok_iadd F dX8_pay_149 ?_
                      refine ok_bipush F dX8_pay_150 rfl ?_
                      refine ok_icmp_le F 158 dX8_pay_152 (by decide) (by omega) (by omega) (fun c_20 => ?_) (fun c_20 => ?_)
                      · refine ok_iinc (lv' := [(4, pI (k + 1)), (0, pR 0), (1, pI p), (2, pI ((sumN (fun k => mem 1 (43 + k) * mem 1 (3 + k)) (mem 1 0).toNat) - p)), (3, pI z_4)]) F dX8_pay_158 4 rfl (by decide) rfl ?_
                        refine ok_goto F 101 dX8_pay_161 (by decide) ?_
                        refine ok_lvp [1, 2, 3, 4, 0] (lv' := [(0, pR 0), (1, pI p), (2, pI ((sumN (fun k => mem 1 (43 + k) * mem 1 (3 + k)) (mem 1 0).toNat) - p)), (3, pI z_4), (4, pI (k + 1))]) rfl ?_
                        refine ih_101 _ ?_ (k + 1) ?_ rfl
                        · omega
                        · refine ⟨by omega, by omega, fun i hi => ?_⟩
                          by_cases e : (i : Int) < k
                          · exact hI_101.2.2 i e
                          · rw [show i = k.toNat by omega]; exact okd.mpr ⟨by omega, by omega⟩
                      · refine ok_bipush F dX8_pay_155 rfl ?_
                        refine ok_iret F G dX8_pay_157 ?_
                        exact ⟨_, rfl, Or.inl ⟨Or.inr (Or.inr (Or.inr ⟨by omega, by omega, hT1, ⟨k.toNat, by omega, fun q => by have q1 := okd.mp q; omega⟩, rfl⟩)), fun a c1 c2 c3 c4 => by rw [t1 a c1 c2 c4]; exact hF8 a c3⟩⟩
              refine ok_lvp [2, 3, 4, 1, 0] (lv' := [(0, pR 0), (1, pI p), (2, pI ((sumN (fun k => mem 1 (43 + k) * mem 1 (3 + k)) (mem 1 0).toNat) - p)), (3, pI z_4), (4, pI 0)]) rfl ?_
              refine hL_101 _ 0 ?_ rfl
              exact ⟨by omega, by omega, fun i hi => by omega⟩
            · refine ok_bipush F dX8_pay_95 rfl ?_
              refine ok_iret F G dX8_pay_97 ?_
              exact ⟨_, rfl, Or.inl ⟨Or.inr (Or.inr (Or.inl ⟨by omega, by omega, by omega, rfl⟩)), fun a c1 c2 c3 c4 => by rw [t1 a c1 c2 c4]; exact hF8 a c3⟩⟩
          · have a1 := hT i.toNat (by omega)
            have a2 := hY i.toNat (by omega)
            rw [show 11 + i.toNat = (11 + i).toNat by omega] at a1
            rw [show 43 + i.toNat = (43 + i).toNat by omega] at a2
            refine ok_aload_n F dX8_pay_42 0 rfl ?_
            refine ok_getr F dX8_pay_43 kF_X8_39 sh_0 rfl ?_
            refine ok_iload_n F dX8_pay_46 3 rfl ?_
            refine ok_aload_n F dX8_pay_47 0 rfl ?_
            refine ok_getr F dX8_pay_48 kF_X8_9 sh_0 rfl ?_
            refine ok_bipush F dX8_pay_51 rfl ?_
            refine ok_iload_n F dX8_pay_53 3 rfl ?_
            refine ok_iadd F dX8_pay_54 ?_
            refine ok_iald (v := mem 1 ((11 + i).toNat)) F dX8_pay_55 sh_1 (by first | decide | assumption) (by omega) (by omega) (by rw [(hF8 1 (by decide))] <;> rfl) ?_
            refine ok_aload_n F dX8_pay_56 0 rfl ?_
            refine ok_getr F dX8_pay_57 kF_X8_9 sh_0 rfl ?_
            refine ok_bipush F dX8_pay_60 rfl ?_
            refine ok_iload_n F dX8_pay_62 3 rfl ?_
            refine ok_iadd F dX8_pay_63 ?_
            refine ok_iald (v := mem 1 ((43 + i).toNat)) F dX8_pay_64 sh_1 (by first | decide | assumption) (by omega) (by omega) (by rw [(hF8 1 (by decide))] <;> rfl) ?_
            refine ok_iadd F dX8_pay_65 ?_
            refine ok_iast F dX8_pay_66 sh_10 (by first | decide | assumption) (by omega) (by omega) (fun m_21 e_22 => ?_)
            refine ok_iinc (lv' := [(3, pI (i + 1)), (0, pR 0), (1, pI p), (2, pI ((sumN (fun k => mem 1 (43 + k) * mem 1 (3 + k)) (mem 1 0).toNat) - p))]) F dX8_pay_67 3 rfl (by decide) rfl ?_
            refine ok_goto F 32 dX8_pay_70 (by decide) ?_
            refine ok_lvp [1, 2, 3, 0] (lv' := [(0, pR 0), (1, pI p), (2, pI ((sumN (fun k => mem 1 (43 + k) * mem 1 (3 + k)) (mem 1 0).toNat) - p)), (3, pI (i + 1))]) rfl ?_
            refine ih_32 _ ?_ (i + 1) m_21 ?_ rfl
            · omega
            · refine ⟨by omega, by omega, fun c c1 => by rw [e_22, mset_nka c1]; exact hF8 c c1, fun k => ?_⟩
              rw [e_22]
              by_cases e : k = i.toNat
              · subst e; rw [mset_eq, if_pos (by omega), show 11 + i.toNat = (11 + i).toNat by omega, show 43 + i.toNat = (43 + i).toNat by omega]
              · rw [mset_ne (fun q => e q.2), h8i]; by_cases g : (k : Int) < i
                · rw [if_pos g, if_pos (by omega)]
                · rw [if_neg g, if_neg (by omega)]
      refine ok_lvp [2, 3, 1, 0] (lv' := [(0, pR 0), (1, pI p), (2, pI ((sumN (fun k => mem 1 (43 + k) * mem 1 (3 + k)) (mem 1 0).toNat) - p)), (3, pI 0)]) rfl ?_
      refine hL_32 _ 0 mem ?_ rfl
      exact ⟨by omega, by omega, fun _ _ => rfl, fun k => by rw [if_neg (by omega)]⟩
    · refine ok_bipush F dX8_pay_27 rfl ?_
      refine ok_iret F G dX8_pay_29 ?_
      exact ⟨_, rfl, Or.inl ⟨Or.inr (Or.inl ⟨by omega, by omega, rfl⟩), fun _ _ _ _ _ => rfl⟩⟩
  · refine ok_iconst F dX8_pay_12 ?_
    refine ok_iret F G dX8_pay_13 ?_
    exact ⟨_, rfl, Or.inl ⟨Or.inl ⟨by omega, rfl⟩, fun _ _ _ _ _ => rfl⟩⟩
