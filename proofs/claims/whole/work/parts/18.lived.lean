/-! the reference: a sale lived -/
/-- a row with what is given at a sale -/
def stk (m1 w : Nat → Int) (s k : Nat) : Int := if (k : Int) < m1 0 then w k + sGiven m1 s k else w k
/-- what is given above the price -/
def abvS (m1 : Nat → Int) (s : Nat) : Int := sumN (fun k => sGiven m1 s k * m1 (3 + k)) (m1 0).toNat - sPrice m1 s
def valF (m1 : Nat → Int) : Nat → Nat := fun i => (m1 (3 + i)).toNat
def fewS (m1 w : Nat → Int) (s : Nat) : Int := fewT (valF m1) (fun i => (stk m1 w s i).toNat) (m1 0).toNat (abvS m1 s).toNat
def takS (m1 w : Nat → Int) (s k : Nat) : Int := (takR (valF m1) (fun i => (stk m1 w s i).toNat) (m1 0).toNat (abvS m1 s).toNat k : Int)
def anyN (f : Nat → Bool) : Nat → Bool
  | 0 => false
  | n + 1 => anyN f n || f n
theorem anyN_of {f : Nat → Bool} {k : Nat} : ∀ {n : Nat}, k < n → f k = true → anyN f n = true
  | n + 1, h, hk => by
    unfold anyN
    by_cases e : k = n
    · subst e; rw [hk, Bool.or_true]
    · rw [anyN_of (by omega) hk, Bool.true_or]
theorem anyN_mono {f : Nat → Bool} {k : Nat} : ∀ {n : Nat}, k ≤ n → anyN f k = true → anyN f n = true
  | 0, h, hk => by obtain rfl : k = 0 := by omega
                   exact hk
  | n + 1, h, hk => by
    by_cases e : k = n + 1
    · subst e; exact hk
    · unfold anyN
      rw [anyN_mono (by omega) hk, Bool.true_or]
def overS (m1 w : Nat → Int) (s k : Nat) : Bool := decide (99 < stk m1 w s k - takS m1 w s k)
/-- is it short -/
def shortS (m1 w : Nat → Int) (s : Nat) : Bool := decide (fewS m1 w s = 1000000) || anyN (overS m1 w s) (m1 0).toNat
/-- the row behind it -/
def rowS (m1 w : Nat → Int) (s k : Nat) : Int := if shortS m1 w s = true then w k else if (k : Int) < m1 0 then stk m1 w s k - takS m1 w s k else w k
def pcsS (m1 w : Nat → Int) (s : Nat) : Int := if shortS m1 w s = true then 0 else fewS m1 w s
theorem lastZ_le (P : Nat → Bool) : ∀ n, lastZ P n ≤ n
  | 0 => Nat.le_refl _
  | n + 1 => by
    unfold lastZ
    split
    · exact Nat.le_refl _
    · have := lastZ_le P n; omega
theorem takR_le (v c : Nat → Nat) (n a k : Nat) (h : k < n) : takR v c n a k ≤ c k := by
  rw [takR_eq v c n a k h]
  exact lastZ_le _ _
theorem dX8_livesOne_0 : decode cX8_livesOne 0 = .ok (.bipush 59, 2) := by decide +kernel
theorem dX8_livesOne_2 : decode cX8_livesOne 2 = .ok (.bipush 10, 2) := by decide +kernel
theorem dX8_livesOne_4 : decode cX8_livesOne 4 = .ok (.iload_n 1, 1) := by decide +kernel
theorem dX8_livesOne_5 : decode cX8_livesOne 5 = .ok (.imul, 1) := by decide +kernel
theorem dX8_livesOne_6 : decode cX8_livesOne 6 = .ok (.iadd, 1) := by decide +kernel
theorem dX8_livesOne_7 : decode cX8_livesOne 7 = .ok (.istore_n 2, 1) := by decide +kernel
theorem dX8_livesOne_8 : decode cX8_livesOne 8 = .ok (.aload_n 0, 1) := by decide +kernel
theorem dX8_livesOne_9 : decode cX8_livesOne 9 = .ok (.getfield 9, 3) := by decide +kernel
theorem dX8_livesOne_12 : decode cX8_livesOne 12 = .ok (.iload_n 2, 1) := by decide +kernel
theorem dX8_livesOne_13 : decode cX8_livesOne 13 = .ok (.iconst 1, 1) := by decide +kernel
theorem dX8_livesOne_14 : decode cX8_livesOne 14 = .ok (.iadd, 1) := by decide +kernel
theorem dX8_livesOne_15 : decode cX8_livesOne 15 = .ok (.iaload, 1) := by decide +kernel
theorem dX8_livesOne_16 : decode cX8_livesOne 16 = .ok (.ineg, 1) := by decide +kernel
theorem dX8_livesOne_17 : decode cX8_livesOne 17 = .ok (.istore_n 3, 1) := by decide +kernel
theorem dX8_livesOne_18 : decode cX8_livesOne 18 = .ok (.iconst 0, 1) := by decide +kernel
theorem dX8_livesOne_19 : decode cX8_livesOne 19 = .ok (.istore 4, 2) := by decide +kernel
theorem dX8_livesOne_21 : decode cX8_livesOne 21 = .ok (.iload 4, 2) := by decide +kernel
theorem dX8_livesOne_23 : decode cX8_livesOne 23 = .ok (.aload_n 0, 1) := by decide +kernel
theorem dX8_livesOne_24 : decode cX8_livesOne 24 = .ok (.getfield 9, 3) := by decide +kernel
theorem dX8_livesOne_27 : decode cX8_livesOne 27 = .ok (.iconst 0, 1) := by decide +kernel
theorem dX8_livesOne_28 : decode cX8_livesOne 28 = .ok (.iaload, 1) := by decide +kernel
theorem dX8_livesOne_29 : decode cX8_livesOne 29 = .ok (.if_icmp .ge 65, 3) := by decide +kernel
theorem dX8_livesOne_32 : decode cX8_livesOne 32 = .ok (.aload_n 0, 1) := by decide +kernel
theorem dX8_livesOne_33 : decode cX8_livesOne 33 = .ok (.getfield 55, 3) := by decide +kernel
theorem dX8_livesOne_36 : decode cX8_livesOne 36 = .ok (.iload 4, 2) := by decide +kernel
theorem dX8_livesOne_38 : decode cX8_livesOne 38 = .ok (.aload_n 0, 1) := by decide +kernel
theorem dX8_livesOne_39 : decode cX8_livesOne 39 = .ok (.getfield 52, 3) := by decide +kernel
theorem dX8_livesOne_42 : decode cX8_livesOne 42 = .ok (.iload 4, 2) := by decide +kernel
theorem dX8_livesOne_44 : decode cX8_livesOne 44 = .ok (.iaload, 1) := by decide +kernel
theorem dX8_livesOne_45 : decode cX8_livesOne 45 = .ok (.iastore, 1) := by decide +kernel
theorem dX8_livesOne_46 : decode cX8_livesOne 46 = .ok (.aload_n 0, 1) := by decide +kernel
theorem dX8_livesOne_47 : decode cX8_livesOne 47 = .ok (.getfield 52, 3) := by decide +kernel
theorem dX8_livesOne_50 : decode cX8_livesOne 50 = .ok (.iload 4, 2) := by decide +kernel
theorem dX8_livesOne_52 : decode cX8_livesOne 52 = .ok (.dup2, 1) := by decide +kernel
theorem dX8_livesOne_53 : decode cX8_livesOne 53 = .ok (.iaload, 1) := by decide +kernel
theorem dX8_livesOne_54 : decode cX8_livesOne 54 = .ok (.aload_n 0, 1) := by decide +kernel
theorem dX8_livesOne_55 : decode cX8_livesOne 55 = .ok (.getfield 9, 3) := by decide +kernel
theorem dX8_livesOne_58 : decode cX8_livesOne 58 = .ok (.iload_n 2, 1) := by decide +kernel
theorem dX8_livesOne_59 : decode cX8_livesOne 59 = .ok (.iconst 2, 1) := by decide +kernel
theorem dX8_livesOne_60 : decode cX8_livesOne 60 = .ok (.iadd, 1) := by decide +kernel
theorem dX8_livesOne_61 : decode cX8_livesOne 61 = .ok (.iload 4, 2) := by decide +kernel
theorem dX8_livesOne_63 : decode cX8_livesOne 63 = .ok (.iadd, 1) := by decide +kernel
theorem dX8_livesOne_64 : decode cX8_livesOne 64 = .ok (.iaload, 1) := by decide +kernel
theorem dX8_livesOne_65 : decode cX8_livesOne 65 = .ok (.iadd, 1) := by decide +kernel
theorem dX8_livesOne_66 : decode cX8_livesOne 66 = .ok (.iastore, 1) := by decide +kernel
theorem dX8_livesOne_67 : decode cX8_livesOne 67 = .ok (.iload_n 3, 1) := by decide +kernel
theorem dX8_livesOne_68 : decode cX8_livesOne 68 = .ok (.aload_n 0, 1) := by decide +kernel
theorem dX8_livesOne_69 : decode cX8_livesOne 69 = .ok (.getfield 9, 3) := by decide +kernel
theorem dX8_livesOne_72 : decode cX8_livesOne 72 = .ok (.iload_n 2, 1) := by decide +kernel
theorem dX8_livesOne_73 : decode cX8_livesOne 73 = .ok (.iconst 2, 1) := by decide +kernel
theorem dX8_livesOne_74 : decode cX8_livesOne 74 = .ok (.iadd, 1) := by decide +kernel
theorem dX8_livesOne_75 : decode cX8_livesOne 75 = .ok (.iload 4, 2) := by decide +kernel
theorem dX8_livesOne_77 : decode cX8_livesOne 77 = .ok (.iadd, 1) := by decide +kernel
theorem dX8_livesOne_78 : decode cX8_livesOne 78 = .ok (.iaload, 1) := by decide +kernel
theorem dX8_livesOne_79 : decode cX8_livesOne 79 = .ok (.aload_n 0, 1) := by decide +kernel
theorem dX8_livesOne_80 : decode cX8_livesOne 80 = .ok (.iload 4, 2) := by decide +kernel
theorem dX8_livesOne_82 : decode cX8_livesOne 82 = .ok (.invokevirtual 191, 3) := by decide +kernel
theorem dX8_livesOne_85 : decode cX8_livesOne 85 = .ok (.imul, 1) := by decide +kernel
theorem dX8_livesOne_86 : decode cX8_livesOne 86 = .ok (.iadd, 1) := by decide +kernel
theorem dX8_livesOne_87 : decode cX8_livesOne 87 = .ok (.istore_n 3, 1) := by decide +kernel
theorem dX8_livesOne_88 : decode cX8_livesOne 88 = .ok (.iinc 4 1, 3) := by decide +kernel
theorem dX8_livesOne_91 : decode cX8_livesOne 91 = .ok (.goto (-70), 3) := by decide +kernel
theorem dX8_livesOne_94 : decode cX8_livesOne 94 = .ok (.aload_n 0, 1) := by decide +kernel
theorem dX8_livesOne_95 : decode cX8_livesOne 95 = .ok (.aload_n 0, 1) := by decide +kernel
theorem dX8_livesOne_96 : decode cX8_livesOne 96 = .ok (.getfield 52, 3) := by decide +kernel
theorem dX8_livesOne_99 : decode cX8_livesOne 99 = .ok (.iconst 0, 1) := by decide +kernel
theorem dX8_livesOne_100 : decode cX8_livesOne 100 = .ok (.aload_n 0, 1) := by decide +kernel
theorem dX8_livesOne_101 : decode cX8_livesOne 101 = .ok (.getfield 9, 3) := by decide +kernel
theorem dX8_livesOne_104 : decode cX8_livesOne 104 = .ok (.iconst 0, 1) := by decide +kernel
theorem dX8_livesOne_105 : decode cX8_livesOne 105 = .ok (.iaload, 1) := by decide +kernel
theorem dX8_livesOne_106 : decode cX8_livesOne 106 = .ok (.iload_n 3, 1) := by decide +kernel
theorem dX8_livesOne_107 : decode cX8_livesOne 107 = .ok (.invokevirtual 235, 3) := by decide +kernel
theorem dX8_livesOne_110 : decode cX8_livesOne 110 = .ok (.istore 4, 2) := by decide +kernel
theorem dX8_livesOne_112 : decode cX8_livesOne 112 = .ok (.iload 4, 2) := by decide +kernel
theorem dX8_livesOne_114 : decode cX8_livesOne 114 = .ok (.iconst (-1), 1) := by decide +kernel
theorem dX8_livesOne_115 : decode cX8_livesOne 115 = .ok (.if_icmp .ne 7, 3) := by decide +kernel
theorem dX8_livesOne_118 : decode cX8_livesOne 118 = .ok (.iconst 1, 1) := by decide +kernel
theorem dX8_livesOne_119 : decode cX8_livesOne 119 = .ok (.goto 4, 3) := by decide +kernel
theorem dX8_livesOne_122 : decode cX8_livesOne 122 = .ok (.iconst 0, 1) := by decide +kernel
theorem dX8_livesOne_123 : decode cX8_livesOne 123 = .ok (.istore 5, 2) := by decide +kernel
theorem dX8_livesOne_125 : decode cX8_livesOne 125 = .ok (.iconst 0, 1) := by decide +kernel
theorem dX8_livesOne_126 : decode cX8_livesOne 126 = .ok (.istore 6, 2) := by decide +kernel
theorem dX8_livesOne_128 : decode cX8_livesOne 128 = .ok (.iload 6, 2) := by decide +kernel
theorem dX8_livesOne_130 : decode cX8_livesOne 130 = .ok (.aload_n 0, 1) := by decide +kernel
theorem dX8_livesOne_131 : decode cX8_livesOne 131 = .ok (.getfield 9, 3) := by decide +kernel
theorem dX8_livesOne_134 : decode cX8_livesOne 134 = .ok (.iconst 0, 1) := by decide +kernel
theorem dX8_livesOne_135 : decode cX8_livesOne 135 = .ok (.iaload, 1) := by decide +kernel
theorem dX8_livesOne_136 : decode cX8_livesOne 136 = .ok (.if_icmp .ge 41, 3) := by decide +kernel
theorem dX8_livesOne_139 : decode cX8_livesOne 139 = .ok (.iload 5, 2) := by decide +kernel
theorem dX8_livesOne_141 : decode cX8_livesOne 141 = .ok (.ifCond .ne 36, 3) := by decide +kernel
theorem dX8_livesOne_144 : decode cX8_livesOne 144 = .ok (.aload_n 0, 1) := by decide +kernel
theorem dX8_livesOne_145 : decode cX8_livesOne 145 = .ok (.getfield 52, 3) := by decide +kernel
theorem dX8_livesOne_148 : decode cX8_livesOne 148 = .ok (.iload 6, 2) := by decide +kernel
theorem dX8_livesOne_150 : decode cX8_livesOne 150 = .ok (.iaload, 1) := by decide +kernel
theorem dX8_livesOne_151 : decode cX8_livesOne 151 = .ok (.aload_n 0, 1) := by decide +kernel
theorem dX8_livesOne_152 : decode cX8_livesOne 152 = .ok (.getfield 42, 3) := by decide +kernel
theorem dX8_livesOne_155 : decode cX8_livesOne 155 = .ok (.iload 6, 2) := by decide +kernel
theorem dX8_livesOne_157 : decode cX8_livesOne 157 = .ok (.iaload, 1) := by decide +kernel
theorem dX8_livesOne_158 : decode cX8_livesOne 158 = .ok (.isub, 1) := by decide +kernel
theorem dX8_livesOne_159 : decode cX8_livesOne 159 = .ok (.bipush 99, 2) := by decide +kernel
theorem dX8_livesOne_161 : decode cX8_livesOne 161 = .ok (.if_icmp .le 7, 3) := by decide +kernel
theorem dX8_livesOne_164 : decode cX8_livesOne 164 = .ok (.iconst 1, 1) := by decide +kernel
theorem dX8_livesOne_165 : decode cX8_livesOne 165 = .ok (.goto 4, 3) := by decide +kernel
theorem dX8_livesOne_168 : decode cX8_livesOne 168 = .ok (.iconst 0, 1) := by decide +kernel
theorem dX8_livesOne_169 : decode cX8_livesOne 169 = .ok (.istore 5, 2) := by decide +kernel
theorem dX8_livesOne_171 : decode cX8_livesOne 171 = .ok (.iinc 6 1, 3) := by decide +kernel
theorem dX8_livesOne_174 : decode cX8_livesOne 174 = .ok (.goto (-46), 3) := by decide +kernel
theorem dX8_livesOne_177 : decode cX8_livesOne 177 = .ok (.iconst 0, 1) := by decide +kernel
theorem dX8_livesOne_178 : decode cX8_livesOne 178 = .ok (.istore 6, 2) := by decide +kernel
theorem dX8_livesOne_180 : decode cX8_livesOne 180 = .ok (.iload 6, 2) := by decide +kernel
theorem dX8_livesOne_182 : decode cX8_livesOne 182 = .ok (.aload_n 0, 1) := by decide +kernel
theorem dX8_livesOne_183 : decode cX8_livesOne 183 = .ok (.getfield 9, 3) := by decide +kernel
theorem dX8_livesOne_186 : decode cX8_livesOne 186 = .ok (.iconst 0, 1) := by decide +kernel
theorem dX8_livesOne_187 : decode cX8_livesOne 187 = .ok (.iaload, 1) := by decide +kernel
theorem dX8_livesOne_188 : decode cX8_livesOne 188 = .ok (.if_icmp .ge 46, 3) := by decide +kernel
theorem dX8_livesOne_191 : decode cX8_livesOne 191 = .ok (.aload_n 0, 1) := by decide +kernel
theorem dX8_livesOne_192 : decode cX8_livesOne 192 = .ok (.getfield 52, 3) := by decide +kernel
theorem dX8_livesOne_195 : decode cX8_livesOne 195 = .ok (.iload 6, 2) := by decide +kernel
theorem dX8_livesOne_197 : decode cX8_livesOne 197 = .ok (.iload 5, 2) := by decide +kernel
theorem dX8_livesOne_199 : decode cX8_livesOne 199 = .ok (.ifCond .eq 13, 3) := by decide +kernel
theorem dX8_livesOne_202 : decode cX8_livesOne 202 = .ok (.aload_n 0, 1) := by decide +kernel
theorem dX8_livesOne_203 : decode cX8_livesOne 203 = .ok (.getfield 55, 3) := by decide +kernel
theorem dX8_livesOne_206 : decode cX8_livesOne 206 = .ok (.iload 6, 2) := by decide +kernel
theorem dX8_livesOne_208 : decode cX8_livesOne 208 = .ok (.iaload, 1) := by decide +kernel
theorem dX8_livesOne_209 : decode cX8_livesOne 209 = .ok (.goto 18, 3) := by decide +kernel
theorem dX8_livesOne_212 : decode cX8_livesOne 212 = .ok (.aload_n 0, 1) := by decide +kernel
theorem dX8_livesOne_213 : decode cX8_livesOne 213 = .ok (.getfield 52, 3) := by decide +kernel
theorem dX8_livesOne_216 : decode cX8_livesOne 216 = .ok (.iload 6, 2) := by decide +kernel
theorem dX8_livesOne_218 : decode cX8_livesOne 218 = .ok (.iaload, 1) := by decide +kernel
theorem dX8_livesOne_219 : decode cX8_livesOne 219 = .ok (.aload_n 0, 1) := by decide +kernel
theorem dX8_livesOne_220 : decode cX8_livesOne 220 = .ok (.getfield 42, 3) := by decide +kernel
theorem dX8_livesOne_223 : decode cX8_livesOne 223 = .ok (.iload 6, 2) := by decide +kernel
theorem dX8_livesOne_225 : decode cX8_livesOne 225 = .ok (.iaload, 1) := by decide +kernel
theorem dX8_livesOne_226 : decode cX8_livesOne 226 = .ok (.isub, 1) := by decide +kernel
theorem dX8_livesOne_227 : decode cX8_livesOne 227 = .ok (.iastore, 1) := by decide +kernel
theorem dX8_livesOne_228 : decode cX8_livesOne 228 = .ok (.iinc 6 1, 3) := by decide +kernel
theorem dX8_livesOne_231 : decode cX8_livesOne 231 = .ok (.goto (-51), 3) := by decide +kernel
theorem dX8_livesOne_234 : decode cX8_livesOne 234 = .ok (.aload_n 0, 1) := by decide +kernel
theorem dX8_livesOne_235 : decode cX8_livesOne 235 = .ok (.dup, 1) := by decide +kernel
theorem dX8_livesOne_236 : decode cX8_livesOne 236 = .ok (.getfield 255, 3) := by decide +kernel
theorem dX8_livesOne_239 : decode cX8_livesOne 239 = .ok (.iload 5, 2) := by decide +kernel
theorem dX8_livesOne_241 : decode cX8_livesOne 241 = .ok (.ifCond .eq 7, 3) := by decide +kernel
theorem dX8_livesOne_244 : decode cX8_livesOne 244 = .ok (.iconst 0, 1) := by decide +kernel
theorem dX8_livesOne_245 : decode cX8_livesOne 245 = .ok (.goto 5, 3) := by decide +kernel
theorem dX8_livesOne_248 : decode cX8_livesOne 248 = .ok (.iload 4, 2) := by decide +kernel
theorem dX8_livesOne_250 : decode cX8_livesOne 250 = .ok (.iadd, 1) := by decide +kernel
theorem dX8_livesOne_251 : decode cX8_livesOne 251 = .ok (.putfield 255, 3) := by decide +kernel
theorem dX8_livesOne_254 : decode cX8_livesOne 254 = .ok (.iload 5, 2) := by decide +kernel
theorem dX8_livesOne_256 : decode cX8_livesOne 256 = .ok (.ireturn, 1) := by decide +kernel
set_option maxHeartbeats 4000000 in
set_option maxRecDepth 100000 in
theorem m_X8_livesOne (l : Launch) (s : Int) (mem : Mem) (hs : 0 ≤ s ∧ s < 40) (hN : 0 ≤ mem 1 0 ∧ mem 1 0 ≤ 8) (hVl : ∀ i : Nat, (i : Int) < mem 1 0 → 1 ≤ mem 1 (3 + i) ∧ mem 1 (3 + i) ≤ 500) (hAb : 0 ≤ abvS (mem 1) s.toNat ∧ abvS (mem 1) s.toNat ≤ 2500) (hG : ∀ k : Nat, k < 8 → 0 ≤ sGiven (mem 1) s.toNat k ∧ sGiven (mem 1) s.toNat k ≤ 5) (hW : ∀ k : Nat, k < 8 → 0 ≤ mem 14 k ∧ mem 14 k ≤ 99) : Ret shp l yX8_livesOne cX8_livesOne 7 (some .boolean) 4 [pR 0, pI s] mem (fun rv mv => ∃ z, rv = some (pI z) ∧ (∀ a, a ≠ 0 → a ≠ 8 → a ≠ 9 → a ≠ 11 → a ≠ 14 → a ≠ 15 → mv a = mem a) ∧ (∀ j, j ≠ 22 → mv 0 j = mem 0 j) ∧ mv 0 22 = mem 0 22 + pcsS (mem 1) (mem 14) s.toNat ∧ z = (if shortS (mem 1) (mem 14) s.toNat = true then 1 else 0) ∧ (∀ k, mv 14 k = rowS (mem 1) (mem 14) s.toNat k) ∧ ∀ k : Nat, (k : Int) < mem 1 0 → mv 15 k = mem 14 k) := by
  refine ret_of (by decide +kernel) (Nat.le_of_ble_eq_true rfl) (fun X hX F G => ?_)
  show Ok shp X 7 0 [(0, pR 0), (1, pI s)] [] mem
  refine ok_bipush F dX8_livesOne_0 rfl ?_
  refine ok_bipush F dX8_livesOne_2 rfl ?_
  refine ok_iload_n F dX8_livesOne_4 1 rfl ?_
  refine ok_imul F dX8_livesOne_5 ?_
  refine ok_iadd F dX8_livesOne_6 ?_
  refine ok_istore_n (lv' := [(2, pI (59 + (10 * s))), (0, pR 0), (1, pI s)]) F dX8_livesOne_7 (by decide) rfl ?_
  refine ok_aload_n F dX8_livesOne_8 1 rfl ?_
  refine ok_getr F dX8_livesOne_9 kF_X8_9 sh_0 rfl ?_
  refine ok_iload_n F dX8_livesOne_12 0 rfl ?_
  refine ok_iconst F dX8_livesOne_13 ?_
  refine ok_iadd F dX8_livesOne_14 ?_
  refine ok_iald (v := mem 1 (((59 + (10 * s)) + 1).toNat)) F dX8_livesOne_15 sh_1 (by first | decide | assumption) (by omega) (by omega) rfl ?_
  refine ok_ineg F dX8_livesOne_16 ?_
  refine ok_istore_n (lv' := [(3, pI (-(mem 1 (((59 + (10 * s)) + 1).toNat)))), (2, pI (59 + (10 * s))), (0, pR 0), (1, pI s)]) F dX8_livesOne_17 (by decide) rfl ?_
  refine ok_iconst F dX8_livesOne_18 ?_
  refine ok_istore (lv' := [(4, pI 0), (3, pI (-(mem 1 (((59 + (10 * s)) + 1).toNat)))), (2, pI (59 + (10 * s))), (0, pR 0), (1, pI s)]) F dX8_livesOne_19 (by decide) rfl ?_
  have hL_21 : ∀ (n_21 : Nat) (b : Int) (k : Int) (m : Mem), (0 ≤ k ∧ k ≤ mem 1 0 ∧ b = -sPrice (mem 1) s.toNat + sumN (fun k => sGiven (mem 1) s.toNat k * mem 1 (3 + k)) k.toNat ∧ (∀ a, a ≠ 14 → a ≠ 15 → m a = mem a) ∧ (∀ i : Nat, m 14 i = if (i : Int) < k then mem 14 i + sGiven (mem 1) s.toNat i else mem 14 i) ∧ ∀ i : Nat, (i : Int) < k → m 15 i = mem 14 i) → (mem 1 0 - k).toNat = n_21 → Ok shp X 7 21 [(0, pR 0), (1, pI s), (2, pI (59 + (10 * s))), (3, pI b), (4, pI k)] [] m := by
    intro n_21
    induction n_21 using Nat.strongRecOn with
    | _ n_21 ih_21 =>
      intro b k m hI_21 hn_21
      obtain ⟨hk0, hk1, hb, hF, h14, h15⟩ := hI_21
      have h1 := hF 1 (by decide) (by decide)
      refine ok_iload F dX8_livesOne_21 4 rfl ?_
      refine ok_aload_n F dX8_livesOne_23 0 rfl ?_
      refine ok_getr F dX8_livesOne_24 kF_X8_9 sh_0 rfl ?_
      refine ok_iconst F dX8_livesOne_27 ?_
      refine ok_iald (v := mem 1 0) F dX8_livesOne_28 sh_1 (by first | decide | assumption) (by omega) (by omega) (by rw [h1] <;> rfl) ?_
      refine ok_icmp_ge F 94 dX8_livesOne_29 (by decide) (by omega) (by omega) (fun c_1 => ?_) (fun c_1 => ?_)
      · have ek : k = mem 1 0 := by omega
        have hb2 : b = abvS (mem 1) s.toNat := by rw [hb, ek, abvS]; omega
        have hst : m 14 = stk (mem 1) (mem 14) s.toNat := by funext i; rw [h14, ek]; rfl
        refine ok_aload_n F dX8_livesOne_94 0 rfl ?_
        refine ok_aload_n F dX8_livesOne_95 0 rfl ?_
        refine ok_getr F dX8_livesOne_96 kF_X8_52 sh_0 rfl ?_
        refine ok_iconst F dX8_livesOne_99 ?_
        refine ok_aload_n F dX8_livesOne_100 0 rfl ?_
        refine ok_getr F dX8_livesOne_101 kF_X8_9 sh_0 rfl ?_
        refine ok_iconst F dX8_livesOne_104 ?_
        refine ok_iald (v := mem 1 0) F dX8_livesOne_105 sh_1 (by first | decide | assumption) (by omega) (by omega) (by rw [h1] <;> rfl) ?_
        refine ok_iload_n F dX8_livesOne_106 3 rfl ?_
        refine ok_callv F [pR 14, pI 0, pI (mem 1 0), pI b] dX8_livesOne_107 kM_X8_changes kI_X8_changes kV_X8_changes kL_X8_235 (ci := 8) rfl sh_0 rfl (by decide) (Nat.le_of_ble_eq_true rfl) rfl (m_X8_changes _ 14 0 (mem 1 0) b m (8) (sh_14) (by decide) (by decide) (by decide) (by omega) (by omega) (by omega) (fun i hi => by rw [h1] at *; exact hVl i hi) (fun i hi => by have a1 := hG i (by omega); have a2 := hW i (by omega); rw [hst, show (0 : Int).toNat + i = i from Nat.zero_add i, stk]; split <;> omega) (by decide)) ?_
        rintro _ m_3 ⟨z_2, rfl, r_4⟩
        obtain ⟨hfr, hch0⟩ := id r_4
        rw [h1, hst, hb2] at hch0
        have hch1 : (fewS (mem 1) (mem 14) s.toNat = 1000000 ∧ z_2 = -1 ∨ fewS (mem 1) (mem 14) s.toNat < 1000000 ∧ z_2 = fewS (mem 1) (mem 14) s.toNat ∧ ∀ j : Nat, j < 8 → m_3 11 j = takS (mem 1) (mem 14) s.toNat j) := by
          have e0 : (fun i => (stk (mem 1) (mem 14) s.toNat ((0 : Int).toNat + i)).toNat) = fun i => (stk (mem 1) (mem 14) s.toNat i).toNat := by funext i; rw [show (0 : Int).toNat + i = i from Nat.zero_add i]
          rw [e0] at hch0; exact hch0
        have hbb := fewT_bd (valF (mem 1)) (fun i => (stk (mem 1) (mem 14) s.toNat i).toNat) (mem 1 0).toNat (abvS (mem 1) s.toNat).toNat
        have hbb2 : 0 ≤ fewS (mem 1) (mem 14) s.toNat ∧ fewS (mem 1) (mem 14) s.toNat ≤ 1000000 := hbb
        have hT5 : fewS (mem 1) (mem 14) s.toNat ≠ 1000000 → ∀ j : Nat, j < 8 → m_3 11 j = takS (mem 1) (mem 14) s.toNat j := fun h => (hch1.resolve_left (fun x => h x.1)).2.2
        have h51 : m_3 1 = mem 1 := by rw [hfr 1 (by decide) (by decide) (by decide), h1]
        have hw5 : m_3 14 = stk (mem 1) (mem 14) s.toNat := by rw [hfr 14 (by decide) (by decide) (by decide), hst]
        refine ok_istore (lv' := [(4, pI z_2), (0, pR 0), (1, pI s), (2, pI (59 + (10 * s))), (3, pI b)]) F dX8_livesOne_110 (by decide) rfl ?_
        obtain ⟨m5, hm5⟩ : ∃ x, x = m_3 := ⟨_, rfl⟩
        have h155 : ∀ i : Nat, (i : Int) < mem 1 0 → m5 15 i = mem 14 i := fun i hi => by rw [hm5, hfr 15 (by decide) (by decide) (by decide)]; exact h15 i (by omega)
        refine ok_iload F dX8_livesOne_112 0 rfl ?_
        refine ok_iconst F dX8_livesOne_114 ?_
        refine ok_icmp_ne F 122 dX8_livesOne_115 (by decide) (by omega) (by omega) (fun c_5 => ?_) (fun c_5 => ?_)
        · refine ok_iconst F dX8_livesOne_122 ?_
          refine ok_istore (lv' := [(5, pI 0), (4, pI z_2), (0, pR 0), (1, pI s), (2, pI (59 + (10 * s))), (3, pI b)]) F dX8_livesOne_123 (by decide) rfl ?_
          refine ok_iconst F dX8_livesOne_125 ?_
          refine ok_istore (lv' := [(6, pI 0), (5, pI 0), (4, pI z_2), (0, pR 0), (1, pI s), (2, pI (59 + (10 * s))), (3, pI b)]) F dX8_livesOne_126 (by decide) rfl ?_
          have hL_128 : ∀ (n_128 : Nat) (i5 : Int) (j : Int), (0 ≤ j ∧ j ≤ mem 1 0 ∧ i5 = if (decide (fewS (mem 1) (mem 14) s.toNat = 1000000) || anyN (overS (mem 1) (mem 14) s.toNat) j.toNat) = true then 1 else 0) → (mem 1 0 - j).toNat = n_128 → Ok shp X 7 128 [(0, pR 0), (1, pI s), (2, pI (59 + (10 * s))), (3, pI b), (4, pI z_2), (5, pI i5), (6, pI j)] [] m_3 := by
            intro n_128
            induction n_128 using Nat.strongRecOn with
            | _ n_128 ih_128 =>
              intro i5 j hI_128 hn_128
              refine ok_iload F dX8_livesOne_128 6 rfl ?_
              refine ok_aload_n F dX8_livesOne_130 0 rfl ?_
              refine ok_getr F dX8_livesOne_131 kF_X8_9 sh_0 rfl ?_
              refine ok_iconst F dX8_livesOne_134 ?_
              refine ok_iald (v := mem 1 0) F dX8_livesOne_135 sh_1 (by first | decide | assumption) (by omega) (by omega) (by rw [(r_4.1 1 (by decide) (by decide) (by decide)), h1] <;> rfl) ?_
              refine ok_icmp_ge F 177 dX8_livesOne_136 (by decide) (by omega) (by omega) (fun c_6 => ?_) (fun c_6 => ?_)
              · have hsh : i5 = if shortS (mem 1) (mem 14) s.toNat = true then 1 else 0 := by
                  obtain ⟨hj0, hj1, hi5⟩ := hI_128
                  by_cases ej : j = mem 1 0
                  · rw [hi5, ej]; rfl
                  · by_cases q : (decide (fewS (mem 1) (mem 14) s.toNat = 1000000) || anyN (overS (mem 1) (mem 14) s.toNat) j.toNat) = true
                    · have hs1 : shortS (mem 1) (mem 14) s.toNat = true := by
                        unfold shortS
                        rcases (Bool.or_eq_true _ _).mp q with a | a
                        · rw [a, Bool.true_or]
                        · rw [anyN_mono (by omega) a, Bool.or_true]
                      rw [hi5, if_pos q, if_pos hs1]
                    · exfalso
                      rw [if_neg q] at hi5
                      omega
                refine ok_iconst F dX8_livesOne_177 ?_
                refine ok_istore (lv' := [(6, pI 0), (0, pR 0), (1, pI s), (2, pI (59 + (10 * s))), (3, pI b), (4, pI z_2), (5, pI i5)]) F dX8_livesOne_178 (by decide) rfl ?_
                have hL_180 : ∀ (n_180 : Nat) (q : Int) (m9 : Mem), (0 ≤ q ∧ q ≤ mem 1 0 ∧ (∀ a, a ≠ 14 → m9 a = m5 a) ∧ ∀ i : Nat, m9 14 i = if (i : Int) < q then rowS (mem 1) (mem 14) s.toNat i else stk (mem 1) (mem 14) s.toNat i) → (mem 1 0 - q).toNat = n_180 → Ok shp X 7 180 [(0, pR 0), (1, pI s), (2, pI (59 + (10 * s))), (3, pI b), (4, pI z_2), (5, pI i5), (6, pI q)] [] m9 := by
                  intro n_180
                  induction n_180 using Nat.strongRecOn with
                  | _ n_180 ih_180 =>
                    intro q m9 hI_180 hn_180
                    obtain ⟨hq0, hq1, hF9, h149⟩ := hI_180
                    have h19 : m9 1 = mem 1 := by rw [hF9 1 (by decide), hm5, h51]
                    refine ok_iload F dX8_livesOne_180 6 rfl ?_
                    refine ok_aload_n F dX8_livesOne_182 0 rfl ?_
                    refine ok_getr F dX8_livesOne_183 kF_X8_9 sh_0 rfl ?_
                    refine ok_iconst F dX8_livesOne_186 ?_
                    refine ok_iald (v := mem 1 0) F dX8_livesOne_187 sh_1 (by first | decide | assumption) (by omega) (by omega) (by rw [h19] <;> rfl) ?_
                    refine ok_icmp_ge F 234 dX8_livesOne_188 (by decide) (by omega) (by omega) (fun c_7 => ?_) (fun c_7 => ?_)
                    · refine ok_aload_n F dX8_livesOne_234 0 rfl ?_
                      refine ok_dup F dX8_livesOne_235 rfl ?_
                      refine ok_getf (v := m9 0 22) F dX8_livesOne_236 kF_X8_255 sh_0 rfl rfl ?_
                      refine ok_iload F dX8_livesOne_239 5 rfl ?_
                      refine ok_if_eq F 248 dX8_livesOne_241 (by decide) (by omega) (fun c_8 => ?_) (fun c_8 => ?_)
                      · refine ok_iload F dX8_livesOne_248 4 rfl ?_
                        refine ok_iadd F dX8_livesOne_250 ?_
                        refine ok_putf F dX8_livesOne_251 kF_X8_255 sh_0 rfl rfl rfl (fun m_9 e_10 => ?_)
                        refine ok_iload F dX8_livesOne_254 5 rfl ?_
                        refine ok_zret F G dX8_livesOne_256 (by rw [hsh]; exact zb_nar) ?_
                        refine ⟨_, rfl, fun a a0 a8 a9 a11 a14 a15 => ?_, fun j hj => ?_, ?_, hsh, fun i => ?_, fun i hi => ?_⟩
                        · rw [← hF a a14 a15, ← hfr a a8 a9 a11, ← hm5, ← hF9 a a14, e_10]; funext b; exact mset_nk a0
                        · rw [e_10, mset_ne (fun q => hj q.2), hF9 0 (by decide), hm5, hfr 0 (by decide) (by decide) (by decide), hF 0 (by decide) (by decide)]
                        · rw [e_10, mset_eq, hF9 0 (by decide), hm5, hfr 0 (by decide) (by decide) (by decide), hF 0 (by decide) (by decide), pcsS]
                          by_cases hs1 : shortS (mem 1) (mem 14) s.toNat = true
                          · rw [if_pos hs1] at hsh
                            rw [if_pos hs1] <;> (first | rfl | (exfalso; omega))
                          · rw [if_neg hs1] at hsh ⊢
                            have hdf : fewS (mem 1) (mem 14) s.toNat ≠ 1000000 := fun z => hs1 (by unfold shortS; rw [decide_eq_true z, Bool.true_or])
                            first | (exfalso; omega) | (rw [(hch1.resolve_left (fun x => hdf x.1)).2.1])
                        · rw [e_10, mset_nk (by decide), h149]
                          by_cases g : (i : Int) < q
                          · rw [if_pos g]
                          · have gi : ¬ (i : Int) < mem 1 0 := by omega
                            rw [if_neg g]
                            simp [rowS, stk, gi]
                        · rw [e_10, mset_nk (by decide), hF9 15 (by decide)]; exact h155 i hi
                      · refine ok_iconst F dX8_livesOne_244 ?_
                        refine ok_goto F 250 dX8_livesOne_245 (by decide) ?_
                        refine ok_iadd F dX8_livesOne_250 ?_
                        refine ok_putf F dX8_livesOne_251 kF_X8_255 sh_0 rfl rfl rfl (fun m_11 e_12 => ?_)
                        refine ok_iload F dX8_livesOne_254 5 rfl ?_
                        refine ok_zret F G dX8_livesOne_256 (by rw [hsh]; exact zb_nar) ?_
                        refine ⟨_, rfl, fun a a0 a8 a9 a11 a14 a15 => ?_, fun j hj => ?_, ?_, hsh, fun i => ?_, fun i hi => ?_⟩
                        · rw [← hF a a14 a15, ← hfr a a8 a9 a11, ← hm5, ← hF9 a a14, e_12]; funext b; exact mset_nk a0
                        · rw [e_12, mset_ne (fun q => hj q.2), hF9 0 (by decide), hm5, hfr 0 (by decide) (by decide) (by decide), hF 0 (by decide) (by decide)]
                        · rw [e_12, mset_eq, hF9 0 (by decide), hm5, hfr 0 (by decide) (by decide) (by decide), hF 0 (by decide) (by decide), pcsS]
                          by_cases hs1 : shortS (mem 1) (mem 14) s.toNat = true
                          · rw [if_pos hs1] at hsh
                            rw [if_pos hs1] <;> (first | rfl | (exfalso; omega))
                          · rw [if_neg hs1] at hsh ⊢
                            have hdf : fewS (mem 1) (mem 14) s.toNat ≠ 1000000 := fun z => hs1 (by unfold shortS; rw [decide_eq_true z, Bool.true_or])
                            first | (exfalso; omega) | (rw [(hch1.resolve_left (fun x => hdf x.1)).2.1])
                        · rw [e_12, mset_nk (by decide), h149]
                          by_cases g : (i : Int) < q
                          · rw [if_pos g]
                          · have gi : ¬ (i : Int) < mem 1 0 := by omega
                            rw [if_neg g]
                            simp [rowS, stk, gi]
                        · rw [e_12, mset_nk (by decide), hF9 15 (by decide)]; exact h155 i hi
                    · refine ok_aload_n F dX8_livesOne_191 0 rfl ?_
                      refine ok_getr F dX8_livesOne_192 kF_X8_52 sh_0 rfl ?_
                      refine ok_iload F dX8_livesOne_195 6 rfl ?_
                      refine ok_iload F dX8_livesOne_197 5 rfl ?_
                      refine ok_if_eq F 212 dX8_livesOne_199 (by decide) (by omega) (fun c_13 => ?_) (fun c_13 => ?_)
                      · refine ok_aload_n F dX8_livesOne_212 0 rfl ?_
                        refine ok_getr F dX8_livesOne_213 kF_X8_52 sh_0 rfl ?_
                        refine ok_iload F dX8_livesOne_216 6 rfl ?_
                        refine ok_iald (v := m9 14 q.toNat) F dX8_livesOne_218 sh_14 (by first | decide | assumption) (by omega) (by omega) rfl ?_
                        refine ok_aload_n F dX8_livesOne_219 0 rfl ?_
                        refine ok_getr F dX8_livesOne_220 kF_X8_42 sh_0 rfl ?_
                        refine ok_iload F dX8_livesOne_223 6 rfl ?_
                        refine ok_iald (v := m9 11 q.toNat) F dX8_livesOne_225 sh_11 (by first | decide | assumption) (by omega) (by omega) rfl ?_
                        refine ok_isub F dX8_livesOne_226 ?_
                        refine ok_iast F dX8_livesOne_227 sh_14 (by first | decide | assumption) (by omega) (by omega) (fun m_14 e_15 => ?_)
                        refine ok_iinc (lv' := [(6, pI (q + 1)), (0, pR 0), (1, pI s), (2, pI (59 + (10 * s))), (3, pI b), (4, pI z_2), (5, pI i5)]) F dX8_livesOne_228 6 rfl (by decide) rfl ?_
                        refine ok_goto F 180 dX8_livesOne_231 (by decide) ?_
                        refine ok_lvp [1, 2, 3, 4, 5, 6, 0] (lv' := [(0, pR 0), (1, pI s), (2, pI (59 + (10 * s))), (3, pI b), (4, pI z_2), (5, pI i5), (6, pI (q + 1))]) rfl ?_
                        refine ih_180 _ ?_ (q + 1) m_14 ?_ rfl
                        · omega
                        · refine ⟨by omega, by omega, fun a a1 => by rw [← hF9 a a1, e_15]; funext b; exact mset_nk a1, fun i => ?_⟩
                          rw [e_15]
                          by_cases e : i = q.toNat
                          · subst e
                            rw [mset_eq, if_pos (by omega), rowS]
                            by_cases hs1 : shortS (mem 1) (mem 14) s.toNat = true
                            · rw [if_pos hs1] at hsh ⊢
                              first
                                | (rw [hF9 15 (by decide)]; exact h155 _ (by omega))
                                | (exfalso; omega)
                            · rw [if_neg hs1] at hsh ⊢
                              have hdf : fewS (mem 1) (mem 14) s.toNat ≠ 1000000 := fun z => hs1 (by unfold shortS; rw [decide_eq_true z, Bool.true_or])
                              first
                                | (exfalso; omega)
                                | (rw [if_pos (by omega), h149, if_neg (by omega), hF9 11 (by decide), hm5, hT5 hdf _ (by omega)])
                          · rw [mset_ne (fun z => e z.2), h149]; by_cases g : (i : Int) < q
                            · rw [if_pos g, if_pos (by omega)]
                            · rw [if_neg g, if_neg (by omega)]
                      · refine ok_aload_n F dX8_livesOne_202 0 rfl ?_
                        refine ok_getr F dX8_livesOne_203 kF_X8_55 sh_0 rfl ?_
                        refine ok_iload F dX8_livesOne_206 6 rfl ?_
                        refine ok_iald (v := m9 15 q.toNat) F dX8_livesOne_208 sh_15 (by first | decide | assumption) (by omega) (by omega) rfl ?_
                        refine ok_goto F 227 dX8_livesOne_209 (by decide) ?_
                        refine ok_iast F dX8_livesOne_227 sh_14 (by first | decide | assumption) (by omega) (by omega) (fun m_16 e_17 => ?_)
                        refine ok_iinc (lv' := [(6, pI (q + 1)), (0, pR 0), (1, pI s), (2, pI (59 + (10 * s))), (3, pI b), (4, pI z_2), (5, pI i5)]) F dX8_livesOne_228 6 rfl (by decide) rfl ?_
                        refine ok_goto F 180 dX8_livesOne_231 (by decide) ?_
                        refine ok_lvp [1, 2, 3, 4, 5, 6, 0] (lv' := [(0, pR 0), (1, pI s), (2, pI (59 + (10 * s))), (3, pI b), (4, pI z_2), (5, pI i5), (6, pI (q + 1))]) rfl ?_
                        refine ih_180 _ ?_ (q + 1) m_16 ?_ rfl
                        · omega
                        · refine ⟨by omega, by omega, fun a a1 => by rw [← hF9 a a1, e_17]; funext b; exact mset_nk a1, fun i => ?_⟩
                          rw [e_17]
                          by_cases e : i = q.toNat
                          · subst e
                            rw [mset_eq, if_pos (by omega), rowS]
                            by_cases hs1 : shortS (mem 1) (mem 14) s.toNat = true
                            · rw [if_pos hs1] at hsh ⊢
                              first
                                | (rw [hF9 15 (by decide)]; exact h155 _ (by omega))
                                | (exfalso; omega)
                            · rw [if_neg hs1] at hsh ⊢
                              have hdf : fewS (mem 1) (mem 14) s.toNat ≠ 1000000 := fun z => hs1 (by unfold shortS; rw [decide_eq_true z, Bool.true_or])
                              first
                                | (exfalso; omega)
                                | (rw [if_pos (by omega), h149, if_neg (by omega), hF9 11 (by decide), hm5, hT5 hdf _ (by omega)])
                          · rw [mset_ne (fun z => e z.2), h149]; by_cases g : (i : Int) < q
                            · rw [if_pos g, if_pos (by omega)]
                            · rw [if_neg g, if_neg (by omega)]
                refine ok_lvp [1, 2, 3, 4, 5, 6, 0] (lv' := [(0, pR 0), (1, pI s), (2, pI (59 + (10 * s))), (3, pI b), (4, pI z_2), (5, pI i5), (6, pI 0)]) rfl ?_
                refine hL_180 _ 0 m_3 ?_ rfl
                exact ⟨by omega, by omega, fun a _ => by rw [hm5], fun i => by rw [if_neg (by omega), hw5]⟩
              · refine ok_iload F dX8_livesOne_139 5 rfl ?_
                refine ok_if_ne F 177 dX8_livesOne_141 (by decide) (by omega) (fun c_18 => ?_) (fun c_18 => ?_)
                · have hsh : i5 = if shortS (mem 1) (mem 14) s.toNat = true then 1 else 0 := by
                    obtain ⟨hj0, hj1, hi5⟩ := hI_128
                    by_cases ej : j = mem 1 0
                    · rw [hi5, ej]; rfl
                    · by_cases q : (decide (fewS (mem 1) (mem 14) s.toNat = 1000000) || anyN (overS (mem 1) (mem 14) s.toNat) j.toNat) = true
                      · have hs1 : shortS (mem 1) (mem 14) s.toNat = true := by
                          unfold shortS
                          rcases (Bool.or_eq_true _ _).mp q with a | a
                          · rw [a, Bool.true_or]
                          · rw [anyN_mono (by omega) a, Bool.or_true]
                        rw [hi5, if_pos q, if_pos hs1]
                      · exfalso
                        rw [if_neg q] at hi5
                        omega
                  refine ok_iconst F dX8_livesOne_177 ?_
                  refine ok_istore (lv' := [(6, pI 0), (0, pR 0), (1, pI s), (2, pI (59 + (10 * s))), (3, pI b), (4, pI z_2), (5, pI i5)]) F dX8_livesOne_178 (by decide) rfl ?_
                  have hL_180 : ∀ (n_180 : Nat) (q : Int) (m9 : Mem), (0 ≤ q ∧ q ≤ mem 1 0 ∧ (∀ a, a ≠ 14 → m9 a = m5 a) ∧ ∀ i : Nat, m9 14 i = if (i : Int) < q then rowS (mem 1) (mem 14) s.toNat i else stk (mem 1) (mem 14) s.toNat i) → (mem 1 0 - q).toNat = n_180 → Ok shp X 7 180 [(0, pR 0), (1, pI s), (2, pI (59 + (10 * s))), (3, pI b), (4, pI z_2), (5, pI i5), (6, pI q)] [] m9 := by
                    intro n_180
                    induction n_180 using Nat.strongRecOn with
                    | _ n_180 ih_180 =>
                      intro q m9 hI_180 hn_180
                      obtain ⟨hq0, hq1, hF9, h149⟩ := hI_180
                      have h19 : m9 1 = mem 1 := by rw [hF9 1 (by decide), hm5, h51]
                      refine ok_iload F dX8_livesOne_180 6 rfl ?_
                      refine ok_aload_n F dX8_livesOne_182 0 rfl ?_
                      refine ok_getr F dX8_livesOne_183 kF_X8_9 sh_0 rfl ?_
                      refine ok_iconst F dX8_livesOne_186 ?_
                      refine ok_iald (v := mem 1 0) F dX8_livesOne_187 sh_1 (by first | decide | assumption) (by omega) (by omega) (by rw [h19] <;> rfl) ?_
                      refine ok_icmp_ge F 234 dX8_livesOne_188 (by decide) (by omega) (by omega) (fun c_19 => ?_) (fun c_19 => ?_)
                      · refine ok_aload_n F dX8_livesOne_234 0 rfl ?_
                        refine ok_dup F dX8_livesOne_235 rfl ?_
                        refine ok_getf (v := m9 0 22) F dX8_livesOne_236 kF_X8_255 sh_0 rfl rfl ?_
                        refine ok_iload F dX8_livesOne_239 5 rfl ?_
                        refine ok_if_eq F 248 dX8_livesOne_241 (by decide) (by omega) (fun c_20 => ?_) (fun c_20 => ?_)
                        · refine ok_iload F dX8_livesOne_248 4 rfl ?_
                          refine ok_iadd F dX8_livesOne_250 ?_
                          refine ok_putf F dX8_livesOne_251 kF_X8_255 sh_0 rfl rfl rfl (fun m_21 e_22 => ?_)
                          refine ok_iload F dX8_livesOne_254 5 rfl ?_
                          refine ok_zret F G dX8_livesOne_256 (by rw [hsh]; exact zb_nar) ?_
                          refine ⟨_, rfl, fun a a0 a8 a9 a11 a14 a15 => ?_, fun j hj => ?_, ?_, hsh, fun i => ?_, fun i hi => ?_⟩
                          · rw [← hF a a14 a15, ← hfr a a8 a9 a11, ← hm5, ← hF9 a a14, e_22]; funext b; exact mset_nk a0
                          · rw [e_22, mset_ne (fun q => hj q.2), hF9 0 (by decide), hm5, hfr 0 (by decide) (by decide) (by decide), hF 0 (by decide) (by decide)]
                          · rw [e_22, mset_eq, hF9 0 (by decide), hm5, hfr 0 (by decide) (by decide) (by decide), hF 0 (by decide) (by decide), pcsS]
                            by_cases hs1 : shortS (mem 1) (mem 14) s.toNat = true
                            · rw [if_pos hs1] at hsh
                              rw [if_pos hs1] <;> (first | rfl | (exfalso; omega))
                            · rw [if_neg hs1] at hsh ⊢
                              have hdf : fewS (mem 1) (mem 14) s.toNat ≠ 1000000 := fun z => hs1 (by unfold shortS; rw [decide_eq_true z, Bool.true_or])
                              first | (exfalso; omega) | (rw [(hch1.resolve_left (fun x => hdf x.1)).2.1])
                          · rw [e_22, mset_nk (by decide), h149]
                            by_cases g : (i : Int) < q
                            · rw [if_pos g]
                            · have gi : ¬ (i : Int) < mem 1 0 := by omega
                              rw [if_neg g]
                              simp [rowS, stk, gi]
                          · rw [e_22, mset_nk (by decide), hF9 15 (by decide)]; exact h155 i hi
                        · refine ok_iconst F dX8_livesOne_244 ?_
                          refine ok_goto F 250 dX8_livesOne_245 (by decide) ?_
                          refine ok_iadd F dX8_livesOne_250 ?_
                          refine ok_putf F dX8_livesOne_251 kF_X8_255 sh_0 rfl rfl rfl (fun m_23 e_24 => ?_)
                          refine ok_iload F dX8_livesOne_254 5 rfl ?_
                          refine ok_zret F G dX8_livesOne_256 (by rw [hsh]; exact zb_nar) ?_
                          refine ⟨_, rfl, fun a a0 a8 a9 a11 a14 a15 => ?_, fun j hj => ?_, ?_, hsh, fun i => ?_, fun i hi => ?_⟩
                          · rw [← hF a a14 a15, ← hfr a a8 a9 a11, ← hm5, ← hF9 a a14, e_24]; funext b; exact mset_nk a0
                          · rw [e_24, mset_ne (fun q => hj q.2), hF9 0 (by decide), hm5, hfr 0 (by decide) (by decide) (by decide), hF 0 (by decide) (by decide)]
                          · rw [e_24, mset_eq, hF9 0 (by decide), hm5, hfr 0 (by decide) (by decide) (by decide), hF 0 (by decide) (by decide), pcsS]
                            by_cases hs1 : shortS (mem 1) (mem 14) s.toNat = true
                            · rw [if_pos hs1] at hsh
                              rw [if_pos hs1] <;> (first | rfl | (exfalso; omega))
                            · rw [if_neg hs1] at hsh ⊢
                              have hdf : fewS (mem 1) (mem 14) s.toNat ≠ 1000000 := fun z => hs1 (by unfold shortS; rw [decide_eq_true z, Bool.true_or])
                              first | (exfalso; omega) | (rw [(hch1.resolve_left (fun x => hdf x.1)).2.1])
                          · rw [e_24, mset_nk (by decide), h149]
                            by_cases g : (i : Int) < q
                            · rw [if_pos g]
                            · have gi : ¬ (i : Int) < mem 1 0 := by omega
                              rw [if_neg g]
                              simp [rowS, stk, gi]
                          · rw [e_24, mset_nk (by decide), hF9 15 (by decide)]; exact h155 i hi
                      · refine ok_aload_n F dX8_livesOne_191 0 rfl ?_
                        refine ok_getr F dX8_livesOne_192 kF_X8_52 sh_0 rfl ?_
                        refine ok_iload F dX8_livesOne_195 6 rfl ?_
                        refine ok_iload F dX8_livesOne_197 5 rfl ?_
                        refine ok_if_eq F 212 dX8_livesOne_199 (by decide) (by omega) (fun c_25 => ?_) (fun c_25 => ?_)
                        · refine ok_aload_n F dX8_livesOne_212 0 rfl ?_
                          refine ok_getr F dX8_livesOne_213 kF_X8_52 sh_0 rfl ?_
                          refine ok_iload F dX8_livesOne_216 6 rfl ?_
                          refine ok_iald (v := m9 14 q.toNat) F dX8_livesOne_218 sh_14 (by first | decide | assumption) (by omega) (by omega) rfl ?_
                          refine ok_aload_n F dX8_livesOne_219 0 rfl ?_
                          refine ok_getr F dX8_livesOne_220 kF_X8_42 sh_0 rfl ?_
                          refine ok_iload F dX8_livesOne_223 6 rfl ?_
                          refine ok_iald (v := m9 11 q.toNat) F dX8_livesOne_225 sh_11 (by first | decide | assumption) (by omega) (by omega) rfl ?_
                          refine ok_isub F dX8_livesOne_226 ?_
                          refine ok_iast F dX8_livesOne_227 sh_14 (by first | decide | assumption) (by omega) (by omega) (fun m_26 e_27 => ?_)
                          refine ok_iinc (lv' := [(6, pI (q + 1)), (0, pR 0), (1, pI s), (2, pI (59 + (10 * s))), (3, pI b), (4, pI z_2), (5, pI i5)]) F dX8_livesOne_228 6 rfl (by decide) rfl ?_
                          refine ok_goto F 180 dX8_livesOne_231 (by decide) ?_
                          refine ok_lvp [1, 2, 3, 4, 5, 6, 0] (lv' := [(0, pR 0), (1, pI s), (2, pI (59 + (10 * s))), (3, pI b), (4, pI z_2), (5, pI i5), (6, pI (q + 1))]) rfl ?_
                          refine ih_180 _ ?_ (q + 1) m_26 ?_ rfl
                          · omega
                          · refine ⟨by omega, by omega, fun a a1 => by rw [← hF9 a a1, e_27]; funext b; exact mset_nk a1, fun i => ?_⟩
                            rw [e_27]
                            by_cases e : i = q.toNat
                            · subst e
                              rw [mset_eq, if_pos (by omega), rowS]
                              by_cases hs1 : shortS (mem 1) (mem 14) s.toNat = true
                              · rw [if_pos hs1] at hsh ⊢
                                first
                                  | (rw [hF9 15 (by decide)]; exact h155 _ (by omega))
                                  | (exfalso; omega)
                              · rw [if_neg hs1] at hsh ⊢
                                have hdf : fewS (mem 1) (mem 14) s.toNat ≠ 1000000 := fun z => hs1 (by unfold shortS; rw [decide_eq_true z, Bool.true_or])
                                first
                                  | (exfalso; omega)
                                  | (rw [if_pos (by omega), h149, if_neg (by omega), hF9 11 (by decide), hm5, hT5 hdf _ (by omega)])
                            · rw [mset_ne (fun z => e z.2), h149]; by_cases g : (i : Int) < q
                              · rw [if_pos g, if_pos (by omega)]
                              · rw [if_neg g, if_neg (by omega)]
                        · refine ok_aload_n F dX8_livesOne_202 0 rfl ?_
                          refine ok_getr F dX8_livesOne_203 kF_X8_55 sh_0 rfl ?_
                          refine ok_iload F dX8_livesOne_206 6 rfl ?_
                          refine ok_iald (v := m9 15 q.toNat) F dX8_livesOne_208 sh_15 (by first | decide | assumption) (by omega) (by omega) rfl ?_
                          refine ok_goto F 227 dX8_livesOne_209 (by decide) ?_
                          refine ok_iast F dX8_livesOne_227 sh_14 (by first | decide | assumption) (by omega) (by omega) (fun m_28 e_29 => ?_)
                          refine ok_iinc (lv' := [(6, pI (q + 1)), (0, pR 0), (1, pI s), (2, pI (59 + (10 * s))), (3, pI b), (4, pI z_2), (5, pI i5)]) F dX8_livesOne_228 6 rfl (by decide) rfl ?_
                          refine ok_goto F 180 dX8_livesOne_231 (by decide) ?_
                          refine ok_lvp [1, 2, 3, 4, 5, 6, 0] (lv' := [(0, pR 0), (1, pI s), (2, pI (59 + (10 * s))), (3, pI b), (4, pI z_2), (5, pI i5), (6, pI (q + 1))]) rfl ?_
                          refine ih_180 _ ?_ (q + 1) m_28 ?_ rfl
                          · omega
                          · refine ⟨by omega, by omega, fun a a1 => by rw [← hF9 a a1, e_29]; funext b; exact mset_nk a1, fun i => ?_⟩
                            rw [e_29]
                            by_cases e : i = q.toNat
                            · subst e
                              rw [mset_eq, if_pos (by omega), rowS]
                              by_cases hs1 : shortS (mem 1) (mem 14) s.toNat = true
                              · rw [if_pos hs1] at hsh ⊢
                                first
                                  | (rw [hF9 15 (by decide)]; exact h155 _ (by omega))
                                  | (exfalso; omega)
                              · rw [if_neg hs1] at hsh ⊢
                                have hdf : fewS (mem 1) (mem 14) s.toNat ≠ 1000000 := fun z => hs1 (by unfold shortS; rw [decide_eq_true z, Bool.true_or])
                                first
                                  | (exfalso; omega)
                                  | (rw [if_pos (by omega), h149, if_neg (by omega), hF9 11 (by decide), hm5, hT5 hdf _ (by omega)])
                            · rw [mset_ne (fun z => e z.2), h149]; by_cases g : (i : Int) < q
                              · rw [if_pos g, if_pos (by omega)]
                              · rw [if_neg g, if_neg (by omega)]
                  refine ok_lvp [1, 2, 3, 4, 5, 6, 0] (lv' := [(0, pR 0), (1, pI s), (2, pI (59 + (10 * s))), (3, pI b), (4, pI z_2), (5, pI i5), (6, pI 0)]) rfl ?_
                  refine hL_180 _ 0 m_3 ?_ rfl
                  exact ⟨by omega, by omega, fun a _ => by rw [hm5], fun i => by rw [if_neg (by omega), hw5]⟩
                · have hdf : fewS (mem 1) (mem 14) s.toNat ≠ 1000000 := fun z => by
                    obtain ⟨-, -, q⟩ := hI_128
                    rw [if_pos (by rw [decide_eq_true z, Bool.true_or])] at q
                    omega
                  have hj8 := hG j.toNat (by omega)
                  have hw8 := hW j.toNat (by omega)
                  have e14 : m 14 j.toNat = stk (mem 1) (mem 14) s.toNat j.toNat := by rw [hst]
                  have e11 : m_3 11 j.toNat = takS (mem 1) (mem 14) s.toNat j.toNat := hT5 hdf _ (by omega)
                  have es : stk (mem 1) (mem 14) s.toNat j.toNat = mem 14 j.toNat + sGiven (mem 1) s.toNat j.toNat := if_pos (by omega)
                  have et : 0 ≤ takS (mem 1) (mem 14) s.toNat j.toNat ∧ takS (mem 1) (mem 14) s.toNat j.toNat ≤ stk (mem 1) (mem 14) s.toNat j.toNat := by
                    have := takR_le (valF (mem 1)) (fun i => (stk (mem 1) (mem 14) s.toNat i).toNat) (mem 1 0).toNat (abvS (mem 1) s.toNat).toNat j.toNat (by omega)
                    try dsimp only at this
                    unfold takS
                    omega
                  refine ok_aload_n F dX8_livesOne_144 0 rfl ?_
                  refine ok_getr F dX8_livesOne_145 kF_X8_52 sh_0 rfl ?_
                  refine ok_iload F dX8_livesOne_148 6 rfl ?_
                  refine ok_iald (v := m 14 j.toNat) F dX8_livesOne_150 sh_14 (by first | decide | assumption) (by omega) (by omega) (by rw [(r_4.1 14 (by decide) (by decide) (by decide))] <;> rfl) ?_
                  refine ok_aload_n F dX8_livesOne_151 0 rfl ?_
                  refine ok_getr F dX8_livesOne_152 kF_X8_42 sh_0 rfl ?_
                  refine ok_iload F dX8_livesOne_155 6 rfl ?_
                  refine ok_iald (v := m_3 11 j.toNat) F dX8_livesOne_157 sh_11 (by first | decide | assumption) (by omega) (by omega) rfl ?_
                  refine ok_isub F dX8_livesOne_158 ?_
                  refine ok_bipush F dX8_livesOne_159 rfl ?_
                  refine ok_icmp_le F 168 dX8_livesOne_161 (by decide) (by omega) (by omega) (fun c_30 => ?_) (fun c_30 => ?_)
                  · refine ok_iconst F dX8_livesOne_168 ?_
                    refine ok_istore (lv' := [(5, pI 0), (0, pR 0), (1, pI s), (2, pI (59 + (10 * s))), (3, pI b), (4, pI z_2), (6, pI j)]) F dX8_livesOne_169 (by decide) rfl ?_
                    refine ok_iinc (lv' := [(6, pI (j + 1)), (5, pI 0), (0, pR 0), (1, pI s), (2, pI (59 + (10 * s))), (3, pI b), (4, pI z_2)]) F dX8_livesOne_171 6 rfl (by decide) rfl ?_
                    refine ok_goto F 128 dX8_livesOne_174 (by decide) ?_
                    refine ok_lvp [2, 3, 4, 5, 6, 1, 0] (lv' := [(0, pR 0), (1, pI s), (2, pI (59 + (10 * s))), (3, pI b), (4, pI z_2), (5, pI 0), (6, pI (j + 1))]) rfl ?_
                    refine ih_128 _ ?_ 0 (j + 1) ?_ rfl
                    · omega
                    · refine ⟨by omega, by omega, ?_⟩
                      rw [show (j + 1).toNat = j.toNat + 1 by omega, anyN]
                      have h0 : (decide (fewS (mem 1) (mem 14) s.toNat = 1000000) || anyN (overS (mem 1) (mem 14) s.toNat) j.toNat) = false := by
                        by_cases q : (decide (fewS (mem 1) (mem 14) s.toNat = 1000000) || anyN (overS (mem 1) (mem 14) s.toNat) j.toNat) = true
                        · rw [if_pos q] at hI_128; omega
                        · exact Bool.eq_false_iff.mpr q
                      rw [← Bool.or_assoc, h0, Bool.false_or]
                      unfold overS
                      first
                        | (rw [if_pos (decide_eq_true (by omega))]; done)
                        | (rw [if_neg (by rw [decide_eq_true_iff]; omega)]; done)
                  · refine ok_iconst F dX8_livesOne_164 ?_
                    refine ok_goto F 169 dX8_livesOne_165 (by decide) ?_
                    refine ok_istore (lv' := [(5, pI 1), (0, pR 0), (1, pI s), (2, pI (59 + (10 * s))), (3, pI b), (4, pI z_2), (6, pI j)]) F dX8_livesOne_169 (by decide) rfl ?_
                    refine ok_iinc (lv' := [(6, pI (j + 1)), (5, pI 1), (0, pR 0), (1, pI s), (2, pI (59 + (10 * s))), (3, pI b), (4, pI z_2)]) F dX8_livesOne_171 6 rfl (by decide) rfl ?_
                    refine ok_goto F 128 dX8_livesOne_174 (by decide) ?_
                    refine ok_lvp [2, 3, 4, 5, 6, 1, 0] (lv' := [(0, pR 0), (1, pI s), (2, pI (59 + (10 * s))), (3, pI b), (4, pI z_2), (5, pI 1), (6, pI (j + 1))]) rfl ?_
                    refine ih_128 _ ?_ 1 (j + 1) ?_ rfl
                    · omega
                    · refine ⟨by omega, by omega, ?_⟩
                      rw [show (j + 1).toNat = j.toNat + 1 by omega, anyN]
                      have h0 : (decide (fewS (mem 1) (mem 14) s.toNat = 1000000) || anyN (overS (mem 1) (mem 14) s.toNat) j.toNat) = false := by
                        by_cases q : (decide (fewS (mem 1) (mem 14) s.toNat = 1000000) || anyN (overS (mem 1) (mem 14) s.toNat) j.toNat) = true
                        · rw [if_pos q] at hI_128; omega
                        · exact Bool.eq_false_iff.mpr q
                      rw [← Bool.or_assoc, h0, Bool.false_or]
                      unfold overS
                      first
                        | (rw [if_pos (decide_eq_true (by omega))]; done)
                        | (rw [if_neg (by rw [decide_eq_true_iff]; omega)]; done)
          refine ok_lvp [3, 4, 5, 6, 2, 1, 0] (lv' := [(0, pR 0), (1, pI s), (2, pI (59 + (10 * s))), (3, pI b), (4, pI z_2), (5, pI 0), (6, pI 0)]) rfl ?_
          refine hL_128 _ 0 0 ?_ rfl
          refine ⟨by omega, by omega, ?_⟩
          simp only [Int.toNat_zero, anyN, Bool.or_false, decide_eq_true_eq]
          first | rw [if_pos (by omega)] | rw [if_neg (by omega)]
        · refine ok_iconst F dX8_livesOne_118 ?_
          refine ok_goto F 123 dX8_livesOne_119 (by decide) ?_
          refine ok_istore (lv' := [(5, pI 1), (4, pI z_2), (0, pR 0), (1, pI s), (2, pI (59 + (10 * s))), (3, pI b)]) F dX8_livesOne_123 (by decide) rfl ?_
          refine ok_iconst F dX8_livesOne_125 ?_
          refine ok_istore (lv' := [(6, pI 0), (5, pI 1), (4, pI z_2), (0, pR 0), (1, pI s), (2, pI (59 + (10 * s))), (3, pI b)]) F dX8_livesOne_126 (by decide) rfl ?_
          have hL_128 : ∀ (n_128 : Nat) (i5 : Int) (j : Int), (0 ≤ j ∧ j ≤ mem 1 0 ∧ i5 = if (decide (fewS (mem 1) (mem 14) s.toNat = 1000000) || anyN (overS (mem 1) (mem 14) s.toNat) j.toNat) = true then 1 else 0) → (mem 1 0 - j).toNat = n_128 → Ok shp X 7 128 [(0, pR 0), (1, pI s), (2, pI (59 + (10 * s))), (3, pI b), (4, pI z_2), (5, pI i5), (6, pI j)] [] m_3 := by
            intro n_128
            induction n_128 using Nat.strongRecOn with
            | _ n_128 ih_128 =>
              intro i5 j hI_128 hn_128
              refine ok_iload F dX8_livesOne_128 6 rfl ?_
              refine ok_aload_n F dX8_livesOne_130 0 rfl ?_
              refine ok_getr F dX8_livesOne_131 kF_X8_9 sh_0 rfl ?_
              refine ok_iconst F dX8_livesOne_134 ?_
              refine ok_iald (v := mem 1 0) F dX8_livesOne_135 sh_1 (by first | decide | assumption) (by omega) (by omega) (by rw [(r_4.1 1 (by decide) (by decide) (by decide)), h1] <;> rfl) ?_
              refine ok_icmp_ge F 177 dX8_livesOne_136 (by decide) (by omega) (by omega) (fun c_31 => ?_) (fun c_31 => ?_)
              · have hsh : i5 = if shortS (mem 1) (mem 14) s.toNat = true then 1 else 0 := by
                  obtain ⟨hj0, hj1, hi5⟩ := hI_128
                  by_cases ej : j = mem 1 0
                  · rw [hi5, ej]; rfl
                  · by_cases q : (decide (fewS (mem 1) (mem 14) s.toNat = 1000000) || anyN (overS (mem 1) (mem 14) s.toNat) j.toNat) = true
                    · have hs1 : shortS (mem 1) (mem 14) s.toNat = true := by
                        unfold shortS
                        rcases (Bool.or_eq_true _ _).mp q with a | a
                        · rw [a, Bool.true_or]
                        · rw [anyN_mono (by omega) a, Bool.or_true]
                      rw [hi5, if_pos q, if_pos hs1]
                    · exfalso
                      rw [if_neg q] at hi5
                      omega
                refine ok_iconst F dX8_livesOne_177 ?_
                refine ok_istore (lv' := [(6, pI 0), (0, pR 0), (1, pI s), (2, pI (59 + (10 * s))), (3, pI b), (4, pI z_2), (5, pI i5)]) F dX8_livesOne_178 (by decide) rfl ?_
                have hL_180 : ∀ (n_180 : Nat) (q : Int) (m9 : Mem), (0 ≤ q ∧ q ≤ mem 1 0 ∧ (∀ a, a ≠ 14 → m9 a = m5 a) ∧ ∀ i : Nat, m9 14 i = if (i : Int) < q then rowS (mem 1) (mem 14) s.toNat i else stk (mem 1) (mem 14) s.toNat i) → (mem 1 0 - q).toNat = n_180 → Ok shp X 7 180 [(0, pR 0), (1, pI s), (2, pI (59 + (10 * s))), (3, pI b), (4, pI z_2), (5, pI i5), (6, pI q)] [] m9 := by
                  intro n_180
                  induction n_180 using Nat.strongRecOn with
                  | _ n_180 ih_180 =>
                    intro q m9 hI_180 hn_180
                    obtain ⟨hq0, hq1, hF9, h149⟩ := hI_180
                    have h19 : m9 1 = mem 1 := by rw [hF9 1 (by decide), hm5, h51]
                    refine ok_iload F dX8_livesOne_180 6 rfl ?_
                    refine ok_aload_n F dX8_livesOne_182 0 rfl ?_
                    refine ok_getr F dX8_livesOne_183 kF_X8_9 sh_0 rfl ?_
                    refine ok_iconst F dX8_livesOne_186 ?_
                    refine ok_iald (v := mem 1 0) F dX8_livesOne_187 sh_1 (by first | decide | assumption) (by omega) (by omega) (by rw [h19] <;> rfl) ?_
                    refine ok_icmp_ge F 234 dX8_livesOne_188 (by decide) (by omega) (by omega) (fun c_32 => ?_) (fun c_32 => ?_)
                    · refine ok_aload_n F dX8_livesOne_234 0 rfl ?_
                      refine ok_dup F dX8_livesOne_235 rfl ?_
                      refine ok_getf (v := m9 0 22) F dX8_livesOne_236 kF_X8_255 sh_0 rfl rfl ?_
                      refine ok_iload F dX8_livesOne_239 5 rfl ?_
                      refine ok_if_eq F 248 dX8_livesOne_241 (by decide) (by omega) (fun c_33 => ?_) (fun c_33 => ?_)
                      · refine ok_iload F dX8_livesOne_248 4 rfl ?_
                        refine ok_iadd F dX8_livesOne_250 ?_
                        refine ok_putf F dX8_livesOne_251 kF_X8_255 sh_0 rfl rfl rfl (fun m_34 e_35 => ?_)
                        refine ok_iload F dX8_livesOne_254 5 rfl ?_
                        refine ok_zret F G dX8_livesOne_256 (by rw [hsh]; exact zb_nar) ?_
                        refine ⟨_, rfl, fun a a0 a8 a9 a11 a14 a15 => ?_, fun j hj => ?_, ?_, hsh, fun i => ?_, fun i hi => ?_⟩
                        · rw [← hF a a14 a15, ← hfr a a8 a9 a11, ← hm5, ← hF9 a a14, e_35]; funext b; exact mset_nk a0
                        · rw [e_35, mset_ne (fun q => hj q.2), hF9 0 (by decide), hm5, hfr 0 (by decide) (by decide) (by decide), hF 0 (by decide) (by decide)]
                        · rw [e_35, mset_eq, hF9 0 (by decide), hm5, hfr 0 (by decide) (by decide) (by decide), hF 0 (by decide) (by decide), pcsS]
                          by_cases hs1 : shortS (mem 1) (mem 14) s.toNat = true
                          · rw [if_pos hs1] at hsh
                            rw [if_pos hs1] <;> (first | rfl | (exfalso; omega))
                          · rw [if_neg hs1] at hsh ⊢
                            have hdf : fewS (mem 1) (mem 14) s.toNat ≠ 1000000 := fun z => hs1 (by unfold shortS; rw [decide_eq_true z, Bool.true_or])
                            first | (exfalso; omega) | (rw [(hch1.resolve_left (fun x => hdf x.1)).2.1])
                        · rw [e_35, mset_nk (by decide), h149]
                          by_cases g : (i : Int) < q
                          · rw [if_pos g]
                          · have gi : ¬ (i : Int) < mem 1 0 := by omega
                            rw [if_neg g]
                            simp [rowS, stk, gi]
                        · rw [e_35, mset_nk (by decide), hF9 15 (by decide)]; exact h155 i hi
                      · refine ok_iconst F dX8_livesOne_244 ?_
                        refine ok_goto F 250 dX8_livesOne_245 (by decide) ?_
                        refine ok_iadd F dX8_livesOne_250 ?_
                        refine ok_putf F dX8_livesOne_251 kF_X8_255 sh_0 rfl rfl rfl (fun m_36 e_37 => ?_)
                        refine ok_iload F dX8_livesOne_254 5 rfl ?_
                        refine ok_zret F G dX8_livesOne_256 (by rw [hsh]; exact zb_nar) ?_
                        refine ⟨_, rfl, fun a a0 a8 a9 a11 a14 a15 => ?_, fun j hj => ?_, ?_, hsh, fun i => ?_, fun i hi => ?_⟩
                        · rw [← hF a a14 a15, ← hfr a a8 a9 a11, ← hm5, ← hF9 a a14, e_37]; funext b; exact mset_nk a0
                        · rw [e_37, mset_ne (fun q => hj q.2), hF9 0 (by decide), hm5, hfr 0 (by decide) (by decide) (by decide), hF 0 (by decide) (by decide)]
                        · rw [e_37, mset_eq, hF9 0 (by decide), hm5, hfr 0 (by decide) (by decide) (by decide), hF 0 (by decide) (by decide), pcsS]
                          by_cases hs1 : shortS (mem 1) (mem 14) s.toNat = true
                          · rw [if_pos hs1] at hsh
                            rw [if_pos hs1] <;> (first | rfl | (exfalso; omega))
                          · rw [if_neg hs1] at hsh ⊢
                            have hdf : fewS (mem 1) (mem 14) s.toNat ≠ 1000000 := fun z => hs1 (by unfold shortS; rw [decide_eq_true z, Bool.true_or])
                            first | (exfalso; omega) | (rw [(hch1.resolve_left (fun x => hdf x.1)).2.1])
                        · rw [e_37, mset_nk (by decide), h149]
                          by_cases g : (i : Int) < q
                          · rw [if_pos g]
                          · have gi : ¬ (i : Int) < mem 1 0 := by omega
                            rw [if_neg g]
                            simp [rowS, stk, gi]
                        · rw [e_37, mset_nk (by decide), hF9 15 (by decide)]; exact h155 i hi
                    · refine ok_aload_n F dX8_livesOne_191 0 rfl ?_
                      refine ok_getr F dX8_livesOne_192 kF_X8_52 sh_0 rfl ?_
                      refine ok_iload F dX8_livesOne_195 6 rfl ?_
                      refine ok_iload F dX8_livesOne_197 5 rfl ?_
                      refine ok_if_eq F 212 dX8_livesOne_199 (by decide) (by omega) (fun c_38 => ?_) (fun c_38 => ?_)
                      · refine ok_aload_n F dX8_livesOne_212 0 rfl ?_
                        refine ok_getr F dX8_livesOne_213 kF_X8_52 sh_0 rfl ?_
                        refine ok_iload F dX8_livesOne_216 6 rfl ?_
                        refine ok_iald (v := m9 14 q.toNat) F dX8_livesOne_218 sh_14 (by first | decide | assumption) (by omega) (by omega) rfl ?_
                        refine ok_aload_n F dX8_livesOne_219 0 rfl ?_
                        refine ok_getr F dX8_livesOne_220 kF_X8_42 sh_0 rfl ?_
                        refine ok_iload F dX8_livesOne_223 6 rfl ?_
                        refine ok_iald (v := m9 11 q.toNat) F dX8_livesOne_225 sh_11 (by first | decide | assumption) (by omega) (by omega) rfl ?_
                        refine ok_isub F dX8_livesOne_226 ?_
                        refine ok_iast F dX8_livesOne_227 sh_14 (by first | decide | assumption) (by omega) (by omega) (fun m_39 e_40 => ?_)
                        refine ok_iinc (lv' := [(6, pI (q + 1)), (0, pR 0), (1, pI s), (2, pI (59 + (10 * s))), (3, pI b), (4, pI z_2), (5, pI i5)]) F dX8_livesOne_228 6 rfl (by decide) rfl ?_
                        refine ok_goto F 180 dX8_livesOne_231 (by decide) ?_
                        refine ok_lvp [1, 2, 3, 4, 5, 6, 0] (lv' := [(0, pR 0), (1, pI s), (2, pI (59 + (10 * s))), (3, pI b), (4, pI z_2), (5, pI i5), (6, pI (q + 1))]) rfl ?_
                        refine ih_180 _ ?_ (q + 1) m_39 ?_ rfl
                        · omega
                        · refine ⟨by omega, by omega, fun a a1 => by rw [← hF9 a a1, e_40]; funext b; exact mset_nk a1, fun i => ?_⟩
                          rw [e_40]
                          by_cases e : i = q.toNat
                          · subst e
                            rw [mset_eq, if_pos (by omega), rowS]
                            by_cases hs1 : shortS (mem 1) (mem 14) s.toNat = true
                            · rw [if_pos hs1] at hsh ⊢
                              first
                                | (rw [hF9 15 (by decide)]; exact h155 _ (by omega))
                                | (exfalso; omega)
                            · rw [if_neg hs1] at hsh ⊢
                              have hdf : fewS (mem 1) (mem 14) s.toNat ≠ 1000000 := fun z => hs1 (by unfold shortS; rw [decide_eq_true z, Bool.true_or])
                              first
                                | (exfalso; omega)
                                | (rw [if_pos (by omega), h149, if_neg (by omega), hF9 11 (by decide), hm5, hT5 hdf _ (by omega)])
                          · rw [mset_ne (fun z => e z.2), h149]; by_cases g : (i : Int) < q
                            · rw [if_pos g, if_pos (by omega)]
                            · rw [if_neg g, if_neg (by omega)]
                      · refine ok_aload_n F dX8_livesOne_202 0 rfl ?_
                        refine ok_getr F dX8_livesOne_203 kF_X8_55 sh_0 rfl ?_
                        refine ok_iload F dX8_livesOne_206 6 rfl ?_
                        refine ok_iald (v := m9 15 q.toNat) F dX8_livesOne_208 sh_15 (by first | decide | assumption) (by omega) (by omega) rfl ?_
                        refine ok_goto F 227 dX8_livesOne_209 (by decide) ?_
                        refine ok_iast F dX8_livesOne_227 sh_14 (by first | decide | assumption) (by omega) (by omega) (fun m_41 e_42 => ?_)
                        refine ok_iinc (lv' := [(6, pI (q + 1)), (0, pR 0), (1, pI s), (2, pI (59 + (10 * s))), (3, pI b), (4, pI z_2), (5, pI i5)]) F dX8_livesOne_228 6 rfl (by decide) rfl ?_
                        refine ok_goto F 180 dX8_livesOne_231 (by decide) ?_
                        refine ok_lvp [1, 2, 3, 4, 5, 6, 0] (lv' := [(0, pR 0), (1, pI s), (2, pI (59 + (10 * s))), (3, pI b), (4, pI z_2), (5, pI i5), (6, pI (q + 1))]) rfl ?_
                        refine ih_180 _ ?_ (q + 1) m_41 ?_ rfl
                        · omega
                        · refine ⟨by omega, by omega, fun a a1 => by rw [← hF9 a a1, e_42]; funext b; exact mset_nk a1, fun i => ?_⟩
                          rw [e_42]
                          by_cases e : i = q.toNat
                          · subst e
                            rw [mset_eq, if_pos (by omega), rowS]
                            by_cases hs1 : shortS (mem 1) (mem 14) s.toNat = true
                            · rw [if_pos hs1] at hsh ⊢
                              first
                                | (rw [hF9 15 (by decide)]; exact h155 _ (by omega))
                                | (exfalso; omega)
                            · rw [if_neg hs1] at hsh ⊢
                              have hdf : fewS (mem 1) (mem 14) s.toNat ≠ 1000000 := fun z => hs1 (by unfold shortS; rw [decide_eq_true z, Bool.true_or])
                              first
                                | (exfalso; omega)
                                | (rw [if_pos (by omega), h149, if_neg (by omega), hF9 11 (by decide), hm5, hT5 hdf _ (by omega)])
                          · rw [mset_ne (fun z => e z.2), h149]; by_cases g : (i : Int) < q
                            · rw [if_pos g, if_pos (by omega)]
                            · rw [if_neg g, if_neg (by omega)]
                refine ok_lvp [1, 2, 3, 4, 5, 6, 0] (lv' := [(0, pR 0), (1, pI s), (2, pI (59 + (10 * s))), (3, pI b), (4, pI z_2), (5, pI i5), (6, pI 0)]) rfl ?_
                refine hL_180 _ 0 m_3 ?_ rfl
                exact ⟨by omega, by omega, fun a _ => by rw [hm5], fun i => by rw [if_neg (by omega), hw5]⟩
              · refine ok_iload F dX8_livesOne_139 5 rfl ?_
                refine ok_if_ne F 177 dX8_livesOne_141 (by decide) (by omega) (fun c_43 => ?_) (fun c_43 => ?_)
                · have hsh : i5 = if shortS (mem 1) (mem 14) s.toNat = true then 1 else 0 := by
                    obtain ⟨hj0, hj1, hi5⟩ := hI_128
                    by_cases ej : j = mem 1 0
                    · rw [hi5, ej]; rfl
                    · by_cases q : (decide (fewS (mem 1) (mem 14) s.toNat = 1000000) || anyN (overS (mem 1) (mem 14) s.toNat) j.toNat) = true
                      · have hs1 : shortS (mem 1) (mem 14) s.toNat = true := by
                          unfold shortS
                          rcases (Bool.or_eq_true _ _).mp q with a | a
                          · rw [a, Bool.true_or]
                          · rw [anyN_mono (by omega) a, Bool.or_true]
                        rw [hi5, if_pos q, if_pos hs1]
                      · exfalso
                        rw [if_neg q] at hi5
                        omega
                  refine ok_iconst F dX8_livesOne_177 ?_
                  refine ok_istore (lv' := [(6, pI 0), (0, pR 0), (1, pI s), (2, pI (59 + (10 * s))), (3, pI b), (4, pI z_2), (5, pI i5)]) F dX8_livesOne_178 (by decide) rfl ?_
                  have hL_180 : ∀ (n_180 : Nat) (q : Int) (m9 : Mem), (0 ≤ q ∧ q ≤ mem 1 0 ∧ (∀ a, a ≠ 14 → m9 a = m5 a) ∧ ∀ i : Nat, m9 14 i = if (i : Int) < q then rowS (mem 1) (mem 14) s.toNat i else stk (mem 1) (mem 14) s.toNat i) → (mem 1 0 - q).toNat = n_180 → Ok shp X 7 180 [(0, pR 0), (1, pI s), (2, pI (59 + (10 * s))), (3, pI b), (4, pI z_2), (5, pI i5), (6, pI q)] [] m9 := by
                    intro n_180
                    induction n_180 using Nat.strongRecOn with
                    | _ n_180 ih_180 =>
                      intro q m9 hI_180 hn_180
                      obtain ⟨hq0, hq1, hF9, h149⟩ := hI_180
                      have h19 : m9 1 = mem 1 := by rw [hF9 1 (by decide), hm5, h51]
                      refine ok_iload F dX8_livesOne_180 6 rfl ?_
                      refine ok_aload_n F dX8_livesOne_182 0 rfl ?_
                      refine ok_getr F dX8_livesOne_183 kF_X8_9 sh_0 rfl ?_
                      refine ok_iconst F dX8_livesOne_186 ?_
                      refine ok_iald (v := mem 1 0) F dX8_livesOne_187 sh_1 (by first | decide | assumption) (by omega) (by omega) (by rw [h19] <;> rfl) ?_
                      refine ok_icmp_ge F 234 dX8_livesOne_188 (by decide) (by omega) (by omega) (fun c_44 => ?_) (fun c_44 => ?_)
                      · refine ok_aload_n F dX8_livesOne_234 0 rfl ?_
                        refine ok_dup F dX8_livesOne_235 rfl ?_
                        refine ok_getf (v := m9 0 22) F dX8_livesOne_236 kF_X8_255 sh_0 rfl rfl ?_
                        refine ok_iload F dX8_livesOne_239 5 rfl ?_
                        refine ok_if_eq F 248 dX8_livesOne_241 (by decide) (by omega) (fun c_45 => ?_) (fun c_45 => ?_)
                        · refine ok_iload F dX8_livesOne_248 4 rfl ?_
                          refine ok_iadd F dX8_livesOne_250 ?_
                          refine ok_putf F dX8_livesOne_251 kF_X8_255 sh_0 rfl rfl rfl (fun m_46 e_47 => ?_)
                          refine ok_iload F dX8_livesOne_254 5 rfl ?_
                          refine ok_zret F G dX8_livesOne_256 (by rw [hsh]; exact zb_nar) ?_
                          refine ⟨_, rfl, fun a a0 a8 a9 a11 a14 a15 => ?_, fun j hj => ?_, ?_, hsh, fun i => ?_, fun i hi => ?_⟩
                          · rw [← hF a a14 a15, ← hfr a a8 a9 a11, ← hm5, ← hF9 a a14, e_47]; funext b; exact mset_nk a0
                          · rw [e_47, mset_ne (fun q => hj q.2), hF9 0 (by decide), hm5, hfr 0 (by decide) (by decide) (by decide), hF 0 (by decide) (by decide)]
                          · rw [e_47, mset_eq, hF9 0 (by decide), hm5, hfr 0 (by decide) (by decide) (by decide), hF 0 (by decide) (by decide), pcsS]
                            by_cases hs1 : shortS (mem 1) (mem 14) s.toNat = true
                            · rw [if_pos hs1] at hsh
                              rw [if_pos hs1] <;> (first | rfl | (exfalso; omega))
                            · rw [if_neg hs1] at hsh ⊢
                              have hdf : fewS (mem 1) (mem 14) s.toNat ≠ 1000000 := fun z => hs1 (by unfold shortS; rw [decide_eq_true z, Bool.true_or])
                              first | (exfalso; omega) | (rw [(hch1.resolve_left (fun x => hdf x.1)).2.1])
                          · rw [e_47, mset_nk (by decide), h149]
                            by_cases g : (i : Int) < q
                            · rw [if_pos g]
                            · have gi : ¬ (i : Int) < mem 1 0 := by omega
                              rw [if_neg g]
                              simp [rowS, stk, gi]
                          · rw [e_47, mset_nk (by decide), hF9 15 (by decide)]; exact h155 i hi
                        · refine ok_iconst F dX8_livesOne_244 ?_
                          refine ok_goto F 250 dX8_livesOne_245 (by decide) ?_
                          refine ok_iadd F dX8_livesOne_250 ?_
                          refine ok_putf F dX8_livesOne_251 kF_X8_255 sh_0 rfl rfl rfl (fun m_48 e_49 => ?_)
                          refine ok_iload F dX8_livesOne_254 5 rfl ?_
                          refine ok_zret F G dX8_livesOne_256 (by rw [hsh]; exact zb_nar) ?_
                          refine ⟨_, rfl, fun a a0 a8 a9 a11 a14 a15 => ?_, fun j hj => ?_, ?_, hsh, fun i => ?_, fun i hi => ?_⟩
                          · rw [← hF a a14 a15, ← hfr a a8 a9 a11, ← hm5, ← hF9 a a14, e_49]; funext b; exact mset_nk a0
                          · rw [e_49, mset_ne (fun q => hj q.2), hF9 0 (by decide), hm5, hfr 0 (by decide) (by decide) (by decide), hF 0 (by decide) (by decide)]
                          · rw [e_49, mset_eq, hF9 0 (by decide), hm5, hfr 0 (by decide) (by decide) (by decide), hF 0 (by decide) (by decide), pcsS]
                            by_cases hs1 : shortS (mem 1) (mem 14) s.toNat = true
                            · rw [if_pos hs1] at hsh
                              rw [if_pos hs1] <;> (first | rfl | (exfalso; omega))
                            · rw [if_neg hs1] at hsh ⊢
                              have hdf : fewS (mem 1) (mem 14) s.toNat ≠ 1000000 := fun z => hs1 (by unfold shortS; rw [decide_eq_true z, Bool.true_or])
                              first | (exfalso; omega) | (rw [(hch1.resolve_left (fun x => hdf x.1)).2.1])
                          · rw [e_49, mset_nk (by decide), h149]
                            by_cases g : (i : Int) < q
                            · rw [if_pos g]
                            · have gi : ¬ (i : Int) < mem 1 0 := by omega
                              rw [if_neg g]
                              simp [rowS, stk, gi]
                          · rw [e_49, mset_nk (by decide), hF9 15 (by decide)]; exact h155 i hi
                      · refine ok_aload_n F dX8_livesOne_191 0 rfl ?_
                        refine ok_getr F dX8_livesOne_192 kF_X8_52 sh_0 rfl ?_
                        refine ok_iload F dX8_livesOne_195 6 rfl ?_
                        refine ok_iload F dX8_livesOne_197 5 rfl ?_
                        refine ok_if_eq F 212 dX8_livesOne_199 (by decide) (by omega) (fun c_50 => ?_) (fun c_50 => ?_)
                        · refine ok_aload_n F dX8_livesOne_212 0 rfl ?_
                          refine ok_getr F dX8_livesOne_213 kF_X8_52 sh_0 rfl ?_
                          refine ok_iload F dX8_livesOne_216 6 rfl ?_
                          refine ok_iald (v := m9 14 q.toNat) F dX8_livesOne_218 sh_14 (by first | decide | assumption) (by omega) (by omega) rfl ?_
                          refine ok_aload_n F dX8_livesOne_219 0 rfl ?_
                          refine ok_getr F dX8_livesOne_220 kF_X8_42 sh_0 rfl ?_
                          refine ok_iload F dX8_livesOne_223 6 rfl ?_
                          refine ok_iald (v := m9 11 q.toNat) F dX8_livesOne_225 sh_11 (by first | decide | assumption) (by omega) (by omega) rfl ?_
                          refine ok_isub F dX8_livesOne_226 ?_
                          refine ok_iast F dX8_livesOne_227 sh_14 (by first | decide | assumption) (by omega) (by omega) (fun m_51 e_52 => ?_)
                          refine ok_iinc (lv' := [(6, pI (q + 1)), (0, pR 0), (1, pI s), (2, pI (59 + (10 * s))), (3, pI b), (4, pI z_2), (5, pI i5)]) F dX8_livesOne_228 6 rfl (by decide) rfl ?_
                          refine ok_goto F 180 dX8_livesOne_231 (by decide) ?_
                          refine ok_lvp [1, 2, 3, 4, 5, 6, 0] (lv' := [(0, pR 0), (1, pI s), (2, pI (59 + (10 * s))), (3, pI b), (4, pI z_2), (5, pI i5), (6, pI (q + 1))]) rfl ?_
                          refine ih_180 _ ?_ (q + 1) m_51 ?_ rfl
                          · omega
                          · refine ⟨by omega, by omega, fun a a1 => by rw [← hF9 a a1, e_52]; funext b; exact mset_nk a1, fun i => ?_⟩
                            rw [e_52]
                            by_cases e : i = q.toNat
                            · subst e
                              rw [mset_eq, if_pos (by omega), rowS]
                              by_cases hs1 : shortS (mem 1) (mem 14) s.toNat = true
                              · rw [if_pos hs1] at hsh ⊢
                                first
                                  | (rw [hF9 15 (by decide)]; exact h155 _ (by omega))
                                  | (exfalso; omega)
                              · rw [if_neg hs1] at hsh ⊢
                                have hdf : fewS (mem 1) (mem 14) s.toNat ≠ 1000000 := fun z => hs1 (by unfold shortS; rw [decide_eq_true z, Bool.true_or])
                                first
                                  | (exfalso; omega)
                                  | (rw [if_pos (by omega), h149, if_neg (by omega), hF9 11 (by decide), hm5, hT5 hdf _ (by omega)])
                            · rw [mset_ne (fun z => e z.2), h149]; by_cases g : (i : Int) < q
                              · rw [if_pos g, if_pos (by omega)]
                              · rw [if_neg g, if_neg (by omega)]
                        · refine ok_aload_n F dX8_livesOne_202 0 rfl ?_
                          refine ok_getr F dX8_livesOne_203 kF_X8_55 sh_0 rfl ?_
                          refine ok_iload F dX8_livesOne_206 6 rfl ?_
                          refine ok_iald (v := m9 15 q.toNat) F dX8_livesOne_208 sh_15 (by first | decide | assumption) (by omega) (by omega) rfl ?_
                          refine ok_goto F 227 dX8_livesOne_209 (by decide) ?_
                          refine ok_iast F dX8_livesOne_227 sh_14 (by first | decide | assumption) (by omega) (by omega) (fun m_53 e_54 => ?_)
                          refine ok_iinc (lv' := [(6, pI (q + 1)), (0, pR 0), (1, pI s), (2, pI (59 + (10 * s))), (3, pI b), (4, pI z_2), (5, pI i5)]) F dX8_livesOne_228 6 rfl (by decide) rfl ?_
                          refine ok_goto F 180 dX8_livesOne_231 (by decide) ?_
                          refine ok_lvp [1, 2, 3, 4, 5, 6, 0] (lv' := [(0, pR 0), (1, pI s), (2, pI (59 + (10 * s))), (3, pI b), (4, pI z_2), (5, pI i5), (6, pI (q + 1))]) rfl ?_
                          refine ih_180 _ ?_ (q + 1) m_53 ?_ rfl
                          · omega
                          · refine ⟨by omega, by omega, fun a a1 => by rw [← hF9 a a1, e_54]; funext b; exact mset_nk a1, fun i => ?_⟩
                            rw [e_54]
                            by_cases e : i = q.toNat
                            · subst e
                              rw [mset_eq, if_pos (by omega), rowS]
                              by_cases hs1 : shortS (mem 1) (mem 14) s.toNat = true
                              · rw [if_pos hs1] at hsh ⊢
                                first
                                  | (rw [hF9 15 (by decide)]; exact h155 _ (by omega))
                                  | (exfalso; omega)
                              · rw [if_neg hs1] at hsh ⊢
                                have hdf : fewS (mem 1) (mem 14) s.toNat ≠ 1000000 := fun z => hs1 (by unfold shortS; rw [decide_eq_true z, Bool.true_or])
                                first
                                  | (exfalso; omega)
                                  | (rw [if_pos (by omega), h149, if_neg (by omega), hF9 11 (by decide), hm5, hT5 hdf _ (by omega)])
                            · rw [mset_ne (fun z => e z.2), h149]; by_cases g : (i : Int) < q
                              · rw [if_pos g, if_pos (by omega)]
                              · rw [if_neg g, if_neg (by omega)]
                  refine ok_lvp [1, 2, 3, 4, 5, 6, 0] (lv' := [(0, pR 0), (1, pI s), (2, pI (59 + (10 * s))), (3, pI b), (4, pI z_2), (5, pI i5), (6, pI 0)]) rfl ?_
                  refine hL_180 _ 0 m_3 ?_ rfl
                  exact ⟨by omega, by omega, fun a _ => by rw [hm5], fun i => by rw [if_neg (by omega), hw5]⟩
                · have hdf : fewS (mem 1) (mem 14) s.toNat ≠ 1000000 := fun z => by
                    obtain ⟨-, -, q⟩ := hI_128
                    rw [if_pos (by rw [decide_eq_true z, Bool.true_or])] at q
                    omega
                  have hj8 := hG j.toNat (by omega)
                  have hw8 := hW j.toNat (by omega)
                  have e14 : m 14 j.toNat = stk (mem 1) (mem 14) s.toNat j.toNat := by rw [hst]
                  have e11 : m_3 11 j.toNat = takS (mem 1) (mem 14) s.toNat j.toNat := hT5 hdf _ (by omega)
                  have es : stk (mem 1) (mem 14) s.toNat j.toNat = mem 14 j.toNat + sGiven (mem 1) s.toNat j.toNat := if_pos (by omega)
                  have et : 0 ≤ takS (mem 1) (mem 14) s.toNat j.toNat ∧ takS (mem 1) (mem 14) s.toNat j.toNat ≤ stk (mem 1) (mem 14) s.toNat j.toNat := by
                    have := takR_le (valF (mem 1)) (fun i => (stk (mem 1) (mem 14) s.toNat i).toNat) (mem 1 0).toNat (abvS (mem 1) s.toNat).toNat j.toNat (by omega)
                    try dsimp only at this
                    unfold takS
                    omega
                  refine ok_aload_n F dX8_livesOne_144 0 rfl ?_
                  refine ok_getr F dX8_livesOne_145 kF_X8_52 sh_0 rfl ?_
                  refine ok_iload F dX8_livesOne_148 6 rfl ?_
                  refine ok_iald (v := m 14 j.toNat) F dX8_livesOne_150 sh_14 (by first | decide | assumption) (by omega) (by omega) (by rw [(r_4.1 14 (by decide) (by decide) (by decide))] <;> rfl) ?_
                  refine ok_aload_n F dX8_livesOne_151 0 rfl ?_
                  refine ok_getr F dX8_livesOne_152 kF_X8_42 sh_0 rfl ?_
                  refine ok_iload F dX8_livesOne_155 6 rfl ?_
                  refine ok_iald (v := m_3 11 j.toNat) F dX8_livesOne_157 sh_11 (by first | decide | assumption) (by omega) (by omega) rfl ?_
                  refine ok_isub F dX8_livesOne_158 ?_
                  refine ok_bipush F dX8_livesOne_159 rfl ?_
                  refine ok_icmp_le F 168 dX8_livesOne_161 (by decide) (by omega) (by omega) (fun c_55 => ?_) (fun c_55 => ?_)
                  · refine ok_iconst F dX8_livesOne_168 ?_
                    refine ok_istore (lv' := [(5, pI 0), (0, pR 0), (1, pI s), (2, pI (59 + (10 * s))), (3, pI b), (4, pI z_2), (6, pI j)]) F dX8_livesOne_169 (by decide) rfl ?_
                    refine ok_iinc (lv' := [(6, pI (j + 1)), (5, pI 0), (0, pR 0), (1, pI s), (2, pI (59 + (10 * s))), (3, pI b), (4, pI z_2)]) F dX8_livesOne_171 6 rfl (by decide) rfl ?_
                    refine ok_goto F 128 dX8_livesOne_174 (by decide) ?_
                    refine ok_lvp [2, 3, 4, 5, 6, 1, 0] (lv' := [(0, pR 0), (1, pI s), (2, pI (59 + (10 * s))), (3, pI b), (4, pI z_2), (5, pI 0), (6, pI (j + 1))]) rfl ?_
                    refine ih_128 _ ?_ 0 (j + 1) ?_ rfl
                    · omega
                    · refine ⟨by omega, by omega, ?_⟩
                      rw [show (j + 1).toNat = j.toNat + 1 by omega, anyN]
                      have h0 : (decide (fewS (mem 1) (mem 14) s.toNat = 1000000) || anyN (overS (mem 1) (mem 14) s.toNat) j.toNat) = false := by
                        by_cases q : (decide (fewS (mem 1) (mem 14) s.toNat = 1000000) || anyN (overS (mem 1) (mem 14) s.toNat) j.toNat) = true
                        · rw [if_pos q] at hI_128; omega
                        · exact Bool.eq_false_iff.mpr q
                      rw [← Bool.or_assoc, h0, Bool.false_or]
                      unfold overS
                      first
                        | (rw [if_pos (decide_eq_true (by omega))]; done)
                        | (rw [if_neg (by rw [decide_eq_true_iff]; omega)]; done)
                  · refine ok_iconst F dX8_livesOne_164 ?_
                    refine ok_goto F 169 dX8_livesOne_165 (by decide) ?_
                    refine ok_istore (lv' := [(5, pI 1), (0, pR 0), (1, pI s), (2, pI (59 + (10 * s))), (3, pI b), (4, pI z_2), (6, pI j)]) F dX8_livesOne_169 (by decide) rfl ?_
                    refine ok_iinc (lv' := [(6, pI (j + 1)), (5, pI 1), (0, pR 0), (1, pI s), (2, pI (59 + (10 * s))), (3, pI b), (4, pI z_2)]) F dX8_livesOne_171 6 rfl (by decide) rfl ?_
                    refine ok_goto F 128 dX8_livesOne_174 (by decide) ?_
                    refine ok_lvp [2, 3, 4, 5, 6, 1, 0] (lv' := [(0, pR 0), (1, pI s), (2, pI (59 + (10 * s))), (3, pI b), (4, pI z_2), (5, pI 1), (6, pI (j + 1))]) rfl ?_
                    refine ih_128 _ ?_ 1 (j + 1) ?_ rfl
                    · omega
                    · refine ⟨by omega, by omega, ?_⟩
                      rw [show (j + 1).toNat = j.toNat + 1 by omega, anyN]
                      have h0 : (decide (fewS (mem 1) (mem 14) s.toNat = 1000000) || anyN (overS (mem 1) (mem 14) s.toNat) j.toNat) = false := by
                        by_cases q : (decide (fewS (mem 1) (mem 14) s.toNat = 1000000) || anyN (overS (mem 1) (mem 14) s.toNat) j.toNat) = true
                        · rw [if_pos q] at hI_128; omega
                        · exact Bool.eq_false_iff.mpr q
                      rw [← Bool.or_assoc, h0, Bool.false_or]
                      unfold overS
                      first
                        | (rw [if_pos (decide_eq_true (by omega))]; done)
                        | (rw [if_neg (by rw [decide_eq_true_iff]; omega)]; done)
          refine ok_lvp [3, 4, 5, 6, 2, 1, 0] (lv' := [(0, pR 0), (1, pI s), (2, pI (59 + (10 * s))), (3, pI b), (4, pI z_2), (5, pI 1), (6, pI 0)]) rfl ?_
          refine hL_128 _ 1 0 ?_ rfl
          refine ⟨by omega, by omega, ?_⟩
          simp only [Int.toNat_zero, anyN, Bool.or_false, decide_eq_true_eq]
          first | rw [if_pos (by omega)] | rw [if_neg (by omega)]
      · refine ok_aload_n F dX8_livesOne_32 0 rfl ?_
        refine ok_getr F dX8_livesOne_33 kF_X8_55 sh_0 rfl ?_
        refine ok_iload F dX8_livesOne_36 4 rfl ?_
        refine ok_aload_n F dX8_livesOne_38 0 rfl ?_
        refine ok_getr F dX8_livesOne_39 kF_X8_52 sh_0 rfl ?_
        refine ok_iload F dX8_livesOne_42 4 rfl ?_
        refine ok_iald (v := m 14 k.toNat) F dX8_livesOne_44 sh_14 (by first | decide | assumption) (by omega) (by omega) rfl ?_
        refine ok_iast F dX8_livesOne_45 sh_15 (by first | decide | assumption) (by omega) (by omega) (fun m_56 e_57 => ?_)
        refine ok_aload_n F dX8_livesOne_46 0 rfl ?_
        refine ok_getr F dX8_livesOne_47 kF_X8_52 sh_0 rfl ?_
        refine ok_iload F dX8_livesOne_50 4 rfl ?_
        refine ok_dup2 F dX8_livesOne_52 rfl rfl ?_
        refine ok_iald (v := m 14 k.toNat) F dX8_livesOne_53 sh_14 (by first | decide | assumption) (by omega) (by omega) (by rw [e_57, mset_nk (by decide)] <;> rfl) ?_
        refine ok_aload_n F dX8_livesOne_54 0 rfl ?_
        refine ok_getr F dX8_livesOne_55 kF_X8_9 sh_0 rfl ?_
        refine ok_iload_n F dX8_livesOne_58 2 rfl ?_
        refine ok_iconst F dX8_livesOne_59 ?_
        refine ok_iadd F dX8_livesOne_60 ?_
        refine ok_iload F dX8_livesOne_61 4 rfl ?_
        refine ok_iadd F dX8_livesOne_63 ?_
        refine ok_iald (v := mem 1 ((((59 + (10 * s)) + 2) + k).toNat)) F dX8_livesOne_64 sh_1 (by first | decide | assumption) (by omega) (by omega) (by rw [e_57, mset_nk (by decide), h1] <;> rfl) ?_
        refine ok_iadd F dX8_livesOne_65 ?_
        refine ok_iast F dX8_livesOne_66 sh_14 (by first | decide | assumption) (by omega) (by omega) (fun m_58 e_59 => ?_)
        refine ok_iload_n F dX8_livesOne_67 3 rfl ?_
        refine ok_aload_n F dX8_livesOne_68 0 rfl ?_
        refine ok_getr F dX8_livesOne_69 kF_X8_9 sh_0 rfl ?_
        refine ok_iload_n F dX8_livesOne_72 2 rfl ?_
        refine ok_iconst F dX8_livesOne_73 ?_
        refine ok_iadd F dX8_livesOne_74 ?_
        refine ok_iload F dX8_livesOne_75 4 rfl ?_
        refine ok_iadd F dX8_livesOne_77 ?_
        refine ok_iald (v := mem 1 ((((59 + (10 * s)) + 2) + k).toNat)) F dX8_livesOne_78 sh_1 (by first | decide | assumption) (by omega) (by omega) (by rw [e_59, mset_nk (by decide), e_57, mset_nk (by decide), h1] <;> rfl) ?_
        refine ok_aload_n F dX8_livesOne_79 0 rfl ?_
        refine ok_iload F dX8_livesOne_80 4 rfl ?_
        refine ok_callv F [pI k] dX8_livesOne_82 kM_X8_value kI_X8_value kV_X8_value kL_X8_191 (ci := 8) rfl sh_0 rfl (by decide) (Nat.le_of_ble_eq_true rfl) rfl (m_X8_value _ k m_58 (by omega)) ?_
        rintro _ _ ⟨rfl, rfl⟩
        refine ok_imul F dX8_livesOne_85 ?_
        refine ok_iadd F dX8_livesOne_86 ?_
        refine ok_istore_n (lv' := [(3, pI (b + ((mem 1 ((((59 + (10 * s)) + 2) + k).toNat)) * (m_58 1 (3 + k).toNat)))), (0, pR 0), (1, pI s), (2, pI (59 + (10 * s))), (4, pI k)]) F dX8_livesOne_87 (by decide) rfl ?_
        refine ok_iinc (lv' := [(4, pI (k + 1)), (3, pI (b + ((mem 1 ((((59 + (10 * s)) + 2) + k).toNat)) * (m_58 1 (3 + k).toNat)))), (0, pR 0), (1, pI s), (2, pI (59 + (10 * s)))]) F dX8_livesOne_88 4 rfl (by decide) rfl ?_
        refine ok_goto F 21 dX8_livesOne_91 (by decide) ?_
        refine ok_lvp [2, 3, 4, 1, 0] (lv' := [(0, pR 0), (1, pI s), (2, pI (59 + (10 * s))), (3, pI (b + ((mem 1 ((((59 + (10 * s)) + 2) + k).toNat)) * (m_58 1 (3 + k).toNat)))), (4, pI (k + 1))]) rfl ?_
        refine ih_21 _ ?_ (b + ((mem 1 ((((59 + (10 * s)) + 2) + k).toNat)) * (m_58 1 (3 + k).toNat))) (k + 1) m_58 ?_ rfl
        · omega
        · have e1m : m_58 1 = mem 1 := by
            rw [← h1, e_59, e_57]; funext j; rw [mset_nk (by decide), mset_nk (by decide)]
          have eg2 : mem 1 (59 + (10 * s) + 2 + k).toNat = sGiven (mem 1) s.toNat k.toNat := by rw [sGiven]; congr 1; omega
          refine ⟨by omega, by omega, ?_, fun a a1 a2 => ?_, fun i => ?_, fun i hi => ?_⟩
          · rw [sumN_s _ hk0, ← Int.add_assoc, ← hb, ← eg2, e1m, show 3 + k.toNat = (3 + k).toNat by omega]
          · rw [← hF a a1 a2, e_59, e_57]; funext j; rw [mset_nk a1, mset_nk a2]
          · rw [e_59, e_57]
            by_cases e : i = k.toNat
            · subst e; rw [mset_eq, if_pos (by omega), eg2, h14, if_neg (by omega)]
            · rw [mset_ne (fun q => e q.2), mset_nk (by decide), h14]; by_cases g : (i : Int) < k
              · rw [if_pos g, if_pos (by omega)]
              · rw [if_neg g, if_neg (by omega)]
          · rw [e_59, e_57, mset_nk (by decide)]
            by_cases e : i = k.toNat
            · subst e; rw [mset_eq, h14, if_neg (by omega)]
            · rw [mset_ne (fun q => e q.2)]; exact h15 i (by omega)
  refine ok_lvp [3, 4, 2, 1, 0] (lv' := [(0, pR 0), (1, pI s), (2, pI (59 + (10 * s))), (3, pI (-(mem 1 (((59 + (10 * s)) + 1).toNat)))), (4, pI 0)]) rfl ?_
  refine hL_21 _ (-(mem 1 (((59 + (10 * s)) + 1).toNat))) 0 mem ?_ rfl
  refine ⟨by omega, by omega, ?_, fun _ _ _ => rfl, fun i => (if_neg (by omega)).symm, fun i hi => by omega⟩
  rw [sPrice, show (59 + (10 * s) + 1).toNat = 60 + 10 * s.toNat by omega]
  simp [sumN]
