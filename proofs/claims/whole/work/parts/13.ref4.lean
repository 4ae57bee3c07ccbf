/-! the reference: banked, told, counted; sales looked up -/
theorem sumN_bd {f : Nat → Int} {B : Int} : ∀ {n : Nat}, (∀ k, k < n → 0 ≤ f k ∧ f k ≤ B) → 0 ≤ sumN f n ∧ sumN f n ≤ n * B
  | 0, _ => by simp [sumN]
  | n + 1, h => by
    have h1 := sumN_bd (n := n) (fun k hk => h k (Nat.lt_succ_of_lt hk))
    have h2 := h n (Nat.lt_succ_self n)
    have e : ((n + 1 : Nat) : Int) * B = n * B + B := by rw [Int.natCast_add, Int.add_mul]; simp
    simp only [sumN]
    rw [e]
    omega
/-- above its limit, of a kind -/
def abv (mem : Mem) (k : Nat) : Int := max 0 (mem 1 (11 + k) - mem 1 (27 + k))
def bankM (mem : Mem) (n : Nat) : Mem := fun a b => if a = 1 ∧ 11 ≤ b ∧ b < 11 + n then mem 1 b - abv mem (b - 11) else if a = 1 ∧ 51 ≤ b ∧ b < 51 + n then mem 1 b + abv mem (b - 51) else mem a b
theorem bankM_0 (mem : Mem) : bankM mem 0 = mem := by
  funext a b
  unfold bankM
  rw [if_neg (by omega), if_neg (by omega)]
theorem bankM_at {mem : Mem} {n k : Nat} (h : n ≤ k) (hk : k < 8) : bankM mem n 1 (11 + k) = mem 1 (11 + k) ∧ bankM mem n 1 (27 + k) = mem 1 (27 + k) ∧ bankM mem n 1 (51 + k) = mem 1 (51 + k) := by
  refine ⟨?_, ?_, ?_⟩ <;> (unfold bankM; rw [if_neg (by omega), if_neg (by omega)])
theorem bankM_s {mem : Mem} {n : Nat} (h : n < 8) : mset (mset (bankM mem n) 1 (11 + n) (mem 1 (11 + n) - abv mem n)) 1 (51 + n) (mem 1 (51 + n) + abv mem n) = bankM mem (n + 1) := by
  funext a b
  unfold mset
  by_cases h1 : a = 1 ∧ b = 51 + n
  · obtain ⟨rfl, rfl⟩ := h1
    rw [if_pos ⟨rfl, rfl⟩]
    unfold bankM
    rw [if_neg (by omega), if_pos (by omega), show 51 + n - 51 = n by omega]
  · rw [if_neg h1]
    by_cases h2 : a = 1 ∧ b = 11 + n
    · obtain ⟨rfl, rfl⟩ := h2
      rw [if_pos ⟨rfl, rfl⟩]
      unfold bankM
      rw [if_pos (by omega), show 11 + n - 11 = n by omega]
    · rw [if_neg h2]
      unfold bankM
      by_cases h3 : a = 1 ∧ 11 ≤ b ∧ b < 11 + n
      · rw [if_pos h3, if_pos (by omega)]
      · rw [if_neg h3]
        by_cases h4 : a = 1 ∧ 51 ≤ b ∧ b < 51 + n
        · rw [if_pos h4, if_neg (by omega), if_pos (by omega)]
        · rw [if_neg h4, if_neg (by omega), if_neg (by omega)]
theorem cpyN_s0 {mem : Mem} {c p t n : Nat} (h : c ≠ t) : mset (cpyN mem c p t 0 n) t n (cpyN mem c p t 0 n c (p + n)) = cpyN mem c p t 0 (n + 1) := by
  have := cpyN_s (mem := mem) (p := p) (q := 0) (n := n) h
  rwa [Nat.zero_add] at this
/-- bits of the first n numbers of which something is so -/
def bitsN (f : Nat → Bool) : Nat → Int
  | 0 => 0
  | n + 1 => ior (bitsN f n) (if f n = true then ishl 1 n else 0)
theorem bitsN_s (f : Nat → Bool) {k : Int} (h : 0 ≤ k) : bitsN f (k + 1).toNat = ior (bitsN f k.toNat) (if f k.toNat = true then ishl 1 k else 0) := by
  rw [show (k + 1).toNat = k.toNat + 1 by omega, bitsN, show ((k.toNat : Nat) : Int) = k by omega]
theorem dX8_laysWork_0 : decode cX8_laysWork 0 = .ok (.iconst 0, 1) := by decide +kernel
theorem dX8_laysWork_1 : decode cX8_laysWork 1 = .ok (.istore_n 1, 1) := by decide +kernel
theorem dX8_laysWork_2 : decode cX8_laysWork 2 = .ok (.iload_n 1, 1) := by decide +kernel
theorem dX8_laysWork_3 : decode cX8_laysWork 3 = .ok (.bipush 8, 2) := by decide +kernel
theorem dX8_laysWork_5 : decode cX8_laysWork 5 = .ok (.if_icmp .ge 24, 3) := by decide +kernel
theorem dX8_laysWork_8 : decode cX8_laysWork 8 = .ok (.aload_n 0, 1) := by decide +kernel
theorem dX8_laysWork_9 : decode cX8_laysWork 9 = .ok (.getfield 52, 3) := by decide +kernel
theorem dX8_laysWork_12 : decode cX8_laysWork 12 = .ok (.iload_n 1, 1) := by decide +kernel
theorem dX8_laysWork_13 : decode cX8_laysWork 13 = .ok (.aload_n 0, 1) := by decide +kernel
theorem dX8_laysWork_14 : decode cX8_laysWork 14 = .ok (.getfield 9, 3) := by decide +kernel
theorem dX8_laysWork_17 : decode cX8_laysWork 17 = .ok (.bipush 11, 2) := by decide +kernel
theorem dX8_laysWork_19 : decode cX8_laysWork 19 = .ok (.iload_n 1, 1) := by decide +kernel
theorem dX8_laysWork_20 : decode cX8_laysWork 20 = .ok (.iadd, 1) := by decide +kernel
theorem dX8_laysWork_21 : decode cX8_laysWork 21 = .ok (.iaload, 1) := by decide +kernel
theorem dX8_laysWork_22 : decode cX8_laysWork 22 = .ok (.iastore, 1) := by decide +kernel
theorem dX8_laysWork_23 : decode cX8_laysWork 23 = .ok (.iinc 1 1, 3) := by decide +kernel
theorem dX8_laysWork_26 : decode cX8_laysWork 26 = .ok (.goto (-24), 3) := by decide +kernel
theorem dX8_laysWork_29 : decode cX8_laysWork 29 = .ok (.return_, 1) := by decide +kernel
set_option maxHeartbeats 4000000 in
set_option maxRecDepth 100000 in
theorem m_X8_laysWork (l : Launch) (mem : Mem) : Ret shp l yX8_laysWork cX8_laysWork 2 none 0 [pR 0] mem (fun rv mv => rv = none ∧ mv = cpyN mem 1 11 14 0 8) := by
  refine ret_of (by decide +kernel) (Nat.le_of_ble_eq_true rfl) (fun X hX F G => ?_)
  show Ok shp X 2 0 [(0, pR 0)] [] mem
  refine ok_iconst F dX8_laysWork_0 ?_
  refine ok_istore_n (lv' := [(1, pI 0), (0, pR 0)]) F dX8_laysWork_1 (by decide) rfl ?_
  have hL_2 : ∀ (n_2 : Nat) (k : Int) (m : Mem), (0 ≤ k ∧ k ≤ 8 ∧ m = cpyN mem 1 11 14 0 k.toNat) → (8 - k).toNat = n_2 → Ok shp X 2 2 [(0, pR 0), (1, pI k)] [] m := by
    intro n_2
    induction n_2 using Nat.strongRecOn with
    | _ n_2 ih_2 =>
      intro k m hI_2 hn_2
      refine ok_iload_n F dX8_laysWork_2 1 rfl ?_
      refine ok_bipush F dX8_laysWork_3 rfl ?_
      refine ok_icmp_ge F 29 dX8_laysWork_5 (by decide) (by omega) (by omega) (fun c_1 => ?_) (fun c_1 => ?_)
      · refine ok_vret F G dX8_laysWork_29 ?_
        exact ⟨rfl, by rw [hI_2.2.2, show k = 8 by omega]; rfl⟩
      · refine ok_aload_n F dX8_laysWork_8 0 rfl ?_
        refine ok_getr F dX8_laysWork_9 kF_X8_52 sh_0 rfl ?_
        refine ok_iload_n F dX8_laysWork_12 1 rfl ?_
        refine ok_aload_n F dX8_laysWork_13 0 rfl ?_
        refine ok_getr F dX8_laysWork_14 kF_X8_9 sh_0 rfl ?_
        refine ok_bipush F dX8_laysWork_17 rfl ?_
        refine ok_iload_n F dX8_laysWork_19 1 rfl ?_
        refine ok_iadd F dX8_laysWork_20 ?_
        refine ok_iald (v := m 1 ((11 + k).toNat)) F dX8_laysWork_21 sh_1 (by first | decide | assumption) (by omega) (by omega) rfl ?_
        refine ok_iast F dX8_laysWork_22 sh_14 (by first | decide | assumption) (by omega) (by omega) (fun m_2 e_3 => ?_)
        refine ok_iinc (lv' := [(1, pI (k + 1)), (0, pR 0)]) F dX8_laysWork_23 1 rfl (by decide) rfl ?_
        refine ok_goto F 2 dX8_laysWork_26 (by decide) ?_
        refine ok_lvp [1, 0] (lv' := [(0, pR 0), (1, pI (k + 1))]) rfl ?_
        refine ih_2 _ ?_ (k + 1) m_2 ?_ rfl
        · omega
        · refine ⟨by omega, by omega, ?_⟩
          rw [e_3, show (k + 1).toNat = k.toNat + 1 by omega, ← cpyN_s0 (by decide), hI_2.2.2, show (11 + k).toNat = 11 + k.toNat by omega]
  refine ok_lvp [1, 0] (lv' := [(0, pR 0), (1, pI 0)]) rfl ?_
  refine hL_2 _ 0 mem ?_ rfl
  exact ⟨by omega, by omega, (cpyN_0 _ _ _ _ _).symm⟩
theorem dX8_bank_0 : decode cX8_bank 0 = .ok (.aload_n 0, 1) := by decide +kernel
theorem dX8_bank_1 : decode cX8_bank 1 = .ok (.getfield 9, 3) := by decide +kernel
theorem dX8_bank_4 : decode cX8_bank 4 = .ok (.iconst 0, 1) := by decide +kernel
theorem dX8_bank_5 : decode cX8_bank 5 = .ok (.iaload, 1) := by decide +kernel
theorem dX8_bank_6 : decode cX8_bank 6 = .ok (.ifCond .ne 5, 3) := by decide +kernel
theorem dX8_bank_9 : decode cX8_bank 9 = .ok (.iconst (-1), 1) := by decide +kernel
theorem dX8_bank_10 : decode cX8_bank 10 = .ok (.ireturn, 1) := by decide +kernel
theorem dX8_bank_11 : decode cX8_bank 11 = .ok (.iconst 0, 1) := by decide +kernel
theorem dX8_bank_12 : decode cX8_bank 12 = .ok (.istore_n 1, 1) := by decide +kernel
theorem dX8_bank_13 : decode cX8_bank 13 = .ok (.iconst 0, 1) := by decide +kernel
theorem dX8_bank_14 : decode cX8_bank 14 = .ok (.istore_n 2, 1) := by decide +kernel
theorem dX8_bank_15 : decode cX8_bank 15 = .ok (.iload_n 2, 1) := by decide +kernel
theorem dX8_bank_16 : decode cX8_bank 16 = .ok (.aload_n 0, 1) := by decide +kernel
theorem dX8_bank_17 : decode cX8_bank 17 = .ok (.getfield 9, 3) := by decide +kernel
theorem dX8_bank_20 : decode cX8_bank 20 = .ok (.iconst 0, 1) := by decide +kernel
theorem dX8_bank_21 : decode cX8_bank 21 = .ok (.iaload, 1) := by decide +kernel
theorem dX8_bank_22 : decode cX8_bank 22 = .ok (.if_icmp .ge 35, 3) := by decide +kernel
theorem dX8_bank_25 : decode cX8_bank 25 = .ok (.iload_n 1, 1) := by decide +kernel
theorem dX8_bank_26 : decode cX8_bank 26 = .ok (.iconst 0, 1) := by decide +kernel
theorem dX8_bank_27 : decode cX8_bank 27 = .ok (.aload_n 0, 1) := by decide +kernel
theorem dX8_bank_28 : decode cX8_bank 28 = .ok (.getfield 9, 3) := by decide +kernel
theorem dX8_bank_31 : decode cX8_bank 31 = .ok (.bipush 11, 2) := by decide +kernel
theorem dX8_bank_33 : decode cX8_bank 33 = .ok (.iload_n 2, 1) := by decide +kernel
theorem dX8_bank_34 : decode cX8_bank 34 = .ok (.iadd, 1) := by decide +kernel
theorem dX8_bank_35 : decode cX8_bank 35 = .ok (.iaload, 1) := by decide +kernel
theorem dX8_bank_36 : decode cX8_bank 36 = .ok (.aload_n 0, 1) := by decide +kernel
theorem dX8_bank_37 : decode cX8_bank 37 = .ok (.getfield 9, 3) := by decide +kernel
theorem dX8_bank_40 : decode cX8_bank 40 = .ok (.bipush 27, 2) := by decide +kernel
theorem dX8_bank_42 : decode cX8_bank 42 = .ok (.iload_n 2, 1) := by decide +kernel
theorem dX8_bank_43 : decode cX8_bank 43 = .ok (.iadd, 1) := by decide +kernel
theorem dX8_bank_44 : decode cX8_bank 44 = .ok (.iaload, 1) := by decide +kernel
theorem dX8_bank_45 : decode cX8_bank 45 = .ok (.isub, 1) := by decide +kernel
theorem dX8_bank_46 : decode cX8_bank 46 = .ok (.invokestatic 291, 3) := by decide +kernel
theorem dX8_bank_49 : decode cX8_bank 49 = .ok (.iadd, 1) := by decide +kernel
theorem dX8_bank_50 : decode cX8_bank 50 = .ok (.istore_n 1, 1) := by decide +kernel
theorem dX8_bank_51 : decode cX8_bank 51 = .ok (.iinc 2 1, 3) := by decide +kernel
theorem dX8_bank_54 : decode cX8_bank 54 = .ok (.goto (-39), 3) := by decide +kernel
theorem dX8_bank_57 : decode cX8_bank 57 = .ok (.iload_n 1, 1) := by decide +kernel
theorem dX8_bank_58 : decode cX8_bank 58 = .ok (.ifCond .ne 6, 3) := by decide +kernel
theorem dX8_bank_61 : decode cX8_bank 61 = .ok (.bipush (-2), 2) := by decide +kernel
theorem dX8_bank_63 : decode cX8_bank 63 = .ok (.ireturn, 1) := by decide +kernel
theorem dX8_bank_64 : decode cX8_bank 64 = .ok (.aload_n 0, 1) := by decide +kernel
theorem dX8_bank_65 : decode cX8_bank 65 = .ok (.invokevirtual 224, 3) := by decide +kernel
theorem dX8_bank_68 : decode cX8_bank 68 = .ok (.iconst 0, 1) := by decide +kernel
theorem dX8_bank_69 : decode cX8_bank 69 = .ok (.istore_n 2, 1) := by decide +kernel
theorem dX8_bank_70 : decode cX8_bank 70 = .ok (.iload_n 2, 1) := by decide +kernel
theorem dX8_bank_71 : decode cX8_bank 71 = .ok (.aload_n 0, 1) := by decide +kernel
theorem dX8_bank_72 : decode cX8_bank 72 = .ok (.getfield 9, 3) := by decide +kernel
theorem dX8_bank_75 : decode cX8_bank 75 = .ok (.iconst 0, 1) := by decide +kernel
theorem dX8_bank_76 : decode cX8_bank 76 = .ok (.iaload, 1) := by decide +kernel
theorem dX8_bank_77 : decode cX8_bank 77 = .ok (.if_icmp .ge 59, 3) := by decide +kernel
theorem dX8_bank_80 : decode cX8_bank 80 = .ok (.iconst 0, 1) := by decide +kernel
theorem dX8_bank_81 : decode cX8_bank 81 = .ok (.aload_n 0, 1) := by decide +kernel
theorem dX8_bank_82 : decode cX8_bank 82 = .ok (.getfield 9, 3) := by decide +kernel
theorem dX8_bank_85 : decode cX8_bank 85 = .ok (.bipush 11, 2) := by decide +kernel
theorem dX8_bank_87 : decode cX8_bank 87 = .ok (.iload_n 2, 1) := by decide +kernel
theorem dX8_bank_88 : decode cX8_bank 88 = .ok (.iadd, 1) := by decide +kernel
theorem dX8_bank_89 : decode cX8_bank 89 = .ok (.iaload, 1) := by decide +kernel
theorem dX8_bank_90 : decode cX8_bank 90 = .ok (.aload_n 0, 1) := by decide +kernel
theorem dX8_bank_91 : decode cX8_bank 91 = .ok (.getfield 9, 3) := by decide +kernel
theorem dX8_bank_94 : decode cX8_bank 94 = .ok (.bipush 27, 2) := by decide +kernel
theorem dX8_bank_96 : decode cX8_bank 96 = .ok (.iload_n 2, 1) := by decide +kernel
theorem dX8_bank_97 : decode cX8_bank 97 = .ok (.iadd, 1) := by decide +kernel
theorem dX8_bank_98 : decode cX8_bank 98 = .ok (.iaload, 1) := by decide +kernel
theorem dX8_bank_99 : decode cX8_bank 99 = .ok (.isub, 1) := by decide +kernel
theorem dX8_bank_100 : decode cX8_bank 100 = .ok (.invokestatic 291, 3) := by decide +kernel
theorem dX8_bank_103 : decode cX8_bank 103 = .ok (.istore_n 3, 1) := by decide +kernel
theorem dX8_bank_104 : decode cX8_bank 104 = .ok (.aload_n 0, 1) := by decide +kernel
theorem dX8_bank_105 : decode cX8_bank 105 = .ok (.getfield 9, 3) := by decide +kernel
theorem dX8_bank_108 : decode cX8_bank 108 = .ok (.bipush 11, 2) := by decide +kernel
theorem dX8_bank_110 : decode cX8_bank 110 = .ok (.iload_n 2, 1) := by decide +kernel
theorem dX8_bank_111 : decode cX8_bank 111 = .ok (.iadd, 1) := by decide +kernel
theorem dX8_bank_112 : decode cX8_bank 112 = .ok (.dup2, 1) := by decide +kernel
theorem dX8_bank_113 : decode cX8_bank 113 = .ok (.iaload, 1) := by decide +kernel
theorem dX8_bank_114 : decode cX8_bank 114 = .ok (.iload_n 3, 1) := by decide +kernel
theorem dX8_bank_115 : decode cX8_bank 115 = .ok (.isub, 1) := by decide +kernel
theorem dX8_bank_116 : decode cX8_bank 116 = .ok (.iastore, 1) := by decide +kernel
theorem dX8_bank_117 : decode cX8_bank 117 = .ok (.aload_n 0, 1) := by decide +kernel
theorem dX8_bank_118 : decode cX8_bank 118 = .ok (.getfield 9, 3) := by decide +kernel
theorem dX8_bank_121 : decode cX8_bank 121 = .ok (.bipush 51, 2) := by decide +kernel
theorem dX8_bank_123 : decode cX8_bank 123 = .ok (.iload_n 2, 1) := by decide +kernel
theorem dX8_bank_124 : decode cX8_bank 124 = .ok (.iadd, 1) := by decide +kernel
theorem dX8_bank_125 : decode cX8_bank 125 = .ok (.dup2, 1) := by decide +kernel
theorem dX8_bank_126 : decode cX8_bank 126 = .ok (.iaload, 1) := by decide +kernel
theorem dX8_bank_127 : decode cX8_bank 127 = .ok (.iload_n 3, 1) := by decide +kernel
theorem dX8_bank_128 : decode cX8_bank 128 = .ok (.iadd, 1) := by decide +kernel
theorem dX8_bank_129 : decode cX8_bank 129 = .ok (.iastore, 1) := by decide +kernel
theorem dX8_bank_130 : decode cX8_bank 130 = .ok (.iinc 2 1, 3) := by decide +kernel
theorem dX8_bank_133 : decode cX8_bank 133 = .ok (.goto (-63), 3) := by decide +kernel
theorem dX8_bank_136 : decode cX8_bank 136 = .ok (.iload_n 1, 1) := by decide +kernel
theorem dX8_bank_137 : decode cX8_bank 137 = .ok (.ireturn, 1) := by decide +kernel
set_option maxHeartbeats 4000000 in
set_option maxRecDepth 100000 in
theorem m_X8_bank (l : Launch) (mem : Mem) (hN : 0 ≤ mem 1 0 ∧ mem 1 0 ≤ 8) (hP : 0 ≤ mem 0 5 ∧ mem 0 5 ≤ 10) (hTl : ∀ k : Nat, k < 8 → 0 ≤ mem 1 (11 + k) ∧ mem 1 (11 + k) ≤ 99) (hLm : ∀ k : Nat, k < 8 → 0 ≤ mem 1 (27 + k) ∧ mem 1 (27 + k) ≤ 99) : Ret shp l yX8_bank cX8_bank 4 (some .int) 2 [pR 0] mem (fun rv mv => ∃ z, rv = some (pI z) ∧ (mem 1 0 = 0 ∧ z = -1 ∧ mv = mem ∨ mem 1 0 ≠ 0 ∧ (sumN (abv mem) (mem 1 0).toNat = 0 ∧ z = -2 ∧ mv = mem ∨ sumN (abv mem) (mem 1 0).toNat ≠ 0 ∧ z = sumN (abv mem) (mem 1 0).toNat ∧ ∃ m1, PastPush mem m1 ∧ mv = bankM m1 (mem 1 0).toNat))) := by
  refine ret_of (by decide +kernel) (Nat.le_of_ble_eq_true rfl) (fun X hX F G => ?_)
  show Ok shp X 4 0 [(0, pR 0)] [] mem
  refine ok_aload_n F dX8_bank_0 0 rfl ?_
  refine ok_getr F dX8_bank_1 kF_X8_9 sh_0 rfl ?_
  refine ok_iconst F dX8_bank_4 ?_
  refine ok_iald (v := mem 1 0) F dX8_bank_5 sh_1 (by first | decide | assumption) (by omega) (by omega) rfl ?_
  refine ok_if_ne F 11 dX8_bank_6 (by decide) (by omega) (fun c_1 => ?_) (fun c_1 => ?_)
  · refine ok_iconst F dX8_bank_11 ?_
    refine ok_istore_n (lv' := [(1, pI 0), (0, pR 0)]) F dX8_bank_12 (by decide) rfl ?_
    refine ok_iconst F dX8_bank_13 ?_
    refine ok_istore_n (lv' := [(2, pI 0), (1, pI 0), (0, pR 0)]) F dX8_bank_14 (by decide) rfl ?_
    have hL_15 : ∀ (n_15 : Nat) (n1 : Int) (k : Int), (0 ≤ k ∧ k ≤ mem 1 0 ∧ n1 = sumN (abv mem) k.toNat) → (mem 1 0 - k).toNat = n_15 → Ok shp X 4 15 [(0, pR 0), (1, pI n1), (2, pI k)] [] mem := by
      intro n_15
      induction n_15 using Nat.strongRecOn with
      | _ n_15 ih_15 =>
        intro n1 k hI_15 hn_15
        refine ok_iload_n F dX8_bank_15 2 rfl ?_
        refine ok_aload_n F dX8_bank_16 0 rfl ?_
        refine ok_getr F dX8_bank_17 kF_X8_9 sh_0 rfl ?_
        refine ok_iconst F dX8_bank_20 ?_
        refine ok_iald (v := mem 1 0) F dX8_bank_21 sh_1 (by first | decide | assumption) (by omega) (by omega) rfl ?_
        refine ok_icmp_ge F 57 dX8_bank_22 (by decide) (by omega) (by omega) (fun c_2 => ?_) (fun c_2 => ?_)
        · have q0 := sumN_bd (f := abv mem) (B := 99) (n := k.toNat) (fun i hi => by have := hTl i (by omega); have := hLm i (by omega); unfold abv; omega)
          have q9 : (k.toNat : Int) * 99 ≤ 8 * 99 := by omega
          refine ok_iload_n F dX8_bank_57 1 rfl ?_
          refine ok_if_ne F 64 dX8_bank_58 (by decide) (by omega) (fun c_3 => ?_) (fun c_3 => ?_)
          · refine ok_aload_n F dX8_bank_64 0 rfl ?_
            refine ok_callv F [] dX8_bank_65 kM_X8_keepsPast kI_X8_keepsPast kV_X8_keepsPast kL_X8_224 (ci := 8) rfl sh_0 rfl (by decide) (Nat.le_of_ble_eq_true rfl) rfl (m_X8_keepsPast _ mem (by omega)) ?_
            rintro _ m_5 ⟨rfl, r_6⟩
            refine ok_iconst F dX8_bank_68 ?_
            refine ok_istore_n (lv' := [(2, pI 0), (0, pR 0), (1, pI n1)]) F dX8_bank_69 (by decide) rfl ?_
            obtain ⟨m1, hm1⟩ : ∃ x, x = m_5 := ⟨_, rfl⟩
            have hpp : PastPush mem m1 := by rw [hm1]; assumption
            have hp := hpp.now
            have hL_70 : ∀ (n_70 : Nat) (j : Int) (m : Mem), (0 ≤ j ∧ j ≤ mem 1 0 ∧ m = bankM m1 j.toNat) → (mem 1 0 - j).toNat = n_70 → Ok shp X 4 70 [(0, pR 0), (1, pI n1), (2, pI j)] [] m := by
              intro n_70
              induction n_70 using Nat.strongRecOn with
              | _ n_70 ih_70 =>
                intro j m hI_70 hn_70
                have hN0 : m 1 0 = mem 1 0 := by rw [hI_70.2.2, ← hp]; unfold bankM; rw [if_neg (by omega), if_neg (by omega)]
                refine ok_iload_n F dX8_bank_70 2 rfl ?_
                refine ok_aload_n F dX8_bank_71 0 rfl ?_
                refine ok_getr F dX8_bank_72 kF_X8_9 sh_0 rfl ?_
                refine ok_iconst F dX8_bank_75 ?_
                refine ok_iald (v := m 1 0) F dX8_bank_76 sh_1 (by first | decide | assumption) (by omega) (by omega) rfl ?_
                refine ok_icmp_ge F 136 dX8_bank_77 (by decide) (by omega) (by omega) (fun c_7 => ?_) (fun c_7 => ?_)
                · refine ok_iload_n F dX8_bank_136 1 rfl ?_
                  refine ok_iret F G dX8_bank_137 ?_
                  have ek : mem 1 0 = k := by omega
                  refine ⟨_, rfl, Or.inr ⟨by omega, Or.inr ⟨by rw [ek, ← hI_15.2.2]; omega, by rw [ek]; exact hI_15.2.2, m1, hpp, ?_⟩⟩⟩
                  rw [hI_70.2.2, show j = mem 1 0 by omega]
                · have q1 := hTl j.toNat (by omega)
                  have q2 := hLm j.toNat (by omega)
                  obtain ⟨b1, b2, b3⟩ := bankM_at (mem := m1) (Nat.le_refl j.toNat) (by omega)
                  rw [← hI_70.2.2, hp] at b1 b2
                  rw [← b1, show 11 + j.toNat = (11 + j).toNat by omega] at q1
                  rw [← b2, show 27 + j.toNat = (27 + j).toNat by omega] at q2
                  refine ok_iconst F dX8_bank_80 ?_
                  refine ok_aload_n F dX8_bank_81 0 rfl ?_
                  refine ok_getr F dX8_bank_82 kF_X8_9 sh_0 rfl ?_
                  refine ok_bipush F dX8_bank_85 rfl ?_
                  refine ok_iload_n F dX8_bank_87 2 rfl ?_
                  refine ok_iadd F dX8_bank_88 ?_
                  refine ok_iald (v := m 1 ((11 + j).toNat)) F dX8_bank_89 sh_1 (by first | decide | assumption) (by omega) (by omega) rfl ?_
                  refine ok_aload_n F dX8_bank_90 0 rfl ?_
                  refine ok_getr F dX8_bank_91 kF_X8_9 sh_0 rfl ?_
                  refine ok_bipush F dX8_bank_94 rfl ?_
                  refine ok_iload_n F dX8_bank_96 2 rfl ?_
                  refine ok_iadd F dX8_bank_97 ?_
                  refine ok_iald (v := m 1 ((27 + j).toNat)) F dX8_bank_98 sh_1 (by first | decide | assumption) (by omega) (by omega) rfl ?_
                  refine ok_isub F dX8_bank_99 ?_
                  refine ok_mmax F dX8_bank_100 kL_X8_291 kS_J9_max_7cf53 kM_J9_max_7cf53.2.1 kM_J9_max_7cf53.2.2.1 (by omega) (by omega) (by decide) (Nat.le_of_ble_eq_true rfl) ?_
                  refine ok_istore_n (lv' := [(3, pI (max 0 ((m 1 ((11 + j).toNat)) - (m 1 ((27 + j).toNat))))), (0, pR 0), (1, pI n1), (2, pI j)]) F dX8_bank_103 (by decide) rfl ?_
                  refine ok_aload_n F dX8_bank_104 1 rfl ?_
                  refine ok_getr F dX8_bank_105 kF_X8_9 sh_0 rfl ?_
                  refine ok_bipush F dX8_bank_108 rfl ?_
                  refine ok_iload_n F dX8_bank_110 3 rfl ?_
                  refine ok_iadd F dX8_bank_111 ?_
                  refine ok_dup2 F dX8_bank_112 rfl rfl ?_
                  refine ok_iald (v := m 1 ((11 + j).toNat)) F dX8_bank_113 sh_1 (by first | decide | assumption) (by omega) (by omega) rfl ?_
                  refine ok_iload_n F dX8_bank_114 0 rfl ?_
                  refine ok_isub F dX8_bank_115 ?_
                  refine ok_iast F dX8_bank_116 sh_1 (by first | decide | assumption) (by omega) (by omega) (fun m_8 e_9 => ?_)
                  refine ok_aload_n F dX8_bank_117 1 rfl ?_
                  refine ok_getr F dX8_bank_118 kF_X8_9 sh_0 rfl ?_
                  refine ok_bipush F dX8_bank_121 rfl ?_
                  refine ok_iload_n F dX8_bank_123 3 rfl ?_
                  refine ok_iadd F dX8_bank_124 ?_
                  refine ok_dup2 F dX8_bank_125 rfl rfl ?_
                  refine ok_iald (v := m_8 1 ((51 + j).toNat)) F dX8_bank_126 sh_1 (by first | decide | assumption) (by omega) (by omega) rfl ?_
                  refine ok_iload_n F dX8_bank_127 0 rfl ?_
                  refine ok_iadd F dX8_bank_128 ?_
                  refine ok_iast F dX8_bank_129 sh_1 (by first | decide | assumption) (by omega) (by omega) (fun m_10 e_11 => ?_)
                  refine ok_iinc (lv' := [(2, pI (j + 1)), (3, pI (max 0 ((m 1 ((11 + j).toNat)) - (m 1 ((27 + j).toNat))))), (0, pR 0), (1, pI n1)]) F dX8_bank_130 3 rfl (by decide) rfl ?_
                  refine ok_goto F 70 dX8_bank_133 (by decide) ?_
                  refine ok_lvp [2, 3, 0] (lv' := [(0, pR 0), (1, pI n1), (2, pI (j + 1))]) rfl ?_
                  refine ih_70 _ ?_ (j + 1) m_10 ?_ rfl
                  · omega
                  · refine ⟨by omega, by omega, ?_⟩
                    rw [e_11, e_9, show (j + 1).toNat = j.toNat + 1 by omega, ← bankM_s (by omega)]
                    obtain ⟨b1, b2, b3⟩ := bankM_at (mem := m1) (Nat.le_refl j.toNat) (by omega)
                    rw [mset_ne (by omega), show (11 + j).toNat = 11 + j.toNat by omega, show (27 + j).toNat = 27 + j.toNat by omega, show (51 + j).toNat = 51 + j.toNat by omega, hI_70.2.2, b1, b2, b3]
                    rfl
            refine ok_lvp [1, 2, 0] (lv' := [(0, pR 0), (1, pI n1), (2, pI 0)]) rfl ?_
            refine hL_70 _ 0 m_5 ?_ rfl
            exact ⟨by omega, by omega, by rw [hm1]; exact (bankM_0 _).symm⟩
          · refine ok_bipush F dX8_bank_61 rfl ?_
            refine ok_iret F G dX8_bank_63 ?_
            exact ⟨_, rfl, Or.inr ⟨by omega, Or.inl ⟨by rw [show mem 1 0 = k by omega, ← hI_15.2.2]; omega, rfl, rfl⟩⟩⟩
        · have q1 := hTl k.toNat (by omega)
          have q2 := hLm k.toNat (by omega)
          rw [show 11 + k.toNat = (11 + k).toNat by omega] at q1
          rw [show 27 + k.toNat = (27 + k).toNat by omega] at q2
          refine ok_iload_n F dX8_bank_25 1 rfl ?_
          refine ok_iconst F dX8_bank_26 ?_
          refine ok_aload_n F dX8_bank_27 0 rfl ?_
          refine ok_getr F dX8_bank_28 kF_X8_9 sh_0 rfl ?_
          refine ok_bipush F dX8_bank_31 rfl ?_
          refine ok_iload_n F dX8_bank_33 2 rfl ?_
          refine ok_iadd F dX8_bank_34 ?_
          refine ok_iald (v := mem 1 ((11 + k).toNat)) F dX8_bank_35 sh_1 (by first | decide | assumption) (by omega) (by omega) rfl ?_
          refine ok_aload_n F dX8_bank_36 0 rfl ?_
          refine ok_getr F dX8_bank_37 kF_X8_9 sh_0 rfl ?_
          refine ok_bipush F dX8_bank_40 rfl ?_
          refine ok_iload_n F dX8_bank_42 2 rfl ?_
          refine ok_iadd F dX8_bank_43 ?_
          refine ok_iald (v := mem 1 ((27 + k).toNat)) F dX8_bank_44 sh_1 (by first | decide | assumption) (by omega) (by omega) rfl ?_
          refine ok_isub F dX8_bank_45 ?_
          refine ok_mmax F dX8_bank_46 kL_X8_291 kS_J9_max_7cf53 kM_J9_max_7cf53.2.1 kM_J9_max_7cf53.2.2.1 (by omega) (by omega) (by decide) (Nat.le_of_ble_eq_true rfl) ?_
          refine ok_iadd F dX8_bank_49 ?_
          refine ok_istore_n (lv' := [(1, pI (n1 + (max 0 ((mem 1 ((11 + k).toNat)) - (mem 1 ((27 + k).toNat)))))), (0, pR 0), (2, pI k)]) F dX8_bank_50 (by decide) rfl ?_
          refine ok_iinc (lv' := [(2, pI (k + 1)), (1, pI (n1 + (max 0 ((mem 1 ((11 + k).toNat)) - (mem 1 ((27 + k).toNat)))))), (0, pR 0)]) F dX8_bank_51 2 rfl (by decide) rfl ?_
          refine ok_goto F 15 dX8_bank_54 (by decide) ?_
          refine ok_lvp [2, 1, 0] (lv' := [(0, pR 0), (1, pI (n1 + (max 0 ((mem 1 ((11 + k).toNat)) - (mem 1 ((27 + k).toNat)))))), (2, pI (k + 1))]) rfl ?_
          refine ih_15 _ ?_ (n1 + (max 0 ((mem 1 ((11 + k).toNat)) - (mem 1 ((27 + k).toNat))))) (k + 1) ?_ rfl
          · omega
          · refine ⟨by omega, by omega, ?_⟩
            rw [sumN_s _ hI_15.1, hI_15.2.2, abv, show (11 + k).toNat = 11 + k.toNat by omega, show (27 + k).toNat = 27 + k.toNat by omega]
    refine ok_lvp [2, 1, 0] (lv' := [(0, pR 0), (1, pI 0), (2, pI 0)]) rfl ?_
    refine hL_15 _ 0 0 ?_ rfl
    exact ⟨by omega, by omega, rfl⟩
  · refine ok_iconst F dX8_bank_9 ?_
    refine ok_iret F G dX8_bank_10 ?_
    exact ⟨_, rfl, Or.inl ⟨by omega, rfl, rfl⟩⟩
theorem dX8_kind_0 : decode cX8_kind 0 = .ok (.aload_n 0, 1) := by decide +kernel
theorem dX8_kind_1 : decode cX8_kind 1 = .ok (.iload_n 1, 1) := by decide +kernel
theorem dX8_kind_2 : decode cX8_kind 2 = .ok (.invokevirtual 215, 3) := by decide +kernel
theorem dX8_kind_5 : decode cX8_kind 5 = .ok (.ifCond .ne 5, 3) := by decide +kernel
theorem dX8_kind_8 : decode cX8_kind 8 = .ok (.iconst (-1), 1) := by decide +kernel
theorem dX8_kind_9 : decode cX8_kind 9 = .ok (.ireturn, 1) := by decide +kernel
theorem dX8_kind_10 : decode cX8_kind 10 = .ok (.iload_n 2, 1) := by decide +kernel
theorem dX8_kind_11 : decode cX8_kind 11 = .ok (.tableswitch 107 0 6 #[41, 47, 57, 67, 77, 87, 97], 41) := by decide +kernel
theorem dX8_kind_52 : decode cX8_kind 52 = .ok (.aload_n 0, 1) := by decide +kernel
theorem dX8_kind_53 : decode cX8_kind 53 = .ok (.iload_n 1, 1) := by decide +kernel
theorem dX8_kind_54 : decode cX8_kind 54 = .ok (.invokevirtual 191, 3) := by decide +kernel
theorem dX8_kind_57 : decode cX8_kind 57 = .ok (.ireturn, 1) := by decide +kernel
theorem dX8_kind_58 : decode cX8_kind 58 = .ok (.aload_n 0, 1) := by decide +kernel
theorem dX8_kind_59 : decode cX8_kind 59 = .ok (.getfield 9, 3) := by decide +kernel
theorem dX8_kind_62 : decode cX8_kind 62 = .ok (.bipush 11, 2) := by decide +kernel
theorem dX8_kind_64 : decode cX8_kind 64 = .ok (.iload_n 1, 1) := by decide +kernel
theorem dX8_kind_65 : decode cX8_kind 65 = .ok (.iadd, 1) := by decide +kernel
theorem dX8_kind_66 : decode cX8_kind 66 = .ok (.iaload, 1) := by decide +kernel
theorem dX8_kind_67 : decode cX8_kind 67 = .ok (.ireturn, 1) := by decide +kernel
theorem dX8_kind_68 : decode cX8_kind 68 = .ok (.aload_n 0, 1) := by decide +kernel
theorem dX8_kind_69 : decode cX8_kind 69 = .ok (.getfield 9, 3) := by decide +kernel
theorem dX8_kind_72 : decode cX8_kind 72 = .ok (.bipush 19, 2) := by decide +kernel
theorem dX8_kind_74 : decode cX8_kind 74 = .ok (.iload_n 1, 1) := by decide +kernel
theorem dX8_kind_75 : decode cX8_kind 75 = .ok (.iadd, 1) := by decide +kernel
theorem dX8_kind_76 : decode cX8_kind 76 = .ok (.iaload, 1) := by decide +kernel
theorem dX8_kind_77 : decode cX8_kind 77 = .ok (.ireturn, 1) := by decide +kernel
theorem dX8_kind_78 : decode cX8_kind 78 = .ok (.aload_n 0, 1) := by decide +kernel
theorem dX8_kind_79 : decode cX8_kind 79 = .ok (.getfield 9, 3) := by decide +kernel
theorem dX8_kind_82 : decode cX8_kind 82 = .ok (.bipush 27, 2) := by decide +kernel
theorem dX8_kind_84 : decode cX8_kind 84 = .ok (.iload_n 1, 1) := by decide +kernel
theorem dX8_kind_85 : decode cX8_kind 85 = .ok (.iadd, 1) := by decide +kernel
theorem dX8_kind_86 : decode cX8_kind 86 = .ok (.iaload, 1) := by decide +kernel
theorem dX8_kind_87 : decode cX8_kind 87 = .ok (.ireturn, 1) := by decide +kernel
theorem dX8_kind_88 : decode cX8_kind 88 = .ok (.aload_n 0, 1) := by decide +kernel
theorem dX8_kind_89 : decode cX8_kind 89 = .ok (.getfield 9, 3) := by decide +kernel
theorem dX8_kind_92 : decode cX8_kind 92 = .ok (.bipush 35, 2) := by decide +kernel
theorem dX8_kind_94 : decode cX8_kind 94 = .ok (.iload_n 1, 1) := by decide +kernel
theorem dX8_kind_95 : decode cX8_kind 95 = .ok (.iadd, 1) := by decide +kernel
theorem dX8_kind_96 : decode cX8_kind 96 = .ok (.iaload, 1) := by decide +kernel
theorem dX8_kind_97 : decode cX8_kind 97 = .ok (.ireturn, 1) := by decide +kernel
theorem dX8_kind_98 : decode cX8_kind 98 = .ok (.aload_n 0, 1) := by decide +kernel
theorem dX8_kind_99 : decode cX8_kind 99 = .ok (.getfield 9, 3) := by decide +kernel
theorem dX8_kind_102 : decode cX8_kind 102 = .ok (.bipush 43, 2) := by decide +kernel
theorem dX8_kind_104 : decode cX8_kind 104 = .ok (.iload_n 1, 1) := by decide +kernel
theorem dX8_kind_105 : decode cX8_kind 105 = .ok (.iadd, 1) := by decide +kernel
theorem dX8_kind_106 : decode cX8_kind 106 = .ok (.iaload, 1) := by decide +kernel
theorem dX8_kind_107 : decode cX8_kind 107 = .ok (.ireturn, 1) := by decide +kernel
theorem dX8_kind_108 : decode cX8_kind 108 = .ok (.aload_n 0, 1) := by decide +kernel
theorem dX8_kind_109 : decode cX8_kind 109 = .ok (.getfield 9, 3) := by decide +kernel
theorem dX8_kind_112 : decode cX8_kind 112 = .ok (.bipush 51, 2) := by decide +kernel
theorem dX8_kind_114 : decode cX8_kind 114 = .ok (.iload_n 1, 1) := by decide +kernel
theorem dX8_kind_115 : decode cX8_kind 115 = .ok (.iadd, 1) := by decide +kernel
theorem dX8_kind_116 : decode cX8_kind 116 = .ok (.iaload, 1) := by decide +kernel
theorem dX8_kind_117 : decode cX8_kind 117 = .ok (.ireturn, 1) := by decide +kernel
theorem dX8_kind_118 : decode cX8_kind 118 = .ok (.iconst (-1), 1) := by decide +kernel
theorem dX8_kind_119 : decode cX8_kind 119 = .ok (.ireturn, 1) := by decide +kernel
set_option maxHeartbeats 4000000 in
set_option maxRecDepth 100000 in
theorem m_X8_kind (l : Launch) (k : Int) (w : Int) (mem : Mem) (hk : i32 k) (hw : i32 w) (hN : 0 ≤ mem 1 0 ∧ mem 1 0 ≤ 8) : Ret shp l yX8_kind cX8_kind 3 (some .int) 2 [pR 0, pI k, pI w] mem (fun rv mv => rv = some (pI (if 0 ≤ k ∧ k < mem 1 0 ∧ 0 ≤ w ∧ w ≤ 6 then mem 1 (3 + 8 * w + k).toNat else -1)) ∧ mem = mv) := by
  refine ret_of (by decide +kernel) (Nat.le_of_ble_eq_true rfl) (fun X hX F G => ?_)
  show Ok shp X 3 0 [(0, pR 0), (1, pI k), (2, pI w)] [] mem
  refine ok_aload_n F dX8_kind_0 0 rfl ?_
  refine ok_iload_n F dX8_kind_1 1 rfl ?_
  refine ok_callv F [pI k] dX8_kind_2 kM_X8_isKind kI_X8_isKind kV_X8_isKind kL_X8_215 (ci := 8) rfl sh_0 rfl (by decide) (Nat.le_of_ble_eq_true rfl) rfl (m_X8_isKind _ k mem (by omega) (by omega)) ?_
  rintro _ _ ⟨rfl, rfl⟩
  refine ok_if_ne F 10 dX8_kind_5 (by decide) (by omega) (fun c_1 => ?_) (fun c_1 => ?_)
  · refine ok_iload_n F dX8_kind_10 2 rfl ?_
    by_cases c_2o : w < 0 ∨ 6 < w
    · refine ok_tabOut F 118 dX8_kind_11 (by omega) c_2o (by decide) ?_
      refine ok_iconst F dX8_kind_118 ?_
      refine ok_iret F G dX8_kind_119 ?_
      exact ⟨by rw [if_neg (by omega)], rfl⟩
    by_cases c_2_0 : w = 0
    · refine ok_tabIn F 52 dX8_kind_11 (by omega) (by omega) (by omega) (off := 41) (by rw [c_2_0]; rfl) (by decide) ?_
      refine ok_aload_n F dX8_kind_52 0 rfl ?_
      refine ok_iload_n F dX8_kind_53 1 rfl ?_
      refine ok_callv F [pI k] dX8_kind_54 kM_X8_value kI_X8_value kV_X8_value kL_X8_191 (ci := 8) rfl sh_0 rfl (by decide) (Nat.le_of_ble_eq_true rfl) rfl (m_X8_value _ k mem (by omega)) ?_
      rintro _ _ ⟨rfl, rfl⟩
      refine ok_iret F G dX8_kind_57 ?_
      refine ⟨?_, rfl⟩
      rw [if_pos (by omega)]
      congr 3; omega
    by_cases c_2_1 : w = 1
    · refine ok_tabIn F 58 dX8_kind_11 (by omega) (by omega) (by omega) (off := 47) (by rw [c_2_1]; rfl) (by decide) ?_
      refine ok_aload_n F dX8_kind_58 0 rfl ?_
      refine ok_getr F dX8_kind_59 kF_X8_9 sh_0 rfl ?_
      refine ok_bipush F dX8_kind_62 rfl ?_
      refine ok_iload_n F dX8_kind_64 1 rfl ?_
      refine ok_iadd F dX8_kind_65 ?_
      refine ok_iald (v := mem 1 ((11 + k).toNat)) F dX8_kind_66 sh_1 (by first | decide | assumption) (by omega) (by omega) rfl ?_
      refine ok_iret F G dX8_kind_67 ?_
      refine ⟨?_, rfl⟩
      rw [if_pos (by omega)]
      congr 3; omega
    by_cases c_2_2 : w = 2
    · refine ok_tabIn F 68 dX8_kind_11 (by omega) (by omega) (by omega) (off := 57) (by rw [c_2_2]; rfl) (by decide) ?_
      refine ok_aload_n F dX8_kind_68 0 rfl ?_
      refine ok_getr F dX8_kind_69 kF_X8_9 sh_0 rfl ?_
      refine ok_bipush F dX8_kind_72 rfl ?_
      refine ok_iload_n F dX8_kind_74 1 rfl ?_
      refine ok_iadd F dX8_kind_75 ?_
      refine ok_iald (v := mem 1 ((19 + k).toNat)) F dX8_kind_76 sh_1 (by first | decide | assumption) (by omega) (by omega) rfl ?_
      refine ok_iret F G dX8_kind_77 ?_
      refine ⟨?_, rfl⟩
      rw [if_pos (by omega)]
      congr 3; omega
    by_cases c_2_3 : w = 3
    · refine ok_tabIn F 78 dX8_kind_11 (by omega) (by omega) (by omega) (off := 67) (by rw [c_2_3]; rfl) (by decide) ?_
      refine ok_aload_n F dX8_kind_78 0 rfl ?_
      refine ok_getr F dX8_kind_79 kF_X8_9 sh_0 rfl ?_
      refine ok_bipush F dX8_kind_82 rfl ?_
      refine ok_iload_n F dX8_kind_84 1 rfl ?_
      refine ok_iadd F dX8_kind_85 ?_
      refine ok_iald (v := mem 1 ((27 + k).toNat)) F dX8_kind_86 sh_1 (by first | decide | assumption) (by omega) (by omega) rfl ?_
      refine ok_iret F G dX8_kind_87 ?_
      refine ⟨?_, rfl⟩
      rw [if_pos (by omega)]
      congr 3; omega
    by_cases c_2_4 : w = 4
    · refine ok_tabIn F 88 dX8_kind_11 (by omega) (by omega) (by omega) (off := 77) (by rw [c_2_4]; rfl) (by decide) ?_
      refine ok_aload_n F dX8_kind_88 0 rfl ?_
      refine ok_getr F dX8_kind_89 kF_X8_9 sh_0 rfl ?_
      refine ok_bipush F dX8_kind_92 rfl ?_
      refine ok_iload_n F dX8_kind_94 1 rfl ?_
      refine ok_iadd F dX8_kind_95 ?_
      refine ok_iald (v := mem 1 ((35 + k).toNat)) F dX8_kind_96 sh_1 (by first | decide | assumption) (by omega) (by omega) rfl ?_
      refine ok_iret F G dX8_kind_97 ?_
      refine ⟨?_, rfl⟩
      rw [if_pos (by omega)]
      congr 3; omega
    by_cases c_2_5 : w = 5
    · refine ok_tabIn F 98 dX8_kind_11 (by omega) (by omega) (by omega) (off := 87) (by rw [c_2_5]; rfl) (by decide) ?_
      refine ok_aload_n F dX8_kind_98 0 rfl ?_
      refine ok_getr F dX8_kind_99 kF_X8_9 sh_0 rfl ?_
      refine ok_bipush F dX8_kind_102 rfl ?_
      refine ok_iload_n F dX8_kind_104 1 rfl ?_
      refine ok_iadd F dX8_kind_105 ?_
      refine ok_iald (v := mem 1 ((43 + k).toNat)) F dX8_kind_106 sh_1 (by first | decide | assumption) (by omega) (by omega) rfl ?_
      refine ok_iret F G dX8_kind_107 ?_
      refine ⟨?_, rfl⟩
      rw [if_pos (by omega)]
      congr 3; omega
    by_cases c_2_6 : w = 6
    · refine ok_tabIn F 108 dX8_kind_11 (by omega) (by omega) (by omega) (off := 97) (by rw [c_2_6]; rfl) (by decide) ?_
      refine ok_aload_n F dX8_kind_108 0 rfl ?_
      refine ok_getr F dX8_kind_109 kF_X8_9 sh_0 rfl ?_
      refine ok_bipush F dX8_kind_112 rfl ?_
      refine ok_iload_n F dX8_kind_114 1 rfl ?_
      refine ok_iadd F dX8_kind_115 ?_
      refine ok_iald (v := mem 1 ((51 + k).toNat)) F dX8_kind_116 sh_1 (by first | decide | assumption) (by omega) (by omega) rfl ?_
      refine ok_iret F G dX8_kind_117 ?_
      refine ⟨?_, rfl⟩
      rw [if_pos (by omega)]
      congr 3; omega
    exfalso; omega
  · refine ok_iconst F dX8_kind_8 ?_
    refine ok_iret F G dX8_kind_9 ?_
    exact ⟨by rw [if_neg (by omega)], rfl⟩
theorem dX8_bags_0 : decode cX8_bags 0 = .ok (.aload_n 0, 1) := by decide +kernel
theorem dX8_bags_1 : decode cX8_bags 1 = .ok (.iload_n 1, 1) := by decide +kernel
theorem dX8_bags_2 : decode cX8_bags 2 = .ok (.invokevirtual 215, 3) := by decide +kernel
theorem dX8_bags_5 : decode cX8_bags 5 = .ok (.ifCond .ne 5, 3) := by decide +kernel
theorem dX8_bags_8 : decode cX8_bags 8 = .ok (.iconst (-1), 1) := by decide +kernel
theorem dX8_bags_9 : decode cX8_bags 9 = .ok (.ireturn, 1) := by decide +kernel
theorem dX8_bags_10 : decode cX8_bags 10 = .ok (.iconst 0, 1) := by decide +kernel
theorem dX8_bags_11 : decode cX8_bags 11 = .ok (.aload_n 0, 1) := by decide +kernel
theorem dX8_bags_12 : decode cX8_bags 12 = .ok (.getfield 9, 3) := by decide +kernel
theorem dX8_bags_15 : decode cX8_bags 15 = .ok (.bipush 27, 2) := by decide +kernel
theorem dX8_bags_17 : decode cX8_bags 17 = .ok (.iload_n 1, 1) := by decide +kernel
theorem dX8_bags_18 : decode cX8_bags 18 = .ok (.iadd, 1) := by decide +kernel
theorem dX8_bags_19 : decode cX8_bags 19 = .ok (.iaload, 1) := by decide +kernel
theorem dX8_bags_20 : decode cX8_bags 20 = .ok (.aload_n 0, 1) := by decide +kernel
theorem dX8_bags_21 : decode cX8_bags 21 = .ok (.getfield 9, 3) := by decide +kernel
theorem dX8_bags_24 : decode cX8_bags 24 = .ok (.bipush 11, 2) := by decide +kernel
theorem dX8_bags_26 : decode cX8_bags 26 = .ok (.iload_n 1, 1) := by decide +kernel
theorem dX8_bags_27 : decode cX8_bags 27 = .ok (.iadd, 1) := by decide +kernel
theorem dX8_bags_28 : decode cX8_bags 28 = .ok (.iaload, 1) := by decide +kernel
theorem dX8_bags_29 : decode cX8_bags 29 = .ok (.isub, 1) := by decide +kernel
theorem dX8_bags_30 : decode cX8_bags 30 = .ok (.invokestatic 291, 3) := by decide +kernel
theorem dX8_bags_33 : decode cX8_bags 33 = .ok (.istore_n 2, 1) := by decide +kernel
theorem dX8_bags_34 : decode cX8_bags 34 = .ok (.iload_n 2, 1) := by decide +kernel
theorem dX8_bags_35 : decode cX8_bags 35 = .ok (.aload_n 0, 1) := by decide +kernel
theorem dX8_bags_36 : decode cX8_bags 36 = .ok (.getfield 9, 3) := by decide +kernel
theorem dX8_bags_39 : decode cX8_bags 39 = .ok (.bipush 35, 2) := by decide +kernel
theorem dX8_bags_41 : decode cX8_bags 41 = .ok (.iload_n 1, 1) := by decide +kernel
theorem dX8_bags_42 : decode cX8_bags 42 = .ok (.iadd, 1) := by decide +kernel
theorem dX8_bags_43 : decode cX8_bags 43 = .ok (.iaload, 1) := by decide +kernel
theorem dX8_bags_44 : decode cX8_bags 44 = .ok (.iadd, 1) := by decide +kernel
theorem dX8_bags_45 : decode cX8_bags 45 = .ok (.iconst 1, 1) := by decide +kernel
theorem dX8_bags_46 : decode cX8_bags 46 = .ok (.isub, 1) := by decide +kernel
theorem dX8_bags_47 : decode cX8_bags 47 = .ok (.aload_n 0, 1) := by decide +kernel
theorem dX8_bags_48 : decode cX8_bags 48 = .ok (.getfield 9, 3) := by decide +kernel
theorem dX8_bags_51 : decode cX8_bags 51 = .ok (.bipush 35, 2) := by decide +kernel
theorem dX8_bags_53 : decode cX8_bags 53 = .ok (.iload_n 1, 1) := by decide +kernel
theorem dX8_bags_54 : decode cX8_bags 54 = .ok (.iadd, 1) := by decide +kernel
theorem dX8_bags_55 : decode cX8_bags 55 = .ok (.iaload, 1) := by decide +kernel
theorem dX8_bags_56 : decode cX8_bags 56 = .ok (.idiv, 1) := by decide +kernel
theorem dX8_bags_57 : decode cX8_bags 57 = .ok (.ireturn, 1) := by decide +kernel
set_option maxHeartbeats 4000000 in
set_option maxRecDepth 100000 in
theorem m_X8_bags (l : Launch) (k : Int) (mem : Mem) (hk : i32 k) (hN : 0 ≤ mem 1 0 ∧ mem 1 0 ≤ 8) (hTl : ∀ k : Nat, k < 8 → 0 ≤ mem 1 (11 + k) ∧ mem 1 (11 + k) ≤ 99) (hLm : ∀ k : Nat, k < 8 → 0 ≤ mem 1 (27 + k) ∧ mem 1 (27 + k) ≤ 99) (hB1 : ∀ k : Nat, (k : Int) < mem 1 0 → 1 ≤ mem 1 (35 + k) ∧ mem 1 (35 + k) ≤ 99) : Ret shp l yX8_bags cX8_bags 3 (some .int) 2 [pR 0, pI k] mem (fun rv mv => rv = some (pI (if 0 ≤ k ∧ k < mem 1 0 then (max 0 (mem 1 (27 + k).toNat - mem 1 (11 + k).toNat) + mem 1 (35 + k).toNat - 1).tdiv (mem 1 (35 + k).toNat) else -1)) ∧ mem = mv) := by
  refine ret_of (by decide +kernel) (Nat.le_of_ble_eq_true rfl) (fun X hX F G => ?_)
  show Ok shp X 3 0 [(0, pR 0), (1, pI k)] [] mem
  refine ok_aload_n F dX8_bags_0 0 rfl ?_
  refine ok_iload_n F dX8_bags_1 1 rfl ?_
  refine ok_callv F [pI k] dX8_bags_2 kM_X8_isKind kI_X8_isKind kV_X8_isKind kL_X8_215 (ci := 8) rfl sh_0 rfl (by decide) (Nat.le_of_ble_eq_true rfl) rfl (m_X8_isKind _ k mem (by omega) (by omega)) ?_
  rintro _ _ ⟨rfl, rfl⟩
  refine ok_if_ne F 10 dX8_bags_5 (by decide) (by omega) (fun c_1 => ?_) (fun c_1 => ?_)
  · have q1 := hTl k.toNat (by omega)
    have q2 := hLm k.toNat (by omega)
    have q3 := hB1 k.toNat (by omega)
    rw [show 11 + k.toNat = (11 + k).toNat by omega] at q1
    rw [show 27 + k.toNat = (27 + k).toNat by omega] at q2
    rw [show 35 + k.toNat = (35 + k).toNat by omega] at q3
    refine ok_iconst F dX8_bags_10 ?_
    refine ok_aload_n F dX8_bags_11 0 rfl ?_
    refine ok_getr F dX8_bags_12 kF_X8_9 sh_0 rfl ?_
    refine ok_bipush F dX8_bags_15 rfl ?_
    refine ok_iload_n F dX8_bags_17 1 rfl ?_
    refine ok_iadd F dX8_bags_18 ?_
    refine ok_iald (v := mem 1 ((27 + k).toNat)) F dX8_bags_19 sh_1 (by first | decide | assumption) (by omega) (by omega) rfl ?_
    refine ok_aload_n F dX8_bags_20 0 rfl ?_
    refine ok_getr F dX8_bags_21 kF_X8_9 sh_0 rfl ?_
    refine ok_bipush F dX8_bags_24 rfl ?_
    refine ok_iload_n F dX8_bags_26 1 rfl ?_
    refine ok_iadd F dX8_bags_27 ?_
    refine ok_iald (v := mem 1 ((11 + k).toNat)) F dX8_bags_28 sh_1 (by first | decide | assumption) (by omega) (by omega) rfl ?_
    refine ok_isub F dX8_bags_29 ?_
    refine ok_mmax F dX8_bags_30 kL_X8_291 kS_J9_max_7cf53 kM_J9_max_7cf53.2.1 kM_J9_max_7cf53.2.2.1 (by omega) (by omega) (by decide) (Nat.le_of_ble_eq_true rfl) ?_
    refine ok_istore_n (lv' := [(2, pI (max 0 ((mem 1 ((27 + k).toNat)) - (mem 1 ((11 + k).toNat))))), (0, pR 0), (1, pI k)]) F dX8_bags_33 (by decide) rfl ?_
    refine ok_iload_n F dX8_bags_34 0 rfl ?_
    refine ok_aload_n F dX8_bags_35 1 rfl ?_
    refine ok_getr F dX8_bags_36 kF_X8_9 sh_0 rfl ?_
    refine ok_bipush F dX8_bags_39 rfl ?_
    refine ok_iload_n F dX8_bags_41 2 rfl ?_
    refine ok_iadd F dX8_bags_42 ?_
    refine ok_iald (v := mem 1 ((35 + k).toNat)) F dX8_bags_43 sh_1 (by first | decide | assumption) (by omega) (by omega) rfl ?_
    refine ok_iadd F dX8_bags_44 ?_
    refine ok_iconst F dX8_bags_45 ?_
    refine ok_isub F dX8_bags_46 ?_
    refine ok_aload_n F dX8_bags_47 1 rfl ?_
    refine ok_getr F dX8_bags_48 kF_X8_9 sh_0 rfl ?_
    refine ok_bipush F dX8_bags_51 rfl ?_
    refine ok_iload_n F dX8_bags_53 2 rfl ?_
    refine ok_iadd F dX8_bags_54 ?_
    refine ok_iald (v := mem 1 ((35 + k).toNat)) F dX8_bags_55 sh_1 (by first | decide | assumption) (by omega) (by omega) rfl ?_
    refine ok_idiv F dX8_bags_56 (by omega) (by omega) (by omega) ?_
    refine ok_iret F G dX8_bags_57 ?_
    exact ⟨by rw [if_pos (by omega)], rfl⟩
  · refine ok_iconst F dX8_bags_8 ?_
    refine ok_iret F G dX8_bags_9 ?_
    exact ⟨by rw [if_neg (by omega)], rfl⟩
theorem dX8_total_0 : decode cX8_total 0 = .ok (.iload_n 1, 1) := by decide +kernel
theorem dX8_total_1 : decode cX8_total 1 = .ok (.tableswitch 70 0 4 #[35, 42, 49, 56, 63], 35) := by decide +kernel
theorem dX8_total_36 : decode cX8_total 36 = .ok (.aload_n 0, 1) := by decide +kernel
theorem dX8_total_37 : decode cX8_total 37 = .ok (.bipush 11, 2) := by decide +kernel
theorem dX8_total_39 : decode cX8_total 39 = .ok (.invokevirtual 232, 3) := by decide +kernel
theorem dX8_total_42 : decode cX8_total 42 = .ok (.ireturn, 1) := by decide +kernel
theorem dX8_total_43 : decode cX8_total 43 = .ok (.aload_n 0, 1) := by decide +kernel
theorem dX8_total_44 : decode cX8_total 44 = .ok (.bipush 19, 2) := by decide +kernel
theorem dX8_total_46 : decode cX8_total 46 = .ok (.invokevirtual 232, 3) := by decide +kernel
theorem dX8_total_49 : decode cX8_total 49 = .ok (.ireturn, 1) := by decide +kernel
theorem dX8_total_50 : decode cX8_total 50 = .ok (.aload_n 0, 1) := by decide +kernel
theorem dX8_total_51 : decode cX8_total 51 = .ok (.bipush 51, 2) := by decide +kernel
theorem dX8_total_53 : decode cX8_total 53 = .ok (.invokevirtual 232, 3) := by decide +kernel
theorem dX8_total_56 : decode cX8_total 56 = .ok (.ireturn, 1) := by decide +kernel
theorem dX8_total_57 : decode cX8_total 57 = .ok (.aload_n 0, 1) := by decide +kernel
theorem dX8_total_58 : decode cX8_total 58 = .ok (.bipush 43, 2) := by decide +kernel
theorem dX8_total_60 : decode cX8_total 60 = .ok (.invokevirtual 232, 3) := by decide +kernel
theorem dX8_total_63 : decode cX8_total 63 = .ok (.ireturn, 1) := by decide +kernel
theorem dX8_total_64 : decode cX8_total 64 = .ok (.aload_n 0, 1) := by decide +kernel
theorem dX8_total_65 : decode cX8_total 65 = .ok (.bipush 27, 2) := by decide +kernel
theorem dX8_total_67 : decode cX8_total 67 = .ok (.invokevirtual 232, 3) := by decide +kernel
theorem dX8_total_70 : decode cX8_total 70 = .ok (.ireturn, 1) := by decide +kernel
theorem dX8_total_71 : decode cX8_total 71 = .ok (.iconst (-1), 1) := by decide +kernel
theorem dX8_total_72 : decode cX8_total 72 = .ok (.ireturn, 1) := by decide +kernel
set_option maxHeartbeats 4000000 in
set_option maxRecDepth 100000 in
theorem m_X8_total (l : Launch) (w : Int) (mem : Mem) (hw : i32 w) (hN : 0 ≤ mem 1 0 ∧ mem 1 0 ≤ 8) : Ret shp l yX8_total cX8_total 2 (some .int) 2 [pR 0, pI w] mem (fun rv mv => rv = some (pI (if 0 ≤ w ∧ w ≤ 4 then sumN (fun k => mem 1 ((if w = 0 then 11 else if w = 1 then 19 else if w = 2 then 51 else if w = 3 then 43 else 27) + k) * mem 1 (3 + k)) (mem 1 0).toNat else -1)) ∧ mem = mv) := by
  refine ret_of (by decide +kernel) (Nat.le_of_ble_eq_true rfl) (fun X hX F G => ?_)
  show Ok shp X 2 0 [(0, pR 0), (1, pI w)] [] mem
  refine ok_iload_n F dX8_total_0 1 rfl ?_
  by_cases c_1o : w < 0 ∨ 4 < w
  · refine ok_tabOut F 71 dX8_total_1 (by omega) c_1o (by decide) ?_
    refine ok_iconst F dX8_total_71 ?_
    refine ok_iret F G dX8_total_72 ?_
    exact ⟨by rw [if_neg (by omega)], rfl⟩
  by_cases c_1_0 : w = 0
  · refine ok_tabIn F 36 dX8_total_1 (by omega) (by omega) (by omega) (off := 35) (by rw [c_1_0]; rfl) (by decide) ?_
    refine ok_aload_n F dX8_total_36 0 rfl ?_
    refine ok_bipush F dX8_total_37 rfl ?_
    refine ok_callv F [pI 11] dX8_total_39 kM_X8_worthOf kI_X8_worthOf kV_X8_worthOf kL_X8_232 (ci := 8) rfl sh_0 rfl (by decide) (Nat.le_of_ble_eq_true rfl) rfl (m_X8_worthOf _ 11 mem (by omega) (by omega)) ?_
    rintro _ _ ⟨rfl, rfl⟩
    refine ok_iret F G dX8_total_42 ?_
    refine ⟨?_, rfl⟩
    subst w
    rfl
  by_cases c_1_1 : w = 1
  · refine ok_tabIn F 43 dX8_total_1 (by omega) (by omega) (by omega) (off := 42) (by rw [c_1_1]; rfl) (by decide) ?_
    refine ok_aload_n F dX8_total_43 0 rfl ?_
    refine ok_bipush F dX8_total_44 rfl ?_
    refine ok_callv F [pI 19] dX8_total_46 kM_X8_worthOf kI_X8_worthOf kV_X8_worthOf kL_X8_232 (ci := 8) rfl sh_0 rfl (by decide) (Nat.le_of_ble_eq_true rfl) rfl (m_X8_worthOf _ 19 mem (by omega) (by omega)) ?_
    rintro _ _ ⟨rfl, rfl⟩
    refine ok_iret F G dX8_total_49 ?_
    refine ⟨?_, rfl⟩
    subst w
    rfl
  by_cases c_1_2 : w = 2
  · refine ok_tabIn F 50 dX8_total_1 (by omega) (by omega) (by omega) (off := 49) (by rw [c_1_2]; rfl) (by decide) ?_
    refine ok_aload_n F dX8_total_50 0 rfl ?_
    refine ok_bipush F dX8_total_51 rfl ?_
    refine ok_callv F [pI 51] dX8_total_53 kM_X8_worthOf kI_X8_worthOf kV_X8_worthOf kL_X8_232 (ci := 8) rfl sh_0 rfl (by decide) (Nat.le_of_ble_eq_true rfl) rfl (m_X8_worthOf _ 51 mem (by omega) (by omega)) ?_
    rintro _ _ ⟨rfl, rfl⟩
    refine ok_iret F G dX8_total_56 ?_
    refine ⟨?_, rfl⟩
    subst w
    rfl
  by_cases c_1_3 : w = 3
  · refine ok_tabIn F 57 dX8_total_1 (by omega) (by omega) (by omega) (off := 56) (by rw [c_1_3]; rfl) (by decide) ?_
    refine ok_aload_n F dX8_total_57 0 rfl ?_
    refine ok_bipush F dX8_total_58 rfl ?_
    refine ok_callv F [pI 43] dX8_total_60 kM_X8_worthOf kI_X8_worthOf kV_X8_worthOf kL_X8_232 (ci := 8) rfl sh_0 rfl (by decide) (Nat.le_of_ble_eq_true rfl) rfl (m_X8_worthOf _ 43 mem (by omega) (by omega)) ?_
    rintro _ _ ⟨rfl, rfl⟩
    refine ok_iret F G dX8_total_63 ?_
    refine ⟨?_, rfl⟩
    subst w
    rfl
  by_cases c_1_4 : w = 4
  · refine ok_tabIn F 64 dX8_total_1 (by omega) (by omega) (by omega) (off := 63) (by rw [c_1_4]; rfl) (by decide) ?_
    refine ok_aload_n F dX8_total_64 0 rfl ?_
    refine ok_bipush F dX8_total_65 rfl ?_
    refine ok_callv F [pI 27] dX8_total_67 kM_X8_worthOf kI_X8_worthOf kV_X8_worthOf kL_X8_232 (ci := 8) rfl sh_0 rfl (by decide) (Nat.le_of_ble_eq_true rfl) rfl (m_X8_worthOf _ 27 mem (by omega) (by omega)) ?_
    rintro _ _ ⟨rfl, rfl⟩
    refine ok_iret F G dX8_total_70 ?_
    refine ⟨?_, rfl⟩
    subst w
    rfl
  exfalso; omega
theorem dX8_beside_0 : decode cX8_beside 0 = .ok (.iconst 0, 1) := by decide +kernel
theorem dX8_beside_1 : decode cX8_beside 1 = .ok (.istore_n 2, 1) := by decide +kernel
theorem dX8_beside_2 : decode cX8_beside 2 = .ok (.iconst 0, 1) := by decide +kernel
theorem dX8_beside_3 : decode cX8_beside 3 = .ok (.istore_n 3, 1) := by decide +kernel
theorem dX8_beside_4 : decode cX8_beside 4 = .ok (.iload_n 3, 1) := by decide +kernel
theorem dX8_beside_5 : decode cX8_beside 5 = .ok (.aload_n 0, 1) := by decide +kernel
theorem dX8_beside_6 : decode cX8_beside 6 = .ok (.getfield 9, 3) := by decide +kernel
theorem dX8_beside_9 : decode cX8_beside 9 = .ok (.iconst 0, 1) := by decide +kernel
theorem dX8_beside_10 : decode cX8_beside 10 = .ok (.iaload, 1) := by decide +kernel
theorem dX8_beside_11 : decode cX8_beside 11 = .ok (.if_icmp .ge 57, 3) := by decide +kernel
theorem dX8_beside_14 : decode cX8_beside 14 = .ok (.aload_n 0, 1) := by decide +kernel
theorem dX8_beside_15 : decode cX8_beside 15 = .ok (.getfield 9, 3) := by decide +kernel
theorem dX8_beside_18 : decode cX8_beside 18 = .ok (.bipush 11, 2) := by decide +kernel
theorem dX8_beside_20 : decode cX8_beside 20 = .ok (.iload_n 3, 1) := by decide +kernel
theorem dX8_beside_21 : decode cX8_beside 21 = .ok (.iadd, 1) := by decide +kernel
theorem dX8_beside_22 : decode cX8_beside 22 = .ok (.iaload, 1) := by decide +kernel
theorem dX8_beside_23 : decode cX8_beside 23 = .ok (.aload_n 0, 1) := by decide +kernel
theorem dX8_beside_24 : decode cX8_beside 24 = .ok (.getfield 9, 3) := by decide +kernel
theorem dX8_beside_27 : decode cX8_beside 27 = .ok (.bipush 27, 2) := by decide +kernel
theorem dX8_beside_29 : decode cX8_beside 29 = .ok (.iload_n 3, 1) := by decide +kernel
theorem dX8_beside_30 : decode cX8_beside 30 = .ok (.iadd, 1) := by decide +kernel
theorem dX8_beside_31 : decode cX8_beside 31 = .ok (.iaload, 1) := by decide +kernel
theorem dX8_beside_32 : decode cX8_beside 32 = .ok (.isub, 1) := by decide +kernel
theorem dX8_beside_33 : decode cX8_beside 33 = .ok (.istore 4, 2) := by decide +kernel
theorem dX8_beside_35 : decode cX8_beside 35 = .ok (.iload_n 2, 1) := by decide +kernel
theorem dX8_beside_36 : decode cX8_beside 36 = .ok (.iload_n 1, 1) := by decide +kernel
theorem dX8_beside_37 : decode cX8_beside 37 = .ok (.ifCond .eq 11, 3) := by decide +kernel
theorem dX8_beside_40 : decode cX8_beside 40 = .ok (.iload 4, 2) := by decide +kernel
theorem dX8_beside_42 : decode cX8_beside 42 = .ok (.ifCond .le 17, 3) := by decide +kernel
theorem dX8_beside_45 : decode cX8_beside 45 = .ok (.goto 8, 3) := by decide +kernel
theorem dX8_beside_48 : decode cX8_beside 48 = .ok (.iload 4, 2) := by decide +kernel
theorem dX8_beside_50 : decode cX8_beside 50 = .ok (.ifCond .ge 9, 3) := by decide +kernel
theorem dX8_beside_53 : decode cX8_beside 53 = .ok (.iconst 1, 1) := by decide +kernel
theorem dX8_beside_54 : decode cX8_beside 54 = .ok (.iload_n 3, 1) := by decide +kernel
theorem dX8_beside_55 : decode cX8_beside 55 = .ok (.ishl, 1) := by decide +kernel
theorem dX8_beside_56 : decode cX8_beside 56 = .ok (.goto 4, 3) := by decide +kernel
theorem dX8_beside_59 : decode cX8_beside 59 = .ok (.iconst 0, 1) := by decide +kernel
theorem dX8_beside_60 : decode cX8_beside 60 = .ok (.ior, 1) := by decide +kernel
theorem dX8_beside_61 : decode cX8_beside 61 = .ok (.istore_n 2, 1) := by decide +kernel
theorem dX8_beside_62 : decode cX8_beside 62 = .ok (.iinc 3 1, 3) := by decide +kernel
theorem dX8_beside_65 : decode cX8_beside 65 = .ok (.goto (-61), 3) := by decide +kernel
theorem dX8_beside_68 : decode cX8_beside 68 = .ok (.iload_n 2, 1) := by decide +kernel
theorem dX8_beside_69 : decode cX8_beside 69 = .ok (.ireturn, 1) := by decide +kernel
set_option maxHeartbeats 4000000 in
set_option maxRecDepth 100000 in
theorem m_X8_beside (l : Launch) (b : Int) (mem : Mem) (hb : b = 0 ∨ b = 1) (hN : 0 ≤ mem 1 0 ∧ mem 1 0 ≤ 8) (hTl : ∀ k : Nat, k < 8 → 0 ≤ mem 1 (11 + k) ∧ mem 1 (11 + k) ≤ 99) (hLm : ∀ k : Nat, k < 8 → 0 ≤ mem 1 (27 + k) ∧ mem 1 (27 + k) ≤ 99) : Ret shp l yX8_beside cX8_beside 5 (some .int) 0 [pR 0, pI b] mem (fun rv mv => rv = some (pI (bitsN (fun k => if b = 1 then decide (mem 1 (27 + k) < mem 1 (11 + k)) else decide (mem 1 (11 + k) < mem 1 (27 + k))) (mem 1 0).toNat)) ∧ mem = mv) := by
  refine ret_of (by decide +kernel) (Nat.le_of_ble_eq_true rfl) (fun X hX F G => ?_)
  show Ok shp X 5 0 [(0, pR 0), (1, pI b)] [] mem
  refine ok_iconst F dX8_beside_0 ?_
  refine ok_istore_n (lv' := [(2, pI 0), (0, pR 0), (1, pI b)]) F dX8_beside_1 (by decide) rfl ?_
  refine ok_iconst F dX8_beside_2 ?_
  refine ok_istore_n (lv' := [(3, pI 0), (2, pI 0), (0, pR 0), (1, pI b)]) F dX8_beside_3 (by decide) rfl ?_
  have hL_4 : ∀ (n_4 : Nat) (n2 : Int) (k : Int), (0 ≤ k ∧ k ≤ mem 1 0 ∧ n2 = bitsN (fun k => if b = 1 then decide (mem 1 (27 + k) < mem 1 (11 + k)) else decide (mem 1 (11 + k) < mem 1 (27 + k))) k.toNat) → (mem 1 0 - k).toNat = n_4 → Ok shp X 5 4 [(0, pR 0), (1, pI b), (2, pI n2), (3, pI k)] [] mem := by
    intro n_4
    induction n_4 using Nat.strongRecOn with
    | _ n_4 ih_4 =>
      intro n2 k hI_4 hn_4
      refine ok_iload_n F dX8_beside_4 3 rfl ?_
      refine ok_aload_n F dX8_beside_5 0 rfl ?_
      refine ok_getr F dX8_beside_6 kF_X8_9 sh_0 rfl ?_
      refine ok_iconst F dX8_beside_9 ?_
      refine ok_iald (v := mem 1 0) F dX8_beside_10 sh_1 (by first | decide | assumption) (by omega) (by omega) rfl ?_
      refine ok_icmp_ge F 68 dX8_beside_11 (by decide) (by omega) (by omega) (fun c_1 => ?_) (fun c_1 => ?_)
      · refine ok_iload_n F dX8_beside_68 2 rfl ?_
        refine ok_iret F G dX8_beside_69 ?_
        exact ⟨by rw [hI_4.2.2, show k = mem 1 0 by omega], rfl⟩
      · have q1 := hTl k.toNat (by omega)
        have q2 := hLm k.toNat (by omega)
        rw [show 11 + k.toNat = (11 + k).toNat by omega] at q1
        rw [show 27 + k.toNat = (27 + k).toNat by omega] at q2
        refine ok_aload_n F dX8_beside_14 0 rfl ?_
        refine ok_getr F dX8_beside_15 kF_X8_9 sh_0 rfl ?_
        refine ok_bipush F dX8_beside_18 rfl ?_
        refine ok_iload_n F dX8_beside_20 3 rfl ?_
        refine ok_iadd F dX8_beside_21 ?_
        refine ok_iald (v := mem 1 ((11 + k).toNat)) F dX8_beside_22 sh_1 (by first | decide | assumption) (by omega) (by omega) rfl ?_
        refine ok_aload_n F dX8_beside_23 0 rfl ?_
        refine ok_getr F dX8_beside_24 kF_X8_9 sh_0 rfl ?_
        refine ok_bipush F dX8_beside_27 rfl ?_
        refine ok_iload_n F dX8_beside_29 3 rfl ?_
        refine ok_iadd F dX8_beside_30 ?_
        refine ok_iald (v := mem 1 ((27 + k).toNat)) F dX8_beside_31 sh_1 (by first | decide | assumption) (by omega) (by omega) rfl ?_
        refine ok_isub F dX8_beside_32 ?_
        refine ok_istore (lv' := [(4, pI ((mem 1 ((11 + k).toNat)) - (mem 1 ((27 + k).toNat)))), (0, pR 0), (1, pI b), (2, pI n2), (3, pI k)]) F dX8_beside_33 (by decide) rfl ?_
        refine ok_iload_n F dX8_beside_35 3 rfl ?_
        refine ok_iload_n F dX8_beside_36 2 rfl ?_
        refine ok_if_eq F 48 dX8_beside_37 (by decide) (by omega) (fun c_2 => ?_) (fun c_2 => ?_)
        · refine ok_iload F dX8_beside_48 0 rfl ?_
          refine ok_if_ge F 59 dX8_beside_50 (by decide) (by omega) (fun c_3 => ?_) (fun c_3 => ?_)
          · refine ok_iconst F dX8_beside_59 ?_
            refine ok_ior F dX8_beside_60 ?_
            refine ok_istore_n (lv' := [(2, pI (ior n2 0)), (4, pI ((mem 1 ((11 + k).toNat)) - (mem 1 ((27 + k).toNat)))), (0, pR 0), (1, pI b), (3, pI k)]) F dX8_beside_61 (by decide) rfl ?_
            refine ok_iinc (lv' := [(3, pI (k + 1)), (2, pI (ior n2 0)), (4, pI ((mem 1 ((11 + k).toNat)) - (mem 1 ((27 + k).toNat)))), (0, pR 0), (1, pI b)]) F dX8_beside_62 4 rfl (by decide) rfl ?_
            refine ok_goto F 4 dX8_beside_65 (by decide) ?_
            refine ok_lvp [3, 4, 1, 0] (lv' := [(0, pR 0), (1, pI b), (2, pI (ior n2 0)), (3, pI (k + 1))]) rfl ?_
            refine ih_4 _ ?_ (ior n2 0) (k + 1) ?_ rfl
            · omega
            · refine ⟨by omega, by omega, ?_⟩
              rw [bitsN_s _ hI_4.1, hI_4.2.2]
              congr 1
              rw [show 11 + k.toNat = (11 + k).toNat by omega, show 27 + k.toNat = (27 + k).toNat by omega]
              first | rw [if_pos (by omega : b = 1)] | rw [if_neg (by omega : ¬ b = 1)]
              first | (rw [decide_eq_true (by omega)]; rfl) | (rw [decide_eq_false (by omega)]; rfl)
          · refine ok_iconst F dX8_beside_53 ?_
            refine ok_iload_n F dX8_beside_54 4 rfl ?_
            refine ok_ishl F dX8_beside_55 ?_
            refine ok_goto F 60 dX8_beside_56 (by decide) ?_
            refine ok_ior F dX8_beside_60 ?_
            refine ok_istore_n (lv' := [(2, pI (ior n2 (ishl 1 k))), (4, pI ((mem 1 ((11 + k).toNat)) - (mem 1 ((27 + k).toNat)))), (0, pR 0), (1, pI b), (3, pI k)]) F dX8_beside_61 (by decide) rfl ?_
            refine ok_iinc (lv' := [(3, pI (k + 1)), (2, pI (ior n2 (ishl 1 k))), (4, pI ((mem 1 ((11 + k).toNat)) - (mem 1 ((27 + k).toNat)))), (0, pR 0), (1, pI b)]) F dX8_beside_62 4 rfl (by decide) rfl ?_
            refine ok_goto F 4 dX8_beside_65 (by decide) ?_
            refine ok_lvp [3, 4, 1, 0] (lv' := [(0, pR 0), (1, pI b), (2, pI (ior n2 (ishl 1 k))), (3, pI (k + 1))]) rfl ?_
            refine ih_4 _ ?_ (ior n2 (ishl 1 k)) (k + 1) ?_ rfl
            · omega
            · refine ⟨by omega, by omega, ?_⟩
              rw [bitsN_s _ hI_4.1, hI_4.2.2]
              congr 1
              rw [show 11 + k.toNat = (11 + k).toNat by omega, show 27 + k.toNat = (27 + k).toNat by omega]
              first | rw [if_pos (by omega : b = 1)] | rw [if_neg (by omega : ¬ b = 1)]
              first | (rw [decide_eq_true (by omega)]; rfl) | (rw [decide_eq_false (by omega)]; rfl)
        · refine ok_iload F dX8_beside_40 0 rfl ?_
          refine ok_if_le F 59 dX8_beside_42 (by decide) (by omega) (fun c_4 => ?_) (fun c_4 => ?_)
          · refine ok_iconst F dX8_beside_59 ?_
            refine ok_ior F dX8_beside_60 ?_
            refine ok_istore_n (lv' := [(2, pI (ior n2 0)), (4, pI ((mem 1 ((11 + k).toNat)) - (mem 1 ((27 + k).toNat)))), (0, pR 0), (1, pI b), (3, pI k)]) F dX8_beside_61 (by decide) rfl ?_
            refine ok_iinc (lv' := [(3, pI (k + 1)), (2, pI (ior n2 0)), (4, pI ((mem 1 ((11 + k).toNat)) - (mem 1 ((27 + k).toNat)))), (0, pR 0), (1, pI b)]) F dX8_beside_62 4 rfl (by decide) rfl ?_
            refine ok_goto F 4 dX8_beside_65 (by decide) ?_
            refine ok_lvp [3, 4, 1, 0] (lv' := [(0, pR 0), (1, pI b), (2, pI (ior n2 0)), (3, pI (k + 1))]) rfl ?_
            refine ih_4 _ ?_ (ior n2 0) (k + 1) ?_ rfl
            · omega
            · refine ⟨by omega, by omega, ?_⟩
              rw [bitsN_s _ hI_4.1, hI_4.2.2]
              congr 1
              rw [show 11 + k.toNat = (11 + k).toNat by omega, show 27 + k.toNat = (27 + k).toNat by omega]
              first | rw [if_pos (by omega : b = 1)] | rw [if_neg (by omega : ¬ b = 1)]
              first | (rw [decide_eq_true (by omega)]; rfl) | (rw [decide_eq_false (by omega)]; rfl)
          · refine ok_goto F 53 dX8_beside_45 (by decide) ?_
            refine ok_iconst F dX8_beside_53 ?_
            refine ok_iload_n F dX8_beside_54 4 rfl ?_
            refine ok_ishl F dX8_beside_55 ?_
            refine ok_goto F 60 dX8_beside_56 (by decide) ?_
            refine ok_ior F dX8_beside_60 ?_
            refine ok_istore_n (lv' := [(2, pI (ior n2 (ishl 1 k))), (4, pI ((mem 1 ((11 + k).toNat)) - (mem 1 ((27 + k).toNat)))), (0, pR 0), (1, pI b), (3, pI k)]) F dX8_beside_61 (by decide) rfl ?_
            refine ok_iinc (lv' := [(3, pI (k + 1)), (2, pI (ior n2 (ishl 1 k))), (4, pI ((mem 1 ((11 + k).toNat)) - (mem 1 ((27 + k).toNat)))), (0, pR 0), (1, pI b)]) F dX8_beside_62 4 rfl (by decide) rfl ?_
            refine ok_goto F 4 dX8_beside_65 (by decide) ?_
            refine ok_lvp [3, 4, 1, 0] (lv' := [(0, pR 0), (1, pI b), (2, pI (ior n2 (ishl 1 k))), (3, pI (k + 1))]) rfl ?_
            refine ih_4 _ ?_ (ior n2 (ishl 1 k)) (k + 1) ?_ rfl
            · omega
            · refine ⟨by omega, by omega, ?_⟩
              rw [bitsN_s _ hI_4.1, hI_4.2.2]
              congr 1
              rw [show 11 + k.toNat = (11 + k).toNat by omega, show 27 + k.toNat = (27 + k).toNat by omega]
              first | rw [if_pos (by omega : b = 1)] | rw [if_neg (by omega : ¬ b = 1)]
              first | (rw [decide_eq_true (by omega)]; rfl) | (rw [decide_eq_false (by omega)]; rfl)
  refine ok_lvp [2, 3, 1, 0] (lv' := [(0, pR 0), (1, pI b), (2, pI 0), (3, pI 0)]) rfl ?_
  refine hL_4 _ 0 0 ?_ rfl
  exact ⟨by omega, by omega, rfl⟩
