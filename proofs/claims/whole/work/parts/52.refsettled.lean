/-! the reference: settling -/
theorem mulz_bd {z v : Int} (hz : -99 ≤ z ∧ z ≤ 100) (hv : 0 ≤ v ∧ v ≤ 500) : -50000 ≤ z * v ∧ z * v ≤ 50000 := by
  by_cases g : 0 ≤ z
  · have := mul_bd (x := z) (X := 100) ⟨g, hz.2⟩ hv
    omega
  · have := mul_bd (x := -z) (X := 100) ⟨by omega, by omega⟩ hv
    rw [Int.neg_mul] at this
    omega
theorem stlT_far {v g r : Nat → Int} {k : Nat} {s : Int} (h : ¬ (-2000 ≤ s ∧ s ≤ 2000)) : stlT v g r k s = 1000000 := by
  cases k with
  | zero => unfold stlT; rw [if_neg (by omega)]
  | succ k => unfold stlT; rw [if_neg h]
theorem leastN_s (h : Int → Int) (lo : Int) (n : Nat) : leastN h lo (n + 1) = min (leastN h lo n) (h (lo + n)) := rfl
theorem stlT_s {v g r : Nat → Int} {k : Nat} {s : Int} (h : -2000 ≤ s ∧ s ≤ 2000) : stlT v g r (k + 1) s = leastN (fun z => stlT v g r k (s - z * v k) + (z.natAbs : Int)) (-(r k)) (r k + g k + 1).toNat := if_pos h
theorem dX8_laysSettled_0 : decode cX8_laysSettled 0 = .ok (.sipush (-2000), 3) := by decide +kernel
theorem dX8_laysSettled_3 : decode cX8_laysSettled 3 = .ok (.istore_n 1, 1) := by decide +kernel
theorem dX8_laysSettled_4 : decode cX8_laysSettled 4 = .ok (.iload_n 1, 1) := by decide +kernel
theorem dX8_laysSettled_5 : decode cX8_laysSettled 5 = .ok (.sipush 2000, 3) := by decide +kernel
theorem dX8_laysSettled_8 : decode cX8_laysSettled 8 = .ok (.if_icmp .gt 29, 3) := by decide +kernel
theorem dX8_laysSettled_11 : decode cX8_laysSettled 11 = .ok (.aload_n 0, 1) := by decide +kernel
theorem dX8_laysSettled_12 : decode cX8_laysSettled 12 = .ok (.getfield 46, 3) := by decide +kernel
theorem dX8_laysSettled_15 : decode cX8_laysSettled 15 = .ok (.iconst 0, 1) := by decide +kernel
theorem dX8_laysSettled_16 : decode cX8_laysSettled 16 = .ok (.iload_n 1, 1) := by decide +kernel
theorem dX8_laysSettled_17 : decode cX8_laysSettled 17 = .ok (.invokestatic 239, 3) := by decide +kernel
theorem dX8_laysSettled_20 : decode cX8_laysSettled 20 = .ok (.iload_n 1, 1) := by decide +kernel
theorem dX8_laysSettled_21 : decode cX8_laysSettled 21 = .ok (.ifCond .ne 7, 3) := by decide +kernel
theorem dX8_laysSettled_24 : decode cX8_laysSettled 24 = .ok (.iconst 0, 1) := by decide +kernel
theorem dX8_laysSettled_25 : decode cX8_laysSettled 25 = .ok (.goto 5, 3) := by decide +kernel
theorem dX8_laysSettled_28 : decode cX8_laysSettled 28 = .ok (.ldc 197, 2) := by decide +kernel
theorem dX8_laysSettled_30 : decode cX8_laysSettled 30 = .ok (.iastore, 1) := by decide +kernel
theorem dX8_laysSettled_31 : decode cX8_laysSettled 31 = .ok (.iinc 1 1, 3) := by decide +kernel
theorem dX8_laysSettled_34 : decode cX8_laysSettled 34 = .ok (.goto (-30), 3) := by decide +kernel
theorem dX8_laysSettled_37 : decode cX8_laysSettled 37 = .ok (.iconst 0, 1) := by decide +kernel
theorem dX8_laysSettled_38 : decode cX8_laysSettled 38 = .ok (.istore_n 1, 1) := by decide +kernel
theorem dX8_laysSettled_39 : decode cX8_laysSettled 39 = .ok (.iload_n 1, 1) := by decide +kernel
theorem dX8_laysSettled_40 : decode cX8_laysSettled 40 = .ok (.aload_n 0, 1) := by decide +kernel
theorem dX8_laysSettled_41 : decode cX8_laysSettled 41 = .ok (.getfield 9, 3) := by decide +kernel
theorem dX8_laysSettled_44 : decode cX8_laysSettled 44 = .ok (.iconst 0, 1) := by decide +kernel
theorem dX8_laysSettled_45 : decode cX8_laysSettled 45 = .ok (.iaload, 1) := by decide +kernel
theorem dX8_laysSettled_46 : decode cX8_laysSettled 46 = .ok (.if_icmp .ge 128, 3) := by decide +kernel
theorem dX8_laysSettled_49 : decode cX8_laysSettled 49 = .ok (.sipush (-2000), 3) := by decide +kernel
theorem dX8_laysSettled_52 : decode cX8_laysSettled 52 = .ok (.istore_n 2, 1) := by decide +kernel
theorem dX8_laysSettled_53 : decode cX8_laysSettled 53 = .ok (.iload_n 2, 1) := by decide +kernel
theorem dX8_laysSettled_54 : decode cX8_laysSettled 54 = .ok (.sipush 2000, 3) := by decide +kernel
theorem dX8_laysSettled_57 : decode cX8_laysSettled 57 = .ok (.if_icmp .gt 111, 3) := by decide +kernel
theorem dX8_laysSettled_60 : decode cX8_laysSettled 60 = .ok (.ldc 197, 2) := by decide +kernel
theorem dX8_laysSettled_62 : decode cX8_laysSettled 62 = .ok (.istore_n 3, 1) := by decide +kernel
theorem dX8_laysSettled_63 : decode cX8_laysSettled 63 = .ok (.aload_n 0, 1) := by decide +kernel
theorem dX8_laysSettled_64 : decode cX8_laysSettled 64 = .ok (.getfield 9, 3) := by decide +kernel
theorem dX8_laysSettled_67 : decode cX8_laysSettled 67 = .ok (.bipush 11, 2) := by decide +kernel
theorem dX8_laysSettled_69 : decode cX8_laysSettled 69 = .ok (.iload_n 1, 1) := by decide +kernel
theorem dX8_laysSettled_70 : decode cX8_laysSettled 70 = .ok (.iadd, 1) := by decide +kernel
theorem dX8_laysSettled_71 : decode cX8_laysSettled 71 = .ok (.iaload, 1) := by decide +kernel
theorem dX8_laysSettled_72 : decode cX8_laysSettled 72 = .ok (.ineg, 1) := by decide +kernel
theorem dX8_laysSettled_73 : decode cX8_laysSettled 73 = .ok (.istore 4, 2) := by decide +kernel
theorem dX8_laysSettled_75 : decode cX8_laysSettled 75 = .ok (.iload 4, 2) := by decide +kernel
theorem dX8_laysSettled_77 : decode cX8_laysSettled 77 = .ok (.aload_n 0, 1) := by decide +kernel
theorem dX8_laysSettled_78 : decode cX8_laysSettled 78 = .ok (.getfield 9, 3) := by decide +kernel
theorem dX8_laysSettled_81 : decode cX8_laysSettled 81 = .ok (.bipush 19, 2) := by decide +kernel
theorem dX8_laysSettled_83 : decode cX8_laysSettled 83 = .ok (.iload_n 1, 1) := by decide +kernel
theorem dX8_laysSettled_84 : decode cX8_laysSettled 84 = .ok (.iadd, 1) := by decide +kernel
theorem dX8_laysSettled_85 : decode cX8_laysSettled 85 = .ok (.iaload, 1) := by decide +kernel
theorem dX8_laysSettled_86 : decode cX8_laysSettled 86 = .ok (.if_icmp .gt 58, 3) := by decide +kernel
theorem dX8_laysSettled_89 : decode cX8_laysSettled 89 = .ok (.iload_n 2, 1) := by decide +kernel
theorem dX8_laysSettled_90 : decode cX8_laysSettled 90 = .ok (.iload 4, 2) := by decide +kernel
theorem dX8_laysSettled_92 : decode cX8_laysSettled 92 = .ok (.aload_n 0, 1) := by decide +kernel
theorem dX8_laysSettled_93 : decode cX8_laysSettled 93 = .ok (.iload_n 1, 1) := by decide +kernel
theorem dX8_laysSettled_94 : decode cX8_laysSettled 94 = .ok (.invokevirtual 191, 3) := by decide +kernel
theorem dX8_laysSettled_97 : decode cX8_laysSettled 97 = .ok (.imul, 1) := by decide +kernel
theorem dX8_laysSettled_98 : decode cX8_laysSettled 98 = .ok (.isub, 1) := by decide +kernel
theorem dX8_laysSettled_99 : decode cX8_laysSettled 99 = .ok (.istore 5, 2) := by decide +kernel
theorem dX8_laysSettled_101 : decode cX8_laysSettled 101 = .ok (.iload 5, 2) := by decide +kernel
theorem dX8_laysSettled_103 : decode cX8_laysSettled 103 = .ok (.i2l, 1) := by decide +kernel
theorem dX8_laysSettled_104 : decode cX8_laysSettled 104 = .ok (.ldc2_w 242, 3) := by decide +kernel
theorem dX8_laysSettled_107 : decode cX8_laysSettled 107 = .ok (.ldc2_w 244, 3) := by decide +kernel
theorem dX8_laysSettled_110 : decode cX8_laysSettled 110 = .ok (.invokestatic 100, 3) := by decide +kernel
theorem dX8_laysSettled_113 : decode cX8_laysSettled 113 = .ok (.ifCond .eq 25, 3) := by decide +kernel
theorem dX8_laysSettled_116 : decode cX8_laysSettled 116 = .ok (.iload_n 3, 1) := by decide +kernel
theorem dX8_laysSettled_117 : decode cX8_laysSettled 117 = .ok (.aload_n 0, 1) := by decide +kernel
theorem dX8_laysSettled_118 : decode cX8_laysSettled 118 = .ok (.getfield 46, 3) := by decide +kernel
theorem dX8_laysSettled_121 : decode cX8_laysSettled 121 = .ok (.iload_n 1, 1) := by decide +kernel
theorem dX8_laysSettled_122 : decode cX8_laysSettled 122 = .ok (.iload 5, 2) := by decide +kernel
theorem dX8_laysSettled_124 : decode cX8_laysSettled 124 = .ok (.invokestatic 239, 3) := by decide +kernel
theorem dX8_laysSettled_127 : decode cX8_laysSettled 127 = .ok (.iaload, 1) := by decide +kernel
theorem dX8_laysSettled_128 : decode cX8_laysSettled 128 = .ok (.iload 4, 2) := by decide +kernel
theorem dX8_laysSettled_130 : decode cX8_laysSettled 130 = .ok (.invokestatic 246, 3) := by decide +kernel
theorem dX8_laysSettled_133 : decode cX8_laysSettled 133 = .ok (.iadd, 1) := by decide +kernel
theorem dX8_laysSettled_134 : decode cX8_laysSettled 134 = .ok (.invokestatic 128, 3) := by decide +kernel
theorem dX8_laysSettled_137 : decode cX8_laysSettled 137 = .ok (.istore_n 3, 1) := by decide +kernel
theorem dX8_laysSettled_138 : decode cX8_laysSettled 138 = .ok (.iinc 4 1, 3) := by decide +kernel
theorem dX8_laysSettled_141 : decode cX8_laysSettled 141 = .ok (.goto (-66), 3) := by decide +kernel
theorem dX8_laysSettled_144 : decode cX8_laysSettled 144 = .ok (.aload_n 0, 1) := by decide +kernel
theorem dX8_laysSettled_145 : decode cX8_laysSettled 145 = .ok (.getfield 46, 3) := by decide +kernel
theorem dX8_laysSettled_148 : decode cX8_laysSettled 148 = .ok (.iload_n 1, 1) := by decide +kernel
theorem dX8_laysSettled_149 : decode cX8_laysSettled 149 = .ok (.iconst 1, 1) := by decide +kernel
theorem dX8_laysSettled_150 : decode cX8_laysSettled 150 = .ok (.iadd, 1) := by decide +kernel
theorem dX8_laysSettled_151 : decode cX8_laysSettled 151 = .ok (.iload_n 2, 1) := by decide +kernel
theorem dX8_laysSettled_152 : decode cX8_laysSettled 152 = .ok (.invokestatic 239, 3) := by decide +kernel
theorem dX8_laysSettled_155 : decode cX8_laysSettled 155 = .ok (.ldc 197, 2) := by decide +kernel
theorem dX8_laysSettled_157 : decode cX8_laysSettled 157 = .ok (.iload_n 3, 1) := by decide +kernel
theorem dX8_laysSettled_158 : decode cX8_laysSettled 158 = .ok (.invokestatic 128, 3) := by decide +kernel
theorem dX8_laysSettled_161 : decode cX8_laysSettled 161 = .ok (.iastore, 1) := by decide +kernel
theorem dX8_laysSettled_162 : decode cX8_laysSettled 162 = .ok (.iinc 2 1, 3) := by decide +kernel
theorem dX8_laysSettled_165 : decode cX8_laysSettled 165 = .ok (.goto (-112), 3) := by decide +kernel
theorem dX8_laysSettled_168 : decode cX8_laysSettled 168 = .ok (.iinc 1 1, 3) := by decide +kernel
theorem dX8_laysSettled_171 : decode cX8_laysSettled 171 = .ok (.goto (-132), 3) := by decide +kernel
theorem dX8_laysSettled_174 : decode cX8_laysSettled 174 = .ok (.return_, 1) := by decide +kernel
set_option maxHeartbeats 4000000 in
set_option maxRecDepth 100000 in
theorem m_X8_laysSettled (l : Launch) (mem : Mem) (hG : GR (mem 1)) : Ret shp l yX8_laysSettled cX8_laysSettled 6 none 1 [pR 0] mem (fun rv mv => rv = none ∧ (∀ a, a ≠ 12 → mv a = mem a) ∧ ∀ j : Nat, j ≤ (mem 1 0).toNat → ∀ x : Int, -2000 ≤ x → x ≤ 2000 → mv 12 (4001 * (j : Int) + x + 2000).toNat = stlT (fun i => mem 1 (3 + i)) (fun i => mem 1 (19 + i)) (fun i => mem 1 (11 + i)) j x) := by
  refine ret_of (by decide +kernel) (Nat.le_of_ble_eq_true rfl) (fun X hX F G => ?_)
  show Ok shp X 6 0 [(0, pR 0)] [] mem
  have g0 := hG.1
  have hV := hG.2.2.2.1
  have hV1 := hG.2.2.2.2.1
  have hT : ∀ k : Nat, k < 8 → 0 ≤ mem 1 (11 + k) ∧ mem 1 (11 + k) ≤ 99 := fun k hk => hG.2.2.2.2.2.1 0 (by decide) k hk
  have hU : ∀ k : Nat, k < 8 → 0 ≤ mem 1 (19 + k) ∧ mem 1 (19 + k) ≤ 99 := fun k hk => hG.2.2.2.2.2.1 1 (by decide) k hk
  refine ok_sipush F dX8_laysSettled_0 rfl ?_
  refine ok_istore_n (lv' := [(1, pI (-2000)), (0, pR 0)]) F dX8_laysSettled_3 (by decide) rfl ?_
  have hL_4 : ∀ (n_4 : Nat) (s : Int) (m : Mem), (-2000 ≤ s ∧ s ≤ 2001 ∧ (∀ c, c ≠ 12 → m c = mem c) ∧ ∀ x : Int, -2000 ≤ x → x < s → m 12 (x + 2000).toNat = if x = 0 then 0 else 1000000) → (2001 - s).toNat = n_4 → Ok shp X 6 4 [(0, pR 0), (1, pI s)] [] m := by
    intro n_4
    induction n_4 using Nat.strongRecOn with
    | _ n_4 ih_4 =>
      intro s m hI_4 hn_4
      refine ok_iload_n F dX8_laysSettled_4 1 rfl ?_
      refine ok_sipush F dX8_laysSettled_5 rfl ?_
      refine ok_icmp_gt F 37 dX8_laysSettled_8 (by decide) (by omega) (by omega) (fun c_1 => ?_) (fun c_1 => ?_)
      · refine ok_iconst F dX8_laysSettled_37 ?_
        refine ok_istore_n (lv' := [(1, pI 0), (0, pR 0)]) F dX8_laysSettled_38 (by decide) rfl ?_
        have hL_39 : ∀ (n_39 : Nat) (k : Int) (m8 : Mem), (0 ≤ k ∧ k ≤ mem 1 0 ∧ (∀ c, c ≠ 12 → m8 c = mem c) ∧ ∀ j : Nat, j ≤ k.toNat → ∀ x : Int, -2000 ≤ x → x ≤ 2000 → m8 12 (4001 * (j : Int) + x + 2000).toNat = stlT (fun i => mem 1 (3 + i)) (fun i => mem 1 (19 + i)) (fun i => mem 1 (11 + i)) j x) → (mem 1 0 - k).toNat = n_39 → Ok shp X 6 39 [(0, pR 0), (1, pI k)] [] m8 := by
          intro n_39
          induction n_39 using Nat.strongRecOn with
          | _ n_39 ih_39 =>
            intro k m8 hI_39 hn_39
            obtain ⟨hk0, hk1, hF8, h8⟩ := hI_39
            refine ok_iload_n F dX8_laysSettled_39 1 rfl ?_
            refine ok_aload_n F dX8_laysSettled_40 0 rfl ?_
            refine ok_getr F dX8_laysSettled_41 kF_X8_9 sh_0 rfl ?_
            refine ok_iconst F dX8_laysSettled_44 ?_
            refine ok_iald (v := mem 1 0) F dX8_laysSettled_45 sh_1 (by first | decide | assumption) (by omega) (by omega) (by rw [(hF8 1 (by decide))] <;> rfl) ?_
            refine ok_icmp_ge F 174 dX8_laysSettled_46 (by decide) (by omega) (by omega) (fun c_2 => ?_) (fun c_2 => ?_)
            · refine ok_vret F G dX8_laysSettled_174 ?_
              refine ⟨rfl, hF8, fun j hj x x1 x2 => h8 j (by omega) x x1 x2⟩
            · refine ok_sipush F dX8_laysSettled_49 rfl ?_
              refine ok_istore_n (lv' := [(2, pI (-2000)), (0, pR 0), (1, pI k)]) F dX8_laysSettled_52 (by decide) rfl ?_
              have hL_53 : ∀ (n_53 : Nat) (s : Int) (m5 : Mem), (-2000 ≤ s ∧ s ≤ 2001 ∧ (∀ c, c ≠ 12 → m5 c = m8 c) ∧ (∀ j : Nat, j ≤ k.toNat → ∀ x : Int, -2000 ≤ x → x ≤ 2000 → m5 12 (4001 * (j : Int) + x + 2000).toNat = stlT (fun i => mem 1 (3 + i)) (fun i => mem 1 (19 + i)) (fun i => mem 1 (11 + i)) j x) ∧ ∀ x : Int, -2000 ≤ x → x < s → m5 12 (4001 * (k + 1) + x + 2000).toNat = stlT (fun i => mem 1 (3 + i)) (fun i => mem 1 (19 + i)) (fun i => mem 1 (11 + i)) (k.toNat + 1) x) → (2001 - s).toNat = n_53 → Ok shp X 6 53 [(0, pR 0), (1, pI k), (2, pI s)] [] m5 := by
                intro n_53
                induction n_53 using Nat.strongRecOn with
                | _ n_53 ih_53 =>
                  intro s m5 hI_53 hn_53
                  obtain ⟨hs0, hs1, hF5, h5, h6⟩ := hI_53
                  refine ok_iload_n F dX8_laysSettled_53 2 rfl ?_
                  refine ok_sipush F dX8_laysSettled_54 rfl ?_
                  refine ok_icmp_gt F 168 dX8_laysSettled_57 (by decide) (by omega) (by omega) (fun c_3 => ?_) (fun c_3 => ?_)
                  · refine ok_iinc (lv' := [(1, pI (k + 1)), (0, pR 0), (2, pI s)]) F dX8_laysSettled_168 1 rfl (by decide) rfl ?_
                    refine ok_goto F 39 dX8_laysSettled_171 (by decide) ?_
                    refine ok_lvp [1, 0] (lv' := [(0, pR 0), (1, pI (k + 1))]) rfl ?_
                    refine ih_39 _ ?_ (k + 1) m5 ?_ rfl
                    · omega
                    · refine ⟨by omega, by omega, fun c c1 => by rw [hF5 c c1]; exact hF8 c c1, fun j hj x x1 x2 => ?_⟩
                      by_cases e : j ≤ k.toNat
                      · exact h5 j e x x1 x2
                      · rw [show j = k.toNat + 1 by omega, show (4001 * ((k.toNat + 1 : Nat) : Int) + x + 2000).toNat = (4001 * (k + 1) + x + 2000).toNat by omega]; exact h6 x x1 (by omega)
                  · refine ok_ldc (n := 1000000) F dX8_laysSettled_60 kK_X8_197 rfl ?_
                    refine ok_istore_n (lv' := [(3, pI 1000000), (0, pR 0), (1, pI k), (2, pI s)]) F dX8_laysSettled_62 (by decide) rfl ?_
                    have a1 := hT k.toNat (by omega)
                    have a2 := hU k.toNat (by omega)
                    have a3 := hV k.toNat (by omega)
                    have s1 : 11 + k.toNat = (11 + k).toNat := by omega
                    have s2 : 19 + k.toNat = (19 + k).toNat := by omega
                    have s3 : 3 + k.toNat = (3 + k).toNat := by omega
                    rw [s1] at a1
                    rw [s2] at a2
                    rw [s3] at a3
                    have e51 : m5 1 (3 + k).toNat = mem 1 (3 + k).toNat := by rw [hF5 1 (by decide), hF8 1 (by decide)]
                    rw [← e51] at a3
                    refine ok_aload_n F dX8_laysSettled_63 1 rfl ?_
                    refine ok_getr F dX8_laysSettled_64 kF_X8_9 sh_0 rfl ?_
                    refine ok_bipush F dX8_laysSettled_67 rfl ?_
                    refine ok_iload_n F dX8_laysSettled_69 2 rfl ?_
                    refine ok_iadd F dX8_laysSettled_70 ?_
                    refine ok_iald (v := mem 1 ((11 + k).toNat)) F dX8_laysSettled_71 sh_1 (by first | decide | assumption) (by omega) (by omega) (by rw [(hF5 1 (by decide)), (hF8 1 (by decide))] <;> rfl) ?_
                    refine ok_ineg F dX8_laysSettled_72 ?_
                    refine ok_istore (lv' := [(4, pI (-(mem 1 ((11 + k).toNat)))), (3, pI 1000000), (0, pR 0), (1, pI k), (2, pI s)]) F dX8_laysSettled_73 (by decide) rfl ?_
                    have hL_75 : ∀ (n_75 : Nat) (b : Int) (z : Int), (-(mem 1 (11 + k).toNat) ≤ z ∧ z ≤ mem 1 (19 + k).toNat + 1 ∧ (0 ≤ b ∧ b ≤ 1000000) ∧ b = leastN (fun z => stlT (fun i => mem 1 (3 + i)) (fun i => mem 1 (19 + i)) (fun i => mem 1 (11 + i)) k.toNat (s - z * mem 1 (3 + k.toNat)) + (z.natAbs : Int)) (-(mem 1 (11 + k.toNat))) (z + mem 1 (11 + k.toNat)).toNat) → (mem 1 (19 + k).toNat + 1 - z).toNat = n_75 → Ok shp X 6 75 [(0, pR 0), (1, pI k), (2, pI s), (3, pI b), (4, pI z)] [] m5 := by
                      intro n_75
                      induction n_75 using Nat.strongRecOn with
                      | _ n_75 ih_75 =>
                        intro b z hI_75 hn_75
                        obtain ⟨hz0, hz1, hbb, hb⟩ := hI_75
                        refine ok_iload F dX8_laysSettled_75 4 rfl ?_
                        refine ok_aload_n F dX8_laysSettled_77 0 rfl ?_
                        refine ok_getr F dX8_laysSettled_78 kF_X8_9 sh_0 rfl ?_
                        refine ok_bipush F dX8_laysSettled_81 rfl ?_
                        refine ok_iload_n F dX8_laysSettled_83 1 rfl ?_
                        refine ok_iadd F dX8_laysSettled_84 ?_
                        refine ok_iald (v := mem 1 ((19 + k).toNat)) F dX8_laysSettled_85 sh_1 (by first | decide | assumption) (by omega) (by omega) (by rw [(hF5 1 (by decide)), (hF8 1 (by decide))] <;> rfl) ?_
                        refine ok_icmp_gt F 144 dX8_laysSettled_86 (by decide) (by omega) (by omega) (fun c_4 => ?_) (fun c_4 => ?_)
                        · refine ok_aload_n F dX8_laysSettled_144 0 rfl ?_
                          refine ok_getr F dX8_laysSettled_145 kF_X8_46 sh_0 rfl ?_
                          refine ok_iload_n F dX8_laysSettled_148 1 rfl ?_
                          refine ok_iconst F dX8_laysSettled_149 ?_
                          refine ok_iadd F dX8_laysSettled_150 ?_
                          refine ok_iload_n F dX8_laysSettled_151 2 rfl ?_
                          refine ok_calls F [pI (k + 1), pI s] dX8_laysSettled_152 kM_X8_sum kS_X8_sum kL_X8_239 rfl (by decide) (Nat.le_of_ble_eq_true rfl) rfl (m_X8_sum _ (k + 1) s m5) ?_
                          rintro _ _ ⟨rfl, rfl⟩
                          refine ok_ldc (n := 1000000) F dX8_laysSettled_155 kK_X8_197 rfl ?_
                          refine ok_iload_n F dX8_laysSettled_157 3 rfl ?_
                          refine ok_mmin F dX8_laysSettled_158 kL_X8_128 kS_J9_min_7cf53 kM_J9_min_7cf53.2.1 kM_J9_min_7cf53.2.2.1 (by omega) (by omega) (by decide) (Nat.le_of_ble_eq_true rfl) ?_
                          refine ok_iast F dX8_laysSettled_161 sh_12 (by first | decide | assumption) (by omega) (by omega) (fun m_5 e_6 => ?_)
                          refine ok_iinc (lv' := [(2, pI (s + 1)), (0, pR 0), (1, pI k), (3, pI b), (4, pI z)]) F dX8_laysSettled_162 2 rfl (by decide) rfl ?_
                          refine ok_goto F 53 dX8_laysSettled_165 (by decide) ?_
                          refine ok_lvp [1, 2, 0] (lv' := [(0, pR 0), (1, pI k), (2, pI (s + 1))]) rfl ?_
                          refine ih_53 _ ?_ (s + 1) m_5 ?_ rfl
                          · omega
                          · have ez : (z + mem 1 (11 + k.toNat)).toNat = (mem 1 (11 + k.toNat) + mem 1 (19 + k.toNat) + 1).toNat := by rw [s1, s2]; omega
                            have eb : b = stlT (fun i => mem 1 (3 + i)) (fun i => mem 1 (19 + i)) (fun i => mem 1 (11 + i)) (k.toNat + 1) s := by rw [stlT_s (by omega), hb, ez]
                            refine ⟨by omega, by omega, fun c c1 => by rw [e_6, mset_nka c1]; exact hF5 c c1, fun j hj x x1 x2 => ?_, fun x x1 x2 => ?_⟩
                            · rw [e_6, mset_ne (by omega)]; exact h5 j hj x x1 x2
                            · rw [e_6]
                              by_cases e : x = s
                              · subst e; rw [mset_eq, ← eb]; omega
                              · rw [mset_ne (by omega)]; exact h6 x x1 (by omega)
                        · have q1 := mulz_bd (z := z) (by omega) a3
                          refine ok_iload_n F dX8_laysSettled_89 2 rfl ?_
                          refine ok_iload F dX8_laysSettled_90 4 rfl ?_
                          refine ok_aload_n F dX8_laysSettled_92 0 rfl ?_
                          refine ok_iload_n F dX8_laysSettled_93 1 rfl ?_
                          refine ok_callv F [pI k] dX8_laysSettled_94 kM_X8_value kI_X8_value kV_X8_value kL_X8_191 (ci := 8) rfl sh_0 rfl (by decide) (Nat.le_of_ble_eq_true rfl) rfl (m_X8_value _ k m5 (by omega)) ?_
                          rintro _ _ ⟨rfl, rfl⟩
                          refine ok_imul F dX8_laysSettled_97 ?_
                          refine ok_isub F dX8_laysSettled_98 ?_
                          refine ok_istore (lv' := [(5, pI (s - (z * (m5 1 (3 + k).toNat)))), (0, pR 0), (1, pI k), (2, pI s), (3, pI b), (4, pI z)]) F dX8_laysSettled_99 (by decide) rfl ?_
                          refine ok_iload F dX8_laysSettled_101 0 rfl ?_
                          refine ok_i2l F dX8_laysSettled_103 (by omega) ?_
                          refine ok_ldc2 (n := -2000) F dX8_laysSettled_104 kJ_X8_242 rfl ?_
                          refine ok_ldc2 (n := 2000) F dX8_laysSettled_107 kJ_X8_244 rfl ?_
                          refine ok_calls F [pL (s - (z * (m5 1 (3 + k).toNat))), pL (-2000), pL 2000] dX8_laysSettled_110 kM_X8_in kS_X8_in kL_X8_100 rfl (by decide) (Nat.le_of_ble_eq_true rfl) rfl (m_X8_in _ (s - (z * (m5 1 (3 + k).toNat))) (-2000) 2000 m5 (by omega) (by omega) (by omega)) ?_
                          rintro _ _ ⟨rfl, rfl⟩
                          refine ok_if_eq F 138 dX8_laysSettled_113 (by decide) (by omega) (fun c_7 => ?_) (fun c_7 => ?_)
                          · refine ok_iinc (lv' := [(4, pI (z + 1)), (5, pI (s - (z * (m5 1 (3 + k).toNat)))), (0, pR 0), (1, pI k), (2, pI s), (3, pI b)]) F dX8_laysSettled_138 5 rfl (by decide) rfl ?_
                            refine ok_goto F 75 dX8_laysSettled_141 (by decide) ?_
                            refine ok_lvp [2, 3, 4, 5, 0] (lv' := [(0, pR 0), (1, pI k), (2, pI s), (3, pI b), (4, pI (z + 1))]) rfl ?_
                            refine ih_75 _ ?_ b (z + 1) ?_ rfl
                            · omega
                            · refine ⟨by omega, by omega, by omega, ?_⟩
                              rw [show (z + 1 + mem 1 (11 + k.toNat)).toNat = (z + mem 1 (11 + k.toNat)).toNat + 1 by rw [s1]; omega, leastN_s, ← hb, show -(mem 1 (11 + k.toNat)) + ((z + mem 1 (11 + k.toNat)).toNat : Int) = z by rw [s1]; omega]
                              show _ = min b (stlT (fun i => mem 1 (3 + i)) (fun i => mem 1 (19 + i)) (fun i => mem 1 (11 + i)) k.toNat (s - z * mem 1 (3 + k.toNat)) + (z.natAbs : Int))
                              rw [s3, ← e51]
                              first
                                | (rw [stlT_far (by omega)]; omega)
                                | (rw [← q2]; done)
                          · have q2 := h5 k.toNat (Nat.le_refl _) (s - z * m5 1 (3 + k).toNat) (by omega) (by omega)
                            have q3 := stlT_bd (fun i => mem 1 (3 + i)) (fun i => mem 1 (19 + i)) (fun i => mem 1 (11 + i)) k.toNat (s - z * m5 1 (3 + k).toNat)
                            rw [show ((k.toNat : Nat) : Int) = k by omega] at q2
                            refine ok_iload_n F dX8_laysSettled_116 4 rfl ?_
                            refine ok_aload_n F dX8_laysSettled_117 1 rfl ?_
                            refine ok_getr F dX8_laysSettled_118 kF_X8_46 sh_0 rfl ?_
                            refine ok_iload_n F dX8_laysSettled_121 2 rfl ?_
                            refine ok_iload F dX8_laysSettled_122 0 rfl ?_
                            refine ok_calls F [pI k, pI (s - (z * (m5 1 (3 + k).toNat)))] dX8_laysSettled_124 kM_X8_sum kS_X8_sum kL_X8_239 rfl (by decide) (Nat.le_of_ble_eq_true rfl) rfl (m_X8_sum _ k (s - (z * (m5 1 (3 + k).toNat))) m5) ?_
                            rintro _ _ ⟨rfl, rfl⟩
                            refine ok_iald (v := m5 12 ((4001 * k + (s - (z * (m5 1 (3 + k).toNat))) + 2000).toNat)) F dX8_laysSettled_127 sh_12 (by first | decide | assumption) (by omega) (by omega) rfl ?_
                            refine ok_iload F dX8_laysSettled_128 5 rfl ?_
                            refine ok_mabs F dX8_laysSettled_130 kL_X8_246 kS_J9_abs_0f7a4 kM_J9_abs_0f7a4.2.1 kM_J9_abs_0f7a4.2.2.1 (by omega) (by decide) (Nat.le_of_ble_eq_true rfl) ?_
                            refine ok_iadd F dX8_laysSettled_133 ?_
                            refine ok_mmin F dX8_laysSettled_134 kL_X8_128 kS_J9_min_7cf53 kM_J9_min_7cf53.2.1 kM_J9_min_7cf53.2.2.1 (by omega) (by omega) (by decide) (Nat.le_of_ble_eq_true rfl) ?_
                            refine ok_istore_n (lv' := [(3, pI (min b ((m5 12 ((4001 * k + (s - (z * (m5 1 (3 + k).toNat))) + 2000).toNat)) + ((z).natAbs : Int)))), (5, pI (s - (z * (m5 1 (3 + k).toNat)))), (0, pR 0), (1, pI k), (2, pI s), (4, pI z)]) F dX8_laysSettled_137 (by decide) rfl ?_
                            refine ok_iinc (lv' := [(4, pI (z + 1)), (3, pI (min b ((m5 12 ((4001 * k + (s - (z * (m5 1 (3 + k).toNat))) + 2000).toNat)) + ((z).natAbs : Int)))), (5, pI (s - (z * (m5 1 (3 + k).toNat)))), (0, pR 0), (1, pI k), (2, pI s)]) F dX8_laysSettled_138 5 rfl (by decide) rfl ?_
                            refine ok_goto F 75 dX8_laysSettled_141 (by decide) ?_
                            refine ok_lvp [3, 4, 5, 1, 0] (lv' := [(0, pR 0), (1, pI k), (2, pI s), (3, pI (min b ((m5 12 ((4001 * k + (s - (z * (m5 1 (3 + k).toNat))) + 2000).toNat)) + ((z).natAbs : Int)))), (4, pI (z + 1))]) rfl ?_
                            refine ih_75 _ ?_ (min b ((m5 12 ((4001 * k + (s - (z * (m5 1 (3 + k).toNat))) + 2000).toNat)) + ((z).natAbs : Int))) (z + 1) ?_ rfl
                            · omega
                            · refine ⟨by omega, by omega, by omega, ?_⟩
                              rw [show (z + 1 + mem 1 (11 + k.toNat)).toNat = (z + mem 1 (11 + k.toNat)).toNat + 1 by rw [s1]; omega, leastN_s, ← hb, show -(mem 1 (11 + k.toNat)) + ((z + mem 1 (11 + k.toNat)).toNat : Int) = z by rw [s1]; omega]
                              show _ = min b (stlT (fun i => mem 1 (3 + i)) (fun i => mem 1 (19 + i)) (fun i => mem 1 (11 + i)) k.toNat (s - z * mem 1 (3 + k.toNat)) + (z.natAbs : Int))
                              rw [s3, ← e51]
                              first
                                | (rw [stlT_far (by omega)]; omega)
                                | (rw [← q2]; done)
                    refine ok_lvp [2, 3, 4, 1, 0] (lv' := [(0, pR 0), (1, pI k), (2, pI s), (3, pI 1000000), (4, pI (-(mem 1 ((11 + k).toNat))))]) rfl ?_
                    refine hL_75 _ 1000000 (-(mem 1 ((11 + k).toNat))) ?_ rfl
                    exact ⟨by omega, by omega, by omega, by rw [s1, show (-mem 1 (11 + k).toNat + mem 1 (11 + k).toNat).toNat = 0 by omega]; rfl⟩
              refine ok_lvp [1, 2, 0] (lv' := [(0, pR 0), (1, pI k), (2, pI (-2000))]) rfl ?_
              refine hL_53 _ (-2000) m8 ?_ rfl
              exact ⟨by omega, by omega, fun _ _ => rfl, h8, fun x x1 x2 => by omega⟩
        refine ok_lvp [1, 0] (lv' := [(0, pR 0), (1, pI 0)]) rfl ?_
        refine hL_39 _ 0 m ?_ rfl
        refine ⟨by omega, by omega, hI_4.2.2.1, fun j hj x x1 x2 => ?_⟩
        obtain rfl : j = 0 := by omega
        rw [show (4001 * ((0 : Nat) : Int) + x + 2000).toNat = (x + 2000).toNat by omega, hI_4.2.2.2 x x1 (by omega)]
        rfl
      · refine ok_aload_n F dX8_laysSettled_11 0 rfl ?_
        refine ok_getr F dX8_laysSettled_12 kF_X8_46 sh_0 rfl ?_
        refine ok_iconst F dX8_laysSettled_15 ?_
        refine ok_iload_n F dX8_laysSettled_16 1 rfl ?_
        refine ok_calls F [pI 0, pI s] dX8_laysSettled_17 kM_X8_sum kS_X8_sum kL_X8_239 rfl (by decide) (Nat.le_of_ble_eq_true rfl) rfl (m_X8_sum _ 0 s m) ?_
        rintro _ _ ⟨rfl, rfl⟩
        refine ok_iload_n F dX8_laysSettled_20 1 rfl ?_
        refine ok_if_ne F 28 dX8_laysSettled_21 (by decide) (by omega) (fun c_8 => ?_) (fun c_8 => ?_)
        · refine ok_ldc (n := 1000000) F dX8_laysSettled_28 kK_X8_197 rfl ?_
          refine ok_iast F dX8_laysSettled_30 sh_12 (by first | decide | assumption) (by omega) (by omega) (fun m_9 e_10 => ?_)
          refine ok_iinc (lv' := [(1, pI (s + 1)), (0, pR 0)]) F dX8_laysSettled_31 1 rfl (by decide) rfl ?_
          refine ok_goto F 4 dX8_laysSettled_34 (by decide) ?_
          refine ok_lvp [1, 0] (lv' := [(0, pR 0), (1, pI (s + 1))]) rfl ?_
          refine ih_4 _ ?_ (s + 1) m_9 ?_ rfl
          · omega
          · refine ⟨by omega, by omega, fun c c1 => by rw [e_10, mset_nka c1]; exact hI_4.2.2.1 c c1, fun x x1 x2 => ?_⟩
            rw [e_10]
            by_cases e : x = s
            · subst e; rw [show (4001 * 0 + x + 2000).toNat = (x + 2000).toNat by omega, mset_eq]; first | (rw [if_pos (by omega)]; done) | (rw [if_neg (by omega)]; done)
            · rw [mset_ne (by omega)]; exact hI_4.2.2.2 x x1 (by omega)
        · refine ok_iconst F dX8_laysSettled_24 ?_
          refine ok_goto F 30 dX8_laysSettled_25 (by decide) ?_
          refine ok_iast F dX8_laysSettled_30 sh_12 (by first | decide | assumption) (by omega) (by omega) (fun m_11 e_12 => ?_)
          refine ok_iinc (lv' := [(1, pI (s + 1)), (0, pR 0)]) F dX8_laysSettled_31 1 rfl (by decide) rfl ?_
          refine ok_goto F 4 dX8_laysSettled_34 (by decide) ?_
          refine ok_lvp [1, 0] (lv' := [(0, pR 0), (1, pI (s + 1))]) rfl ?_
          refine ih_4 _ ?_ (s + 1) m_11 ?_ rfl
          · omega
          · refine ⟨by omega, by omega, fun c c1 => by rw [e_12, mset_nka c1]; exact hI_4.2.2.1 c c1, fun x x1 x2 => ?_⟩
            rw [e_12]
            by_cases e : x = s
            · subst e; rw [show (4001 * 0 + x + 2000).toNat = (x + 2000).toNat by omega, mset_eq]; first | (rw [if_pos (by omega)]; done) | (rw [if_neg (by omega)]; done)
            · rw [mset_ne (by omega)]; exact hI_4.2.2.2 x x1 (by omega)
  refine ok_lvp [1, 0] (lv' := [(0, pR 0), (1, pI (-2000))]) rfl ?_
  refine hL_4 _ (-2000) mem ?_ rfl
  exact ⟨by omega, by omega, fun _ _ => rfl, fun x x1 x2 => by omega⟩
