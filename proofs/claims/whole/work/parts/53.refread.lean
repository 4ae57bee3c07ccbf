/-! the reference: a settling read -/
/-- what settling a price comes to, and how many of each kind then go to the till -/
def rsV (f : Nat → Int) (p : Int) : Int := stlT (fun i => f (3 + i)) (fun i => f (19 + i)) (fun i => f (11 + i)) (f 0).toNat p
def rsD (f : Nat → Int) (p : Int) : Nat → Int := rdR (stlT (fun i => f (3 + i)) (fun i => f (19 + i)) (fun i => f (11 + i))) (fun i => f (3 + i)) (fun i => f (19 + i)) (fun i => f (11 + i)) (f 0).toNat p (rsV f p)
theorem topZ_here {P : Int → Bool} {n : Nat} {z : Int} (h : P z = true) : topZ P n z = z := by
  cases n with
  | zero => rfl
  | succ n => rw [topZ_s, if_pos h]
theorem dX8_settles_0 : decode cX8_settles 0 = .ok (.aload_n 0, 1) := by decide +kernel
theorem dX8_settles_1 : decode cX8_settles 1 = .ok (.invokevirtual 249, 3) := by decide +kernel
theorem dX8_settles_4 : decode cX8_settles 4 = .ok (.aload_n 0, 1) := by decide +kernel
theorem dX8_settles_5 : decode cX8_settles 5 = .ok (.getfield 46, 3) := by decide +kernel
theorem dX8_settles_8 : decode cX8_settles 8 = .ok (.aload_n 0, 1) := by decide +kernel
theorem dX8_settles_9 : decode cX8_settles 9 = .ok (.getfield 9, 3) := by decide +kernel
theorem dX8_settles_12 : decode cX8_settles 12 = .ok (.iconst 0, 1) := by decide +kernel
theorem dX8_settles_13 : decode cX8_settles 13 = .ok (.iaload, 1) := by decide +kernel
theorem dX8_settles_14 : decode cX8_settles 14 = .ok (.iload_n 1, 1) := by decide +kernel
theorem dX8_settles_15 : decode cX8_settles 15 = .ok (.invokestatic 239, 3) := by decide +kernel
theorem dX8_settles_18 : decode cX8_settles 18 = .ok (.iaload, 1) := by decide +kernel
theorem dX8_settles_19 : decode cX8_settles 19 = .ok (.istore_n 2, 1) := by decide +kernel
theorem dX8_settles_20 : decode cX8_settles 20 = .ok (.iload_n 2, 1) := by decide +kernel
theorem dX8_settles_21 : decode cX8_settles 21 = .ok (.ldc 197, 2) := by decide +kernel
theorem dX8_settles_23 : decode cX8_settles 23 = .ok (.if_icmp .lt 5, 3) := by decide +kernel
theorem dX8_settles_26 : decode cX8_settles 26 = .ok (.iconst (-1), 1) := by decide +kernel
theorem dX8_settles_27 : decode cX8_settles 27 = .ok (.ireturn, 1) := by decide +kernel
theorem dX8_settles_28 : decode cX8_settles 28 = .ok (.iload_n 1, 1) := by decide +kernel
theorem dX8_settles_29 : decode cX8_settles 29 = .ok (.istore_n 3, 1) := by decide +kernel
theorem dX8_settles_30 : decode cX8_settles 30 = .ok (.aload_n 0, 1) := by decide +kernel
theorem dX8_settles_31 : decode cX8_settles 31 = .ok (.getfield 9, 3) := by decide +kernel
theorem dX8_settles_34 : decode cX8_settles 34 = .ok (.iconst 0, 1) := by decide +kernel
theorem dX8_settles_35 : decode cX8_settles 35 = .ok (.iaload, 1) := by decide +kernel
theorem dX8_settles_36 : decode cX8_settles 36 = .ok (.iconst 1, 1) := by decide +kernel
theorem dX8_settles_37 : decode cX8_settles 37 = .ok (.isub, 1) := by decide +kernel
theorem dX8_settles_38 : decode cX8_settles 38 = .ok (.istore 4, 2) := by decide +kernel
theorem dX8_settles_40 : decode cX8_settles 40 = .ok (.iload 4, 2) := by decide +kernel
theorem dX8_settles_42 : decode cX8_settles 42 = .ok (.ifCond .lt 115, 3) := by decide +kernel
theorem dX8_settles_45 : decode cX8_settles 45 = .ok (.aload_n 0, 1) := by decide +kernel
theorem dX8_settles_46 : decode cX8_settles 46 = .ok (.getfield 9, 3) := by decide +kernel
theorem dX8_settles_49 : decode cX8_settles 49 = .ok (.bipush 19, 2) := by decide +kernel
theorem dX8_settles_51 : decode cX8_settles 51 = .ok (.iload 4, 2) := by decide +kernel
theorem dX8_settles_53 : decode cX8_settles 53 = .ok (.iadd, 1) := by decide +kernel
theorem dX8_settles_54 : decode cX8_settles 54 = .ok (.iaload, 1) := by decide +kernel
theorem dX8_settles_55 : decode cX8_settles 55 = .ok (.istore 5, 2) := by decide +kernel
theorem dX8_settles_57 : decode cX8_settles 57 = .ok (.iload_n 3, 1) := by decide +kernel
theorem dX8_settles_58 : decode cX8_settles 58 = .ok (.iload 5, 2) := by decide +kernel
theorem dX8_settles_60 : decode cX8_settles 60 = .ok (.aload_n 0, 1) := by decide +kernel
theorem dX8_settles_61 : decode cX8_settles 61 = .ok (.iload 4, 2) := by decide +kernel
theorem dX8_settles_63 : decode cX8_settles 63 = .ok (.invokevirtual 191, 3) := by decide +kernel
theorem dX8_settles_66 : decode cX8_settles 66 = .ok (.imul, 1) := by decide +kernel
theorem dX8_settles_67 : decode cX8_settles 67 = .ok (.isub, 1) := by decide +kernel
theorem dX8_settles_68 : decode cX8_settles 68 = .ok (.i2l, 1) := by decide +kernel
theorem dX8_settles_69 : decode cX8_settles 69 = .ok (.ldc2_w 242, 3) := by decide +kernel
theorem dX8_settles_72 : decode cX8_settles 72 = .ok (.ldc2_w 244, 3) := by decide +kernel
theorem dX8_settles_75 : decode cX8_settles 75 = .ok (.invokestatic 100, 3) := by decide +kernel
theorem dX8_settles_78 : decode cX8_settles 78 = .ok (.ifCond .eq 46, 3) := by decide +kernel
theorem dX8_settles_81 : decode cX8_settles 81 = .ok (.aload_n 0, 1) := by decide +kernel
theorem dX8_settles_82 : decode cX8_settles 82 = .ok (.getfield 46, 3) := by decide +kernel
theorem dX8_settles_85 : decode cX8_settles 85 = .ok (.iload 4, 2) := by decide +kernel
theorem dX8_settles_87 : decode cX8_settles 87 = .ok (.iload_n 3, 1) := by decide +kernel
theorem dX8_settles_88 : decode cX8_settles 88 = .ok (.iload 5, 2) := by decide +kernel
theorem dX8_settles_90 : decode cX8_settles 90 = .ok (.aload_n 0, 1) := by decide +kernel
theorem dX8_settles_91 : decode cX8_settles 91 = .ok (.iload 4, 2) := by decide +kernel
theorem dX8_settles_93 : decode cX8_settles 93 = .ok (.invokevirtual 191, 3) := by decide +kernel
theorem dX8_settles_96 : decode cX8_settles 96 = .ok (.imul, 1) := by decide +kernel
theorem dX8_settles_97 : decode cX8_settles 97 = .ok (.isub, 1) := by decide +kernel
theorem dX8_settles_98 : decode cX8_settles 98 = .ok (.invokestatic 239, 3) := by decide +kernel
theorem dX8_settles_101 : decode cX8_settles 101 = .ok (.iaload, 1) := by decide +kernel
theorem dX8_settles_102 : decode cX8_settles 102 = .ok (.iload 5, 2) := by decide +kernel
theorem dX8_settles_104 : decode cX8_settles 104 = .ok (.invokestatic 246, 3) := by decide +kernel
theorem dX8_settles_107 : decode cX8_settles 107 = .ok (.iadd, 1) := by decide +kernel
theorem dX8_settles_108 : decode cX8_settles 108 = .ok (.aload_n 0, 1) := by decide +kernel
theorem dX8_settles_109 : decode cX8_settles 109 = .ok (.getfield 46, 3) := by decide +kernel
theorem dX8_settles_112 : decode cX8_settles 112 = .ok (.iload 4, 2) := by decide +kernel
theorem dX8_settles_114 : decode cX8_settles 114 = .ok (.iconst 1, 1) := by decide +kernel
theorem dX8_settles_115 : decode cX8_settles 115 = .ok (.iadd, 1) := by decide +kernel
theorem dX8_settles_116 : decode cX8_settles 116 = .ok (.iload_n 3, 1) := by decide +kernel
theorem dX8_settles_117 : decode cX8_settles 117 = .ok (.invokestatic 239, 3) := by decide +kernel
theorem dX8_settles_120 : decode cX8_settles 120 = .ok (.iaload, 1) := by decide +kernel
theorem dX8_settles_121 : decode cX8_settles 121 = .ok (.if_icmp .eq 9, 3) := by decide +kernel
theorem dX8_settles_124 : decode cX8_settles 124 = .ok (.iinc 5 (-1), 3) := by decide +kernel
theorem dX8_settles_127 : decode cX8_settles 127 = .ok (.goto (-70), 3) := by decide +kernel
theorem dX8_settles_130 : decode cX8_settles 130 = .ok (.aload_n 0, 1) := by decide +kernel
theorem dX8_settles_131 : decode cX8_settles 131 = .ok (.getfield 49, 3) := by decide +kernel
theorem dX8_settles_134 : decode cX8_settles 134 = .ok (.iload 4, 2) := by decide +kernel
theorem dX8_settles_136 : decode cX8_settles 136 = .ok (.iload 5, 2) := by decide +kernel
theorem dX8_settles_138 : decode cX8_settles 138 = .ok (.iastore, 1) := by decide +kernel
theorem dX8_settles_139 : decode cX8_settles 139 = .ok (.iload_n 3, 1) := by decide +kernel
theorem dX8_settles_140 : decode cX8_settles 140 = .ok (.iload 5, 2) := by decide +kernel
theorem dX8_settles_142 : decode cX8_settles 142 = .ok (.aload_n 0, 1) := by decide +kernel
theorem dX8_settles_143 : decode cX8_settles 143 = .ok (.iload 4, 2) := by decide +kernel
theorem dX8_settles_145 : decode cX8_settles 145 = .ok (.invokevirtual 191, 3) := by decide +kernel
theorem dX8_settles_148 : decode cX8_settles 148 = .ok (.imul, 1) := by decide +kernel
theorem dX8_settles_149 : decode cX8_settles 149 = .ok (.isub, 1) := by decide +kernel
theorem dX8_settles_150 : decode cX8_settles 150 = .ok (.istore_n 3, 1) := by decide +kernel
theorem dX8_settles_151 : decode cX8_settles 151 = .ok (.iinc 4 (-1), 3) := by decide +kernel
theorem dX8_settles_154 : decode cX8_settles 154 = .ok (.goto (-114), 3) := by decide +kernel
theorem dX8_settles_157 : decode cX8_settles 157 = .ok (.iload_n 2, 1) := by decide +kernel
theorem dX8_settles_158 : decode cX8_settles 158 = .ok (.ireturn, 1) := by decide +kernel
set_option maxHeartbeats 4000000 in
set_option maxRecDepth 100000 in
theorem m_X8_settles (l : Launch) (p : Int) (mem : Mem) (hp : 1 ≤ p ∧ p ≤ 1000) (hG : GR (mem 1)) : Ret shp l yX8_settles cX8_settles 6 (some .int) 2 [pR 0, pI p] mem (fun rv mv => ∃ z, rv = some (pI z) ∧ (∀ a, a ≠ 12 → a ≠ 13 → mv a = mem a) ∧ z = (if rsV (mem 1) p < 1000000 then rsV (mem 1) p else -1) ∧ (rsV (mem 1) p < 1000000 → ∀ j : Nat, (j : Int) < mem 1 0 → mv 13 j = rsD (mem 1) p j)) := by
  refine ret_of (by decide +kernel) (Nat.le_of_ble_eq_true rfl) (fun X hX F G => ?_)
  show Ok shp X 6 0 [(0, pR 0), (1, pI p)] [] mem
  have g0 := hG.1
  have hV := hG.2.2.2.1
  have hV1 := hG.2.2.2.2.1
  have hT : ∀ k : Nat, k < 8 → 0 ≤ mem 1 (11 + k) ∧ mem 1 (11 + k) ≤ 99 := fun k hk => hG.2.2.2.2.2.1 0 (by decide) k hk
  have hU : ∀ k : Nat, k < 8 → 0 ≤ mem 1 (19 + k) ∧ mem 1 (19 + k) ≤ 99 := fun k hk => hG.2.2.2.2.2.1 1 (by decide) k hk
  have hst := stlT_ok (v := (fun i => mem 1 (3 + i))) (g := (fun i => mem 1 (19 + i))) (r := (fun i => mem 1 (11 + i))) (K := 8) (fun i hi => by have := hT i hi; have := hU i hi; have := hV i hi; (try dsimp only); omega)
  refine ok_aload_n F dX8_settles_0 0 rfl ?_
  refine ok_callv F [] dX8_settles_1 kM_X8_laysSettled kI_X8_laysSettled kV_X8_laysSettled kL_X8_249 (ci := 8) rfl sh_0 rfl (by decide) (Nat.le_of_ble_eq_true rfl) rfl (m_X8_laysSettled _ mem (hG)) ?_
  rintro _ m_2 ⟨rfl, r_3⟩
  obtain ⟨t1, t2⟩ := id r_3
  obtain ⟨mT, hmT⟩ : ∃ x, x = m_2 := ⟨_, rfl⟩
  rw [← hmT] at t1 t2
  have t3 := t2 (mem 1 0).toNat (Nat.le_refl _) p (by omega) (by omega)
  have pb := stlT_bd (fun i => mem 1 (3 + i)) (fun i => mem 1 (19 + i)) (fun i => mem 1 (11 + i)) (mem 1 0).toNat p
  have ev : rsV (mem 1) p = stlT (fun i => mem 1 (3 + i)) (fun i => mem 1 (19 + i)) (fun i => mem 1 (11 + i)) (mem 1 0).toNat p := rfl
  rw [← ev] at pb t3
  rw [show (4001 * (((mem 1 0).toNat : Nat) : Int) + p + 2000).toNat = (4001 * mem 1 0 + p + 2000).toNat by omega, hmT] at t3
  refine ok_aload_n F dX8_settles_4 0 rfl ?_
  refine ok_getr F dX8_settles_5 kF_X8_46 sh_0 rfl ?_
  refine ok_aload_n F dX8_settles_8 0 rfl ?_
  refine ok_getr F dX8_settles_9 kF_X8_9 sh_0 rfl ?_
  refine ok_iconst F dX8_settles_12 ?_
  refine ok_iald (v := mem 1 0) F dX8_settles_13 sh_1 (by first | decide | assumption) (by omega) (by omega) (by rw [(r_3.1 1 (by decide))] <;> rfl) ?_
  refine ok_iload_n F dX8_settles_14 1 rfl ?_
  refine ok_calls F [pI (mem 1 0), pI p] dX8_settles_15 kM_X8_sum kS_X8_sum kL_X8_239 rfl (by decide) (Nat.le_of_ble_eq_true rfl) rfl (m_X8_sum _ (mem 1 0) p m_2) ?_
  rintro _ _ ⟨rfl, rfl⟩
  refine ok_iald (v := m_2 12 ((4001 * (mem 1 0) + p + 2000).toNat)) F dX8_settles_18 sh_12 (by first | decide | assumption) (by omega) (by omega) rfl ?_
  refine ok_istore_n (lv' := [(2, pI (m_2 12 ((4001 * (mem 1 0) + p + 2000).toNat))), (0, pR 0), (1, pI p)]) F dX8_settles_19 (by decide) rfl ?_
  refine ok_iload_n F dX8_settles_20 0 rfl ?_
  refine ok_ldc (n := 1000000) F dX8_settles_21 kK_X8_197 rfl ?_
  refine ok_icmp_lt F 28 dX8_settles_23 (by decide) (by omega) (by omega) (fun c_4 => ?_) (fun c_4 => ?_)
  · refine ok_iload_n F dX8_settles_28 2 rfl ?_
    refine ok_istore_n (lv' := [(3, pI p), (2, pI (m_2 12 ((4001 * (mem 1 0) + p + 2000).toNat))), (0, pR 0), (1, pI p)]) F dX8_settles_29 (by decide) rfl ?_
    refine ok_aload_n F dX8_settles_30 2 rfl ?_
    refine ok_getr F dX8_settles_31 kF_X8_9 sh_0 rfl ?_
    refine ok_iconst F dX8_settles_34 ?_
    refine ok_iald (v := mem 1 0) F dX8_settles_35 sh_1 (by first | decide | assumption) (by omega) (by omega) (by rw [(r_3.1 1 (by decide))] <;> rfl) ?_
    refine ok_iconst F dX8_settles_36 ?_
    refine ok_isub F dX8_settles_37 ?_
    refine ok_istore (lv' := [(4, pI ((mem 1 0) - 1)), (3, pI p), (2, pI (m_2 12 ((4001 * (mem 1 0) + p + 2000).toNat))), (0, pR 0), (1, pI p)]) F dX8_settles_38 (by decide) rfl ?_
    have hp2 : rsV (mem 1) p < 1000000 := by omega
    have hL_40 : ∀ (n_40 : Nat) (s : Int) (k : Int) (m8 : Mem), (-1 ≤ k ∧ k < mem 1 0 ∧ (-2000 ≤ s ∧ s ≤ 2000) ∧ (∀ c, c ≠ 13 → m8 c = mT c) ∧ stlT (fun i => mem 1 (3 + i)) (fun i => mem 1 (19 + i)) (fun i => mem 1 (11 + i)) (k + 1).toNat s < 1000000 ∧ (∀ j : Nat, k < (j : Int) → (j : Int) < mem 1 0 → m8 13 j = rsD (mem 1) p j) ∧ ∀ j : Nat, (j : Int) ≤ k → rsD (mem 1) p j = rdR (stlT (fun i => mem 1 (3 + i)) (fun i => mem 1 (19 + i)) (fun i => mem 1 (11 + i))) (fun i => mem 1 (3 + i)) (fun i => mem 1 (19 + i)) (fun i => mem 1 (11 + i)) (k + 1).toNat s (stlT (fun i => mem 1 (3 + i)) (fun i => mem 1 (19 + i)) (fun i => mem 1 (11 + i)) (k + 1).toNat s) j) → (k + 1).toNat = n_40 → Ok shp X 6 40 [(0, pR 0), (1, pI p), (2, pI (m_2 12 ((4001 * (mem 1 0) + p + 2000).toNat))), (3, pI s), (4, pI k)] [] m8 := by
      intro n_40
      induction n_40 using Nat.strongRecOn with
      | _ n_40 ih_40 =>
        intro s k m8 hI_40 hn_40
        obtain ⟨hk0, hk1, hsb, hF, hlt, hdn, hrd⟩ := hI_40
        have o1 : m8 1 = mem 1 := by rw [hF 1 (by decide), t1 1 (by decide)]
        have o12 : m8 12 = mT 12 := hF 12 (by decide)
        refine ok_iload F dX8_settles_40 4 rfl ?_
        refine ok_if_lt F 157 dX8_settles_42 (by decide) (by omega) (fun c_5 => ?_) (fun c_5 => ?_)
        · refine ok_iload_n F dX8_settles_157 2 rfl ?_
          refine ok_iret F G dX8_settles_158 ?_
          refine ⟨_, rfl, fun a a1 a2 => by rw [hF a a2]; exact t1 a a1, by rw [if_pos hp2]; exact t3, fun _ j hj => hdn j (by omega) hj⟩
        · have hK : (k + 1).toNat = k.toNat + 1 := by omega
          rw [hK] at hlt hrd
          have a1 := hT k.toNat (by omega)
          have a2 := hU k.toNat (by omega)
          have a3 := hV k.toNat (by omega)
          have s1 : 11 + k.toNat = (11 + k).toNat := by omega
          have s2 : 19 + k.toNat = (19 + k).toNat := by omega
          have s3 : 3 + k.toNat = (3 + k).toNat := by omega
          rw [s1] at a1
          rw [s2] at a2
          rw [s3] at a3
          have e8 : m8 1 (3 + k).toNat = mem 1 (3 + k).toNat := by rw [o1]
          rw [← e8] at a3
          have st2 := stlT_bd (fun i => mem 1 (3 + i)) (fun i => mem 1 (19 + i)) (fun i => mem 1 (11 + i)) (k.toNat + 1) s
          have q3 := t2 (k.toNat + 1) (by omega) s (by omega) (by omega)
          rw [show (4001 * ((k.toNat + 1 : Nat) : Int) + s + 2000).toNat = (4001 * (k + 1) + s + 2000).toNat by omega, ← o12] at q3
          refine ok_aload_n F dX8_settles_45 0 rfl ?_
          refine ok_getr F dX8_settles_46 kF_X8_9 sh_0 rfl ?_
          refine ok_bipush F dX8_settles_49 rfl ?_
          refine ok_iload F dX8_settles_51 4 rfl ?_
          refine ok_iadd F dX8_settles_53 ?_
          refine ok_iald (v := mem 1 ((19 + k).toNat)) F dX8_settles_54 sh_1 (by first | decide | assumption) (by omega) (by omega) (by rw [o1] <;> rfl) ?_
          refine ok_istore (lv' := [(5, pI (mem 1 ((19 + k).toNat))), (0, pR 0), (1, pI p), (2, pI (m_2 12 ((4001 * (mem 1 0) + p + 2000).toNat))), (3, pI s), (4, pI k)]) F dX8_settles_55 (by decide) rfl ?_
          have hL_57 : ∀ (n_57 : Nat) (z : Int), (-(mem 1 (11 + k).toNat) ≤ z ∧ z ≤ mem 1 (19 + k).toNat ∧ (∃ w, -(mem 1 (11 + k).toNat) ≤ w ∧ w ≤ z ∧ (fun z => decide (stlT (fun i => mem 1 (3 + i)) (fun i => mem 1 (19 + i)) (fun i => mem 1 (11 + i)) k.toNat (s - z * mem 1 (3 + k.toNat)) = stlT (fun i => mem 1 (3 + i)) (fun i => mem 1 (19 + i)) (fun i => mem 1 (11 + i)) (k.toNat + 1) s - (z.natAbs : Int))) w = true) ∧ rdZ (stlT (fun i => mem 1 (3 + i)) (fun i => mem 1 (19 + i)) (fun i => mem 1 (11 + i))) (fun i => mem 1 (3 + i)) (fun i => mem 1 (19 + i)) (fun i => mem 1 (11 + i)) k.toNat s (stlT (fun i => mem 1 (3 + i)) (fun i => mem 1 (19 + i)) (fun i => mem 1 (11 + i)) (k.toNat + 1) s) = topZ (fun z => decide (stlT (fun i => mem 1 (3 + i)) (fun i => mem 1 (19 + i)) (fun i => mem 1 (11 + i)) k.toNat (s - z * mem 1 (3 + k.toNat)) = stlT (fun i => mem 1 (3 + i)) (fun i => mem 1 (19 + i)) (fun i => mem 1 (11 + i)) (k.toNat + 1) s - (z.natAbs : Int))) (z + mem 1 (11 + k).toNat).toNat z) → (z + mem 1 (11 + k).toNat + 1).toNat = n_57 → Ok shp X 6 57 [(0, pR 0), (1, pI p), (2, pI (m_2 12 ((4001 * (mem 1 0) + p + 2000).toNat))), (3, pI s), (4, pI k), (5, pI z)] [] m8 := by
            intro n_57
            induction n_57 using Nat.strongRecOn with
            | _ n_57 ih_57 =>
              intro z hI_57 hn_57
              obtain ⟨hz0, hz1, ⟨w, w1, w2, w3⟩, hTZ⟩ := hI_57
              have q1 := mulz_bd (z := z) (by omega) a3
              have q4 := stlT_bd (fun i => mem 1 (3 + i)) (fun i => mem 1 (19 + i)) (fun i => mem 1 (11 + i)) k.toNat (s - z * m8 1 (3 + k).toNat)
              refine ok_iload_n F dX8_settles_57 3 rfl ?_
              refine ok_iload F dX8_settles_58 5 rfl ?_
              refine ok_aload_n F dX8_settles_60 0 rfl ?_
              refine ok_iload F dX8_settles_61 4 rfl ?_
              refine ok_callv F [pI k] dX8_settles_63 kM_X8_value kI_X8_value kV_X8_value kL_X8_191 (ci := 8) rfl sh_0 rfl (by decide) (Nat.le_of_ble_eq_true rfl) rfl (m_X8_value _ k m8 (by omega)) ?_
              rintro _ _ ⟨rfl, rfl⟩
              refine ok_imul F dX8_settles_66 ?_
              refine ok_isub F dX8_settles_67 ?_
              refine ok_i2l F dX8_settles_68 (by omega) ?_
              refine ok_ldc2 (n := -2000) F dX8_settles_69 kJ_X8_242 rfl ?_
              refine ok_ldc2 (n := 2000) F dX8_settles_72 kJ_X8_244 rfl ?_
              refine ok_calls F [pL (s - (z * (m8 1 (3 + k).toNat))), pL (-2000), pL 2000] dX8_settles_75 kM_X8_in kS_X8_in kL_X8_100 rfl (by decide) (Nat.le_of_ble_eq_true rfl) rfl (m_X8_in _ (s - (z * (m8 1 (3 + k).toNat))) (-2000) 2000 m8 (by omega) (by omega) (by omega)) ?_
              rintro _ _ ⟨rfl, rfl⟩
              refine ok_if_eq F 124 dX8_settles_78 (by decide) (by omega) (fun c_6 => ?_) (fun c_6 => ?_)
              · refine ok_iinc (lv' := [(5, pI (z + (-1))), (0, pR 0), (1, pI p), (2, pI (m_2 12 ((4001 * (mem 1 0) + p + 2000).toNat))), (3, pI s), (4, pI k)]) F dX8_settles_124 5 rfl (by decide) rfl ?_
                refine ok_goto F 57 dX8_settles_127 (by decide) ?_
                refine ok_lvp [1, 2, 3, 4, 5, 0] (lv' := [(0, pR 0), (1, pI p), (2, pI (m_2 12 ((4001 * (mem 1 0) + p + 2000).toNat))), (3, pI s), (4, pI k), (5, pI (z + (-1)))]) rfl ?_
                refine ih_57 _ ?_ (z + (-1)) ?_ rfl
                · omega
                · have hnP : ¬ (fun z => decide (stlT (fun i => mem 1 (3 + i)) (fun i => mem 1 (19 + i)) (fun i => mem 1 (11 + i)) k.toNat (s - z * mem 1 (3 + k.toNat)) = stlT (fun i => mem 1 (3 + i)) (fun i => mem 1 (19 + i)) (fun i => mem 1 (11 + i)) (k.toNat + 1) s - (z.natAbs : Int))) z = true := by
                    show ¬ decide (stlT (fun i => mem 1 (3 + i)) (fun i => mem 1 (19 + i)) (fun i => mem 1 (11 + i)) k.toNat (s - z * mem 1 (3 + k.toNat)) = stlT (fun i => mem 1 (3 + i)) (fun i => mem 1 (19 + i)) (fun i => mem 1 (11 + i)) (k.toNat + 1) s - (z.natAbs : Int)) = true
                    rw [decide_eq_true_eq, s3, ← e8]
                    first
                      | (rw [stlT_far (k := k.toNat) (by omega)]; omega)
                      | (rw [← q2, ← q3]; omega)
                  have hw : w ≠ z := fun q => hnP (q ▸ w3)
                  refine ⟨by omega, by omega, ⟨w, w1, by omega, w3⟩, ?_⟩
                  rw [hTZ, show (z + mem 1 (11 + k).toNat).toNat = (z + -1 + mem 1 (11 + k).toNat).toNat + 1 by omega, topZ_s, if_neg hnP]
                  rfl
              · have q2 := t2 k.toNat (by omega) (s - z * m8 1 (3 + k).toNat) (by omega) (by omega)
                rw [show ((k.toNat : Nat) : Int) = k by omega, ← o12] at q2
                refine ok_aload_n F dX8_settles_81 0 rfl ?_
                refine ok_getr F dX8_settles_82 kF_X8_46 sh_0 rfl ?_
                refine ok_iload F dX8_settles_85 4 rfl ?_
                refine ok_iload_n F dX8_settles_87 3 rfl ?_
                refine ok_iload F dX8_settles_88 5 rfl ?_
                refine ok_aload_n F dX8_settles_90 0 rfl ?_
                refine ok_iload F dX8_settles_91 4 rfl ?_
                refine ok_callv F [pI k] dX8_settles_93 kM_X8_value kI_X8_value kV_X8_value kL_X8_191 (ci := 8) rfl sh_0 rfl (by decide) (Nat.le_of_ble_eq_true rfl) rfl (m_X8_value _ k m8 (by omega)) ?_
                rintro _ _ ⟨rfl, rfl⟩
                refine ok_imul F dX8_settles_96 ?_
                refine ok_isub F dX8_settles_97 ?_
                refine ok_calls F [pI k, pI (s - (z * (m8 1 (3 + k).toNat)))] dX8_settles_98 kM_X8_sum kS_X8_sum kL_X8_239 rfl (by decide) (Nat.le_of_ble_eq_true rfl) rfl (m_X8_sum _ k (s - (z * (m8 1 (3 + k).toNat))) m8) ?_
                rintro _ _ ⟨rfl, rfl⟩
                refine ok_iald (v := m8 12 ((4001 * k + (s - (z * (m8 1 (3 + k).toNat))) + 2000).toNat)) F dX8_settles_101 sh_12 (by first | decide | assumption) (by omega) (by omega) rfl ?_
                refine ok_iload F dX8_settles_102 5 rfl ?_
                refine ok_mabs F dX8_settles_104 kL_X8_246 kS_J9_abs_0f7a4 kM_J9_abs_0f7a4.2.1 kM_J9_abs_0f7a4.2.2.1 (by omega) (by decide) (Nat.le_of_ble_eq_true rfl) ?_
                refine ok_iadd F dX8_settles_107 ?_
                refine ok_aload_n F dX8_settles_108 0 rfl ?_
                refine ok_getr F dX8_settles_109 kF_X8_46 sh_0 rfl ?_
                refine ok_iload F dX8_settles_112 4 rfl ?_
                refine ok_iconst F dX8_settles_114 ?_
                refine ok_iadd F dX8_settles_115 ?_
                refine ok_iload_n F dX8_settles_116 3 rfl ?_
                refine ok_calls F [pI (k + 1), pI s] dX8_settles_117 kM_X8_sum kS_X8_sum kL_X8_239 rfl (by decide) (Nat.le_of_ble_eq_true rfl) rfl (m_X8_sum _ (k + 1) s m8) ?_
                rintro _ _ ⟨rfl, rfl⟩
                refine ok_iald (v := m8 12 ((4001 * (k + 1) + s + 2000).toNat)) F dX8_settles_120 sh_12 (by first | decide | assumption) (by omega) (by omega) rfl ?_
                refine ok_icmp_eq F 130 dX8_settles_121 (by decide) (by omega) (by omega) (fun c_7 => ?_) (fun c_7 => ?_)
                · refine ok_aload_n F dX8_settles_130 0 rfl ?_
                  refine ok_getr F dX8_settles_131 kF_X8_49 sh_0 rfl ?_
                  refine ok_iload F dX8_settles_134 4 rfl ?_
                  refine ok_iload F dX8_settles_136 5 rfl ?_
                  refine ok_iast F dX8_settles_138 sh_13 (by first | decide | assumption) (by omega) (by omega) (fun m_8 e_9 => ?_)
                  refine ok_iload_n F dX8_settles_139 3 rfl ?_
                  refine ok_iload F dX8_settles_140 5 rfl ?_
                  refine ok_aload_n F dX8_settles_142 0 rfl ?_
                  refine ok_iload F dX8_settles_143 4 rfl ?_
                  refine ok_callv F [pI k] dX8_settles_145 kM_X8_value kI_X8_value kV_X8_value kL_X8_191 (ci := 8) rfl sh_0 rfl (by decide) (Nat.le_of_ble_eq_true rfl) rfl (m_X8_value _ k m_8 (by omega)) ?_
                  rintro _ _ ⟨rfl, rfl⟩
                  refine ok_imul F dX8_settles_148 ?_
                  refine ok_isub F dX8_settles_149 ?_
                  refine ok_istore_n (lv' := [(3, pI (s - (z * (m_8 1 (3 + k).toNat)))), (0, pR 0), (1, pI p), (2, pI (m_2 12 ((4001 * (mem 1 0) + p + 2000).toNat))), (4, pI k), (5, pI z)]) F dX8_settles_150 (by decide) rfl ?_
                  refine ok_iinc (lv' := [(4, pI (k + (-1))), (3, pI (s - (z * (m_8 1 (3 + k).toNat)))), (0, pR 0), (1, pI p), (2, pI (m_2 12 ((4001 * (mem 1 0) + p + 2000).toNat))), (5, pI z)]) F dX8_settles_151 4 rfl (by decide) rfl ?_
                  refine ok_goto F 40 dX8_settles_154 (by decide) ?_
                  refine ok_lvp [2, 3, 4, 1, 0] (lv' := [(0, pR 0), (1, pI p), (2, pI (m_2 12 ((4001 * (mem 1 0) + p + 2000).toNat))), (3, pI (s - (z * (m_8 1 (3 + k).toNat)))), (4, pI (k + (-1)))]) rfl ?_
                  refine ih_40 _ ?_ (s - (z * (m_8 1 (3 + k).toNat))) (k + (-1)) m_8 ?_ rfl
                  · omega
                  · have hPz : (fun z => decide (stlT (fun i => mem 1 (3 + i)) (fun i => mem 1 (19 + i)) (fun i => mem 1 (11 + i)) k.toNat (s - z * mem 1 (3 + k.toNat)) = stlT (fun i => mem 1 (3 + i)) (fun i => mem 1 (19 + i)) (fun i => mem 1 (11 + i)) (k.toNat + 1) s - (z.natAbs : Int))) z = true := by
                      show decide (stlT (fun i => mem 1 (3 + i)) (fun i => mem 1 (19 + i)) (fun i => mem 1 (11 + i)) k.toNat (s - z * mem 1 (3 + k.toNat)) = stlT (fun i => mem 1 (3 + i)) (fun i => mem 1 (19 + i)) (fun i => mem 1 (11 + i)) (k.toNat + 1) s - (z.natAbs : Int)) = true
                      rw [decide_eq_true_eq, s3, ← e8, ← q2, ← q3]
                      omega
                    have hz : rdZ (stlT (fun i => mem 1 (3 + i)) (fun i => mem 1 (19 + i)) (fun i => mem 1 (11 + i))) (fun i => mem 1 (3 + i)) (fun i => mem 1 (19 + i)) (fun i => mem 1 (11 + i)) k.toNat s (stlT (fun i => mem 1 (3 + i)) (fun i => mem 1 (19 + i)) (fun i => mem 1 (11 + i)) (k.toNat + 1) s) = z := by rw [hTZ]; exact topZ_here hPz
                    have e9 : m_8 1 (3 + k).toNat = m8 1 (3 + k).toNat := by rw [e_9, mset_nk (by decide)]
                    have es : stlT (fun i => mem 1 (3 + i)) (fun i => mem 1 (19 + i)) (fun i => mem 1 (11 + i)) k.toNat (s - z * m8 1 (3 + k).toNat) = stlT (fun i => mem 1 (3 + i)) (fun i => mem 1 (19 + i)) (fun i => mem 1 (11 + i)) (k.toNat + 1) s - (z.natAbs : Int) := by
                      have := hPz
                      rw [decide_eq_true_eq] at this
                      rw [e8, ← s3]; exact this
                    have ek : (k + -1 + 1).toNat = k.toNat := by omega
                    rw [e9]
                    refine ⟨by omega, by omega, by omega, fun c c1 => by rw [e_9, mset_nka c1]; exact hF c c1, by rw [ek, es]; omega, fun j j1 j2 => ?_, fun j hj => ?_⟩
                    · rw [e_9]
                      by_cases e : j = k.toNat
                      · rw [e, mset_eq, hrd k.toNat (by omega), rdR_s, if_pos rfl, hz]
                      · rw [mset_ne (fun q => e q.2)]; exact hdn j (by omega) j2
                    · rw [hrd j (by omega), rdR_s, if_neg (by omega), hz, ek, ← es]
                      show rdR _ _ _ _ k.toNat (s - z * mem 1 (3 + k.toNat)) _ j = _
                      rw [s3, ← e8]
                · refine ok_iinc (lv' := [(5, pI (z + (-1))), (0, pR 0), (1, pI p), (2, pI (m_2 12 ((4001 * (mem 1 0) + p + 2000).toNat))), (3, pI s), (4, pI k)]) F dX8_settles_124 5 rfl (by decide) rfl ?_
                  refine ok_goto F 57 dX8_settles_127 (by decide) ?_
                  refine ok_lvp [1, 2, 3, 4, 5, 0] (lv' := [(0, pR 0), (1, pI p), (2, pI (m_2 12 ((4001 * (mem 1 0) + p + 2000).toNat))), (3, pI s), (4, pI k), (5, pI (z + (-1)))]) rfl ?_
                  refine ih_57 _ ?_ (z + (-1)) ?_ rfl
                  · omega
                  · have hnP : ¬ (fun z => decide (stlT (fun i => mem 1 (3 + i)) (fun i => mem 1 (19 + i)) (fun i => mem 1 (11 + i)) k.toNat (s - z * mem 1 (3 + k.toNat)) = stlT (fun i => mem 1 (3 + i)) (fun i => mem 1 (19 + i)) (fun i => mem 1 (11 + i)) (k.toNat + 1) s - (z.natAbs : Int))) z = true := by
                      show ¬ decide (stlT (fun i => mem 1 (3 + i)) (fun i => mem 1 (19 + i)) (fun i => mem 1 (11 + i)) k.toNat (s - z * mem 1 (3 + k.toNat)) = stlT (fun i => mem 1 (3 + i)) (fun i => mem 1 (19 + i)) (fun i => mem 1 (11 + i)) (k.toNat + 1) s - (z.natAbs : Int)) = true
                      rw [decide_eq_true_eq, s3, ← e8]
                      first
                        | (rw [stlT_far (k := k.toNat) (by omega)]; omega)
                        | (rw [← q2, ← q3]; omega)
                    have hw : w ≠ z := fun q => hnP (q ▸ w3)
                    refine ⟨by omega, by omega, ⟨w, w1, by omega, w3⟩, ?_⟩
                    rw [hTZ, show (z + mem 1 (11 + k).toNat).toNat = (z + -1 + mem 1 (11 + k).toNat).toNat + 1 by omega, topZ_s, if_neg hnP]
                    rfl
          refine ok_lvp [1, 2, 3, 4, 5, 0] (lv' := [(0, pR 0), (1, pI p), (2, pI (m_2 12 ((4001 * (mem 1 0) + p + 2000).toNat))), (3, pI s), (4, pI k), (5, pI (mem 1 ((19 + k).toNat)))]) rfl ?_
          refine hL_57 _ (mem 1 ((19 + k).toNat)) ?_ rfl
          obtain ⟨w, w1, w2, w3⟩ := hst.attain (k := k.toNat) (s := s) (by omega) (hV _ (by omega)).1 (hU _ (by omega)).1 (hT _ (by omega)).1 hlt
          have w1b : -(mem 1 (11 + k.toNat)) ≤ w := w1
          have w2b : w ≤ mem 1 (19 + k.toNat) := w2
          rw [s1] at w1b
          rw [s2] at w2b
          refine ⟨by omega, by omega, ⟨w, w1b, w2b, ?_⟩, ?_⟩
          · show decide (_ = _) = true
            rw [decide_eq_true_eq, w3]; omega
          · show topZ _ (mem 1 (19 + k.toNat) + mem 1 (11 + k.toNat)).toNat (mem 1 (19 + k.toNat)) = _
            rw [s1, s2]
    refine ok_lvp [3, 4, 2, 1, 0] (lv' := [(0, pR 0), (1, pI p), (2, pI (m_2 12 ((4001 * (mem 1 0) + p + 2000).toNat))), (3, pI p), (4, pI ((mem 1 0) - 1))]) rfl ?_
    refine hL_40 _ p ((mem 1 0) - 1) m_2 ?_ rfl
    rw [← hmT]
    have ek : (mem 1 0 - 1 + 1).toNat = (mem 1 0).toNat := by omega
    exact ⟨by omega, by omega, by omega, fun _ _ => rfl, by rw [ek]; exact hp2, fun j j1 j2 => by omega, fun j hj => by rw [ek]; rfl⟩
  · refine ok_iconst F dX8_settles_26 ?_
    refine ok_iret F G dX8_settles_27 ?_
    exact ⟨_, rfl, fun a a1 a2 => by rw [← hmT]; exact t1 a a1, by rw [if_neg (by omega)], fun q => by omega⟩
