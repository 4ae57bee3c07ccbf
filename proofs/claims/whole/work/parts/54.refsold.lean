/-! the reference: sold, settled -/
def rsOk (f : Nat → Int) (p : Int) (k : Nat) : Prop := f (11 + k) + rsD f p k < 100 ∧ f (19 + k) - rsD f p k < 100
/-- the row behind it, so many kinds done -/
def rsN (f : Nat → Int) (p : Int) (n : Nat) : Nat → Int := fun b => if 11 ≤ b ∧ b < 11 + n then f b + rsD f p (b - 11) else if 19 ≤ b ∧ b < 19 + n then f b - rsD f p (b - 19) else f b
theorem rsN_0 (f : Nat → Int) (p : Int) : rsN f p 0 = f := by
  funext b
  unfold rsN
  rw [if_neg (by omega), if_neg (by omega)]
theorem rsD_rng {f : Nat → Int} {p : Int} (hG : GR f) {k : Nat} (hk : (k : Int) < f 0) : -(f (11 + k)) ≤ rsD f p k ∧ rsD f p k ≤ f (19 + k) := by
  have g0 := hG.1
  exact rdR_rng _ _ (fun i hi => ⟨(hG.2.2.2.2.2.1 1 (by decide) i (by omega)).1, (hG.2.2.2.2.2.1 0 (by decide) i (by omega)).1⟩) (by omega)
theorem dX8_settle_0 : decode cX8_settle 0 = .ok (.iload_n 1, 1) := by decide +kernel
theorem dX8_settle_1 : decode cX8_settle 1 = .ok (.i2l, 1) := by decide +kernel
theorem dX8_settle_2 : decode cX8_settle 2 = .ok (.lconst 1, 1) := by decide +kernel
theorem dX8_settle_3 : decode cX8_settle 3 = .ok (.ldc2_w 230, 3) := by decide +kernel
theorem dX8_settle_6 : decode cX8_settle 6 = .ok (.invokestatic 100, 3) := by decide +kernel
theorem dX8_settle_9 : decode cX8_settle 9 = .ok (.ifCond .eq 16, 3) := by decide +kernel
theorem dX8_settle_12 : decode cX8_settle 12 = .ok (.iload_n 2, 1) := by decide +kernel
theorem dX8_settle_13 : decode cX8_settle 13 = .ok (.iconst (-1), 1) := by decide +kernel
theorem dX8_settle_14 : decode cX8_settle 14 = .ok (.if_icmp .eq 15, 3) := by decide +kernel
theorem dX8_settle_17 : decode cX8_settle 17 = .ok (.aload_n 0, 1) := by decide +kernel
theorem dX8_settle_18 : decode cX8_settle 18 = .ok (.iload_n 2, 1) := by decide +kernel
theorem dX8_settle_19 : decode cX8_settle 19 = .ok (.invokevirtual 215, 3) := by decide +kernel
theorem dX8_settle_22 : decode cX8_settle 22 = .ok (.ifCond .ne 7, 3) := by decide +kernel
theorem dX8_settle_25 : decode cX8_settle 25 = .ok (.sipush (-1000), 3) := by decide +kernel
theorem dX8_settle_28 : decode cX8_settle 28 = .ok (.ireturn, 1) := by decide +kernel
theorem dX8_settle_29 : decode cX8_settle 29 = .ok (.aload_n 0, 1) := by decide +kernel
theorem dX8_settle_30 : decode cX8_settle 30 = .ok (.iload_n 1, 1) := by decide +kernel
theorem dX8_settle_31 : decode cX8_settle 31 = .ok (.invokevirtual 252, 3) := by decide +kernel
theorem dX8_settle_34 : decode cX8_settle 34 = .ok (.istore_n 3, 1) := by decide +kernel
theorem dX8_settle_35 : decode cX8_settle 35 = .ok (.iload_n 3, 1) := by decide +kernel
theorem dX8_settle_36 : decode cX8_settle 36 = .ok (.iconst (-1), 1) := by decide +kernel
theorem dX8_settle_37 : decode cX8_settle 37 = .ok (.if_icmp .ne 8, 3) := by decide +kernel
theorem dX8_settle_40 : decode cX8_settle 40 = .ok (.bipush (-100), 2) := by decide +kernel
theorem dX8_settle_42 : decode cX8_settle 42 = .ok (.goto 18, 3) := by decide +kernel
theorem dX8_settle_45 : decode cX8_settle 45 = .ok (.iload_n 2, 1) := by decide +kernel
theorem dX8_settle_46 : decode cX8_settle 46 = .ok (.iconst (-1), 1) := by decide +kernel
theorem dX8_settle_47 : decode cX8_settle 47 = .ok (.if_icmp .ne 7, 3) := by decide +kernel
theorem dX8_settle_50 : decode cX8_settle 50 = .ok (.iload_n 3, 1) := by decide +kernel
theorem dX8_settle_51 : decode cX8_settle 51 = .ok (.goto 9, 3) := by decide +kernel
theorem dX8_settle_54 : decode cX8_settle 54 = .ok (.aload_n 0, 1) := by decide +kernel
theorem dX8_settle_55 : decode cX8_settle 55 = .ok (.getfield 49, 3) := by decide +kernel
theorem dX8_settle_58 : decode cX8_settle 58 = .ok (.iload_n 2, 1) := by decide +kernel
theorem dX8_settle_59 : decode cX8_settle 59 = .ok (.iaload, 1) := by decide +kernel
theorem dX8_settle_60 : decode cX8_settle 60 = .ok (.ireturn, 1) := by decide +kernel
set_option maxHeartbeats 4000000 in
set_option maxRecDepth 100000 in
theorem m_X8_settle (l : Launch) (p : Int) (k : Int) (mem : Mem) (hpi : i32 p) (hk : i32 k) (hG : GR (mem 1)) : Ret shp l yX8_settle cX8_settle 4 (some .int) 3 [pR 0, pI p, pI k] mem (fun rv mv => ∃ z, rv = some (pI z) ∧ (∀ a, a ≠ 12 → a ≠ 13 → mv a = mem a) ∧ z = if (1 ≤ p ∧ p ≤ 1000) ∧ (k = -1 ∨ 0 ≤ k ∧ k < mem 1 0) then (if rsV (mem 1) p < 1000000 then (if k = -1 then rsV (mem 1) p else rsD (mem 1) p k.toNat) else -100) else -1000) := by
  refine ret_of (by decide +kernel) (Nat.le_of_ble_eq_true rfl) (fun X hX F G => ?_)
  show Ok shp X 4 0 [(0, pR 0), (1, pI p), (2, pI k)] [] mem
  have g0 := hG.1
  have hV := hG.2.2.2.1
  have hV1 := hG.2.2.2.2.1
  have hT : ∀ k : Nat, k < 8 → 0 ≤ mem 1 (11 + k) ∧ mem 1 (11 + k) ≤ 99 := fun k hk => hG.2.2.2.2.2.1 0 (by decide) k hk
  have hU : ∀ k : Nat, k < 8 → 0 ≤ mem 1 (19 + k) ∧ mem 1 (19 + k) ≤ 99 := fun k hk => hG.2.2.2.2.2.1 1 (by decide) k hk
  refine ok_iload_n F dX8_settle_0 1 rfl ?_
  refine ok_i2l F dX8_settle_1 (by omega) ?_
  refine ok_lconst (z := 1) F dX8_settle_2 rfl ?_
  refine ok_ldc2 (n := 1000) F dX8_settle_3 kJ_X8_230 rfl ?_
  refine ok_calls F [pL p, pL 1, pL 1000] dX8_settle_6 kM_X8_in kS_X8_in kL_X8_100 rfl (by decide) (Nat.le_of_ble_eq_true rfl) rfl (m_X8_in _ p 1 1000 mem (by omega) (by omega) (by omega)) ?_
  rintro _ _ ⟨rfl, rfl⟩
  refine ok_if_eq F 25 dX8_settle_9 (by decide) (by omega) (fun c_1 => ?_) (fun c_1 => ?_)
  · refine ok_sipush F dX8_settle_25 rfl ?_
    refine ok_iret F G dX8_settle_28 ?_
    exact ⟨_, rfl, fun _ _ _ => rfl, by rw [if_neg (by omega)]⟩
  · refine ok_iload_n F dX8_settle_12 2 rfl ?_
    refine ok_iconst F dX8_settle_13 ?_
    refine ok_icmp_eq F 29 dX8_settle_14 (by decide) (by omega) (by omega) (fun c_2 => ?_) (fun c_2 => ?_)
    · refine ok_aload_n F dX8_settle_29 0 rfl ?_
      refine ok_iload_n F dX8_settle_30 1 rfl ?_
      refine ok_callv F [pI p] dX8_settle_31 kM_X8_settles kI_X8_settles kV_X8_settles kL_X8_252 (ci := 8) rfl sh_0 rfl (by decide) (Nat.le_of_ble_eq_true rfl) rfl (m_X8_settles _ p mem (by omega) (hG)) ?_
      rintro _ m_4 ⟨z_3, rfl, r_5⟩
      obtain ⟨k1, k2, k3⟩ := id r_5
      have kb : 0 ≤ rsV (mem 1) p ∧ rsV (mem 1) p ≤ 1000000 := stlT_bd _ _ _ _ _
      have hz0 : rsV (mem 1) p < 1000000 → z_3 = rsV (mem 1) p := fun q => by rw [k2, if_pos q]
      have hz1 : ¬ rsV (mem 1) p < 1000000 → z_3 = -1 := fun q => by rw [k2, if_neg q]
      obtain ⟨mB, hmB⟩ : ∃ x, x = m_4 := ⟨_, rfl⟩
      have kB := k1
      have kD := k3
      rw [← hmB] at kB kD
      have hrg : ∀ k : Nat, (k : Int) < mem 1 0 → -(mem 1 (11 + k)) ≤ rsD (mem 1) p k ∧ rsD (mem 1) p k ≤ mem 1 (19 + k) := fun k hk => rsD_rng hG hk
      refine ok_istore_n (lv' := [(3, pI z_3), (0, pR 0), (1, pI p), (2, pI k)]) F dX8_settle_34 (by decide) rfl ?_
      refine ok_iload_n F dX8_settle_35 0 rfl ?_
      refine ok_iconst F dX8_settle_36 ?_
      refine ok_icmp_ne F 45 dX8_settle_37 (by decide) (by omega) (by omega) (fun c_6 => ?_) (fun c_6 => ?_)
      · refine ok_iload_n F dX8_settle_45 3 rfl ?_
        refine ok_iconst F dX8_settle_46 ?_
        refine ok_icmp_ne F 54 dX8_settle_47 (by decide) (by omega) (by omega) (fun c_7 => ?_) (fun c_7 => ?_)
        · refine ok_aload_n F dX8_settle_54 1 rfl ?_
          refine ok_getr F dX8_settle_55 kF_X8_49 sh_0 rfl ?_
          refine ok_iload_n F dX8_settle_58 3 rfl ?_
          refine ok_iald (v := m_4 13 k.toNat) F dX8_settle_59 sh_13 (by first | decide | assumption) (by omega) (by omega) rfl ?_
          refine ok_iret F G dX8_settle_60 ?_
          refine ⟨_, rfl, k1, ?_⟩
          rw [if_pos (by omega)]
          first
            | (rw [if_neg (by omega)]; done)
            | (rw [if_pos (by omega), if_pos (by omega)]; exact hz0 (by omega))
            | (rw [if_pos (by omega), if_neg (by omega)]; exact k3 (by omega) k.toNat (by omega))
        · refine ok_iload_n F dX8_settle_50 0 rfl ?_
          refine ok_goto F 60 dX8_settle_51 (by decide) ?_
          refine ok_iret F G dX8_settle_60 ?_
          refine ⟨_, rfl, k1, ?_⟩
          rw [if_pos (by omega)]
          first
            | (rw [if_neg (by omega)]; done)
            | (rw [if_pos (by omega), if_pos (by omega)]; exact hz0 (by omega))
            | (rw [if_pos (by omega), if_neg (by omega)]; exact k3 (by omega) k.toNat (by omega))
      · refine ok_bipush F dX8_settle_40 rfl ?_
        refine ok_goto F 60 dX8_settle_42 (by decide) ?_
        refine ok_iret F G dX8_settle_60 ?_
        refine ⟨_, rfl, k1, ?_⟩
        rw [if_pos (by omega)]
        first
          | (rw [if_neg (by omega)]; done)
          | (rw [if_pos (by omega), if_pos (by omega)]; exact hz0 (by omega))
          | (rw [if_pos (by omega), if_neg (by omega)]; exact k3 (by omega) k.toNat (by omega))
    · refine ok_aload_n F dX8_settle_17 0 rfl ?_
      refine ok_iload_n F dX8_settle_18 2 rfl ?_
      refine ok_callv F [pI k] dX8_settle_19 kM_X8_isKind kI_X8_isKind kV_X8_isKind kL_X8_215 (ci := 8) rfl sh_0 rfl (by decide) (Nat.le_of_ble_eq_true rfl) rfl (m_X8_isKind _ k mem (by omega) (g0)) ?_
      rintro _ _ ⟨rfl, rfl⟩
      refine ok_if_ne F 29 dX8_settle_22 (by decide) (by omega) (fun c_8 => ?_) (fun c_8 => ?_)
      · refine ok_aload_n F dX8_settle_29 0 rfl ?_
        refine ok_iload_n F dX8_settle_30 1 rfl ?_
        refine ok_callv F [pI p] dX8_settle_31 kM_X8_settles kI_X8_settles kV_X8_settles kL_X8_252 (ci := 8) rfl sh_0 rfl (by decide) (Nat.le_of_ble_eq_true rfl) rfl (m_X8_settles _ p mem (by omega) (hG)) ?_
        rintro _ m_10 ⟨z_9, rfl, r_11⟩
        obtain ⟨k1, k2, k3⟩ := id r_11
        have kb : 0 ≤ rsV (mem 1) p ∧ rsV (mem 1) p ≤ 1000000 := stlT_bd _ _ _ _ _
        have hz0 : rsV (mem 1) p < 1000000 → z_9 = rsV (mem 1) p := fun q => by rw [k2, if_pos q]
        have hz1 : ¬ rsV (mem 1) p < 1000000 → z_9 = -1 := fun q => by rw [k2, if_neg q]
        obtain ⟨mB, hmB⟩ : ∃ x, x = m_10 := ⟨_, rfl⟩
        have kB := k1
        have kD := k3
        rw [← hmB] at kB kD
        have hrg : ∀ k : Nat, (k : Int) < mem 1 0 → -(mem 1 (11 + k)) ≤ rsD (mem 1) p k ∧ rsD (mem 1) p k ≤ mem 1 (19 + k) := fun k hk => rsD_rng hG hk
        refine ok_istore_n (lv' := [(3, pI z_9), (0, pR 0), (1, pI p), (2, pI k)]) F dX8_settle_34 (by decide) rfl ?_
        refine ok_iload_n F dX8_settle_35 0 rfl ?_
        refine ok_iconst F dX8_settle_36 ?_
        refine ok_icmp_ne F 45 dX8_settle_37 (by decide) (by omega) (by omega) (fun c_12 => ?_) (fun c_12 => ?_)
        · refine ok_iload_n F dX8_settle_45 3 rfl ?_
          refine ok_iconst F dX8_settle_46 ?_
          refine ok_icmp_ne F 54 dX8_settle_47 (by decide) (by omega) (by omega) (fun c_13 => ?_) (fun c_13 => ?_)
          · refine ok_aload_n F dX8_settle_54 1 rfl ?_
            refine ok_getr F dX8_settle_55 kF_X8_49 sh_0 rfl ?_
            refine ok_iload_n F dX8_settle_58 3 rfl ?_
            refine ok_iald (v := m_10 13 k.toNat) F dX8_settle_59 sh_13 (by first | decide | assumption) (by omega) (by omega) rfl ?_
            refine ok_iret F G dX8_settle_60 ?_
            refine ⟨_, rfl, k1, ?_⟩
            rw [if_pos (by omega)]
            first
              | (rw [if_neg (by omega)]; done)
              | (rw [if_pos (by omega), if_pos (by omega)]; exact hz0 (by omega))
              | (rw [if_pos (by omega), if_neg (by omega)]; exact k3 (by omega) k.toNat (by omega))
          · refine ok_iload_n F dX8_settle_50 0 rfl ?_
            refine ok_goto F 60 dX8_settle_51 (by decide) ?_
            refine ok_iret F G dX8_settle_60 ?_
            refine ⟨_, rfl, k1, ?_⟩
            rw [if_pos (by omega)]
            first
              | (rw [if_neg (by omega)]; done)
              | (rw [if_pos (by omega), if_pos (by omega)]; exact hz0 (by omega))
              | (rw [if_pos (by omega), if_neg (by omega)]; exact k3 (by omega) k.toNat (by omega))
        · refine ok_bipush F dX8_settle_40 rfl ?_
          refine ok_goto F 60 dX8_settle_42 (by decide) ?_
          refine ok_iret F G dX8_settle_60 ?_
          refine ⟨_, rfl, k1, ?_⟩
          rw [if_pos (by omega)]
          first
            | (rw [if_neg (by omega)]; done)
            | (rw [if_pos (by omega), if_pos (by omega)]; exact hz0 (by omega))
            | (rw [if_pos (by omega), if_neg (by omega)]; exact k3 (by omega) k.toNat (by omega))
      · refine ok_sipush F dX8_settle_25 rfl ?_
        refine ok_iret F G dX8_settle_28 ?_
        exact ⟨_, rfl, fun _ _ _ => rfl, by rw [if_neg (by omega)]⟩
theorem dX8_sell_0 : decode cX8_sell 0 = .ok (.iload_n 1, 1) := by decide +kernel
theorem dX8_sell_1 : decode cX8_sell 1 = .ok (.i2l, 1) := by decide +kernel
theorem dX8_sell_2 : decode cX8_sell 2 = .ok (.lconst 1, 1) := by decide +kernel
theorem dX8_sell_3 : decode cX8_sell 3 = .ok (.ldc2_w 230, 3) := by decide +kernel
theorem dX8_sell_6 : decode cX8_sell 6 = .ok (.invokestatic 100, 3) := by decide +kernel
theorem dX8_sell_9 : decode cX8_sell 9 = .ok (.ifCond .ne 5, 3) := by decide +kernel
theorem dX8_sell_12 : decode cX8_sell 12 = .ok (.iconst (-1), 1) := by decide +kernel
theorem dX8_sell_13 : decode cX8_sell 13 = .ok (.ireturn, 1) := by decide +kernel
theorem dX8_sell_14 : decode cX8_sell 14 = .ok (.aload_n 0, 1) := by decide +kernel
theorem dX8_sell_15 : decode cX8_sell 15 = .ok (.iload_n 1, 1) := by decide +kernel
theorem dX8_sell_16 : decode cX8_sell 16 = .ok (.invokevirtual 252, 3) := by decide +kernel
theorem dX8_sell_19 : decode cX8_sell 19 = .ok (.istore_n 2, 1) := by decide +kernel
theorem dX8_sell_20 : decode cX8_sell 20 = .ok (.iload_n 2, 1) := by decide +kernel
theorem dX8_sell_21 : decode cX8_sell 21 = .ok (.iconst (-1), 1) := by decide +kernel
theorem dX8_sell_22 : decode cX8_sell 22 = .ok (.if_icmp .ne 6, 3) := by decide +kernel
theorem dX8_sell_25 : decode cX8_sell 25 = .ok (.bipush (-2), 2) := by decide +kernel
theorem dX8_sell_27 : decode cX8_sell 27 = .ok (.ireturn, 1) := by decide +kernel
theorem dX8_sell_28 : decode cX8_sell 28 = .ok (.iconst 0, 1) := by decide +kernel
theorem dX8_sell_29 : decode cX8_sell 29 = .ok (.istore_n 3, 1) := by decide +kernel
theorem dX8_sell_30 : decode cX8_sell 30 = .ok (.iload_n 3, 1) := by decide +kernel
theorem dX8_sell_31 : decode cX8_sell 31 = .ok (.aload_n 0, 1) := by decide +kernel
theorem dX8_sell_32 : decode cX8_sell 32 = .ok (.getfield 9, 3) := by decide +kernel
theorem dX8_sell_35 : decode cX8_sell 35 = .ok (.iconst 0, 1) := by decide +kernel
theorem dX8_sell_36 : decode cX8_sell 36 = .ok (.iaload, 1) := by decide +kernel
theorem dX8_sell_37 : decode cX8_sell 37 = .ok (.if_icmp .ge 54, 3) := by decide +kernel
theorem dX8_sell_40 : decode cX8_sell 40 = .ok (.aload_n 0, 1) := by decide +kernel
theorem dX8_sell_41 : decode cX8_sell 41 = .ok (.getfield 9, 3) := by decide +kernel
theorem dX8_sell_44 : decode cX8_sell 44 = .ok (.bipush 11, 2) := by decide +kernel
theorem dX8_sell_46 : decode cX8_sell 46 = .ok (.iload_n 3, 1) := by decide +kernel
theorem dX8_sell_47 : decode cX8_sell 47 = .ok (.iadd, 1) := by decide +kernel
theorem dX8_sell_48 : decode cX8_sell 48 = .ok (.iaload, 1) := by decide +kernel
theorem dX8_sell_49 : decode cX8_sell 49 = .ok (.aload_n 0, 1) := by decide +kernel
theorem dX8_sell_50 : decode cX8_sell 50 = .ok (.getfield 49, 3) := by decide +kernel
theorem dX8_sell_53 : decode cX8_sell 53 = .ok (.iload_n 3, 1) := by decide +kernel
theorem dX8_sell_54 : decode cX8_sell 54 = .ok (.iaload, 1) := by decide +kernel
theorem dX8_sell_55 : decode cX8_sell 55 = .ok (.iadd, 1) := by decide +kernel
theorem dX8_sell_56 : decode cX8_sell 56 = .ok (.bipush 99, 2) := by decide +kernel
theorem dX8_sell_58 : decode cX8_sell 58 = .ok (.if_icmp .gt 24, 3) := by decide +kernel
theorem dX8_sell_61 : decode cX8_sell 61 = .ok (.aload_n 0, 1) := by decide +kernel
theorem dX8_sell_62 : decode cX8_sell 62 = .ok (.getfield 9, 3) := by decide +kernel
theorem dX8_sell_65 : decode cX8_sell 65 = .ok (.bipush 19, 2) := by decide +kernel
theorem dX8_sell_67 : decode cX8_sell 67 = .ok (.iload_n 3, 1) := by decide +kernel
theorem dX8_sell_68 : decode cX8_sell 68 = .ok (.iadd, 1) := by decide +kernel
theorem dX8_sell_69 : decode cX8_sell 69 = .ok (.iaload, 1) := by decide +kernel
theorem dX8_sell_70 : decode cX8_sell 70 = .ok (.aload_n 0, 1) := by decide +kernel
theorem dX8_sell_71 : decode cX8_sell 71 = .ok (.getfield 49, 3) := by decide +kernel
theorem dX8_sell_74 : decode cX8_sell 74 = .ok (.iload_n 3, 1) := by decide +kernel
theorem dX8_sell_75 : decode cX8_sell 75 = .ok (.iaload, 1) := by decide +kernel
theorem dX8_sell_76 : decode cX8_sell 76 = .ok (.isub, 1) := by decide +kernel
theorem dX8_sell_77 : decode cX8_sell 77 = .ok (.bipush 99, 2) := by decide +kernel
theorem dX8_sell_79 : decode cX8_sell 79 = .ok (.if_icmp .le 6, 3) := by decide +kernel
theorem dX8_sell_82 : decode cX8_sell 82 = .ok (.bipush (-3), 2) := by decide +kernel
theorem dX8_sell_84 : decode cX8_sell 84 = .ok (.ireturn, 1) := by decide +kernel
theorem dX8_sell_85 : decode cX8_sell 85 = .ok (.iinc 3 1, 3) := by decide +kernel
theorem dX8_sell_88 : decode cX8_sell 88 = .ok (.goto (-58), 3) := by decide +kernel
theorem dX8_sell_91 : decode cX8_sell 91 = .ok (.aload_n 0, 1) := by decide +kernel
theorem dX8_sell_92 : decode cX8_sell 92 = .ok (.invokevirtual 224, 3) := by decide +kernel
theorem dX8_sell_95 : decode cX8_sell 95 = .ok (.iconst 0, 1) := by decide +kernel
theorem dX8_sell_96 : decode cX8_sell 96 = .ok (.istore_n 3, 1) := by decide +kernel
theorem dX8_sell_97 : decode cX8_sell 97 = .ok (.iload_n 3, 1) := by decide +kernel
theorem dX8_sell_98 : decode cX8_sell 98 = .ok (.aload_n 0, 1) := by decide +kernel
theorem dX8_sell_99 : decode cX8_sell 99 = .ok (.getfield 9, 3) := by decide +kernel
theorem dX8_sell_102 : decode cX8_sell 102 = .ok (.iconst 0, 1) := by decide +kernel
theorem dX8_sell_103 : decode cX8_sell 103 = .ok (.iaload, 1) := by decide +kernel
theorem dX8_sell_104 : decode cX8_sell 104 = .ok (.if_icmp .ge 45, 3) := by decide +kernel
theorem dX8_sell_107 : decode cX8_sell 107 = .ok (.aload_n 0, 1) := by decide +kernel
theorem dX8_sell_108 : decode cX8_sell 108 = .ok (.getfield 9, 3) := by decide +kernel
theorem dX8_sell_111 : decode cX8_sell 111 = .ok (.bipush 11, 2) := by decide +kernel
theorem dX8_sell_113 : decode cX8_sell 113 = .ok (.iload_n 3, 1) := by decide +kernel
theorem dX8_sell_114 : decode cX8_sell 114 = .ok (.iadd, 1) := by decide +kernel
theorem dX8_sell_115 : decode cX8_sell 115 = .ok (.dup2, 1) := by decide +kernel
theorem dX8_sell_116 : decode cX8_sell 116 = .ok (.iaload, 1) := by decide +kernel
theorem dX8_sell_117 : decode cX8_sell 117 = .ok (.aload_n 0, 1) := by decide +kernel
theorem dX8_sell_118 : decode cX8_sell 118 = .ok (.getfield 49, 3) := by decide +kernel
theorem dX8_sell_121 : decode cX8_sell 121 = .ok (.iload_n 3, 1) := by decide +kernel
theorem dX8_sell_122 : decode cX8_sell 122 = .ok (.iaload, 1) := by decide +kernel
theorem dX8_sell_123 : decode cX8_sell 123 = .ok (.iadd, 1) := by decide +kernel
theorem dX8_sell_124 : decode cX8_sell 124 = .ok (.iastore, 1) := by decide +kernel
theorem dX8_sell_125 : decode cX8_sell 125 = .ok (.aload_n 0, 1) := by decide +kernel
theorem dX8_sell_126 : decode cX8_sell 126 = .ok (.getfield 9, 3) := by decide +kernel
theorem dX8_sell_129 : decode cX8_sell 129 = .ok (.bipush 19, 2) := by decide +kernel
theorem dX8_sell_131 : decode cX8_sell 131 = .ok (.iload_n 3, 1) := by decide +kernel
theorem dX8_sell_132 : decode cX8_sell 132 = .ok (.iadd, 1) := by decide +kernel
theorem dX8_sell_133 : decode cX8_sell 133 = .ok (.dup2, 1) := by decide +kernel
theorem dX8_sell_134 : decode cX8_sell 134 = .ok (.iaload, 1) := by decide +kernel
theorem dX8_sell_135 : decode cX8_sell 135 = .ok (.aload_n 0, 1) := by decide +kernel
theorem dX8_sell_136 : decode cX8_sell 136 = .ok (.getfield 49, 3) := by decide +kernel
theorem dX8_sell_139 : decode cX8_sell 139 = .ok (.iload_n 3, 1) := by decide +kernel
theorem dX8_sell_140 : decode cX8_sell 140 = .ok (.iaload, 1) := by decide +kernel
theorem dX8_sell_141 : decode cX8_sell 141 = .ok (.isub, 1) := by decide +kernel
theorem dX8_sell_142 : decode cX8_sell 142 = .ok (.iastore, 1) := by decide +kernel
theorem dX8_sell_143 : decode cX8_sell 143 = .ok (.iinc 3 1, 3) := by decide +kernel
theorem dX8_sell_146 : decode cX8_sell 146 = .ok (.goto (-49), 3) := by decide +kernel
theorem dX8_sell_149 : decode cX8_sell 149 = .ok (.iload_n 2, 1) := by decide +kernel
theorem dX8_sell_150 : decode cX8_sell 150 = .ok (.ireturn, 1) := by decide +kernel
set_option maxHeartbeats 4000000 in
set_option maxRecDepth 100000 in
theorem m_X8_sell (l : Launch) (p : Int) (mem : Mem) (hpi : i32 p) (hP : 0 ≤ mem 0 5 ∧ mem 0 5 ≤ 10) (hG : GR (mem 1)) : Ret shp l yX8_sell cX8_sell 4 (some .int) 3 [pR 0, pI p] mem (fun rv mv => ∃ z, rv = some (pI z) ∧ ((¬ (1 ≤ p ∧ p ≤ 1000) ∧ z = -1 ∨ (1 ≤ p ∧ p ≤ 1000) ∧ ¬ rsV (mem 1) p < 1000000 ∧ z = -2 ∨ (1 ≤ p ∧ p ≤ 1000) ∧ rsV (mem 1) p < 1000000 ∧ (∃ k : Nat, (k : Int) < mem 1 0 ∧ ¬ rsOk (mem 1) p k) ∧ z = -3) ∧ (∀ a, a ≠ 12 → a ≠ 13 → mv a = mem a) ∨ (1 ≤ p ∧ p ≤ 1000) ∧ rsV (mem 1) p < 1000000 ∧ (∀ k : Nat, (k : Int) < mem 1 0 → rsOk (mem 1) p k) ∧ z = rsV (mem 1) p ∧ ∃ mS m1, (∀ a, a ≠ 12 → a ≠ 13 → mS a = mem a) ∧ PastPush mS m1 ∧ (∀ a, a ≠ 1 → mv a = m1 a) ∧ mv 1 = rsN (mem 1) p (mem 1 0).toNat)) := by
  refine ret_of (by decide +kernel) (Nat.le_of_ble_eq_true rfl) (fun X hX F G => ?_)
  show Ok shp X 4 0 [(0, pR 0), (1, pI p)] [] mem
  have g0 := hG.1
  have hV := hG.2.2.2.1
  have hV1 := hG.2.2.2.2.1
  have hT : ∀ k : Nat, k < 8 → 0 ≤ mem 1 (11 + k) ∧ mem 1 (11 + k) ≤ 99 := fun k hk => hG.2.2.2.2.2.1 0 (by decide) k hk
  have hU : ∀ k : Nat, k < 8 → 0 ≤ mem 1 (19 + k) ∧ mem 1 (19 + k) ≤ 99 := fun k hk => hG.2.2.2.2.2.1 1 (by decide) k hk
  refine ok_iload_n F dX8_sell_0 1 rfl ?_
  refine ok_i2l F dX8_sell_1 (by omega) ?_
  refine ok_lconst (z := 1) F dX8_sell_2 rfl ?_
  refine ok_ldc2 (n := 1000) F dX8_sell_3 kJ_X8_230 rfl ?_
  refine ok_calls F [pL p, pL 1, pL 1000] dX8_sell_6 kM_X8_in kS_X8_in kL_X8_100 rfl (by decide) (Nat.le_of_ble_eq_true rfl) rfl (m_X8_in _ p 1 1000 mem (by omega) (by omega) (by omega)) ?_
  rintro _ _ ⟨rfl, rfl⟩
  refine ok_if_ne F 14 dX8_sell_9 (by decide) (by omega) (fun c_1 => ?_) (fun c_1 => ?_)
  · refine ok_aload_n F dX8_sell_14 0 rfl ?_
    refine ok_iload_n F dX8_sell_15 1 rfl ?_
    refine ok_callv F [pI p] dX8_sell_16 kM_X8_settles kI_X8_settles kV_X8_settles kL_X8_252 (ci := 8) rfl sh_0 rfl (by decide) (Nat.le_of_ble_eq_true rfl) rfl (m_X8_settles _ p mem (by omega) (hG)) ?_
    rintro _ m_3 ⟨z_2, rfl, r_4⟩
    obtain ⟨k1, k2, k3⟩ := id r_4
    have kb : 0 ≤ rsV (mem 1) p ∧ rsV (mem 1) p ≤ 1000000 := stlT_bd _ _ _ _ _
    have hz0 : rsV (mem 1) p < 1000000 → z_2 = rsV (mem 1) p := fun q => by rw [k2, if_pos q]
    have hz1 : ¬ rsV (mem 1) p < 1000000 → z_2 = -1 := fun q => by rw [k2, if_neg q]
    obtain ⟨mB, hmB⟩ : ∃ x, x = m_3 := ⟨_, rfl⟩
    have kB := k1
    have kD := k3
    rw [← hmB] at kB kD
    have hrg : ∀ k : Nat, (k : Int) < mem 1 0 → -(mem 1 (11 + k)) ≤ rsD (mem 1) p k ∧ rsD (mem 1) p k ≤ mem 1 (19 + k) := fun k hk => rsD_rng hG hk
    refine ok_istore_n (lv' := [(2, pI z_2), (0, pR 0), (1, pI p)]) F dX8_sell_19 (by decide) rfl ?_
    refine ok_iload_n F dX8_sell_20 0 rfl ?_
    refine ok_iconst F dX8_sell_21 ?_
    refine ok_icmp_ne F 28 dX8_sell_22 (by decide) (by omega) (by omega) (fun c_5 => ?_) (fun c_5 => ?_)
    · have hT1 : rsV (mem 1) p < 1000000 := by
        by_cases q : rsV (mem 1) p < 1000000
        · exact q
        · exact absurd (hz1 q) (by omega)
      have hz := hz0 hT1
      refine ok_iconst F dX8_sell_28 ?_
      refine ok_istore_n (lv' := [(3, pI 0), (2, pI z_2), (0, pR 0), (1, pI p)]) F dX8_sell_29 (by decide) rfl ?_
      have hL_30 : ∀ (n_30 : Nat) (k : Int), (0 ≤ k ∧ k ≤ mem 1 0 ∧ ∀ i : Nat, (i : Int) < k → rsOk (mem 1) p i) → (mem 1 0 - k).toNat = n_30 → Ok shp X 4 30 [(0, pR 0), (1, pI p), (2, pI z_2), (3, pI k)] [] m_3 := by
        intro n_30
        induction n_30 using Nat.strongRecOn with
        | _ n_30 ih_30 =>
          intro k hI_30 hn_30
          refine ok_iload_n F dX8_sell_30 3 rfl ?_
          refine ok_aload_n F dX8_sell_31 0 rfl ?_
          refine ok_getr F dX8_sell_32 kF_X8_9 sh_0 rfl ?_
          refine ok_iconst F dX8_sell_35 ?_
          refine ok_iald (v := mem 1 0) F dX8_sell_36 sh_1 (by first | decide | assumption) (by omega) (by omega) (by rw [(r_4.1 1 (by decide) (by decide))] <;> rfl) ?_
          refine ok_icmp_ge F 91 dX8_sell_37 (by decide) (by omega) (by omega) (fun c_6 => ?_) (fun c_6 => ?_)
          · refine ok_aload_n F dX8_sell_91 0 rfl ?_
            refine ok_callv F [] dX8_sell_92 kM_X8_keepsPast kI_X8_keepsPast kV_X8_keepsPast kL_X8_224 (ci := 8) rfl sh_0 rfl (by decide) (Nat.le_of_ble_eq_true rfl) rfl (m_X8_keepsPast _ m_3 (by rw [k1 0 (by decide) (by decide)]; exact hP)) ?_
            rintro _ m_8 ⟨rfl, r_9⟩
            obtain ⟨m9, hm9⟩ : ∃ x, x = m_8 := ⟨_, rfl⟩
            have hPP : PastPush mB m9 := by rw [hm9, hmB]; exact r_9
            have h91 : m9 1 = mem 1 := by rw [PastPush.now hPP, kB 1 (by decide) (by decide)]
            have h9o : ∀ a, a ≠ 0 → a ≠ 3 → m9 a = mB a := hPP.1
            refine ok_iconst F dX8_sell_95 ?_
            refine ok_istore_n (lv' := [(3, pI 0), (0, pR 0), (1, pI p), (2, pI z_2)]) F dX8_sell_96 (by decide) rfl ?_
            have hL_97 : ∀ (n_97 : Nat) (j : Int) (m : Mem), (0 ≤ j ∧ j ≤ mem 1 0 ∧ (∀ c, c ≠ 1 → m c = m9 c) ∧ m 1 = rsN (mem 1) p j.toNat) → (mem 1 0 - j).toNat = n_97 → Ok shp X 4 97 [(0, pR 0), (1, pI p), (2, pI z_2), (3, pI j)] [] m := by
              intro n_97
              induction n_97 using Nat.strongRecOn with
              | _ n_97 ih_97 =>
                intro j m hI_97 hn_97
                obtain ⟨hj0, hj1, hF, hR⟩ := hI_97
                have hN0 : m 1 0 = mem 1 0 := by rw [hR]; unfold rsN; rw [if_neg (by omega), if_neg (by omega)]
                refine ok_iload_n F dX8_sell_97 3 rfl ?_
                refine ok_aload_n F dX8_sell_98 0 rfl ?_
                refine ok_getr F dX8_sell_99 kF_X8_9 sh_0 rfl ?_
                refine ok_iconst F dX8_sell_102 ?_
                refine ok_iald (v := m 1 0) F dX8_sell_103 sh_1 (by first | decide | assumption) (by omega) (by omega) rfl ?_
                refine ok_icmp_ge F 149 dX8_sell_104 (by decide) (by omega) (by omega) (fun c_10 => ?_) (fun c_10 => ?_)
                · refine ok_iload_n F dX8_sell_149 2 rfl ?_
                  refine ok_iret F G dX8_sell_150 ?_
                  refine ⟨_, rfl, Or.inr ⟨by omega, hT1, fun i hi => hI_30.2.2 i (by omega), hz, mB, m9, kB, hPP, hF, ?_⟩⟩
                  rw [hR, show j = mem 1 0 by omega]
                · have a1 := hT j.toNat (by omega)
                  have a2 := hU j.toNat (by omega)
                  have a3 := kD hT1 j.toNat (by omega)
                  have a4 := hrg j.toNat (by omega)
                  have s1 : 11 + j.toNat = (11 + j).toNat := by omega
                  have s2 : 19 + j.toNat = (19 + j).toNat := by omega
                  have okd : rsOk (mem 1) p j.toNat ↔ mem 1 (11 + j.toNat) + rsD (mem 1) p j.toNat < 100 ∧ mem 1 (19 + j.toNat) - rsD (mem 1) p j.toNat < 100 := Iff.rfl
                  rw [s1] at a1 a4 okd
                  rw [s2] at a2 a4 okd
                  have b2 : m 13 j.toNat = rsD (mem 1) p j.toNat := by rw [hF 13 (by decide), h9o 13 (by decide) (by decide), a3]
                  have b1 : m 1 (11 + j).toNat = mem 1 (11 + j).toNat := by rw [← s1, hR]; unfold rsN; rw [if_neg (by omega), if_neg (by omega)]
                  have b3 : m 1 (19 + j).toNat = mem 1 (19 + j).toNat := by rw [← s2, hR]; unfold rsN; rw [if_neg (by omega), if_neg (by omega)]
                  refine ok_aload_n F dX8_sell_107 0 rfl ?_
                  refine ok_getr F dX8_sell_108 kF_X8_9 sh_0 rfl ?_
                  refine ok_bipush F dX8_sell_111 rfl ?_
                  refine ok_iload_n F dX8_sell_113 3 rfl ?_
                  refine ok_iadd F dX8_sell_114 ?_
                  refine ok_dup2 F dX8_sell_115 rfl rfl ?_
                  refine ok_iald (v := m 1 ((11 + j).toNat)) F dX8_sell_116 sh_1 (by first | decide | assumption) (by omega) (by omega) rfl ?_
                  refine ok_aload_n F dX8_sell_117 0 rfl ?_
                  refine ok_getr F dX8_sell_118 kF_X8_49 sh_0 rfl ?_
                  refine ok_iload_n F dX8_sell_121 3 rfl ?_
                  refine ok_iald (v := m 13 j.toNat) F dX8_sell_122 sh_13 (by first | decide | assumption) (by omega) (by omega) rfl ?_
                  refine ok_iadd F dX8_sell_123 ?_
                  refine ok_iast F dX8_sell_124 sh_1 (by first | decide | assumption) (by omega) (by omega) (fun m_11 e_12 => ?_)
                  refine ok_aload_n F dX8_sell_125 0 rfl ?_
                  refine ok_getr F dX8_sell_126 kF_X8_9 sh_0 rfl ?_
                  refine ok_bipush F dX8_sell_129 rfl ?_
                  refine ok_iload_n F dX8_sell_131 3 rfl ?_
                  refine ok_iadd F dX8_sell_132 ?_
                  refine ok_dup2 F dX8_sell_133 rfl rfl ?_
                  refine ok_iald (v := m_11 1 ((19 + j).toNat)) F dX8_sell_134 sh_1 (by first | decide | assumption) (by omega) (by omega) rfl ?_
                  refine ok_aload_n F dX8_sell_135 0 rfl ?_
                  refine ok_getr F dX8_sell_136 kF_X8_49 sh_0 rfl ?_
                  refine ok_iload_n F dX8_sell_139 3 rfl ?_
                  refine ok_iald (v := m 13 j.toNat) F dX8_sell_140 sh_13 (by first | decide | assumption) (by omega) (by omega) (by rw [e_12, mset_nk (by decide)] <;> rfl) ?_
                  refine ok_isub F dX8_sell_141 ?_
                  refine ok_iast F dX8_sell_142 sh_1 (by first | decide | assumption) (by omega) (by omega) (fun m_13 e_14 => ?_)
                  refine ok_iinc (lv' := [(3, pI (j + 1)), (0, pR 0), (1, pI p), (2, pI z_2)]) F dX8_sell_143 3 rfl (by decide) rfl ?_
                  refine ok_goto F 97 dX8_sell_146 (by decide) ?_
                  refine ok_lvp [1, 2, 3, 0] (lv' := [(0, pR 0), (1, pI p), (2, pI z_2), (3, pI (j + 1))]) rfl ?_
                  refine ih_97 _ ?_ (j + 1) m_13 ?_ rfl
                  · omega
                  · refine ⟨by omega, by omega, fun c c1 => by rw [e_14, e_12, mset_nka c1, mset_nka c1]; exact hF c c1, ?_⟩
                    funext b
                    rw [e_14, e_12, show (j + 1).toNat = j.toNat + 1 by omega]
                    by_cases z2 : b = (19 + j).toNat
                    · rw [z2, mset_eq]; unfold rsN; rw [if_neg (by omega), if_pos (by omega), show (19 + j).toNat - 19 = j.toNat by omega, mset_ne (by omega)]; omega
                    · rw [mset_ne (fun q => z2 q.2)]
                      by_cases z1 : b = (11 + j).toNat
                      · rw [z1, mset_eq]; unfold rsN; rw [if_pos (by omega), show (11 + j).toNat - 11 = j.toNat by omega]; omega
                      · rw [mset_ne (fun q => z1 q.2), hR]; unfold rsN
                        by_cases y1 : 11 ≤ b ∧ b < 11 + j.toNat
                        · rw [if_pos y1, if_pos (show 11 ≤ b ∧ b < 11 + (j.toNat + 1) by omega)]
                        · rw [if_neg y1, if_neg (show ¬ (11 ≤ b ∧ b < 11 + (j.toNat + 1)) by omega)]
                          by_cases y2 : 19 ≤ b ∧ b < 19 + j.toNat
                          · rw [if_pos y2, if_pos (show 19 ≤ b ∧ b < 19 + (j.toNat + 1) by omega)]
                          · rw [if_neg y2, if_neg (show ¬ (19 ≤ b ∧ b < 19 + (j.toNat + 1)) by omega)]
            refine ok_lvp [1, 2, 3, 0] (lv' := [(0, pR 0), (1, pI p), (2, pI z_2), (3, pI 0)]) rfl ?_
            refine hL_97 _ 0 m_8 ?_ rfl
            rw [← hm9]
            exact ⟨by omega, by omega, fun _ _ => rfl, by rw [h91]; exact (rsN_0 _ _).symm⟩
          · have a1 := hT k.toNat (by omega)
            have a2 := hU k.toNat (by omega)
            have a3 := kD hT1 k.toNat (by omega)
            have a4 := hrg k.toNat (by omega)
            have s1 : 11 + k.toNat = (11 + k).toNat := by omega
            have s2 : 19 + k.toNat = (19 + k).toNat := by omega
            have okd : rsOk (mem 1) p k.toNat ↔ mem 1 (11 + k.toNat) + rsD (mem 1) p k.toNat < 100 ∧ mem 1 (19 + k.toNat) - rsD (mem 1) p k.toNat < 100 := Iff.rfl
            rw [s1] at a1 a4 okd
            rw [s2] at a2 a4 okd
            rw [hmB] at a3
            refine ok_aload_n F dX8_sell_40 0 rfl ?_
            refine ok_getr F dX8_sell_41 kF_X8_9 sh_0 rfl ?_
            refine ok_bipush F dX8_sell_44 rfl ?_
            refine ok_iload_n F dX8_sell_46 3 rfl ?_
            refine ok_iadd F dX8_sell_47 ?_
            refine ok_iald (v := mem 1 ((11 + k).toNat)) F dX8_sell_48 sh_1 (by first | decide | assumption) (by omega) (by omega) (by rw [(r_4.1 1 (by decide) (by decide))] <;> rfl) ?_
            refine ok_aload_n F dX8_sell_49 0 rfl ?_
            refine ok_getr F dX8_sell_50 kF_X8_49 sh_0 rfl ?_
            refine ok_iload_n F dX8_sell_53 3 rfl ?_
            refine ok_iald (v := m_3 13 k.toNat) F dX8_sell_54 sh_13 (by first | decide | assumption) (by omega) (by omega) rfl ?_
            refine ok_iadd F dX8_sell_55 ?_
            refine ok_bipush F dX8_sell_56 rfl ?_
            refine ok_icmp_gt F 82 dX8_sell_58 (by decide) (by omega) (by omega) (fun c_15 => ?_) (fun c_15 => ?_)
            · refine ok_bipush F dX8_sell_82 rfl ?_
              refine ok_iret F G dX8_sell_84 ?_
              exact ⟨_, rfl, Or.inl ⟨Or.inr (Or.inr ⟨by omega, hT1, ⟨k.toNat, by omega, fun q => by have q1 := okd.mp q; omega⟩, rfl⟩), k1⟩⟩
            · refine ok_aload_n F dX8_sell_61 0 rfl ?_
              refine ok_getr F dX8_sell_62 kF_X8_9 sh_0 rfl ?_
              refine ok_bipush F dX8_sell_65 rfl ?_
              refine ok_iload_n F dX8_sell_67 3 rfl ?_
              refine ok_iadd F dX8_sell_68 ?_
              refine ok_iald (v := mem 1 ((19 + k).toNat)) F dX8_sell_69 sh_1 (by first | decide | assumption) (by omega) (by omega) (by rw [(r_4.1 1 (by decide) (by decide))] <;> rfl) ?_
              refine ok_aload_n F dX8_sell_70 0 rfl ?_
              refine ok_getr F dX8_sell_71 kF_X8_49 sh_0 rfl ?_
              refine ok_iload_n F dX8_sell_74 3 rfl ?_
              refine ok_iald (v := m_3 13 k.toNat) F dX8_sell_75 sh_13 (by first | decide | assumption) (by omega) (by omega) rfl ?_
              refine ok_isub F dX8_sell_76 ?_
              refine ok_bipush F dX8_sell_77 rfl ?_
              refine ok_icmp_le F 85 dX8_sell_79 (by decide) (by omega) (by omega) (fun c_16 => ?_) (fun c_16 => ?_)
              · refine ok_iinc (lv' := [(3, pI (k + 1)), (0, pR 0), (1, pI p), (2, pI z_2)]) F dX8_sell_85 3 rfl (by decide) rfl ?_
                refine ok_goto F 30 dX8_sell_88 (by decide) ?_
                refine ok_lvp [1, 2, 3, 0] (lv' := [(0, pR 0), (1, pI p), (2, pI z_2), (3, pI (k + 1))]) rfl ?_
                refine ih_30 _ ?_ (k + 1) ?_ rfl
                · omega
                · refine ⟨by omega, by omega, fun i hi => ?_⟩
                  by_cases e : (i : Int) < k
                  · exact hI_30.2.2 i e
                  · rw [show i = k.toNat by omega]; exact okd.mpr ⟨by omega, by omega⟩
              · refine ok_bipush F dX8_sell_82 rfl ?_
                refine ok_iret F G dX8_sell_84 ?_
                exact ⟨_, rfl, Or.inl ⟨Or.inr (Or.inr ⟨by omega, hT1, ⟨k.toNat, by omega, fun q => by have q1 := okd.mp q; omega⟩, rfl⟩), k1⟩⟩
      refine ok_lvp [2, 3, 1, 0] (lv' := [(0, pR 0), (1, pI p), (2, pI z_2), (3, pI 0)]) rfl ?_
      refine hL_30 _ 0 ?_ rfl
      exact ⟨by omega, by omega, fun i hi => by omega⟩
    · refine ok_bipush F dX8_sell_25 rfl ?_
      refine ok_iret F G dX8_sell_27 ?_
      exact ⟨_, rfl, Or.inl ⟨Or.inr (Or.inl ⟨by omega, fun q => absurd (hz0 q) (by omega), rfl⟩), k1⟩⟩
  · refine ok_iconst F dX8_sell_12 ?_
    refine ok_iret F G dX8_sell_13 ?_
    exact ⟨_, rfl, Or.inl ⟨Or.inl ⟨by omega, rfl⟩, fun _ _ _ => rfl⟩⟩
