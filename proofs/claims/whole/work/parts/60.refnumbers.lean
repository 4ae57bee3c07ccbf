/-! the reference: a number asked for -/
theorem dX8_number_0 : decode cX8_number 0 = .ok (.aload_n 0, 1) := by decide +kernel
theorem dX8_number_1 : decode cX8_number 1 = .ok (.invokevirtual 89, 3) := by decide +kernel
theorem dX8_number_4 : decode cX8_number 4 = .ok (.ifCond .eq 10, 3) := by decide +kernel
theorem dX8_number_7 : decode cX8_number 7 = .ok (.aload_n 0, 1) := by decide +kernel
theorem dX8_number_8 : decode cX8_number 8 = .ok (.invokevirtual 117, 3) := by decide +kernel
theorem dX8_number_11 : decode cX8_number 11 = .ok (.ifCond .ne 14, 3) := by decide +kernel
theorem dX8_number_14 : decode cX8_number 14 = .ok (.aload_n 0, 1) := by decide +kernel
theorem dX8_number_15 : decode cX8_number 15 = .ok (.iconst 1, 1) := by decide +kernel
theorem dX8_number_16 : decode cX8_number 16 = .ok (.aload_n 0, 1) := by decide +kernel
theorem dX8_number_17 : decode cX8_number 17 = .ok (.getfield 79, 3) := by decide +kernel
theorem dX8_number_20 : decode cX8_number 20 = .ok (.invokevirtual 120, 3) := by decide +kernel
theorem dX8_number_23 : decode cX8_number 23 = .ok (.iconst 0, 1) := by decide +kernel
theorem dX8_number_24 : decode cX8_number 24 = .ok (.ireturn, 1) := by decide +kernel
theorem dX8_number_25 : decode cX8_number 25 = .ok (.aload_n 0, 1) := by decide +kernel
theorem dX8_number_26 : decode cX8_number 26 = .ok (.aload_n 0, 1) := by decide +kernel
theorem dX8_number_27 : decode cX8_number 27 = .ok (.getfield 79, 3) := by decide +kernel
theorem dX8_number_30 : decode cX8_number 30 = .ok (.putfield 124, 3) := by decide +kernel
theorem dX8_number_33 : decode cX8_number 33 = .ok (.iconst 0, 1) := by decide +kernel
theorem dX8_number_34 : decode cX8_number 34 = .ok (.istore_n 3, 1) := by decide +kernel
theorem dX8_number_35 : decode cX8_number 35 = .ok (.aload_n 0, 1) := by decide +kernel
theorem dX8_number_36 : decode cX8_number 36 = .ok (.invokevirtual 82, 3) := by decide +kernel
theorem dX8_number_39 : decode cX8_number 39 = .ok (.i2l, 1) := by decide +kernel
theorem dX8_number_40 : decode cX8_number 40 = .ok (.ldc2_w 113, 3) := by decide +kernel
theorem dX8_number_43 : decode cX8_number 43 = .ok (.ldc2_w 115, 3) := by decide +kernel
theorem dX8_number_46 : decode cX8_number 46 = .ok (.invokestatic 100, 3) := by decide +kernel
theorem dX8_number_49 : decode cX8_number 49 = .ok (.ifCond .eq 34, 3) := by decide +kernel
theorem dX8_number_52 : decode cX8_number 52 = .ok (.ldc 127, 2) := by decide +kernel
theorem dX8_number_54 : decode cX8_number 54 = .ok (.bipush 10, 2) := by decide +kernel
theorem dX8_number_56 : decode cX8_number 56 = .ok (.iload_n 3, 1) := by decide +kernel
theorem dX8_number_57 : decode cX8_number 57 = .ok (.imul, 1) := by decide +kernel
theorem dX8_number_58 : decode cX8_number 58 = .ok (.aload_n 0, 1) := by decide +kernel
theorem dX8_number_59 : decode cX8_number 59 = .ok (.invokevirtual 82, 3) := by decide +kernel
theorem dX8_number_62 : decode cX8_number 62 = .ok (.iadd, 1) := by decide +kernel
theorem dX8_number_63 : decode cX8_number 63 = .ok (.bipush 48, 2) := by decide +kernel
theorem dX8_number_65 : decode cX8_number 65 = .ok (.isub, 1) := by decide +kernel
theorem dX8_number_66 : decode cX8_number 66 = .ok (.invokestatic 128, 3) := by decide +kernel
theorem dX8_number_69 : decode cX8_number 69 = .ok (.istore_n 3, 1) := by decide +kernel
theorem dX8_number_70 : decode cX8_number 70 = .ok (.aload_n 0, 1) := by decide +kernel
theorem dX8_number_71 : decode cX8_number 71 = .ok (.dup, 1) := by decide +kernel
theorem dX8_number_72 : decode cX8_number 72 = .ok (.getfield 79, 3) := by decide +kernel
theorem dX8_number_75 : decode cX8_number 75 = .ok (.iconst 1, 1) := by decide +kernel
theorem dX8_number_76 : decode cX8_number 76 = .ok (.iadd, 1) := by decide +kernel
theorem dX8_number_77 : decode cX8_number 77 = .ok (.putfield 79, 3) := by decide +kernel
theorem dX8_number_80 : decode cX8_number 80 = .ok (.goto (-45), 3) := by decide +kernel
theorem dX8_number_83 : decode cX8_number 83 = .ok (.iload_n 3, 1) := by decide +kernel
theorem dX8_number_84 : decode cX8_number 84 = .ok (.i2l, 1) := by decide +kernel
theorem dX8_number_85 : decode cX8_number 85 = .ok (.iload_n 1, 1) := by decide +kernel
theorem dX8_number_86 : decode cX8_number 86 = .ok (.i2l, 1) := by decide +kernel
theorem dX8_number_87 : decode cX8_number 87 = .ok (.iload_n 2, 1) := by decide +kernel
theorem dX8_number_88 : decode cX8_number 88 = .ok (.i2l, 1) := by decide +kernel
theorem dX8_number_89 : decode cX8_number 89 = .ok (.invokestatic 100, 3) := by decide +kernel
theorem dX8_number_92 : decode cX8_number 92 = .ok (.ifCond .ne 12, 3) := by decide +kernel
theorem dX8_number_95 : decode cX8_number 95 = .ok (.aload_n 0, 1) := by decide +kernel
theorem dX8_number_96 : decode cX8_number 96 = .ok (.iconst 2, 1) := by decide +kernel
theorem dX8_number_97 : decode cX8_number 97 = .ok (.aload_n 0, 1) := by decide +kernel
theorem dX8_number_98 : decode cX8_number 98 = .ok (.getfield 124, 3) := by decide +kernel
theorem dX8_number_101 : decode cX8_number 101 = .ok (.invokevirtual 120, 3) := by decide +kernel
theorem dX8_number_104 : decode cX8_number 104 = .ok (.iload_n 3, 1) := by decide +kernel
theorem dX8_number_105 : decode cX8_number 105 = .ok (.ireturn, 1) := by decide +kernel
set_option maxHeartbeats 4000000 in
set_option maxRecDepth 100000 in
theorem m_X8_number (l : Launch) (lo : Int) (hi : Int) (mem : Mem) (hlo : i32 lo) (hhi : i32 hi) (hT : 0 ≤ mem 0 7 ∧ mem 0 7 ≤ 400) (hA : 0 ≤ mem 0 8 ∧ mem 0 8 ≤ 400) (hFl : i32 (mem 0 9)) : Ret shp l yX8_number cX8_number 4 (some .int) 3 [pR 0, pI lo, pI hi] mem (fun rv mv => ∃ z, rv = some (pI z) ∧ (∀ a, a ≠ 0 → mv a = mem a) ∧ (∀ j, j ≠ 8 → j ≠ 9 → j ≠ 10 → mv 0 j = mem 0 j) ∧ (z, mv 0 8, mv 0 9, mv 0 10) = numR mem lo hi) := by
  refine ret_of (by decide +kernel) (Nat.le_of_ble_eq_true rfl) (fun X hX F G => ?_)
  show Ok shp X 4 0 [(0, pR 0), (1, pI lo), (2, pI hi)] [] mem
  have hsk := skipF_bd (mem := mem) hT.2 401 (p := mem 0 8) hA
  have hsb := sgn_bd mem (skipF mem 401 (mem 0 8))
  refine ok_aload_n F dX8_number_0 0 rfl ?_
  refine ok_callv F [] dX8_number_1 kM_X8_isRight kI_X8_isRight kV_X8_isRight kL_X8_89 (ci := 8) rfl sh_0 rfl (by decide) (Nat.le_of_ble_eq_true rfl) rfl (m_X8_isRight _ mem (by omega)) ?_
  rintro _ _ ⟨rfl, rfl⟩
  refine ok_if_eq F 14 dX8_number_4 (by decide) (by omega) (fun c_1 => ?_) (fun c_1 => ?_)
  · refine ok_aload_n F dX8_number_14 0 rfl ?_
    refine ok_iconst F dX8_number_15 ?_
    refine ok_aload_n F dX8_number_16 0 rfl ?_
    refine ok_getf (v := mem 0 8) F dX8_number_17 kF_X8_79 sh_0 rfl rfl ?_
    refine ok_callv F [pI 1, pI (mem 0 8)] dX8_number_20 kM_X8_fails kI_X8_fails kV_X8_fails kL_X8_120 (ci := 8) rfl sh_0 rfl (by decide) (Nat.le_of_ble_eq_true rfl) rfl (m_X8_fails _ 1 (mem 0 8) mem (by first | exact hFl | (rw [dj 9 (by decide)]; exact hFl))) ?_
    rintro _ m_2 ⟨rfl, e_3⟩
    have eF := e_3
    refine ok_iconst F dX8_number_23 ?_
    refine ok_iret F G dX8_number_24 ?_
    first
      | (rw [if_neg (by omega)] at eF
         subst eF
         refine ⟨_, rfl, fun _ _ => rfl, fun _ _ _ _ => rfl, ?_⟩
         unfold numR
         rw [if_pos (by omega)])
      | (rw [dj 9 (by decide), if_pos (by omega), d8] at eF
         refine ⟨_, rfl, fun a ha => by rw [eF, mset_nka ha]; exact da a ha, fun j j1 j2 j3 => by rw [eF, mset_ne (fun q => j2 q.2)]; exact dj j j1, ?_⟩
         unfold numR
         rw [if_neg (by omega), if_neg (by omega), eF, mset_eq, mset_ne (by decide), mset_ne (by decide), d8, dj 10 (by decide)])
  · refine ok_aload_n F dX8_number_7 0 rfl ?_
    refine ok_callv F [] dX8_number_8 kM_X8_isDigit kI_X8_isDigit kV_X8_isDigit kL_X8_117 (ci := 8) rfl sh_0 rfl (by decide) (Nat.le_of_ble_eq_true rfl) rfl (m_X8_isDigit _ mem (by omega) (by omega)) ?_
    rintro _ m_4 ⟨rfl, e_5⟩
    have eD := e_5
    have d8 : m_4 0 8 = skipF mem 401 (mem 0 8) := by rw [eD]; exact mset_eq _ _ _ _
    have dj : ∀ j, j ≠ 8 → m_4 0 j = mem 0 j := fun j hj => by rw [eD]; exact mset_ne (fun q => hj q.2)
    have da : ∀ a, a ≠ 0 → m_4 a = mem a := fun a ha => by rw [eD]; exact mset_nka ha
    refine ok_if_ne F 25 dX8_number_11 (by decide) (by omega) (fun c_6 => ?_) (fun c_6 => ?_)
    · refine ok_aload_n F dX8_number_25 0 rfl ?_
      refine ok_aload_n F dX8_number_26 0 rfl ?_
      refine ok_getf (v := m_4 0 8) F dX8_number_27 kF_X8_79 sh_0 rfl rfl ?_
      refine ok_putf F dX8_number_30 kF_X8_124 sh_0 rfl rfl rfl (fun m_7 e_8 => ?_)
      refine ok_iconst F dX8_number_33 ?_
      refine ok_istore_n (lv' := [(3, pI 0), (0, pR 0), (1, pI lo), (2, pI hi)]) F dX8_number_34 (by decide) rfl ?_
      have hL_35 : ∀ (n_35 : Nat) (n : Int) (m : Mem), ((0 ≤ n ∧ n ≤ 100000) ∧ (0 ≤ m 0 8 ∧ m 0 8 ≤ 400) ∧ (∀ a, a ≠ 0 → m a = mem a) ∧ (∀ j, j ≠ 8 → j ≠ 10 → m 0 j = mem 0 j) ∧ m 0 10 = skipF mem 401 (mem 0 8) ∧ ∃ c : Nat, (c : Int) + m 0 8 = 401 + skipF mem 401 (mem 0 8) ∧ numL mem 401 (skipF mem 401 (mem 0 8)) 0 = numL mem c (m 0 8) n) → (401 - m 0 8).toNat = n_35 → Ok shp X 4 35 [(0, pR 0), (1, pI lo), (2, pI hi), (3, pI n)] [] m := by
        intro n_35
        induction n_35 using Nat.strongRecOn with
        | _ n_35 ih_35 =>
          intro n m hI_35 hn_35
          obtain ⟨hn, hm, hF, hF0, h10, c, hc, hNL⟩ := hI_35
          have hsg : ∀ p, sgn m p = sgn mem p := sgn_of (hF 6 (by decide)) (hF0 7 (by decide) (by decide))
          have hs2 := sgn_bd m (m 0 8)
          have e7 := hF0 7 (by decide) (by decide)
          refine ok_aload_n F dX8_number_35 0 rfl ?_
          refine ok_callv F [] dX8_number_36 kM_X8_sign kI_X8_sign kV_X8_sign kL_X8_82 (ci := 8) rfl sh_0 rfl (by decide) (Nat.le_of_ble_eq_true rfl) rfl (m_X8_sign _ m (by rw [hF0 7 (by decide) (by decide)]; exact hT) (by omega)) ?_
          rintro _ _ ⟨rfl, rfl⟩
          refine ok_i2l F dX8_number_39 (by omega) ?_
          refine ok_ldc2 (n := 48) F dX8_number_40 kJ_X8_113 rfl ?_
          refine ok_ldc2 (n := 57) F dX8_number_43 kJ_X8_115 rfl ?_
          refine ok_calls F [pL (sgn m (m 0 8)), pL 48, pL 57] dX8_number_46 kM_X8_in kS_X8_in kL_X8_100 rfl (by decide) (Nat.le_of_ble_eq_true rfl) rfl (m_X8_in _ (sgn m (m 0 8)) 48 57 m (by omega) (by omega) (by omega)) ?_
          rintro _ _ ⟨rfl, rfl⟩
          refine ok_if_eq F 83 dX8_number_49 (by decide) (by omega) (fun c_9 => ?_) (fun c_9 => ?_)
          · refine ok_iload_n F dX8_number_83 3 rfl ?_
            refine ok_i2l F dX8_number_84 (by omega) ?_
            refine ok_iload_n F dX8_number_85 1 rfl ?_
            refine ok_i2l F dX8_number_86 (by omega) ?_
            refine ok_iload_n F dX8_number_87 2 rfl ?_
            refine ok_i2l F dX8_number_88 (by omega) ?_
            refine ok_calls F [pL n, pL lo, pL hi] dX8_number_89 kM_X8_in kS_X8_in kL_X8_100 rfl (by decide) (Nat.le_of_ble_eq_true rfl) rfl (m_X8_in _ n lo hi m (by omega) (by omega) (by omega)) ?_
            rintro _ _ ⟨rfl, rfl⟩
            refine ok_if_ne F 104 dX8_number_92 (by decide) (by omega) (fun c_10 => ?_) (fun c_10 => ?_)
            · refine ok_iload_n F dX8_number_104 3 rfl ?_
              refine ok_iret F G dX8_number_105 ?_
              have hend : numL mem 401 (skipF mem 401 (mem 0 8)) 0 = (m 0 8, n) := by
                rw [hNL]
                by_cases z : c = 0
                · rw [z]; rfl
                · rw [show c = (c - 1) + 1 by omega, numL_s, if_neg (by rw [← hsg]; omega)]
              have h9 : m 0 9 = -1 := by rw [hF0 9 (by decide) (by decide)]; omega
              first
                | (refine ⟨_, rfl, hF, fun j j1 j2 j3 => hF0 j j1 j3, ?_⟩
                   unfold numR
                   rw [if_neg (by omega), if_pos (by omega), hend]
                   show (n, m 0 8, m 0 9, m 0 10) = (n, m 0 8, (if lo ≤ n ∧ n ≤ hi then -1 else _), _)
                   rw [if_pos (by omega), h9, h10])
                | (rw [if_pos h9] at eF
                   refine ⟨_, rfl, fun a ha => by rw [eF, mset_nka ha]; exact hF a ha, fun j j1 j2 j3 => by rw [eF, mset_ne (fun q => j2 q.2)]; exact hF0 j j1 j3, ?_⟩
                   unfold numR
                   rw [if_neg (by omega), if_pos (by omega), hend, eF, mset_eq, mset_ne (by decide), mset_ne (by decide), h10]
                   show (n, m 0 8, _, _) = (n, m 0 8, (if lo ≤ n ∧ n ≤ hi then -1 else _), _)
                   rw [if_neg (by omega)])
            · refine ok_aload_n F dX8_number_95 0 rfl ?_
              refine ok_iconst F dX8_number_96 ?_
              refine ok_aload_n F dX8_number_97 0 rfl ?_
              refine ok_getf (v := m 0 10) F dX8_number_98 kF_X8_124 sh_0 rfl rfl ?_
              refine ok_callv F [pI 2, pI (m 0 10)] dX8_number_101 kM_X8_fails kI_X8_fails kV_X8_fails kL_X8_120 (ci := 8) rfl sh_0 rfl (by decide) (Nat.le_of_ble_eq_true rfl) rfl (m_X8_fails _ 2 (m 0 10) m (by rw [hF0 9 (by decide) (by decide)]; exact hFl)) ?_
              rintro _ m_11 ⟨rfl, e_12⟩
              have eF := e_12
              refine ok_iload_n F dX8_number_104 3 rfl ?_
              refine ok_iret F G dX8_number_105 ?_
              have hend : numL mem 401 (skipF mem 401 (mem 0 8)) 0 = (m 0 8, n) := by
                rw [hNL]
                by_cases z : c = 0
                · rw [z]; rfl
                · rw [show c = (c - 1) + 1 by omega, numL_s, if_neg (by rw [← hsg]; omega)]
              have h9 : m 0 9 = -1 := by rw [hF0 9 (by decide) (by decide)]; omega
              first
                | (refine ⟨_, rfl, hF, fun j j1 j2 j3 => hF0 j j1 j3, ?_⟩
                   unfold numR
                   rw [if_neg (by omega), if_pos (by omega), hend]
                   show (n, m 0 8, m 0 9, m 0 10) = (n, m 0 8, (if lo ≤ n ∧ n ≤ hi then -1 else _), _)
                   rw [if_pos (by omega), h9, h10])
                | (rw [if_pos h9] at eF
                   refine ⟨_, rfl, fun a ha => by rw [eF, mset_nka ha]; exact hF a ha, fun j j1 j2 j3 => by rw [eF, mset_ne (fun q => j2 q.2)]; exact hF0 j j1 j3, ?_⟩
                   unfold numR
                   rw [if_neg (by omega), if_pos (by omega), hend, eF, mset_eq, mset_ne (by decide), mset_ne (by decide), h10]
                   show (n, m 0 8, _, _) = (n, m 0 8, (if lo ≤ n ∧ n ≤ hi then -1 else _), _)
                   rw [if_neg (by omega)])
          · refine ok_ldc (n := 100000) F dX8_number_52 kK_X8_127 rfl ?_
            refine ok_bipush F dX8_number_54 rfl ?_
            refine ok_iload_n F dX8_number_56 3 rfl ?_
            refine ok_imul F dX8_number_57 ?_
            refine ok_aload_n F dX8_number_58 0 rfl ?_
            refine ok_callv F [] dX8_number_59 kM_X8_sign kI_X8_sign kV_X8_sign kL_X8_82 (ci := 8) rfl sh_0 rfl (by decide) (Nat.le_of_ble_eq_true rfl) rfl (m_X8_sign _ m (by rw [hF0 7 (by decide) (by decide)]; exact hT) (by omega)) ?_
            rintro _ _ ⟨rfl, rfl⟩
            refine ok_iadd F dX8_number_62 ?_
            refine ok_bipush F dX8_number_63 rfl ?_
            refine ok_isub F dX8_number_65 ?_
            refine ok_mmin F dX8_number_66 kL_X8_128 kS_J9_min_7cf53 kM_J9_min_7cf53.2.1 kM_J9_min_7cf53.2.2.1 (by omega) (by omega) (by decide) (Nat.le_of_ble_eq_true rfl) ?_
            refine ok_istore_n (lv' := [(3, pI (min 100000 (((10 * n) + (sgn m (m 0 8))) - 48))), (0, pR 0), (1, pI lo), (2, pI hi)]) F dX8_number_69 (by decide) rfl ?_
            refine ok_aload_n F dX8_number_70 1 rfl ?_
            refine ok_dup F dX8_number_71 rfl ?_
            refine ok_getf (v := m 0 8) F dX8_number_72 kF_X8_79 sh_0 rfl rfl ?_
            refine ok_iconst F dX8_number_75 ?_
            refine ok_iadd F dX8_number_76 ?_
            refine ok_putf F dX8_number_77 kF_X8_79 sh_0 rfl rfl rfl (fun m_13 e_14 => ?_)
            refine ok_goto F 35 dX8_number_80 (by decide) ?_
            refine ok_lvp [1, 2, 3, 0] (lv' := [(0, pR 0), (1, pI lo), (2, pI hi), (3, pI (min 100000 (((10 * n) + (sgn m (m 0 8))) - 48)))]) rfl ?_
            refine ih_35 _ ?_ (min 100000 (((10 * n) + (sgn m (m 0 8))) - 48)) m_13 ?_ rfl
            · have ht : True := trivial
              have hlt : m 0 8 < mem 0 7 := by
                by_cases q : m 0 8 < m 0 7
                · omega
                · have e : sgn m (m 0 8) = -1 := if_neg q
                  omega
              have e8 : m_13 0 8 = m 0 8 + 1 := by rw [e_14, mset_eq]
              omega
            · have hlt : m 0 8 < mem 0 7 := by
                by_cases q : m 0 8 < m 0 7
                · omega
                · have e : sgn m (m 0 8) = -1 := if_neg q
                  omega
              have e8 : m_13 0 8 = m 0 8 + 1 := by rw [e_14, mset_eq]
              refine ⟨by omega, by omega, fun a ha => by rw [e_14, mset_nka ha]; exact hF a ha, fun j j1 j2 => by rw [e_14, mset_ne (fun q => j1 q.2)]; exact hF0 j j1 j2, by rw [e_14, mset_ne (by decide)]; exact h10, c - 1, by omega, ?_⟩
              rw [hNL, show c = (c - 1) + 1 by omega, numL_s, if_pos (by rw [← hsg]; omega), e8, ← hsg]
              rfl
      refine ok_lvp [1, 2, 3, 0] (lv' := [(0, pR 0), (1, pI lo), (2, pI hi), (3, pI 0)]) rfl ?_
      refine hL_35 _ 0 m_7 ?_ rfl
      rw [e_8, d8]
      refine ⟨by omega, ?_, fun a ha => by rw [mset_nka ha]; exact da a ha, fun j j1 j2 => by rw [mset_ne (fun q => j2 q.2)]; exact dj j j1, mset_eq _ _ _ _, 401, ?_, ?_⟩
      · rw [mset_ne (by decide), d8]; omega
      · rw [mset_ne (by decide), d8]; rfl
      · rw [mset_ne (by decide), d8]
    · refine ok_aload_n F dX8_number_14 0 rfl ?_
      refine ok_iconst F dX8_number_15 ?_
      refine ok_aload_n F dX8_number_16 0 rfl ?_
      refine ok_getf (v := m_4 0 8) F dX8_number_17 kF_X8_79 sh_0 rfl rfl ?_
      refine ok_callv F [pI 1, pI (m_4 0 8)] dX8_number_20 kM_X8_fails kI_X8_fails kV_X8_fails kL_X8_120 (ci := 8) rfl sh_0 rfl (by decide) (Nat.le_of_ble_eq_true rfl) rfl (m_X8_fails _ 1 (m_4 0 8) m_4 (by first | exact hFl | (rw [dj 9 (by decide)]; exact hFl))) ?_
      rintro _ m_15 ⟨rfl, e_16⟩
      have eF := e_16
      refine ok_iconst F dX8_number_23 ?_
      refine ok_iret F G dX8_number_24 ?_
      first
        | (rw [if_neg (by omega)] at eF
           subst eF
           refine ⟨_, rfl, fun _ _ => rfl, fun _ _ _ _ => rfl, ?_⟩
           unfold numR
           rw [if_pos (by omega)])
        | (rw [dj 9 (by decide), if_pos (by omega), d8] at eF
           refine ⟨_, rfl, fun a ha => by rw [eF, mset_nka ha]; exact da a ha, fun j j1 j2 j3 => by rw [eF, mset_ne (fun q => j2 q.2)]; exact dj j j1, ?_⟩
           unfold numR
           rw [if_neg (by omega), if_neg (by omega), eF, mset_eq, mset_ne (by decide), mset_ne (by decide), d8, dj 10 (by decide)])
