/-! the class: a number read -/
theorem numM_9 {g : Mem} (h9 : g 0 9 = -1) (lo hi : Int) : (dgN g → (numR g lo hi).1 = (numL g 401 (ptP g) 0).2 ∧ numM g lo hi 0 8 = (numL g 401 (ptP g) 0).1 ∧ numM g lo hi 0 9 = (if lo ≤ (numL g 401 (ptP g) 0).2 ∧ (numL g 401 (ptP g) 0).2 ≤ hi then -1 else 8 * ptP g + 2) ∧ numM g lo hi 0 10 = ptP g) ∧ (¬ dgN g → numM g lo hi 0 9 = 8 * ptP g + 1) := by
  obtain ⟨a, b⟩ := numR_at h9 lo hi
  obtain ⟨_, _, e8, e9, e10⟩ := numM_at g lo hi
  constructor
  · intro h
    rw [e8, e9, e10, a h]
    exact ⟨rfl, rfl, rfl, rfl⟩
  · intro h
    rw [e9, b h]
theorem dX4_readNumber_0 : decode cX4_readNumber 0 = .ok (.aload_n 0, 1) := by decide +kernel
theorem dX4_readNumber_1 : decode cX4_readNumber 1 = .ok (.invokevirtual 48, 3) := by decide +kernel
theorem dX4_readNumber_4 : decode cX4_readNumber 4 = .ok (.invokestatic 78, 3) := by decide +kernel
theorem dX4_readNumber_7 : decode cX4_readNumber 7 = .ok (.ifCond .ne 13, 3) := by decide +kernel
theorem dX4_readNumber_10 : decode cX4_readNumber 10 = .ok (.aload_n 0, 1) := by decide +kernel
theorem dX4_readNumber_11 : decode cX4_readNumber 11 = .ok (.aload_n 0, 1) := by decide +kernel
theorem dX4_readNumber_12 : decode cX4_readNumber 12 = .ok (.getfield 32, 3) := by decide +kernel
theorem dX4_readNumber_15 : decode cX4_readNumber 15 = .ok (.iconst 1, 1) := by decide +kernel
theorem dX4_readNumber_16 : decode cX4_readNumber 16 = .ok (.invokevirtual 59, 3) := by decide +kernel
theorem dX4_readNumber_19 : decode cX4_readNumber 19 = .ok (.ireturn, 1) := by decide +kernel
theorem dX4_readNumber_20 : decode cX4_readNumber 20 = .ok (.aload_n 0, 1) := by decide +kernel
theorem dX4_readNumber_21 : decode cX4_readNumber 21 = .ok (.aload_n 0, 1) := by decide +kernel
theorem dX4_readNumber_22 : decode cX4_readNumber 22 = .ok (.getfield 32, 3) := by decide +kernel
theorem dX4_readNumber_25 : decode cX4_readNumber 25 = .ok (.putfield 63, 3) := by decide +kernel
theorem dX4_readNumber_28 : decode cX4_readNumber 28 = .ok (.aload_n 0, 1) := by decide +kernel
theorem dX4_readNumber_29 : decode cX4_readNumber 29 = .ok (.iconst 0, 1) := by decide +kernel
theorem dX4_readNumber_30 : decode cX4_readNumber 30 = .ok (.putfield 81, 3) := by decide +kernel
theorem dX4_readNumber_33 : decode cX4_readNumber 33 = .ok (.aload_n 0, 1) := by decide +kernel
theorem dX4_readNumber_34 : decode cX4_readNumber 34 = .ok (.getfield 32, 3) := by decide +kernel
theorem dX4_readNumber_37 : decode cX4_readNumber 37 = .ok (.aload_n 0, 1) := by decide +kernel
theorem dX4_readNumber_38 : decode cX4_readNumber 38 = .ok (.getfield 28, 3) := by decide +kernel
theorem dX4_readNumber_41 : decode cX4_readNumber 41 = .ok (.if_icmp .ge 61, 3) := by decide +kernel
theorem dX4_readNumber_44 : decode cX4_readNumber 44 = .ok (.aload_n 0, 1) := by decide +kernel
theorem dX4_readNumber_45 : decode cX4_readNumber 45 = .ok (.getfield 18, 3) := by decide +kernel
theorem dX4_readNumber_48 : decode cX4_readNumber 48 = .ok (.aload_n 0, 1) := by decide +kernel
theorem dX4_readNumber_49 : decode cX4_readNumber 49 = .ok (.getfield 32, 3) := by decide +kernel
theorem dX4_readNumber_52 : decode cX4_readNumber 52 = .ok (.iaload, 1) := by decide +kernel
theorem dX4_readNumber_53 : decode cX4_readNumber 53 = .ok (.invokestatic 78, 3) := by decide +kernel
theorem dX4_readNumber_56 : decode cX4_readNumber 56 = .ok (.ifCond .eq 46, 3) := by decide +kernel
theorem dX4_readNumber_59 : decode cX4_readNumber 59 = .ok (.aload_n 0, 1) := by decide +kernel
theorem dX4_readNumber_60 : decode cX4_readNumber 60 = .ok (.aload_n 0, 1) := by decide +kernel
theorem dX4_readNumber_61 : decode cX4_readNumber 61 = .ok (.getfield 81, 3) := by decide +kernel
theorem dX4_readNumber_64 : decode cX4_readNumber 64 = .ok (.bipush 10, 2) := by decide +kernel
theorem dX4_readNumber_66 : decode cX4_readNumber 66 = .ok (.imul, 1) := by decide +kernel
theorem dX4_readNumber_67 : decode cX4_readNumber 67 = .ok (.aload_n 0, 1) := by decide +kernel
theorem dX4_readNumber_68 : decode cX4_readNumber 68 = .ok (.getfield 18, 3) := by decide +kernel
theorem dX4_readNumber_71 : decode cX4_readNumber 71 = .ok (.aload_n 0, 1) := by decide +kernel
theorem dX4_readNumber_72 : decode cX4_readNumber 72 = .ok (.getfield 32, 3) := by decide +kernel
theorem dX4_readNumber_75 : decode cX4_readNumber 75 = .ok (.iaload, 1) := by decide +kernel
theorem dX4_readNumber_76 : decode cX4_readNumber 76 = .ok (.iadd, 1) := by decide +kernel
theorem dX4_readNumber_77 : decode cX4_readNumber 77 = .ok (.bipush 48, 2) := by decide +kernel
theorem dX4_readNumber_79 : decode cX4_readNumber 79 = .ok (.isub, 1) := by decide +kernel
theorem dX4_readNumber_80 : decode cX4_readNumber 80 = .ok (.sipush 10000, 3) := by decide +kernel
theorem dX4_readNumber_83 : decode cX4_readNumber 83 = .ok (.invokestatic 22, 3) := by decide +kernel
theorem dX4_readNumber_86 : decode cX4_readNumber 86 = .ok (.putfield 81, 3) := by decide +kernel
theorem dX4_readNumber_89 : decode cX4_readNumber 89 = .ok (.aload_n 0, 1) := by decide +kernel
theorem dX4_readNumber_90 : decode cX4_readNumber 90 = .ok (.dup, 1) := by decide +kernel
theorem dX4_readNumber_91 : decode cX4_readNumber 91 = .ok (.getfield 32, 3) := by decide +kernel
theorem dX4_readNumber_94 : decode cX4_readNumber 94 = .ok (.iconst 1, 1) := by decide +kernel
theorem dX4_readNumber_95 : decode cX4_readNumber 95 = .ok (.iadd, 1) := by decide +kernel
theorem dX4_readNumber_96 : decode cX4_readNumber 96 = .ok (.putfield 32, 3) := by decide +kernel
theorem dX4_readNumber_99 : decode cX4_readNumber 99 = .ok (.goto (-66), 3) := by decide +kernel
theorem dX4_readNumber_102 : decode cX4_readNumber 102 = .ok (.iconst 1, 1) := by decide +kernel
theorem dX4_readNumber_103 : decode cX4_readNumber 103 = .ok (.ireturn, 1) := by decide +kernel
set_option maxHeartbeats 4000000 in
set_option maxRecDepth 100000 in
theorem m_X4_readNumber (l : Launch) (g : Mem) (mem : Mem) (hRT : RT g mem) : Ret shp l yX4_readNumber cX4_readNumber 1 (some .boolean) 1 [pR 175] mem (fun rv mv => ∃ z, rv = some (pI z) ∧ (∀ c, c ≠ 175 → mv c = mem c) ∧ (z = 1 ∧ dgN g ∧ mv 175 4 = ptP g ∧ mv 175 3 = (numL g 401 (ptP g) 0).1 ∧ mv 175 5 = min 10000 (numL g 401 (ptP g) 0).2 ∧ (∀ j, j ≠ 3 → j ≠ 4 → j ≠ 5 → mv 175 j = mem 175 j) ∨ z = 0 ∧ ¬ dgN g ∧ mv 175 7 = 8 * ptP g + 1)) := by
  refine ret_of (by decide +kernel) (Nat.le_of_ble_eq_true rfl) (fun X hX F G => ?_)
  show Ok shp X 1 0 [(0, pR 175)] [] mem
  obtain ⟨t1, t2, t3, t4, t5⟩ := id hRT
  obtain ⟨o7, o8, o9, o10⟩ := id t4
  obtain ⟨pD, pT, pP, aD, aT, eP1, pid, hle, pN, p99, p9t⟩ := pt_ok t4
  have hsb := sgn_bd g (ptP g)
  refine ok_aload_n F dX4_readNumber_0 0 rfl ?_
  refine ok_callv F [] dX4_readNumber_1 kM_X4_next kI_X4_next kV_X4_next kL_X4_48 (ci := 4) rfl sh_175 rfl (by decide) (Nat.le_of_ble_eq_true rfl) rfl (m_X4_next _ g mem (hRT)) ?_
  rintro _ m_1 ⟨rfl, e_2⟩
  have eN := e_2
  have n3 : m_1 175 3 = ptP g := by rw [eN]; exact mset_eq _ _ _ _
  have n2 : m_1 175 2 = g 0 7 := by rw [eN, mset_ne (by decide)]; exact t2
  have nc : ∀ c, c ≠ 175 → m_1 c = mem c := fun c hc => by rw [eN]; exact mset_nka hc
  have nj : ∀ j, j ≠ 3 → m_1 175 j = mem 175 j := fun j hj => by rw [eN]; exact mset_ne (fun q => hj q.2)
  refine ok_calls F [pI (sgn g (ptP g))] dX4_readNumber_4 kM_X4_isDigit kS_X4_isDigit kL_X4_78 rfl (by decide) (Nat.le_of_ble_eq_true rfl) rfl (m_X4_isDigit _ (sgn g (ptP g)) m_1 (by omega)) ?_
  rintro _ _ ⟨rfl, rfl⟩
  refine ok_if_ne F 20 dX4_readNumber_7 (by decide) (by omega) (fun c_3 => ?_) (fun c_3 => ?_)
  · have hdg : dgN g := ⟨by omega, by omega⟩
    refine ok_aload_n F dX4_readNumber_20 0 rfl ?_
    refine ok_aload_n F dX4_readNumber_21 0 rfl ?_
    refine ok_getf (v := m_1 175 3) F dX4_readNumber_22 kF_X4_32 sh_175 rfl rfl ?_
    refine ok_putf F dX4_readNumber_25 kF_X4_63 sh_175 rfl rfl rfl (fun m_4 e_5 => ?_)
    refine ok_aload_n F dX4_readNumber_28 0 rfl ?_
    refine ok_iconst F dX4_readNumber_29 ?_
    refine ok_putf F dX4_readNumber_30 kF_X4_81 sh_175 rfl rfl rfl (fun m_6 e_7 => ?_)
    have hL_33 : ∀ (n_33 : Nat)  (m : Mem), (∃ (n : Nat) (V : Int), ptP g ≤ m 175 3 ∧ m 175 3 ≤ 400 ∧ m 175 4 = ptP g ∧ m 175 5 = min 10000 V ∧ (0 ≤ V ∧ V ≤ 100000) ∧ (∀ j, j ≠ 3 → j ≠ 4 → j ≠ 5 → m 175 j = mem 175 j) ∧ (∀ c, c ≠ 175 → m c = mem c) ∧ (n : Int) + (m 175 3 - ptP g) = 401 ∧ (numL g 401 (ptP g) 0) = numL g n (m 175 3) V) → (401 - m 175 3).toNat = n_33 → Ok shp X 1 33 [(0, pR 175)] [] m := by
      intro n_33
      induction n_33 using Nat.strongRecOn with
      | _ n_33 ih_33 =>
        intro m hI_33 hn_33
        obtain ⟨n, V, hm0, hm1, hm4, hm5, hV, hmj, hF, hn, hs⟩ := hI_33
        have h752 := hmj 2 (by decide) (by decide) (by decide)
        have hsi := sgn_bd g (m 175 3)
        refine ok_aload_n F dX4_readNumber_33 0 rfl ?_
        refine ok_getf (v := m 175 3) F dX4_readNumber_34 kF_X4_32 sh_175 rfl rfl ?_
        refine ok_aload_n F dX4_readNumber_37 0 rfl ?_
        refine ok_getf (v := m 175 2) F dX4_readNumber_38 kF_X4_28 sh_175 rfl rfl ?_
        refine ok_icmp_ge F 102 dX4_readNumber_41 (by decide) (by omega) (by omega) (fun c_8 => ?_) (fun c_8 => ?_)
        · refine ok_iconst F dX4_readNumber_102 ?_
          refine ok_zret F G dX4_readNumber_103 (by first | rfl | exact zb_nar) ?_
          have hz : (numL g 401 (ptP g) 0) = (m 175 3, V) := by
            rw [hs]
            by_cases y : n = 0
            · rw [y]; rfl
            · rw [show n = (n - 1) + 1 by omega, numL_s, if_neg ?_]
              by_cases z : m 175 3 < g 0 7
              · have hms2 : m 176 (m 175 3).toNat = sgn g (m 175 3) := by rw [hF 176 (by decide)]; exact hRT.sg (by omega)
                omega
              · have : sgn g (m 175 3) = -1 := if_neg z
                omega
          rw [hz]
          exact ⟨_, rfl, hF, Or.inl ⟨rfl, hdg, hm4, rfl, hm5, hmj⟩⟩
        · refine ok_aload_n F dX4_readNumber_44 0 rfl ?_
          refine ok_getr F dX4_readNumber_45 kF_X4_18 sh_175 rfl ?_
          have hms : m 176 (m 175 3).toNat = sgn g (m 175 3) := by rw [hF 176 (by decide)]; exact hRT.sg (by omega)
          refine ok_aload_n F dX4_readNumber_48 0 rfl ?_
          refine ok_getf (v := m 175 3) F dX4_readNumber_49 kF_X4_32 sh_175 rfl rfl ?_
          refine ok_iald (v := m 176 ((m 175 3).toNat)) F dX4_readNumber_52 sh_176 (by first | decide | assumption) (by omega) (by omega) rfl ?_
          refine ok_calls F [pI (m 176 ((m 175 3).toNat))] dX4_readNumber_53 kM_X4_isDigit kS_X4_isDigit kL_X4_78 rfl (by decide) (Nat.le_of_ble_eq_true rfl) rfl (m_X4_isDigit _ (m 176 ((m 175 3).toNat)) m (by rw [hms]; omega)) ?_
          rintro _ _ ⟨rfl, rfl⟩
          refine ok_if_eq F 102 dX4_readNumber_56 (by decide) (by omega) (fun c_9 => ?_) (fun c_9 => ?_)
          · refine ok_iconst F dX4_readNumber_102 ?_
            refine ok_zret F G dX4_readNumber_103 (by first | rfl | exact zb_nar) ?_
            have hz : (numL g 401 (ptP g) 0) = (m 175 3, V) := by
              rw [hs]
              by_cases y : n = 0
              · rw [y]; rfl
              · rw [show n = (n - 1) + 1 by omega, numL_s, if_neg ?_]
                by_cases z : m 175 3 < g 0 7
                · have hms2 : m 176 (m 175 3).toNat = sgn g (m 175 3) := by rw [hF 176 (by decide)]; exact hRT.sg (by omega)
                  omega
                · have : sgn g (m 175 3) = -1 := if_neg z
                  omega
            rw [hz]
            exact ⟨_, rfl, hF, Or.inl ⟨rfl, hdg, hm4, rfl, hm5, hmj⟩⟩
          · refine ok_aload_n F dX4_readNumber_59 0 rfl ?_
            refine ok_aload_n F dX4_readNumber_60 0 rfl ?_
            refine ok_getf (v := m 175 5) F dX4_readNumber_61 kF_X4_81 sh_175 rfl rfl ?_
            refine ok_bipush F dX4_readNumber_64 rfl ?_
            refine ok_imul F dX4_readNumber_66 ?_
            refine ok_aload_n F dX4_readNumber_67 0 rfl ?_
            refine ok_getr F dX4_readNumber_68 kF_X4_18 sh_175 rfl ?_
            refine ok_aload_n F dX4_readNumber_71 0 rfl ?_
            refine ok_getf (v := m 175 3) F dX4_readNumber_72 kF_X4_32 sh_175 rfl rfl ?_
            refine ok_iald (v := m 176 ((m 175 3).toNat)) F dX4_readNumber_75 sh_176 (by first | decide | assumption) (by omega) (by omega) rfl ?_
            refine ok_iadd F dX4_readNumber_76 ?_
            refine ok_bipush F dX4_readNumber_77 rfl ?_
            refine ok_isub F dX4_readNumber_79 ?_
            refine ok_sipush F dX4_readNumber_80 rfl ?_
            refine ok_mmin F dX4_readNumber_83 kL_X4_22 kS_J9_min_7cf53 kM_J9_min_7cf53.2.1 kM_J9_min_7cf53.2.2.1 (by omega) (by omega) (by decide) (Nat.le_of_ble_eq_true rfl) ?_
            refine ok_putf F dX4_readNumber_86 kF_X4_81 sh_175 rfl rfl rfl (fun m_10 e_11 => ?_)
            refine ok_aload_n F dX4_readNumber_89 0 rfl ?_
            refine ok_dup F dX4_readNumber_90 rfl ?_
            refine ok_getf (v := m 175 3) F dX4_readNumber_91 kF_X4_32 sh_175 rfl (by rw [e_11, mset_ne (by decide)] <;> rfl) ?_
            refine ok_iconst F dX4_readNumber_94 ?_
            refine ok_iadd F dX4_readNumber_95 ?_
            refine ok_putf F dX4_readNumber_96 kF_X4_32 sh_175 rfl rfl rfl (fun m_12 e_13 => ?_)
            refine ok_goto F 33 dX4_readNumber_99 (by decide) ?_
            refine ok_lvp [0] (lv' := [(0, pR 175)]) rfl ?_
            refine ih_33 _ ?_ m_12 ?_ rfl
            · have ht : True := trivial
              have hx : m 175 3 < 400 := by omega
              refine Nat.lt_of_lt_of_eq ?_ hn_33
              have e8 : m_12 175 3 = m 175 3 + 1 := by rw [e_13, mset_eq]
              omega
            · have e8 : m_12 175 3 = m 175 3 + 1 := by rw [e_13, mset_eq]
              obtain ⟨n2, rfl⟩ : ∃ x, n = x + 1 := ⟨n - 1, by omega⟩
              refine ⟨n2, min 100000 (10 * V + sgn g (m 175 3) - 48), by omega, by omega, by rw [e_13, e_11, mset_ne (by decide), mset_ne (by decide)]; exact hm4, ?_, by omega, fun j h3 h4 h5 => by rw [e_13, e_11, mset_ne (fun q => h3 q.2), mset_ne (fun q => h5 q.2)]; exact hmj j h3 h4 h5, fun c hc => by rw [e_13, e_11, mset_nka hc, mset_nka hc]; exact hF c hc, by omega, ?_⟩
              · rw [e_13, e_11, mset_ne (by decide), mset_eq, hms, hm5]; omega
              · rw [hs, numL_s, if_pos (by omega), e8]
    refine ok_lvp [0] (lv' := [(0, pR 175)]) rfl ?_
    refine hL_33 _ m_6 ?_ rfl
    have x3 : m_6 175 3 = ptP g := by rw [e_7, e_5, mset_ne (by decide), mset_ne (by decide)]; exact n3
    refine ⟨401, 0, by omega, by omega, by rw [e_7, e_5, mset_ne (by decide), mset_eq]; exact n3, by rw [e_7, mset_eq]; rfl, by omega, fun j h3 h4 h5 => by rw [e_7, e_5, mset_ne (fun q => h5 q.2), mset_ne (fun q => h4 q.2)]; exact nj j h3, fun c hc => by rw [e_7, e_5, mset_nka hc, mset_nka hc]; exact nc c hc, by omega, ?_⟩
    rw [x3]
  · refine ok_aload_n F dX4_readNumber_10 0 rfl ?_
    refine ok_aload_n F dX4_readNumber_11 0 rfl ?_
    refine ok_getf (v := m_1 175 3) F dX4_readNumber_12 kF_X4_32 sh_175 rfl rfl ?_
    refine ok_iconst F dX4_readNumber_15 ?_
    refine ok_callv F [pI (m_1 175 3), pI 1] dX4_readNumber_16 kM_X4_wrong kI_X4_wrong kV_X4_wrong kL_X4_59 (ci := 4) rfl sh_175 rfl (by decide) (Nat.le_of_ble_eq_true rfl) rfl (m_X4_wrong _ (m_1 175 3) 1 m_1) ?_
    rintro _ m_14 ⟨rfl, e_15⟩
    have eW := e_15
    refine ok_zret F G dX4_readNumber_19 (by first | rfl | exact zb_nar) ?_
    exact ⟨_, rfl, fun c hc => by rw [eW, mset_nka hc]; exact nc c hc, Or.inr ⟨rfl, fun q => by have q1 := q.1; have q2 := q.2; omega, by rw [eW, mset_eq, n3]⟩⟩
theorem dX4_readBounded_0 : decode cX4_readBounded 0 = .ok (.aload_n 0, 1) := by decide +kernel
theorem dX4_readBounded_1 : decode cX4_readBounded 1 = .ok (.invokevirtual 84, 3) := by decide +kernel
theorem dX4_readBounded_4 : decode cX4_readBounded 4 = .ok (.ifCond .ne 5, 3) := by decide +kernel
theorem dX4_readBounded_7 : decode cX4_readBounded 7 = .ok (.iconst 0, 1) := by decide +kernel
theorem dX4_readBounded_8 : decode cX4_readBounded 8 = .ok (.ireturn, 1) := by decide +kernel
theorem dX4_readBounded_9 : decode cX4_readBounded 9 = .ok (.aload_n 0, 1) := by decide +kernel
theorem dX4_readBounded_10 : decode cX4_readBounded 10 = .ok (.getfield 81, 3) := by decide +kernel
theorem dX4_readBounded_13 : decode cX4_readBounded 13 = .ok (.iload_n 1, 1) := by decide +kernel
theorem dX4_readBounded_14 : decode cX4_readBounded 14 = .ok (.if_icmp .lt 11, 3) := by decide +kernel
theorem dX4_readBounded_17 : decode cX4_readBounded 17 = .ok (.aload_n 0, 1) := by decide +kernel
theorem dX4_readBounded_18 : decode cX4_readBounded 18 = .ok (.getfield 81, 3) := by decide +kernel
theorem dX4_readBounded_21 : decode cX4_readBounded 21 = .ok (.iload_n 2, 1) := by decide +kernel
theorem dX4_readBounded_22 : decode cX4_readBounded 22 = .ok (.if_icmp .le 15, 3) := by decide +kernel
theorem dX4_readBounded_25 : decode cX4_readBounded 25 = .ok (.aload_n 0, 1) := by decide +kernel
theorem dX4_readBounded_26 : decode cX4_readBounded 26 = .ok (.aload_n 0, 1) := by decide +kernel
theorem dX4_readBounded_27 : decode cX4_readBounded 27 = .ok (.getfield 63, 3) := by decide +kernel
theorem dX4_readBounded_30 : decode cX4_readBounded 30 = .ok (.iconst 2, 1) := by decide +kernel
theorem dX4_readBounded_31 : decode cX4_readBounded 31 = .ok (.invokevirtual 59, 3) := by decide +kernel
theorem dX4_readBounded_34 : decode cX4_readBounded 34 = .ok (.ifCond .eq 7, 3) := by decide +kernel
theorem dX4_readBounded_37 : decode cX4_readBounded 37 = .ok (.iconst 1, 1) := by decide +kernel
theorem dX4_readBounded_38 : decode cX4_readBounded 38 = .ok (.goto 4, 3) := by decide +kernel
theorem dX4_readBounded_41 : decode cX4_readBounded 41 = .ok (.iconst 0, 1) := by decide +kernel
theorem dX4_readBounded_42 : decode cX4_readBounded 42 = .ok (.ireturn, 1) := by decide +kernel
set_option maxHeartbeats 4000000 in
set_option maxRecDepth 100000 in
theorem m_X4_readBounded (l : Launch) (g : Mem) (lo : Int) (hi : Int) (mem : Mem) (hRT : RT g mem) (h9 : g 0 9 = -1) (hlo : 0 ≤ lo ∧ lo ≤ 2000) (hhi : 0 ≤ hi ∧ hi ≤ 2000) : Ret shp l yX4_readBounded cX4_readBounded 3 (some .boolean) 2 [pR 175, pI lo, pI hi] mem (fun rv mv => ∃ z, rv = some (pI z) ∧ (∀ c, c ≠ 175 → mv c = mem c) ∧ (z = 1 ∧ numM g lo hi 0 9 = -1 ∧ RT (numM g lo hi) mv ∧ mv 175 5 = (numR g lo hi).1 ∧ (lo ≤ (numR g lo hi).1 ∧ (numR g lo hi).1 ≤ hi) ∧ mv 175 4 = numM g lo hi 0 10 ∧ mv 175 6 = mem 175 6 ∧ mv 175 7 = mem 175 7 ∨ z = 0 ∧ numM g lo hi 0 9 ≠ -1 ∧ mv 175 7 = numM g lo hi 0 9)) := by
  refine ret_of (by decide +kernel) (Nat.le_of_ble_eq_true rfl) (fun X hX F G => ?_)
  show Ok shp X 3 0 [(0, pR 175), (1, pI lo), (2, pI hi)] [] mem
  obtain ⟨t1, t2, t3, t4, t5⟩ := id hRT
  obtain ⟨pD, pT, pP, aD, aT, eP1, pid, hle, pN, p99, p9t⟩ := pt_ok t4
  obtain ⟨y1, y2⟩ := numM_9 h9 lo hi
  have hok := numM_ok t4 lo hi
  have hnb := numL_bd t4.1.2 401 pP (n := 0) (by omega)
  obtain ⟨x1, x2, x3, x4, x5⟩ := numM_at g lo hi
  have hq0 : ∀ z : Prop, (¬ z → False) → z := fun z h => Classical.byContradiction h
  refine ok_aload_n F dX4_readBounded_0 0 rfl ?_
  refine ok_callv F [] dX4_readBounded_1 kM_X4_readNumber kI_X4_readNumber kV_X4_readNumber kL_X4_84 (ci := 4) rfl sh_175 rfl (by decide) (Nat.le_of_ble_eq_true rfl) rfl (m_X4_readNumber _ g mem (hRT)) ?_
  rintro _ m_2 ⟨z_1, rfl, r_3⟩
  obtain ⟨r1, r2⟩ := id r_3
  obtain ⟨mN, hmN⟩ : ∃ x, x = m_2 := ⟨_, rfl⟩
  rw [← hmN] at r1 r2
  have hz01 : z_1 = 1 ∨ z_1 = 0 := r2.elim (fun w => Or.inl w.1) (fun w => Or.inr w.1)
  refine ok_if_ne F 9 dX4_readBounded_4 (by decide) (by omega) (fun c_4 => ?_) (fun c_4 => ?_)
  · obtain ⟨_, d1, d2, d3, d4, d5⟩ := r2.resolve_right (fun q => by have := q.1; omega)
    obtain ⟨u1, u2, u3, u4⟩ := y1 d1
    rw [hmN] at d2 d3 d4 d5 r1
    refine ok_aload_n F dX4_readBounded_9 0 rfl ?_
    refine ok_getf (v := m_2 175 5) F dX4_readBounded_10 kF_X4_81 sh_175 rfl rfl ?_
    refine ok_iload_n F dX4_readBounded_13 1 rfl ?_
    refine ok_icmp_lt F 25 dX4_readBounded_14 (by decide) (by omega) (by omega) (fun c_5 => ?_) (fun c_5 => ?_)
    · refine ok_aload_n F dX4_readBounded_25 0 rfl ?_
      refine ok_aload_n F dX4_readBounded_26 0 rfl ?_
      refine ok_getf (v := m_2 175 4) F dX4_readBounded_27 kF_X4_63 sh_175 rfl rfl ?_
      refine ok_iconst F dX4_readBounded_30 ?_
      refine ok_callv F [pI (m_2 175 4), pI 2] dX4_readBounded_31 kM_X4_wrong kI_X4_wrong kV_X4_wrong kL_X4_59 (ci := 4) rfl sh_175 rfl (by decide) (Nat.le_of_ble_eq_true rfl) rfl (m_X4_wrong _ (m_2 175 4) 2 m_2) ?_
      rintro _ m_6 ⟨rfl, e_7⟩
      have eW := e_7
      refine ok_if_eq F 41 dX4_readBounded_34 (by decide) (by omega) (fun c_8 => ?_) (fun c_8 => ?_)
      · refine ok_iconst F dX4_readBounded_41 ?_
        refine ok_zret F G dX4_readBounded_42 (rfl) ?_
        first
          | (have hin : lo ≤ (numL g 401 (ptP g) 0).2 ∧ (numL g 401 (ptP g) 0).2 ≤ hi := by omega
             rw [if_pos hin] at u3
             refine ⟨_, rfl, r1, Or.inl ⟨rfl, u3, hRT.of (x1 6 (by decide)) (x2 7 (by decide) (by decide) (by decide)) hok (r1 176 (by decide)) (d5 2 (by decide) (by decide) (by decide)) (by rw [d3, u2]), by rw [d4, u1]; omega, by rw [u1]; exact hin, by rw [d2, u4], d5 6 (by decide) (by decide) (by decide), d5 7 (by decide) (by decide) (by decide)⟩⟩)
          | (have hin : ¬ (lo ≤ (numL g 401 (ptP g) 0).2 ∧ (numL g 401 (ptP g) 0).2 ≤ hi) := by omega
             rw [if_neg hin] at u3
             exact ⟨_, rfl, fun c hc => by rw [eW, mset_nka hc]; exact r1 c hc, Or.inr ⟨rfl, by rw [u3]; omega, by rw [u3, eW, mset_eq, d2]⟩⟩)
      · exfalso; omega
    · refine ok_aload_n F dX4_readBounded_17 0 rfl ?_
      refine ok_getf (v := m_2 175 5) F dX4_readBounded_18 kF_X4_81 sh_175 rfl rfl ?_
      refine ok_iload_n F dX4_readBounded_21 2 rfl ?_
      refine ok_icmp_le F 37 dX4_readBounded_22 (by decide) (by omega) (by omega) (fun c_9 => ?_) (fun c_9 => ?_)
      · refine ok_iconst F dX4_readBounded_37 ?_
        refine ok_goto F 42 dX4_readBounded_38 (by decide) ?_
        refine ok_zret F G dX4_readBounded_42 (rfl) ?_
        first
          | (have hin : lo ≤ (numL g 401 (ptP g) 0).2 ∧ (numL g 401 (ptP g) 0).2 ≤ hi := by omega
             rw [if_pos hin] at u3
             refine ⟨_, rfl, r1, Or.inl ⟨rfl, u3, hRT.of (x1 6 (by decide)) (x2 7 (by decide) (by decide) (by decide)) hok (r1 176 (by decide)) (d5 2 (by decide) (by decide) (by decide)) (by rw [d3, u2]), by rw [d4, u1]; omega, by rw [u1]; exact hin, by rw [d2, u4], d5 6 (by decide) (by decide) (by decide), d5 7 (by decide) (by decide) (by decide)⟩⟩)
          | (have hin : ¬ (lo ≤ (numL g 401 (ptP g) 0).2 ∧ (numL g 401 (ptP g) 0).2 ≤ hi) := by omega
             rw [if_neg hin] at u3
             exact ⟨_, rfl, fun c hc => by rw [eW, mset_nka hc]; exact r1 c hc, Or.inr ⟨rfl, by rw [u3]; omega, by rw [u3, eW, mset_eq, d2]⟩⟩)
      · refine ok_aload_n F dX4_readBounded_25 0 rfl ?_
        refine ok_aload_n F dX4_readBounded_26 0 rfl ?_
        refine ok_getf (v := m_2 175 4) F dX4_readBounded_27 kF_X4_63 sh_175 rfl rfl ?_
        refine ok_iconst F dX4_readBounded_30 ?_
        refine ok_callv F [pI (m_2 175 4), pI 2] dX4_readBounded_31 kM_X4_wrong kI_X4_wrong kV_X4_wrong kL_X4_59 (ci := 4) rfl sh_175 rfl (by decide) (Nat.le_of_ble_eq_true rfl) rfl (m_X4_wrong _ (m_2 175 4) 2 m_2) ?_
        rintro _ m_10 ⟨rfl, e_11⟩
        have eW := e_11
        refine ok_if_eq F 41 dX4_readBounded_34 (by decide) (by omega) (fun c_12 => ?_) (fun c_12 => ?_)
        · refine ok_iconst F dX4_readBounded_41 ?_
          refine ok_zret F G dX4_readBounded_42 (rfl) ?_
          first
            | (have hin : lo ≤ (numL g 401 (ptP g) 0).2 ∧ (numL g 401 (ptP g) 0).2 ≤ hi := by omega
               rw [if_pos hin] at u3
               refine ⟨_, rfl, r1, Or.inl ⟨rfl, u3, hRT.of (x1 6 (by decide)) (x2 7 (by decide) (by decide) (by decide)) hok (r1 176 (by decide)) (d5 2 (by decide) (by decide) (by decide)) (by rw [d3, u2]), by rw [d4, u1]; omega, by rw [u1]; exact hin, by rw [d2, u4], d5 6 (by decide) (by decide) (by decide), d5 7 (by decide) (by decide) (by decide)⟩⟩)
            | (have hin : ¬ (lo ≤ (numL g 401 (ptP g) 0).2 ∧ (numL g 401 (ptP g) 0).2 ≤ hi) := by omega
               rw [if_neg hin] at u3
               exact ⟨_, rfl, fun c hc => by rw [eW, mset_nka hc]; exact r1 c hc, Or.inr ⟨rfl, by rw [u3]; omega, by rw [u3, eW, mset_eq, d2]⟩⟩)
        · exfalso; omega
  · refine ok_iconst F dX4_readBounded_7 ?_
    refine ok_zret F G dX4_readBounded_8 (by first | rfl | exact zb_nar) ?_
    obtain ⟨_, d1, d2⟩ := r2.resolve_left (fun q => by have := q.1; omega)
    have u := y2 d1
    exact ⟨_, rfl, fun c hc => by rw [← hmN]; exact r1 c hc, Or.inr ⟨rfl, by rw [u]; omega, by rw [u, ← hmN]; exact d2⟩⟩
