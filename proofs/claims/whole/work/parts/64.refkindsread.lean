/-! the reference: the kinds read, by its code -/
theorem kB_lt {m : Mem} (h : RdOk m) (hb : m 2 0 ≤ 8) (e : kB m 0 9 = -1) : m 2 0 < 8 := by
  by_cases q : m 2 0 = 8
  · have ho := (kA_ok h).1.2.2.2
    have hk : kB m = if kA m 0 9 = -1 ∧ m 2 0 = 8 then flM (kA m) 3 (kA m 0 10) else kA m := rfl
    by_cases g : kA m 0 9 = -1
    · rw [hk, if_pos ⟨g, q⟩] at e
      unfold flM at e
      rw [if_pos g, mset_eq] at e
      omega
    · rw [hk, if_neg (fun z => g z.1)] at e
      exact absurd e g
  · omega
theorem dX8_readsKinds_0 : decode cX8_readsKinds 0 = .ok (.iconst 1, 1) := by decide +kernel
theorem dX8_readsKinds_1 : decode cX8_readsKinds 1 = .ok (.istore_n 1, 1) := by decide +kernel
theorem dX8_readsKinds_2 : decode cX8_readsKinds 2 = .ok (.iload_n 1, 1) := by decide +kernel
theorem dX8_readsKinds_3 : decode cX8_readsKinds 3 = .ok (.ifCond .eq 124, 3) := by decide +kernel
theorem dX8_readsKinds_6 : decode cX8_readsKinds 6 = .ok (.aload_n 0, 1) := by decide +kernel
theorem dX8_readsKinds_7 : decode cX8_readsKinds 7 = .ok (.getfield 13, 3) := by decide +kernel
theorem dX8_readsKinds_10 : decode cX8_readsKinds 10 = .ok (.iconst 0, 1) := by decide +kernel
theorem dX8_readsKinds_11 : decode cX8_readsKinds 11 = .ok (.iaload, 1) := by decide +kernel
theorem dX8_readsKinds_12 : decode cX8_readsKinds 12 = .ok (.istore_n 2, 1) := by decide +kernel
theorem dX8_readsKinds_13 : decode cX8_readsKinds 13 = .ok (.aload_n 0, 1) := by decide +kernel
theorem dX8_readsKinds_14 : decode cX8_readsKinds 14 = .ok (.iconst 1, 1) := by decide +kernel
theorem dX8_readsKinds_15 : decode cX8_readsKinds 15 = .ok (.sipush 500, 3) := by decide +kernel
theorem dX8_readsKinds_18 : decode cX8_readsKinds 18 = .ok (.invokevirtual 134, 3) := by decide +kernel
theorem dX8_readsKinds_21 : decode cX8_readsKinds 21 = .ok (.istore_n 3, 1) := by decide +kernel
theorem dX8_readsKinds_22 : decode cX8_readsKinds 22 = .ok (.aload_n 0, 1) := by decide +kernel
theorem dX8_readsKinds_23 : decode cX8_readsKinds 23 = .ok (.invokevirtual 89, 3) := by decide +kernel
theorem dX8_readsKinds_26 : decode cX8_readsKinds 26 = .ok (.ifCond .eq 30, 3) := by decide +kernel
theorem dX8_readsKinds_29 : decode cX8_readsKinds 29 = .ok (.iload_n 2, 1) := by decide +kernel
theorem dX8_readsKinds_30 : decode cX8_readsKinds 30 = .ok (.ifCond .le 26, 3) := by decide +kernel
theorem dX8_readsKinds_33 : decode cX8_readsKinds 33 = .ok (.iload_n 3, 1) := by decide +kernel
theorem dX8_readsKinds_34 : decode cX8_readsKinds 34 = .ok (.aload_n 0, 1) := by decide +kernel
theorem dX8_readsKinds_35 : decode cX8_readsKinds 35 = .ok (.getfield 13, 3) := by decide +kernel
theorem dX8_readsKinds_38 : decode cX8_readsKinds 38 = .ok (.iconst 3, 1) := by decide +kernel
theorem dX8_readsKinds_39 : decode cX8_readsKinds 39 = .ok (.iload_n 2, 1) := by decide +kernel
theorem dX8_readsKinds_40 : decode cX8_readsKinds 40 = .ok (.iadd, 1) := by decide +kernel
theorem dX8_readsKinds_41 : decode cX8_readsKinds 41 = .ok (.iconst 1, 1) := by decide +kernel
theorem dX8_readsKinds_42 : decode cX8_readsKinds 42 = .ok (.isub, 1) := by decide +kernel
theorem dX8_readsKinds_43 : decode cX8_readsKinds 43 = .ok (.iaload, 1) := by decide +kernel
theorem dX8_readsKinds_44 : decode cX8_readsKinds 44 = .ok (.if_icmp .gt 12, 3) := by decide +kernel
theorem dX8_readsKinds_47 : decode cX8_readsKinds 47 = .ok (.aload_n 0, 1) := by decide +kernel
theorem dX8_readsKinds_48 : decode cX8_readsKinds 48 = .ok (.iconst 2, 1) := by decide +kernel
theorem dX8_readsKinds_49 : decode cX8_readsKinds 49 = .ok (.aload_n 0, 1) := by decide +kernel
theorem dX8_readsKinds_50 : decode cX8_readsKinds 50 = .ok (.getfield 124, 3) := by decide +kernel
theorem dX8_readsKinds_53 : decode cX8_readsKinds 53 = .ok (.invokevirtual 120, 3) := by decide +kernel
theorem dX8_readsKinds_56 : decode cX8_readsKinds 56 = .ok (.aload_n 0, 1) := by decide +kernel
theorem dX8_readsKinds_57 : decode cX8_readsKinds 57 = .ok (.invokevirtual 89, 3) := by decide +kernel
theorem dX8_readsKinds_60 : decode cX8_readsKinds 60 = .ok (.ifCond .eq 18, 3) := by decide +kernel
theorem dX8_readsKinds_63 : decode cX8_readsKinds 63 = .ok (.iload_n 2, 1) := by decide +kernel
theorem dX8_readsKinds_64 : decode cX8_readsKinds 64 = .ok (.bipush 8, 2) := by decide +kernel
theorem dX8_readsKinds_66 : decode cX8_readsKinds 66 = .ok (.if_icmp .ne 12, 3) := by decide +kernel
theorem dX8_readsKinds_69 : decode cX8_readsKinds 69 = .ok (.aload_n 0, 1) := by decide +kernel
theorem dX8_readsKinds_70 : decode cX8_readsKinds 70 = .ok (.iconst 3, 1) := by decide +kernel
theorem dX8_readsKinds_71 : decode cX8_readsKinds 71 = .ok (.aload_n 0, 1) := by decide +kernel
theorem dX8_readsKinds_72 : decode cX8_readsKinds 72 = .ok (.getfield 124, 3) := by decide +kernel
theorem dX8_readsKinds_75 : decode cX8_readsKinds 75 = .ok (.invokevirtual 120, 3) := by decide +kernel
theorem dX8_readsKinds_78 : decode cX8_readsKinds 78 = .ok (.aload_n 0, 1) := by decide +kernel
theorem dX8_readsKinds_79 : decode cX8_readsKinds 79 = .ok (.invokevirtual 89, 3) := by decide +kernel
theorem dX8_readsKinds_82 : decode cX8_readsKinds 82 = .ok (.ifCond .eq 22, 3) := by decide +kernel
theorem dX8_readsKinds_85 : decode cX8_readsKinds 85 = .ok (.aload_n 0, 1) := by decide +kernel
theorem dX8_readsKinds_86 : decode cX8_readsKinds 86 = .ok (.getfield 13, 3) := by decide +kernel
theorem dX8_readsKinds_89 : decode cX8_readsKinds 89 = .ok (.iconst 3, 1) := by decide +kernel
theorem dX8_readsKinds_90 : decode cX8_readsKinds 90 = .ok (.iload_n 2, 1) := by decide +kernel
theorem dX8_readsKinds_91 : decode cX8_readsKinds 91 = .ok (.iadd, 1) := by decide +kernel
theorem dX8_readsKinds_92 : decode cX8_readsKinds 92 = .ok (.iload_n 3, 1) := by decide +kernel
theorem dX8_readsKinds_93 : decode cX8_readsKinds 93 = .ok (.iastore, 1) := by decide +kernel
theorem dX8_readsKinds_94 : decode cX8_readsKinds 94 = .ok (.aload_n 0, 1) := by decide +kernel
theorem dX8_readsKinds_95 : decode cX8_readsKinds 95 = .ok (.getfield 13, 3) := by decide +kernel
theorem dX8_readsKinds_98 : decode cX8_readsKinds 98 = .ok (.iconst 0, 1) := by decide +kernel
theorem dX8_readsKinds_99 : decode cX8_readsKinds 99 = .ok (.dup2, 1) := by decide +kernel
theorem dX8_readsKinds_100 : decode cX8_readsKinds 100 = .ok (.iaload, 1) := by decide +kernel
theorem dX8_readsKinds_101 : decode cX8_readsKinds 101 = .ok (.iconst 1, 1) := by decide +kernel
theorem dX8_readsKinds_102 : decode cX8_readsKinds 102 = .ok (.iadd, 1) := by decide +kernel
theorem dX8_readsKinds_103 : decode cX8_readsKinds 103 = .ok (.iastore, 1) := by decide +kernel
theorem dX8_readsKinds_104 : decode cX8_readsKinds 104 = .ok (.aload_n 0, 1) := by decide +kernel
theorem dX8_readsKinds_105 : decode cX8_readsKinds 105 = .ok (.invokevirtual 89, 3) := by decide +kernel
theorem dX8_readsKinds_108 : decode cX8_readsKinds 108 = .ok (.ifCond .eq 14, 3) := by decide +kernel
theorem dX8_readsKinds_111 : decode cX8_readsKinds 111 = .ok (.aload_n 0, 1) := by decide +kernel
theorem dX8_readsKinds_112 : decode cX8_readsKinds 112 = .ok (.invokevirtual 117, 3) := by decide +kernel
theorem dX8_readsKinds_115 : decode cX8_readsKinds 115 = .ok (.ifCond .eq 7, 3) := by decide +kernel
theorem dX8_readsKinds_118 : decode cX8_readsKinds 118 = .ok (.iconst 1, 1) := by decide +kernel
theorem dX8_readsKinds_119 : decode cX8_readsKinds 119 = .ok (.goto 4, 3) := by decide +kernel
theorem dX8_readsKinds_122 : decode cX8_readsKinds 122 = .ok (.iconst 0, 1) := by decide +kernel
theorem dX8_readsKinds_123 : decode cX8_readsKinds 123 = .ok (.istore_n 1, 1) := by decide +kernel
theorem dX8_readsKinds_124 : decode cX8_readsKinds 124 = .ok (.goto (-122), 3) := by decide +kernel
theorem dX8_readsKinds_127 : decode cX8_readsKinds 127 = .ok (.return_, 1) := by decide +kernel
set_option maxHeartbeats 4000000 in
set_option maxRecDepth 100000 in
theorem m_X8_readsKinds (l : Launch) (mem : Mem) (hRd : RdOk mem) (h0 : mem 2 0 = 0) (hH : ∀ k : Nat, 1 ≤ k → 0 ≤ mem 2 k ∧ mem 2 k ≤ 100000) : Ret shp l yX8_readsKinds cX8_readsKinds 4 none 5 [pR 0] mem (fun rv mv => rv = none ∧ mv = kindsL 10 mem ∧ RdOk mv ∧ (0 ≤ mv 2 0 ∧ mv 2 0 ≤ 8) ∧ ∀ k : Nat, 1 ≤ k → 0 ≤ mv 2 k ∧ mv 2 k ≤ 100000) := by
  refine ret_of (by decide +kernel) (Nat.le_of_ble_eq_true rfl) (fun X hX F G => ?_)
  show Ok shp X 4 0 [(0, pR 0)] [] mem
  refine ok_iconst F dX8_readsKinds_0 ?_
  refine ok_istore_n (lv' := [(1, pI 1), (0, pR 0)]) F dX8_readsKinds_1 (by decide) rfl ?_
  have hL_2 : ∀ (n_2 : Nat) (g : Int) (m : Mem), ((g = 0 ∨ g = 1) ∧ RdOk m ∧ (0 ≤ m 2 0 ∧ m 2 0 ≤ 8) ∧ (∀ k : Nat, 1 ≤ k → 0 ≤ m 2 k ∧ m 2 k ≤ 100000) ∧ (g = 0 ∧ kindsL 10 mem = m ∨ g = 1 ∧ ∃ c : Nat, (c : Int) + m 2 0 = 10 ∧ kindsL 10 mem = kindsL c m)) → (20 * g + 10 - m 2 0).toNat = n_2 → Ok shp X 4 2 [(0, pR 0), (1, pI g)] [] m := by
    intro n_2
    induction n_2 using Nat.strongRecOn with
    | _ n_2 ih_2 =>
      intro g m hI_2 hn_2
      obtain ⟨hg, hR, hb, hH2, hE⟩ := hI_2
      refine ok_iload_n F dX8_readsKinds_2 1 rfl ?_
      refine ok_if_eq F 127 dX8_readsKinds_3 (by decide) (by omega) (fun c_1 => ?_) (fun c_1 => ?_)
      · refine ok_vret F G dX8_readsKinds_127 ?_
        obtain ⟨e1, e2⟩ := hE.resolve_right (fun q => by have := q.1; omega)
        exact ⟨rfl, e2.symm, hR, hb, hH2⟩
      · obtain ⟨e1, c, hc, hEc⟩ := hE.resolve_left (fun q => by have := q.1; omega)
        obtain ⟨c2, rfl⟩ : ∃ x, c = x + 1 := ⟨c - 1, by omega⟩
        have hEd : kindsL 10 mem = if kMore m = true then kindsL c2 (kD m) else kD m := hEc
        clear hE hEc
        refine ok_aload_n F dX8_readsKinds_6 0 rfl ?_
        refine ok_getr F dX8_readsKinds_7 kF_X8_13 sh_0 rfl ?_
        refine ok_iconst F dX8_readsKinds_10 ?_
        refine ok_iald (v := m 2 0) F dX8_readsKinds_11 sh_2 (by first | decide | assumption) (by omega) (by omega) rfl ?_
        refine ok_istore_n (lv' := [(2, pI (m 2 0)), (0, pR 0), (1, pI g)]) F dX8_readsKinds_12 (by decide) rfl ?_
        refine ok_aload_n F dX8_readsKinds_13 1 rfl ?_
        refine ok_iconst F dX8_readsKinds_14 ?_
        refine ok_sipush F dX8_readsKinds_15 rfl ?_
        refine ok_callv F [pI 1, pI 500] dX8_readsKinds_18 kM_X8_number kI_X8_number kV_X8_number kL_X8_134 (ci := 8) rfl sh_0 rfl (by decide) (Nat.le_of_ble_eq_true rfl) rfl (m_X8_number _ 1 500 m (by omega) (by omega) (hR.1) (hR.2.1) (by have := hR.2.2.1; omega)) ?_
        rintro _ m_3 ⟨z_2, rfl, r_4⟩
        obtain ⟨r1, r2, r3⟩ := id r_4
        obtain ⟨z1, z2⟩ := numM_of r1 r2 r3
        have hzb := (numR_bd hR 1 500).1
        rw [← z1] at hzb
        have hn1 := numM_ok hR 1 500
        have hn2 := (numM_at m 1 500).1
        have hkA : kA m = if numM m 1 500 0 9 = -1 ∧ 0 < m 2 0 ∧ (numR m 1 500).1 ≤ m 2 (3 + m 2 0 - 1).toNat then flM (numM m 1 500) 2 (numM m 1 500 0 10) else numM m 1 500 := rfl
        rw [← z1, ← z2] at hkA
        rw [← z2] at hn1 hn2
        have q22 := hn2 2 (by decide)
        have q23 := congrFun q22 (3 + m 2 0 - 1).toNat
        have hn9 := hn1.2.2.1
        have hn10 := hn1.2.2.2
        refine ok_istore_n (lv' := [(3, pI z_2), (2, pI (m 2 0)), (0, pR 0), (1, pI g)]) F dX8_readsKinds_21 (by decide) rfl ?_
        refine ok_aload_n F dX8_readsKinds_22 2 rfl ?_
        refine ok_callv F [] dX8_readsKinds_23 kM_X8_isRight kI_X8_isRight kV_X8_isRight kL_X8_89 (ci := 8) rfl sh_0 rfl (by decide) (Nat.le_of_ble_eq_true rfl) rfl (m_X8_isRight _ m_3 (by have := hn1.2.2.1; omega)) ?_
        rintro _ _ ⟨rfl, rfl⟩
        have hJ_56 : ∀  (ma : Mem), (ma = kA m) → Ok shp X 4 56 [(0, pR 0), (1, pI g), (2, pI (m 2 0)), (3, pI z_2)] [] ma := by
          intro ma hI_56
          obtain ⟨hoA, hcA⟩ := kA_ok hR
          rw [← hI_56] at hoA hcA
          have hA2 := hcA 2 (by decide)
          have hkB : kB m = if kA m 0 9 = -1 ∧ m 2 0 = 8 then flM (kA m) 3 (kA m 0 10) else kA m := rfl
          rw [← hI_56] at hkB
          have hA9 := hoA.2.2.1
          have hA10 := hoA.2.2.2
          refine ok_aload_n F dX8_readsKinds_56 0 rfl ?_
          refine ok_callv F [] dX8_readsKinds_57 kM_X8_isRight kI_X8_isRight kV_X8_isRight kL_X8_89 (ci := 8) rfl sh_0 rfl (by decide) (Nat.le_of_ble_eq_true rfl) rfl (m_X8_isRight _ ma (by have := hoA.2.2.1; omega)) ?_
          rintro _ _ ⟨rfl, rfl⟩
          have hJ_78 : ∀  (mb : Mem), (mb = kB m) → Ok shp X 4 78 [(0, pR 0), (1, pI g), (2, pI (m 2 0)), (3, pI z_2)] [] mb := by
            intro mb hI_78
            obtain ⟨hoB, hcB⟩ := kB_ok hR
            rw [← hI_78] at hoB hcB
            have hB2 := hcB 2 (by decide)
            have hkC : kC m = if kB m 0 9 = -1 then mset (mset (kB m) 2 (3 + m 2 0).toNat (numR m 1 500).1) 2 0 (m 2 0 + 1) else kB m := rfl
            have hlt := kB_lt hR hb.2
            rw [← hI_78] at hkC hlt
            rw [← z1] at hkC
            have hB9 := hoB.2.2.1
            refine ok_aload_n F dX8_readsKinds_78 0 rfl ?_
            refine ok_callv F [] dX8_readsKinds_79 kM_X8_isRight kI_X8_isRight kV_X8_isRight kL_X8_89 (ci := 8) rfl sh_0 rfl (by decide) (Nat.le_of_ble_eq_true rfl) rfl (m_X8_isRight _ mb (by have := hoB.2.2.1; omega)) ?_
            rintro _ _ ⟨rfl, rfl⟩
            have hJ_104 : ∀  (mc : Mem), (mc = kC m) → Ok shp X 4 104 [(0, pR 0), (1, pI g), (2, pI (m 2 0)), (3, pI z_2)] [] mc := by
              intro mc hI_104
              obtain ⟨hoC, hcC, hc0⟩ := kC_ok hR
              rw [← hI_104] at hoC hcC hc0
              obtain ⟨hoD, hcD⟩ := kD_ok hR
              have hkD : kD m = if kC m 0 9 = -1 then mset (kC m) 0 8 (skipF (kC m) 401 (kC m 0 8)) else kC m := rfl
              have hkM : kMore m = decide (kC m 0 9 = -1 ∧ 48 ≤ sgn (kC m) (skipF (kC m) 401 (kC m 0 8)) ∧ sgn (kC m) (skipF (kC m) 401 (kC m 0 8)) ≤ 57) := rfl
              rw [← hI_104] at hkD hkM hcD
              have hC9 := hoC.2.2.1
              have hc9 : mc 0 9 = mb 0 9 := by rw [hc0, ← hI_78]
              have hmc : mb 0 9 = -1 → mc = mset (mset mb 2 (3 + m 2 0).toNat (numR m 1 500).1) 2 0 (m 2 0 + 1) := fun q => by
                rw [hI_104]
                unfold kC
                rw [← hI_78, if_pos q]
              have hmn : ¬ mb 0 9 = -1 → mc = mb := fun q => by
                rw [hI_104]
                unfold kC
                rw [← hI_78, if_neg q]
              refine ok_aload_n F dX8_readsKinds_104 0 rfl ?_
              refine ok_callv F [] dX8_readsKinds_105 kM_X8_isRight kI_X8_isRight kV_X8_isRight kL_X8_89 (ci := 8) rfl sh_0 rfl (by decide) (Nat.le_of_ble_eq_true rfl) rfl (m_X8_isRight _ mc (by have := hoC.2.2.1; omega)) ?_
              rintro _ _ ⟨rfl, rfl⟩
              refine ok_if_eq F 122 dX8_readsKinds_108 (by decide) (by omega) (fun c_5 => ?_) (fun c_5 => ?_)
              · refine ok_iconst F dX8_readsKinds_122 ?_
                refine ok_istore_n (lv' := [(1, pI 0), (0, pR 0), (2, pI (m 2 0)), (3, pI z_2)]) F dX8_readsKinds_123 (by decide) rfl ?_
                refine ok_goto F 2 dX8_readsKinds_124 (by decide) ?_
                refine ok_lvp [1, 0] (lv' := [(0, pR 0), (1, pI 0)]) rfl ?_
                refine ih_2 _ ?_ 0 mc ?_ rfl
                · have ht : True := trivial
                  have hk2 : mc 2 = mc 2 := by first | rfl | (rw [eN]; exact mset_nka (by decide))
                  have hk20 := congrFun hk2 0
                  have hq : mb 0 9 = -1 → mc 2 0 = m 2 0 + 1 := fun q => by rw [hmc q, mset_eq]
                  have hmc0 : mb 0 9 ≠ -1 → mc 2 0 = m 2 0 := fun q => by rw [hmn q, hB2]
                  by_cases q : mb 0 9 = -1
                  · have := hq q; omega
                  · have := hmc0 q; have hc9 : mc 0 9 = mb 0 9 := congrFun (congrFun (hmn q) 0) 9; omega
                · have hk2 : mc 2 = mc 2 := by first | rfl | (rw [eN]; exact mset_nka (by decide))
                  have hk20 := congrFun hk2 0
                  have hq : mb 0 9 = -1 → mc 2 0 = m 2 0 + 1 := fun q => by rw [hmc q, mset_eq]
                  have hmc0 : mb 0 9 ≠ -1 → mc 2 0 = m 2 0 := fun q => by rw [hmn q, hB2]
                  have hi2 : ∀ k : Nat, 1 ≤ k → 0 ≤ mc 2 k ∧ mc 2 k ≤ 100000 := fun k hk => by
                    by_cases q : mb 0 9 = -1
                    · rw [hmc q, mset_ne (by omega)]
                      by_cases y : k = (3 + m 2 0).toNat
                      · rw [y, mset_eq, ← z1]; omega
                      · rw [mset_ne (fun z => y z.2), hB2]; exact hH2 k hk
                    · rw [hmn q, hB2]; exact hH2 k hk
                  have hD : mc = kD m := by first | (rw [hkD, if_neg (by omega)]; done) | (rw [hkD, if_pos (by omega), eN]; done)
                  refine ⟨by omega, by rw [hD]; exact hoD, by rw [hk20]; by_cases q : mb 0 9 = -1; (have := hq q; have := hlt q; omega); (have := hmc0 q; omega), by rw [hk2]; exact hi2, ?_⟩
                  first
                    | (exact Or.inr ⟨rfl, c2, by rw [hk20]; by_cases q : mb 0 9 = -1; (have := hq q; omega); (have hc9 : mc 0 9 = mb 0 9 := congrFun (congrFun (hmn q) 0) 9; omega), by rw [hEd, if_pos (by rw [hkM]; exact decide_eq_true (by omega)), hD]⟩)
                    | (exact Or.inl ⟨rfl, by rw [hEd, if_neg (by rw [hkM, decide_eq_true_eq]; omega), hD]⟩)
              · refine ok_aload_n F dX8_readsKinds_111 0 rfl ?_
                refine ok_callv F [] dX8_readsKinds_112 kM_X8_isDigit kI_X8_isDigit kV_X8_isDigit kL_X8_117 (ci := 8) rfl sh_0 rfl (by decide) (Nat.le_of_ble_eq_true rfl) rfl (m_X8_isDigit _ mc (hoC.1) (hoC.2.1)) ?_
                rintro _ m_6 ⟨rfl, e_7⟩
                have eN := e_7
                refine ok_if_eq F 122 dX8_readsKinds_115 (by decide) (by omega) (fun c_8 => ?_) (fun c_8 => ?_)
                · refine ok_iconst F dX8_readsKinds_122 ?_
                  refine ok_istore_n (lv' := [(1, pI 0), (0, pR 0), (2, pI (m 2 0)), (3, pI z_2)]) F dX8_readsKinds_123 (by decide) rfl ?_
                  refine ok_goto F 2 dX8_readsKinds_124 (by decide) ?_
                  refine ok_lvp [1, 0] (lv' := [(0, pR 0), (1, pI 0)]) rfl ?_
                  refine ih_2 _ ?_ 0 m_6 ?_ rfl
                  · have ht : True := trivial
                    have hk2 : m_6 2 = mc 2 := by first | rfl | (rw [eN]; exact mset_nka (by decide))
                    have hk20 := congrFun hk2 0
                    have hq : mb 0 9 = -1 → mc 2 0 = m 2 0 + 1 := fun q => by rw [hmc q, mset_eq]
                    have hmc0 : mb 0 9 ≠ -1 → mc 2 0 = m 2 0 := fun q => by rw [hmn q, hB2]
                    by_cases q : mb 0 9 = -1
                    · have := hq q; omega
                    · have := hmc0 q; have hc9 : mc 0 9 = mb 0 9 := congrFun (congrFun (hmn q) 0) 9; omega
                  · have hk2 : m_6 2 = mc 2 := by first | rfl | (rw [eN]; exact mset_nka (by decide))
                    have hk20 := congrFun hk2 0
                    have hq : mb 0 9 = -1 → mc 2 0 = m 2 0 + 1 := fun q => by rw [hmc q, mset_eq]
                    have hmc0 : mb 0 9 ≠ -1 → mc 2 0 = m 2 0 := fun q => by rw [hmn q, hB2]
                    have hi2 : ∀ k : Nat, 1 ≤ k → 0 ≤ mc 2 k ∧ mc 2 k ≤ 100000 := fun k hk => by
                      by_cases q : mb 0 9 = -1
                      · rw [hmc q, mset_ne (by omega)]
                        by_cases y : k = (3 + m 2 0).toNat
                        · rw [y, mset_eq, ← z1]; omega
                        · rw [mset_ne (fun z => y z.2), hB2]; exact hH2 k hk
                      · rw [hmn q, hB2]; exact hH2 k hk
                    have hD : m_6 = kD m := by first | (rw [hkD, if_neg (by omega)]; done) | (rw [hkD, if_pos (by omega), eN]; done)
                    refine ⟨by omega, by rw [hD]; exact hoD, by rw [hk20]; by_cases q : mb 0 9 = -1; (have := hq q; have := hlt q; omega); (have := hmc0 q; omega), by rw [hk2]; exact hi2, ?_⟩
                    first
                      | (exact Or.inr ⟨rfl, c2, by rw [hk20]; by_cases q : mb 0 9 = -1; (have := hq q; omega); (have hc9 : mc 0 9 = mb 0 9 := congrFun (congrFun (hmn q) 0) 9; omega), by rw [hEd, if_pos (by rw [hkM]; exact decide_eq_true (by omega)), hD]⟩)
                      | (exact Or.inl ⟨rfl, by rw [hEd, if_neg (by rw [hkM, decide_eq_true_eq]; omega), hD]⟩)
                · refine ok_iconst F dX8_readsKinds_118 ?_
                  refine ok_goto F 123 dX8_readsKinds_119 (by decide) ?_
                  refine ok_istore_n (lv' := [(1, pI 1), (0, pR 0), (2, pI (m 2 0)), (3, pI z_2)]) F dX8_readsKinds_123 (by decide) rfl ?_
                  refine ok_goto F 2 dX8_readsKinds_124 (by decide) ?_
                  refine ok_lvp [1, 0] (lv' := [(0, pR 0), (1, pI 1)]) rfl ?_
                  refine ih_2 _ ?_ 1 m_6 ?_ rfl
                  · have ht : True := trivial
                    have hk2 : m_6 2 = mc 2 := by first | rfl | (rw [eN]; exact mset_nka (by decide))
                    have hk20 := congrFun hk2 0
                    have hq : mb 0 9 = -1 → mc 2 0 = m 2 0 + 1 := fun q => by rw [hmc q, mset_eq]
                    have hmc0 : mb 0 9 ≠ -1 → mc 2 0 = m 2 0 := fun q => by rw [hmn q, hB2]
                    by_cases q : mb 0 9 = -1
                    · have := hq q; omega
                    · have := hmc0 q; have hc9 : mc 0 9 = mb 0 9 := congrFun (congrFun (hmn q) 0) 9; omega
                  · have hk2 : m_6 2 = mc 2 := by first | rfl | (rw [eN]; exact mset_nka (by decide))
                    have hk20 := congrFun hk2 0
                    have hq : mb 0 9 = -1 → mc 2 0 = m 2 0 + 1 := fun q => by rw [hmc q, mset_eq]
                    have hmc0 : mb 0 9 ≠ -1 → mc 2 0 = m 2 0 := fun q => by rw [hmn q, hB2]
                    have hi2 : ∀ k : Nat, 1 ≤ k → 0 ≤ mc 2 k ∧ mc 2 k ≤ 100000 := fun k hk => by
                      by_cases q : mb 0 9 = -1
                      · rw [hmc q, mset_ne (by omega)]
                        by_cases y : k = (3 + m 2 0).toNat
                        · rw [y, mset_eq, ← z1]; omega
                        · rw [mset_ne (fun z => y z.2), hB2]; exact hH2 k hk
                      · rw [hmn q, hB2]; exact hH2 k hk
                    have hD : m_6 = kD m := by first | (rw [hkD, if_neg (by omega)]; done) | (rw [hkD, if_pos (by omega), eN]; done)
                    refine ⟨by omega, by rw [hD]; exact hoD, by rw [hk20]; by_cases q : mb 0 9 = -1; (have := hq q; have := hlt q; omega); (have := hmc0 q; omega), by rw [hk2]; exact hi2, ?_⟩
                    first
                      | (exact Or.inr ⟨rfl, c2, by rw [hk20]; by_cases q : mb 0 9 = -1; (have := hq q; omega); (have hc9 : mc 0 9 = mb 0 9 := congrFun (congrFun (hmn q) 0) 9; omega), by rw [hEd, if_pos (by rw [hkM]; exact decide_eq_true (by omega)), hD]⟩)
                      | (exact Or.inl ⟨rfl, by rw [hEd, if_neg (by rw [hkM, decide_eq_true_eq]; omega), hD]⟩)
            refine ok_if_eq F 104 dX8_readsKinds_82 (by decide) (by omega) (fun c_9 => ?_) (fun c_9 => ?_)
            · refine ok_lvp [0, 1, 2, 3] (lv' := [(0, pR 0), (1, pI g), (2, pI (m 2 0)), (3, pI z_2)]) rfl ?_
              refine hJ_104 mb ?_
              first
                | (rw [hkC, if_neg (by omega)]; done)
                | (rw [rfl, hkC, if_pos (by omega), show Int.toNat 0 = 0 from rfl, mset_ne (by omega), hB2]; done)
                | (rw [rfl, hkC, if_pos (by omega), mset_ne (by omega), hB2]; done)
            · refine ok_aload_n F dX8_readsKinds_85 0 rfl ?_
              refine ok_getr F dX8_readsKinds_86 kF_X8_13 sh_0 rfl ?_
              refine ok_iconst F dX8_readsKinds_89 ?_
              refine ok_iload_n F dX8_readsKinds_90 2 rfl ?_
              refine ok_iadd F dX8_readsKinds_91 ?_
              refine ok_iload_n F dX8_readsKinds_92 3 rfl ?_
              refine ok_iast F dX8_readsKinds_93 sh_2 (by first | decide | assumption) (by omega) (by omega) (fun m_10 e_11 => ?_)
              refine ok_aload_n F dX8_readsKinds_94 0 rfl ?_
              refine ok_getr F dX8_readsKinds_95 kF_X8_13 sh_0 rfl ?_
              refine ok_iconst F dX8_readsKinds_98 ?_
              refine ok_dup2 F dX8_readsKinds_99 rfl rfl ?_
              refine ok_iald (v := m_10 2 0) F dX8_readsKinds_100 sh_2 (by first | decide | assumption) (by omega) (by omega) rfl ?_
              refine ok_iconst F dX8_readsKinds_101 ?_
              refine ok_iadd F dX8_readsKinds_102 ?_
              refine ok_iast F dX8_readsKinds_103 sh_2 (by first | decide | assumption) (by omega) (by omega) (fun m_12 e_13 => ?_)
              refine ok_lvp [0, 1, 2, 3] (lv' := [(0, pR 0), (1, pI g), (2, pI (m 2 0)), (3, pI z_2)]) rfl ?_
              refine hJ_104 m_12 ?_
              first
                | (rw [hkC, if_neg (by omega)]; done)
                | (rw [e_13, e_11, hkC, if_pos (by omega), show Int.toNat 0 = 0 from rfl, mset_ne (by omega), hB2]; done)
                | (rw [e_13, e_11, hkC, if_pos (by omega), mset_ne (by omega), hB2]; done)
          refine ok_if_eq F 78 dX8_readsKinds_60 (by decide) (by omega) (fun c_14 => ?_) (fun c_14 => ?_)
          · refine ok_lvp [0, 1, 2, 3] (lv' := [(0, pR 0), (1, pI g), (2, pI (m 2 0)), (3, pI z_2)]) rfl ?_
            refine hJ_78 ma ?_
            first
              | (rw [hkB, if_neg (by omega)]; done)
              | (rw [hkB, if_pos (by omega), eF]; rfl)
          · refine ok_iload_n F dX8_readsKinds_63 2 rfl ?_
            refine ok_bipush F dX8_readsKinds_64 rfl ?_
            refine ok_icmp_ne F 78 dX8_readsKinds_66 (by decide) (by omega) (by omega) (fun c_15 => ?_) (fun c_15 => ?_)
            · refine ok_lvp [0, 1, 2, 3] (lv' := [(0, pR 0), (1, pI g), (2, pI (m 2 0)), (3, pI z_2)]) rfl ?_
              refine hJ_78 ma ?_
              first
                | (rw [hkB, if_neg (by omega)]; done)
                | (rw [hkB, if_pos (by omega), eF]; rfl)
            · refine ok_aload_n F dX8_readsKinds_69 0 rfl ?_
              refine ok_iconst F dX8_readsKinds_70 ?_
              refine ok_aload_n F dX8_readsKinds_71 0 rfl ?_
              refine ok_getf (v := ma 0 10) F dX8_readsKinds_72 kF_X8_124 sh_0 rfl rfl ?_
              refine ok_callv F [pI 3, pI (ma 0 10)] dX8_readsKinds_75 kM_X8_fails kI_X8_fails kV_X8_fails kL_X8_120 (ci := 8) rfl sh_0 rfl (by decide) (Nat.le_of_ble_eq_true rfl) rfl (m_X8_fails _ 3 (ma 0 10) ma (by have := hoA.2.2.1; omega)) ?_
              rintro _ m_16 ⟨rfl, e_17⟩
              have eF := e_17
              refine ok_lvp [0, 1, 2, 3] (lv' := [(0, pR 0), (1, pI g), (2, pI (m 2 0)), (3, pI z_2)]) rfl ?_
              refine hJ_78 m_16 ?_
              first
                | (rw [hkB, if_neg (by omega)]; done)
                | (rw [hkB, if_pos (by omega), eF]; rfl)
        refine ok_if_eq F 56 dX8_readsKinds_26 (by decide) (by omega) (fun c_18 => ?_) (fun c_18 => ?_)
        · refine ok_lvp [2, 3, 1, 0] (lv' := [(0, pR 0), (1, pI g), (2, pI (m 2 0)), (3, pI z_2)]) rfl ?_
          refine hJ_56 m_3 ?_
          first
            | (rw [hkA, if_neg (by omega)]; done)
            | (rw [hkA, if_pos (by omega), eF]; rfl)
        · refine ok_iload_n F dX8_readsKinds_29 1 rfl ?_
          refine ok_if_le F 56 dX8_readsKinds_30 (by decide) (by omega) (fun c_19 => ?_) (fun c_19 => ?_)
          · refine ok_lvp [2, 3, 1, 0] (lv' := [(0, pR 0), (1, pI g), (2, pI (m 2 0)), (3, pI z_2)]) rfl ?_
            refine hJ_56 m_3 ?_
            first
              | (rw [hkA, if_neg (by omega)]; done)
              | (rw [hkA, if_pos (by omega), eF]; rfl)
          · have hi := hH2 (3 + m 2 0 - 1).toNat (by omega)
            refine ok_iload_n F dX8_readsKinds_33 0 rfl ?_
            refine ok_aload_n F dX8_readsKinds_34 2 rfl ?_
            refine ok_getr F dX8_readsKinds_35 kF_X8_13 sh_0 rfl ?_
            refine ok_iconst F dX8_readsKinds_38 ?_
            refine ok_iload_n F dX8_readsKinds_39 1 rfl ?_
            refine ok_iadd F dX8_readsKinds_40 ?_
            refine ok_iconst F dX8_readsKinds_41 ?_
            refine ok_isub F dX8_readsKinds_42 ?_
            refine ok_iald (v := m_3 2 (((3 + (m 2 0)) - 1).toNat)) F dX8_readsKinds_43 sh_2 (by first | decide | assumption) (by omega) (by omega) rfl ?_
            refine ok_icmp_gt F 56 dX8_readsKinds_44 (by decide) (by omega) (by omega) (fun c_20 => ?_) (fun c_20 => ?_)
            · refine ok_lvp [2, 3, 1, 0] (lv' := [(0, pR 0), (1, pI g), (2, pI (m 2 0)), (3, pI z_2)]) rfl ?_
              refine hJ_56 m_3 ?_
              first
                | (rw [hkA, if_neg (by omega)]; done)
                | (rw [hkA, if_pos (by omega), eF]; rfl)
            · refine ok_aload_n F dX8_readsKinds_47 2 rfl ?_
              refine ok_iconst F dX8_readsKinds_48 ?_
              refine ok_aload_n F dX8_readsKinds_49 2 rfl ?_
              refine ok_getf (v := m_3 0 10) F dX8_readsKinds_50 kF_X8_124 sh_0 rfl rfl ?_
              refine ok_callv F [pI 2, pI (m_3 0 10)] dX8_readsKinds_53 kM_X8_fails kI_X8_fails kV_X8_fails kL_X8_120 (ci := 8) rfl sh_0 rfl (by decide) (Nat.le_of_ble_eq_true rfl) rfl (m_X8_fails _ 2 (m_3 0 10) m_3 (by have := hn1.2.2.1; omega)) ?_
              rintro _ m_21 ⟨rfl, e_22⟩
              have eF := e_22
              refine ok_lvp [2, 3, 1, 0] (lv' := [(0, pR 0), (1, pI g), (2, pI (m 2 0)), (3, pI z_2)]) rfl ?_
              refine hJ_56 m_21 ?_
              first
                | (rw [hkA, if_neg (by omega)]; done)
                | (rw [hkA, if_pos (by omega), eF]; rfl)
  refine ok_lvp [1, 0] (lv' := [(0, pR 0), (1, pI 1)]) rfl ?_
  refine hL_2 _ 1 mem ?_ rfl
  exact ⟨Or.inr rfl, hRd, by omega, hH, Or.inr ⟨rfl, 10, by omega, rfl⟩⟩
