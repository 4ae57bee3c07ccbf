/-! the class: a part read -/
theorem fl_9 {g : Mem} {k p : Int} (h : g 0 9 = -1) : flM g k p 0 9 = 8 * p + k := by
  unfold flM
  rw [if_pos h, mset_eq]
def nxt (g : Mem) : Mem := mset (ptD g) 0 8 (ptP g + 1)
theorem RH.semi {g m m2 mv : Mem} (h : RH g m) (hs : sgn g (ptP g) = 59) (e : m2 = mset m 175 3 (ptP g)) (e2 : mv = mset m2 175 3 (ptP g + 1)) : RH (nxt g) mv := by
  have hok := h.2.1.2.2.2.1
  obtain ⟨s1, s2⟩ := ptS_ok hok hs
  have o : ∀ c, c ≠ 175 → mv c = m c := fun c hc => by rw [e2, mset_nka hc, e, mset_nka hc]
  have oj : ∀ j, j ≠ 3 → mv 175 j = m 175 j := fun j hj => by rw [e2, mset_ne (fun q => hj q.2), e, mset_ne (fun q => hj q.2)]
  have e7 : nxt g 0 7 = g 0 7 := by
    unfold nxt ptD
    rw [mset_ne (by decide), mset_ne (by decide)]
  have e9 : nxt g 0 9 = g 0 9 := by
    unfold nxt ptD
    rw [mset_ne (by decide), mset_ne (by decide)]
  have e8 : nxt g 0 8 = ptP g + 1 := mset_eq _ _ _ _
  exact h.of (by rw [e9]; exact h.1) (h.2.1.of (s2 6 (by decide)) e7 s1 (o 176 (by decide)) (oj 2 (by decide)) (by rw [e2, mset_eq, e8])) (s2 2 (by decide)) (s2 7 (by decide)) (fun c c1 c2 => o c (by omega)) (oj 6 (by decide))
theorem dX4_readPart_0 : decode cX4_readPart 0 = .ok (.aload_n 0, 1) := by decide +kernel
theorem dX4_readPart_1 : decode cX4_readPart 1 = .ok (.invokevirtual 48, 3) := by decide +kernel
theorem dX4_readPart_4 : decode cX4_readPart 4 = .ok (.bipush 59, 2) := by decide +kernel
theorem dX4_readPart_6 : decode cX4_readPart 6 = .ok (.if_icmp .eq 13, 3) := by decide +kernel
theorem dX4_readPart_9 : decode cX4_readPart 9 = .ok (.aload_n 0, 1) := by decide +kernel
theorem dX4_readPart_10 : decode cX4_readPart 10 = .ok (.aload_n 0, 1) := by decide +kernel
theorem dX4_readPart_11 : decode cX4_readPart 11 = .ok (.getfield 32, 3) := by decide +kernel
theorem dX4_readPart_14 : decode cX4_readPart 14 = .ok (.iconst 1, 1) := by decide +kernel
theorem dX4_readPart_15 : decode cX4_readPart 15 = .ok (.invokevirtual 59, 3) := by decide +kernel
theorem dX4_readPart_18 : decode cX4_readPart 18 = .ok (.ireturn, 1) := by decide +kernel
theorem dX4_readPart_19 : decode cX4_readPart 19 = .ok (.aload_n 0, 1) := by decide +kernel
theorem dX4_readPart_20 : decode cX4_readPart 20 = .ok (.dup, 1) := by decide +kernel
theorem dX4_readPart_21 : decode cX4_readPart 21 = .ok (.getfield 32, 3) := by decide +kernel
theorem dX4_readPart_24 : decode cX4_readPart 24 = .ok (.iconst 1, 1) := by decide +kernel
theorem dX4_readPart_25 : decode cX4_readPart 25 = .ok (.iadd, 1) := by decide +kernel
theorem dX4_readPart_26 : decode cX4_readPart 26 = .ok (.putfield 32, 3) := by decide +kernel
theorem dX4_readPart_29 : decode cX4_readPart 29 = .ok (.aload_n 0, 1) := by decide +kernel
theorem dX4_readPart_30 : decode cX4_readPart 30 = .ok (.invokevirtual 87, 3) := by decide +kernel
theorem dX4_readPart_33 : decode cX4_readPart 33 = .ok (.ifCond .ne 5, 3) := by decide +kernel
theorem dX4_readPart_36 : decode cX4_readPart 36 = .ok (.iconst 0, 1) := by decide +kernel
theorem dX4_readPart_37 : decode cX4_readPart 37 = .ok (.ireturn, 1) := by decide +kernel
theorem dX4_readPart_38 : decode cX4_readPart 38 = .ok (.aload_n 0, 1) := by decide +kernel
theorem dX4_readPart_39 : decode cX4_readPart 39 = .ok (.ldc 104, 2) := by decide +kernel
theorem dX4_readPart_41 : decode cX4_readPart 41 = .ok (.invokevirtual 92, 3) := by decide +kernel
theorem dX4_readPart_44 : decode cX4_readPart 44 = .ok (.ifCond .eq 10, 3) := by decide +kernel
theorem dX4_readPart_47 : decode cX4_readPart 47 = .ok (.aload_n 0, 1) := by decide +kernel
theorem dX4_readPart_48 : decode cX4_readPart 48 = .ok (.iconst 0, 1) := by decide +kernel
theorem dX4_readPart_49 : decode cX4_readPart 49 = .ok (.iconst 0, 1) := by decide +kernel
theorem dX4_readPart_50 : decode cX4_readPart 50 = .ok (.invokevirtual 106, 3) := by decide +kernel
theorem dX4_readPart_53 : decode cX4_readPart 53 = .ok (.ireturn, 1) := by decide +kernel
theorem dX4_readPart_54 : decode cX4_readPart 54 = .ok (.aload_n 0, 1) := by decide +kernel
theorem dX4_readPart_55 : decode cX4_readPart 55 = .ok (.ldc 109, 2) := by decide +kernel
theorem dX4_readPart_57 : decode cX4_readPart 57 = .ok (.invokevirtual 92, 3) := by decide +kernel
theorem dX4_readPart_60 : decode cX4_readPart 60 = .ok (.ifCond .eq 10, 3) := by decide +kernel
theorem dX4_readPart_63 : decode cX4_readPart 63 = .ok (.aload_n 0, 1) := by decide +kernel
theorem dX4_readPart_64 : decode cX4_readPart 64 = .ok (.iconst 1, 1) := by decide +kernel
theorem dX4_readPart_65 : decode cX4_readPart 65 = .ok (.iconst 0, 1) := by decide +kernel
theorem dX4_readPart_66 : decode cX4_readPart 66 = .ok (.invokevirtual 106, 3) := by decide +kernel
theorem dX4_readPart_69 : decode cX4_readPart 69 = .ok (.ireturn, 1) := by decide +kernel
theorem dX4_readPart_70 : decode cX4_readPart 70 = .ok (.aload_n 0, 1) := by decide +kernel
theorem dX4_readPart_71 : decode cX4_readPart 71 = .ok (.ldc 111, 2) := by decide +kernel
theorem dX4_readPart_73 : decode cX4_readPart 73 = .ok (.invokevirtual 92, 3) := by decide +kernel
theorem dX4_readPart_76 : decode cX4_readPart 76 = .ok (.ifCond .eq 10, 3) := by decide +kernel
theorem dX4_readPart_79 : decode cX4_readPart 79 = .ok (.aload_n 0, 1) := by decide +kernel
theorem dX4_readPart_80 : decode cX4_readPart 80 = .ok (.iconst 2, 1) := by decide +kernel
theorem dX4_readPart_81 : decode cX4_readPart 81 = .ok (.iconst 0, 1) := by decide +kernel
theorem dX4_readPart_82 : decode cX4_readPart 82 = .ok (.invokevirtual 106, 3) := by decide +kernel
theorem dX4_readPart_85 : decode cX4_readPart 85 = .ok (.ireturn, 1) := by decide +kernel
theorem dX4_readPart_86 : decode cX4_readPart 86 = .ok (.aload_n 0, 1) := by decide +kernel
theorem dX4_readPart_87 : decode cX4_readPart 87 = .ok (.ldc 113, 2) := by decide +kernel
theorem dX4_readPart_89 : decode cX4_readPart 89 = .ok (.invokevirtual 92, 3) := by decide +kernel
theorem dX4_readPart_92 : decode cX4_readPart 92 = .ok (.ifCond .eq 10, 3) := by decide +kernel
theorem dX4_readPart_95 : decode cX4_readPart 95 = .ok (.aload_n 0, 1) := by decide +kernel
theorem dX4_readPart_96 : decode cX4_readPart 96 = .ok (.iconst 3, 1) := by decide +kernel
theorem dX4_readPart_97 : decode cX4_readPart 97 = .ok (.iconst 1, 1) := by decide +kernel
theorem dX4_readPart_98 : decode cX4_readPart 98 = .ok (.invokevirtual 106, 3) := by decide +kernel
theorem dX4_readPart_101 : decode cX4_readPart 101 = .ok (.ireturn, 1) := by decide +kernel
theorem dX4_readPart_102 : decode cX4_readPart 102 = .ok (.aload_n 0, 1) := by decide +kernel
theorem dX4_readPart_103 : decode cX4_readPart 103 = .ok (.ldc 115, 2) := by decide +kernel
theorem dX4_readPart_105 : decode cX4_readPart 105 = .ok (.invokevirtual 92, 3) := by decide +kernel
theorem dX4_readPart_108 : decode cX4_readPart 108 = .ok (.ifCond .eq 8, 3) := by decide +kernel
theorem dX4_readPart_111 : decode cX4_readPart 111 = .ok (.aload_n 0, 1) := by decide +kernel
theorem dX4_readPart_112 : decode cX4_readPart 112 = .ok (.invokevirtual 117, 3) := by decide +kernel
theorem dX4_readPart_115 : decode cX4_readPart 115 = .ok (.ireturn, 1) := by decide +kernel
theorem dX4_readPart_116 : decode cX4_readPart 116 = .ok (.aload_n 0, 1) := by decide +kernel
theorem dX4_readPart_117 : decode cX4_readPart 117 = .ok (.ldc 120, 2) := by decide +kernel
theorem dX4_readPart_119 : decode cX4_readPart 119 = .ok (.invokevirtual 92, 3) := by decide +kernel
theorem dX4_readPart_122 : decode cX4_readPart 122 = .ok (.ifCond .eq 8, 3) := by decide +kernel
theorem dX4_readPart_125 : decode cX4_readPart 125 = .ok (.aload_n 0, 1) := by decide +kernel
theorem dX4_readPart_126 : decode cX4_readPart 126 = .ok (.invokevirtual 122, 3) := by decide +kernel
theorem dX4_readPart_129 : decode cX4_readPart 129 = .ok (.ireturn, 1) := by decide +kernel
theorem dX4_readPart_130 : decode cX4_readPart 130 = .ok (.aload_n 0, 1) := by decide +kernel
theorem dX4_readPart_131 : decode cX4_readPart 131 = .ok (.aload_n 0, 1) := by decide +kernel
theorem dX4_readPart_132 : decode cX4_readPart 132 = .ok (.getfield 63, 3) := by decide +kernel
theorem dX4_readPart_135 : decode cX4_readPart 135 = .ok (.iconst 1, 1) := by decide +kernel
theorem dX4_readPart_136 : decode cX4_readPart 136 = .ok (.invokevirtual 59, 3) := by decide +kernel
theorem dX4_readPart_139 : decode cX4_readPart 139 = .ok (.ireturn, 1) := by decide +kernel
set_option maxHeartbeats 4000000 in
set_option maxRecDepth 100000 in
theorem m_X4_readPart (l : Launch) (g : Mem) (mem : Mem) (hH : RH g mem) (hk1 : 1 ≤ g 2 0) : Ret shp l yX4_readPart cX4_readPart 1 (some .boolean) 5 [pR 175] mem (fun rv mv => ∃ z, rv = some (pI z) ∧ (∀ c, (c < 32 ∨ 42 < c) → c ≠ 175 → mv c = mem c) ∧ (z = 1 ∧ goesP g = true ∧ RH (partM (nxt g)) mv ∧ 1 ≤ (partM (nxt g)) 2 0 ∧ mv 175 7 = mem 175 7 ∨ z = 0 ∧ (goesP g = true ∧ (partM (nxt g)) 0 9 ≠ -1 ∧ mv 175 7 = (partM (nxt g)) 0 9 ∨ goesP g = false ∧ mv 175 7 = 8 * ptP g + 1))) := by
  refine ret_of (by decide +kernel) (Nat.le_of_ble_eq_true rfl) (fun X hX F G => ?_)
  show Ok shp X 1 0 [(0, pR 175)] [] mem
  have hok := hH.2.1.2.2.2.1
  refine ok_aload_n F dX4_readPart_0 0 rfl ?_
  refine ok_callv F [] dX4_readPart_1 kM_X4_next kI_X4_next kV_X4_next kL_X4_48 (ci := 4) rfl sh_175 rfl (by decide) (Nat.le_of_ble_eq_true rfl) rfl (m_X4_next _ g mem (hH.2.1)) ?_
  rintro _ m_1 ⟨rfl, e_2⟩
  have eN := e_2
  have hsb := sgn_bd g (ptP g)
  have x3 : m_1 175 3 = ptP g := by rw [eN]; exact mset_eq _ _ _ _
  refine ok_bipush F dX4_readPart_4 rfl ?_
  refine ok_icmp_eq F 19 dX4_readPart_6 (by decide) (by omega) (by omega) (fun c_3 => ?_) (fun c_3 => ?_)
  · refine ok_aload_n F dX4_readPart_19 0 rfl ?_
    refine ok_dup F dX4_readPart_20 rfl ?_
    refine ok_getf (v := m_1 175 3) F dX4_readPart_21 kF_X4_32 sh_175 rfl rfl ?_
    refine ok_iconst F dX4_readPart_24 ?_
    refine ok_iadd F dX4_readPart_25 ?_
    refine ok_putf F dX4_readPart_26 kF_X4_32 sh_175 rfl rfl rfl (fun m_4 e_5 => ?_)
    have hs59 : sgn g (ptP g) = 59 := by omega
    have hS : RH (nxt g) m_4 := hH.semi hs59 eN (by rw [e_5, x3])
    have hgo : goesP g = true := decide_eq_true ⟨hH.1, hs59⟩
    obtain ⟨mS, hmS⟩ : ∃ x, x = m_4 := ⟨_, rfl⟩
    have hSc : ∀ c, c ≠ 175 → mS c = mem c := fun c hc => by rw [hmS, e_5, mset_nka hc, eN, mset_nka hc]
    have hS7 : mS 175 7 = mem 175 7 := by rw [hmS, e_5, mset_ne (by decide), eN, mset_ne (by decide)]
    rw [← hmS] at hS
    have hok1 := hS.2.1.2.2.2.1
    obtain ⟨pD, pT, pP, aD, aT, eP1, pid, hle, pN, p99, p9t⟩ := pt_ok hok1
    have hn20 : nxt g 2 0 = g 2 0 := congrFun ((ptS_ok hok hs59).2 2 (by decide)) 0
    refine ok_aload_n F dX4_readPart_29 0 rfl ?_
    refine ok_callv F [] dX4_readPart_30 kM_X4_readWord kI_X4_readWord kV_X4_readWord kL_X4_87 (ci := 4) rfl sh_175 rfl (by decide) (Nat.le_of_ble_eq_true rfl) rfl (m_X4_readWord _ (nxt g) m_4 (by rw [← hmS]; exact hS.2.1)) ?_
    rintro _ m_7 ⟨z_6, rfl, r_8⟩
    obtain ⟨r1, r2⟩ := id r_8
    obtain ⟨mW, hmW⟩ : ∃ x, x = m_7 := ⟨_, rfl⟩
    rw [← hmW] at r1 r2
    have hz01 : z_6 = 1 ∨ z_6 = 0 := r2.elim (fun w => Or.inl w.1) (fun w => Or.inr w.1)
    refine ok_if_ne F 38 dX4_readPart_33 (by decide) (by omega) (fun c_9 => ?_) (fun c_9 => ?_)
    · obtain ⟨_, d1, d2, d3, d4⟩ := r2.resolve_right (fun q => by have := q.1; omega)
      clear r2
      rw [← hmS] at r1 d4
      have hRTt : RT (ptT (nxt g)) mW := hS.2.1.of (aT 6 (by decide)) (by unfold ptT ptD; rw [mset_ne (by decide), mset_ne (by decide)]) pT (r1 176 (by decide)) (d4 2 (by decide) (by decide)) (by rw [d3]; exact (mset_eq _ _ _ _).symm)
      have hHt : RH (ptT (nxt g)) mW := hS.of (by rw [p9t]; exact hS.1) hRTt (aT 2 (by decide)) (aT 7 (by decide)) (fun c c1 c2 => r1 c (by omega)) (d4 6 (by decide) (by decide))
      have hW7 : mW 175 7 = mem 175 7 := by rw [d4 7 (by decide) (by decide)]; exact hS7
      have hWc : ∀ c, c ≠ 175 → mW c = mem c := fun c hc => by rw [r1 c hc]; exact hSc c hc
      refine ok_aload_n F dX4_readPart_38 0 rfl ?_
      refine ok_ldcs (i := 1) F dX4_readPart_39 (List.mem_of_getElem? (i := 1) rfl) ?_
      refine ok_callv F [pR (1000 + 1)] dX4_readPart_41 kM_X4_spells kI_X4_spells kV_X4_spells kL_X4_92 (ci := 4) rfl sh_175 rfl (by decide) (Nat.le_of_ble_eq_true rfl) rfl (m_X4_spells _ (nxt g) 1 m_7 (by omega) (by rw [← hmW]; exact hRTt) (hok1) (by rw [← hmW]; exact d2)) ?_
      rintro _ _ ⟨rfl, rfl⟩
      refine ok_if_eq F 54 dX4_readPart_44 (by decide) (by omega) (fun c_10 => ?_) (fun c_10 => ?_)
      · have w1 : ptW (nxt g) 1 = false := by
          cases q : ptW (nxt g) 1
          · rfl
          · rw [if_pos q] at c_10; omega
        refine ok_aload_n F dX4_readPart_54 0 rfl ?_
        refine ok_ldcs (i := 2) F dX4_readPart_55 (List.mem_of_getElem? (i := 2) rfl) ?_
        refine ok_callv F [pR (1000 + 2)] dX4_readPart_57 kM_X4_spells kI_X4_spells kV_X4_spells kL_X4_92 (ci := 4) rfl sh_175 rfl (by decide) (Nat.le_of_ble_eq_true rfl) rfl (m_X4_spells _ (nxt g) 2 m_7 (by omega) (by rw [← hmW]; exact hRTt) (hok1) (by rw [← hmW]; exact d2)) ?_
        rintro _ _ ⟨rfl, rfl⟩
        refine ok_if_eq F 70 dX4_readPart_60 (by decide) (by omega) (fun c_11 => ?_) (fun c_11 => ?_)
        · have w2 : ptW (nxt g) 2 = false := by
            cases q : ptW (nxt g) 2
            · rfl
            · rw [if_pos q] at c_11; omega
          refine ok_aload_n F dX4_readPart_70 0 rfl ?_
          refine ok_ldcs (i := 3) F dX4_readPart_71 (List.mem_of_getElem? (i := 3) rfl) ?_
          refine ok_callv F [pR (1000 + 3)] dX4_readPart_73 kM_X4_spells kI_X4_spells kV_X4_spells kL_X4_92 (ci := 4) rfl sh_175 rfl (by decide) (Nat.le_of_ble_eq_true rfl) rfl (m_X4_spells _ (nxt g) 3 m_7 (by omega) (by rw [← hmW]; exact hRTt) (hok1) (by rw [← hmW]; exact d2)) ?_
          rintro _ _ ⟨rfl, rfl⟩
          refine ok_if_eq F 86 dX4_readPart_76 (by decide) (by omega) (fun c_12 => ?_) (fun c_12 => ?_)
          · have w3 : ptW (nxt g) 3 = false := by
              cases q : ptW (nxt g) 3
              · rfl
              · rw [if_pos q] at c_12; omega
            refine ok_aload_n F dX4_readPart_86 0 rfl ?_
            refine ok_ldcs (i := 4) F dX4_readPart_87 (List.mem_of_getElem? (i := 4) rfl) ?_
            refine ok_callv F [pR (1000 + 4)] dX4_readPart_89 kM_X4_spells kI_X4_spells kV_X4_spells kL_X4_92 (ci := 4) rfl sh_175 rfl (by decide) (Nat.le_of_ble_eq_true rfl) rfl (m_X4_spells _ (nxt g) 4 m_7 (by omega) (by rw [← hmW]; exact hRTt) (hok1) (by rw [← hmW]; exact d2)) ?_
            rintro _ _ ⟨rfl, rfl⟩
            refine ok_if_eq F 102 dX4_readPart_92 (by decide) (by omega) (fun c_13 => ?_) (fun c_13 => ?_)
            · have w4 : ptW (nxt g) 4 = false := by
                cases q : ptW (nxt g) 4
                · rfl
                · rw [if_pos q] at c_13; omega
              refine ok_aload_n F dX4_readPart_102 0 rfl ?_
              refine ok_ldcs (i := 5) F dX4_readPart_103 (List.mem_of_getElem? (i := 5) rfl) ?_
              refine ok_callv F [pR (1000 + 5)] dX4_readPart_105 kM_X4_spells kI_X4_spells kV_X4_spells kL_X4_92 (ci := 4) rfl sh_175 rfl (by decide) (Nat.le_of_ble_eq_true rfl) rfl (m_X4_spells _ (nxt g) 5 m_7 (by omega) (by rw [← hmW]; exact hRTt) (hok1) (by rw [← hmW]; exact d2)) ?_
              rintro _ _ ⟨rfl, rfl⟩
              refine ok_if_eq F 116 dX4_readPart_108 (by decide) (by omega) (fun c_14 => ?_) (fun c_14 => ?_)
              · have w5 : ptW (nxt g) 5 = false := by
                  cases q : ptW (nxt g) 5
                  · rfl
                  · rw [if_pos q] at c_14; omega
                refine ok_aload_n F dX4_readPart_116 0 rfl ?_
                refine ok_ldcs (i := 6) F dX4_readPart_117 (List.mem_of_getElem? (i := 6) rfl) ?_
                refine ok_callv F [pR (1000 + 6)] dX4_readPart_119 kM_X4_spells kI_X4_spells kV_X4_spells kL_X4_92 (ci := 4) rfl sh_175 rfl (by decide) (Nat.le_of_ble_eq_true rfl) rfl (m_X4_spells _ (nxt g) 6 m_7 (by omega) (by rw [← hmW]; exact hRTt) (hok1) (by rw [← hmW]; exact d2)) ?_
                rintro _ _ ⟨rfl, rfl⟩
                refine ok_if_eq F 130 dX4_readPart_122 (by decide) (by omega) (fun c_15 => ?_) (fun c_15 => ?_)
                · have w6 : ptW (nxt g) 6 = false := by
                    cases q : ptW (nxt g) 6
                    · rfl
                    · rw [if_pos q] at c_15; omega
                  refine ok_aload_n F dX4_readPart_130 0 rfl ?_
                  refine ok_aload_n F dX4_readPart_131 0 rfl ?_
                  refine ok_getf (v := m_7 175 4) F dX4_readPart_132 kF_X4_63 sh_175 rfl rfl ?_
                  refine ok_iconst F dX4_readPart_135 ?_
                  refine ok_callv F [pI (m_7 175 4), pI 1] dX4_readPart_136 kM_X4_wrong kI_X4_wrong kV_X4_wrong kL_X4_59 (ci := 4) rfl sh_175 rfl (by decide) (Nat.le_of_ble_eq_true rfl) rfl (m_X4_wrong _ (m_7 175 4) 1 m_7) ?_
                  rintro _ m_16 ⟨rfl, e_17⟩
                  have eW := e_17
                  refine ok_zret F G dX4_readPart_139 (rfl) ?_
                  have hPM : (partM (nxt g)) = flM (ptD (nxt g)) 1 (ptP (nxt g)) := by unfold partM; rw [if_neg (by rw [w1]; decide), if_neg (by rw [w2]; decide), if_neg (by rw [w3]; decide), if_neg (by rw [w4]; decide), if_neg (by rw [w5]; decide), if_neg (by rw [w6]; decide)]
                  have hf : (partM (nxt g)) 0 9 = 8 * ptP (nxt g) + 1 := by rw [hPM, fl_9 (by rw [p99]; exact hS.1)]
                  refine ⟨_, rfl, fun c _ h5 => by rw [eW, mset_nka h5, ← hmW]; exact hWc c h5, Or.inr ⟨rfl, Or.inl ⟨hgo, by rw [hf]; omega, by rw [hf, eW, mset_eq, ← hmW, d2]⟩⟩⟩
                · have w6 : ptW (nxt g) 6 = true := by
                    by_cases q : ptW (nxt g) 6 = true
                    · exact q
                    · rw [if_neg q] at c_15; omega
                  refine ok_aload_n F dX4_readPart_125 0 rfl ?_
                  refine ok_callv F [] dX4_readPart_126 kM_X4_readSale kI_X4_readSale kV_X4_readSale kL_X4_122 (ci := 4) rfl sh_175 rfl (by decide) (Nat.le_of_ble_eq_true rfl) rfl (m_X4_readSale _ (ptT (nxt g)) m_7 (by rw [← hmW]; exact hHt) (by rw [← hmW, d2]; exact pP) (by rw [aT 2 (by decide), hn20]; exact hk1)) ?_
                  rintro _ m_19 ⟨z_18, rfl, r_20⟩
                  obtain ⟨q1, q2⟩ := id r_20
                  obtain ⟨mR, hmR⟩ : ∃ x, x = m_19 := ⟨_, rfl⟩
                  rw [← hmR] at q1 q2
                  rw [← hmW, d2] at q2
                  have hz09 : z_18 = 1 ∨ z_18 = 0 := q2.elim (fun w => Or.inl w.1) (fun w => Or.inr w.1)
                  have hPM : (partM (nxt g)) = saleM (ptT (nxt g)) (ptP (nxt g)) := by unfold partM; rw [if_neg (by rw [w1]; decide), if_neg (by rw [w2]; decide), if_neg (by rw [w3]; decide), if_neg (by rw [w4]; decide), if_neg (by rw [w5]; decide), if_pos w6]
                  rw [← hPM] at q2
                  refine ok_zret F G dX4_readPart_129 (by rcases hz09 with q | q <;> rw [q] <;> rfl) ?_
                  refine ⟨_, rfl, fun c hc h5 => by rw [← hmR, q1 c hc h5, ← hmW]; exact hWc c h5, ?_⟩
                  rw [← hmR]
                  rcases q2 with ⟨z1, z2, z3, z4⟩ | ⟨z1, z2, z3⟩
                  · exact Or.inl ⟨z1, hgo, z2, by rw [z3, aT 2 (by decide), hn20]; exact hk1, by rw [z4]; exact hW7⟩
                  · exact Or.inr ⟨z1, Or.inl ⟨hgo, z2, z3⟩⟩
              · have w5 : ptW (nxt g) 5 = true := by
                  by_cases q : ptW (nxt g) 5 = true
                  · exact q
                  · rw [if_neg q] at c_14; omega
                refine ok_aload_n F dX4_readPart_111 0 rfl ?_
                refine ok_callv F [] dX4_readPart_112 kM_X4_readDay kI_X4_readDay kV_X4_readDay kL_X4_117 (ci := 4) rfl sh_175 rfl (by decide) (Nat.le_of_ble_eq_true rfl) rfl (m_X4_readDay _ (ptT (nxt g)) m_7 (by rw [← hmW]; exact hHt) (by rw [← hmW, d2]; exact pP) (by rw [aT 2 (by decide), hn20]; exact hk1)) ?_
                rintro _ m_22 ⟨z_21, rfl, r_23⟩
                obtain ⟨q1, q2⟩ := id r_23
                obtain ⟨mR, hmR⟩ : ∃ x, x = m_22 := ⟨_, rfl⟩
                rw [← hmR] at q1 q2
                rw [← hmW, d2] at q2
                have hz09 : z_21 = 1 ∨ z_21 = 0 := q2.elim (fun w => Or.inl w.1) (fun w => Or.inr w.1)
                have hPM : (partM (nxt g)) = dayM (ptT (nxt g)) (ptP (nxt g)) := by unfold partM; rw [if_neg (by rw [w1]; decide), if_neg (by rw [w2]; decide), if_neg (by rw [w3]; decide), if_neg (by rw [w4]; decide), if_pos w5]
                rw [← hPM] at q2
                refine ok_zret F G dX4_readPart_115 (by rcases hz09 with q | q <;> rw [q] <;> rfl) ?_
                refine ⟨_, rfl, fun c hc h5 => by rw [← hmR, q1 c hc h5, ← hmW]; exact hWc c h5, ?_⟩
                rw [← hmR]
                rcases q2 with ⟨z1, z2, z3, z4⟩ | ⟨z1, z2, z3⟩
                · exact Or.inl ⟨z1, hgo, z2, by rw [z3, aT 2 (by decide), hn20]; exact hk1, by rw [z4]; exact hW7⟩
                · exact Or.inr ⟨z1, Or.inl ⟨hgo, z2, z3⟩⟩
            · have w4 : ptW (nxt g) 4 = true := by
                by_cases q : ptW (nxt g) 4 = true
                · exact q
                · rw [if_neg q] at c_13; omega
              refine ok_aload_n F dX4_readPart_95 0 rfl ?_
              refine ok_iconst F dX4_readPart_96 ?_
              refine ok_iconst F dX4_readPart_97 ?_
              refine ok_callv F [pI 3, pI 1] dX4_readPart_98 kM_X4_readRow kI_X4_readRow kV_X4_readRow kL_X4_106 (ci := 4) rfl sh_175 rfl (by decide) (Nat.le_of_ble_eq_true rfl) rfl (m_X4_readRow_3 _ (ptT (nxt g)) m_7 (by rw [← hmW]; exact hHt) (by rw [← hmW, d2]; exact pP)) ?_
              rintro _ m_25 ⟨z_24, rfl, r_26⟩
              obtain ⟨q1, q2⟩ := id r_26
              obtain ⟨mR, hmR⟩ : ∃ x, x = m_25 := ⟨_, rfl⟩
              rw [← hmR] at q1 q2
              rw [← hmW, d2] at q2
              have hz09 : z_24 = 1 ∨ z_24 = 0 := q2.elim (fun w => Or.inl w.1) (fun w => Or.inr w.1)
              have hPM : (partM (nxt g)) = readRowM (ptT (nxt g)) 3 (ptP (nxt g)) 35 1 := by unfold partM; rw [if_neg (by rw [w1]; decide), if_neg (by rw [w2]; decide), if_neg (by rw [w3]; decide), if_pos w4]
              rw [← hPM] at q2
              refine ok_zret F G dX4_readPart_101 (by rcases hz09 with q | q <;> rw [q] <;> rfl) ?_
              refine ⟨_, rfl, fun c hc h5 => by rw [← hmR, q1 c hc h5, ← hmW]; exact hWc c h5, ?_⟩
              rw [← hmR]
              rcases q2 with ⟨z1, z2, z3, z4⟩ | ⟨z1, z2, z3⟩
              · exact Or.inl ⟨z1, hgo, z2, by rw [z3, aT 2 (by decide), hn20]; exact hk1, by rw [z4]; exact hW7⟩
              · exact Or.inr ⟨z1, Or.inl ⟨hgo, z2, z3⟩⟩
          · have w3 : ptW (nxt g) 3 = true := by
              by_cases q : ptW (nxt g) 3 = true
              · exact q
              · rw [if_neg q] at c_12; omega
            refine ok_aload_n F dX4_readPart_79 0 rfl ?_
            refine ok_iconst F dX4_readPart_80 ?_
            refine ok_iconst F dX4_readPart_81 ?_
            refine ok_callv F [pI 2, pI 0] dX4_readPart_82 kM_X4_readRow kI_X4_readRow kV_X4_readRow kL_X4_106 (ci := 4) rfl sh_175 rfl (by decide) (Nat.le_of_ble_eq_true rfl) rfl (m_X4_readRow_2 _ (ptT (nxt g)) m_7 (by rw [← hmW]; exact hHt) (by rw [← hmW, d2]; exact pP)) ?_
            rintro _ m_28 ⟨z_27, rfl, r_29⟩
            obtain ⟨q1, q2⟩ := id r_29
            obtain ⟨mR, hmR⟩ : ∃ x, x = m_28 := ⟨_, rfl⟩
            rw [← hmR] at q1 q2
            rw [← hmW, d2] at q2
            have hz09 : z_27 = 1 ∨ z_27 = 0 := q2.elim (fun w => Or.inl w.1) (fun w => Or.inr w.1)
            have hPM : (partM (nxt g)) = readRowM (ptT (nxt g)) 2 (ptP (nxt g)) 27 0 := by unfold partM; rw [if_neg (by rw [w1]; decide), if_neg (by rw [w2]; decide), if_pos w3]
            rw [← hPM] at q2
            refine ok_zret F G dX4_readPart_85 (by rcases hz09 with q | q <;> rw [q] <;> rfl) ?_
            refine ⟨_, rfl, fun c hc h5 => by rw [← hmR, q1 c hc h5, ← hmW]; exact hWc c h5, ?_⟩
            rw [← hmR]
            rcases q2 with ⟨z1, z2, z3, z4⟩ | ⟨z1, z2, z3⟩
            · exact Or.inl ⟨z1, hgo, z2, by rw [z3, aT 2 (by decide), hn20]; exact hk1, by rw [z4]; exact hW7⟩
            · exact Or.inr ⟨z1, Or.inl ⟨hgo, z2, z3⟩⟩
        · have w2 : ptW (nxt g) 2 = true := by
            by_cases q : ptW (nxt g) 2 = true
            · exact q
            · rw [if_neg q] at c_11; omega
          refine ok_aload_n F dX4_readPart_63 0 rfl ?_
          refine ok_iconst F dX4_readPart_64 ?_
          refine ok_iconst F dX4_readPart_65 ?_
          refine ok_callv F [pI 1, pI 0] dX4_readPart_66 kM_X4_readRow kI_X4_readRow kV_X4_readRow kL_X4_106 (ci := 4) rfl sh_175 rfl (by decide) (Nat.le_of_ble_eq_true rfl) rfl (m_X4_readRow_1 _ (ptT (nxt g)) m_7 (by rw [← hmW]; exact hHt) (by rw [← hmW, d2]; exact pP)) ?_
          rintro _ m_31 ⟨z_30, rfl, r_32⟩
          obtain ⟨q1, q2⟩ := id r_32
          obtain ⟨mR, hmR⟩ : ∃ x, x = m_31 := ⟨_, rfl⟩
          rw [← hmR] at q1 q2
          rw [← hmW, d2] at q2
          have hz09 : z_30 = 1 ∨ z_30 = 0 := q2.elim (fun w => Or.inl w.1) (fun w => Or.inr w.1)
          have hPM : (partM (nxt g)) = readRowM (ptT (nxt g)) 1 (ptP (nxt g)) 19 0 := by unfold partM; rw [if_neg (by rw [w1]; decide), if_pos w2]
          rw [← hPM] at q2
          refine ok_zret F G dX4_readPart_69 (by rcases hz09 with q | q <;> rw [q] <;> rfl) ?_
          refine ⟨_, rfl, fun c hc h5 => by rw [← hmR, q1 c hc h5, ← hmW]; exact hWc c h5, ?_⟩
          rw [← hmR]
          rcases q2 with ⟨z1, z2, z3, z4⟩ | ⟨z1, z2, z3⟩
          · exact Or.inl ⟨z1, hgo, z2, by rw [z3, aT 2 (by decide), hn20]; exact hk1, by rw [z4]; exact hW7⟩
          · exact Or.inr ⟨z1, Or.inl ⟨hgo, z2, z3⟩⟩
      · have w1 : ptW (nxt g) 1 = true := by
          by_cases q : ptW (nxt g) 1 = true
          · exact q
          · rw [if_neg q] at c_10; omega
        refine ok_aload_n F dX4_readPart_47 0 rfl ?_
        refine ok_iconst F dX4_readPart_48 ?_
        refine ok_iconst F dX4_readPart_49 ?_
        refine ok_callv F [pI 0, pI 0] dX4_readPart_50 kM_X4_readRow kI_X4_readRow kV_X4_readRow kL_X4_106 (ci := 4) rfl sh_175 rfl (by decide) (Nat.le_of_ble_eq_true rfl) rfl (m_X4_readRow_0 _ (ptT (nxt g)) m_7 (by rw [← hmW]; exact hHt) (by rw [← hmW, d2]; exact pP)) ?_
        rintro _ m_34 ⟨z_33, rfl, r_35⟩
        obtain ⟨q1, q2⟩ := id r_35
        obtain ⟨mR, hmR⟩ : ∃ x, x = m_34 := ⟨_, rfl⟩
        rw [← hmR] at q1 q2
        rw [← hmW, d2] at q2
        have hz09 : z_33 = 1 ∨ z_33 = 0 := q2.elim (fun w => Or.inl w.1) (fun w => Or.inr w.1)
        have hPM : (partM (nxt g)) = readRowM (ptT (nxt g)) 0 (ptP (nxt g)) 11 0 := by unfold partM; rw [if_pos w1]
        rw [← hPM] at q2
        refine ok_zret F G dX4_readPart_53 (by rcases hz09 with q | q <;> rw [q] <;> rfl) ?_
        refine ⟨_, rfl, fun c hc h5 => by rw [← hmR, q1 c hc h5, ← hmW]; exact hWc c h5, ?_⟩
        rw [← hmR]
        rcases q2 with ⟨z1, z2, z3, z4⟩ | ⟨z1, z2, z3⟩
        · exact Or.inl ⟨z1, hgo, z2, by rw [z3, aT 2 (by decide), hn20]; exact hk1, by rw [z4]; exact hW7⟩
        · exact Or.inr ⟨z1, Or.inl ⟨hgo, z2, z3⟩⟩
    · refine ok_iconst F dX4_readPart_36 ?_
      refine ok_zret F G dX4_readPart_37 (by first | rfl | exact zb_nar) ?_
      obtain ⟨_, d1, d2⟩ := r2.resolve_left (fun q => by have := q.1; omega)
      have hw : ∀ w, w < 13 → ptW (nxt g) w = false := fun w hw => ptW_no hw d1
      have w1 := hw 1 (by decide)
      have w2 := hw 2 (by decide)
      have w3 := hw 3 (by decide)
      have w4 := hw 4 (by decide)
      have w5 := hw 5 (by decide)
      have w6 := hw 6 (by decide)
      have hPM : (partM (nxt g)) = flM (ptD (nxt g)) 1 (ptP (nxt g)) := by unfold partM; rw [if_neg (by rw [w1]; decide), if_neg (by rw [w2]; decide), if_neg (by rw [w3]; decide), if_neg (by rw [w4]; decide), if_neg (by rw [w5]; decide), if_neg (by rw [w6]; decide)]
      have hf : (partM (nxt g)) 0 9 = 8 * ptP (nxt g) + 1 := by rw [hPM, fl_9 (by rw [p99]; exact hS.1)]
      refine ⟨_, rfl, fun c _ h5 => by rw [← hmW, r1 c h5, ← hmS]; exact hSc c h5, Or.inr ⟨rfl, Or.inl ⟨hgo, by rw [hf]; omega, by rw [hf, ← hmW]; exact d2⟩⟩⟩
  · refine ok_aload_n F dX4_readPart_9 0 rfl ?_
    refine ok_aload_n F dX4_readPart_10 0 rfl ?_
    refine ok_getf (v := m_1 175 3) F dX4_readPart_11 kF_X4_32 sh_175 rfl rfl ?_
    refine ok_iconst F dX4_readPart_14 ?_
    refine ok_callv F [pI (m_1 175 3), pI 1] dX4_readPart_15 kM_X4_wrong kI_X4_wrong kV_X4_wrong kL_X4_59 (ci := 4) rfl sh_175 rfl (by decide) (Nat.le_of_ble_eq_true rfl) rfl (m_X4_wrong _ (m_1 175 3) 1 m_1) ?_
    rintro _ m_36 ⟨rfl, e_37⟩
    have eW := e_37
    refine ok_zret F G dX4_readPart_18 (rfl) ?_
    refine ⟨_, rfl, fun c _ h5 => by rw [eW, mset_nka h5, eN, mset_nka h5], Or.inr ⟨rfl, Or.inr ⟨decide_eq_false (fun q => by have := q.2; omega), by rw [eW, mset_eq, x3]⟩⟩⟩
