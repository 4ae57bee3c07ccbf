/-! the class: a day drawn -/
theorem dX7_drawn_0 : decode cX7_drawn 0 = .ok (.aload_n 0, 1) := by decide +kernel
theorem dX7_drawn_1 : decode cX7_drawn 1 = .ok (.getfield 10, 3) := by decide +kernel
theorem dX7_drawn_4 : decode cX7_drawn 4 = .ok (.getfield 103, 3) := by decide +kernel
theorem dX7_drawn_7 : decode cX7_drawn 7 = .ok (.ifCond .eq 14, 3) := by decide +kernel
theorem dX7_drawn_10 : decode cX7_drawn 10 = .ok (.iload_n 2, 1) := by decide +kernel
theorem dX7_drawn_11 : decode cX7_drawn 11 = .ok (.iconst 1, 1) := by decide +kernel
theorem dX7_drawn_12 : decode cX7_drawn 12 = .ok (.if_icmp .lt 9, 3) := by decide +kernel
theorem dX7_drawn_15 : decode cX7_drawn 15 = .ok (.iload_n 2, 1) := by decide +kernel
theorem dX7_drawn_16 : decode cX7_drawn 16 = .ok (.bipush 10, 2) := by decide +kernel
theorem dX7_drawn_18 : decode cX7_drawn 18 = .ok (.if_icmp .le 5, 3) := by decide +kernel
theorem dX7_drawn_21 : decode cX7_drawn 21 = .ok (.iconst (-1), 1) := by decide +kernel
theorem dX7_drawn_22 : decode cX7_drawn 22 = .ok (.ireturn, 1) := by decide +kernel
theorem dX7_drawn_23 : decode cX7_drawn 23 = .ok (.aload_n 0, 1) := by decide +kernel
theorem dX7_drawn_24 : decode cX7_drawn 24 = .ok (.getfield 10, 3) := by decide +kernel
theorem dX7_drawn_27 : decode cX7_drawn 27 = .ok (.getfield 176, 3) := by decide +kernel
theorem dX7_drawn_30 : decode cX7_drawn 30 = .ok (.iconst 5, 1) := by decide +kernel
theorem dX7_drawn_31 : decode cX7_drawn 31 = .ok (.if_icmp .ge 17, 3) := by decide +kernel
theorem dX7_drawn_34 : decode cX7_drawn 34 = .ok (.aload_n 0, 1) := by decide +kernel
theorem dX7_drawn_35 : decode cX7_drawn 35 = .ok (.getfield 10, 3) := by decide +kernel
theorem dX7_drawn_38 : decode cX7_drawn 38 = .ok (.invokevirtual 179, 3) := by decide +kernel
theorem dX7_drawn_41 : decode cX7_drawn 41 = .ok (.iload_n 2, 1) := by decide +kernel
theorem dX7_drawn_42 : decode cX7_drawn 42 = .ok (.iadd, 1) := by decide +kernel
theorem dX7_drawn_43 : decode cX7_drawn 43 = .ok (.bipush 40, 2) := by decide +kernel
theorem dX7_drawn_45 : decode cX7_drawn 45 = .ok (.if_icmp .le 6, 3) := by decide +kernel
theorem dX7_drawn_48 : decode cX7_drawn 48 = .ok (.bipush (-2), 2) := by decide +kernel
theorem dX7_drawn_50 : decode cX7_drawn 50 = .ok (.ireturn, 1) := by decide +kernel
theorem dX7_drawn_51 : decode cX7_drawn 51 = .ok (.aload_n 0, 1) := by decide +kernel
theorem dX7_drawn_52 : decode cX7_drawn 52 = .ok (.invokevirtual 114, 3) := by decide +kernel
theorem dX7_drawn_55 : decode cX7_drawn 55 = .ok (.aload_n 0, 1) := by decide +kernel
theorem dX7_drawn_56 : decode cX7_drawn 56 = .ok (.getfield 10, 3) := by decide +kernel
theorem dX7_drawn_59 : decode cX7_drawn 59 = .ok (.invokevirtual 183, 3) := by decide +kernel
theorem dX7_drawn_62 : decode cX7_drawn 62 = .ok (.iconst 2, 1) := by decide +kernel
theorem dX7_drawn_63 : decode cX7_drawn 63 = .ok (.aload_n 0, 1) := by decide +kernel
theorem dX7_drawn_64 : decode cX7_drawn 64 = .ok (.getfield 10, 3) := by decide +kernel
theorem dX7_drawn_67 : decode cX7_drawn 67 = .ok (.getfield 186, 3) := by decide +kernel
theorem dX7_drawn_70 : decode cX7_drawn 70 = .ok (.aload_n 0, 1) := by decide +kernel
theorem dX7_drawn_71 : decode cX7_drawn 71 = .ok (.getfield 10, 3) := by decide +kernel
theorem dX7_drawn_74 : decode cX7_drawn 74 = .ok (.getfield 103, 3) := by decide +kernel
theorem dX7_drawn_77 : decode cX7_drawn 77 = .ok (.iconst 1, 1) := by decide +kernel
theorem dX7_drawn_78 : decode cX7_drawn 78 = .ok (.isub, 1) := by decide +kernel
theorem dX7_drawn_79 : decode cX7_drawn 79 = .ok (.iaload, 1) := by decide +kernel
theorem dX7_drawn_80 : decode cX7_drawn 80 = .ok (.imul, 1) := by decide +kernel
theorem dX7_drawn_81 : decode cX7_drawn 81 = .ok (.istore_n 3, 1) := by decide +kernel
theorem dX7_drawn_82 : decode cX7_drawn 82 = .ok (.iload_n 1, 1) := by decide +kernel
theorem dX7_drawn_83 : decode cX7_drawn 83 = .ok (.istore 4, 2) := by decide +kernel
theorem dX7_drawn_85 : decode cX7_drawn 85 = .ok (.iconst 0, 1) := by decide +kernel
theorem dX7_drawn_86 : decode cX7_drawn 86 = .ok (.istore 5, 2) := by decide +kernel
theorem dX7_drawn_88 : decode cX7_drawn 88 = .ok (.iload 5, 2) := by decide +kernel
theorem dX7_drawn_90 : decode cX7_drawn 90 = .ok (.iload_n 2, 1) := by decide +kernel
theorem dX7_drawn_91 : decode cX7_drawn 91 = .ok (.if_icmp .ge 37, 3) := by decide +kernel
theorem dX7_drawn_94 : decode cX7_drawn 94 = .ok (.iload_n 3, 1) := by decide +kernel
theorem dX7_drawn_95 : decode cX7_drawn 95 = .ok (.ifCond .le 33, 3) := by decide +kernel
theorem dX7_drawn_98 : decode cX7_drawn 98 = .ok (.iload 4, 2) := by decide +kernel
theorem dX7_drawn_100 : decode cX7_drawn 100 = .ok (.ldc 189, 2) := by decide +kernel
theorem dX7_drawn_102 : decode cX7_drawn 102 = .ok (.imul, 1) := by decide +kernel
theorem dX7_drawn_103 : decode cX7_drawn 103 = .ok (.sipush 12345, 3) := by decide +kernel
theorem dX7_drawn_106 : decode cX7_drawn 106 = .ok (.iadd, 1) := by decide +kernel
theorem dX7_drawn_107 : decode cX7_drawn 107 = .ok (.istore 4, 2) := by decide +kernel
theorem dX7_drawn_109 : decode cX7_drawn 109 = .ok (.aload_n 0, 1) := by decide +kernel
theorem dX7_drawn_110 : decode cX7_drawn 110 = .ok (.iload 4, 2) := by decide +kernel
theorem dX7_drawn_112 : decode cX7_drawn 112 = .ok (.bipush 16, 2) := by decide +kernel
theorem dX7_drawn_114 : decode cX7_drawn 114 = .ok (.iushr, 1) := by decide +kernel
theorem dX7_drawn_115 : decode cX7_drawn 115 = .ok (.iload_n 3, 1) := by decide +kernel
theorem dX7_drawn_116 : decode cX7_drawn 116 = .ok (.irem, 1) := by decide +kernel
theorem dX7_drawn_117 : decode cX7_drawn 117 = .ok (.iconst 1, 1) := by decide +kernel
theorem dX7_drawn_118 : decode cX7_drawn 118 = .ok (.iadd, 1) := by decide +kernel
theorem dX7_drawn_119 : decode cX7_drawn 119 = .ok (.invokevirtual 190, 3) := by decide +kernel
theorem dX7_drawn_122 : decode cX7_drawn 122 = .ok (.iinc 5 1, 3) := by decide +kernel
theorem dX7_drawn_125 : decode cX7_drawn 125 = .ok (.goto (-37), 3) := by decide +kernel
theorem dX7_drawn_128 : decode cX7_drawn 128 = .ok (.aload_n 0, 1) := by decide +kernel
theorem dX7_drawn_129 : decode cX7_drawn 129 = .ok (.getfield 10, 3) := by decide +kernel
theorem dX7_drawn_132 : decode cX7_drawn 132 = .ok (.getfield 176, 3) := by decide +kernel
theorem dX7_drawn_135 : decode cX7_drawn 135 = .ok (.ireturn, 1) := by decide +kernel
set_option maxHeartbeats 4000000 in
set_option maxRecDepth 100000 in
theorem m_X7_drawn (l : Launch) (f : Nat → Int) (x : Int) (n : Int) (mem : Mem) (hx : i32 x) (hn : i32 n) (hPn : 0 ≤ mem 20 5 ∧ mem 20 5 ≤ 9) (hPa : 0 ≤ mem 20 6 ∧ mem 20 6 ≤ 10) (hRS : RS mem 21 f) (hG : GR f) : Ret shp l yX7_drawn cX7_drawn 6 (some .int) 5 [pR 20, pI x, pI n] mem (fun rv mv => ∃ z, rv = some (pI z) ∧ (¬ (f 0 ≠ 0 ∧ 1 ≤ n ∧ n ≤ 10) ∧ z = -1 ∧ mv = mem ∨ (f 0 ≠ 0 ∧ 1 ≤ n ∧ n ≤ 10) ∧ (5 ≤ f 1 ∨ 40 < f 2 + n) ∧ z = -2 ∧ mv = mem ∨ (f 0 ≠ 0 ∧ 1 ≤ n ∧ n ≤ 10) ∧ f 1 < 5 ∧ f 2 + n ≤ 40 ∧ z = f 1 + 1 ∧ (∀ c, c ≠ 21 → c ≠ 29 → c ≠ 30 → c ≠ 31 → mv c = remM mem c) ∧ RS mv 21 (drwG (bump f) (2 * f (3 + (f 0 - 1).toNat)) x n.toNat).1)) := by
  refine ret_of (by decide +kernel) (Nat.le_of_ble_eq_true rfl) (fun X hX F G => ?_)
  show Ok shp X 6 0 [(0, pR 20), (1, pI x), (2, pI n)] [] mem
  have he0 : mem 21 0 = f 0 := hRS.1
  have he1 : mem 21 1 = f 1 := hRS.2.1
  have g0 := hG.1
  have g1 := hG.2.1
  have g2 := hG.2.2.1
  have hV : ∀ i : Nat, i < 8 → mem 22 i = f (3 + i) := fun i hi => hRS.2.2.1 0 (by omega) i hi
  have hVb := hG.2.2.2.1
  have hV1 := hG.2.2.2.2.1
  have hall : fstD (mem 29) (mem 21 1) = f 2 := by rw [he1]; exact hRS.all hG
  refine ok_aload_n F dX7_drawn_0 0 rfl ?_
  refine ok_getr F dX7_drawn_1 kF_X7_10 sh_20 rfl ?_
  refine ok_getf (v := mem 21 0) F dX7_drawn_4 kF_X7_103 sh_21 rfl rfl ?_
  refine ok_if_eq F 21 dX7_drawn_7 (by decide) (by omega) (fun c_1 => ?_) (fun c_1 => ?_)
  · refine ok_iconst F dX7_drawn_21 ?_
    refine ok_iret F G dX7_drawn_22 ?_
    exact ⟨_, rfl, Or.inl ⟨by omega, rfl, rfl⟩⟩
  · refine ok_iload_n F dX7_drawn_10 2 rfl ?_
    refine ok_iconst F dX7_drawn_11 ?_
    refine ok_icmp_lt F 21 dX7_drawn_12 (by decide) (by omega) (by omega) (fun c_2 => ?_) (fun c_2 => ?_)
    · refine ok_iconst F dX7_drawn_21 ?_
      refine ok_iret F G dX7_drawn_22 ?_
      exact ⟨_, rfl, Or.inl ⟨by omega, rfl, rfl⟩⟩
    · refine ok_iload_n F dX7_drawn_15 2 rfl ?_
      refine ok_bipush F dX7_drawn_16 rfl ?_
      refine ok_icmp_le F 23 dX7_drawn_18 (by decide) (by omega) (by omega) (fun c_3 => ?_) (fun c_3 => ?_)
      · refine ok_aload_n F dX7_drawn_23 0 rfl ?_
        refine ok_getr F dX7_drawn_24 kF_X7_10 sh_20 rfl ?_
        refine ok_getf (v := mem 21 1) F dX7_drawn_27 kF_X7_176 sh_21 rfl rfl ?_
        refine ok_iconst F dX7_drawn_30 ?_
        refine ok_icmp_ge F 48 dX7_drawn_31 (by decide) (by omega) (by omega) (fun c_4 => ?_) (fun c_4 => ?_)
        · refine ok_bipush F dX7_drawn_48 rfl ?_
          refine ok_iret F G dX7_drawn_50 ?_
          exact ⟨_, rfl, Or.inr (Or.inl ⟨by omega, by omega, rfl, rfl⟩)⟩
        · refine ok_aload_n F dX7_drawn_34 0 rfl ?_
          refine ok_getr F dX7_drawn_35 kF_X7_10 sh_20 rfl ?_
          refine ok_callv F [] dX7_drawn_38 kM_X6_allSales kI_X6_allSales kV_X6_allSales kL_X7_179 (ci := 6) rfl sh_21 rfl (by decide) (Nat.le_of_ble_eq_true rfl) rfl (m_X6_allSales_21 _ mem (by omega)) ?_
          rintro _ _ ⟨rfl, rfl⟩
          refine ok_iload_n F dX7_drawn_41 2 rfl ?_
          refine ok_iadd F dX7_drawn_42 ?_
          refine ok_bipush F dX7_drawn_43 rfl ?_
          refine ok_icmp_le F 51 dX7_drawn_45 (by decide) (by omega) (by omega) (fun c_5 => ?_) (fun c_5 => ?_)
          · refine ok_aload_n F dX7_drawn_51 0 rfl ?_
            refine ok_callv F [] dX7_drawn_52 kM_X7_remember kI_X7_remember kV_X7_remember kL_X7_114 (ci := 7) rfl sh_20 rfl (by decide) (Nat.le_of_ble_eq_true rfl) rfl (m_X7_remember _ mem (hPn) (hPa)) ?_
            rintro _ m_6 ⟨rfl, e_7⟩
            have hrm : m_6 = remM mem := e_7
            have rr : ∀ a, a ≠ 20 → (a < 43 ∨ 153 ≤ a) → m_6 a = mem a := fun a a1 a2 => remM_at hrm hPn ⟨a1, a2⟩
            obtain ⟨m9, hm9⟩ : ∃ x, x = m_6 := ⟨_, rfl⟩
            rw [← hm9] at hrm rr
            have hRS9 : RS m9 21 f := hRS.congr (fun c c1 c2 => rr c (by omega) (by omega))
            have q20 : True := trivial
            refine ok_aload_n F dX7_drawn_55 0 rfl ?_
            refine ok_getr F dX7_drawn_56 kF_X7_10 sh_20 rfl ?_
            refine ok_callv F [] dX7_drawn_59 kM_X6_addDay kI_X6_addDay kV_X6_addDay kL_X7_183 (ci := 6) rfl sh_21 rfl (by decide) (Nat.le_of_ble_eq_true rfl) rfl (m_X6_addDay_21 _ m_6 (by rw [← hm9, rr 21 (by decide) (by decide)]; omega)) ?_
            rintro _ m_8 ⟨rfl, e_9⟩
            have eD : m_8 = mset (mset m9 29 (m9 21 1).toNat (fstD (m9 29) (m9 21 1))) 21 1 (m9 21 1 + 1) := by rw [hm9]; exact e_9
            have hRSd : RS m_8 21 (bump f) := RS.day hRS9 hG (by omega) eD
            have oD : ∀ c, c ≠ 21 → c ≠ 29 → m_8 c = m9 c := fun c c1 c2 => by rw [eD, mset_nka c1, mset_nka c2]
            have q22 := (oD 22 (by decide) (by decide)).trans (congrFun hm9 22)
            have k0 : m_8 21 0 = f 0 := hRSd.1.trans (bump_ne f (by decide))
            have b0 : bump f 0 = f 0 := bump_ne f (by decide)
            have b1 : bump f 1 = f 1 + 1 := if_pos rfl
            have b2 : bump f 2 = f 2 := bump_ne f (by decide)
            have hdr : ∀ i : Nat, f 2 + i ≤ 40 → GR (drwG (bump f) (2 * f (3 + (f 0 - 1).toNat)) x i).1 ∧ (drwG (bump f) (2 * f (3 + (f 0 - 1).toNat)) x i).1 2 = bump f 2 + i ∧ ∀ b, b ≠ 2 → b < 59 → (drwG (bump f) (2 * f (3 + (f 0 - 1).toNat)) x i).1 b = bump f b := fun i hi => drwG_ok (hG.dawn (by omega)) (by omega) (by omega) (by rw [b0, bump_ne f (by omega)]) i (by omega)
            refine ok_iconst F dX7_drawn_62 ?_
            refine ok_aload_n F dX7_drawn_63 0 rfl ?_
            refine ok_getr F dX7_drawn_64 kF_X7_10 sh_20 rfl ?_
            refine ok_getr F dX7_drawn_67 kF_X7_186 sh_21 rfl ?_
            refine ok_aload_n F dX7_drawn_70 0 rfl ?_
            refine ok_getr F dX7_drawn_71 kF_X7_10 sh_20 rfl ?_
            refine ok_getf (v := m_8 21 0) F dX7_drawn_74 kF_X7_103 sh_21 rfl rfl ?_
            refine ok_iconst F dX7_drawn_77 ?_
            refine ok_isub F dX7_drawn_78 ?_
            have eM : mem 22 (m_8 21 0 - 1).toNat = f (3 + (f 0 - 1).toNat) := by rw [k0]; exact hV _ (by omega)
            have eM1 := hVb (f 0 - 1).toNat (by omega)
            have eM2 := hV1 (f 0 - 1).toNat (by omega)
            refine ok_iald (v := mem 22 (((m_8 21 0) - 1).toNat)) F dX7_drawn_79 sh_22 (by first | decide | assumption) (by omega) (by omega) (by rw [q22, (remM_at (a := 22) e_7 hPn (by decide))] <;> rfl) ?_
            refine ok_imul F dX7_drawn_80 ?_
            refine ok_istore_n (lv' := [(3, pI (2 * (mem 22 (((m_8 21 0) - 1).toNat)))), (0, pR 20), (1, pI x), (2, pI n)]) F dX7_drawn_81 (by decide) rfl ?_
            refine ok_iload_n F dX7_drawn_82 2 rfl ?_
            refine ok_istore (lv' := [(4, pI x), (3, pI (2 * (mem 22 (((m_8 21 0) - 1).toNat)))), (0, pR 20), (1, pI x), (2, pI n)]) F dX7_drawn_83 (by decide) rfl ?_
            refine ok_iconst F dX7_drawn_85 ?_
            refine ok_istore (lv' := [(5, pI 0), (4, pI x), (3, pI (2 * (mem 22 (((m_8 21 0) - 1).toNat)))), (0, pR 20), (1, pI x), (2, pI n)]) F dX7_drawn_86 (by decide) rfl ?_
            have hL_88 : ∀ (n_88 : Nat) (M : Int) (y : Int) (i : Int) (m : Mem), ((M = (2 * f (3 + (f 0 - 1).toNat)) ∧ 2 ≤ M ∧ M ≤ 1000) ∧ 0 ≤ i ∧ i ≤ n ∧ (∀ c, c ≠ 21 → c ≠ 29 → c ≠ 30 → c ≠ 31 → m c = m9 c) ∧ RS m 21 (drwG (bump f) (2 * f (3 + (f 0 - 1).toNat)) x i.toNat).1 ∧ y = (drwG (bump f) (2 * f (3 + (f 0 - 1).toNat)) x i.toNat).2) → (n - i).toNat = n_88 → Ok shp X 6 88 [(0, pR 20), (1, pI x), (2, pI n), (3, pI M), (4, pI y), (5, pI i)] [] m := by
              intro n_88
              induction n_88 using Nat.strongRecOn with
              | _ n_88 ih_88 =>
                intro M y i m hI_88 hn_88
                obtain ⟨⟨hM1, hM2, hM3⟩, hi0, hi1, hF, hRm, hy⟩ := hI_88
                refine ok_iload F dX7_drawn_88 5 rfl ?_
                refine ok_iload_n F dX7_drawn_90 2 rfl ?_
                refine ok_icmp_ge F 128 dX7_drawn_91 (by decide) (by omega) (by omega) (fun c_10 => ?_) (fun c_10 => ?_)
                · refine ok_aload_n F dX7_drawn_128 0 rfl ?_
                  refine ok_getr F dX7_drawn_129 kF_X7_10 sh_20 rfl ?_
                  refine ok_getf (v := m 21 1) F dX7_drawn_132 kF_X7_176 sh_21 rfl rfl ?_
                  refine ok_iret F G dX7_drawn_135 ?_
                  obtain ⟨d1, d2, d3⟩ := hdr i.toNat (by omega)
                  refine ⟨_, rfl, Or.inr (Or.inr ⟨by omega, by omega, by omega, ?_, fun c c1 c2 c3 c4 => by rw [hF c c1 c2 c3 c4, hrm], by rw [show n.toNat = i.toNat by omega]; exact hRm⟩)⟩
                  rw [hRm.2.1, d3 1 (by decide) (by decide), b1]
                · refine ok_iload_n F dX7_drawn_94 3 rfl ?_
                  refine ok_if_le F 128 dX7_drawn_95 (by decide) (by omega) (fun c_11 => ?_) (fun c_11 => ?_)
                  · refine ok_aload_n F dX7_drawn_128 0 rfl ?_
                    refine ok_getr F dX7_drawn_129 kF_X7_10 sh_20 rfl ?_
                    refine ok_getf (v := m 21 1) F dX7_drawn_132 kF_X7_176 sh_21 rfl rfl ?_
                    refine ok_iret F G dX7_drawn_135 ?_
                    obtain ⟨d1, d2, d3⟩ := hdr i.toNat (by omega)
                    refine ⟨_, rfl, Or.inr (Or.inr ⟨by omega, by omega, by omega, ?_, fun c c1 c2 c3 c4 => by rw [hF c c1 c2 c3 c4, hrm], by rw [show n.toNat = i.toNat by omega]; exact hRm⟩)⟩
                    rw [hRm.2.1, d3 1 (by decide) (by decide), b1]
                  · obtain ⟨d1, d2, d3⟩ := hdr i.toNat (by omega)
                    refine ok_iload F dX7_drawn_98 4 rfl ?_
                    refine ok_ldc (n := 1103515245) F dX7_drawn_100 kK_X7_189 rfl ?_
                    refine ok_imul F dX7_drawn_102 ?_
                    refine ok_sipush F dX7_drawn_103 rfl ?_
                    refine ok_iadd F dX7_drawn_106 ?_
                    refine ok_istore (lv' := [(4, pI ((y * 1103515245) + 12345)), (0, pR 20), (1, pI x), (2, pI n), (3, pI M), (5, pI i)]) F dX7_drawn_107 (by decide) rfl ?_
                    refine ok_aload_n F dX7_drawn_109 1 rfl ?_
                    refine ok_iload F dX7_drawn_110 0 rfl ?_
                    refine ok_bipush F dX7_drawn_112 rfl ?_
                    have u1 := iushr16_bd (y * 1103515245 + 12345)
                    have t1 := tmod_bd (x := iushr (y * 1103515245 + 12345) 16) (y := M) u1.1 (by omega)
                    refine ok_iushr F dX7_drawn_114 ?_
                    refine ok_iload_n F dX7_drawn_115 4 rfl ?_
                    refine ok_irem F dX7_drawn_116 (by omega) (by omega) (by omega) ?_
                    refine ok_iconst F dX7_drawn_117 ?_
                    refine ok_iadd F dX7_drawn_118 ?_
                    refine ok_callv F [pI (((iushr ((y * 1103515245) + 12345) 16).tmod M) + 1)] dX7_drawn_119 kM_X7_addDrawnSale kI_X7_addDrawnSale kV_X7_addDrawnSale kL_X7_190 (ci := 7) rfl sh_20 rfl (by decide) (Nat.le_of_ble_eq_true rfl) rfl (m_X7_addDrawnSale _ (drwG (bump f) (2 * f (3 + (f 0 - 1).toNat)) x i.toNat).1 (((iushr ((y * 1103515245) + 12345) 16).tmod M) + 1) m (by rw [d3 0 (by decide) (by decide), b0, d3 _ (by omega) (by omega), bump_ne f (by omega), ← hM1]; omega) (hRm) (d1) (by rw [d3 0 (by decide) (by decide)]; omega) (by rw [d3 1 (by decide) (by decide)]; omega) (by omega)) ?_
                    rintro _ m_13 ⟨rfl, r_14⟩
                    obtain ⟨s1, s2⟩ := id r_14
                    refine ok_iinc (lv' := [(5, pI (i + 1)), (4, pI ((y * 1103515245) + 12345)), (0, pR 20), (1, pI x), (2, pI n), (3, pI M)]) F dX7_drawn_122 5 rfl (by decide) rfl ?_
                    refine ok_goto F 88 dX7_drawn_125 (by decide) ?_
                    refine ok_lvp [2, 3, 4, 5, 1, 0] (lv' := [(0, pR 20), (1, pI x), (2, pI n), (3, pI M), (4, pI ((y * 1103515245) + 12345)), (5, pI (i + 1))]) rfl ?_
                    refine ih_88 _ ?_ M ((y * 1103515245) + 12345) (i + 1) m_13 ?_ rfl
                    · omega
                    · refine ⟨⟨hM1, hM2, hM3⟩, by omega, by omega, fun c c1 c2 c3 c4 => ?_, ?_, ?_⟩
                      · rw [s1 c c2 c3 c4]; exact hF c c1 c2 c3 c4
                      · rw [show (i + 1).toNat = i.toNat + 1 by omega, drwG_s, ← hy, ← hM1]; rw [hM1] at s2 ⊢; exact s2
                      · rw [show (i + 1).toNat = i.toNat + 1 by omega, drwG_s, ← hy]
            refine ok_lvp [3, 4, 5, 2, 1, 0] (lv' := [(0, pR 20), (1, pI x), (2, pI n), (3, pI (2 * (mem 22 (((m_8 21 0) - 1).toNat)))), (4, pI x), (5, pI 0)]) rfl ?_
            refine hL_88 _ (2 * (mem 22 (((m_8 21 0) - 1).toNat))) x 0 m_8 ?_ rfl
            exact ⟨⟨by rw [eM], by omega, by omega⟩, by omega, by omega, fun c c1 c2 _ _ => oD c c1 c2, hRSd, rfl⟩
          · refine ok_bipush F dX7_drawn_48 rfl ?_
            refine ok_iret F G dX7_drawn_50 ?_
            exact ⟨_, rfl, Or.inr (Or.inl ⟨by omega, by omega, rfl, rfl⟩)⟩
      · refine ok_iconst F dX7_drawn_21 ?_
        refine ok_iret F G dX7_drawn_22 ?_
        exact ⟨_, rfl, Or.inl ⟨by omega, rfl, rfl⟩⟩
