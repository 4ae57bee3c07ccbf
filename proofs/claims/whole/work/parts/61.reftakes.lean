/-! the reference: words taken -/
/-- how many letters stand from a place on -/
def letN (mem : Mem) : Nat → Int → Int
  | 0, _ => 0
  | m + 1, p => if p < mem 0 7 ∧ 97 ≤ mem 6 p.toNat ∧ mem 6 p.toNat ≤ 122 then letN mem m (p + 1) + 1 else 0
theorem letN_s (mem : Mem) (m : Nat) (p : Int) : letN mem (m + 1) p = if p < mem 0 7 ∧ 97 ≤ mem 6 p.toNat ∧ mem 6 p.toNat ≤ 122 then letN mem m (p + 1) + 1 else 0 := rfl
/-- whether a word of the pools stands at a place, n letters long -/
def spelT (mem : Mem) (p n : Int) (w : Nat) : Prop := n = ((sLen.getD w 0 : Nat) : Int) ∧ ∀ j : Nat, (j : Int) < n → mem 6 (p + j).toNat = (((sTx w).getD j 0 : Nat) : Int)
theorem mset_mset (m : Mem) (a b : Nat) (x y : Int) : mset (mset m a b x) a b y = mset m a b y := by
  funext c d
  by_cases e : c = a ∧ d = b
  · obtain ⟨rfl, rfl⟩ := e; rw [mset_eq, mset_eq]
  · rw [mset_ne e, mset_ne e, mset_ne e]
theorem sTx_bd {w j : Nat} (hw : w < 13) (hj : j < 7) : (sTx w).getD j 0 ≤ 255 := by
  have h : ∀ w : Nat, w < 13 → ∀ j : Nat, j < 7 → (sTx w).getD j 0 ≤ 255 := by decide
  exact h w hw j hj
theorem sLen_bd {w : Nat} (hw : w < 13) : sLen.getD w 0 ≤ 6 := by
  have h : ∀ w : Nat, w < 13 → sLen.getD w 0 ≤ 6 := by decide
  exact h w hw
theorem dX8_takes_0 : decode cX8_takes 0 = .ok (.aload_n 0, 1) := by decide +kernel
theorem dX8_takes_1 : decode cX8_takes 1 = .ok (.invokevirtual 93, 3) := by decide +kernel
theorem dX8_takes_4 : decode cX8_takes 4 = .ok (.pop, 1) := by decide +kernel
theorem dX8_takes_5 : decode cX8_takes 5 = .ok (.iconst 0, 1) := by decide +kernel
theorem dX8_takes_6 : decode cX8_takes 6 = .ok (.istore_n 2, 1) := by decide +kernel
theorem dX8_takes_7 : decode cX8_takes 7 = .ok (.aload_n 0, 1) := by decide +kernel
theorem dX8_takes_8 : decode cX8_takes 8 = .ok (.getfield 79, 3) := by decide +kernel
theorem dX8_takes_11 : decode cX8_takes 11 = .ok (.iload_n 2, 1) := by decide +kernel
theorem dX8_takes_12 : decode cX8_takes 12 = .ok (.iadd, 1) := by decide +kernel
theorem dX8_takes_13 : decode cX8_takes 13 = .ok (.aload_n 0, 1) := by decide +kernel
theorem dX8_takes_14 : decode cX8_takes 14 = .ok (.getfield 71, 3) := by decide +kernel
theorem dX8_takes_17 : decode cX8_takes 17 = .ok (.if_icmp .ge 33, 3) := by decide +kernel
theorem dX8_takes_20 : decode cX8_takes 20 = .ok (.aload_n 0, 1) := by decide +kernel
theorem dX8_takes_21 : decode cX8_takes 21 = .ok (.getfield 26, 3) := by decide +kernel
theorem dX8_takes_24 : decode cX8_takes 24 = .ok (.aload_n 0, 1) := by decide +kernel
theorem dX8_takes_25 : decode cX8_takes 25 = .ok (.getfield 79, 3) := by decide +kernel
theorem dX8_takes_28 : decode cX8_takes 28 = .ok (.iload_n 2, 1) := by decide +kernel
theorem dX8_takes_29 : decode cX8_takes 29 = .ok (.iadd, 1) := by decide +kernel
theorem dX8_takes_30 : decode cX8_takes 30 = .ok (.baload, 1) := by decide +kernel
theorem dX8_takes_31 : decode cX8_takes 31 = .ok (.i2l, 1) := by decide +kernel
theorem dX8_takes_32 : decode cX8_takes 32 = .ok (.ldc2_w 96, 3) := by decide +kernel
theorem dX8_takes_35 : decode cX8_takes 35 = .ok (.ldc2_w 98, 3) := by decide +kernel
theorem dX8_takes_38 : decode cX8_takes 38 = .ok (.invokestatic 100, 3) := by decide +kernel
theorem dX8_takes_41 : decode cX8_takes 41 = .ok (.ifCond .eq 9, 3) := by decide +kernel
theorem dX8_takes_44 : decode cX8_takes 44 = .ok (.iinc 2 1, 3) := by decide +kernel
theorem dX8_takes_47 : decode cX8_takes 47 = .ok (.goto (-40), 3) := by decide +kernel
theorem dX8_takes_50 : decode cX8_takes 50 = .ok (.iload_n 2, 1) := by decide +kernel
theorem dX8_takes_51 : decode cX8_takes 51 = .ok (.aload_n 1, 1) := by decide +kernel
theorem dX8_takes_52 : decode cX8_takes 52 = .ok (.invokevirtual 104, 3) := by decide +kernel
theorem dX8_takes_55 : decode cX8_takes 55 = .ok (.if_icmp .ne 7, 3) := by decide +kernel
theorem dX8_takes_58 : decode cX8_takes 58 = .ok (.iconst 1, 1) := by decide +kernel
theorem dX8_takes_59 : decode cX8_takes 59 = .ok (.goto 4, 3) := by decide +kernel
theorem dX8_takes_62 : decode cX8_takes 62 = .ok (.iconst 0, 1) := by decide +kernel
theorem dX8_takes_63 : decode cX8_takes 63 = .ok (.istore_n 3, 1) := by decide +kernel
theorem dX8_takes_64 : decode cX8_takes 64 = .ok (.iconst 0, 1) := by decide +kernel
theorem dX8_takes_65 : decode cX8_takes 65 = .ok (.istore 4, 2) := by decide +kernel
theorem dX8_takes_67 : decode cX8_takes 67 = .ok (.iload 4, 2) := by decide +kernel
theorem dX8_takes_69 : decode cX8_takes 69 = .ok (.iload_n 2, 1) := by decide +kernel
theorem dX8_takes_70 : decode cX8_takes 70 = .ok (.if_icmp .ge 40, 3) := by decide +kernel
theorem dX8_takes_73 : decode cX8_takes 73 = .ok (.iload_n 3, 1) := by decide +kernel
theorem dX8_takes_74 : decode cX8_takes 74 = .ok (.ifCond .eq 36, 3) := by decide +kernel
theorem dX8_takes_77 : decode cX8_takes 77 = .ok (.aload_n 0, 1) := by decide +kernel
theorem dX8_takes_78 : decode cX8_takes 78 = .ok (.getfield 26, 3) := by decide +kernel
theorem dX8_takes_81 : decode cX8_takes 81 = .ok (.aload_n 0, 1) := by decide +kernel
theorem dX8_takes_82 : decode cX8_takes 82 = .ok (.getfield 79, 3) := by decide +kernel
theorem dX8_takes_85 : decode cX8_takes 85 = .ok (.iload 4, 2) := by decide +kernel
theorem dX8_takes_87 : decode cX8_takes 87 = .ok (.iadd, 1) := by decide +kernel
theorem dX8_takes_88 : decode cX8_takes 88 = .ok (.baload, 1) := by decide +kernel
theorem dX8_takes_89 : decode cX8_takes 89 = .ok (.aload_n 1, 1) := by decide +kernel
theorem dX8_takes_90 : decode cX8_takes 90 = .ok (.iload 4, 2) := by decide +kernel
theorem dX8_takes_92 : decode cX8_takes 92 = .ok (.invokevirtual 109, 3) := by decide +kernel
theorem dX8_takes_95 : decode cX8_takes 95 = .ok (.if_icmp .ne 7, 3) := by decide +kernel
theorem dX8_takes_98 : decode cX8_takes 98 = .ok (.iconst 1, 1) := by decide +kernel
theorem dX8_takes_99 : decode cX8_takes 99 = .ok (.goto 4, 3) := by decide +kernel
theorem dX8_takes_102 : decode cX8_takes 102 = .ok (.iconst 0, 1) := by decide +kernel
theorem dX8_takes_103 : decode cX8_takes 103 = .ok (.istore_n 3, 1) := by decide +kernel
theorem dX8_takes_104 : decode cX8_takes 104 = .ok (.iinc 4 1, 3) := by decide +kernel
theorem dX8_takes_107 : decode cX8_takes 107 = .ok (.goto (-40), 3) := by decide +kernel
theorem dX8_takes_110 : decode cX8_takes 110 = .ok (.aload_n 0, 1) := by decide +kernel
theorem dX8_takes_111 : decode cX8_takes 111 = .ok (.dup, 1) := by decide +kernel
theorem dX8_takes_112 : decode cX8_takes 112 = .ok (.getfield 79, 3) := by decide +kernel
theorem dX8_takes_115 : decode cX8_takes 115 = .ok (.iload_n 3, 1) := by decide +kernel
theorem dX8_takes_116 : decode cX8_takes 116 = .ok (.ifCond .eq 7, 3) := by decide +kernel
theorem dX8_takes_119 : decode cX8_takes 119 = .ok (.iload_n 2, 1) := by decide +kernel
theorem dX8_takes_120 : decode cX8_takes 120 = .ok (.goto 4, 3) := by decide +kernel
theorem dX8_takes_123 : decode cX8_takes 123 = .ok (.iconst 0, 1) := by decide +kernel
theorem dX8_takes_124 : decode cX8_takes 124 = .ok (.iadd, 1) := by decide +kernel
theorem dX8_takes_125 : decode cX8_takes 125 = .ok (.putfield 79, 3) := by decide +kernel
theorem dX8_takes_128 : decode cX8_takes 128 = .ok (.iload_n 3, 1) := by decide +kernel
theorem dX8_takes_129 : decode cX8_takes 129 = .ok (.ireturn, 1) := by decide +kernel
set_option maxHeartbeats 4000000 in
set_option maxRecDepth 100000 in
theorem m_X8_takes (l : Launch) (w : Nat) (mem : Mem) (hw : w < 13) (hT : 0 ≤ mem 0 7 ∧ mem 0 7 ≤ 400) (hA : 0 ≤ mem 0 8 ∧ mem 0 8 ≤ 400) (hBy : ∀ k : Nat, -128 ≤ mem 6 k ∧ mem 6 k ≤ 127) : Ret shp l yX8_takes cX8_takes 5 (some .boolean) 4 [pR 0, pR (1000 + w)] mem (fun rv mv => ∃ z, rv = some (pI z) ∧ (spelT mem (skipF mem 401 (mem 0 8)) (letN mem 401 (skipF mem 401 (mem 0 8))) w ∧ z = 1 ∧ mv = mset mem 0 8 (skipF mem 401 (mem 0 8) + letN mem 401 (skipF mem 401 (mem 0 8))) ∨ ¬ spelT mem (skipF mem 401 (mem 0 8)) (letN mem 401 (skipF mem 401 (mem 0 8))) w ∧ z = 0 ∧ mv = mset mem 0 8 (skipF mem 401 (mem 0 8)))) := by
  refine ret_of (by decide +kernel) (Nat.le_of_ble_eq_true rfl) (fun X hX F G => ?_)
  show Ok shp X 5 0 [(0, pR 0), (1, pR (1000 + w))] [] mem
  have hsk := skipF_bd (mem := mem) hT.2 401 (p := mem 0 8) hA
  refine ok_aload_n F dX8_takes_0 0 rfl ?_
  refine ok_callv F [] dX8_takes_1 kM_X8_next kI_X8_next kV_X8_next kL_X8_93 (ci := 8) rfl sh_0 rfl (by decide) (Nat.le_of_ble_eq_true rfl) rfl (m_X8_next _ mem (by omega) (by omega)) ?_
  rintro _ m_1 ⟨rfl, e_2⟩
  have eN := e_2
  have d8 : m_1 0 8 = skipF mem 401 (mem 0 8) := by rw [eN]; exact mset_eq _ _ _ _
  have d7 : m_1 0 7 = mem 0 7 := by rw [eN]; exact mset_ne (by decide)
  have d6 : m_1 6 = mem 6 := by rw [eN]; exact mset_nka (by decide)
  refine ok_pop F dX8_takes_4 rfl ?_
  refine ok_iconst F dX8_takes_5 ?_
  refine ok_istore_n (lv' := [(2, pI 0), (0, pR 0), (1, pR (1000 + w))]) F dX8_takes_6 (by decide) rfl ?_
  have hL_7 : ∀ (n_7 : Nat) (n : Int), (0 ≤ n ∧ skipF mem 401 (mem 0 8) + n ≤ 400 ∧ ∃ c : Nat, (c : Int) + n = 401 ∧ letN mem 401 (skipF mem 401 (mem 0 8)) = letN mem c (skipF mem 401 (mem 0 8) + n) + n) → (401 - n).toNat = n_7 → Ok shp X 5 7 [(0, pR 0), (1, pR (1000 + w)), (2, pI n)] [] m_1 := by
    intro n_7
    induction n_7 using Nat.strongRecOn with
    | _ n_7 ih_7 =>
      intro n hI_7 hn_7
      obtain ⟨hn0, hn1, c, hc, hL⟩ := hI_7
      refine ok_aload_n F dX8_takes_7 0 rfl ?_
      refine ok_getf (v := m_1 0 8) F dX8_takes_8 kF_X8_79 sh_0 rfl rfl ?_
      refine ok_iload_n F dX8_takes_11 2 rfl ?_
      refine ok_iadd F dX8_takes_12 ?_
      refine ok_aload_n F dX8_takes_13 0 rfl ?_
      refine ok_getf (v := m_1 0 7) F dX8_takes_14 kF_X8_71 sh_0 rfl rfl ?_
      refine ok_icmp_ge F 50 dX8_takes_17 (by decide) (by omega) (by omega) (fun c_3 => ?_) (fun c_3 => ?_)
      · have hlb := sLen_bd hw
        have hLn : letN mem 401 (skipF mem 401 (mem 0 8)) = n := by
          rw [hL]
          have z : letN mem c (skipF mem 401 (mem 0 8) + n) = 0 := by
            by_cases y : c = 0
            · rw [y]; rfl
            · rw [show c = (c - 1) + 1 by omega, letN_s, if_neg (by rw [← d8]; omega)]
          rw [z, Int.zero_add]
        refine ok_iload_n F dX8_takes_50 2 rfl ?_
        refine ok_aload_n F dX8_takes_51 1 rfl ?_
        refine ok_callt (i := w) F [] dX8_takes_52 kM_J0_length_8abf5 kI_J0_length_8abf5 kV_J0_length_8abf5 kL_X8_104 rfl hw rfl (by decide) (Nat.le_of_ble_eq_true rfl) rfl (m_J0_length _ w m_1 hw) ?_
        rintro _ _ ⟨rfl, rfl⟩
        refine ok_icmp_ne F 62 dX8_takes_55 (by decide) (by omega) (by omega) (fun c_4 => ?_) (fun c_4 => ?_)
        · refine ok_iconst F dX8_takes_62 ?_
          refine ok_istore_n (lv' := [(3, pI 0), (0, pR 0), (1, pR (1000 + w)), (2, pI n)]) F dX8_takes_63 (by decide) rfl ?_
          refine ok_iconst F dX8_takes_64 ?_
          refine ok_istore (lv' := [(4, pI 0), (3, pI 0), (0, pR 0), (1, pR (1000 + w)), (2, pI n)]) F dX8_takes_65 (by decide) rfl ?_
          have hL_67 : ∀ (n_67 : Nat) (g : Int) (i : Int), (0 ≤ i ∧ i ≤ n ∧ (g = 1 ∧ n = ((sLen.getD w 0 : Nat) : Int) ∧ (∀ j : Nat, (j : Int) < i → mem 6 (skipF mem 401 (mem 0 8) + j).toNat = (((sTx w).getD j 0 : Nat) : Int)) ∨ g = 0 ∧ ¬ spelT mem (skipF mem 401 (mem 0 8)) n w)) → (n - i).toNat = n_67 → Ok shp X 5 67 [(0, pR 0), (1, pR (1000 + w)), (2, pI n), (3, pI g), (4, pI i)] [] m_1 := by
            intro n_67
            induction n_67 using Nat.strongRecOn with
            | _ n_67 ih_67 =>
              intro g i hI_67 hn_67
              obtain ⟨hi0, hi1, hg⟩ := hI_67
              refine ok_iload F dX8_takes_67 4 rfl ?_
              refine ok_iload_n F dX8_takes_69 2 rfl ?_
              refine ok_icmp_ge F 110 dX8_takes_70 (by decide) (by omega) (by omega) (fun c_5 => ?_) (fun c_5 => ?_)
              · refine ok_aload_n F dX8_takes_110 0 rfl ?_
                refine ok_dup F dX8_takes_111 rfl ?_
                refine ok_getf (v := m_1 0 8) F dX8_takes_112 kF_X8_79 sh_0 rfl rfl ?_
                refine ok_iload_n F dX8_takes_115 3 rfl ?_
                refine ok_if_eq F 123 dX8_takes_116 (by decide) (by omega) (fun c_6 => ?_) (fun c_6 => ?_)
                · refine ok_iconst F dX8_takes_123 ?_
                  refine ok_iadd F dX8_takes_124 ?_
                  refine ok_putf F dX8_takes_125 kF_X8_79 sh_0 rfl rfl rfl (fun m_7 e_8 => ?_)
                  refine ok_iload_n F dX8_takes_128 3 rfl ?_
                  refine ok_zret F G dX8_takes_129 (by rcases hg with q | q <;> rw [q.1] <;> rfl) ?_
                  first
                    | (exfalso; omega)
                    | (obtain ⟨g1, g2⟩ := hg.resolve_left (fun q => by have := q.1; omega)
                       refine ⟨_, rfl, Or.inr ⟨by rw [hLn]; exact g2, g1, ?_⟩⟩
                       rw [e_8, d8, eN, mset_mset, Int.add_zero])
                    | (obtain ⟨g1, g2, g3⟩ := hg.resolve_right (fun q => by have := q.1; omega)
                       refine ⟨_, rfl, Or.inl ⟨by rw [hLn]; exact ⟨g2, fun j hj => g3 j (by omega)⟩, g1, ?_⟩⟩
                       rw [e_8, hLn, d8, eN, mset_mset])
                · refine ok_iload_n F dX8_takes_119 2 rfl ?_
                  refine ok_goto F 124 dX8_takes_120 (by decide) ?_
                  refine ok_iadd F dX8_takes_124 ?_
                  refine ok_putf F dX8_takes_125 kF_X8_79 sh_0 rfl rfl rfl (fun m_9 e_10 => ?_)
                  refine ok_iload_n F dX8_takes_128 3 rfl ?_
                  refine ok_zret F G dX8_takes_129 (by rcases hg with q | q <;> rw [q.1] <;> rfl) ?_
                  first
                    | (exfalso; omega)
                    | (obtain ⟨g1, g2⟩ := hg.resolve_left (fun q => by have := q.1; omega)
                       refine ⟨_, rfl, Or.inr ⟨by rw [hLn]; exact g2, g1, ?_⟩⟩
                       rw [e_10, d8, eN, mset_mset, Int.add_zero])
                    | (obtain ⟨g1, g2, g3⟩ := hg.resolve_right (fun q => by have := q.1; omega)
                       refine ⟨_, rfl, Or.inl ⟨by rw [hLn]; exact ⟨g2, fun j hj => g3 j (by omega)⟩, g1, ?_⟩⟩
                       rw [e_10, hLn, d8, eN, mset_mset])
              · refine ok_iload_n F dX8_takes_73 3 rfl ?_
                refine ok_if_eq F 110 dX8_takes_74 (by decide) (by omega) (fun c_11 => ?_) (fun c_11 => ?_)
                · refine ok_aload_n F dX8_takes_110 0 rfl ?_
                  refine ok_dup F dX8_takes_111 rfl ?_
                  refine ok_getf (v := m_1 0 8) F dX8_takes_112 kF_X8_79 sh_0 rfl rfl ?_
                  refine ok_iload_n F dX8_takes_115 3 rfl ?_
                  refine ok_if_eq F 123 dX8_takes_116 (by decide) (by omega) (fun c_12 => ?_) (fun c_12 => ?_)
                  · refine ok_iconst F dX8_takes_123 ?_
                    refine ok_iadd F dX8_takes_124 ?_
                    refine ok_putf F dX8_takes_125 kF_X8_79 sh_0 rfl rfl rfl (fun m_13 e_14 => ?_)
                    refine ok_iload_n F dX8_takes_128 3 rfl ?_
                    refine ok_zret F G dX8_takes_129 (by rcases hg with q | q <;> rw [q.1] <;> rfl) ?_
                    first
                      | (exfalso; omega)
                      | (obtain ⟨g1, g2⟩ := hg.resolve_left (fun q => by have := q.1; omega)
                         refine ⟨_, rfl, Or.inr ⟨by rw [hLn]; exact g2, g1, ?_⟩⟩
                         rw [e_14, d8, eN, mset_mset, Int.add_zero])
                      | (obtain ⟨g1, g2, g3⟩ := hg.resolve_right (fun q => by have := q.1; omega)
                         refine ⟨_, rfl, Or.inl ⟨by rw [hLn]; exact ⟨g2, fun j hj => g3 j (by omega)⟩, g1, ?_⟩⟩
                         rw [e_14, hLn, d8, eN, mset_mset])
                  · refine ok_iload_n F dX8_takes_119 2 rfl ?_
                    refine ok_goto F 124 dX8_takes_120 (by decide) ?_
                    refine ok_iadd F dX8_takes_124 ?_
                    refine ok_putf F dX8_takes_125 kF_X8_79 sh_0 rfl rfl rfl (fun m_15 e_16 => ?_)
                    refine ok_iload_n F dX8_takes_128 3 rfl ?_
                    refine ok_zret F G dX8_takes_129 (by rcases hg with q | q <;> rw [q.1] <;> rfl) ?_
                    first
                      | (exfalso; omega)
                      | (obtain ⟨g1, g2⟩ := hg.resolve_left (fun q => by have := q.1; omega)
                         refine ⟨_, rfl, Or.inr ⟨by rw [hLn]; exact g2, g1, ?_⟩⟩
                         rw [e_16, d8, eN, mset_mset, Int.add_zero])
                      | (obtain ⟨g1, g2, g3⟩ := hg.resolve_right (fun q => by have := q.1; omega)
                         refine ⟨_, rfl, Or.inl ⟨by rw [hLn]; exact ⟨g2, fun j hj => g3 j (by omega)⟩, g1, ?_⟩⟩
                         rw [e_16, hLn, d8, eN, mset_mset])
                · obtain ⟨hg1, hg2, hg3⟩ := hg.resolve_right (fun q => absurd q.1 (by omega))
                  have hb := hBy (m_1 0 8 + i).toNat
                  have hcb := sTx_bd (j := i.toNat) hw (by omega)
                  refine ok_aload_n F dX8_takes_77 0 rfl ?_
                  refine ok_getr F dX8_takes_78 kF_X8_26 sh_0 rfl ?_
                  refine ok_aload_n F dX8_takes_81 0 rfl ?_
                  refine ok_getf (v := m_1 0 8) F dX8_takes_82 kF_X8_79 sh_0 rfl rfl ?_
                  refine ok_iload F dX8_takes_85 4 rfl ?_
                  refine ok_iadd F dX8_takes_87 ?_
                  refine ok_bald (v := mem 6 (((m_1 0 8) + i).toNat)) F dX8_takes_88 sh_6 (by first | decide | assumption) (by omega) (by omega) (by rw [d6] <;> rfl) ?_
                  refine ok_aload_n F dX8_takes_89 1 rfl ?_
                  refine ok_iload F dX8_takes_90 4 rfl ?_
                  refine ok_callt (i := w) F [pI i] dX8_takes_92 kM_J0_charAt_5068e kI_J0_charAt_5068e kV_J0_charAt_5068e kL_X8_109 rfl hw rfl (by decide) (Nat.le_of_ble_eq_true rfl) rfl (m_J0_charAt _ w i m_1 hw (by omega)) ?_
                  rintro _ _ ⟨rfl, rfl⟩
                  refine ok_icmp_ne F 102 dX8_takes_95 (by decide) (by omega) (by omega) (fun c_17 => ?_) (fun c_17 => ?_)
                  · refine ok_iconst F dX8_takes_102 ?_
                    refine ok_istore_n (lv' := [(3, pI 0), (0, pR 0), (1, pR (1000 + w)), (2, pI n), (4, pI i)]) F dX8_takes_103 (by decide) rfl ?_
                    refine ok_iinc (lv' := [(4, pI (i + 1)), (3, pI 0), (0, pR 0), (1, pR (1000 + w)), (2, pI n)]) F dX8_takes_104 4 rfl (by decide) rfl ?_
                    refine ok_goto F 67 dX8_takes_107 (by decide) ?_
                    refine ok_lvp [2, 3, 4, 1, 0] (lv' := [(0, pR 0), (1, pR (1000 + w)), (2, pI n), (3, pI 0), (4, pI (i + 1))]) rfl ?_
                    refine ih_67 _ ?_ 0 (i + 1) ?_ rfl
                    · omega
                    · first
                        | (refine ⟨by omega, by omega, Or.inl ⟨rfl, hg2, fun j hj => ?_⟩⟩
                           by_cases y : (j : Int) < i
                           · exact hg3 j y
                           · rw [show j = i.toNat by omega, show ((i.toNat : Nat) : Int) = i by omega, ← d8]; omega)
                        | (refine ⟨by omega, by omega, Or.inr ⟨rfl, fun q => ?_⟩⟩
                           have q2 := q.2 i.toNat (by omega)
                           rw [show ((i.toNat : Nat) : Int) = i by omega, ← d8] at q2
                           omega)
                  · refine ok_iconst F dX8_takes_98 ?_
                    refine ok_goto F 103 dX8_takes_99 (by decide) ?_
                    refine ok_istore_n (lv' := [(3, pI 1), (0, pR 0), (1, pR (1000 + w)), (2, pI n), (4, pI i)]) F dX8_takes_103 (by decide) rfl ?_
                    refine ok_iinc (lv' := [(4, pI (i + 1)), (3, pI 1), (0, pR 0), (1, pR (1000 + w)), (2, pI n)]) F dX8_takes_104 4 rfl (by decide) rfl ?_
                    refine ok_goto F 67 dX8_takes_107 (by decide) ?_
                    refine ok_lvp [2, 3, 4, 1, 0] (lv' := [(0, pR 0), (1, pR (1000 + w)), (2, pI n), (3, pI 1), (4, pI (i + 1))]) rfl ?_
                    refine ih_67 _ ?_ 1 (i + 1) ?_ rfl
                    · omega
                    · first
                        | (refine ⟨by omega, by omega, Or.inl ⟨rfl, hg2, fun j hj => ?_⟩⟩
                           by_cases y : (j : Int) < i
                           · exact hg3 j y
                           · rw [show j = i.toNat by omega, show ((i.toNat : Nat) : Int) = i by omega, ← d8]; omega)
                        | (refine ⟨by omega, by omega, Or.inr ⟨rfl, fun q => ?_⟩⟩
                           have q2 := q.2 i.toNat (by omega)
                           rw [show ((i.toNat : Nat) : Int) = i by omega, ← d8] at q2
                           omega)
          refine ok_lvp [2, 3, 4, 1, 0] (lv' := [(0, pR 0), (1, pR (1000 + w)), (2, pI n), (3, pI 0), (4, pI 0)]) rfl ?_
          refine hL_67 _ 0 0 ?_ rfl
          first
            | exact ⟨by omega, by omega, Or.inl ⟨rfl, by omega, fun j hj => by omega⟩⟩
            | exact ⟨by omega, by omega, Or.inr ⟨rfl, fun q => by have := q.1; omega⟩⟩
        · refine ok_iconst F dX8_takes_58 ?_
          refine ok_goto F 63 dX8_takes_59 (by decide) ?_
          refine ok_istore_n (lv' := [(3, pI 1), (0, pR 0), (1, pR (1000 + w)), (2, pI n)]) F dX8_takes_63 (by decide) rfl ?_
          refine ok_iconst F dX8_takes_64 ?_
          refine ok_istore (lv' := [(4, pI 0), (3, pI 1), (0, pR 0), (1, pR (1000 + w)), (2, pI n)]) F dX8_takes_65 (by decide) rfl ?_
          have hL_67 : ∀ (n_67 : Nat) (g : Int) (i : Int), (0 ≤ i ∧ i ≤ n ∧ (g = 1 ∧ n = ((sLen.getD w 0 : Nat) : Int) ∧ (∀ j : Nat, (j : Int) < i → mem 6 (skipF mem 401 (mem 0 8) + j).toNat = (((sTx w).getD j 0 : Nat) : Int)) ∨ g = 0 ∧ ¬ spelT mem (skipF mem 401 (mem 0 8)) n w)) → (n - i).toNat = n_67 → Ok shp X 5 67 [(0, pR 0), (1, pR (1000 + w)), (2, pI n), (3, pI g), (4, pI i)] [] m_1 := by
            intro n_67
            induction n_67 using Nat.strongRecOn with
            | _ n_67 ih_67 =>
              intro g i hI_67 hn_67
              obtain ⟨hi0, hi1, hg⟩ := hI_67
              refine ok_iload F dX8_takes_67 4 rfl ?_
              refine ok_iload_n F dX8_takes_69 2 rfl ?_
              refine ok_icmp_ge F 110 dX8_takes_70 (by decide) (by omega) (by omega) (fun c_18 => ?_) (fun c_18 => ?_)
              · refine ok_aload_n F dX8_takes_110 0 rfl ?_
                refine ok_dup F dX8_takes_111 rfl ?_
                refine ok_getf (v := m_1 0 8) F dX8_takes_112 kF_X8_79 sh_0 rfl rfl ?_
                refine ok_iload_n F dX8_takes_115 3 rfl ?_
                refine ok_if_eq F 123 dX8_takes_116 (by decide) (by omega) (fun c_19 => ?_) (fun c_19 => ?_)
                · refine ok_iconst F dX8_takes_123 ?_
                  refine ok_iadd F dX8_takes_124 ?_
                  refine ok_putf F dX8_takes_125 kF_X8_79 sh_0 rfl rfl rfl (fun m_20 e_21 => ?_)
                  refine ok_iload_n F dX8_takes_128 3 rfl ?_
                  refine ok_zret F G dX8_takes_129 (by rcases hg with q | q <;> rw [q.1] <;> rfl) ?_
                  first
                    | (exfalso; omega)
                    | (obtain ⟨g1, g2⟩ := hg.resolve_left (fun q => by have := q.1; omega)
                       refine ⟨_, rfl, Or.inr ⟨by rw [hLn]; exact g2, g1, ?_⟩⟩
                       rw [e_21, d8, eN, mset_mset, Int.add_zero])
                    | (obtain ⟨g1, g2, g3⟩ := hg.resolve_right (fun q => by have := q.1; omega)
                       refine ⟨_, rfl, Or.inl ⟨by rw [hLn]; exact ⟨g2, fun j hj => g3 j (by omega)⟩, g1, ?_⟩⟩
                       rw [e_21, hLn, d8, eN, mset_mset])
                · refine ok_iload_n F dX8_takes_119 2 rfl ?_
                  refine ok_goto F 124 dX8_takes_120 (by decide) ?_
                  refine ok_iadd F dX8_takes_124 ?_
                  refine ok_putf F dX8_takes_125 kF_X8_79 sh_0 rfl rfl rfl (fun m_22 e_23 => ?_)
                  refine ok_iload_n F dX8_takes_128 3 rfl ?_
                  refine ok_zret F G dX8_takes_129 (by rcases hg with q | q <;> rw [q.1] <;> rfl) ?_
                  first
                    | (exfalso; omega)
                    | (obtain ⟨g1, g2⟩ := hg.resolve_left (fun q => by have := q.1; omega)
                       refine ⟨_, rfl, Or.inr ⟨by rw [hLn]; exact g2, g1, ?_⟩⟩
                       rw [e_23, d8, eN, mset_mset, Int.add_zero])
                    | (obtain ⟨g1, g2, g3⟩ := hg.resolve_right (fun q => by have := q.1; omega)
                       refine ⟨_, rfl, Or.inl ⟨by rw [hLn]; exact ⟨g2, fun j hj => g3 j (by omega)⟩, g1, ?_⟩⟩
                       rw [e_23, hLn, d8, eN, mset_mset])
              · refine ok_iload_n F dX8_takes_73 3 rfl ?_
                refine ok_if_eq F 110 dX8_takes_74 (by decide) (by omega) (fun c_24 => ?_) (fun c_24 => ?_)
                · refine ok_aload_n F dX8_takes_110 0 rfl ?_
                  refine ok_dup F dX8_takes_111 rfl ?_
                  refine ok_getf (v := m_1 0 8) F dX8_takes_112 kF_X8_79 sh_0 rfl rfl ?_
                  refine ok_iload_n F dX8_takes_115 3 rfl ?_
                  refine ok_if_eq F 123 dX8_takes_116 (by decide) (by omega) (fun c_25 => ?_) (fun c_25 => ?_)
                  · refine ok_iconst F dX8_takes_123 ?_
                    refine ok_iadd F dX8_takes_124 ?_
                    refine ok_putf F dX8_takes_125 kF_X8_79 sh_0 rfl rfl rfl (fun m_26 e_27 => ?_)
                    refine ok_iload_n F dX8_takes_128 3 rfl ?_
                    refine ok_zret F G dX8_takes_129 (by rcases hg with q | q <;> rw [q.1] <;> rfl) ?_
                    first
                      | (exfalso; omega)
                      | (obtain ⟨g1, g2⟩ := hg.resolve_left (fun q => by have := q.1; omega)
                         refine ⟨_, rfl, Or.inr ⟨by rw [hLn]; exact g2, g1, ?_⟩⟩
                         rw [e_27, d8, eN, mset_mset, Int.add_zero])
                      | (obtain ⟨g1, g2, g3⟩ := hg.resolve_right (fun q => by have := q.1; omega)
                         refine ⟨_, rfl, Or.inl ⟨by rw [hLn]; exact ⟨g2, fun j hj => g3 j (by omega)⟩, g1, ?_⟩⟩
                         rw [e_27, hLn, d8, eN, mset_mset])
                  · refine ok_iload_n F dX8_takes_119 2 rfl ?_
                    refine ok_goto F 124 dX8_takes_120 (by decide) ?_
                    refine ok_iadd F dX8_takes_124 ?_
                    refine ok_putf F dX8_takes_125 kF_X8_79 sh_0 rfl rfl rfl (fun m_28 e_29 => ?_)
                    refine ok_iload_n F dX8_takes_128 3 rfl ?_
                    refine ok_zret F G dX8_takes_129 (by rcases hg with q | q <;> rw [q.1] <;> rfl) ?_
                    first
                      | (exfalso; omega)
                      | (obtain ⟨g1, g2⟩ := hg.resolve_left (fun q => by have := q.1; omega)
                         refine ⟨_, rfl, Or.inr ⟨by rw [hLn]; exact g2, g1, ?_⟩⟩
                         rw [e_29, d8, eN, mset_mset, Int.add_zero])
                      | (obtain ⟨g1, g2, g3⟩ := hg.resolve_right (fun q => by have := q.1; omega)
                         refine ⟨_, rfl, Or.inl ⟨by rw [hLn]; exact ⟨g2, fun j hj => g3 j (by omega)⟩, g1, ?_⟩⟩
                         rw [e_29, hLn, d8, eN, mset_mset])
                · obtain ⟨hg1, hg2, hg3⟩ := hg.resolve_right (fun q => absurd q.1 (by omega))
                  have hb := hBy (m_1 0 8 + i).toNat
                  have hcb := sTx_bd (j := i.toNat) hw (by omega)
                  refine ok_aload_n F dX8_takes_77 0 rfl ?_
                  refine ok_getr F dX8_takes_78 kF_X8_26 sh_0 rfl ?_
                  refine ok_aload_n F dX8_takes_81 0 rfl ?_
                  refine ok_getf (v := m_1 0 8) F dX8_takes_82 kF_X8_79 sh_0 rfl rfl ?_
                  refine ok_iload F dX8_takes_85 4 rfl ?_
                  refine ok_iadd F dX8_takes_87 ?_
                  refine ok_bald (v := mem 6 (((m_1 0 8) + i).toNat)) F dX8_takes_88 sh_6 (by first | decide | assumption) (by omega) (by omega) (by rw [d6] <;> rfl) ?_
                  refine ok_aload_n F dX8_takes_89 1 rfl ?_
                  refine ok_iload F dX8_takes_90 4 rfl ?_
                  refine ok_callt (i := w) F [pI i] dX8_takes_92 kM_J0_charAt_5068e kI_J0_charAt_5068e kV_J0_charAt_5068e kL_X8_109 rfl hw rfl (by decide) (Nat.le_of_ble_eq_true rfl) rfl (m_J0_charAt _ w i m_1 hw (by omega)) ?_
                  rintro _ _ ⟨rfl, rfl⟩
                  refine ok_icmp_ne F 102 dX8_takes_95 (by decide) (by omega) (by omega) (fun c_30 => ?_) (fun c_30 => ?_)
                  · refine ok_iconst F dX8_takes_102 ?_
                    refine ok_istore_n (lv' := [(3, pI 0), (0, pR 0), (1, pR (1000 + w)), (2, pI n), (4, pI i)]) F dX8_takes_103 (by decide) rfl ?_
                    refine ok_iinc (lv' := [(4, pI (i + 1)), (3, pI 0), (0, pR 0), (1, pR (1000 + w)), (2, pI n)]) F dX8_takes_104 4 rfl (by decide) rfl ?_
                    refine ok_goto F 67 dX8_takes_107 (by decide) ?_
                    refine ok_lvp [2, 3, 4, 1, 0] (lv' := [(0, pR 0), (1, pR (1000 + w)), (2, pI n), (3, pI 0), (4, pI (i + 1))]) rfl ?_
                    refine ih_67 _ ?_ 0 (i + 1) ?_ rfl
                    · omega
                    · first
                        | (refine ⟨by omega, by omega, Or.inl ⟨rfl, hg2, fun j hj => ?_⟩⟩
                           by_cases y : (j : Int) < i
                           · exact hg3 j y
                           · rw [show j = i.toNat by omega, show ((i.toNat : Nat) : Int) = i by omega, ← d8]; omega)
                        | (refine ⟨by omega, by omega, Or.inr ⟨rfl, fun q => ?_⟩⟩
                           have q2 := q.2 i.toNat (by omega)
                           rw [show ((i.toNat : Nat) : Int) = i by omega, ← d8] at q2
                           omega)
                  · refine ok_iconst F dX8_takes_98 ?_
                    refine ok_goto F 103 dX8_takes_99 (by decide) ?_
                    refine ok_istore_n (lv' := [(3, pI 1), (0, pR 0), (1, pR (1000 + w)), (2, pI n), (4, pI i)]) F dX8_takes_103 (by decide) rfl ?_
                    refine ok_iinc (lv' := [(4, pI (i + 1)), (3, pI 1), (0, pR 0), (1, pR (1000 + w)), (2, pI n)]) F dX8_takes_104 4 rfl (by decide) rfl ?_
                    refine ok_goto F 67 dX8_takes_107 (by decide) ?_
                    refine ok_lvp [2, 3, 4, 1, 0] (lv' := [(0, pR 0), (1, pR (1000 + w)), (2, pI n), (3, pI 1), (4, pI (i + 1))]) rfl ?_
                    refine ih_67 _ ?_ 1 (i + 1) ?_ rfl
                    · omega
                    · first
                        | (refine ⟨by omega, by omega, Or.inl ⟨rfl, hg2, fun j hj => ?_⟩⟩
                           by_cases y : (j : Int) < i
                           · exact hg3 j y
                           · rw [show j = i.toNat by omega, show ((i.toNat : Nat) : Int) = i by omega, ← d8]; omega)
                        | (refine ⟨by omega, by omega, Or.inr ⟨rfl, fun q => ?_⟩⟩
                           have q2 := q.2 i.toNat (by omega)
                           rw [show ((i.toNat : Nat) : Int) = i by omega, ← d8] at q2
                           omega)
          refine ok_lvp [2, 3, 4, 1, 0] (lv' := [(0, pR 0), (1, pR (1000 + w)), (2, pI n), (3, pI 1), (4, pI 0)]) rfl ?_
          refine hL_67 _ 1 0 ?_ rfl
          first
            | exact ⟨by omega, by omega, Or.inl ⟨rfl, by omega, fun j hj => by omega⟩⟩
            | exact ⟨by omega, by omega, Or.inr ⟨rfl, fun q => by have := q.1; omega⟩⟩
      · have hb := hBy (m_1 0 8 + n).toNat
        refine ok_aload_n F dX8_takes_20 0 rfl ?_
        refine ok_getr F dX8_takes_21 kF_X8_26 sh_0 rfl ?_
        refine ok_aload_n F dX8_takes_24 0 rfl ?_
        refine ok_getf (v := m_1 0 8) F dX8_takes_25 kF_X8_79 sh_0 rfl rfl ?_
        refine ok_iload_n F dX8_takes_28 2 rfl ?_
        refine ok_iadd F dX8_takes_29 ?_
        refine ok_bald (v := mem 6 (((m_1 0 8) + n).toNat)) F dX8_takes_30 sh_6 (by first | decide | assumption) (by omega) (by omega) (by rw [d6] <;> rfl) ?_
        refine ok_i2l F dX8_takes_31 (by omega) ?_
        refine ok_ldc2 (n := 97) F dX8_takes_32 kJ_X8_96 rfl ?_
        refine ok_ldc2 (n := 122) F dX8_takes_35 kJ_X8_98 rfl ?_
        refine ok_calls F [pL (mem 6 (((m_1 0 8) + n).toNat)), pL 97, pL 122] dX8_takes_38 kM_X8_in kS_X8_in kL_X8_100 rfl (by decide) (Nat.le_of_ble_eq_true rfl) rfl (m_X8_in _ (mem 6 (((m_1 0 8) + n).toNat)) 97 122 m_1 (by omega) (by omega) (by omega)) ?_
        rintro _ _ ⟨rfl, rfl⟩
        refine ok_if_eq F 50 dX8_takes_41 (by decide) (by omega) (fun c_31 => ?_) (fun c_31 => ?_)
        · have hlb := sLen_bd hw
          have hLn : letN mem 401 (skipF mem 401 (mem 0 8)) = n := by
            rw [hL]
            have z : letN mem c (skipF mem 401 (mem 0 8) + n) = 0 := by
              by_cases y : c = 0
              · rw [y]; rfl
              · rw [show c = (c - 1) + 1 by omega, letN_s, if_neg (by rw [← d8]; omega)]
            rw [z, Int.zero_add]
          refine ok_iload_n F dX8_takes_50 2 rfl ?_
          refine ok_aload_n F dX8_takes_51 1 rfl ?_
          refine ok_callt (i := w) F [] dX8_takes_52 kM_J0_length_8abf5 kI_J0_length_8abf5 kV_J0_length_8abf5 kL_X8_104 rfl hw rfl (by decide) (Nat.le_of_ble_eq_true rfl) rfl (m_J0_length _ w m_1 hw) ?_
          rintro _ _ ⟨rfl, rfl⟩
          refine ok_icmp_ne F 62 dX8_takes_55 (by decide) (by omega) (by omega) (fun c_32 => ?_) (fun c_32 => ?_)
          · refine ok_iconst F dX8_takes_62 ?_
            refine ok_istore_n (lv' := [(3, pI 0), (0, pR 0), (1, pR (1000 + w)), (2, pI n)]) F dX8_takes_63 (by decide) rfl ?_
            refine ok_iconst F dX8_takes_64 ?_
            refine ok_istore (lv' := [(4, pI 0), (3, pI 0), (0, pR 0), (1, pR (1000 + w)), (2, pI n)]) F dX8_takes_65 (by decide) rfl ?_
            have hL_67 : ∀ (n_67 : Nat) (g : Int) (i : Int), (0 ≤ i ∧ i ≤ n ∧ (g = 1 ∧ n = ((sLen.getD w 0 : Nat) : Int) ∧ (∀ j : Nat, (j : Int) < i → mem 6 (skipF mem 401 (mem 0 8) + j).toNat = (((sTx w).getD j 0 : Nat) : Int)) ∨ g = 0 ∧ ¬ spelT mem (skipF mem 401 (mem 0 8)) n w)) → (n - i).toNat = n_67 → Ok shp X 5 67 [(0, pR 0), (1, pR (1000 + w)), (2, pI n), (3, pI g), (4, pI i)] [] m_1 := by
              intro n_67
              induction n_67 using Nat.strongRecOn with
              | _ n_67 ih_67 =>
                intro g i hI_67 hn_67
                obtain ⟨hi0, hi1, hg⟩ := hI_67
                refine ok_iload F dX8_takes_67 4 rfl ?_
                refine ok_iload_n F dX8_takes_69 2 rfl ?_
                refine ok_icmp_ge F 110 dX8_takes_70 (by decide) (by omega) (by omega) (fun c_33 => ?_) (fun c_33 => ?_)
                · refine ok_aload_n F dX8_takes_110 0 rfl ?_
                  refine ok_dup F dX8_takes_111 rfl ?_
                  refine ok_getf (v := m_1 0 8) F dX8_takes_112 kF_X8_79 sh_0 rfl rfl ?_
                  refine ok_iload_n F dX8_takes_115 3 rfl ?_
                  refine ok_if_eq F 123 dX8_takes_116 (by decide) (by omega) (fun c_34 => ?_) (fun c_34 => ?_)
                  · refine ok_iconst F dX8_takes_123 ?_
                    refine ok_iadd F dX8_takes_124 ?_
                    refine ok_putf F dX8_takes_125 kF_X8_79 sh_0 rfl rfl rfl (fun m_35 e_36 => ?_)
                    refine ok_iload_n F dX8_takes_128 3 rfl ?_
                    refine ok_zret F G dX8_takes_129 (by rcases hg with q | q <;> rw [q.1] <;> rfl) ?_
                    first
                      | (exfalso; omega)
                      | (obtain ⟨g1, g2⟩ := hg.resolve_left (fun q => by have := q.1; omega)
                         refine ⟨_, rfl, Or.inr ⟨by rw [hLn]; exact g2, g1, ?_⟩⟩
                         rw [e_36, d8, eN, mset_mset, Int.add_zero])
                      | (obtain ⟨g1, g2, g3⟩ := hg.resolve_right (fun q => by have := q.1; omega)
                         refine ⟨_, rfl, Or.inl ⟨by rw [hLn]; exact ⟨g2, fun j hj => g3 j (by omega)⟩, g1, ?_⟩⟩
                         rw [e_36, hLn, d8, eN, mset_mset])
                  · refine ok_iload_n F dX8_takes_119 2 rfl ?_
                    refine ok_goto F 124 dX8_takes_120 (by decide) ?_
                    refine ok_iadd F dX8_takes_124 ?_
                    refine ok_putf F dX8_takes_125 kF_X8_79 sh_0 rfl rfl rfl (fun m_37 e_38 => ?_)
                    refine ok_iload_n F dX8_takes_128 3 rfl ?_
                    refine ok_zret F G dX8_takes_129 (by rcases hg with q | q <;> rw [q.1] <;> rfl) ?_
                    first
                      | (exfalso; omega)
                      | (obtain ⟨g1, g2⟩ := hg.resolve_left (fun q => by have := q.1; omega)
                         refine ⟨_, rfl, Or.inr ⟨by rw [hLn]; exact g2, g1, ?_⟩⟩
                         rw [e_38, d8, eN, mset_mset, Int.add_zero])
                      | (obtain ⟨g1, g2, g3⟩ := hg.resolve_right (fun q => by have := q.1; omega)
                         refine ⟨_, rfl, Or.inl ⟨by rw [hLn]; exact ⟨g2, fun j hj => g3 j (by omega)⟩, g1, ?_⟩⟩
                         rw [e_38, hLn, d8, eN, mset_mset])
                · refine ok_iload_n F dX8_takes_73 3 rfl ?_
                  refine ok_if_eq F 110 dX8_takes_74 (by decide) (by omega) (fun c_39 => ?_) (fun c_39 => ?_)
                  · refine ok_aload_n F dX8_takes_110 0 rfl ?_
                    refine ok_dup F dX8_takes_111 rfl ?_
                    refine ok_getf (v := m_1 0 8) F dX8_takes_112 kF_X8_79 sh_0 rfl rfl ?_
                    refine ok_iload_n F dX8_takes_115 3 rfl ?_
                    refine ok_if_eq F 123 dX8_takes_116 (by decide) (by omega) (fun c_40 => ?_) (fun c_40 => ?_)
                    · refine ok_iconst F dX8_takes_123 ?_
                      refine ok_iadd F dX8_takes_124 ?_
                      refine ok_putf F dX8_takes_125 kF_X8_79 sh_0 rfl rfl rfl (fun m_41 e_42 => ?_)
                      refine ok_iload_n F dX8_takes_128 3 rfl ?_
                      refine ok_zret F G dX8_takes_129 (by rcases hg with q | q <;> rw [q.1] <;> rfl) ?_
                      first
                        | (exfalso; omega)
                        | (obtain ⟨g1, g2⟩ := hg.resolve_left (fun q => by have := q.1; omega)
                           refine ⟨_, rfl, Or.inr ⟨by rw [hLn]; exact g2, g1, ?_⟩⟩
                           rw [e_42, d8, eN, mset_mset, Int.add_zero])
                        | (obtain ⟨g1, g2, g3⟩ := hg.resolve_right (fun q => by have := q.1; omega)
                           refine ⟨_, rfl, Or.inl ⟨by rw [hLn]; exact ⟨g2, fun j hj => g3 j (by omega)⟩, g1, ?_⟩⟩
                           rw [e_42, hLn, d8, eN, mset_mset])
                    · refine ok_iload_n F dX8_takes_119 2 rfl ?_
                      refine ok_goto F 124 dX8_takes_120 (by decide) ?_
                      refine ok_iadd F dX8_takes_124 ?_
                      refine ok_putf F dX8_takes_125 kF_X8_79 sh_0 rfl rfl rfl (fun m_43 e_44 => ?_)
                      refine ok_iload_n F dX8_takes_128 3 rfl ?_
                      refine ok_zret F G dX8_takes_129 (by rcases hg with q | q <;> rw [q.1] <;> rfl) ?_
                      first
                        | (exfalso; omega)
                        | (obtain ⟨g1, g2⟩ := hg.resolve_left (fun q => by have := q.1; omega)
                           refine ⟨_, rfl, Or.inr ⟨by rw [hLn]; exact g2, g1, ?_⟩⟩
                           rw [e_44, d8, eN, mset_mset, Int.add_zero])
                        | (obtain ⟨g1, g2, g3⟩ := hg.resolve_right (fun q => by have := q.1; omega)
                           refine ⟨_, rfl, Or.inl ⟨by rw [hLn]; exact ⟨g2, fun j hj => g3 j (by omega)⟩, g1, ?_⟩⟩
                           rw [e_44, hLn, d8, eN, mset_mset])
                  · obtain ⟨hg1, hg2, hg3⟩ := hg.resolve_right (fun q => absurd q.1 (by omega))
                    have hb := hBy (m_1 0 8 + i).toNat
                    have hcb := sTx_bd (j := i.toNat) hw (by omega)
                    refine ok_aload_n F dX8_takes_77 0 rfl ?_
                    refine ok_getr F dX8_takes_78 kF_X8_26 sh_0 rfl ?_
                    refine ok_aload_n F dX8_takes_81 0 rfl ?_
                    refine ok_getf (v := m_1 0 8) F dX8_takes_82 kF_X8_79 sh_0 rfl rfl ?_
                    refine ok_iload F dX8_takes_85 4 rfl ?_
                    refine ok_iadd F dX8_takes_87 ?_
                    refine ok_bald (v := mem 6 (((m_1 0 8) + i).toNat)) F dX8_takes_88 sh_6 (by first | decide | assumption) (by omega) (by omega) (by rw [d6] <;> rfl) ?_
                    refine ok_aload_n F dX8_takes_89 1 rfl ?_
                    refine ok_iload F dX8_takes_90 4 rfl ?_
                    refine ok_callt (i := w) F [pI i] dX8_takes_92 kM_J0_charAt_5068e kI_J0_charAt_5068e kV_J0_charAt_5068e kL_X8_109 rfl hw rfl (by decide) (Nat.le_of_ble_eq_true rfl) rfl (m_J0_charAt _ w i m_1 hw (by omega)) ?_
                    rintro _ _ ⟨rfl, rfl⟩
                    refine ok_icmp_ne F 102 dX8_takes_95 (by decide) (by omega) (by omega) (fun c_45 => ?_) (fun c_45 => ?_)
                    · refine ok_iconst F dX8_takes_102 ?_
                      refine ok_istore_n (lv' := [(3, pI 0), (0, pR 0), (1, pR (1000 + w)), (2, pI n), (4, pI i)]) F dX8_takes_103 (by decide) rfl ?_
                      refine ok_iinc (lv' := [(4, pI (i + 1)), (3, pI 0), (0, pR 0), (1, pR (1000 + w)), (2, pI n)]) F dX8_takes_104 4 rfl (by decide) rfl ?_
                      refine ok_goto F 67 dX8_takes_107 (by decide) ?_
                      refine ok_lvp [2, 3, 4, 1, 0] (lv' := [(0, pR 0), (1, pR (1000 + w)), (2, pI n), (3, pI 0), (4, pI (i + 1))]) rfl ?_
                      refine ih_67 _ ?_ 0 (i + 1) ?_ rfl
                      · omega
                      · first
                          | (refine ⟨by omega, by omega, Or.inl ⟨rfl, hg2, fun j hj => ?_⟩⟩
                             by_cases y : (j : Int) < i
                             · exact hg3 j y
                             · rw [show j = i.toNat by omega, show ((i.toNat : Nat) : Int) = i by omega, ← d8]; omega)
                          | (refine ⟨by omega, by omega, Or.inr ⟨rfl, fun q => ?_⟩⟩
                             have q2 := q.2 i.toNat (by omega)
                             rw [show ((i.toNat : Nat) : Int) = i by omega, ← d8] at q2
                             omega)
                    · refine ok_iconst F dX8_takes_98 ?_
                      refine ok_goto F 103 dX8_takes_99 (by decide) ?_
                      refine ok_istore_n (lv' := [(3, pI 1), (0, pR 0), (1, pR (1000 + w)), (2, pI n), (4, pI i)]) F dX8_takes_103 (by decide) rfl ?_
                      refine ok_iinc (lv' := [(4, pI (i + 1)), (3, pI 1), (0, pR 0), (1, pR (1000 + w)), (2, pI n)]) F dX8_takes_104 4 rfl (by decide) rfl ?_
                      refine ok_goto F 67 dX8_takes_107 (by decide) ?_
                      refine ok_lvp [2, 3, 4, 1, 0] (lv' := [(0, pR 0), (1, pR (1000 + w)), (2, pI n), (3, pI 1), (4, pI (i + 1))]) rfl ?_
                      refine ih_67 _ ?_ 1 (i + 1) ?_ rfl
                      · omega
                      · first
                          | (refine ⟨by omega, by omega, Or.inl ⟨rfl, hg2, fun j hj => ?_⟩⟩
                             by_cases y : (j : Int) < i
                             · exact hg3 j y
                             · rw [show j = i.toNat by omega, show ((i.toNat : Nat) : Int) = i by omega, ← d8]; omega)
                          | (refine ⟨by omega, by omega, Or.inr ⟨rfl, fun q => ?_⟩⟩
                             have q2 := q.2 i.toNat (by omega)
                             rw [show ((i.toNat : Nat) : Int) = i by omega, ← d8] at q2
                             omega)
            refine ok_lvp [2, 3, 4, 1, 0] (lv' := [(0, pR 0), (1, pR (1000 + w)), (2, pI n), (3, pI 0), (4, pI 0)]) rfl ?_
            refine hL_67 _ 0 0 ?_ rfl
            first
              | exact ⟨by omega, by omega, Or.inl ⟨rfl, by omega, fun j hj => by omega⟩⟩
              | exact ⟨by omega, by omega, Or.inr ⟨rfl, fun q => by have := q.1; omega⟩⟩
          · refine ok_iconst F dX8_takes_58 ?_
            refine ok_goto F 63 dX8_takes_59 (by decide) ?_
            refine ok_istore_n (lv' := [(3, pI 1), (0, pR 0), (1, pR (1000 + w)), (2, pI n)]) F dX8_takes_63 (by decide) rfl ?_
            refine ok_iconst F dX8_takes_64 ?_
            refine ok_istore (lv' := [(4, pI 0), (3, pI 1), (0, pR 0), (1, pR (1000 + w)), (2, pI n)]) F dX8_takes_65 (by decide) rfl ?_
            have hL_67 : ∀ (n_67 : Nat) (g : Int) (i : Int), (0 ≤ i ∧ i ≤ n ∧ (g = 1 ∧ n = ((sLen.getD w 0 : Nat) : Int) ∧ (∀ j : Nat, (j : Int) < i → mem 6 (skipF mem 401 (mem 0 8) + j).toNat = (((sTx w).getD j 0 : Nat) : Int)) ∨ g = 0 ∧ ¬ spelT mem (skipF mem 401 (mem 0 8)) n w)) → (n - i).toNat = n_67 → Ok shp X 5 67 [(0, pR 0), (1, pR (1000 + w)), (2, pI n), (3, pI g), (4, pI i)] [] m_1 := by
              intro n_67
              induction n_67 using Nat.strongRecOn with
              | _ n_67 ih_67 =>
                intro g i hI_67 hn_67
                obtain ⟨hi0, hi1, hg⟩ := hI_67
                refine ok_iload F dX8_takes_67 4 rfl ?_
                refine ok_iload_n F dX8_takes_69 2 rfl ?_
                refine ok_icmp_ge F 110 dX8_takes_70 (by decide) (by omega) (by omega) (fun c_46 => ?_) (fun c_46 => ?_)
                · refine ok_aload_n F dX8_takes_110 0 rfl ?_
                  refine ok_dup F dX8_takes_111 rfl ?_
                  refine ok_getf (v := m_1 0 8) F dX8_takes_112 kF_X8_79 sh_0 rfl rfl ?_
                  refine ok_iload_n F dX8_takes_115 3 rfl ?_
                  refine ok_if_eq F 123 dX8_takes_116 (by decide) (by omega) (fun c_47 => ?_) (fun c_47 => ?_)
                  · refine ok_iconst F dX8_takes_123 ?_
                    refine ok_iadd F dX8_takes_124 ?_
                    refine ok_putf F dX8_takes_125 kF_X8_79 sh_0 rfl rfl rfl (fun m_48 e_49 => ?_)
                    refine ok_iload_n F dX8_takes_128 3 rfl ?_
                    refine ok_zret F G dX8_takes_129 (by rcases hg with q | q <;> rw [q.1] <;> rfl) ?_
                    first
                      | (exfalso; omega)
                      | (obtain ⟨g1, g2⟩ := hg.resolve_left (fun q => by have := q.1; omega)
                         refine ⟨_, rfl, Or.inr ⟨by rw [hLn]; exact g2, g1, ?_⟩⟩
                         rw [e_49, d8, eN, mset_mset, Int.add_zero])
                      | (obtain ⟨g1, g2, g3⟩ := hg.resolve_right (fun q => by have := q.1; omega)
                         refine ⟨_, rfl, Or.inl ⟨by rw [hLn]; exact ⟨g2, fun j hj => g3 j (by omega)⟩, g1, ?_⟩⟩
                         rw [e_49, hLn, d8, eN, mset_mset])
                  · refine ok_iload_n F dX8_takes_119 2 rfl ?_
                    refine ok_goto F 124 dX8_takes_120 (by decide) ?_
                    refine ok_iadd F dX8_takes_124 ?_
                    refine ok_putf F dX8_takes_125 kF_X8_79 sh_0 rfl rfl rfl (fun m_50 e_51 => ?_)
                    refine ok_iload_n F dX8_takes_128 3 rfl ?_
                    refine ok_zret F G dX8_takes_129 (by rcases hg with q | q <;> rw [q.1] <;> rfl) ?_
                    first
                      | (exfalso; omega)
                      | (obtain ⟨g1, g2⟩ := hg.resolve_left (fun q => by have := q.1; omega)
                         refine ⟨_, rfl, Or.inr ⟨by rw [hLn]; exact g2, g1, ?_⟩⟩
                         rw [e_51, d8, eN, mset_mset, Int.add_zero])
                      | (obtain ⟨g1, g2, g3⟩ := hg.resolve_right (fun q => by have := q.1; omega)
                         refine ⟨_, rfl, Or.inl ⟨by rw [hLn]; exact ⟨g2, fun j hj => g3 j (by omega)⟩, g1, ?_⟩⟩
                         rw [e_51, hLn, d8, eN, mset_mset])
                · refine ok_iload_n F dX8_takes_73 3 rfl ?_
                  refine ok_if_eq F 110 dX8_takes_74 (by decide) (by omega) (fun c_52 => ?_) (fun c_52 => ?_)
                  · refine ok_aload_n F dX8_takes_110 0 rfl ?_
                    refine ok_dup F dX8_takes_111 rfl ?_
                    refine ok_getf (v := m_1 0 8) F dX8_takes_112 kF_X8_79 sh_0 rfl rfl ?_
                    refine ok_iload_n F dX8_takes_115 3 rfl ?_
                    refine ok_if_eq F 123 dX8_takes_116 (by decide) (by omega) (fun c_53 => ?_) (fun c_53 => ?_)
                    · refine ok_iconst F dX8_takes_123 ?_
                      refine ok_iadd F dX8_takes_124 ?_
                      refine ok_putf F dX8_takes_125 kF_X8_79 sh_0 rfl rfl rfl (fun m_54 e_55 => ?_)
                      refine ok_iload_n F dX8_takes_128 3 rfl ?_
                      refine ok_zret F G dX8_takes_129 (by rcases hg with q | q <;> rw [q.1] <;> rfl) ?_
                      first
                        | (exfalso; omega)
                        | (obtain ⟨g1, g2⟩ := hg.resolve_left (fun q => by have := q.1; omega)
                           refine ⟨_, rfl, Or.inr ⟨by rw [hLn]; exact g2, g1, ?_⟩⟩
                           rw [e_55, d8, eN, mset_mset, Int.add_zero])
                        | (obtain ⟨g1, g2, g3⟩ := hg.resolve_right (fun q => by have := q.1; omega)
                           refine ⟨_, rfl, Or.inl ⟨by rw [hLn]; exact ⟨g2, fun j hj => g3 j (by omega)⟩, g1, ?_⟩⟩
                           rw [e_55, hLn, d8, eN, mset_mset])
                    · refine ok_iload_n F dX8_takes_119 2 rfl ?_
                      refine ok_goto F 124 dX8_takes_120 (by decide) ?_
                      refine ok_iadd F dX8_takes_124 ?_
                      refine ok_putf F dX8_takes_125 kF_X8_79 sh_0 rfl rfl rfl (fun m_56 e_57 => ?_)
                      refine ok_iload_n F dX8_takes_128 3 rfl ?_
                      refine ok_zret F G dX8_takes_129 (by rcases hg with q | q <;> rw [q.1] <;> rfl) ?_
                      first
                        | (exfalso; omega)
                        | (obtain ⟨g1, g2⟩ := hg.resolve_left (fun q => by have := q.1; omega)
                           refine ⟨_, rfl, Or.inr ⟨by rw [hLn]; exact g2, g1, ?_⟩⟩
                           rw [e_57, d8, eN, mset_mset, Int.add_zero])
                        | (obtain ⟨g1, g2, g3⟩ := hg.resolve_right (fun q => by have := q.1; omega)
                           refine ⟨_, rfl, Or.inl ⟨by rw [hLn]; exact ⟨g2, fun j hj => g3 j (by omega)⟩, g1, ?_⟩⟩
                           rw [e_57, hLn, d8, eN, mset_mset])
                  · obtain ⟨hg1, hg2, hg3⟩ := hg.resolve_right (fun q => absurd q.1 (by omega))
                    have hb := hBy (m_1 0 8 + i).toNat
                    have hcb := sTx_bd (j := i.toNat) hw (by omega)
                    refine ok_aload_n F dX8_takes_77 0 rfl ?_
                    refine ok_getr F dX8_takes_78 kF_X8_26 sh_0 rfl ?_
                    refine ok_aload_n F dX8_takes_81 0 rfl ?_
                    refine ok_getf (v := m_1 0 8) F dX8_takes_82 kF_X8_79 sh_0 rfl rfl ?_
                    refine ok_iload F dX8_takes_85 4 rfl ?_
                    refine ok_iadd F dX8_takes_87 ?_
                    refine ok_bald (v := mem 6 (((m_1 0 8) + i).toNat)) F dX8_takes_88 sh_6 (by first | decide | assumption) (by omega) (by omega) (by rw [d6] <;> rfl) ?_
                    refine ok_aload_n F dX8_takes_89 1 rfl ?_
                    refine ok_iload F dX8_takes_90 4 rfl ?_
                    refine ok_callt (i := w) F [pI i] dX8_takes_92 kM_J0_charAt_5068e kI_J0_charAt_5068e kV_J0_charAt_5068e kL_X8_109 rfl hw rfl (by decide) (Nat.le_of_ble_eq_true rfl) rfl (m_J0_charAt _ w i m_1 hw (by omega)) ?_
                    rintro _ _ ⟨rfl, rfl⟩
                    refine ok_icmp_ne F 102 dX8_takes_95 (by decide) (by omega) (by omega) (fun c_58 => ?_) (fun c_58 => ?_)
                    · refine ok_iconst F dX8_takes_102 ?_
                      refine ok_istore_n (lv' := [(3, pI 0), (0, pR 0), (1, pR (1000 + w)), (2, pI n), (4, pI i)]) F dX8_takes_103 (by decide) rfl ?_
                      refine ok_iinc (lv' := [(4, pI (i + 1)), (3, pI 0), (0, pR 0), (1, pR (1000 + w)), (2, pI n)]) F dX8_takes_104 4 rfl (by decide) rfl ?_
                      refine ok_goto F 67 dX8_takes_107 (by decide) ?_
                      refine ok_lvp [2, 3, 4, 1, 0] (lv' := [(0, pR 0), (1, pR (1000 + w)), (2, pI n), (3, pI 0), (4, pI (i + 1))]) rfl ?_
                      refine ih_67 _ ?_ 0 (i + 1) ?_ rfl
                      · omega
                      · first
                          | (refine ⟨by omega, by omega, Or.inl ⟨rfl, hg2, fun j hj => ?_⟩⟩
                             by_cases y : (j : Int) < i
                             · exact hg3 j y
                             · rw [show j = i.toNat by omega, show ((i.toNat : Nat) : Int) = i by omega, ← d8]; omega)
                          | (refine ⟨by omega, by omega, Or.inr ⟨rfl, fun q => ?_⟩⟩
                             have q2 := q.2 i.toNat (by omega)
                             rw [show ((i.toNat : Nat) : Int) = i by omega, ← d8] at q2
                             omega)
                    · refine ok_iconst F dX8_takes_98 ?_
                      refine ok_goto F 103 dX8_takes_99 (by decide) ?_
                      refine ok_istore_n (lv' := [(3, pI 1), (0, pR 0), (1, pR (1000 + w)), (2, pI n), (4, pI i)]) F dX8_takes_103 (by decide) rfl ?_
                      refine ok_iinc (lv' := [(4, pI (i + 1)), (3, pI 1), (0, pR 0), (1, pR (1000 + w)), (2, pI n)]) F dX8_takes_104 4 rfl (by decide) rfl ?_
                      refine ok_goto F 67 dX8_takes_107 (by decide) ?_
                      refine ok_lvp [2, 3, 4, 1, 0] (lv' := [(0, pR 0), (1, pR (1000 + w)), (2, pI n), (3, pI 1), (4, pI (i + 1))]) rfl ?_
                      refine ih_67 _ ?_ 1 (i + 1) ?_ rfl
                      · omega
                      · first
                          | (refine ⟨by omega, by omega, Or.inl ⟨rfl, hg2, fun j hj => ?_⟩⟩
                             by_cases y : (j : Int) < i
                             · exact hg3 j y
                             · rw [show j = i.toNat by omega, show ((i.toNat : Nat) : Int) = i by omega, ← d8]; omega)
                          | (refine ⟨by omega, by omega, Or.inr ⟨rfl, fun q => ?_⟩⟩
                             have q2 := q.2 i.toNat (by omega)
                             rw [show ((i.toNat : Nat) : Int) = i by omega, ← d8] at q2
                             omega)
            refine ok_lvp [2, 3, 4, 1, 0] (lv' := [(0, pR 0), (1, pR (1000 + w)), (2, pI n), (3, pI 1), (4, pI 0)]) rfl ?_
            refine hL_67 _ 1 0 ?_ rfl
            first
              | exact ⟨by omega, by omega, Or.inl ⟨rfl, by omega, fun j hj => by omega⟩⟩
              | exact ⟨by omega, by omega, Or.inr ⟨rfl, fun q => by have := q.1; omega⟩⟩
        · refine ok_iinc (lv' := [(2, pI (n + 1)), (0, pR 0), (1, pR (1000 + w))]) F dX8_takes_44 2 rfl (by decide) rfl ?_
          refine ok_goto F 7 dX8_takes_47 (by decide) ?_
          refine ok_lvp [1, 2, 0] (lv' := [(0, pR 0), (1, pR (1000 + w)), (2, pI (n + 1))]) rfl ?_
          refine ih_7 _ ?_ (n + 1) ?_ rfl
          · omega
          · have e8 := d8
            obtain ⟨c2, rfl⟩ : ∃ x, c = x + 1 := ⟨c - 1, by omega⟩
            refine ⟨by omega, by omega, c2, by omega, ?_⟩
            rw [hL, letN_s, if_pos (by rw [← d8]; omega), show skipF mem 401 (mem 0 8) + (n + 1) = skipF mem 401 (mem 0 8) + n + 1 by omega]
            omega
  refine ok_lvp [1, 2, 0] (lv' := [(0, pR 0), (1, pR (1000 + w)), (2, pI 0)]) rfl ?_
  refine hL_7 _ 0 ?_ rfl
  exact ⟨by omega, by omega, 401, by omega, by rw [Int.add_zero, Int.add_zero]⟩
