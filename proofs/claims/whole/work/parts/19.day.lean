/-! the reference: a day lived -/
/-- which kind went at a sale, from the greatest of so many kinds on -/
def goneD (f : Nat → Bool) (num : Int) : Nat → Int → Int → Int × Int
  | 0, a, b => (a, b)
  | n + 1, a, b => if f n = true ∧ (a = -2 ∨ a = num) then goneD f num n num n else goneD f num n a b
theorem dX8_seesBehind_0 : decode cX8_seesBehind 0 = .ok (.aload_n 0, 1) := by decide +kernel
theorem dX8_seesBehind_1 : decode cX8_seesBehind 1 = .ok (.getfield 9, 3) := by decide +kernel
theorem dX8_seesBehind_4 : decode cX8_seesBehind 4 = .ok (.iconst 0, 1) := by decide +kernel
theorem dX8_seesBehind_5 : decode cX8_seesBehind 5 = .ok (.iaload, 1) := by decide +kernel
theorem dX8_seesBehind_6 : decode cX8_seesBehind 6 = .ok (.iconst 1, 1) := by decide +kernel
theorem dX8_seesBehind_7 : decode cX8_seesBehind 7 = .ok (.isub, 1) := by decide +kernel
theorem dX8_seesBehind_8 : decode cX8_seesBehind 8 = .ok (.istore_n 2, 1) := by decide +kernel
theorem dX8_seesBehind_9 : decode cX8_seesBehind 9 = .ok (.iload_n 2, 1) := by decide +kernel
theorem dX8_seesBehind_10 : decode cX8_seesBehind 10 = .ok (.ifCond .lt 75, 3) := by decide +kernel
theorem dX8_seesBehind_13 : decode cX8_seesBehind 13 = .ok (.aload_n 0, 1) := by decide +kernel
theorem dX8_seesBehind_14 : decode cX8_seesBehind 14 = .ok (.getfield 58, 3) := by decide +kernel
theorem dX8_seesBehind_17 : decode cX8_seesBehind 17 = .ok (.iload_n 2, 1) := by decide +kernel
theorem dX8_seesBehind_18 : decode cX8_seesBehind 18 = .ok (.aload_n 0, 1) := by decide +kernel
theorem dX8_seesBehind_19 : decode cX8_seesBehind 19 = .ok (.getfield 58, 3) := by decide +kernel
theorem dX8_seesBehind_22 : decode cX8_seesBehind 22 = .ok (.iload_n 2, 1) := by decide +kernel
theorem dX8_seesBehind_23 : decode cX8_seesBehind 23 = .ok (.iaload, 1) := by decide +kernel
theorem dX8_seesBehind_24 : decode cX8_seesBehind 24 = .ok (.aload_n 0, 1) := by decide +kernel
theorem dX8_seesBehind_25 : decode cX8_seesBehind 25 = .ok (.getfield 52, 3) := by decide +kernel
theorem dX8_seesBehind_28 : decode cX8_seesBehind 28 = .ok (.iload_n 2, 1) := by decide +kernel
theorem dX8_seesBehind_29 : decode cX8_seesBehind 29 = .ok (.iaload, 1) := by decide +kernel
theorem dX8_seesBehind_30 : decode cX8_seesBehind 30 = .ok (.invokestatic 128, 3) := by decide +kernel
theorem dX8_seesBehind_33 : decode cX8_seesBehind 33 = .ok (.iastore, 1) := by decide +kernel
theorem dX8_seesBehind_34 : decode cX8_seesBehind 34 = .ok (.aload_n 0, 1) := by decide +kernel
theorem dX8_seesBehind_35 : decode cX8_seesBehind 35 = .ok (.getfield 52, 3) := by decide +kernel
theorem dX8_seesBehind_38 : decode cX8_seesBehind 38 = .ok (.iload_n 2, 1) := by decide +kernel
theorem dX8_seesBehind_39 : decode cX8_seesBehind 39 = .ok (.iaload, 1) := by decide +kernel
theorem dX8_seesBehind_40 : decode cX8_seesBehind 40 = .ok (.ifCond .ne 39, 3) := by decide +kernel
theorem dX8_seesBehind_43 : decode cX8_seesBehind 43 = .ok (.aload_n 0, 1) := by decide +kernel
theorem dX8_seesBehind_44 : decode cX8_seesBehind 44 = .ok (.getfield 55, 3) := by decide +kernel
theorem dX8_seesBehind_47 : decode cX8_seesBehind 47 = .ok (.iload_n 2, 1) := by decide +kernel
theorem dX8_seesBehind_48 : decode cX8_seesBehind 48 = .ok (.iaload, 1) := by decide +kernel
theorem dX8_seesBehind_49 : decode cX8_seesBehind 49 = .ok (.ifCond .le 30, 3) := by decide +kernel
theorem dX8_seesBehind_52 : decode cX8_seesBehind 52 = .ok (.aload_n 0, 1) := by decide +kernel
theorem dX8_seesBehind_53 : decode cX8_seesBehind 53 = .ok (.getfield 267, 3) := by decide +kernel
theorem dX8_seesBehind_56 : decode cX8_seesBehind 56 = .ok (.bipush (-2), 2) := by decide +kernel
theorem dX8_seesBehind_58 : decode cX8_seesBehind 58 = .ok (.if_icmp .eq 11, 3) := by decide +kernel
theorem dX8_seesBehind_61 : decode cX8_seesBehind 61 = .ok (.aload_n 0, 1) := by decide +kernel
theorem dX8_seesBehind_62 : decode cX8_seesBehind 62 = .ok (.getfield 267, 3) := by decide +kernel
theorem dX8_seesBehind_65 : decode cX8_seesBehind 65 = .ok (.iload_n 1, 1) := by decide +kernel
theorem dX8_seesBehind_66 : decode cX8_seesBehind 66 = .ok (.if_icmp .ne 13, 3) := by decide +kernel
theorem dX8_seesBehind_69 : decode cX8_seesBehind 69 = .ok (.aload_n 0, 1) := by decide +kernel
theorem dX8_seesBehind_70 : decode cX8_seesBehind 70 = .ok (.iload_n 1, 1) := by decide +kernel
theorem dX8_seesBehind_71 : decode cX8_seesBehind 71 = .ok (.putfield 267, 3) := by decide +kernel
theorem dX8_seesBehind_74 : decode cX8_seesBehind 74 = .ok (.aload_n 0, 1) := by decide +kernel
theorem dX8_seesBehind_75 : decode cX8_seesBehind 75 = .ok (.iload_n 2, 1) := by decide +kernel
theorem dX8_seesBehind_76 : decode cX8_seesBehind 76 = .ok (.putfield 270, 3) := by decide +kernel
theorem dX8_seesBehind_79 : decode cX8_seesBehind 79 = .ok (.iinc 2 (-1), 3) := by decide +kernel
theorem dX8_seesBehind_82 : decode cX8_seesBehind 82 = .ok (.goto (-73), 3) := by decide +kernel
theorem dX8_seesBehind_85 : decode cX8_seesBehind 85 = .ok (.return_, 1) := by decide +kernel
set_option maxHeartbeats 4000000 in
set_option maxRecDepth 100000 in
theorem m_X8_seesBehind (l : Launch) (n : Int) (mem : Mem) (hn : 0 ≤ n ∧ n ≤ 1000) (hN : 0 ≤ mem 1 0 ∧ mem 1 0 ≤ 8) (h14 : ∀ i : Nat, i < 8 → i32 (mem 14 i)) (h15 : ∀ i : Nat, (i : Int) < mem 1 0 → i32 (mem 15 i)) (h16 : ∀ i : Nat, i < 8 → i32 (mem 16 i)) (h25 : i32 (mem 0 25)) : Ret shp l yX8_seesBehind cX8_seesBehind 3 none 1 [pR 0, pI n] mem (fun rv mv => rv = none ∧ (∀ a, a ≠ 0 → a ≠ 16 → mv a = mem a) ∧ (∀ j, j ≠ 25 → j ≠ 26 → mv 0 j = mem 0 j) ∧ (∀ i : Nat, mv 16 i = if (i : Int) < mem 1 0 then min (mem 16 i) (mem 14 i) else mem 16 i) ∧ (mv 0 25, mv 0 26) = goneD (fun i => decide (mem 14 i = 0) && decide (0 < mem 15 i)) n (mem 1 0).toNat (mem 0 25) (mem 0 26) ∧ i32 (mv 0 25)) := by
  refine ret_of (by decide +kernel) (Nat.le_of_ble_eq_true rfl) (fun X hX F G => ?_)
  show Ok shp X 3 0 [(0, pR 0), (1, pI n)] [] mem
  refine ok_aload_n F dX8_seesBehind_0 0 rfl ?_
  refine ok_getr F dX8_seesBehind_1 kF_X8_9 sh_0 rfl ?_
  refine ok_iconst F dX8_seesBehind_4 ?_
  refine ok_iald (v := mem 1 0) F dX8_seesBehind_5 sh_1 (by first | decide | assumption) (by omega) (by omega) rfl ?_
  refine ok_iconst F dX8_seesBehind_6 ?_
  refine ok_isub F dX8_seesBehind_7 ?_
  refine ok_istore_n (lv' := [(2, pI ((mem 1 0) - 1)), (0, pR 0), (1, pI n)]) F dX8_seesBehind_8 (by decide) rfl ?_
  have hL_9 : ∀ (n_9 : Nat) (k : Int) (m : Mem), (-1 ≤ k ∧ k < mem 1 0 ∧ (∀ a, a ≠ 0 → a ≠ 16 → m a = mem a) ∧ (∀ j, j ≠ 25 → j ≠ 26 → m 0 j = mem 0 j) ∧ (∀ i : Nat, m 16 i = if k < (i : Int) ∧ (i : Int) < mem 1 0 then min (mem 16 i) (mem 14 i) else mem 16 i) ∧ goneD (fun i => decide (mem 14 i = 0) && decide (0 < mem 15 i)) n (mem 1 0).toNat (mem 0 25) (mem 0 26) = goneD (fun i => decide (mem 14 i = 0) && decide (0 < mem 15 i)) n (k + 1).toNat (m 0 25) (m 0 26) ∧ i32 (m 0 25)) → (k + 1).toNat = n_9 → Ok shp X 3 9 [(0, pR 0), (1, pI n), (2, pI k)] [] m := by
    intro n_9
    induction n_9 using Nat.strongRecOn with
    | _ n_9 ih_9 =>
      intro k m hI_9 hn_9
      obtain ⟨hk0, hk1, hF, hF0, hF16, hgo, hg25⟩ := hI_9
      have h1 := hF 1 (by decide) (by decide)
      have hF14 := hF 14 (by decide) (by decide)
      have hF15 := hF 15 (by decide) (by decide)
      refine ok_iload_n F dX8_seesBehind_9 2 rfl ?_
      refine ok_if_lt F 85 dX8_seesBehind_10 (by decide) (by omega) (fun c_1 => ?_) (fun c_1 => ?_)
      · refine ok_vret F G dX8_seesBehind_85 ?_
        have ek : k = -1 := by omega
        refine ⟨rfl, hF, hF0, fun i => ?_, ?_, hg25⟩
        · rw [hF16, ek]; by_cases g : (i : Int) < mem 1 0
          · rw [if_pos g, if_pos (by omega)]
          · rw [if_neg g, if_neg (by omega)]
        · rw [hgo, ek]; rfl
      · have q14 := h14 k.toNat (by omega)
        have q15 := h15 k.toNat (by omega)
        have q16 := h16 k.toNat (by omega)
        have e16k : m 16 k.toNat = mem 16 k.toNat := by rw [hF16, if_neg (by omega)]
        refine ok_aload_n F dX8_seesBehind_13 0 rfl ?_
        refine ok_getr F dX8_seesBehind_14 kF_X8_58 sh_0 rfl ?_
        refine ok_iload_n F dX8_seesBehind_17 2 rfl ?_
        refine ok_aload_n F dX8_seesBehind_18 0 rfl ?_
        refine ok_getr F dX8_seesBehind_19 kF_X8_58 sh_0 rfl ?_
        refine ok_iload_n F dX8_seesBehind_22 2 rfl ?_
        refine ok_iald (v := m 16 k.toNat) F dX8_seesBehind_23 sh_16 (by first | decide | assumption) (by omega) (by omega) rfl ?_
        refine ok_aload_n F dX8_seesBehind_24 0 rfl ?_
        refine ok_getr F dX8_seesBehind_25 kF_X8_52 sh_0 rfl ?_
        refine ok_iload_n F dX8_seesBehind_28 2 rfl ?_
        refine ok_iald (v := mem 14 k.toNat) F dX8_seesBehind_29 sh_14 (by first | decide | assumption) (by omega) (by omega) (by rw [hF14] <;> rfl) ?_
        refine ok_mmin F dX8_seesBehind_30 kL_X8_128 kS_J9_min_7cf53 kM_J9_min_7cf53.2.1 kM_J9_min_7cf53.2.2.1 (by omega) (by omega) (by decide) (Nat.le_of_ble_eq_true rfl) ?_
        refine ok_iast F dX8_seesBehind_33 sh_16 (by first | decide | assumption) (by omega) (by omega) (fun m_2 e_3 => ?_)
        refine ok_aload_n F dX8_seesBehind_34 0 rfl ?_
        refine ok_getr F dX8_seesBehind_35 kF_X8_52 sh_0 rfl ?_
        refine ok_iload_n F dX8_seesBehind_38 2 rfl ?_
        refine ok_iald (v := mem 14 k.toNat) F dX8_seesBehind_39 sh_14 (by first | decide | assumption) (by omega) (by omega) (by rw [e_3, mset_nk (by decide), hF14] <;> rfl) ?_
        refine ok_if_ne F 79 dX8_seesBehind_40 (by decide) (by omega) (fun c_4 => ?_) (fun c_4 => ?_)
        · refine ok_iinc (lv' := [(2, pI (k + (-1))), (0, pR 0), (1, pI n)]) F dX8_seesBehind_79 2 rfl (by decide) rfl ?_
          refine ok_goto F 9 dX8_seesBehind_82 (by decide) ?_
          refine ok_lvp [1, 2, 0] (lv' := [(0, pR 0), (1, pI n), (2, pI (k + (-1)))]) rfl ?_
          refine ih_9 _ ?_ (k + (-1)) m_2 ?_ rfl
          · omega
          · have e16 : m_2 16 = mset m 16 k.toNat (min (m 16 k.toNat) (mem 14 k.toNat)) 16 := by
              rw [e_3]; try rfl
              all_goals (funext b; first | rfl | (rw [mset_nk (by decide), mset_nk (by decide)]) | (rw [mset_nk (by decide)]))
            refine ⟨by omega, by omega, fun a a0 a1 => ?_, fun j j5 j6 => ?_, fun i => ?_, ?_, ?_⟩
            · rw [← hF a a0 a1, e_3]; funext b; first | (rw [mset_nk a0, mset_nk a0, mset_nk a1]; done) | (rw [mset_nk a1]; done)
            · rw [← hF0 j j5 j6, e_3]; first | (rw [mset_ne (fun q => j6 q.2), mset_ne (fun q => j5 q.2), mset_nk (by decide)]; done) | (rw [mset_nk (by decide)]; done)
            · rw [e16]
              by_cases e : i = k.toNat
              · subst e; rw [mset_eq, if_pos (by omega), hF16, if_neg (by omega)]
              · rw [mset_ne (fun q => e q.2), hF16]; by_cases g : k < (i : Int) ∧ (i : Int) < mem 1 0
                · rw [if_pos g, if_pos (by omega)]
                · rw [if_neg g, if_neg (by omega)]
            · rw [hgo, show (k + 1).toNat = k.toNat + 1 by omega, goneD, show (k + -1 + 1).toNat = k.toNat by omega, e_3]
              first
                | (rw [if_pos (by constructor; (rw [Bool.and_eq_true, decide_eq_true_iff, decide_eq_true_iff]; omega); omega), mset_eq, mset_ne (by decide), mset_eq, show ((k.toNat : Nat) : Int) = k by omega]; done)
                | (rw [if_neg (by rw [Bool.and_eq_true, decide_eq_true_iff, decide_eq_true_iff]; omega), mset_nk (by decide), mset_nk (by decide)]; done)
            · rw [e_3]; first | (rw [mset_ne (by decide), mset_eq]; omega) | (rw [mset_nk (by decide)]; exact hg25)
        · refine ok_aload_n F dX8_seesBehind_43 0 rfl ?_
          refine ok_getr F dX8_seesBehind_44 kF_X8_55 sh_0 rfl ?_
          refine ok_iload_n F dX8_seesBehind_47 2 rfl ?_
          refine ok_iald (v := mem 15 k.toNat) F dX8_seesBehind_48 sh_15 (by first | decide | assumption) (by omega) (by omega) (by rw [e_3, mset_nk (by decide), hF15] <;> rfl) ?_
          refine ok_if_le F 79 dX8_seesBehind_49 (by decide) (by omega) (fun c_5 => ?_) (fun c_5 => ?_)
          · refine ok_iinc (lv' := [(2, pI (k + (-1))), (0, pR 0), (1, pI n)]) F dX8_seesBehind_79 2 rfl (by decide) rfl ?_
            refine ok_goto F 9 dX8_seesBehind_82 (by decide) ?_
            refine ok_lvp [1, 2, 0] (lv' := [(0, pR 0), (1, pI n), (2, pI (k + (-1)))]) rfl ?_
            refine ih_9 _ ?_ (k + (-1)) m_2 ?_ rfl
            · omega
            · have e16 : m_2 16 = mset m 16 k.toNat (min (m 16 k.toNat) (mem 14 k.toNat)) 16 := by
                rw [e_3]; try rfl
                all_goals (funext b; first | rfl | (rw [mset_nk (by decide), mset_nk (by decide)]) | (rw [mset_nk (by decide)]))
              refine ⟨by omega, by omega, fun a a0 a1 => ?_, fun j j5 j6 => ?_, fun i => ?_, ?_, ?_⟩
              · rw [← hF a a0 a1, e_3]; funext b; first | (rw [mset_nk a0, mset_nk a0, mset_nk a1]; done) | (rw [mset_nk a1]; done)
              · rw [← hF0 j j5 j6, e_3]; first | (rw [mset_ne (fun q => j6 q.2), mset_ne (fun q => j5 q.2), mset_nk (by decide)]; done) | (rw [mset_nk (by decide)]; done)
              · rw [e16]
                by_cases e : i = k.toNat
                · subst e; rw [mset_eq, if_pos (by omega), hF16, if_neg (by omega)]
                · rw [mset_ne (fun q => e q.2), hF16]; by_cases g : k < (i : Int) ∧ (i : Int) < mem 1 0
                  · rw [if_pos g, if_pos (by omega)]
                  · rw [if_neg g, if_neg (by omega)]
              · rw [hgo, show (k + 1).toNat = k.toNat + 1 by omega, goneD, show (k + -1 + 1).toNat = k.toNat by omega, e_3]
                first
                  | (rw [if_pos (by constructor; (rw [Bool.and_eq_true, decide_eq_true_iff, decide_eq_true_iff]; omega); omega), mset_eq, mset_ne (by decide), mset_eq, show ((k.toNat : Nat) : Int) = k by omega]; done)
                  | (rw [if_neg (by rw [Bool.and_eq_true, decide_eq_true_iff, decide_eq_true_iff]; omega), mset_nk (by decide), mset_nk (by decide)]; done)
              · rw [e_3]; first | (rw [mset_ne (by decide), mset_eq]; omega) | (rw [mset_nk (by decide)]; exact hg25)
          · refine ok_aload_n F dX8_seesBehind_52 0 rfl ?_
            refine ok_getf (v := m 0 25) F dX8_seesBehind_53 kF_X8_267 sh_0 rfl (by rw [e_3, mset_nk (by decide)] <;> rfl) ?_
            refine ok_bipush F dX8_seesBehind_56 rfl ?_
            refine ok_icmp_eq F 69 dX8_seesBehind_58 (by decide) (by omega) (by omega) (fun c_6 => ?_) (fun c_6 => ?_)
            · refine ok_aload_n F dX8_seesBehind_69 0 rfl ?_
              refine ok_iload_n F dX8_seesBehind_70 1 rfl ?_
              refine ok_putf F dX8_seesBehind_71 kF_X8_267 sh_0 rfl rfl rfl (fun m_7 e_8 => ?_)
              refine ok_aload_n F dX8_seesBehind_74 0 rfl ?_
              refine ok_iload_n F dX8_seesBehind_75 2 rfl ?_
              refine ok_putf F dX8_seesBehind_76 kF_X8_270 sh_0 rfl rfl rfl (fun m_9 e_10 => ?_)
              refine ok_iinc (lv' := [(2, pI (k + (-1))), (0, pR 0), (1, pI n)]) F dX8_seesBehind_79 2 rfl (by decide) rfl ?_
              refine ok_goto F 9 dX8_seesBehind_82 (by decide) ?_
              refine ok_lvp [1, 2, 0] (lv' := [(0, pR 0), (1, pI n), (2, pI (k + (-1)))]) rfl ?_
              refine ih_9 _ ?_ (k + (-1)) m_9 ?_ rfl
              · omega
              · have e16 : m_9 16 = mset m 16 k.toNat (min (m 16 k.toNat) (mem 14 k.toNat)) 16 := by
                  rw [e_10, e_8, e_3]; try rfl
                  all_goals (funext b; first | rfl | (rw [mset_nk (by decide), mset_nk (by decide)]) | (rw [mset_nk (by decide)]))
                refine ⟨by omega, by omega, fun a a0 a1 => ?_, fun j j5 j6 => ?_, fun i => ?_, ?_, ?_⟩
                · rw [← hF a a0 a1, e_10, e_8, e_3]; funext b; first | (rw [mset_nk a0, mset_nk a0, mset_nk a1]; done) | (rw [mset_nk a1]; done)
                · rw [← hF0 j j5 j6, e_10, e_8, e_3]; first | (rw [mset_ne (fun q => j6 q.2), mset_ne (fun q => j5 q.2), mset_nk (by decide)]; done) | (rw [mset_nk (by decide)]; done)
                · rw [e16]
                  by_cases e : i = k.toNat
                  · subst e; rw [mset_eq, if_pos (by omega), hF16, if_neg (by omega)]
                  · rw [mset_ne (fun q => e q.2), hF16]; by_cases g : k < (i : Int) ∧ (i : Int) < mem 1 0
                    · rw [if_pos g, if_pos (by omega)]
                    · rw [if_neg g, if_neg (by omega)]
                · rw [hgo, show (k + 1).toNat = k.toNat + 1 by omega, goneD, show (k + -1 + 1).toNat = k.toNat by omega, e_10, e_8, e_3]
                  first
                    | (rw [if_pos (by constructor; (rw [Bool.and_eq_true, decide_eq_true_iff, decide_eq_true_iff]; omega); omega), mset_eq, mset_ne (by decide), mset_eq, show ((k.toNat : Nat) : Int) = k by omega]; done)
                    | (rw [if_neg (by rw [Bool.and_eq_true, decide_eq_true_iff, decide_eq_true_iff]; omega), mset_nk (by decide), mset_nk (by decide)]; done)
                · rw [e_10, e_8, e_3]; first | (rw [mset_ne (by decide), mset_eq]; omega) | (rw [mset_nk (by decide)]; exact hg25)
            · refine ok_aload_n F dX8_seesBehind_61 0 rfl ?_
              refine ok_getf (v := m 0 25) F dX8_seesBehind_62 kF_X8_267 sh_0 rfl (by rw [e_3, mset_nk (by decide)] <;> rfl) ?_
              refine ok_iload_n F dX8_seesBehind_65 1 rfl ?_
              refine ok_icmp_ne F 79 dX8_seesBehind_66 (by decide) (by omega) (by omega) (fun c_11 => ?_) (fun c_11 => ?_)
              · refine ok_iinc (lv' := [(2, pI (k + (-1))), (0, pR 0), (1, pI n)]) F dX8_seesBehind_79 2 rfl (by decide) rfl ?_
                refine ok_goto F 9 dX8_seesBehind_82 (by decide) ?_
                refine ok_lvp [1, 2, 0] (lv' := [(0, pR 0), (1, pI n), (2, pI (k + (-1)))]) rfl ?_
                refine ih_9 _ ?_ (k + (-1)) m_2 ?_ rfl
                · omega
                · have e16 : m_2 16 = mset m 16 k.toNat (min (m 16 k.toNat) (mem 14 k.toNat)) 16 := by
                    rw [e_3]; try rfl
                    all_goals (funext b; first | rfl | (rw [mset_nk (by decide), mset_nk (by decide)]) | (rw [mset_nk (by decide)]))
                  refine ⟨by omega, by omega, fun a a0 a1 => ?_, fun j j5 j6 => ?_, fun i => ?_, ?_, ?_⟩
                  · rw [← hF a a0 a1, e_3]; funext b; first | (rw [mset_nk a0, mset_nk a0, mset_nk a1]; done) | (rw [mset_nk a1]; done)
                  · rw [← hF0 j j5 j6, e_3]; first | (rw [mset_ne (fun q => j6 q.2), mset_ne (fun q => j5 q.2), mset_nk (by decide)]; done) | (rw [mset_nk (by decide)]; done)
                  · rw [e16]
                    by_cases e : i = k.toNat
                    · subst e; rw [mset_eq, if_pos (by omega), hF16, if_neg (by omega)]
                    · rw [mset_ne (fun q => e q.2), hF16]; by_cases g : k < (i : Int) ∧ (i : Int) < mem 1 0
                      · rw [if_pos g, if_pos (by omega)]
                      · rw [if_neg g, if_neg (by omega)]
                  · rw [hgo, show (k + 1).toNat = k.toNat + 1 by omega, goneD, show (k + -1 + 1).toNat = k.toNat by omega, e_3]
                    first
                      | (rw [if_pos (by constructor; (rw [Bool.and_eq_true, decide_eq_true_iff, decide_eq_true_iff]; omega); omega), mset_eq, mset_ne (by decide), mset_eq, show ((k.toNat : Nat) : Int) = k by omega]; done)
                      | (rw [if_neg (by rw [Bool.and_eq_true, decide_eq_true_iff, decide_eq_true_iff]; omega), mset_nk (by decide), mset_nk (by decide)]; done)
                  · rw [e_3]; first | (rw [mset_ne (by decide), mset_eq]; omega) | (rw [mset_nk (by decide)]; exact hg25)
              · refine ok_aload_n F dX8_seesBehind_69 0 rfl ?_
                refine ok_iload_n F dX8_seesBehind_70 1 rfl ?_
                refine ok_putf F dX8_seesBehind_71 kF_X8_267 sh_0 rfl rfl rfl (fun m_12 e_13 => ?_)
                refine ok_aload_n F dX8_seesBehind_74 0 rfl ?_
                refine ok_iload_n F dX8_seesBehind_75 2 rfl ?_
                refine ok_putf F dX8_seesBehind_76 kF_X8_270 sh_0 rfl rfl rfl (fun m_14 e_15 => ?_)
                refine ok_iinc (lv' := [(2, pI (k + (-1))), (0, pR 0), (1, pI n)]) F dX8_seesBehind_79 2 rfl (by decide) rfl ?_
                refine ok_goto F 9 dX8_seesBehind_82 (by decide) ?_
                refine ok_lvp [1, 2, 0] (lv' := [(0, pR 0), (1, pI n), (2, pI (k + (-1)))]) rfl ?_
                refine ih_9 _ ?_ (k + (-1)) m_14 ?_ rfl
                · omega
                · have e16 : m_14 16 = mset m 16 k.toNat (min (m 16 k.toNat) (mem 14 k.toNat)) 16 := by
                    rw [e_15, e_13, e_3]; try rfl
                    all_goals (funext b; first | rfl | (rw [mset_nk (by decide), mset_nk (by decide)]) | (rw [mset_nk (by decide)]))
                  refine ⟨by omega, by omega, fun a a0 a1 => ?_, fun j j5 j6 => ?_, fun i => ?_, ?_, ?_⟩
                  · rw [← hF a a0 a1, e_15, e_13, e_3]; funext b; first | (rw [mset_nk a0, mset_nk a0, mset_nk a1]; done) | (rw [mset_nk a1]; done)
                  · rw [← hF0 j j5 j6, e_15, e_13, e_3]; first | (rw [mset_ne (fun q => j6 q.2), mset_ne (fun q => j5 q.2), mset_nk (by decide)]; done) | (rw [mset_nk (by decide)]; done)
                  · rw [e16]
                    by_cases e : i = k.toNat
                    · subst e; rw [mset_eq, if_pos (by omega), hF16, if_neg (by omega)]
                    · rw [mset_ne (fun q => e q.2), hF16]; by_cases g : k < (i : Int) ∧ (i : Int) < mem 1 0
                      · rw [if_pos g, if_pos (by omega)]
                      · rw [if_neg g, if_neg (by omega)]
                  · rw [hgo, show (k + 1).toNat = k.toNat + 1 by omega, goneD, show (k + -1 + 1).toNat = k.toNat by omega, e_15, e_13, e_3]
                    first
                      | (rw [if_pos (by constructor; (rw [Bool.and_eq_true, decide_eq_true_iff, decide_eq_true_iff]; omega); omega), mset_eq, mset_ne (by decide), mset_eq, show ((k.toNat : Nat) : Int) = k by omega]; done)
                      | (rw [if_neg (by rw [Bool.and_eq_true, decide_eq_true_iff, decide_eq_true_iff]; omega), mset_nk (by decide), mset_nk (by decide)]; done)
                  · rw [e_15, e_13, e_3]; first | (rw [mset_ne (by decide), mset_eq]; omega) | (rw [mset_nk (by decide)]; exact hg25)
  refine ok_lvp [1, 2, 0] (lv' := [(0, pR 0), (1, pI n), (2, pI ((mem 1 0) - 1))]) rfl ?_
  refine hL_9 _ ((mem 1 0) - 1) mem ?_ rfl
  refine ⟨by omega, by omega, fun _ _ _ => rfl, fun _ _ _ => rfl, fun i => (if_neg (by omega)).symm, by rw [show (mem 1 0 - 1 + 1).toNat = (mem 1 0).toNat by omega], h25⟩
