/-! the reference: signs of the tape, faults -/
/-- the sign at a place of the tape; none behind its end -/
def sgn (mem : Mem) (p : Int) : Int := if p < mem 0 7 then iand (mem 6 p.toNat) 255 else -1
theorem iand255_bd (x : Int) : 0 ≤ iand x 255 ∧ iand x 255 ≤ 255 := by
  have e : iand x 255 = ((Int32.ofInt x).toBitVec &&& (255 : BitVec 32)).toInt := rfl
  have b : ((Int32.ofInt x).toBitVec &&& (255 : BitVec 32)).toNat ≤ 255 := by
    rw [BitVec.toNat_and]
    exact Nat.and_le_right
  rw [e, BitVec.toInt_eq_toNat_of_lt (by omega)]
  omega
theorem sgn_bd (mem : Mem) (p : Int) : -1 ≤ sgn mem p ∧ sgn mem p ≤ 255 := by
  unfold sgn
  split
  · have := iand255_bd (mem 6 p.toNat)
    omega
  · omega
/-- where the next sign that is no blank stands, at most so many places on -/
def skipF (mem : Mem) : Nat → Int → Int
  | 0, p => p
  | n + 1, p => if sgn mem p = 32 then skipF mem n (p + 1) else p
theorem skipF_s (mem : Mem) (n : Nat) (p : Int) : skipF mem (n + 1) p = if sgn mem p = 32 then skipF mem n (p + 1) else p := rfl
theorem sgn_of {m mem : Mem} (h6 : m 6 = mem 6) (h7 : m 0 7 = mem 0 7) (p : Int) : sgn m p = sgn mem p := by
  unfold sgn
  rw [h6, h7]
theorem dX8_sign_0 : decode cX8_sign 0 = .ok (.aload_n 0, 1) := by decide +kernel
theorem dX8_sign_1 : decode cX8_sign 1 = .ok (.getfield 79, 3) := by decide +kernel
theorem dX8_sign_4 : decode cX8_sign 4 = .ok (.aload_n 0, 1) := by decide +kernel
theorem dX8_sign_5 : decode cX8_sign 5 = .ok (.getfield 71, 3) := by decide +kernel
theorem dX8_sign_8 : decode cX8_sign 8 = .ok (.if_icmp .ge 19, 3) := by decide +kernel
theorem dX8_sign_11 : decode cX8_sign 11 = .ok (.aload_n 0, 1) := by decide +kernel
theorem dX8_sign_12 : decode cX8_sign 12 = .ok (.getfield 26, 3) := by decide +kernel
theorem dX8_sign_15 : decode cX8_sign 15 = .ok (.aload_n 0, 1) := by decide +kernel
theorem dX8_sign_16 : decode cX8_sign 16 = .ok (.getfield 79, 3) := by decide +kernel
theorem dX8_sign_19 : decode cX8_sign 19 = .ok (.baload, 1) := by decide +kernel
theorem dX8_sign_20 : decode cX8_sign 20 = .ok (.sipush 255, 3) := by decide +kernel
theorem dX8_sign_23 : decode cX8_sign 23 = .ok (.iand, 1) := by decide +kernel
theorem dX8_sign_24 : decode cX8_sign 24 = .ok (.goto 4, 3) := by decide +kernel
theorem dX8_sign_27 : decode cX8_sign 27 = .ok (.iconst (-1), 1) := by decide +kernel
theorem dX8_sign_28 : decode cX8_sign 28 = .ok (.ireturn, 1) := by decide +kernel
set_option maxHeartbeats 4000000 in
set_option maxRecDepth 100000 in
theorem m_X8_sign (l : Launch) (mem : Mem) (hT : 0 ≤ mem 0 7 ∧ mem 0 7 ≤ 400) (hA : 0 ≤ mem 0 8 ∧ mem 0 8 ≤ 400) : Ret shp l yX8_sign cX8_sign 1 (some .int) 0 [pR 0] mem (fun rv mv => rv = some (pI (sgn mem (mem 0 8))) ∧ mem = mv) := by
  refine ret_of (by decide +kernel) (Nat.le_of_ble_eq_true rfl) (fun X hX F G => ?_)
  show Ok shp X 1 0 [(0, pR 0)] [] mem
  refine ok_aload_n F dX8_sign_0 0 rfl ?_
  refine ok_getf (v := mem 0 8) F dX8_sign_1 kF_X8_79 sh_0 rfl rfl ?_
  refine ok_aload_n F dX8_sign_4 0 rfl ?_
  refine ok_getf (v := mem 0 7) F dX8_sign_5 kF_X8_71 sh_0 rfl rfl ?_
  refine ok_icmp_ge F 27 dX8_sign_8 (by decide) (by omega) (by omega) (fun c_1 => ?_) (fun c_1 => ?_)
  · refine ok_iconst F dX8_sign_27 ?_
    refine ok_iret F G dX8_sign_28 ?_
    refine ⟨?_, rfl⟩
    unfold sgn
    first | rw [if_pos (by omega)] | rw [if_neg (by omega)]
  · refine ok_aload_n F dX8_sign_11 0 rfl ?_
    refine ok_getr F dX8_sign_12 kF_X8_26 sh_0 rfl ?_
    refine ok_aload_n F dX8_sign_15 0 rfl ?_
    refine ok_getf (v := mem 0 8) F dX8_sign_16 kF_X8_79 sh_0 rfl rfl ?_
    refine ok_bald (v := mem 6 ((mem 0 8).toNat)) F dX8_sign_19 sh_6 (by first | decide | assumption) (by omega) (by omega) rfl ?_
    refine ok_sipush F dX8_sign_20 rfl ?_
    refine ok_iand F dX8_sign_23 ?_
    refine ok_goto F 28 dX8_sign_24 (by decide) ?_
    refine ok_iret F G dX8_sign_28 ?_
    refine ⟨?_, rfl⟩
    unfold sgn
    first | rw [if_pos (by omega)] | rw [if_neg (by omega)]
theorem dX8_isRight_0 : decode cX8_isRight 0 = .ok (.aload_n 0, 1) := by decide +kernel
theorem dX8_isRight_1 : decode cX8_isRight 1 = .ok (.getfield 86, 3) := by decide +kernel
theorem dX8_isRight_4 : decode cX8_isRight 4 = .ok (.iconst (-1), 1) := by decide +kernel
theorem dX8_isRight_5 : decode cX8_isRight 5 = .ok (.if_icmp .ne 7, 3) := by decide +kernel
theorem dX8_isRight_8 : decode cX8_isRight 8 = .ok (.iconst 1, 1) := by decide +kernel
theorem dX8_isRight_9 : decode cX8_isRight 9 = .ok (.goto 4, 3) := by decide +kernel
theorem dX8_isRight_12 : decode cX8_isRight 12 = .ok (.iconst 0, 1) := by decide +kernel
theorem dX8_isRight_13 : decode cX8_isRight 13 = .ok (.ireturn, 1) := by decide +kernel
set_option maxHeartbeats 4000000 in
set_option maxRecDepth 100000 in
theorem m_X8_isRight (l : Launch) (mem : Mem) (hFl : i32 (mem 0 9)) : Ret shp l yX8_isRight cX8_isRight 1 (some .boolean) 0 [pR 0] mem (fun rv mv => rv = some (pI (if mem 0 9 = -1 then 1 else 0)) ∧ mem = mv) := by
  refine ret_of (by decide +kernel) (Nat.le_of_ble_eq_true rfl) (fun X hX F G => ?_)
  show Ok shp X 1 0 [(0, pR 0)] [] mem
  refine ok_aload_n F dX8_isRight_0 0 rfl ?_
  refine ok_getf (v := mem 0 9) F dX8_isRight_1 kF_X8_86 sh_0 rfl rfl ?_
  refine ok_iconst F dX8_isRight_4 ?_
  refine ok_icmp_ne F 12 dX8_isRight_5 (by decide) (by omega) (by omega) (fun c_1 => ?_) (fun c_1 => ?_)
  · refine ok_iconst F dX8_isRight_12 ?_
    refine ok_zret F G dX8_isRight_13 (by first | rfl | exact zb_nar) ?_
    refine ⟨?_, rfl⟩
    first | rw [if_pos (by omega)] | rw [if_neg (by omega)]
  · refine ok_iconst F dX8_isRight_8 ?_
    refine ok_goto F 13 dX8_isRight_9 (by decide) ?_
    refine ok_zret F G dX8_isRight_13 (by first | rfl | exact zb_nar) ?_
    refine ⟨?_, rfl⟩
    first | rw [if_pos (by omega)] | rw [if_neg (by omega)]
theorem dX8_fails_0 : decode cX8_fails 0 = .ok (.aload_n 0, 1) := by decide +kernel
theorem dX8_fails_1 : decode cX8_fails 1 = .ok (.invokevirtual 89, 3) := by decide +kernel
theorem dX8_fails_4 : decode cX8_fails 4 = .ok (.ifCond .eq 13, 3) := by decide +kernel
theorem dX8_fails_7 : decode cX8_fails 7 = .ok (.aload_n 0, 1) := by decide +kernel
theorem dX8_fails_8 : decode cX8_fails 8 = .ok (.bipush 8, 2) := by decide +kernel
theorem dX8_fails_10 : decode cX8_fails 10 = .ok (.iload_n 2, 1) := by decide +kernel
theorem dX8_fails_11 : decode cX8_fails 11 = .ok (.imul, 1) := by decide +kernel
theorem dX8_fails_12 : decode cX8_fails 12 = .ok (.iload_n 1, 1) := by decide +kernel
theorem dX8_fails_13 : decode cX8_fails 13 = .ok (.iadd, 1) := by decide +kernel
theorem dX8_fails_14 : decode cX8_fails 14 = .ok (.putfield 86, 3) := by decide +kernel
theorem dX8_fails_17 : decode cX8_fails 17 = .ok (.return_, 1) := by decide +kernel
set_option maxHeartbeats 4000000 in
set_option maxRecDepth 100000 in
theorem m_X8_fails (l : Launch) (k : Int) (p : Int) (mem : Mem) (hFl : i32 (mem 0 9)) : Ret shp l yX8_fails cX8_fails 3 none 1 [pR 0, pI k, pI p] mem (fun rv mv => rv = none ∧ mv = if mem 0 9 = -1 then mset mem 0 9 (8 * p + k) else mem) := by
  refine ret_of (by decide +kernel) (Nat.le_of_ble_eq_true rfl) (fun X hX F G => ?_)
  show Ok shp X 3 0 [(0, pR 0), (1, pI k), (2, pI p)] [] mem
  refine ok_aload_n F dX8_fails_0 0 rfl ?_
  refine ok_callv F [] dX8_fails_1 kM_X8_isRight kI_X8_isRight kV_X8_isRight kL_X8_89 (ci := 8) rfl sh_0 rfl (by decide) (Nat.le_of_ble_eq_true rfl) rfl (m_X8_isRight _ mem (by omega)) ?_
  rintro _ _ ⟨rfl, rfl⟩
  refine ok_if_eq F 17 dX8_fails_4 (by decide) (by omega) (fun c_1 => ?_) (fun c_1 => ?_)
  · refine ok_vret F G dX8_fails_17 ?_
    refine ⟨rfl, ?_⟩
    first | (rw [if_pos (by omega), rfl]; done) | (rw [if_neg (by omega)]; done)
  · refine ok_aload_n F dX8_fails_7 0 rfl ?_
    refine ok_bipush F dX8_fails_8 rfl ?_
    refine ok_iload_n F dX8_fails_10 2 rfl ?_
    refine ok_imul F dX8_fails_11 ?_
    refine ok_iload_n F dX8_fails_12 1 rfl ?_
    refine ok_iadd F dX8_fails_13 ?_
    refine ok_putf F dX8_fails_14 kF_X8_86 sh_0 rfl rfl rfl (fun m_2 e_3 => ?_)
    refine ok_vret F G dX8_fails_17 ?_
    refine ⟨rfl, ?_⟩
    first | (rw [if_pos (by omega), e_3]; done) | (rw [if_neg (by omega)]; done)
theorem dX8_next_0 : decode cX8_next 0 = .ok (.aload_n 0, 1) := by decide +kernel
theorem dX8_next_1 : decode cX8_next 1 = .ok (.invokevirtual 82, 3) := by decide +kernel
theorem dX8_next_4 : decode cX8_next 4 = .ok (.bipush 32, 2) := by decide +kernel
theorem dX8_next_6 : decode cX8_next 6 = .ok (.if_icmp .ne 16, 3) := by decide +kernel
theorem dX8_next_9 : decode cX8_next 9 = .ok (.aload_n 0, 1) := by decide +kernel
theorem dX8_next_10 : decode cX8_next 10 = .ok (.dup, 1) := by decide +kernel
theorem dX8_next_11 : decode cX8_next 11 = .ok (.getfield 79, 3) := by decide +kernel
theorem dX8_next_14 : decode cX8_next 14 = .ok (.iconst 1, 1) := by decide +kernel
theorem dX8_next_15 : decode cX8_next 15 = .ok (.iadd, 1) := by decide +kernel
theorem dX8_next_16 : decode cX8_next 16 = .ok (.putfield 79, 3) := by decide +kernel
theorem dX8_next_19 : decode cX8_next 19 = .ok (.goto (-19), 3) := by decide +kernel
theorem dX8_next_22 : decode cX8_next 22 = .ok (.aload_n 0, 1) := by decide +kernel
theorem dX8_next_23 : decode cX8_next 23 = .ok (.invokevirtual 82, 3) := by decide +kernel
theorem dX8_next_26 : decode cX8_next 26 = .ok (.ireturn, 1) := by decide +kernel
set_option maxHeartbeats 4000000 in
set_option maxRecDepth 100000 in
theorem m_X8_next (l : Launch) (mem : Mem) (hT : 0 ≤ mem 0 7 ∧ mem 0 7 ≤ 400) (hA : 0 ≤ mem 0 8 ∧ mem 0 8 ≤ 400) : Ret shp l yX8_next cX8_next 1 (some .int) 1 [pR 0] mem (fun rv mv => rv = some (pI (sgn mem (skipF mem 401 (mem 0 8)))) ∧ mv = mset mem 0 8 (skipF mem 401 (mem 0 8))) := by
  refine ret_of (by decide +kernel) (Nat.le_of_ble_eq_true rfl) (fun X hX F G => ?_)
  show Ok shp X 1 0 [(0, pR 0)] [] mem
  have hL_0 : ∀ (n_0 : Nat)  (m : Mem), (∃ n : Nat, 0 ≤ m 0 8 ∧ m 0 8 ≤ 400 ∧ (∀ a, a ≠ 0 → m a = mem a) ∧ (∀ j, j ≠ 8 → m 0 j = mem 0 j) ∧ (n : Int) + m 0 8 = 401 + mem 0 8 ∧ skipF mem 401 (mem 0 8) = skipF mem n (m 0 8)) → (401 - m 0 8).toNat = n_0 → Ok shp X 1 0 [(0, pR 0)] [] m := by
    intro n_0
    induction n_0 using Nat.strongRecOn with
    | _ n_0 ih_0 =>
      intro m hI_0 hn_0
      obtain ⟨n, hm0, hm1, hF, hF0, hn, hs⟩ := hI_0
      have hsg : ∀ p, sgn m p = sgn mem p := sgn_of (hF 6 (by decide)) (hF0 7 (by decide))
      have hsi := sgn_bd m (m 0 8)
      have e7 := hF0 7 (by decide)
      refine ok_aload_n F dX8_next_0 0 rfl ?_
      refine ok_callv F [] dX8_next_1 kM_X8_sign kI_X8_sign kV_X8_sign kL_X8_82 (ci := 8) rfl sh_0 rfl (by decide) (Nat.le_of_ble_eq_true rfl) rfl (m_X8_sign _ m (by rw [e7]; exact hT) (by omega)) ?_
      rintro _ _ ⟨rfl, rfl⟩
      refine ok_bipush F dX8_next_4 rfl ?_
      refine ok_icmp_ne F 22 dX8_next_6 (by decide) (by omega) (by omega) (fun c_1 => ?_) (fun c_1 => ?_)
      · refine ok_aload_n F dX8_next_22 0 rfl ?_
        refine ok_callv F [] dX8_next_23 kM_X8_sign kI_X8_sign kV_X8_sign kL_X8_82 (ci := 8) rfl sh_0 rfl (by decide) (Nat.le_of_ble_eq_true rfl) rfl (m_X8_sign _ m (by rw [e7]; exact hT) (by omega)) ?_
        rintro _ _ ⟨rfl, rfl⟩
        refine ok_iret F G dX8_next_26 ?_
        have hn1 : 1 ≤ n := by omega
        have ek : skipF mem 401 (mem 0 8) = m 0 8 := by rw [hs, show n = (n - 1) + 1 by omega, skipF_s, if_neg (by rw [← hsg]; omega)]
        rw [ek]
        refine ⟨by rw [hsg], ?_⟩
        funext a b
        by_cases e : a = 0 ∧ b = 8
        · obtain ⟨rfl, rfl⟩ := e; rw [mset_eq]
        · rw [mset_ne e]; by_cases e0 : a = 0
          · subst e0; exact hF0 b (fun q => e ⟨rfl, q⟩)
          · rw [hF a e0]
      · refine ok_aload_n F dX8_next_9 0 rfl ?_
        refine ok_dup F dX8_next_10 rfl ?_
        refine ok_getf (v := m 0 8) F dX8_next_11 kF_X8_79 sh_0 rfl rfl ?_
        refine ok_iconst F dX8_next_14 ?_
        refine ok_iadd F dX8_next_15 ?_
        refine ok_putf F dX8_next_16 kF_X8_79 sh_0 rfl rfl rfl (fun m_2 e_3 => ?_)
        refine ok_goto F 0 dX8_next_19 (by decide) ?_
        refine ok_lvp [0] (lv' := [(0, pR 0)]) rfl ?_
        refine ih_0 _ ?_ m_2 ?_ rfl
        · have ht : True := trivial
          have e8 : m_2 0 8 = m 0 8 + 1 := by rw [e_3, mset_eq]
          omega
        · have hlt : m 0 8 < mem 0 7 := by
            by_cases q : m 0 8 < m 0 7
            · omega
            · have e : sgn m (m 0 8) = -1 := if_neg q
              omega
          have e8 : m_2 0 8 = m 0 8 + 1 := by rw [e_3, mset_eq]
          refine ⟨n - 1, by omega, by omega, fun a ha => by rw [e_3, ← hF a ha]; funext b; exact mset_nk ha, fun j hj => by rw [e_3, mset_ne (fun q => hj q.2)]; exact hF0 j hj, by omega, ?_⟩
          rw [hs, show n = (n - 1) + 1 by omega, skipF_s, if_pos (by rw [← hsg]; omega), e8]
          rfl
  refine ok_lvp [0] (lv' := [(0, pR 0)]) rfl ?_
  refine hL_0 _ mem ?_ rfl
  exact ⟨401, by omega, by omega, fun _ _ => rfl, fun _ _ => rfl, by omega, rfl⟩
