/-! the class: reading, beside the reference's reading of the same tape -/
theorem iand255_key : ∀ x : Fin 256, iand ((x.val : Int) - 128) 255 = if 128 ≤ x.val then (x.val : Int) - 128 else (x.val : Int) + 128 := by decide +kernel
theorem iand255_val {x : Int} (h : -128 ≤ x ∧ x ≤ 127) : iand x 255 = if 0 ≤ x then x else x + 256 := by
  have k := iand255_key ⟨(x + 128).toNat, by omega⟩
  have e : (((⟨(x + 128).toNat, by omega⟩ : Fin 256).val : Int)) - 128 = x := by
    show (((x + 128).toNat : Nat) : Int) - 128 = x
    omega
  rw [e] at k
  rw [k]
  show (if 128 ≤ (x + 128).toNat then x else (((x + 128).toNat : Nat) : Int) + 128) = _
  by_cases g : 0 ≤ x
  · rw [if_pos g, if_pos (by omega)]
  · rw [if_neg g, if_neg (by omega)]; omega
def RT (g m : Mem) : Prop := (∀ p : Nat, p < 400 → m 176 p = iand (g 6 p) 255) ∧ m 175 2 = g 0 7 ∧ m 175 3 = g 0 8 ∧ RdOk g ∧ ∀ k : Nat, -128 ≤ g 6 k ∧ g 6 k ≤ 127
theorem RT.sg {g m : Mem} (h : RT g m) {p : Int} (hp : 0 ≤ p ∧ p < g 0 7) : m 176 p.toNat = sgn g p := by
  have h7 := h.2.2.2.1.1
  rw [h.1 p.toNat (by omega)]
  exact (if_pos hp.2).symm
theorem RT.of {g g2 m mv : Mem} (h : RT g m) (h6 : g2 6 = g 6) (h7 : g2 0 7 = g 0 7) (hok : RdOk g2) (e : mv 176 = m 176) (e2 : mv 175 2 = m 175 2) (e3 : mv 175 3 = g2 0 8) : RT g2 mv := by
  obtain ⟨a, b, c, d, f⟩ := h
  exact ⟨fun p hp => by rw [e, h6]; exact a p hp, by rw [e2, h7]; exact b, e3, hok, fun k => by rw [h6]; exact f k⟩
theorem sTx_bd7 {w j : Nat} (hw : w < 13) (hj : j < 7) : (sTx w).getD j 0 ≤ 127 := by
  have h : ∀ w : Nat, w < 13 → ∀ j : Nat, j < 7 → (sTx w).getD j 0 ≤ 127 := by decide
  exact h w hw j hj
/-- whether a digit stands next -/
def dgN (g : Mem) : Prop := 48 ≤ sgn g (ptP g) ∧ sgn g (ptP g) ≤ 57
theorem numR_at {g : Mem} (h9 : g 0 9 = -1) (lo hi : Int) : (dgN g → numR g lo hi = ((numL g 401 (ptP g) 0).2, (numL g 401 (ptP g) 0).1, (if lo ≤ (numL g 401 (ptP g) 0).2 ∧ (numL g 401 (ptP g) 0).2 ≤ hi then -1 else 8 * ptP g + 2), ptP g)) ∧ (¬ dgN g → numR g lo hi = (0, ptP g, 8 * ptP g + 1, g 0 10)) := by
  unfold numR dgN ptP
  rw [if_neg (by omega)]
  exact ⟨fun h => by rw [if_pos h], fun h => by rw [if_neg h]⟩
theorem letN_len {g : Mem} (h : RdOk g) : ptP g + ptN g ≤ g 0 7 ∨ ptN g = 0 := by
  have key : ∀ (n : Nat) (p : Int), p + letN g n p ≤ g 0 7 ∨ letN g n p = 0 := by
    intro n
    induction n with
    | zero => intro p; exact Or.inr rfl
    | succ n ih =>
      intro p
      rw [letN_s]
      by_cases q : p < g 0 7 ∧ 97 ≤ g 6 p.toNat ∧ g 6 p.toNat ≤ 122
      · rw [if_pos q]
        have := ih (p + 1)
        omega
      · rw [if_neg q]; exact Or.inr rfl
  have hNd : ptN g = letN g 401 (ptP g) := letN_of (mset_nka (by decide)) (mset_ne (by decide)) 401 _
  rw [hNd]
  exact key 401 (ptP g)
theorem dX4_isDigit_0 : decode cX4_isDigit 0 = .ok (.iload_n 0, 1) := by decide +kernel
theorem dX4_isDigit_1 : decode cX4_isDigit 1 = .ok (.bipush 48, 2) := by decide +kernel
theorem dX4_isDigit_3 : decode cX4_isDigit 3 = .ok (.if_icmp .lt 13, 3) := by decide +kernel
theorem dX4_isDigit_6 : decode cX4_isDigit 6 = .ok (.iload_n 0, 1) := by decide +kernel
theorem dX4_isDigit_7 : decode cX4_isDigit 7 = .ok (.bipush 57, 2) := by decide +kernel
theorem dX4_isDigit_9 : decode cX4_isDigit 9 = .ok (.if_icmp .gt 7, 3) := by decide +kernel
theorem dX4_isDigit_12 : decode cX4_isDigit 12 = .ok (.iconst 1, 1) := by decide +kernel
theorem dX4_isDigit_13 : decode cX4_isDigit 13 = .ok (.goto 4, 3) := by decide +kernel
theorem dX4_isDigit_16 : decode cX4_isDigit 16 = .ok (.iconst 0, 1) := by decide +kernel
theorem dX4_isDigit_17 : decode cX4_isDigit 17 = .ok (.ireturn, 1) := by decide +kernel
set_option maxHeartbeats 4000000 in
set_option maxRecDepth 100000 in
theorem m_X4_isDigit (l : Launch) (b : Int) (mem : Mem) (hb : i32 b) : Ret shp l yX4_isDigit cX4_isDigit 1 (some .boolean) 0 [pI b] mem (fun rv mv => rv = some (pI (if 48 ≤ b ∧ b ≤ 57 then 1 else 0)) ∧ mem = mv) := by
  refine ret_of (by decide +kernel) (Nat.le_of_ble_eq_true rfl) (fun X hX F G => ?_)
  show Ok shp X 1 0 [(0, pI b)] [] mem
  refine ok_iload_n F dX4_isDigit_0 0 rfl ?_
  refine ok_bipush F dX4_isDigit_1 rfl ?_
  refine ok_icmp_lt F 16 dX4_isDigit_3 (by decide) (by omega) (by omega) (fun c_1 => ?_) (fun c_1 => ?_)
  · refine ok_iconst F dX4_isDigit_16 ?_
    refine ok_zret F G dX4_isDigit_17 (by first | rfl | exact zb_nar) ?_
    refine ⟨?_, rfl⟩
    first | rw [if_pos (by omega)] | rw [if_neg (by omega)]
  · refine ok_iload_n F dX4_isDigit_6 0 rfl ?_
    refine ok_bipush F dX4_isDigit_7 rfl ?_
    refine ok_icmp_gt F 16 dX4_isDigit_9 (by decide) (by omega) (by omega) (fun c_2 => ?_) (fun c_2 => ?_)
    · refine ok_iconst F dX4_isDigit_16 ?_
      refine ok_zret F G dX4_isDigit_17 (by first | rfl | exact zb_nar) ?_
      refine ⟨?_, rfl⟩
      first | rw [if_pos (by omega)] | rw [if_neg (by omega)]
    · refine ok_iconst F dX4_isDigit_12 ?_
      refine ok_goto F 17 dX4_isDigit_13 (by decide) ?_
      refine ok_zret F G dX4_isDigit_17 (by first | rfl | exact zb_nar) ?_
      refine ⟨?_, rfl⟩
      first | rw [if_pos (by omega)] | rw [if_neg (by omega)]
theorem dX4_isLetter_0 : decode cX4_isLetter 0 = .ok (.iload_n 0, 1) := by decide +kernel
theorem dX4_isLetter_1 : decode cX4_isLetter 1 = .ok (.bipush 97, 2) := by decide +kernel
theorem dX4_isLetter_3 : decode cX4_isLetter 3 = .ok (.if_icmp .lt 13, 3) := by decide +kernel
theorem dX4_isLetter_6 : decode cX4_isLetter 6 = .ok (.iload_n 0, 1) := by decide +kernel
theorem dX4_isLetter_7 : decode cX4_isLetter 7 = .ok (.bipush 122, 2) := by decide +kernel
theorem dX4_isLetter_9 : decode cX4_isLetter 9 = .ok (.if_icmp .gt 7, 3) := by decide +kernel
theorem dX4_isLetter_12 : decode cX4_isLetter 12 = .ok (.iconst 1, 1) := by decide +kernel
theorem dX4_isLetter_13 : decode cX4_isLetter 13 = .ok (.goto 4, 3) := by decide +kernel
theorem dX4_isLetter_16 : decode cX4_isLetter 16 = .ok (.iconst 0, 1) := by decide +kernel
theorem dX4_isLetter_17 : decode cX4_isLetter 17 = .ok (.ireturn, 1) := by decide +kernel
set_option maxHeartbeats 4000000 in
set_option maxRecDepth 100000 in
theorem m_X4_isLetter (l : Launch) (b : Int) (mem : Mem) (hb : i32 b) : Ret shp l yX4_isLetter cX4_isLetter 1 (some .boolean) 0 [pI b] mem (fun rv mv => rv = some (pI (if 97 ≤ b ∧ b ≤ 122 then 1 else 0)) ∧ mem = mv) := by
  refine ret_of (by decide +kernel) (Nat.le_of_ble_eq_true rfl) (fun X hX F G => ?_)
  show Ok shp X 1 0 [(0, pI b)] [] mem
  refine ok_iload_n F dX4_isLetter_0 0 rfl ?_
  refine ok_bipush F dX4_isLetter_1 rfl ?_
  refine ok_icmp_lt F 16 dX4_isLetter_3 (by decide) (by omega) (by omega) (fun c_1 => ?_) (fun c_1 => ?_)
  · refine ok_iconst F dX4_isLetter_16 ?_
    refine ok_zret F G dX4_isLetter_17 (by first | rfl | exact zb_nar) ?_
    refine ⟨?_, rfl⟩
    first | rw [if_pos (by omega)] | rw [if_neg (by omega)]
  · refine ok_iload_n F dX4_isLetter_6 0 rfl ?_
    refine ok_bipush F dX4_isLetter_7 rfl ?_
    refine ok_icmp_gt F 16 dX4_isLetter_9 (by decide) (by omega) (by omega) (fun c_2 => ?_) (fun c_2 => ?_)
    · refine ok_iconst F dX4_isLetter_16 ?_
      refine ok_zret F G dX4_isLetter_17 (by first | rfl | exact zb_nar) ?_
      refine ⟨?_, rfl⟩
      first | rw [if_pos (by omega)] | rw [if_neg (by omega)]
    · refine ok_iconst F dX4_isLetter_12 ?_
      refine ok_goto F 17 dX4_isLetter_13 (by decide) ?_
      refine ok_zret F G dX4_isLetter_17 (by first | rfl | exact zb_nar) ?_
      refine ⟨?_, rfl⟩
      first | rw [if_pos (by omega)] | rw [if_neg (by omega)]
theorem dX4_wrong_0 : decode cX4_wrong 0 = .ok (.aload_n 0, 1) := by decide +kernel
theorem dX4_wrong_1 : decode cX4_wrong 1 = .ok (.bipush 8, 2) := by decide +kernel
theorem dX4_wrong_3 : decode cX4_wrong 3 = .ok (.iload_n 1, 1) := by decide +kernel
theorem dX4_wrong_4 : decode cX4_wrong 4 = .ok (.imul, 1) := by decide +kernel
theorem dX4_wrong_5 : decode cX4_wrong 5 = .ok (.iload_n 2, 1) := by decide +kernel
theorem dX4_wrong_6 : decode cX4_wrong 6 = .ok (.iadd, 1) := by decide +kernel
theorem dX4_wrong_7 : decode cX4_wrong 7 = .ok (.putfield 38, 3) := by decide +kernel
theorem dX4_wrong_10 : decode cX4_wrong 10 = .ok (.iconst 0, 1) := by decide +kernel
theorem dX4_wrong_11 : decode cX4_wrong 11 = .ok (.ireturn, 1) := by decide +kernel
set_option maxHeartbeats 4000000 in
set_option maxRecDepth 100000 in
theorem m_X4_wrong (l : Launch) (p : Int) (k : Int) (mem : Mem) : Ret shp l yX4_wrong cX4_wrong 3 (some .boolean) 0 [pR 175, pI p, pI k] mem (fun rv mv => rv = some (pI 0) ∧ mv = mset mem 175 7 (8 * p + k)) := by
  refine ret_of (by decide +kernel) (Nat.le_of_ble_eq_true rfl) (fun X hX F G => ?_)
  show Ok shp X 3 0 [(0, pR 175), (1, pI p), (2, pI k)] [] mem
  refine ok_aload_n F dX4_wrong_0 0 rfl ?_
  refine ok_bipush F dX4_wrong_1 rfl ?_
  refine ok_iload_n F dX4_wrong_3 1 rfl ?_
  refine ok_imul F dX4_wrong_4 ?_
  refine ok_iload_n F dX4_wrong_5 2 rfl ?_
  refine ok_iadd F dX4_wrong_6 ?_
  refine ok_putf F dX4_wrong_7 kF_X4_38 sh_175 rfl rfl rfl (fun m_1 e_2 => ?_)
  refine ok_iconst F dX4_wrong_10 ?_
  refine ok_zret F G dX4_wrong_11 (rfl) ?_
  exact ⟨rfl, e_2⟩
theorem dX4_next_0 : decode cX4_next 0 = .ok (.aload_n 0, 1) := by decide +kernel
theorem dX4_next_1 : decode cX4_next 1 = .ok (.getfield 32, 3) := by decide +kernel
theorem dX4_next_4 : decode cX4_next 4 = .ok (.aload_n 0, 1) := by decide +kernel
theorem dX4_next_5 : decode cX4_next 5 = .ok (.getfield 28, 3) := by decide +kernel
theorem dX4_next_8 : decode cX4_next 8 = .ok (.if_icmp .ge 30, 3) := by decide +kernel
theorem dX4_next_11 : decode cX4_next 11 = .ok (.aload_n 0, 1) := by decide +kernel
theorem dX4_next_12 : decode cX4_next 12 = .ok (.getfield 18, 3) := by decide +kernel
theorem dX4_next_15 : decode cX4_next 15 = .ok (.aload_n 0, 1) := by decide +kernel
theorem dX4_next_16 : decode cX4_next 16 = .ok (.getfield 32, 3) := by decide +kernel
theorem dX4_next_19 : decode cX4_next 19 = .ok (.iaload, 1) := by decide +kernel
theorem dX4_next_20 : decode cX4_next 20 = .ok (.bipush 32, 2) := by decide +kernel
theorem dX4_next_22 : decode cX4_next 22 = .ok (.if_icmp .ne 16, 3) := by decide +kernel
theorem dX4_next_25 : decode cX4_next 25 = .ok (.aload_n 0, 1) := by decide +kernel
theorem dX4_next_26 : decode cX4_next 26 = .ok (.dup, 1) := by decide +kernel
theorem dX4_next_27 : decode cX4_next 27 = .ok (.getfield 32, 3) := by decide +kernel
theorem dX4_next_30 : decode cX4_next 30 = .ok (.iconst 1, 1) := by decide +kernel
theorem dX4_next_31 : decode cX4_next 31 = .ok (.iadd, 1) := by decide +kernel
theorem dX4_next_32 : decode cX4_next 32 = .ok (.putfield 32, 3) := by decide +kernel
theorem dX4_next_35 : decode cX4_next 35 = .ok (.goto (-35), 3) := by decide +kernel
theorem dX4_next_38 : decode cX4_next 38 = .ok (.aload_n 0, 1) := by decide +kernel
theorem dX4_next_39 : decode cX4_next 39 = .ok (.getfield 32, 3) := by decide +kernel
theorem dX4_next_42 : decode cX4_next 42 = .ok (.aload_n 0, 1) := by decide +kernel
theorem dX4_next_43 : decode cX4_next 43 = .ok (.getfield 28, 3) := by decide +kernel
theorem dX4_next_46 : decode cX4_next 46 = .ok (.if_icmp .ge 15, 3) := by decide +kernel
theorem dX4_next_49 : decode cX4_next 49 = .ok (.aload_n 0, 1) := by decide +kernel
theorem dX4_next_50 : decode cX4_next 50 = .ok (.getfield 18, 3) := by decide +kernel
theorem dX4_next_53 : decode cX4_next 53 = .ok (.aload_n 0, 1) := by decide +kernel
theorem dX4_next_54 : decode cX4_next 54 = .ok (.getfield 32, 3) := by decide +kernel
theorem dX4_next_57 : decode cX4_next 57 = .ok (.iaload, 1) := by decide +kernel
theorem dX4_next_58 : decode cX4_next 58 = .ok (.goto 4, 3) := by decide +kernel
theorem dX4_next_61 : decode cX4_next 61 = .ok (.iconst (-1), 1) := by decide +kernel
theorem dX4_next_62 : decode cX4_next 62 = .ok (.ireturn, 1) := by decide +kernel
set_option maxHeartbeats 4000000 in
set_option maxRecDepth 100000 in
theorem m_X4_next (l : Launch) (g : Mem) (mem : Mem) (hRT : RT g mem) : Ret shp l yX4_next cX4_next 1 (some .int) 0 [pR 175] mem (fun rv mv => rv = some (pI (sgn g (ptP g))) ∧ mv = mset mem 175 3 (ptP g)) := by
  refine ret_of (by decide +kernel) (Nat.le_of_ble_eq_true rfl) (fun X hX F G => ?_)
  show Ok shp X 1 0 [(0, pR 175)] [] mem
  obtain ⟨t1, t2, t3, t4, t5⟩ := id hRT
  obtain ⟨o7, o8, o9, o10⟩ := id t4
  have hPd : ptP g = skipF g 401 (g 0 8) := rfl
  have hL_0 : ∀ (n_0 : Nat)  (m : Mem), (∃ n : Nat, 0 ≤ m 175 3 ∧ m 175 3 ≤ 400 ∧ m = mset mem 175 3 (m 175 3) ∧ (n : Int) + m 175 3 = 401 + g 0 8 ∧ ptP g = skipF g n (m 175 3)) → (401 - m 175 3).toNat = n_0 → Ok shp X 1 0 [(0, pR 175)] [] m := by
    intro n_0
    induction n_0 using Nat.strongRecOn with
    | _ n_0 ih_0 =>
      intro m hI_0 hn_0
      obtain ⟨n, hm0, hm1, hmE, hn, hs⟩ := hI_0
      have e176 : m 176 = mem 176 := by rw [hmE]; exact mset_nka (by decide)
      have e2 : m 175 2 = g 0 7 := by rw [hmE, mset_ne (by decide)]; exact t2
      have hsi := sgn_bd g (m 175 3)
      have hsg := fun h : m 175 3 < g 0 7 => hRT.sg ⟨hm0, h⟩
      rw [← e176] at hsg
      refine ok_aload_n F dX4_next_0 0 rfl ?_
      refine ok_getf (v := m 175 3) F dX4_next_1 kF_X4_32 sh_175 rfl rfl ?_
      refine ok_aload_n F dX4_next_4 0 rfl ?_
      refine ok_getf (v := m 175 2) F dX4_next_5 kF_X4_28 sh_175 rfl rfl ?_
      refine ok_icmp_ge F 38 dX4_next_8 (by decide) (by omega) (by omega) (fun c_1 => ?_) (fun c_1 => ?_)
      · refine ok_aload_n F dX4_next_38 0 rfl ?_
        refine ok_getf (v := m 175 3) F dX4_next_39 kF_X4_32 sh_175 rfl rfl ?_
        refine ok_aload_n F dX4_next_42 0 rfl ?_
        refine ok_getf (v := m 175 2) F dX4_next_43 kF_X4_28 sh_175 rfl rfl ?_
        refine ok_icmp_ge F 61 dX4_next_46 (by decide) (by omega) (by omega) (fun c_2 => ?_) (fun c_2 => ?_)
        · refine ok_iconst F dX4_next_61 ?_
          refine ok_iret F G dX4_next_62 ?_
          have hend : ptP g = m 175 3 := by
            rw [hs, show n = (n - 1) + 1 by omega, skipF_s, if_neg ?_]
            first
              | (have e : sgn g (m 175 3) = -1 := if_neg (by omega)
                 omega)
              | (have hg := hsg (by omega); omega)
          refine ⟨?_, by rw [hend]; exact hmE⟩
          rw [hend]
          first
            | (rw [hsg (by omega)]; done)
            | (rw [show sgn g (m 175 3) = -1 from if_neg (by omega)]; done)
        · refine ok_aload_n F dX4_next_49 0 rfl ?_
          refine ok_getr F dX4_next_50 kF_X4_18 sh_175 rfl ?_
          refine ok_aload_n F dX4_next_53 0 rfl ?_
          refine ok_getf (v := m 175 3) F dX4_next_54 kF_X4_32 sh_175 rfl rfl ?_
          refine ok_iald (v := m 176 ((m 175 3).toNat)) F dX4_next_57 sh_176 (by first | decide | assumption) (by omega) (by omega) rfl ?_
          have hg := hsg (by omega)
          refine ok_goto F 62 dX4_next_58 (by decide) ?_
          refine ok_iret F G dX4_next_62 ?_
          have hend : ptP g = m 175 3 := by
            rw [hs, show n = (n - 1) + 1 by omega, skipF_s, if_neg ?_]
            first
              | (have e : sgn g (m 175 3) = -1 := if_neg (by omega)
                 omega)
              | (have hg := hsg (by omega); omega)
          refine ⟨?_, by rw [hend]; exact hmE⟩
          rw [hend]
          first
            | (rw [hsg (by omega)]; done)
            | (rw [show sgn g (m 175 3) = -1 from if_neg (by omega)]; done)
      · refine ok_aload_n F dX4_next_11 0 rfl ?_
        refine ok_getr F dX4_next_12 kF_X4_18 sh_175 rfl ?_
        refine ok_aload_n F dX4_next_15 0 rfl ?_
        refine ok_getf (v := m 175 3) F dX4_next_16 kF_X4_32 sh_175 rfl rfl ?_
        refine ok_iald (v := m 176 ((m 175 3).toNat)) F dX4_next_19 sh_176 (by first | decide | assumption) (by omega) (by omega) rfl ?_
        have hg := hsg (by omega)
        refine ok_bipush F dX4_next_20 rfl ?_
        refine ok_icmp_ne F 38 dX4_next_22 (by decide) (by omega) (by omega) (fun c_3 => ?_) (fun c_3 => ?_)
        · refine ok_aload_n F dX4_next_38 0 rfl ?_
          refine ok_getf (v := m 175 3) F dX4_next_39 kF_X4_32 sh_175 rfl rfl ?_
          refine ok_aload_n F dX4_next_42 0 rfl ?_
          refine ok_getf (v := m 175 2) F dX4_next_43 kF_X4_28 sh_175 rfl rfl ?_
          refine ok_icmp_ge F 61 dX4_next_46 (by decide) (by omega) (by omega) (fun c_4 => ?_) (fun c_4 => ?_)
          · refine ok_iconst F dX4_next_61 ?_
            refine ok_iret F G dX4_next_62 ?_
            have hend : ptP g = m 175 3 := by
              rw [hs, show n = (n - 1) + 1 by omega, skipF_s, if_neg ?_]
              first
                | (have e : sgn g (m 175 3) = -1 := if_neg (by omega)
                   omega)
                | (have hg := hsg (by omega); omega)
            refine ⟨?_, by rw [hend]; exact hmE⟩
            rw [hend]
            first
              | (rw [hsg (by omega)]; done)
              | (rw [show sgn g (m 175 3) = -1 from if_neg (by omega)]; done)
          · refine ok_aload_n F dX4_next_49 0 rfl ?_
            refine ok_getr F dX4_next_50 kF_X4_18 sh_175 rfl ?_
            refine ok_aload_n F dX4_next_53 0 rfl ?_
            refine ok_getf (v := m 175 3) F dX4_next_54 kF_X4_32 sh_175 rfl rfl ?_
            refine ok_iald (v := m 176 ((m 175 3).toNat)) F dX4_next_57 sh_176 (by first | decide | assumption) (by omega) (by omega) rfl ?_
            have hg := hsg (by omega)
            refine ok_goto F 62 dX4_next_58 (by decide) ?_
            refine ok_iret F G dX4_next_62 ?_
            have hend : ptP g = m 175 3 := by
              rw [hs, show n = (n - 1) + 1 by omega, skipF_s, if_neg ?_]
              first
                | (have e : sgn g (m 175 3) = -1 := if_neg (by omega)
                   omega)
                | (have hg := hsg (by omega); omega)
            refine ⟨?_, by rw [hend]; exact hmE⟩
            rw [hend]
            first
              | (rw [hsg (by omega)]; done)
              | (rw [show sgn g (m 175 3) = -1 from if_neg (by omega)]; done)
        · refine ok_aload_n F dX4_next_25 0 rfl ?_
          refine ok_dup F dX4_next_26 rfl ?_
          refine ok_getf (v := m 175 3) F dX4_next_27 kF_X4_32 sh_175 rfl rfl ?_
          refine ok_iconst F dX4_next_30 ?_
          refine ok_iadd F dX4_next_31 ?_
          refine ok_putf F dX4_next_32 kF_X4_32 sh_175 rfl rfl rfl (fun m_5 e_6 => ?_)
          refine ok_goto F 0 dX4_next_35 (by decide) ?_
          refine ok_lvp [0] (lv' := [(0, pR 175)]) rfl ?_
          refine ih_0 _ ?_ m_5 ?_ rfl
          · have ht : True := trivial
            have e8 : m_5 175 3 = m 175 3 + 1 := by rw [e_6, mset_eq]
            omega
          · have hg := hsg (by omega)
            have e8 : m_5 175 3 = m 175 3 + 1 := by rw [e_6, mset_eq]
            refine ⟨n - 1, by omega, by omega, ?_, by omega, ?_⟩
            · rw [e8, e_6, hmE, mset_mset, mset_eq]
            · rw [hs, show n = (n - 1) + 1 by omega, skipF_s, if_pos (by omega), e8]
              rfl
  refine ok_lvp [0] (lv' := [(0, pR 175)]) rfl ?_
  refine hL_0 _ mem ?_ rfl
  exact ⟨401, by omega, by omega, (mset_self _ _ _).symm, by omega, by rw [t3]; rfl⟩
theorem dX4_byteAt_0 : decode cX4_byteAt 0 = .ok (.iload_n 1, 1) := by decide +kernel
theorem dX4_byteAt_1 : decode cX4_byteAt 1 = .ok (.ifCond .lt 20, 3) := by decide +kernel
theorem dX4_byteAt_4 : decode cX4_byteAt 4 = .ok (.iload_n 1, 1) := by decide +kernel
theorem dX4_byteAt_5 : decode cX4_byteAt 5 = .ok (.aload_n 0, 1) := by decide +kernel
theorem dX4_byteAt_6 : decode cX4_byteAt 6 = .ok (.getfield 28, 3) := by decide +kernel
theorem dX4_byteAt_9 : decode cX4_byteAt 9 = .ok (.if_icmp .ge 12, 3) := by decide +kernel
theorem dX4_byteAt_12 : decode cX4_byteAt 12 = .ok (.aload_n 0, 1) := by decide +kernel
theorem dX4_byteAt_13 : decode cX4_byteAt 13 = .ok (.getfield 18, 3) := by decide +kernel
theorem dX4_byteAt_16 : decode cX4_byteAt 16 = .ok (.iload_n 1, 1) := by decide +kernel
theorem dX4_byteAt_17 : decode cX4_byteAt 17 = .ok (.iaload, 1) := by decide +kernel
theorem dX4_byteAt_18 : decode cX4_byteAt 18 = .ok (.goto 4, 3) := by decide +kernel
theorem dX4_byteAt_21 : decode cX4_byteAt 21 = .ok (.iconst (-1), 1) := by decide +kernel
theorem dX4_byteAt_22 : decode cX4_byteAt 22 = .ok (.ireturn, 1) := by decide +kernel
set_option maxHeartbeats 4000000 in
set_option maxRecDepth 100000 in
theorem m_X4_byteAt (l : Launch) (g : Mem) (p : Int) (mem : Mem) (hRT : RT g mem) (hp : 0 ≤ p ∧ p ≤ 800) : Ret shp l yX4_byteAt cX4_byteAt 2 (some .int) 0 [pR 175, pI p] mem (fun rv mv => rv = some (pI (sgn g p)) ∧ mem = mv) := by
  refine ret_of (by decide +kernel) (Nat.le_of_ble_eq_true rfl) (fun X hX F G => ?_)
  show Ok shp X 2 0 [(0, pR 175), (1, pI p)] [] mem
  obtain ⟨t1, t2, t3, t4, t5⟩ := id hRT
  obtain ⟨o7, o8, o9, o10⟩ := id t4
  refine ok_iload_n F dX4_byteAt_0 1 rfl ?_
  refine ok_if_lt F 21 dX4_byteAt_1 (by decide) (by omega) (fun c_1 => ?_) (fun c_1 => ?_)
  · exfalso; omega
  · refine ok_iload_n F dX4_byteAt_4 1 rfl ?_
    refine ok_aload_n F dX4_byteAt_5 0 rfl ?_
    refine ok_getf (v := mem 175 2) F dX4_byteAt_6 kF_X4_28 sh_175 rfl rfl ?_
    refine ok_icmp_ge F 21 dX4_byteAt_9 (by decide) (by omega) (by omega) (fun c_2 => ?_) (fun c_2 => ?_)
    · refine ok_iconst F dX4_byteAt_21 ?_
      refine ok_iret F G dX4_byteAt_22 ?_
      refine ⟨?_, rfl⟩
      first
        | (rw [hRT.sg ⟨hp.1, by omega⟩]; done)
        | (rw [show sgn g p = -1 from if_neg (by omega)]; done)
    · refine ok_aload_n F dX4_byteAt_12 0 rfl ?_
      refine ok_getr F dX4_byteAt_13 kF_X4_18 sh_175 rfl ?_
      refine ok_iload_n F dX4_byteAt_16 1 rfl ?_
      refine ok_iald (v := mem 176 p.toNat) F dX4_byteAt_17 sh_176 (by first | decide | assumption) (by omega) (by omega) rfl ?_
      refine ok_goto F 22 dX4_byteAt_18 (by decide) ?_
      refine ok_iret F G dX4_byteAt_22 ?_
      refine ⟨?_, rfl⟩
      first
        | (rw [hRT.sg ⟨hp.1, by omega⟩]; done)
        | (rw [show sgn g p = -1 from if_neg (by omega)]; done)
theorem dX4_readWord_0 : decode cX4_readWord 0 = .ok (.aload_n 0, 1) := by decide +kernel
theorem dX4_readWord_1 : decode cX4_readWord 1 = .ok (.invokevirtual 48, 3) := by decide +kernel
theorem dX4_readWord_4 : decode cX4_readWord 4 = .ok (.invokestatic 55, 3) := by decide +kernel
theorem dX4_readWord_7 : decode cX4_readWord 7 = .ok (.ifCond .ne 13, 3) := by decide +kernel
theorem dX4_readWord_10 : decode cX4_readWord 10 = .ok (.aload_n 0, 1) := by decide +kernel
theorem dX4_readWord_11 : decode cX4_readWord 11 = .ok (.aload_n 0, 1) := by decide +kernel
theorem dX4_readWord_12 : decode cX4_readWord 12 = .ok (.getfield 32, 3) := by decide +kernel
theorem dX4_readWord_15 : decode cX4_readWord 15 = .ok (.iconst 1, 1) := by decide +kernel
theorem dX4_readWord_16 : decode cX4_readWord 16 = .ok (.invokevirtual 59, 3) := by decide +kernel
theorem dX4_readWord_19 : decode cX4_readWord 19 = .ok (.ireturn, 1) := by decide +kernel
theorem dX4_readWord_20 : decode cX4_readWord 20 = .ok (.aload_n 0, 1) := by decide +kernel
theorem dX4_readWord_21 : decode cX4_readWord 21 = .ok (.aload_n 0, 1) := by decide +kernel
theorem dX4_readWord_22 : decode cX4_readWord 22 = .ok (.getfield 32, 3) := by decide +kernel
theorem dX4_readWord_25 : decode cX4_readWord 25 = .ok (.putfield 63, 3) := by decide +kernel
theorem dX4_readWord_28 : decode cX4_readWord 28 = .ok (.aload_n 0, 1) := by decide +kernel
theorem dX4_readWord_29 : decode cX4_readWord 29 = .ok (.getfield 32, 3) := by decide +kernel
theorem dX4_readWord_32 : decode cX4_readWord 32 = .ok (.aload_n 0, 1) := by decide +kernel
theorem dX4_readWord_33 : decode cX4_readWord 33 = .ok (.getfield 28, 3) := by decide +kernel
theorem dX4_readWord_36 : decode cX4_readWord 36 = .ok (.if_icmp .ge 31, 3) := by decide +kernel
theorem dX4_readWord_39 : decode cX4_readWord 39 = .ok (.aload_n 0, 1) := by decide +kernel
theorem dX4_readWord_40 : decode cX4_readWord 40 = .ok (.getfield 18, 3) := by decide +kernel
theorem dX4_readWord_43 : decode cX4_readWord 43 = .ok (.aload_n 0, 1) := by decide +kernel
theorem dX4_readWord_44 : decode cX4_readWord 44 = .ok (.getfield 32, 3) := by decide +kernel
theorem dX4_readWord_47 : decode cX4_readWord 47 = .ok (.iaload, 1) := by decide +kernel
theorem dX4_readWord_48 : decode cX4_readWord 48 = .ok (.invokestatic 55, 3) := by decide +kernel
theorem dX4_readWord_51 : decode cX4_readWord 51 = .ok (.ifCond .eq 16, 3) := by decide +kernel
theorem dX4_readWord_54 : decode cX4_readWord 54 = .ok (.aload_n 0, 1) := by decide +kernel
theorem dX4_readWord_55 : decode cX4_readWord 55 = .ok (.dup, 1) := by decide +kernel
theorem dX4_readWord_56 : decode cX4_readWord 56 = .ok (.getfield 32, 3) := by decide +kernel
theorem dX4_readWord_59 : decode cX4_readWord 59 = .ok (.iconst 1, 1) := by decide +kernel
theorem dX4_readWord_60 : decode cX4_readWord 60 = .ok (.iadd, 1) := by decide +kernel
theorem dX4_readWord_61 : decode cX4_readWord 61 = .ok (.putfield 32, 3) := by decide +kernel
theorem dX4_readWord_64 : decode cX4_readWord 64 = .ok (.goto (-36), 3) := by decide +kernel
theorem dX4_readWord_67 : decode cX4_readWord 67 = .ok (.iconst 1, 1) := by decide +kernel
theorem dX4_readWord_68 : decode cX4_readWord 68 = .ok (.ireturn, 1) := by decide +kernel
set_option maxHeartbeats 4000000 in
set_option maxRecDepth 100000 in
theorem m_X4_readWord (l : Launch) (g : Mem) (mem : Mem) (hRT : RT g mem) : Ret shp l yX4_readWord cX4_readWord 1 (some .boolean) 1 [pR 175] mem (fun rv mv => ∃ z, rv = some (pI z) ∧ (∀ c, c ≠ 175 → mv c = mem c) ∧ (z = 1 ∧ 1 ≤ ptN g ∧ mv 175 4 = ptP g ∧ mv 175 3 = ptP g + ptN g ∧ (∀ j, j ≠ 3 → j ≠ 4 → mv 175 j = mem 175 j) ∨ z = 0 ∧ ptN g = 0 ∧ mv 175 7 = 8 * ptP g + 1)) := by
  refine ret_of (by decide +kernel) (Nat.le_of_ble_eq_true rfl) (fun X hX F G => ?_)
  show Ok shp X 1 0 [(0, pR 175)] [] mem
  obtain ⟨t1, t2, t3, t4, t5⟩ := id hRT
  obtain ⟨o7, o8, o9, o10⟩ := id t4
  obtain ⟨pD, pT, pP, aD, aT, eP1, pid, hle, pN, p99, p9t⟩ := pt_ok t4
  have hNd : ptN g = letN g 401 (ptP g) := letN_of (mset_nka (by decide)) (mset_ne (by decide)) 401 _
  have hsb := sgn_bd g (ptP g)
  have hlv := fun p : Int => fun h : 0 ≤ p ∧ p < g 0 7 => (show sgn g p = iand (g 6 p.toNat) 255 from if_pos h.2)
  have hiv := fun p : Int => And.intro (t5 p.toNat) (iand255_val (t5 p.toNat))
  refine ok_aload_n F dX4_readWord_0 0 rfl ?_
  refine ok_callv F [] dX4_readWord_1 kM_X4_next kI_X4_next kV_X4_next kL_X4_48 (ci := 4) rfl sh_175 rfl (by decide) (Nat.le_of_ble_eq_true rfl) rfl (m_X4_next _ g mem (hRT)) ?_
  rintro _ m_1 ⟨rfl, e_2⟩
  have eN := e_2
  have n3 : m_1 175 3 = ptP g := by rw [eN]; exact mset_eq _ _ _ _
  have n2 : m_1 175 2 = g 0 7 := by rw [eN, mset_ne (by decide)]; exact t2
  have nc : ∀ c, c ≠ 175 → m_1 c = mem c := fun c hc => by rw [eN]; exact mset_nka hc
  have nj : ∀ j, j ≠ 3 → m_1 175 j = mem 175 j := fun j hj => by rw [eN]; exact mset_ne (fun q => hj q.2)
  refine ok_calls F [pI (sgn g (ptP g))] dX4_readWord_4 kM_X4_isLetter kS_X4_isLetter kL_X4_55 rfl (by decide) (Nat.le_of_ble_eq_true rfl) rfl (m_X4_isLetter _ (sgn g (ptP g)) m_1 (by omega)) ?_
  rintro _ _ ⟨rfl, rfl⟩
  refine ok_if_ne F 20 dX4_readWord_7 (by decide) (by omega) (fun c_3 => ?_) (fun c_3 => ?_)
  · refine ok_aload_n F dX4_readWord_20 0 rfl ?_
    refine ok_aload_n F dX4_readWord_21 0 rfl ?_
    refine ok_getf (v := m_1 175 3) F dX4_readWord_22 kF_X4_32 sh_175 rfl rfl ?_
    refine ok_putf F dX4_readWord_25 kF_X4_63 sh_175 rfl rfl rfl (fun m_4 e_5 => ?_)
    have hL_28 : ∀ (n_28 : Nat)  (m : Mem), (∃ n : Nat, ptP g ≤ m 175 3 ∧ m 175 3 ≤ 400 ∧ m 175 4 = ptP g ∧ (∀ j, j ≠ 3 → j ≠ 4 → m 175 j = mem 175 j) ∧ (∀ c, c ≠ 175 → m c = mem c) ∧ (n : Int) + (m 175 3 - ptP g) = 401 ∧ ptN g = letN g n (m 175 3) + (m 175 3 - ptP g)) → (401 - m 175 3).toNat = n_28 → Ok shp X 1 28 [(0, pR 175)] [] m := by
      intro n_28
      induction n_28 using Nat.strongRecOn with
      | _ n_28 ih_28 =>
        intro m hI_28 hn_28
        obtain ⟨n, hm0, hm1, hm4, hmj, hF, hn, hs⟩ := hI_28
        have h752 := hmj 2 (by decide) (by decide)
        refine ok_aload_n F dX4_readWord_28 0 rfl ?_
        refine ok_getf (v := m 175 3) F dX4_readWord_29 kF_X4_32 sh_175 rfl rfl ?_
        refine ok_aload_n F dX4_readWord_32 0 rfl ?_
        refine ok_getf (v := m 175 2) F dX4_readWord_33 kF_X4_28 sh_175 rfl rfl ?_
        refine ok_icmp_ge F 67 dX4_readWord_36 (by decide) (by omega) (by omega) (fun c_6 => ?_) (fun c_6 => ?_)
        · refine ok_iconst F dX4_readWord_67 ?_
          refine ok_zret F G dX4_readWord_68 (by first | rfl | exact zb_nar) ?_
          have hz : letN g n (m 175 3) = 0 := by
            by_cases y : n = 0
            · rw [y]; rfl
            · rw [show n = (n - 1) + 1 by omega, letN_s, if_neg (by omega)]
          refine ⟨_, rfl, hF, Or.inl ⟨rfl, ?_, hm4, by omega, hmj⟩⟩
          rw [hNd, letN_s, if_pos ?_]
          · have := letN_le g 400 (ptP g + 1); omega
          · have h1 := hlv (ptP g)
            have h2 := hiv (ptP g)
            by_cases y : ptP g < g 0 7
            · have := h1 ⟨by omega, y⟩; omega
            · have : sgn g (ptP g) = -1 := if_neg y
              omega
        · refine ok_aload_n F dX4_readWord_39 0 rfl ?_
          refine ok_getr F dX4_readWord_40 kF_X4_18 sh_175 rfl ?_
          refine ok_aload_n F dX4_readWord_43 0 rfl ?_
          refine ok_getf (v := m 175 3) F dX4_readWord_44 kF_X4_32 sh_175 rfl rfl ?_
          refine ok_iald (v := m 176 ((m 175 3).toNat)) F dX4_readWord_47 sh_176 (by first | decide | assumption) (by omega) (by omega) rfl ?_
          have hms : m 176 (m 175 3).toNat = sgn g (m 175 3) := by rw [hF 176 (by decide)]; exact hRT.sg (by omega)
          have h1 := hlv (m 175 3) (by omega)
          have h2 := hiv (m 175 3)
          refine ok_calls F [pI (m 176 ((m 175 3).toNat))] dX4_readWord_48 kM_X4_isLetter kS_X4_isLetter kL_X4_55 rfl (by decide) (Nat.le_of_ble_eq_true rfl) rfl (m_X4_isLetter _ (m 176 ((m 175 3).toNat)) m (by rw [hms]; have := sgn_bd g (m 175 3); omega)) ?_
          rintro _ _ ⟨rfl, rfl⟩
          refine ok_if_eq F 67 dX4_readWord_51 (by decide) (by omega) (fun c_7 => ?_) (fun c_7 => ?_)
          · refine ok_iconst F dX4_readWord_67 ?_
            refine ok_zret F G dX4_readWord_68 (by first | rfl | exact zb_nar) ?_
            have hz : letN g n (m 175 3) = 0 := by
              by_cases y : n = 0
              · rw [y]; rfl
              · rw [show n = (n - 1) + 1 by omega, letN_s, if_neg (by omega)]
            refine ⟨_, rfl, hF, Or.inl ⟨rfl, ?_, hm4, by omega, hmj⟩⟩
            rw [hNd, letN_s, if_pos ?_]
            · have := letN_le g 400 (ptP g + 1); omega
            · have h1 := hlv (ptP g)
              have h2 := hiv (ptP g)
              by_cases y : ptP g < g 0 7
              · have := h1 ⟨by omega, y⟩; omega
              · have : sgn g (ptP g) = -1 := if_neg y
                omega
          · refine ok_aload_n F dX4_readWord_54 0 rfl ?_
            refine ok_dup F dX4_readWord_55 rfl ?_
            refine ok_getf (v := m 175 3) F dX4_readWord_56 kF_X4_32 sh_175 rfl rfl ?_
            refine ok_iconst F dX4_readWord_59 ?_
            refine ok_iadd F dX4_readWord_60 ?_
            refine ok_putf F dX4_readWord_61 kF_X4_32 sh_175 rfl rfl rfl (fun m_8 e_9 => ?_)
            refine ok_goto F 28 dX4_readWord_64 (by decide) ?_
            refine ok_lvp [0] (lv' := [(0, pR 175)]) rfl ?_
            refine ih_28 _ ?_ m_8 ?_ rfl
            · have ht : True := trivial
              have e8 : m_8 175 3 = m 175 3 + 1 := by rw [e_9, mset_eq]
              omega
            · have e8 : m_8 175 3 = m 175 3 + 1 := by rw [e_9, mset_eq]
              obtain ⟨n2, rfl⟩ : ∃ x, n = x + 1 := ⟨n - 1, by omega⟩
              refine ⟨n2, by omega, by omega, by rw [e_9, mset_ne (by decide)]; exact hm4, fun j h3 h4 => by rw [e_9, mset_ne (fun q => h3 q.2)]; exact hmj j h3 h4, fun c hc => by rw [e_9, mset_nka hc]; exact hF c hc, by omega, ?_⟩
              rw [letN_s, if_pos (by omega)] at hs
              rw [e8]; omega
    refine ok_lvp [0] (lv' := [(0, pR 175)]) rfl ?_
    refine hL_28 _ m_4 ?_ rfl
    have x3 : m_4 175 3 = ptP g := by rw [e_5, mset_ne (by decide)]; exact n3
    refine ⟨401, by omega, by omega, by rw [e_5, mset_eq]; exact n3, fun j h3 h4 => by rw [e_5, mset_ne (fun q => h4 q.2)]; exact nj j h3, fun c hc => by rw [e_5, mset_nka hc]; exact nc c hc, by omega, ?_⟩
    rw [x3, hNd]; omega
  · refine ok_aload_n F dX4_readWord_10 0 rfl ?_
    refine ok_aload_n F dX4_readWord_11 0 rfl ?_
    refine ok_getf (v := m_1 175 3) F dX4_readWord_12 kF_X4_32 sh_175 rfl rfl ?_
    refine ok_iconst F dX4_readWord_15 ?_
    refine ok_callv F [pI (m_1 175 3), pI 1] dX4_readWord_16 kM_X4_wrong kI_X4_wrong kV_X4_wrong kL_X4_59 (ci := 4) rfl sh_175 rfl (by decide) (Nat.le_of_ble_eq_true rfl) rfl (m_X4_wrong _ (m_1 175 3) 1 m_1) ?_
    rintro _ m_10 ⟨rfl, e_11⟩
    have eW := e_11
    refine ok_zret F G dX4_readWord_19 (by first | rfl | exact zb_nar) ?_
    refine ⟨_, rfl, fun c hc => by rw [eW, mset_nka hc]; exact nc c hc, Or.inr ⟨rfl, ?_, by rw [eW, mset_eq, n3]⟩⟩
    rw [hNd, letN_s, if_neg ?_]
    intro q
    have h1 := hlv (ptP g) (by omega)
    have h2 := hiv (ptP g)
    omega
theorem dX4_spells_0 : decode cX4_spells 0 = .ok (.aload_n 0, 1) := by decide +kernel
theorem dX4_spells_1 : decode cX4_spells 1 = .ok (.getfield 32, 3) := by decide +kernel
theorem dX4_spells_4 : decode cX4_spells 4 = .ok (.aload_n 0, 1) := by decide +kernel
theorem dX4_spells_5 : decode cX4_spells 5 = .ok (.getfield 63, 3) := by decide +kernel
theorem dX4_spells_8 : decode cX4_spells 8 = .ok (.isub, 1) := by decide +kernel
theorem dX4_spells_9 : decode cX4_spells 9 = .ok (.aload_n 1, 1) := by decide +kernel
theorem dX4_spells_10 : decode cX4_spells 10 = .ok (.invokevirtual 66, 3) := by decide +kernel
theorem dX4_spells_13 : decode cX4_spells 13 = .ok (.if_icmp .eq 5, 3) := by decide +kernel
theorem dX4_spells_16 : decode cX4_spells 16 = .ok (.iconst 0, 1) := by decide +kernel
theorem dX4_spells_17 : decode cX4_spells 17 = .ok (.ireturn, 1) := by decide +kernel
theorem dX4_spells_18 : decode cX4_spells 18 = .ok (.iconst 0, 1) := by decide +kernel
theorem dX4_spells_19 : decode cX4_spells 19 = .ok (.istore_n 2, 1) := by decide +kernel
theorem dX4_spells_20 : decode cX4_spells 20 = .ok (.iload_n 2, 1) := by decide +kernel
theorem dX4_spells_21 : decode cX4_spells 21 = .ok (.aload_n 1, 1) := by decide +kernel
theorem dX4_spells_22 : decode cX4_spells 22 = .ok (.invokevirtual 66, 3) := by decide +kernel
theorem dX4_spells_25 : decode cX4_spells 25 = .ok (.if_icmp .ge 29, 3) := by decide +kernel
theorem dX4_spells_28 : decode cX4_spells 28 = .ok (.aload_n 0, 1) := by decide +kernel
theorem dX4_spells_29 : decode cX4_spells 29 = .ok (.aload_n 0, 1) := by decide +kernel
theorem dX4_spells_30 : decode cX4_spells 30 = .ok (.getfield 63, 3) := by decide +kernel
theorem dX4_spells_33 : decode cX4_spells 33 = .ok (.iload_n 2, 1) := by decide +kernel
theorem dX4_spells_34 : decode cX4_spells 34 = .ok (.iadd, 1) := by decide +kernel
theorem dX4_spells_35 : decode cX4_spells 35 = .ok (.invokevirtual 70, 3) := by decide +kernel
theorem dX4_spells_38 : decode cX4_spells 38 = .ok (.aload_n 1, 1) := by decide +kernel
theorem dX4_spells_39 : decode cX4_spells 39 = .ok (.iload_n 2, 1) := by decide +kernel
theorem dX4_spells_40 : decode cX4_spells 40 = .ok (.invokevirtual 74, 3) := by decide +kernel
theorem dX4_spells_43 : decode cX4_spells 43 = .ok (.if_icmp .eq 5, 3) := by decide +kernel
theorem dX4_spells_46 : decode cX4_spells 46 = .ok (.iconst 0, 1) := by decide +kernel
theorem dX4_spells_47 : decode cX4_spells 47 = .ok (.ireturn, 1) := by decide +kernel
theorem dX4_spells_48 : decode cX4_spells 48 = .ok (.iinc 2 1, 3) := by decide +kernel
theorem dX4_spells_51 : decode cX4_spells 51 = .ok (.goto (-31), 3) := by decide +kernel
theorem dX4_spells_54 : decode cX4_spells 54 = .ok (.iconst 1, 1) := by decide +kernel
theorem dX4_spells_55 : decode cX4_spells 55 = .ok (.ireturn, 1) := by decide +kernel
set_option maxHeartbeats 4000000 in
set_option maxRecDepth 100000 in
theorem m_X4_spells (l : Launch) (g : Mem) (w : Nat) (mem : Mem) (hw : w < 13) (hRT : RT (ptT g) mem) (hgk : RdOk g) (hb4 : mem 175 4 = ptP g) : Ret shp l yX4_spells cX4_spells 3 (some .boolean) 4 [pR 175, pR (1000 + w)] mem (fun rv mv => rv = some (pI (if ptW g w = true then 1 else 0)) ∧ mem = mv) := by
  refine ret_of (by decide +kernel) (Nat.le_of_ble_eq_true rfl) (fun X hX F G => ?_)
  show Ok shp X 3 0 [(0, pR 175), (1, pR (1000 + w))] [] mem
  have hlb := sLen_bd hw
  obtain ⟨t1, t2, t3, t4, t5⟩ := id hRT
  obtain ⟨pD, pT, pP, aD, aT, eP1, pid, hle, pN, p99, p9t⟩ := pt_ok hgk
  have e8 : ptT g 0 8 = ptP g + ptN g := mset_eq _ _ _ _
  have h8 := t4.2.1
  have h7 := t4.1
  have hWi : ptW g w = true ↔ spelT (ptD g) (ptP g) (ptN g) w := spB_iff
  have e6 : ptT g 6 = g 6 := aT 6 (by decide)
  have e6d : ptD g 6 = g 6 := aD 6 (by decide)
  have e7 : ptT g 0 7 = g 0 7 := by unfold ptT ptD; rw [mset_ne (by decide), mset_ne (by decide)]
  have hNL : ptP g + ptN g ≤ g 0 7 ∨ ptN g = 0 := letN_len hgk
  refine ok_aload_n F dX4_spells_0 0 rfl ?_
  refine ok_getf (v := mem 175 3) F dX4_spells_1 kF_X4_32 sh_175 rfl rfl ?_
  refine ok_aload_n F dX4_spells_4 0 rfl ?_
  refine ok_getf (v := mem 175 4) F dX4_spells_5 kF_X4_63 sh_175 rfl rfl ?_
  refine ok_isub F dX4_spells_8 ?_
  refine ok_aload_n F dX4_spells_9 1 rfl ?_
  refine ok_callt (i := w) F [] dX4_spells_10 kM_J0_length_8abf5 kI_J0_length_8abf5 kV_J0_length_8abf5 kL_X4_66 rfl hw rfl (by decide) (Nat.le_of_ble_eq_true rfl) rfl (m_J0_length _ w mem hw) ?_
  rintro _ _ ⟨rfl, rfl⟩
  refine ok_icmp_eq F 18 dX4_spells_13 (by decide) (by omega) (by omega) (fun c_1 => ?_) (fun c_1 => ?_)
  · refine ok_iconst F dX4_spells_18 ?_
    refine ok_istore_n (lv' := [(2, pI 0), (0, pR 175), (1, pR (1000 + w))]) F dX4_spells_19 (by decide) rfl ?_
    have hL_20 : ∀ (n_20 : Nat) (i : Int), (0 ≤ i ∧ i ≤ ptN g ∧ ∀ j : Nat, (j : Int) < i → g 6 (ptP g + j).toNat = (((sTx w).getD j 0 : Nat) : Int)) → (400 - i).toNat = n_20 → Ok shp X 3 20 [(0, pR 175), (1, pR (1000 + w)), (2, pI i)] [] mem := by
      intro n_20
      induction n_20 using Nat.strongRecOn with
      | _ n_20 ih_20 =>
        intro i hI_20 hn_20
        obtain ⟨hi0, hi1, hj⟩ := hI_20
        refine ok_iload_n F dX4_spells_20 2 rfl ?_
        refine ok_aload_n F dX4_spells_21 1 rfl ?_
        refine ok_callt (i := w) F [] dX4_spells_22 kM_J0_length_8abf5 kI_J0_length_8abf5 kV_J0_length_8abf5 kL_X4_66 rfl hw rfl (by decide) (Nat.le_of_ble_eq_true rfl) rfl (m_J0_length _ w mem hw) ?_
        rintro _ _ ⟨rfl, rfl⟩
        refine ok_icmp_ge F 54 dX4_spells_25 (by decide) (by omega) (by omega) (fun c_2 => ?_) (fun c_2 => ?_)
        · refine ok_iconst F dX4_spells_54 ?_
          refine ok_zret F G dX4_spells_55 (by first | rfl | exact zb_nar) ?_
          refine ⟨?_, rfl⟩
          rw [if_pos (hWi.mpr ⟨by omega, fun j hjj => by rw [e6d]; exact hj j (by omega)⟩)]
        · have hcb := sTx_bd7 (j := i.toNat) hw (by omega)
          have hsv : sgn (ptT g) (ptP g + i) = iand (g 6 (ptP g + i).toNat) 255 := by rw [← e6]; exact if_pos (by rw [e7]; omega)
          have hiv := And.intro (t5 (ptP g + i).toNat) (iand255_val (t5 (ptP g + i).toNat))
          rw [e6] at hiv
          rw [← hb4] at hsv hiv
          refine ok_aload_n F dX4_spells_28 0 rfl ?_
          refine ok_aload_n F dX4_spells_29 0 rfl ?_
          refine ok_getf (v := mem 175 4) F dX4_spells_30 kF_X4_63 sh_175 rfl rfl ?_
          refine ok_iload_n F dX4_spells_33 2 rfl ?_
          refine ok_iadd F dX4_spells_34 ?_
          refine ok_callv F [pI ((mem 175 4) + i)] dX4_spells_35 kM_X4_byteAt kI_X4_byteAt kV_X4_byteAt kL_X4_70 (ci := 4) rfl sh_175 rfl (by decide) (Nat.le_of_ble_eq_true rfl) rfl (m_X4_byteAt _ (ptT g) ((mem 175 4) + i) mem (hRT) (by omega)) ?_
          rintro _ _ ⟨rfl, rfl⟩
          refine ok_aload_n F dX4_spells_38 1 rfl ?_
          refine ok_iload_n F dX4_spells_39 2 rfl ?_
          refine ok_callt (i := w) F [pI i] dX4_spells_40 kM_J0_charAt_5068e kI_J0_charAt_5068e kV_J0_charAt_5068e kL_X4_74 rfl hw rfl (by decide) (Nat.le_of_ble_eq_true rfl) rfl (m_J0_charAt _ w i mem hw (by omega)) ?_
          rintro _ _ ⟨rfl, rfl⟩
          refine ok_icmp_eq F 48 dX4_spells_43 (by decide) (by omega) (by omega) (fun c_3 => ?_) (fun c_3 => ?_)
          · refine ok_iinc (lv' := [(2, pI (i + 1)), (0, pR 175), (1, pR (1000 + w))]) F dX4_spells_48 2 rfl (by decide) rfl ?_
            refine ok_goto F 20 dX4_spells_51 (by decide) ?_
            refine ok_lvp [1, 2, 0] (lv' := [(0, pR 175), (1, pR (1000 + w)), (2, pI (i + 1))]) rfl ?_
            refine ih_20 _ ?_ (i + 1) ?_ rfl
            · omega
            · refine ⟨by omega, by omega, fun j hjj => ?_⟩
              by_cases y : (j : Int) < i
              · exact hj j y
              · rw [show j = i.toNat by omega, show ((i.toNat : Nat) : Int) = i by omega, ← hb4]; omega
          · refine ok_iconst F dX4_spells_46 ?_
            have ht : True := trivial
            refine ok_zret F G dX4_spells_47 (by first | rfl | exact zb_nar) ?_
            refine ⟨?_, rfl⟩
            rw [if_neg (fun q => ?_)]
            have q2 := (hWi.mp q).2 i.toNat (by omega)
            rw [e6d, show ((i.toNat : Nat) : Int) = i by omega, ← hb4] at q2
            omega
    refine ok_lvp [1, 2, 0] (lv' := [(0, pR 175), (1, pR (1000 + w)), (2, pI 0)]) rfl ?_
    refine hL_20 _ 0 ?_ rfl
    exact ⟨by omega, by omega, fun j hj => by omega⟩
  · refine ok_iconst F dX4_spells_16 ?_
    refine ok_zret F G dX4_spells_17 (by first | rfl | exact zb_nar) ?_
    refine ⟨?_, rfl⟩
    rw [if_neg (fun q => by have := (hWi.mp q).1; omega)]
