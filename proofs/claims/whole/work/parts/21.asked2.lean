/-! the reference: a day lived now -/
/-- the row put aside: what is in the till -/
def tillW (mem : Mem) : Nat → Int := cpyN mem 1 11 14 0 8 14
theorem tillW_at {mem : Mem} {k : Nat} (h : k < 8) : tillW mem k = mem 1 (11 + k) := by
  unfold tillW cpyN
  rw [if_pos (by omega)]
  rfl
/-- what a day comes to, lived now -/
def lifeD (mem : Mem) (d : Int) : LfS := lifeN (mem 1) d (life0 (tillW mem) (mem 16)) (mem 1 2).toNat
theorem life0_bd {w low : Nat → Int} (h : ∀ k : Nat, k < 8 → 0 ≤ w k ∧ w k ≤ 99) : LB 0 (life0 w low) := ⟨h, fun k hk => by
  show 0 ≤ (if k < 8 then w k else low k) ∧ (if k < 8 then w k else low k) ≤ 99
  rw [if_pos hk]; exact h k hk, by show (0 : Int) ≤ 0 ∧ (0 : Int) ≤ ((0 : Nat) : Int); omega, by show (0 : Int) ≤ 0 ∧ (0 : Int) ≤ ((0 : Nat) : Int); omega, by show (-2 : Int) ≤ -2 ∧ (-2 : Int) ≤ ((0 : Nat) : Int); omega, by show (-2 : Int) ≤ -2 ∧ (-2 : Int) ≤ ((0 : Nat) : Int); omega, by show (0 : Int) ≤ 0 ∧ (0 : Int) ≤ ((0 : Nat) : Int); omega⟩
theorem lifeD_bd {mem : Mem} {d : Int} (hN : mem 1 0 ≤ 8) (hT : ∀ k : Nat, k < 8 → 0 ≤ mem 1 (11 + k) ∧ mem 1 (11 + k) ≤ 99) (hG : ∀ s : Nat, (s : Int) < mem 1 2 → ∀ k : Nat, k < 8 → 0 ≤ sGiven (mem 1) s k ∧ sGiven (mem 1) s k ≤ 5) : LB (mem 1 2).toNat (lifeD mem d) :=
  lifeN_bd hN (life0_bd fun k hk => by rw [tillW_at hk]; exact hT k hk) (fun s hs k hk => (hG s (by omega) k hk).1)
/-- pieces of change: not below 0, not too many -/
theorem pcsS_bd (m1 w : Nat → Int) (s : Nat) : 0 ≤ pcsS m1 w s ∧ pcsS m1 w s ≤ 1000000 := by
  unfold pcsS
  split
  · omega
  · exact fewT_bd _ _ _ _
theorem lifeN_pc {m1 : Nat → Int} {d : Int} {L : LfS} (h : L.2.2.2.1 = 0) : ∀ n : Nat, 0 ≤ (lifeN m1 d L n).2.2.2.1 ∧ (lifeN m1 d L n).2.2.2.1 ≤ n * 1000000
  | 0 => by show 0 ≤ L.2.2.2.1 ∧ L.2.2.2.1 ≤ ((0 : Nat) : Int) * 1000000; omega
  | n + 1 => by
    have ih := lifeN_pc (m1 := m1) (d := d) h n
    unfold lifeN
    split
    · have hp := pcsS_bd m1 (lifeN m1 d L n).1 n
      have e : (lifeS m1 n (lifeN m1 d L n)).2.2.2.1 = (lifeN m1 d L n).2.2.2.1 + pcsS m1 (lifeN m1 d L n).1 n := rfl
      rw [e]; omega
    · omega
theorem Keep.f7 {mem mv : Mem} (h : ∀ a, a ≠ 0 → a ≠ 8 → a ≠ 9 → a ≠ 11 → a ≠ 14 → a ≠ 15 → a ≠ 16 → mv a = mem a) (h0 : ∀ j, (j < 21 ∨ 26 < j) → mv 0 j = mem 0 j) : Keep mem mv := ⟨h 1 (by decide) (by decide) (by decide) (by decide) (by decide) (by decide) (by decide), h 3 (by decide) (by decide) (by decide) (by decide) (by decide) (by decide) (by decide), h 4 (by decide) (by decide) (by decide) (by decide) (by decide) (by decide) (by decide), h 5 (by decide) (by decide) (by decide) (by decide) (by decide) (by decide) (by decide), h 6 (by decide) (by decide) (by decide) (by decide) (by decide) (by decide) (by decide), h0 5 (by decide), h0 7 (by decide), fun q hq => h q (by omega) (by omega) (by omega) (by omega) (by omega) (by omega) (by omega), h0 10 (by decide)⟩
theorem dX8_livesNow_0 : decode cX8_livesNow 0 = .ok (.aload_n 0, 1) := by decide +kernel
theorem dX8_livesNow_1 : decode cX8_livesNow 1 = .ok (.invokevirtual 279, 3) := by decide +kernel
theorem dX8_livesNow_4 : decode cX8_livesNow 4 = .ok (.aload_n 0, 1) := by decide +kernel
theorem dX8_livesNow_5 : decode cX8_livesNow 5 = .ok (.iload_n 1, 1) := by decide +kernel
theorem dX8_livesNow_6 : decode cX8_livesNow 6 = .ok (.invokevirtual 282, 3) := by decide +kernel
theorem dX8_livesNow_9 : decode cX8_livesNow 9 = .ok (.return_, 1) := by decide +kernel
set_option maxHeartbeats 4000000 in
set_option maxRecDepth 100000 in
theorem m_X8_livesNow (l : Launch) (d : Int) (mem : Mem) (hd : i32 d) (hN : 0 ≤ mem 1 0 ∧ mem 1 0 ≤ 8) (hVl : ∀ i : Nat, (i : Int) < mem 1 0 → 1 ≤ mem 1 (3 + i) ∧ mem 1 (3 + i) ≤ 500) (hN2 : 0 ≤ mem 1 2 ∧ mem 1 2 ≤ 40) (hR : ∀ b, i32 (mem 1 b)) (hAb : ∀ s : Nat, (s : Int) < mem 1 2 → 0 ≤ abvS (mem 1) s ∧ abvS (mem 1) s ≤ 2500) (hG : ∀ s : Nat, (s : Int) < mem 1 2 → ∀ k : Nat, k < 8 → 0 ≤ sGiven (mem 1) s k ∧ sGiven (mem 1) s k ≤ 5) (hTl : ∀ k : Nat, k < 8 → 0 ≤ mem 1 (11 + k) ∧ mem 1 (11 + k) ≤ 99) : Ret shp l yX8_livesNow cX8_livesNow 2 none 6 [pR 0, pI d] mem (fun rv mv => rv = none ∧ (∀ a, a ≠ 0 → a ≠ 8 → a ≠ 9 → a ≠ 11 → a ≠ 14 → a ≠ 15 → a ≠ 16 → mv a = mem a) ∧ (∀ j, (j < 21 ∨ 26 < j) → mv 0 j = mem 0 j) ∧ ∃ nu, LRep mv (lifeD mem d) nu) := by
  refine ret_of (by decide +kernel) (Nat.le_of_ble_eq_true rfl) (fun X hX F G => ?_)
  show Ok shp X 2 0 [(0, pR 0), (1, pI d)] [] mem
  refine ok_aload_n F dX8_livesNow_0 0 rfl ?_
  refine ok_callv F [] dX8_livesNow_1 kM_X8_laysWork kI_X8_laysWork kV_X8_laysWork kL_X8_279 (ci := 8) rfl sh_0 rfl (by decide) (Nat.le_of_ble_eq_true rfl) rfl (m_X8_laysWork _ mem) ?_
  rintro _ m_1 ⟨rfl, e_2⟩
  have em : m_1 = cpyN mem 1 11 14 0 8 := by assumption
  have gx : ∀ a, a ≠ 14 → m_1 a = mem a := fun a ha => by rw [em]; funext b; exact cpyN_ne ha
  have g1 := gx 1 (by decide)
  have g16 := gx 16 (by decide)
  have g14 : m_1 14 = tillW mem := by rw [em]; rfl
  refine ok_aload_n F dX8_livesNow_4 0 rfl ?_
  refine ok_iload_n F dX8_livesNow_5 1 rfl ?_
  refine ok_callv F [pI d] dX8_livesNow_6 kM_X8_lives kI_X8_lives kV_X8_lives kL_X8_282 (ci := 8) rfl sh_0 rfl (by decide) (Nat.le_of_ble_eq_true rfl) rfl (m_X8_lives _ d m_1 (by omega) (by rw [g1]; exact hN) (by rw [g1]; exact hVl) (by rw [g1]; exact hN2) (by rw [g1]; exact hR) (by rw [g1]; exact hAb) (by rw [g1]; exact hG) (fun k hk => by have := hTl k hk; rw [g14]; rw [tillW_at hk]; exact this)) ?_
  rintro _ m_4 ⟨rfl, r_5⟩
  obtain ⟨hF, hF0, nu, hL⟩ := id r_5
  rw [g1, g14, g16] at hL
  refine ok_vret F G dX8_livesNow_9 ?_
  refine ⟨rfl, fun a a0 a1 a2 a3 a4 a5 a6 => by rw [hF a a0 a1 a2 a3 a4 a5 a6, gx a a4], fun j hj => by rw [hF0 j hj, gx 0 (by decide)], nu, hL⟩
theorem dX8_flow_0 : decode cX8_flow 0 = .ok (.aload_n 0, 1) := by decide +kernel
theorem dX8_flow_1 : decode cX8_flow 1 = .ok (.iload_n 1, 1) := by decide +kernel
theorem dX8_flow_2 : decode cX8_flow 2 = .ok (.invokevirtual 285, 3) := by decide +kernel
theorem dX8_flow_5 : decode cX8_flow 5 = .ok (.ifCond .eq 11, 3) := by decide +kernel
theorem dX8_flow_8 : decode cX8_flow 8 = .ok (.aload_n 0, 1) := by decide +kernel
theorem dX8_flow_9 : decode cX8_flow 9 = .ok (.iload_n 2, 1) := by decide +kernel
theorem dX8_flow_10 : decode cX8_flow 10 = .ok (.invokevirtual 215, 3) := by decide +kernel
theorem dX8_flow_13 : decode cX8_flow 13 = .ok (.ifCond .ne 5, 3) := by decide +kernel
theorem dX8_flow_16 : decode cX8_flow 16 = .ok (.iconst (-1), 1) := by decide +kernel
theorem dX8_flow_17 : decode cX8_flow 17 = .ok (.ireturn, 1) := by decide +kernel
theorem dX8_flow_18 : decode cX8_flow 18 = .ok (.aload_n 0, 1) := by decide +kernel
theorem dX8_flow_19 : decode cX8_flow 19 = .ok (.iload_n 1, 1) := by decide +kernel
theorem dX8_flow_20 : decode cX8_flow 20 = .ok (.invokevirtual 288, 3) := by decide +kernel
theorem dX8_flow_23 : decode cX8_flow 23 = .ok (.aload_n 0, 1) := by decide +kernel
theorem dX8_flow_24 : decode cX8_flow 24 = .ok (.getfield 58, 3) := by decide +kernel
theorem dX8_flow_27 : decode cX8_flow 27 = .ok (.iload_n 2, 1) := by decide +kernel
theorem dX8_flow_28 : decode cX8_flow 28 = .ok (.iaload, 1) := by decide +kernel
theorem dX8_flow_29 : decode cX8_flow 29 = .ok (.ireturn, 1) := by decide +kernel
set_option maxHeartbeats 4000000 in
set_option maxRecDepth 100000 in
theorem m_X8_flow (l : Launch) (d : Int) (k : Int) (mem : Mem) (hd : i32 d) (hk : i32 k) (hN1 : 0 ≤ mem 1 1 ∧ mem 1 1 ≤ 5) (hN : 0 ≤ mem 1 0 ∧ mem 1 0 ≤ 8) (hVl : ∀ i : Nat, (i : Int) < mem 1 0 → 1 ≤ mem 1 (3 + i) ∧ mem 1 (3 + i) ≤ 500) (hN2 : 0 ≤ mem 1 2 ∧ mem 1 2 ≤ 40) (hR : ∀ b, i32 (mem 1 b)) (hAb : ∀ s : Nat, (s : Int) < mem 1 2 → 0 ≤ abvS (mem 1) s ∧ abvS (mem 1) s ≤ 2500) (hG : ∀ s : Nat, (s : Int) < mem 1 2 → ∀ k : Nat, k < 8 → 0 ≤ sGiven (mem 1) s k ∧ sGiven (mem 1) s k ≤ 5) (hTl : ∀ k : Nat, k < 8 → 0 ≤ mem 1 (11 + k) ∧ mem 1 (11 + k) ≤ 99) : Ret shp l yX8_flow cX8_flow 3 (some .int) 7 [pR 0, pI d, pI k] mem (fun rv mv => ∃ z, rv = some (pI z) ∧ Keep mem mv ∧ z = if (0 ≤ d ∧ d < mem 1 1) ∧ 0 ≤ k ∧ k < mem 1 0 then (lifeD mem d).2.1 k.toNat else -1) := by
  refine ret_of (by decide +kernel) (Nat.le_of_ble_eq_true rfl) (fun X hX F G => ?_)
  show Ok shp X 3 0 [(0, pR 0), (1, pI d), (2, pI k)] [] mem
  refine ok_aload_n F dX8_flow_0 0 rfl ?_
  refine ok_iload_n F dX8_flow_1 1 rfl ?_
  refine ok_callv F [pI d] dX8_flow_2 kM_X8_isDay kI_X8_isDay kV_X8_isDay kL_X8_285 (ci := 8) rfl sh_0 rfl (by decide) (Nat.le_of_ble_eq_true rfl) rfl (m_X8_isDay _ d mem (by omega) (by omega)) ?_
  rintro _ _ ⟨rfl, rfl⟩
  refine ok_if_eq F 16 dX8_flow_5 (by decide) (by first | omega | exact hR _) (fun c_1 => ?_) (fun c_1 => ?_)
  · refine ok_iconst F dX8_flow_16 ?_
    refine ok_iret F G dX8_flow_17 ?_
    exact ⟨_, rfl, Keep.rf _, by rw [if_neg (by omega)]⟩
  · refine ok_aload_n F dX8_flow_8 0 rfl ?_
    refine ok_iload_n F dX8_flow_9 2 rfl ?_
    refine ok_callv F [pI k] dX8_flow_10 kM_X8_isKind kI_X8_isKind kV_X8_isKind kL_X8_215 (ci := 8) rfl sh_0 rfl (by decide) (Nat.le_of_ble_eq_true rfl) rfl (m_X8_isKind _ k mem (by omega) (by omega)) ?_
    rintro _ _ ⟨rfl, rfl⟩
    refine ok_if_ne F 18 dX8_flow_13 (by decide) (by first | omega | exact hR _) (fun c_2 => ?_) (fun c_2 => ?_)
    · refine ok_aload_n F dX8_flow_18 0 rfl ?_
      refine ok_iload_n F dX8_flow_19 1 rfl ?_
      refine ok_callv F [pI d] dX8_flow_20 kM_X8_livesNow kI_X8_livesNow kV_X8_livesNow kL_X8_288 (ci := 8) rfl sh_0 rfl (by decide) (Nat.le_of_ble_eq_true rfl) rfl (m_X8_livesNow _ d mem (by omega) (hN) (hVl) (hN2) (hR) (hAb) (hG) (hTl)) ?_
      rintro _ m_4 ⟨rfl, r_5⟩
      obtain ⟨hF, hF0, nu, hL⟩ := id r_5
      obtain ⟨r1, r2, r3, r4, r5, r6, r7, r8, r9⟩ := id hL
      have hB : LB (mem 1 2).toNat (lifeD mem d) := lifeD_bd hN.2 hTl hG
      obtain ⟨b1, b2, b3, b4, b5, b6, b7⟩ := hB
      have hpc := lifeN_pc (m1 := mem 1) (d := d) (L := life0 (tillW mem) (mem 16)) rfl (mem 1 2).toNat
      refine ok_aload_n F dX8_flow_23 0 rfl ?_
      refine ok_getr F dX8_flow_24 kF_X8_58 sh_0 rfl ?_
      refine ok_iload_n F dX8_flow_27 2 rfl ?_
      refine ok_iald (v := m_4 16 k.toNat) F dX8_flow_28 sh_16 (by first | decide | assumption) (by first | omega | exact hR _) (by first | omega | exact hR _) rfl ?_
      refine ok_iret F G dX8_flow_29 ?_
      exact ⟨_, rfl, Keep.f7 hF hF0, by rw [if_pos (by omega), r2]⟩
    · refine ok_iconst F dX8_flow_16 ?_
      refine ok_iret F G dX8_flow_17 ?_
      exact ⟨_, rfl, Keep.rf _, by rw [if_neg (by omega)]⟩
theorem dX8_gone_0 : decode cX8_gone 0 = .ok (.aload_n 0, 1) := by decide +kernel
theorem dX8_gone_1 : decode cX8_gone 1 = .ok (.iload_n 1, 1) := by decide +kernel
theorem dX8_gone_2 : decode cX8_gone 2 = .ok (.invokevirtual 285, 3) := by decide +kernel
theorem dX8_gone_5 : decode cX8_gone 5 = .ok (.ifCond .eq 13, 3) := by decide +kernel
theorem dX8_gone_8 : decode cX8_gone 8 = .ok (.iload_n 2, 1) := by decide +kernel
theorem dX8_gone_9 : decode cX8_gone 9 = .ok (.i2l, 1) := by decide +kernel
theorem dX8_gone_10 : decode cX8_gone 10 = .ok (.lconst 0, 1) := by decide +kernel
theorem dX8_gone_11 : decode cX8_gone 11 = .ok (.lconst 1, 1) := by decide +kernel
theorem dX8_gone_12 : decode cX8_gone 12 = .ok (.invokestatic 100, 3) := by decide +kernel
theorem dX8_gone_15 : decode cX8_gone 15 = .ok (.ifCond .ne 5, 3) := by decide +kernel
theorem dX8_gone_18 : decode cX8_gone 18 = .ok (.iconst (-1), 1) := by decide +kernel
theorem dX8_gone_19 : decode cX8_gone 19 = .ok (.ireturn, 1) := by decide +kernel
theorem dX8_gone_20 : decode cX8_gone 20 = .ok (.aload_n 0, 1) := by decide +kernel
theorem dX8_gone_21 : decode cX8_gone 21 = .ok (.iload_n 1, 1) := by decide +kernel
theorem dX8_gone_22 : decode cX8_gone 22 = .ok (.invokevirtual 288, 3) := by decide +kernel
theorem dX8_gone_25 : decode cX8_gone 25 = .ok (.iload_n 2, 1) := by decide +kernel
theorem dX8_gone_26 : decode cX8_gone 26 = .ok (.ifCond .ne 10, 3) := by decide +kernel
theorem dX8_gone_29 : decode cX8_gone 29 = .ok (.aload_n 0, 1) := by decide +kernel
theorem dX8_gone_30 : decode cX8_gone 30 = .ok (.getfield 267, 3) := by decide +kernel
theorem dX8_gone_33 : decode cX8_gone 33 = .ok (.goto 7, 3) := by decide +kernel
theorem dX8_gone_36 : decode cX8_gone 36 = .ok (.aload_n 0, 1) := by decide +kernel
theorem dX8_gone_37 : decode cX8_gone 37 = .ok (.getfield 270, 3) := by decide +kernel
theorem dX8_gone_40 : decode cX8_gone 40 = .ok (.ireturn, 1) := by decide +kernel
set_option maxHeartbeats 4000000 in
set_option maxRecDepth 100000 in
theorem m_X8_gone (l : Launch) (d : Int) (w : Int) (mem : Mem) (hd : i32 d) (hw : i32 w) (hN1 : 0 ≤ mem 1 1 ∧ mem 1 1 ≤ 5) (hN : 0 ≤ mem 1 0 ∧ mem 1 0 ≤ 8) (hVl : ∀ i : Nat, (i : Int) < mem 1 0 → 1 ≤ mem 1 (3 + i) ∧ mem 1 (3 + i) ≤ 500) (hN2 : 0 ≤ mem 1 2 ∧ mem 1 2 ≤ 40) (hR : ∀ b, i32 (mem 1 b)) (hAb : ∀ s : Nat, (s : Int) < mem 1 2 → 0 ≤ abvS (mem 1) s ∧ abvS (mem 1) s ≤ 2500) (hG : ∀ s : Nat, (s : Int) < mem 1 2 → ∀ k : Nat, k < 8 → 0 ≤ sGiven (mem 1) s k ∧ sGiven (mem 1) s k ≤ 5) (hTl : ∀ k : Nat, k < 8 → 0 ≤ mem 1 (11 + k) ∧ mem 1 (11 + k) ≤ 99) : Ret shp l yX8_gone cX8_gone 3 (some .int) 7 [pR 0, pI d, pI w] mem (fun rv mv => ∃ z, rv = some (pI z) ∧ Keep mem mv ∧ z = if (0 ≤ d ∧ d < mem 1 1) ∧ 0 ≤ w ∧ w ≤ 1 then (if w = 0 then (lifeD mem d).2.2.2.2.2.2.1 else (lifeD mem d).2.2.2.2.2.2.2.1) else -1) := by
  refine ret_of (by decide +kernel) (Nat.le_of_ble_eq_true rfl) (fun X hX F G => ?_)
  show Ok shp X 3 0 [(0, pR 0), (1, pI d), (2, pI w)] [] mem
  refine ok_aload_n F dX8_gone_0 0 rfl ?_
  refine ok_iload_n F dX8_gone_1 1 rfl ?_
  refine ok_callv F [pI d] dX8_gone_2 kM_X8_isDay kI_X8_isDay kV_X8_isDay kL_X8_285 (ci := 8) rfl sh_0 rfl (by decide) (Nat.le_of_ble_eq_true rfl) rfl (m_X8_isDay _ d mem (by omega) (by omega)) ?_
  rintro _ _ ⟨rfl, rfl⟩
  refine ok_if_eq F 18 dX8_gone_5 (by decide) (by first | omega | exact hR _) (fun c_1 => ?_) (fun c_1 => ?_)
  · refine ok_iconst F dX8_gone_18 ?_
    refine ok_iret F G dX8_gone_19 ?_
    exact ⟨_, rfl, Keep.rf _, by rw [if_neg (by omega)]⟩
  · refine ok_iload_n F dX8_gone_8 2 rfl ?_
    refine ok_i2l F dX8_gone_9 (by first | omega | exact hR _) ?_
    refine ok_lconst (z := 0) F dX8_gone_10 rfl ?_
    refine ok_lconst (z := 1) F dX8_gone_11 rfl ?_
    refine ok_calls F [pL w, pL 0, pL 1] dX8_gone_12 kM_X8_in kS_X8_in kL_X8_100 rfl (by decide) (Nat.le_of_ble_eq_true rfl) rfl (m_X8_in _ w 0 1 mem (by omega) (by omega) (by omega)) ?_
    rintro _ _ ⟨rfl, rfl⟩
    refine ok_if_ne F 20 dX8_gone_15 (by decide) (by first | omega | exact hR _) (fun c_2 => ?_) (fun c_2 => ?_)
    · refine ok_aload_n F dX8_gone_20 0 rfl ?_
      refine ok_iload_n F dX8_gone_21 1 rfl ?_
      refine ok_callv F [pI d] dX8_gone_22 kM_X8_livesNow kI_X8_livesNow kV_X8_livesNow kL_X8_288 (ci := 8) rfl sh_0 rfl (by decide) (Nat.le_of_ble_eq_true rfl) rfl (m_X8_livesNow _ d mem (by omega) (hN) (hVl) (hN2) (hR) (hAb) (hG) (hTl)) ?_
      rintro _ m_4 ⟨rfl, r_5⟩
      obtain ⟨hF, hF0, nu, hL⟩ := id r_5
      obtain ⟨r1, r2, r3, r4, r5, r6, r7, r8, r9⟩ := id hL
      have hB : LB (mem 1 2).toNat (lifeD mem d) := lifeD_bd hN.2 hTl hG
      obtain ⟨b1, b2, b3, b4, b5, b6, b7⟩ := hB
      have hpc := lifeN_pc (m1 := mem 1) (d := d) (L := life0 (tillW mem) (mem 16)) rfl (mem 1 2).toNat
      refine ok_iload_n F dX8_gone_25 2 rfl ?_
      refine ok_if_ne F 36 dX8_gone_26 (by decide) (by first | omega | exact hR _) (fun c_6 => ?_) (fun c_6 => ?_)
      · refine ok_aload_n F dX8_gone_36 0 rfl ?_
        refine ok_getf (v := m_4 0 26) F dX8_gone_37 kF_X8_270 sh_0 rfl rfl ?_
        refine ok_iret F G dX8_gone_40 ?_
        refine ⟨_, rfl, Keep.f7 hF hF0, ?_⟩
        rw [if_pos (by omega)]
        first | (rw [if_pos (by omega), r7]; done) | (rw [if_neg (by omega), r8]; done)
      · refine ok_aload_n F dX8_gone_29 0 rfl ?_
        refine ok_getf (v := m_4 0 25) F dX8_gone_30 kF_X8_267 sh_0 rfl rfl ?_
        refine ok_goto F 40 dX8_gone_33 (by decide) ?_
        refine ok_iret F G dX8_gone_40 ?_
        refine ⟨_, rfl, Keep.f7 hF hF0, ?_⟩
        rw [if_pos (by omega)]
        first | (rw [if_pos (by omega), r7]; done) | (rw [if_neg (by omega), r8]; done)
    · refine ok_iconst F dX8_gone_18 ?_
      refine ok_iret F G dX8_gone_19 ?_
      exact ⟨_, rfl, Keep.rf _, by rw [if_neg (by omega)]⟩
theorem dX8_day_0 : decode cX8_day 0 = .ok (.aload_n 0, 1) := by decide +kernel
theorem dX8_day_1 : decode cX8_day 1 = .ok (.iload_n 1, 1) := by decide +kernel
theorem dX8_day_2 : decode cX8_day 2 = .ok (.invokevirtual 285, 3) := by decide +kernel
theorem dX8_day_5 : decode cX8_day 5 = .ok (.ifCond .eq 15, 3) := by decide +kernel
theorem dX8_day_8 : decode cX8_day 8 = .ok (.iload_n 2, 1) := by decide +kernel
theorem dX8_day_9 : decode cX8_day 9 = .ok (.i2l, 1) := by decide +kernel
theorem dX8_day_10 : decode cX8_day 10 = .ok (.lconst 0, 1) := by decide +kernel
theorem dX8_day_11 : decode cX8_day 11 = .ok (.ldc2_w 316, 3) := by decide +kernel
theorem dX8_day_14 : decode cX8_day 14 = .ok (.invokestatic 100, 3) := by decide +kernel
theorem dX8_day_17 : decode cX8_day 17 = .ok (.ifCond .ne 5, 3) := by decide +kernel
theorem dX8_day_20 : decode cX8_day 20 = .ok (.iconst (-1), 1) := by decide +kernel
theorem dX8_day_21 : decode cX8_day 21 = .ok (.ireturn, 1) := by decide +kernel
theorem dX8_day_22 : decode cX8_day 22 = .ok (.iload_n 2, 1) := by decide +kernel
theorem dX8_day_23 : decode cX8_day 23 = .ok (.iconst 2, 1) := by decide +kernel
theorem dX8_day_24 : decode cX8_day 24 = .ok (.if_icmp .ge 21, 3) := by decide +kernel
theorem dX8_day_27 : decode cX8_day 27 = .ok (.iload_n 2, 1) := by decide +kernel
theorem dX8_day_28 : decode cX8_day 28 = .ok (.ifCond .ne 11, 3) := by decide +kernel
theorem dX8_day_31 : decode cX8_day 31 = .ok (.aload_n 0, 1) := by decide +kernel
theorem dX8_day_32 : decode cX8_day 32 = .ok (.iload_n 1, 1) := by decide +kernel
theorem dX8_day_33 : decode cX8_day 33 = .ok (.invokevirtual 318, 3) := by decide +kernel
theorem dX8_day_36 : decode cX8_day 36 = .ok (.goto 8, 3) := by decide +kernel
theorem dX8_day_39 : decode cX8_day 39 = .ok (.aload_n 0, 1) := by decide +kernel
theorem dX8_day_40 : decode cX8_day 40 = .ok (.iload_n 1, 1) := by decide +kernel
theorem dX8_day_41 : decode cX8_day 41 = .ok (.invokevirtual 321, 3) := by decide +kernel
theorem dX8_day_44 : decode cX8_day 44 = .ok (.ireturn, 1) := by decide +kernel
theorem dX8_day_45 : decode cX8_day 45 = .ok (.aload_n 0, 1) := by decide +kernel
theorem dX8_day_46 : decode cX8_day 46 = .ok (.iload_n 1, 1) := by decide +kernel
theorem dX8_day_47 : decode cX8_day 47 = .ok (.invokevirtual 288, 3) := by decide +kernel
theorem dX8_day_50 : decode cX8_day 50 = .ok (.iload_n 2, 1) := by decide +kernel
theorem dX8_day_51 : decode cX8_day 51 = .ok (.tableswitch 40 2 4 #[25, 30, 35], 25) := by decide +kernel
theorem dX8_day_76 : decode cX8_day 76 = .ok (.aload_n 0, 1) := by decide +kernel
theorem dX8_day_77 : decode cX8_day 77 = .ok (.getfield 258, 3) := by decide +kernel
theorem dX8_day_80 : decode cX8_day 80 = .ok (.ireturn, 1) := by decide +kernel
theorem dX8_day_81 : decode cX8_day 81 = .ok (.aload_n 0, 1) := by decide +kernel
theorem dX8_day_82 : decode cX8_day 82 = .ok (.getfield 255, 3) := by decide +kernel
theorem dX8_day_85 : decode cX8_day 85 = .ok (.ireturn, 1) := by decide +kernel
theorem dX8_day_86 : decode cX8_day 86 = .ok (.aload_n 0, 1) := by decide +kernel
theorem dX8_day_87 : decode cX8_day 87 = .ok (.getfield 264, 3) := by decide +kernel
theorem dX8_day_90 : decode cX8_day 90 = .ok (.ireturn, 1) := by decide +kernel
theorem dX8_day_91 : decode cX8_day 91 = .ok (.aload_n 0, 1) := by decide +kernel
theorem dX8_day_92 : decode cX8_day 92 = .ok (.invokevirtual 324, 3) := by decide +kernel
theorem dX8_day_95 : decode cX8_day 95 = .ok (.ireturn, 1) := by decide +kernel
set_option maxHeartbeats 4000000 in
set_option maxRecDepth 100000 in
theorem m_X8_day (l : Launch) (d : Int) (w : Int) (mem : Mem) (hd : i32 d) (hw : i32 w) (hN1 : 0 ≤ mem 1 1 ∧ mem 1 1 ≤ 5) (hN : 0 ≤ mem 1 0 ∧ mem 1 0 ≤ 8) (hVl : ∀ i : Nat, (i : Int) < mem 1 0 → 1 ≤ mem 1 (3 + i) ∧ mem 1 (3 + i) ≤ 500) (hN2 : 0 ≤ mem 1 2 ∧ mem 1 2 ≤ 40) (hR : ∀ b, i32 (mem 1 b)) (hAb : ∀ s : Nat, (s : Int) < mem 1 2 → 0 ≤ abvS (mem 1) s ∧ abvS (mem 1) s ≤ 2500) (hG : ∀ s : Nat, (s : Int) < mem 1 2 → ∀ k : Nat, k < 8 → 0 ≤ sGiven (mem 1) s k ∧ sGiven (mem 1) s k ≤ 5) (hTl : ∀ k : Nat, k < 8 → 0 ≤ mem 1 (11 + k) ∧ mem 1 (11 + k) ≤ 99) : Ret shp l yX8_day cX8_day 3 (some .int) 7 [pR 0, pI d, pI w] mem (fun rv mv => ∃ z, rv = some (pI z) ∧ Keep mem mv ∧ z = if (0 ≤ d ∧ d < mem 1 1) ∧ 0 ≤ w ∧ w ≤ 5 then (if w = 0 then sumN (fun s => if sDay (mem 1) s = d then 1 else 0) (mem 1 2).toNat else if w = 1 then sumN (fun s => if sDay (mem 1) s = d then sPrice (mem 1) s else 0) (mem 1 2).toNat else if w = 2 then (lifeD mem d).2.2.1 else if w = 3 then (lifeD mem d).2.2.2.1 else if w = 4 then (lifeD mem d).2.2.2.2.2.1 else noneAt (lifeD mem d).1 (mem 1 0).toNat 0) else -1) := by
  refine ret_of (by decide +kernel) (Nat.le_of_ble_eq_true rfl) (fun X hX F G => ?_)
  show Ok shp X 3 0 [(0, pR 0), (1, pI d), (2, pI w)] [] mem
  refine ok_aload_n F dX8_day_0 0 rfl ?_
  refine ok_iload_n F dX8_day_1 1 rfl ?_
  refine ok_callv F [pI d] dX8_day_2 kM_X8_isDay kI_X8_isDay kV_X8_isDay kL_X8_285 (ci := 8) rfl sh_0 rfl (by decide) (Nat.le_of_ble_eq_true rfl) rfl (m_X8_isDay _ d mem (by omega) (by omega)) ?_
  rintro _ _ ⟨rfl, rfl⟩
  refine ok_if_eq F 20 dX8_day_5 (by decide) (by first | omega | exact hR _) (fun c_1 => ?_) (fun c_1 => ?_)
  · refine ok_iconst F dX8_day_20 ?_
    refine ok_iret F G dX8_day_21 ?_
    exact ⟨_, rfl, Keep.rf _, by rw [if_neg (by omega)]⟩
  · refine ok_iload_n F dX8_day_8 2 rfl ?_
    refine ok_i2l F dX8_day_9 (by first | omega | exact hR _) ?_
    refine ok_lconst (z := 0) F dX8_day_10 rfl ?_
    refine ok_ldc2 (n := 5) F dX8_day_11 kJ_X8_316 rfl ?_
    refine ok_calls F [pL w, pL 0, pL 5] dX8_day_14 kM_X8_in kS_X8_in kL_X8_100 rfl (by decide) (Nat.le_of_ble_eq_true rfl) rfl (m_X8_in _ w 0 5 mem (by omega) (by omega) (by omega)) ?_
    rintro _ _ ⟨rfl, rfl⟩
    refine ok_if_ne F 22 dX8_day_17 (by decide) (by first | omega | exact hR _) (fun c_2 => ?_) (fun c_2 => ?_)
    · refine ok_iload_n F dX8_day_22 2 rfl ?_
      refine ok_iconst F dX8_day_23 ?_
      refine ok_icmp_ge F 45 dX8_day_24 (by decide) (by first | omega | exact hR _) (by first | omega | exact hR _) (fun c_3 => ?_) (fun c_3 => ?_)
      · refine ok_aload_n F dX8_day_45 0 rfl ?_
        refine ok_iload_n F dX8_day_46 1 rfl ?_
        refine ok_callv F [pI d] dX8_day_47 kM_X8_livesNow kI_X8_livesNow kV_X8_livesNow kL_X8_288 (ci := 8) rfl sh_0 rfl (by decide) (Nat.le_of_ble_eq_true rfl) rfl (m_X8_livesNow _ d mem (by omega) (hN) (hVl) (hN2) (hR) (hAb) (hG) (hTl)) ?_
        rintro _ m_5 ⟨rfl, r_6⟩
        obtain ⟨hF, hF0, nu, hL⟩ := id r_6
        obtain ⟨r1, r2, r3, r4, r5, r6, r7, r8, r9⟩ := id hL
        have hB : LB (mem 1 2).toNat (lifeD mem d) := lifeD_bd hN.2 hTl hG
        obtain ⟨b1, b2, b3, b4, b5, b6, b7⟩ := hB
        have hpc := lifeN_pc (m1 := mem 1) (d := d) (L := life0 (tillW mem) (mem 16)) rfl (mem 1 2).toNat
        refine ok_iload_n F dX8_day_50 2 rfl ?_
        by_cases c_7o : w < 2 ∨ 4 < w
        · refine ok_tabOut F 91 dX8_day_51 (by first | omega | exact hR _) c_7o (by decide) ?_
          refine ok_aload_n F dX8_day_91 0 rfl ?_
          refine ok_callv F [] dX8_day_92 kM_X8_lowestNone kI_X8_lowestNone kV_X8_lowestNone kL_X8_324 (ci := 8) rfl sh_0 rfl (by decide) (Nat.le_of_ble_eq_true rfl) rfl (m_X8_lowestNone _ m_5 (by rw [hF 1 (by decide) (by decide) (by decide) (by decide) (by decide) (by decide) (by decide)]; exact hN) (fun b hb => by have := b1 b hb; rw [r1]; omega)) ?_
          rintro _ _ ⟨rfl, rfl⟩
          refine ok_iret F G dX8_day_95 ?_
          refine ⟨_, rfl, Keep.f7 hF hF0, ?_⟩
          rw [if_pos (by omega), if_neg (by omega), if_neg (by omega), if_neg (by omega), if_neg (by omega), if_neg (by omega), r1, hF 1 (by decide) (by decide) (by decide) (by decide) (by decide) (by decide) (by decide)]
        by_cases c_7_0 : w = 2
        · refine ok_tabIn F 76 dX8_day_51 (by first | omega | exact hR _) (by omega) (by omega) (off := 25) (by rw [c_7_0]; rfl) (by decide) ?_
          refine ok_aload_n F dX8_day_76 0 rfl ?_
          refine ok_getf (v := m_5 0 21) F dX8_day_77 kF_X8_258 sh_0 rfl rfl ?_
          refine ok_iret F G dX8_day_80 ?_
          refine ⟨_, rfl, Keep.f7 hF hF0, ?_⟩
          rw [if_pos (by omega), if_neg (by omega), if_neg (by omega), if_pos (by omega), r3]
        by_cases c_7_1 : w = 3
        · refine ok_tabIn F 81 dX8_day_51 (by first | omega | exact hR _) (by omega) (by omega) (off := 30) (by rw [c_7_1]; rfl) (by decide) ?_
          refine ok_aload_n F dX8_day_81 0 rfl ?_
          refine ok_getf (v := m_5 0 22) F dX8_day_82 kF_X8_255 sh_0 rfl rfl ?_
          refine ok_iret F G dX8_day_85 ?_
          refine ⟨_, rfl, Keep.f7 hF hF0, ?_⟩
          rw [if_pos (by omega), if_neg (by omega), if_neg (by omega), if_neg (by omega), if_pos (by omega), r4]
        by_cases c_7_2 : w = 4
        · refine ok_tabIn F 86 dX8_day_51 (by first | omega | exact hR _) (by omega) (by omega) (off := 35) (by rw [c_7_2]; rfl) (by decide) ?_
          refine ok_aload_n F dX8_day_86 0 rfl ?_
          refine ok_getf (v := m_5 0 24) F dX8_day_87 kF_X8_264 sh_0 rfl rfl ?_
          refine ok_iret F G dX8_day_90 ?_
          refine ⟨_, rfl, Keep.f7 hF hF0, ?_⟩
          rw [if_pos (by omega), if_neg (by omega), if_neg (by omega), if_neg (by omega), if_neg (by omega), if_pos (by omega), r6]
        exfalso; omega
      · refine ok_iload_n F dX8_day_27 2 rfl ?_
        refine ok_if_ne F 39 dX8_day_28 (by decide) (by first | omega | exact hR _) (fun c_8 => ?_) (fun c_8 => ?_)
        · refine ok_aload_n F dX8_day_39 0 rfl ?_
          refine ok_iload_n F dX8_day_40 1 rfl ?_
          refine ok_callv F [pI d] dX8_day_41 kM_X8_pricesOf kI_X8_pricesOf kV_X8_pricesOf kL_X8_321 (ci := 8) rfl sh_0 rfl (by decide) (Nat.le_of_ble_eq_true rfl) rfl (m_X8_pricesOf _ d mem (by omega) (by omega) (by omega)) ?_
          rintro _ _ ⟨rfl, rfl⟩
          refine ok_iret F G dX8_day_44 ?_
          refine ⟨_, rfl, Keep.rf _, ?_⟩
          rw [if_pos (by omega)]
          first | (rw [if_pos (by omega)]; done) | (rw [if_neg (by omega), if_pos (by omega)]; done)
        · refine ok_aload_n F dX8_day_31 0 rfl ?_
          refine ok_iload_n F dX8_day_32 1 rfl ?_
          refine ok_callv F [pI d] dX8_day_33 kM_X8_salesOf kI_X8_salesOf kV_X8_salesOf kL_X8_318 (ci := 8) rfl sh_0 rfl (by decide) (Nat.le_of_ble_eq_true rfl) rfl (m_X8_salesOf _ d mem (by omega) (by omega) (by omega)) ?_
          rintro _ _ ⟨rfl, rfl⟩
          refine ok_goto F 44 dX8_day_36 (by decide) ?_
          refine ok_iret F G dX8_day_44 ?_
          refine ⟨_, rfl, Keep.rf _, ?_⟩
          rw [if_pos (by omega)]
          first | (rw [if_pos (by omega)]; done) | (rw [if_neg (by omega), if_pos (by omega)]; done)
    · refine ok_iconst F dX8_day_20 ?_
      refine ok_iret F G dX8_day_21 ?_
      exact ⟨_, rfl, Keep.rf _, by rw [if_neg (by omega)]⟩
theorem dX8_shortsOf_0 : decode cX8_shortsOf 0 = .ok (.iconst 0, 1) := by decide +kernel
theorem dX8_shortsOf_1 : decode cX8_shortsOf 1 = .ok (.istore_n 2, 1) := by decide +kernel
theorem dX8_shortsOf_2 : decode cX8_shortsOf 2 = .ok (.iload_n 2, 1) := by decide +kernel
theorem dX8_shortsOf_3 : decode cX8_shortsOf 3 = .ok (.bipush 8, 2) := by decide +kernel
theorem dX8_shortsOf_5 : decode cX8_shortsOf 5 = .ok (.if_icmp .ge 21, 3) := by decide +kernel
theorem dX8_shortsOf_8 : decode cX8_shortsOf 8 = .ok (.aload_n 0, 1) := by decide +kernel
theorem dX8_shortsOf_9 : decode cX8_shortsOf 9 = .ok (.getfield 52, 3) := by decide +kernel
theorem dX8_shortsOf_12 : decode cX8_shortsOf 12 = .ok (.iload_n 2, 1) := by decide +kernel
theorem dX8_shortsOf_13 : decode cX8_shortsOf 13 = .ok (.aload_n 0, 1) := by decide +kernel
theorem dX8_shortsOf_14 : decode cX8_shortsOf 14 = .ok (.getfield 65, 3) := by decide +kernel
theorem dX8_shortsOf_17 : decode cX8_shortsOf 17 = .ok (.iload_n 2, 1) := by decide +kernel
theorem dX8_shortsOf_18 : decode cX8_shortsOf 18 = .ok (.iaload, 1) := by decide +kernel
theorem dX8_shortsOf_19 : decode cX8_shortsOf 19 = .ok (.iastore, 1) := by decide +kernel
theorem dX8_shortsOf_20 : decode cX8_shortsOf 20 = .ok (.iinc 2 1, 3) := by decide +kernel
theorem dX8_shortsOf_23 : decode cX8_shortsOf 23 = .ok (.goto (-21), 3) := by decide +kernel
theorem dX8_shortsOf_26 : decode cX8_shortsOf 26 = .ok (.aload_n 0, 1) := by decide +kernel
theorem dX8_shortsOf_27 : decode cX8_shortsOf 27 = .ok (.iload_n 1, 1) := by decide +kernel
theorem dX8_shortsOf_28 : decode cX8_shortsOf 28 = .ok (.invokevirtual 282, 3) := by decide +kernel
theorem dX8_shortsOf_31 : decode cX8_shortsOf 31 = .ok (.aload_n 0, 1) := by decide +kernel
theorem dX8_shortsOf_32 : decode cX8_shortsOf 32 = .ok (.getfield 258, 3) := by decide +kernel
theorem dX8_shortsOf_35 : decode cX8_shortsOf 35 = .ok (.ireturn, 1) := by decide +kernel
set_option maxHeartbeats 4000000 in
set_option maxRecDepth 100000 in
theorem m_X8_shortsOf (l : Launch) (d : Int) (mem : Mem) (hd : i32 d) (hN : 0 ≤ mem 1 0 ∧ mem 1 0 ≤ 8) (hVl : ∀ i : Nat, (i : Int) < mem 1 0 → 1 ≤ mem 1 (3 + i) ∧ mem 1 (3 + i) ≤ 500) (hN2 : 0 ≤ mem 1 2 ∧ mem 1 2 ≤ 40) (hR : ∀ b, i32 (mem 1 b)) (hAb : ∀ s : Nat, (s : Int) < mem 1 2 → 0 ≤ abvS (mem 1) s ∧ abvS (mem 1) s ≤ 2500) (hG : ∀ s : Nat, (s : Int) < mem 1 2 → ∀ k : Nat, k < 8 → 0 ≤ sGiven (mem 1) s k ∧ sGiven (mem 1) s k ≤ 5) (hTr : ∀ k : Nat, k < 8 → 0 ≤ mem 18 k ∧ mem 18 k ≤ 99) : Ret shp l yX8_shortsOf cX8_shortsOf 3 (some .int) 6 [pR 0, pI d] mem (fun rv mv => ∃ z, rv = some (pI z) ∧ (∀ a, a ≠ 0 → a ≠ 8 → a ≠ 9 → a ≠ 11 → a ≠ 14 → a ≠ 15 → a ≠ 16 → mv a = mem a) ∧ (∀ j, (j < 21 ∨ 26 < j) → mv 0 j = mem 0 j) ∧ z = (lifeN (mem 1) d (life0 (cpyN mem 18 0 14 0 8 14) (mem 16)) (mem 1 2).toNat).2.2.1) := by
  refine ret_of (by decide +kernel) (Nat.le_of_ble_eq_true rfl) (fun X hX F G => ?_)
  show Ok shp X 3 0 [(0, pR 0), (1, pI d)] [] mem
  refine ok_iconst F dX8_shortsOf_0 ?_
  refine ok_istore_n (lv' := [(2, pI 0), (0, pR 0), (1, pI d)]) F dX8_shortsOf_1 (by decide) rfl ?_
  have hL_2 : ∀ (n_2 : Nat) (k : Int) (m : Mem), (0 ≤ k ∧ k ≤ 8 ∧ m = cpyN mem 18 0 14 0 k.toNat) → (8 - k).toNat = n_2 → Ok shp X 3 2 [(0, pR 0), (1, pI d), (2, pI k)] [] m := by
    intro n_2
    induction n_2 using Nat.strongRecOn with
    | _ n_2 ih_2 =>
      intro k m hI_2 hn_2
      refine ok_iload_n F dX8_shortsOf_2 2 rfl ?_
      refine ok_bipush F dX8_shortsOf_3 rfl ?_
      refine ok_icmp_ge F 26 dX8_shortsOf_5 (by decide) (by first | omega | exact hR _) (by first | omega | exact hR _) (fun c_1 => ?_) (fun c_1 => ?_)
      · have em : m = cpyN mem 18 0 14 0 8 := by rw [hI_2.2.2, show k = 8 by omega]; rfl
        have g1 : m 1 = mem 1 := by rw [em]; funext b; exact cpyN_ne (by decide)
        have gx : ∀ a, a ≠ 14 → m a = mem a := fun a ha => by rw [em]; funext b; exact cpyN_ne ha
        refine ok_aload_n F dX8_shortsOf_26 0 rfl ?_
        refine ok_iload_n F dX8_shortsOf_27 1 rfl ?_
        refine ok_callv F [pI d] dX8_shortsOf_28 kM_X8_lives kI_X8_lives kV_X8_lives kL_X8_282 (ci := 8) rfl sh_0 rfl (by decide) (Nat.le_of_ble_eq_true rfl) rfl (m_X8_lives _ d m (by omega) (by rw [g1]; exact hN) (by rw [g1]; exact hVl) (by rw [g1]; exact hN2) (by rw [g1]; exact hR) (by rw [g1]; exact hAb) (by rw [g1]; exact hG) (fun k hk => by have := hTr k hk; rw [em]; unfold cpyN; rw [if_pos (by omega), show 0 + (k - 0) = k by omega]; exact this)) ?_
        rintro _ m_3 ⟨rfl, r_4⟩
        obtain ⟨hF, hF0, nu, hL⟩ := id r_4
        rw [g1, gx 16 (by decide)] at hL
        rw [show m 14 = cpyN mem 18 0 14 0 8 14 by rw [em]] at hL
        refine ok_aload_n F dX8_shortsOf_31 0 rfl ?_
        refine ok_getf (v := m_3 0 21) F dX8_shortsOf_32 kF_X8_258 sh_0 rfl rfl ?_
        refine ok_iret F G dX8_shortsOf_35 ?_
        exact ⟨_, rfl, fun a a0 a1 a2 a3 a4 a5 a6 => by rw [hF a a0 a1 a2 a3 a4 a5 a6, gx a a4], fun j hj => by rw [hF0 j hj, gx 0 (by decide)], hL.2.2.1⟩
      · refine ok_aload_n F dX8_shortsOf_8 0 rfl ?_
        refine ok_getr F dX8_shortsOf_9 kF_X8_52 sh_0 rfl ?_
        refine ok_iload_n F dX8_shortsOf_12 2 rfl ?_
        refine ok_aload_n F dX8_shortsOf_13 0 rfl ?_
        refine ok_getr F dX8_shortsOf_14 kF_X8_65 sh_0 rfl ?_
        refine ok_iload_n F dX8_shortsOf_17 2 rfl ?_
        refine ok_iald (v := m 18 k.toNat) F dX8_shortsOf_18 sh_18 (by first | decide | assumption) (by first | omega | exact hR _) (by first | omega | exact hR _) rfl ?_
        refine ok_iast F dX8_shortsOf_19 sh_14 (by first | decide | assumption) (by first | omega | exact hR _) (by first | omega | exact hR _) (fun m_5 e_6 => ?_)
        refine ok_iinc (lv' := [(2, pI (k + 1)), (0, pR 0), (1, pI d)]) F dX8_shortsOf_20 2 rfl (by decide) rfl ?_
        refine ok_goto F 2 dX8_shortsOf_23 (by decide) ?_
        refine ok_lvp [1, 2, 0] (lv' := [(0, pR 0), (1, pI d), (2, pI (k + 1))]) rfl ?_
        refine ih_2 _ ?_ (k + 1) m_5 ?_ rfl
        · omega
        · refine ⟨by omega, by omega, ?_⟩
          rw [e_6, show (k + 1).toNat = k.toNat + 1 by omega, ← cpyN_s0 (by decide), hI_2.2.2, show 0 + k.toNat = k.toNat by omega]
  refine ok_lvp [1, 2, 0] (lv' := [(0, pR 0), (1, pI d), (2, pI 0)]) rfl ?_
  refine hL_2 _ 0 mem ?_ rfl
  exact ⟨by omega, by omega, (cpyN_0 _ _ _ _ _).symm⟩
