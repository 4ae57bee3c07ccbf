/-! the reference: the least bags for a day -/
theorem m_X8_findsBags_any (l : Launch) (q d : Int) (mem : Mem) (h1 : 1 ≤ mem 1 0) (hq : 0 ≤ q ∧ q ≤ 4) (hdi : i32 d) (hG : GR (mem 1)) (hI : ∀ b, i32 (mem 1 b)) : Ret shp l yX8_findsBags cX8_findsBags 5 (some .boolean) 14 [pR 0, pI 0, pI q, pI d] mem (fun rv mv => ∃ z, rv = some (pI z) ∧ (∀ a, a ≠ 0 → a ≠ 8 → a ≠ 9 → a ≠ 11 → a ≠ 14 → a ≠ 15 → a ≠ 16 → a ≠ 19 → mv a = mem a) ∧ (∀ j, (j < 21 ∨ 26 < j) → mv 0 j = mem 0 j) ∧ (z = if (fbR (wellB (mem 1) d) ((mem 1 0).toNat - 1) 0 q.toNat (mem 19)).1 = true then 1 else 0) ∧ mv 19 = (fbR (wellB (mem 1) d) ((mem 1 0).toNat - 1) 0 q.toNat (mem 19)).2) := by
  have g0 := hG.1
  have c : mem 1 0 = 1 ∨ mem 1 0 = 2 ∨ mem 1 0 = 3 ∨ mem 1 0 = 4 ∨ mem 1 0 = 5 ∨ mem 1 0 = 6 ∨ mem 1 0 = 7 ∨ mem 1 0 = 8 := by omega
  rcases c with c | c | c | c | c | c | c | c
  · have e : (mem 1 0).toNat - 1 = 0 := by rw [c]; rfl
    rw [e]
    exact m_X8_findsBags_0 l 14 (by omega) 0 q d mem (by omega) hq hdi hG hI (fun i hi => by omega)
  · have e : (mem 1 0).toNat - 1 = 1 := by rw [c]; rfl
    rw [e]
    exact m_X8_findsBags_1 l 14 (by omega) 0 q d mem (by omega) hq hdi hG hI (fun i hi => by omega)
  · have e : (mem 1 0).toNat - 1 = 2 := by rw [c]; rfl
    rw [e]
    exact m_X8_findsBags_2 l 14 (by omega) 0 q d mem (by omega) hq hdi hG hI (fun i hi => by omega)
  · have e : (mem 1 0).toNat - 1 = 3 := by rw [c]; rfl
    rw [e]
    exact m_X8_findsBags_3 l 14 (by omega) 0 q d mem (by omega) hq hdi hG hI (fun i hi => by omega)
  · have e : (mem 1 0).toNat - 1 = 4 := by rw [c]; rfl
    rw [e]
    exact m_X8_findsBags_4 l 14 (by omega) 0 q d mem (by omega) hq hdi hG hI (fun i hi => by omega)
  · have e : (mem 1 0).toNat - 1 = 5 := by rw [c]; rfl
    rw [e]
    exact m_X8_findsBags_5 l 14 (by omega) 0 q d mem (by omega) hq hdi hG hI (fun i hi => by omega)
  · have e : (mem 1 0).toNat - 1 = 6 := by rw [c]; rfl
    rw [e]
    exact m_X8_findsBags_6 l 14 (by omega) 0 q d mem (by omega) hq hdi hG hI (fun i hi => by omega)
  · have e : (mem 1 0).toNat - 1 = 7 := by rw [c]; rfl
    rw [e]
    exact m_X8_findsBags_7 l 14 (by omega) 0 q d mem (by omega) hq hdi hG hI (fun i hi => by omega)
theorem dX8_needs_0 : decode cX8_needs 0 = .ok (.aload_n 0, 1) := by decide +kernel
theorem dX8_needs_1 : decode cX8_needs 1 = .ok (.iload_n 1, 1) := by decide +kernel
theorem dX8_needs_2 : decode cX8_needs 2 = .ok (.invokevirtual 285, 3) := by decide +kernel
theorem dX8_needs_5 : decode cX8_needs 5 = .ok (.ifCond .eq 16, 3) := by decide +kernel
theorem dX8_needs_8 : decode cX8_needs 8 = .ok (.iload_n 2, 1) := by decide +kernel
theorem dX8_needs_9 : decode cX8_needs 9 = .ok (.iconst (-1), 1) := by decide +kernel
theorem dX8_needs_10 : decode cX8_needs 10 = .ok (.if_icmp .eq 13, 3) := by decide +kernel
theorem dX8_needs_13 : decode cX8_needs 13 = .ok (.aload_n 0, 1) := by decide +kernel
theorem dX8_needs_14 : decode cX8_needs 14 = .ok (.iload_n 2, 1) := by decide +kernel
theorem dX8_needs_15 : decode cX8_needs 15 = .ok (.invokevirtual 215, 3) := by decide +kernel
theorem dX8_needs_18 : decode cX8_needs 18 = .ok (.ifCond .ne 5, 3) := by decide +kernel
theorem dX8_needs_21 : decode cX8_needs 21 = .ok (.iconst (-1), 1) := by decide +kernel
theorem dX8_needs_22 : decode cX8_needs 22 = .ok (.ireturn, 1) := by decide +kernel
theorem dX8_needs_23 : decode cX8_needs 23 = .ok (.iconst 0, 1) := by decide +kernel
theorem dX8_needs_24 : decode cX8_needs 24 = .ok (.istore_n 3, 1) := by decide +kernel
theorem dX8_needs_25 : decode cX8_needs 25 = .ok (.iload_n 3, 1) := by decide +kernel
theorem dX8_needs_26 : decode cX8_needs 26 = .ok (.iconst 4, 1) := by decide +kernel
theorem dX8_needs_27 : decode cX8_needs 27 = .ok (.if_icmp .gt 35, 3) := by decide +kernel
theorem dX8_needs_30 : decode cX8_needs 30 = .ok (.aload_n 0, 1) := by decide +kernel
theorem dX8_needs_31 : decode cX8_needs 31 = .ok (.iconst 0, 1) := by decide +kernel
theorem dX8_needs_32 : decode cX8_needs 32 = .ok (.iload_n 3, 1) := by decide +kernel
theorem dX8_needs_33 : decode cX8_needs 33 = .ok (.iload_n 1, 1) := by decide +kernel
theorem dX8_needs_34 : decode cX8_needs 34 = .ok (.invokevirtual 346, 3) := by decide +kernel
theorem dX8_needs_37 : decode cX8_needs 37 = .ok (.ifCond .eq 19, 3) := by decide +kernel
theorem dX8_needs_40 : decode cX8_needs 40 = .ok (.iload_n 2, 1) := by decide +kernel
theorem dX8_needs_41 : decode cX8_needs 41 = .ok (.iconst (-1), 1) := by decide +kernel
theorem dX8_needs_42 : decode cX8_needs 42 = .ok (.if_icmp .ne 7, 3) := by decide +kernel
theorem dX8_needs_45 : decode cX8_needs 45 = .ok (.iload_n 3, 1) := by decide +kernel
theorem dX8_needs_46 : decode cX8_needs 46 = .ok (.goto 9, 3) := by decide +kernel
theorem dX8_needs_49 : decode cX8_needs 49 = .ok (.aload_n 0, 1) := by decide +kernel
theorem dX8_needs_50 : decode cX8_needs 50 = .ok (.getfield 68, 3) := by decide +kernel
theorem dX8_needs_53 : decode cX8_needs 53 = .ok (.iload_n 2, 1) := by decide +kernel
theorem dX8_needs_54 : decode cX8_needs 54 = .ok (.iaload, 1) := by decide +kernel
theorem dX8_needs_55 : decode cX8_needs 55 = .ok (.ireturn, 1) := by decide +kernel
theorem dX8_needs_56 : decode cX8_needs 56 = .ok (.iinc 3 1, 3) := by decide +kernel
theorem dX8_needs_59 : decode cX8_needs 59 = .ok (.goto (-34), 3) := by decide +kernel
theorem dX8_needs_62 : decode cX8_needs 62 = .ok (.bipush (-2), 2) := by decide +kernel
theorem dX8_needs_64 : decode cX8_needs 64 = .ok (.ireturn, 1) := by decide +kernel
set_option maxHeartbeats 4000000 in
set_option maxRecDepth 100000 in
theorem m_X8_needs (l : Launch) (d : Int) (k : Int) (mem : Mem) (hdi : i32 d) (hki : i32 k) (hG : GR (mem 1)) (hI : ∀ b, i32 (mem 1 b)) (hK : 1 ≤ mem 1 1 → 1 ≤ mem 1 0) : Ret shp l yX8_needs cX8_needs 4 (some .int) 15 [pR 0, pI d, pI k] mem (fun rv mv => ∃ z, rv = some (pI z) ∧ (∀ a, a ≠ 0 → a ≠ 8 → a ≠ 9 → a ≠ 11 → a ≠ 14 → a ≠ 15 → a ≠ 16 → a ≠ 19 → mv a = mem a) ∧ (∀ j, (j < 21 ∨ 26 < j) → mv 0 j = mem 0 j) ∧ z = if (0 ≤ d ∧ d < mem 1 1) ∧ (k = -1 ∨ 0 ≤ k ∧ k < mem 1 0) then (if (neLoop (fun b r => fbR (wellB (mem 1) d) ((mem 1 0).toNat - 1) 0 b r) 5 0 (mem 19)).1 = -2 then -2 else if k = -1 then (neLoop (fun b r => fbR (wellB (mem 1) d) ((mem 1 0).toNat - 1) 0 b r) 5 0 (mem 19)).1 else (neLoop (fun b r => fbR (wellB (mem 1) d) ((mem 1 0).toNat - 1) 0 b r) 5 0 (mem 19)).2 k.toNat) else -1) := by
  refine ret_of (by decide +kernel) (Nat.le_of_ble_eq_true rfl) (fun X hX F G => ?_)
  show Ok shp X 4 0 [(0, pR 0), (1, pI d), (2, pI k)] [] mem
  have g0 := hG.1
  have g1 := hG.2.1
  refine ok_aload_n F dX8_needs_0 0 rfl ?_
  refine ok_iload_n F dX8_needs_1 1 rfl ?_
  refine ok_callv F [pI d] dX8_needs_2 kM_X8_isDay kI_X8_isDay kV_X8_isDay kL_X8_285 (ci := 8) rfl sh_0 rfl (by decide) (Nat.le_of_ble_eq_true rfl) rfl (m_X8_isDay _ d mem (by omega) (g1)) ?_
  rintro _ _ ⟨rfl, rfl⟩
  refine ok_if_eq F 21 dX8_needs_5 (by decide) (by first | omega | exact hI _) (fun c_1 => ?_) (fun c_1 => ?_)
  · refine ok_iconst F dX8_needs_21 ?_
    refine ok_iret F G dX8_needs_22 ?_
    exact ⟨_, rfl, fun _ _ _ _ _ _ _ _ _ => rfl, fun _ _ => rfl, by rw [if_neg (by omega)]⟩
  · refine ok_iload_n F dX8_needs_8 2 rfl ?_
    refine ok_iconst F dX8_needs_9 ?_
    refine ok_icmp_eq F 23 dX8_needs_10 (by decide) (by first | omega | exact hI _) (by first | omega | exact hI _) (fun c_2 => ?_) (fun c_2 => ?_)
    · refine ok_iconst F dX8_needs_23 ?_
      refine ok_istore_n (lv' := [(3, pI 0), (0, pR 0), (1, pI d), (2, pI k)]) F dX8_needs_24 (by decide) rfl ?_
      have hL_25 : ∀ (n_25 : Nat) (n : Int) (m : Mem), (0 ≤ n ∧ n ≤ 5 ∧ (∀ a, a ≠ 0 → a ≠ 8 → a ≠ 9 → a ≠ 11 → a ≠ 14 → a ≠ 15 → a ≠ 16 → a ≠ 19 → m a = mem a) ∧ (∀ j, (j < 21 ∨ 26 < j) → m 0 j = mem 0 j) ∧ neLoop (fun b r => fbR (wellB (mem 1) d) ((mem 1 0).toNat - 1) 0 b r) 5 0 (mem 19) = neLoop (fun b r => fbR (wellB (mem 1) d) ((mem 1 0).toNat - 1) 0 b r) (5 - n).toNat n.toNat (m 19)) → (5 - n).toNat = n_25 → Ok shp X 4 25 [(0, pR 0), (1, pI d), (2, pI k), (3, pI n)] [] m := by
        intro n_25
        induction n_25 using Nat.strongRecOn with
        | _ n_25 ih_25 =>
          intro n m hI_25 hn_25
          obtain ⟨hn0, hn1, hF, hF0, hR⟩ := hI_25
          have e1 : m 1 = mem 1 := hF 1 (by decide) (by decide) (by decide) (by decide) (by decide) (by decide) (by decide) (by decide)
          refine ok_iload_n F dX8_needs_25 3 rfl ?_
          refine ok_iconst F dX8_needs_26 ?_
          refine ok_icmp_gt F 62 dX8_needs_27 (by decide) (by first | omega | exact hI _) (by first | omega | exact hI _) (fun c_3 => ?_) (fun c_3 => ?_)
          · refine ok_bipush F dX8_needs_62 rfl ?_
            refine ok_iret F G dX8_needs_64 ?_
            refine ⟨_, rfl, hF, hF0, ?_⟩
            rw [if_pos (by omega), hR, show (5 - n).toNat = 0 by omega]
            rfl
          · refine ok_aload_n F dX8_needs_30 0 rfl ?_
            refine ok_iconst F dX8_needs_31 ?_
            refine ok_iload_n F dX8_needs_32 3 rfl ?_
            refine ok_iload_n F dX8_needs_33 1 rfl ?_
            refine ok_callv F [pI 0, pI n, pI d] dX8_needs_34 kM_X8_findsBags kI_X8_findsBags kV_X8_findsBags kL_X8_346 (ci := 8) rfl sh_0 rfl (by decide) (Nat.le_of_ble_eq_true rfl) rfl (m_X8_findsBags_any _ n d m (by rw [e1]; exact hK (by omega)) (by omega) (hdi) (by rw [e1]; exact hG) (by rw [e1]; exact hI)) ?_
            rintro _ m_5 ⟨z_4, rfl, r_6⟩
            obtain ⟨r1, r2, r3, r4⟩ := id r_6
            rw [e1] at r3 r4
            refine ok_if_eq F 56 dX8_needs_37 (by decide) (by first | omega | exact hI _) (fun c_7 => ?_) (fun c_7 => ?_)
            · refine ok_iinc (lv' := [(3, pI (n + 1)), (0, pR 0), (1, pI d), (2, pI k)]) F dX8_needs_56 3 rfl (by decide) rfl ?_
              refine ok_goto F 25 dX8_needs_59 (by decide) ?_
              refine ok_lvp [1, 2, 3, 0] (lv' := [(0, pR 0), (1, pI d), (2, pI k), (3, pI (n + 1))]) rfl ?_
              refine ih_25 _ ?_ (n + 1) m_5 ?_ rfl
              · omega
              · have hn2 : ¬ (fbR (wellB (mem 1) d) ((mem 1 0).toNat - 1) 0 n.toNat (m 19)).1 = true := fun y => by rw [if_pos y] at r3; omega
                refine ⟨by omega, by omega, fun a c0 c1 c2 c3 c4 c5 c6 c7 => by rw [r1 a c0 c1 c2 c3 c4 c5 c6 c7]; exact hF a c0 c1 c2 c3 c4 c5 c6 c7, fun j hj => by rw [r2 j hj]; exact hF0 j hj, ?_⟩
                rw [hR, show (5 - n).toNat = (5 - (n + 1)).toNat + 1 by omega, neLoop_s, if_neg hn2, show (n + 1).toNat = n.toNat + 1 by omega, r4]
            · refine ok_iload_n F dX8_needs_40 2 rfl ?_
              refine ok_iconst F dX8_needs_41 ?_
              refine ok_icmp_ne F 49 dX8_needs_42 (by decide) (by first | omega | exact hI _) (by first | omega | exact hI _) (fun c_8 => ?_) (fun c_8 => ?_)
              · refine ok_aload_n F dX8_needs_49 0 rfl ?_
                refine ok_getr F dX8_needs_50 kF_X8_68 sh_0 rfl ?_
                refine ok_iload_n F dX8_needs_53 2 rfl ?_
                refine ok_iald (v := m_5 19 k.toNat) F dX8_needs_54 sh_19 (by first | decide | assumption) (by first | omega | exact hI _) (by first | omega | exact hI _) rfl ?_
                refine ok_iret F G dX8_needs_55 ?_
                have hy : (fbR (wellB (mem 1) d) ((mem 1 0).toNat - 1) 0 n.toNat (m 19)).1 = true := by
                  by_cases y : (fbR (wellB (mem 1) d) ((mem 1 0).toNat - 1) 0 n.toNat (m 19)).1 = true
                  · exact y
                  · rw [if_neg y] at r3; omega
                have hne : neLoop (fun b r => fbR (wellB (mem 1) d) ((mem 1 0).toNat - 1) 0 b r) 5 0 (mem 19) = ((n.toNat : Int), (fbR (wellB (mem 1) d) ((mem 1 0).toNat - 1) 0 n.toNat (m 19)).2) := by rw [hR, show (5 - n).toNat = (5 - (n + 1)).toNat + 1 by omega, neLoop_s, if_pos hy]
                refine ⟨_, rfl, fun a c0 c1 c2 c3 c4 c5 c6 c7 => by rw [r1 a c0 c1 c2 c3 c4 c5 c6 c7]; exact hF a c0 c1 c2 c3 c4 c5 c6 c7, fun j hj => by rw [r2 j hj]; exact hF0 j hj, ?_⟩
                rw [if_pos (by omega), hne, if_neg (by show ¬ ((n.toNat : Int) = -2); omega)]
                first
                  | (rw [if_pos (by omega)]; show n = ((n.toNat : Nat) : Int); omega)
                  | (rw [if_neg (by omega), r4]; done)
              · refine ok_iload_n F dX8_needs_45 3 rfl ?_
                refine ok_goto F 55 dX8_needs_46 (by decide) ?_
                refine ok_iret F G dX8_needs_55 ?_
                have hy : (fbR (wellB (mem 1) d) ((mem 1 0).toNat - 1) 0 n.toNat (m 19)).1 = true := by
                  by_cases y : (fbR (wellB (mem 1) d) ((mem 1 0).toNat - 1) 0 n.toNat (m 19)).1 = true
                  · exact y
                  · rw [if_neg y] at r3; omega
                have hne : neLoop (fun b r => fbR (wellB (mem 1) d) ((mem 1 0).toNat - 1) 0 b r) 5 0 (mem 19) = ((n.toNat : Int), (fbR (wellB (mem 1) d) ((mem 1 0).toNat - 1) 0 n.toNat (m 19)).2) := by rw [hR, show (5 - n).toNat = (5 - (n + 1)).toNat + 1 by omega, neLoop_s, if_pos hy]
                refine ⟨_, rfl, fun a c0 c1 c2 c3 c4 c5 c6 c7 => by rw [r1 a c0 c1 c2 c3 c4 c5 c6 c7]; exact hF a c0 c1 c2 c3 c4 c5 c6 c7, fun j hj => by rw [r2 j hj]; exact hF0 j hj, ?_⟩
                rw [if_pos (by omega), hne, if_neg (by show ¬ ((n.toNat : Int) = -2); omega)]
                first
                  | (rw [if_pos (by omega)]; show n = ((n.toNat : Nat) : Int); omega)
                  | (rw [if_neg (by omega), r4]; done)
      refine ok_lvp [1, 2, 3, 0] (lv' := [(0, pR 0), (1, pI d), (2, pI k), (3, pI 0)]) rfl ?_
      refine hL_25 _ 0 mem ?_ rfl
      exact ⟨by omega, by omega, fun _ _ _ _ _ _ _ _ _ => rfl, fun _ _ => rfl, rfl⟩
    · refine ok_aload_n F dX8_needs_13 0 rfl ?_
      refine ok_iload_n F dX8_needs_14 2 rfl ?_
      refine ok_callv F [pI k] dX8_needs_15 kM_X8_isKind kI_X8_isKind kV_X8_isKind kL_X8_215 (ci := 8) rfl sh_0 rfl (by decide) (Nat.le_of_ble_eq_true rfl) rfl (m_X8_isKind _ k mem (by omega) (g0)) ?_
      rintro _ _ ⟨rfl, rfl⟩
      refine ok_if_ne F 23 dX8_needs_18 (by decide) (by first | omega | exact hI _) (fun c_9 => ?_) (fun c_9 => ?_)
      · refine ok_iconst F dX8_needs_23 ?_
        refine ok_istore_n (lv' := [(3, pI 0), (0, pR 0), (1, pI d), (2, pI k)]) F dX8_needs_24 (by decide) rfl ?_
        have hL_25 : ∀ (n_25 : Nat) (n : Int) (m : Mem), (0 ≤ n ∧ n ≤ 5 ∧ (∀ a, a ≠ 0 → a ≠ 8 → a ≠ 9 → a ≠ 11 → a ≠ 14 → a ≠ 15 → a ≠ 16 → a ≠ 19 → m a = mem a) ∧ (∀ j, (j < 21 ∨ 26 < j) → m 0 j = mem 0 j) ∧ neLoop (fun b r => fbR (wellB (mem 1) d) ((mem 1 0).toNat - 1) 0 b r) 5 0 (mem 19) = neLoop (fun b r => fbR (wellB (mem 1) d) ((mem 1 0).toNat - 1) 0 b r) (5 - n).toNat n.toNat (m 19)) → (5 - n).toNat = n_25 → Ok shp X 4 25 [(0, pR 0), (1, pI d), (2, pI k), (3, pI n)] [] m := by
          intro n_25
          induction n_25 using Nat.strongRecOn with
          | _ n_25 ih_25 =>
            intro n m hI_25 hn_25
            obtain ⟨hn0, hn1, hF, hF0, hR⟩ := hI_25
            have e1 : m 1 = mem 1 := hF 1 (by decide) (by decide) (by decide) (by decide) (by decide) (by decide) (by decide) (by decide)
            refine ok_iload_n F dX8_needs_25 3 rfl ?_
            refine ok_iconst F dX8_needs_26 ?_
            refine ok_icmp_gt F 62 dX8_needs_27 (by decide) (by first | omega | exact hI _) (by first | omega | exact hI _) (fun c_10 => ?_) (fun c_10 => ?_)
            · refine ok_bipush F dX8_needs_62 rfl ?_
              refine ok_iret F G dX8_needs_64 ?_
              refine ⟨_, rfl, hF, hF0, ?_⟩
              rw [if_pos (by omega), hR, show (5 - n).toNat = 0 by omega]
              rfl
            · refine ok_aload_n F dX8_needs_30 0 rfl ?_
              refine ok_iconst F dX8_needs_31 ?_
              refine ok_iload_n F dX8_needs_32 3 rfl ?_
              refine ok_iload_n F dX8_needs_33 1 rfl ?_
              refine ok_callv F [pI 0, pI n, pI d] dX8_needs_34 kM_X8_findsBags kI_X8_findsBags kV_X8_findsBags kL_X8_346 (ci := 8) rfl sh_0 rfl (by decide) (Nat.le_of_ble_eq_true rfl) rfl (m_X8_findsBags_any _ n d m (by rw [e1]; exact hK (by omega)) (by omega) (hdi) (by rw [e1]; exact hG) (by rw [e1]; exact hI)) ?_
              rintro _ m_12 ⟨z_11, rfl, r_13⟩
              obtain ⟨r1, r2, r3, r4⟩ := id r_13
              rw [e1] at r3 r4
              refine ok_if_eq F 56 dX8_needs_37 (by decide) (by first | omega | exact hI _) (fun c_14 => ?_) (fun c_14 => ?_)
              · refine ok_iinc (lv' := [(3, pI (n + 1)), (0, pR 0), (1, pI d), (2, pI k)]) F dX8_needs_56 3 rfl (by decide) rfl ?_
                refine ok_goto F 25 dX8_needs_59 (by decide) ?_
                refine ok_lvp [1, 2, 3, 0] (lv' := [(0, pR 0), (1, pI d), (2, pI k), (3, pI (n + 1))]) rfl ?_
                refine ih_25 _ ?_ (n + 1) m_12 ?_ rfl
                · omega
                · have hn2 : ¬ (fbR (wellB (mem 1) d) ((mem 1 0).toNat - 1) 0 n.toNat (m 19)).1 = true := fun y => by rw [if_pos y] at r3; omega
                  refine ⟨by omega, by omega, fun a c0 c1 c2 c3 c4 c5 c6 c7 => by rw [r1 a c0 c1 c2 c3 c4 c5 c6 c7]; exact hF a c0 c1 c2 c3 c4 c5 c6 c7, fun j hj => by rw [r2 j hj]; exact hF0 j hj, ?_⟩
                  rw [hR, show (5 - n).toNat = (5 - (n + 1)).toNat + 1 by omega, neLoop_s, if_neg hn2, show (n + 1).toNat = n.toNat + 1 by omega, r4]
              · refine ok_iload_n F dX8_needs_40 2 rfl ?_
                refine ok_iconst F dX8_needs_41 ?_
                refine ok_icmp_ne F 49 dX8_needs_42 (by decide) (by first | omega | exact hI _) (by first | omega | exact hI _) (fun c_15 => ?_) (fun c_15 => ?_)
                · refine ok_aload_n F dX8_needs_49 0 rfl ?_
                  refine ok_getr F dX8_needs_50 kF_X8_68 sh_0 rfl ?_
                  refine ok_iload_n F dX8_needs_53 2 rfl ?_
                  refine ok_iald (v := m_12 19 k.toNat) F dX8_needs_54 sh_19 (by first | decide | assumption) (by first | omega | exact hI _) (by first | omega | exact hI _) rfl ?_
                  refine ok_iret F G dX8_needs_55 ?_
                  have hy : (fbR (wellB (mem 1) d) ((mem 1 0).toNat - 1) 0 n.toNat (m 19)).1 = true := by
                    by_cases y : (fbR (wellB (mem 1) d) ((mem 1 0).toNat - 1) 0 n.toNat (m 19)).1 = true
                    · exact y
                    · rw [if_neg y] at r3; omega
                  have hne : neLoop (fun b r => fbR (wellB (mem 1) d) ((mem 1 0).toNat - 1) 0 b r) 5 0 (mem 19) = ((n.toNat : Int), (fbR (wellB (mem 1) d) ((mem 1 0).toNat - 1) 0 n.toNat (m 19)).2) := by rw [hR, show (5 - n).toNat = (5 - (n + 1)).toNat + 1 by omega, neLoop_s, if_pos hy]
                  refine ⟨_, rfl, fun a c0 c1 c2 c3 c4 c5 c6 c7 => by rw [r1 a c0 c1 c2 c3 c4 c5 c6 c7]; exact hF a c0 c1 c2 c3 c4 c5 c6 c7, fun j hj => by rw [r2 j hj]; exact hF0 j hj, ?_⟩
                  rw [if_pos (by omega), hne, if_neg (by show ¬ ((n.toNat : Int) = -2); omega)]
                  first
                    | (rw [if_pos (by omega)]; show n = ((n.toNat : Nat) : Int); omega)
                    | (rw [if_neg (by omega), r4]; done)
                · refine ok_iload_n F dX8_needs_45 3 rfl ?_
                  refine ok_goto F 55 dX8_needs_46 (by decide) ?_
                  refine ok_iret F G dX8_needs_55 ?_
                  have hy : (fbR (wellB (mem 1) d) ((mem 1 0).toNat - 1) 0 n.toNat (m 19)).1 = true := by
                    by_cases y : (fbR (wellB (mem 1) d) ((mem 1 0).toNat - 1) 0 n.toNat (m 19)).1 = true
                    · exact y
                    · rw [if_neg y] at r3; omega
                  have hne : neLoop (fun b r => fbR (wellB (mem 1) d) ((mem 1 0).toNat - 1) 0 b r) 5 0 (mem 19) = ((n.toNat : Int), (fbR (wellB (mem 1) d) ((mem 1 0).toNat - 1) 0 n.toNat (m 19)).2) := by rw [hR, show (5 - n).toNat = (5 - (n + 1)).toNat + 1 by omega, neLoop_s, if_pos hy]
                  refine ⟨_, rfl, fun a c0 c1 c2 c3 c4 c5 c6 c7 => by rw [r1 a c0 c1 c2 c3 c4 c5 c6 c7]; exact hF a c0 c1 c2 c3 c4 c5 c6 c7, fun j hj => by rw [r2 j hj]; exact hF0 j hj, ?_⟩
                  rw [if_pos (by omega), hne, if_neg (by show ¬ ((n.toNat : Int) = -2); omega)]
                  first
                    | (rw [if_pos (by omega)]; show n = ((n.toNat : Nat) : Int); omega)
                    | (rw [if_neg (by omega), r4]; done)
        refine ok_lvp [1, 2, 3, 0] (lv' := [(0, pR 0), (1, pI d), (2, pI k), (3, pI 0)]) rfl ?_
        refine hL_25 _ 0 mem ?_ rfl
        exact ⟨by omega, by omega, fun _ _ _ _ _ _ _ _ _ => rfl, fun _ _ => rfl, rfl⟩
      · refine ok_iconst F dX8_needs_21 ?_
        refine ok_iret F G dX8_needs_22 ?_
        exact ⟨_, rfl, fun _ _ _ _ _ _ _ _ _ => rfl, fun _ _ => rfl, by rw [if_neg (by omega)]⟩
