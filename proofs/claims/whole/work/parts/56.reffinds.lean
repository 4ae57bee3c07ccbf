/-! the reference: what bags a day needs -/
theorem dX8_findsBags_0 : decode cX8_findsBags 0 = .ok (.iload_n 1, 1) := by decide +kernel
theorem dX8_findsBags_1 : decode cX8_findsBags 1 = .ok (.aload_n 0, 1) := by decide +kernel
theorem dX8_findsBags_2 : decode cX8_findsBags 2 = .ok (.getfield 9, 3) := by decide +kernel
theorem dX8_findsBags_5 : decode cX8_findsBags 5 = .ok (.iconst 0, 1) := by decide +kernel
theorem dX8_findsBags_6 : decode cX8_findsBags 6 = .ok (.iaload, 1) := by decide +kernel
theorem dX8_findsBags_7 : decode cX8_findsBags 7 = .ok (.iconst 1, 1) := by decide +kernel
theorem dX8_findsBags_8 : decode cX8_findsBags 8 = .ok (.isub, 1) := by decide +kernel
theorem dX8_findsBags_9 : decode cX8_findsBags 9 = .ok (.if_icmp .ne 16, 3) := by decide +kernel
theorem dX8_findsBags_12 : decode cX8_findsBags 12 = .ok (.aload_n 0, 1) := by decide +kernel
theorem dX8_findsBags_13 : decode cX8_findsBags 13 = .ok (.getfield 68, 3) := by decide +kernel
theorem dX8_findsBags_16 : decode cX8_findsBags 16 = .ok (.iload_n 1, 1) := by decide +kernel
theorem dX8_findsBags_17 : decode cX8_findsBags 17 = .ok (.iload_n 2, 1) := by decide +kernel
theorem dX8_findsBags_18 : decode cX8_findsBags 18 = .ok (.iastore, 1) := by decide +kernel
theorem dX8_findsBags_19 : decode cX8_findsBags 19 = .ok (.aload_n 0, 1) := by decide +kernel
theorem dX8_findsBags_20 : decode cX8_findsBags 20 = .ok (.iload_n 3, 1) := by decide +kernel
theorem dX8_findsBags_21 : decode cX8_findsBags 21 = .ok (.invokevirtual 343, 3) := by decide +kernel
theorem dX8_findsBags_24 : decode cX8_findsBags 24 = .ok (.ireturn, 1) := by decide +kernel
set_option maxHeartbeats 4000000 in
set_option maxRecDepth 100000 in
theorem m_X8_findsBags_0 (l : Launch) (D : Nat) (hD : 7 ≤ D) (k : Int) (q : Int) (d : Int) (mem : Mem) (hk : 0 ≤ k ∧ k + 0 = mem 1 0 - 1) (hq : 0 ≤ q ∧ q ≤ 4) (hdi : i32 d) (hG : GR (mem 1)) (hI : ∀ b, i32 (mem 1 b)) (hB : ∀ i : Nat, (i : Int) < k → 0 ≤ mem 19 i ∧ mem 19 i ≤ 4) : Ret shp l yX8_findsBags cX8_findsBags 5 (some .boolean) D [pR 0, pI k, pI q, pI d] mem (fun rv mv => ∃ z, rv = some (pI z) ∧ (∀ a, a ≠ 0 → a ≠ 8 → a ≠ 9 → a ≠ 11 → a ≠ 14 → a ≠ 15 → a ≠ 16 → a ≠ 19 → mv a = mem a) ∧ (∀ j, (j < 21 ∨ 26 < j) → mv 0 j = mem 0 j) ∧ (z = if (fbR (wellB (mem 1) d) 0 k.toNat q.toNat (mem 19)).1 = true then 1 else 0) ∧ mv 19 = (fbR (wellB (mem 1) d) 0 k.toNat q.toNat (mem 19)).2) := by
  refine ret_of (by decide +kernel) (Nat.le_of_ble_eq_true rfl) (fun X hX F G => ?_)
  show Ok shp X 5 0 [(0, pR 0), (1, pI k), (2, pI q), (3, pI d)] [] mem
  have g0 := hG.1
  refine ok_iload_n F dX8_findsBags_0 1 rfl ?_
  refine ok_aload_n F dX8_findsBags_1 0 rfl ?_
  refine ok_getr F dX8_findsBags_2 kF_X8_9 sh_0 rfl ?_
  refine ok_iconst F dX8_findsBags_5 ?_
  refine ok_iald (v := mem 1 0) F dX8_findsBags_6 sh_1 (by first | decide | assumption) (by first | omega | exact hI _) (by first | omega | exact hI _) rfl ?_
  refine ok_iconst F dX8_findsBags_7 ?_
  refine ok_isub F dX8_findsBags_8 ?_
  refine ok_icmp_ne F 25 dX8_findsBags_9 (by decide) (by first | omega | exact hI _) (by first | omega | exact hI _) (fun c_1 => ?_) (fun c_1 => ?_)
  · exfalso; omega
  · refine ok_aload_n F dX8_findsBags_12 0 rfl ?_
    refine ok_getr F dX8_findsBags_13 kF_X8_68 sh_0 rfl ?_
    refine ok_iload_n F dX8_findsBags_16 1 rfl ?_
    refine ok_iload_n F dX8_findsBags_17 2 rfl ?_
    refine ok_iast F dX8_findsBags_18 sh_19 (by first | decide | assumption) (by first | omega | exact hI _) (by first | omega | exact hI _) (fun m_2 e_3 => ?_)
    have e1 : m_2 1 = mem 1 := by rw [e_3]; exact mset_nka (by decide)
    have e19 : m_2 19 = rput (mem 19) k.toNat q := by rw [e_3]; exact mset_row _ _ _ _
    have eo : ∀ a, a ≠ 19 → m_2 a = mem a := fun a ha => by rw [e_3]; exact mset_nka ha
    refine ok_aload_n F dX8_findsBags_19 0 rfl ?_
    refine ok_iload_n F dX8_findsBags_20 3 rfl ?_
    refine ok_callv F [pI d] dX8_findsBags_21 kM_X8_goesWell kI_X8_goesWell kV_X8_goesWell kL_X8_343 (ci := 8) rfl sh_0 rfl (by omega) (Nat.le_of_ble_eq_true rfl) rfl (m_X8_goesWell _ d m_2 (hdi) (by rw [e1]; exact hG) (by rw [e1]; exact hI) (by rw [e1, e19]; exact fun i hi => by unfold rput; by_cases y : i = k.toNat; (rw [if_pos y]; exact hq); (rw [if_neg y]; exact hB i (by omega)))) ?_
    rintro _ m_5 ⟨z_4, rfl, r_6⟩
    obtain ⟨r1, r2, r3⟩ := id r_6
    rw [e1, e19] at r3
    refine ok_zret F G dX8_findsBags_24 (by rw [r3]; exact zb_nar) ?_
    have eq2 : rput (mem 19) k.toNat q = rput (mem 19) k.toNat ((q.toNat : Nat) : Int) := by rw [show ((q.toNat : Nat) : Int) = q by omega]
    rw [eq2] at r3
    refine ⟨_, rfl, fun a c0 c1 c2 c3 c4 c5 c6 c7 => by rw [r1 a c0 c1 c2 c3 c4 c5 c6]; exact eo a c7, fun j hj => by rw [r2 j hj, eo 0 (by decide)], r3, ?_⟩
    rw [r1 19 (by decide) (by decide) (by decide) (by decide) (by decide) (by decide) (by decide), e19]
    exact eq2
theorem dX8_findsBags_25 : decode cX8_findsBags 25 = .ok (.iconst 0, 1) := by decide +kernel
theorem dX8_findsBags_26 : decode cX8_findsBags 26 = .ok (.istore 4, 2) := by decide +kernel
theorem dX8_findsBags_28 : decode cX8_findsBags 28 = .ok (.iload 4, 2) := by decide +kernel
theorem dX8_findsBags_30 : decode cX8_findsBags 30 = .ok (.iload_n 2, 1) := by decide +kernel
theorem dX8_findsBags_31 : decode cX8_findsBags 31 = .ok (.if_icmp .gt 34, 3) := by decide +kernel
theorem dX8_findsBags_34 : decode cX8_findsBags 34 = .ok (.aload_n 0, 1) := by decide +kernel
theorem dX8_findsBags_35 : decode cX8_findsBags 35 = .ok (.getfield 68, 3) := by decide +kernel
theorem dX8_findsBags_38 : decode cX8_findsBags 38 = .ok (.iload_n 1, 1) := by decide +kernel
theorem dX8_findsBags_39 : decode cX8_findsBags 39 = .ok (.iload 4, 2) := by decide +kernel
theorem dX8_findsBags_41 : decode cX8_findsBags 41 = .ok (.iastore, 1) := by decide +kernel
theorem dX8_findsBags_42 : decode cX8_findsBags 42 = .ok (.aload_n 0, 1) := by decide +kernel
theorem dX8_findsBags_43 : decode cX8_findsBags 43 = .ok (.iload_n 1, 1) := by decide +kernel
theorem dX8_findsBags_44 : decode cX8_findsBags 44 = .ok (.iconst 1, 1) := by decide +kernel
theorem dX8_findsBags_45 : decode cX8_findsBags 45 = .ok (.iadd, 1) := by decide +kernel
theorem dX8_findsBags_46 : decode cX8_findsBags 46 = .ok (.iload_n 2, 1) := by decide +kernel
theorem dX8_findsBags_47 : decode cX8_findsBags 47 = .ok (.iload 4, 2) := by decide +kernel
theorem dX8_findsBags_49 : decode cX8_findsBags 49 = .ok (.isub, 1) := by decide +kernel
theorem dX8_findsBags_50 : decode cX8_findsBags 50 = .ok (.iload_n 3, 1) := by decide +kernel
theorem dX8_findsBags_51 : decode cX8_findsBags 51 = .ok (.invokevirtual 346, 3) := by decide +kernel
theorem dX8_findsBags_54 : decode cX8_findsBags 54 = .ok (.ifCond .eq 5, 3) := by decide +kernel
theorem dX8_findsBags_57 : decode cX8_findsBags 57 = .ok (.iconst 1, 1) := by decide +kernel
theorem dX8_findsBags_58 : decode cX8_findsBags 58 = .ok (.ireturn, 1) := by decide +kernel
theorem dX8_findsBags_59 : decode cX8_findsBags 59 = .ok (.iinc 4 1, 3) := by decide +kernel
theorem dX8_findsBags_62 : decode cX8_findsBags 62 = .ok (.goto (-34), 3) := by decide +kernel
theorem dX8_findsBags_65 : decode cX8_findsBags 65 = .ok (.iconst 0, 1) := by decide +kernel
theorem dX8_findsBags_66 : decode cX8_findsBags 66 = .ok (.ireturn, 1) := by decide +kernel
set_option maxHeartbeats 4000000 in
set_option maxRecDepth 100000 in
theorem m_X8_findsBags_1 (l : Launch) (D : Nat) (hD : 8 ≤ D) (k : Int) (q : Int) (d : Int) (mem : Mem) (hk : 0 ≤ k ∧ k + 1 = mem 1 0 - 1) (hq : 0 ≤ q ∧ q ≤ 4) (hdi : i32 d) (hG : GR (mem 1)) (hI : ∀ b, i32 (mem 1 b)) (hB : ∀ i : Nat, (i : Int) < k → 0 ≤ mem 19 i ∧ mem 19 i ≤ 4) : Ret shp l yX8_findsBags cX8_findsBags 5 (some .boolean) D [pR 0, pI k, pI q, pI d] mem (fun rv mv => ∃ z, rv = some (pI z) ∧ (∀ a, a ≠ 0 → a ≠ 8 → a ≠ 9 → a ≠ 11 → a ≠ 14 → a ≠ 15 → a ≠ 16 → a ≠ 19 → mv a = mem a) ∧ (∀ j, (j < 21 ∨ 26 < j) → mv 0 j = mem 0 j) ∧ (z = if (fbR (wellB (mem 1) d) 1 k.toNat q.toNat (mem 19)).1 = true then 1 else 0) ∧ mv 19 = (fbR (wellB (mem 1) d) 1 k.toNat q.toNat (mem 19)).2) := by
  refine ret_of (by decide +kernel) (Nat.le_of_ble_eq_true rfl) (fun X hX F G => ?_)
  show Ok shp X 5 0 [(0, pR 0), (1, pI k), (2, pI q), (3, pI d)] [] mem
  have g0 := hG.1
  refine ok_iload_n F dX8_findsBags_0 1 rfl ?_
  refine ok_aload_n F dX8_findsBags_1 0 rfl ?_
  refine ok_getr F dX8_findsBags_2 kF_X8_9 sh_0 rfl ?_
  refine ok_iconst F dX8_findsBags_5 ?_
  refine ok_iald (v := mem 1 0) F dX8_findsBags_6 sh_1 (by first | decide | assumption) (by first | omega | exact hI _) (by first | omega | exact hI _) rfl ?_
  refine ok_iconst F dX8_findsBags_7 ?_
  refine ok_isub F dX8_findsBags_8 ?_
  refine ok_icmp_ne F 25 dX8_findsBags_9 (by decide) (by first | omega | exact hI _) (by first | omega | exact hI _) (fun c_1 => ?_) (fun c_1 => ?_)
  · refine ok_iconst F dX8_findsBags_25 ?_
    refine ok_istore (lv' := [(4, pI 0), (0, pR 0), (1, pI k), (2, pI q), (3, pI d)]) F dX8_findsBags_26 (by decide) rfl ?_
    have hL_28 : ∀ (n_28 : Nat) (b : Int) (m : Mem), (0 ≤ b ∧ b ≤ q + 1 ∧ (∀ a, a ≠ 0 → a ≠ 8 → a ≠ 9 → a ≠ 11 → a ≠ 14 → a ≠ 15 → a ≠ 16 → a ≠ 19 → m a = mem a) ∧ (∀ j, (j < 21 ∨ 26 < j) → m 0 j = mem 0 j) ∧ (∀ i : Nat, (i : Int) < k → m 19 i = mem 19 i) ∧ fbR (wellB (mem 1) d) 1 k.toNat q.toNat (mem 19) = fbLoop (fun b r => fbR (wellB (mem 1) d) 0 (k.toNat + 1) (q.toNat - b) (rput r k.toNat (b : Int))) (q + 1 - b).toNat b.toNat (m 19)) → (q + 1 - b).toNat = n_28 → Ok shp X 5 28 [(0, pR 0), (1, pI k), (2, pI q), (3, pI d), (4, pI b)] [] m := by
      intro n_28
      induction n_28 using Nat.strongRecOn with
      | _ n_28 ih_28 =>
        intro b m hI_28 hn_28
        obtain ⟨hb0, hb1, hF, hF0, hlo, hR⟩ := hI_28
        have h1 : m 1 = mem 1 := hF 1 (by decide) (by decide) (by decide) (by decide) (by decide) (by decide) (by decide) (by decide)
        refine ok_iload F dX8_findsBags_28 4 rfl ?_
        refine ok_iload_n F dX8_findsBags_30 2 rfl ?_
        refine ok_icmp_gt F 65 dX8_findsBags_31 (by decide) (by first | omega | exact hI _) (by first | omega | exact hI _) (fun c_2 => ?_) (fun c_2 => ?_)
        · refine ok_iconst F dX8_findsBags_65 ?_
          refine ok_zret F G dX8_findsBags_66 (by first | rfl | exact zb_nar) ?_
          refine ⟨_, rfl, hF, hF0, ?_, ?_⟩
          · rw [hR, show (q + 1 - b).toNat = 0 by omega]; rfl
          · rw [hR, show (q + 1 - b).toNat = 0 by omega]; rfl
        · refine ok_aload_n F dX8_findsBags_34 0 rfl ?_
          refine ok_getr F dX8_findsBags_35 kF_X8_68 sh_0 rfl ?_
          refine ok_iload_n F dX8_findsBags_38 1 rfl ?_
          refine ok_iload F dX8_findsBags_39 4 rfl ?_
          refine ok_iast F dX8_findsBags_41 sh_19 (by first | decide | assumption) (by first | omega | exact hI _) (by first | omega | exact hI _) (fun m_3 e_4 => ?_)
          have e1 : m_3 1 = mem 1 := by rw [e_4, mset_nka (by decide)]; exact h1
          have e19 : m_3 19 = rput (m 19) k.toNat b := by rw [e_4]; exact mset_row _ _ _ _
          have eo : ∀ a, a ≠ 19 → m_3 a = m a := fun a ha => by rw [e_4]; exact mset_nka ha
          refine ok_aload_n F dX8_findsBags_42 0 rfl ?_
          refine ok_iload_n F dX8_findsBags_43 1 rfl ?_
          refine ok_iconst F dX8_findsBags_44 ?_
          refine ok_iadd F dX8_findsBags_45 ?_
          refine ok_iload_n F dX8_findsBags_46 2 rfl ?_
          refine ok_iload F dX8_findsBags_47 4 rfl ?_
          refine ok_isub F dX8_findsBags_49 ?_
          refine ok_iload_n F dX8_findsBags_50 3 rfl ?_
          refine ok_callv F [pI (k + 1), pI (q - b), pI d] dX8_findsBags_51 kM_X8_findsBags kI_X8_findsBags kV_X8_findsBags kL_X8_346 (ci := 8) rfl sh_0 rfl (by omega) (Nat.le_of_ble_eq_true rfl) rfl (m_X8_findsBags_0 _ (D - 1) (by omega) (k + 1) (q - b) d m_3 (by rw [e1]; omega) (by omega) (hdi) (by rw [e1]; exact hG) (by rw [e1]; exact hI) (by rw [e19]; exact fun i hi => by unfold rput; by_cases y : i = k.toNat; (rw [if_pos y]; omega); (rw [if_neg y, hlo i (by omega)]; exact hB i (by omega)))) ?_
          rintro _ m_6 ⟨z_5, rfl, r_7⟩
          obtain ⟨r1, r2, r3, r4⟩ := id r_7
          rw [e1, e19] at r3 r4
          rw [show (k + 1).toNat = k.toNat + 1 by omega, show (q - b).toNat = q.toNat - b.toNat by omega] at r3 r4
          have hr3 : ((fun b r => fbR (wellB (mem 1) d) 0 (k.toNat + 1) (q.toNat - b) (rput r k.toNat (b : Int))) b.toNat (m 19)).1 = (fbR (wellB (mem 1) d) 0 (k.toNat + 1) (q.toNat - b.toNat) (rput (m 19) k.toNat b)).1 := by
            show (fbR _ _ _ _ (rput (m 19) k.toNat ((b.toNat : Nat) : Int))).1 = _
            rw [show ((b.toNat : Nat) : Int) = b by omega]
          have hr4 : ((fun b r => fbR (wellB (mem 1) d) 0 (k.toNat + 1) (q.toNat - b) (rput r k.toNat (b : Int))) b.toNat (m 19)).2 = m_6 19 := by
            rw [r4]
            show (fbR _ _ _ _ (rput (m 19) k.toNat ((b.toNat : Nat) : Int))).2 = _
            rw [show ((b.toNat : Nat) : Int) = b by omega]
          refine ok_if_eq F 59 dX8_findsBags_54 (by decide) (by first | omega | exact hI _) (fun c_8 => ?_) (fun c_8 => ?_)
          · have hn2 : ¬ ((fun b r => fbR (wellB (mem 1) d) 0 (k.toNat + 1) (q.toNat - b) (rput r k.toNat (b : Int))) b.toNat (m 19)).1 = true := by
              rw [hr3]
              intro y
              rw [if_pos y] at r3
              omega
            refine ok_iinc (lv' := [(4, pI (b + 1)), (0, pR 0), (1, pI k), (2, pI q), (3, pI d)]) F dX8_findsBags_59 4 rfl (by decide) rfl ?_
            refine ok_goto F 28 dX8_findsBags_62 (by decide) ?_
            refine ok_lvp [1, 2, 3, 4, 0] (lv' := [(0, pR 0), (1, pI k), (2, pI q), (3, pI d), (4, pI (b + 1))]) rfl ?_
            refine ih_28 _ ?_ (b + 1) m_6 ?_ rfl
            · omega
            · refine ⟨by omega, by omega, fun a c0 c1 c2 c3 c4 c5 c6 c7 => by rw [r1 a c0 c1 c2 c3 c4 c5 c6 c7, eo a c7]; exact hF a c0 c1 c2 c3 c4 c5 c6 c7, fun j hj => by rw [r2 j hj, eo 0 (by decide)]; exact hF0 j hj, fun i hi => ?_, ?_⟩
              · rw [r4, fbR_lo _ _ _ _ _ (by omega)]; unfold rput; rw [if_neg (by omega)]; exact hlo i hi
              · rw [hR, show (q + 1 - b).toNat = (q + 1 - (b + 1)).toNat + 1 by omega, fbLoop_s, if_neg hn2, show (b + 1).toNat = b.toNat + 1 by omega]
                rw [hr4]
          · refine ok_iconst F dX8_findsBags_57 ?_
            refine ok_zret F G dX8_findsBags_58 (by first | rfl | exact zb_nar) ?_
            have hy : ((fun b r => fbR (wellB (mem 1) d) 0 (k.toNat + 1) (q.toNat - b) (rput r k.toNat (b : Int))) b.toNat (m 19)).1 = true := by
              rw [hr3]
              by_cases y : (fbR (wellB (mem 1) d) 0 (k.toNat + 1) (q.toNat - b.toNat) (rput (m 19) k.toNat b)).1 = true
              · exact y
              · rw [if_neg y] at r3; omega
            refine ⟨_, rfl, fun a c0 c1 c2 c3 c4 c5 c6 c7 => by rw [r1 a c0 c1 c2 c3 c4 c5 c6 c7, eo a c7]; exact hF a c0 c1 c2 c3 c4 c5 c6 c7, fun j hj => by rw [r2 j hj, eo 0 (by decide)]; exact hF0 j hj, ?_, ?_⟩
            · rw [hR, show (q + 1 - b).toNat = (q + 1 - (b + 1)).toNat + 1 by omega, fbLoop_s, if_pos hy]; rfl
            · rw [hR, show (q + 1 - b).toNat = (q + 1 - (b + 1)).toNat + 1 by omega, fbLoop_s, if_pos hy]; exact hr4.symm
    refine ok_lvp [1, 2, 3, 4, 0] (lv' := [(0, pR 0), (1, pI k), (2, pI q), (3, pI d), (4, pI 0)]) rfl ?_
    refine hL_28 _ 0 mem ?_ rfl
    exact ⟨by omega, by omega, fun _ _ _ _ _ _ _ _ _ => rfl, fun _ _ => rfl, fun _ _ => rfl, by rw [show (q + 1 - 0).toNat = q.toNat + 1 by omega]; rfl⟩
  · exfalso; omega
set_option maxHeartbeats 4000000 in
set_option maxRecDepth 100000 in
theorem m_X8_findsBags_2 (l : Launch) (D : Nat) (hD : 9 ≤ D) (k : Int) (q : Int) (d : Int) (mem : Mem) (hk : 0 ≤ k ∧ k + 2 = mem 1 0 - 1) (hq : 0 ≤ q ∧ q ≤ 4) (hdi : i32 d) (hG : GR (mem 1)) (hI : ∀ b, i32 (mem 1 b)) (hB : ∀ i : Nat, (i : Int) < k → 0 ≤ mem 19 i ∧ mem 19 i ≤ 4) : Ret shp l yX8_findsBags cX8_findsBags 5 (some .boolean) D [pR 0, pI k, pI q, pI d] mem (fun rv mv => ∃ z, rv = some (pI z) ∧ (∀ a, a ≠ 0 → a ≠ 8 → a ≠ 9 → a ≠ 11 → a ≠ 14 → a ≠ 15 → a ≠ 16 → a ≠ 19 → mv a = mem a) ∧ (∀ j, (j < 21 ∨ 26 < j) → mv 0 j = mem 0 j) ∧ (z = if (fbR (wellB (mem 1) d) 2 k.toNat q.toNat (mem 19)).1 = true then 1 else 0) ∧ mv 19 = (fbR (wellB (mem 1) d) 2 k.toNat q.toNat (mem 19)).2) := by
  refine ret_of (by decide +kernel) (Nat.le_of_ble_eq_true rfl) (fun X hX F G => ?_)
  show Ok shp X 5 0 [(0, pR 0), (1, pI k), (2, pI q), (3, pI d)] [] mem
  have g0 := hG.1
  refine ok_iload_n F dX8_findsBags_0 1 rfl ?_
  refine ok_aload_n F dX8_findsBags_1 0 rfl ?_
  refine ok_getr F dX8_findsBags_2 kF_X8_9 sh_0 rfl ?_
  refine ok_iconst F dX8_findsBags_5 ?_
  refine ok_iald (v := mem 1 0) F dX8_findsBags_6 sh_1 (by first | decide | assumption) (by first | omega | exact hI _) (by first | omega | exact hI _) rfl ?_
  refine ok_iconst F dX8_findsBags_7 ?_
  refine ok_isub F dX8_findsBags_8 ?_
  refine ok_icmp_ne F 25 dX8_findsBags_9 (by decide) (by first | omega | exact hI _) (by first | omega | exact hI _) (fun c_1 => ?_) (fun c_1 => ?_)
  · refine ok_iconst F dX8_findsBags_25 ?_
    refine ok_istore (lv' := [(4, pI 0), (0, pR 0), (1, pI k), (2, pI q), (3, pI d)]) F dX8_findsBags_26 (by decide) rfl ?_
    have hL_28 : ∀ (n_28 : Nat) (b : Int) (m : Mem), (0 ≤ b ∧ b ≤ q + 1 ∧ (∀ a, a ≠ 0 → a ≠ 8 → a ≠ 9 → a ≠ 11 → a ≠ 14 → a ≠ 15 → a ≠ 16 → a ≠ 19 → m a = mem a) ∧ (∀ j, (j < 21 ∨ 26 < j) → m 0 j = mem 0 j) ∧ (∀ i : Nat, (i : Int) < k → m 19 i = mem 19 i) ∧ fbR (wellB (mem 1) d) 2 k.toNat q.toNat (mem 19) = fbLoop (fun b r => fbR (wellB (mem 1) d) 1 (k.toNat + 1) (q.toNat - b) (rput r k.toNat (b : Int))) (q + 1 - b).toNat b.toNat (m 19)) → (q + 1 - b).toNat = n_28 → Ok shp X 5 28 [(0, pR 0), (1, pI k), (2, pI q), (3, pI d), (4, pI b)] [] m := by
      intro n_28
      induction n_28 using Nat.strongRecOn with
      | _ n_28 ih_28 =>
        intro b m hI_28 hn_28
        obtain ⟨hb0, hb1, hF, hF0, hlo, hR⟩ := hI_28
        have h1 : m 1 = mem 1 := hF 1 (by decide) (by decide) (by decide) (by decide) (by decide) (by decide) (by decide) (by decide)
        refine ok_iload F dX8_findsBags_28 4 rfl ?_
        refine ok_iload_n F dX8_findsBags_30 2 rfl ?_
        refine ok_icmp_gt F 65 dX8_findsBags_31 (by decide) (by first | omega | exact hI _) (by first | omega | exact hI _) (fun c_2 => ?_) (fun c_2 => ?_)
        · refine ok_iconst F dX8_findsBags_65 ?_
          refine ok_zret F G dX8_findsBags_66 (by first | rfl | exact zb_nar) ?_
          refine ⟨_, rfl, hF, hF0, ?_, ?_⟩
          · rw [hR, show (q + 1 - b).toNat = 0 by omega]; rfl
          · rw [hR, show (q + 1 - b).toNat = 0 by omega]; rfl
        · refine ok_aload_n F dX8_findsBags_34 0 rfl ?_
          refine ok_getr F dX8_findsBags_35 kF_X8_68 sh_0 rfl ?_
          refine ok_iload_n F dX8_findsBags_38 1 rfl ?_
          refine ok_iload F dX8_findsBags_39 4 rfl ?_
          refine ok_iast F dX8_findsBags_41 sh_19 (by first | decide | assumption) (by first | omega | exact hI _) (by first | omega | exact hI _) (fun m_3 e_4 => ?_)
          have e1 : m_3 1 = mem 1 := by rw [e_4, mset_nka (by decide)]; exact h1
          have e19 : m_3 19 = rput (m 19) k.toNat b := by rw [e_4]; exact mset_row _ _ _ _
          have eo : ∀ a, a ≠ 19 → m_3 a = m a := fun a ha => by rw [e_4]; exact mset_nka ha
          refine ok_aload_n F dX8_findsBags_42 0 rfl ?_
          refine ok_iload_n F dX8_findsBags_43 1 rfl ?_
          refine ok_iconst F dX8_findsBags_44 ?_
          refine ok_iadd F dX8_findsBags_45 ?_
          refine ok_iload_n F dX8_findsBags_46 2 rfl ?_
          refine ok_iload F dX8_findsBags_47 4 rfl ?_
          refine ok_isub F dX8_findsBags_49 ?_
          refine ok_iload_n F dX8_findsBags_50 3 rfl ?_
          refine ok_callv F [pI (k + 1), pI (q - b), pI d] dX8_findsBags_51 kM_X8_findsBags kI_X8_findsBags kV_X8_findsBags kL_X8_346 (ci := 8) rfl sh_0 rfl (by omega) (Nat.le_of_ble_eq_true rfl) rfl (m_X8_findsBags_1 _ (D - 1) (by omega) (k + 1) (q - b) d m_3 (by rw [e1]; omega) (by omega) (hdi) (by rw [e1]; exact hG) (by rw [e1]; exact hI) (by rw [e19]; exact fun i hi => by unfold rput; by_cases y : i = k.toNat; (rw [if_pos y]; omega); (rw [if_neg y, hlo i (by omega)]; exact hB i (by omega)))) ?_
          rintro _ m_6 ⟨z_5, rfl, r_7⟩
          obtain ⟨r1, r2, r3, r4⟩ := id r_7
          rw [e1, e19] at r3 r4
          rw [show (k + 1).toNat = k.toNat + 1 by omega, show (q - b).toNat = q.toNat - b.toNat by omega] at r3 r4
          have hr3 : ((fun b r => fbR (wellB (mem 1) d) 1 (k.toNat + 1) (q.toNat - b) (rput r k.toNat (b : Int))) b.toNat (m 19)).1 = (fbR (wellB (mem 1) d) 1 (k.toNat + 1) (q.toNat - b.toNat) (rput (m 19) k.toNat b)).1 := by
            show (fbR _ _ _ _ (rput (m 19) k.toNat ((b.toNat : Nat) : Int))).1 = _
            rw [show ((b.toNat : Nat) : Int) = b by omega]
          have hr4 : ((fun b r => fbR (wellB (mem 1) d) 1 (k.toNat + 1) (q.toNat - b) (rput r k.toNat (b : Int))) b.toNat (m 19)).2 = m_6 19 := by
            rw [r4]
            show (fbR _ _ _ _ (rput (m 19) k.toNat ((b.toNat : Nat) : Int))).2 = _
            rw [show ((b.toNat : Nat) : Int) = b by omega]
          refine ok_if_eq F 59 dX8_findsBags_54 (by decide) (by first | omega | exact hI _) (fun c_8 => ?_) (fun c_8 => ?_)
          · have hn2 : ¬ ((fun b r => fbR (wellB (mem 1) d) 1 (k.toNat + 1) (q.toNat - b) (rput r k.toNat (b : Int))) b.toNat (m 19)).1 = true := by
              rw [hr3]
              intro y
              rw [if_pos y] at r3
              omega
            refine ok_iinc (lv' := [(4, pI (b + 1)), (0, pR 0), (1, pI k), (2, pI q), (3, pI d)]) F dX8_findsBags_59 4 rfl (by decide) rfl ?_
            refine ok_goto F 28 dX8_findsBags_62 (by decide) ?_
            refine ok_lvp [1, 2, 3, 4, 0] (lv' := [(0, pR 0), (1, pI k), (2, pI q), (3, pI d), (4, pI (b + 1))]) rfl ?_
            refine ih_28 _ ?_ (b + 1) m_6 ?_ rfl
            · omega
            · refine ⟨by omega, by omega, fun a c0 c1 c2 c3 c4 c5 c6 c7 => by rw [r1 a c0 c1 c2 c3 c4 c5 c6 c7, eo a c7]; exact hF a c0 c1 c2 c3 c4 c5 c6 c7, fun j hj => by rw [r2 j hj, eo 0 (by decide)]; exact hF0 j hj, fun i hi => ?_, ?_⟩
              · rw [r4, fbR_lo _ _ _ _ _ (by omega)]; unfold rput; rw [if_neg (by omega)]; exact hlo i hi
              · rw [hR, show (q + 1 - b).toNat = (q + 1 - (b + 1)).toNat + 1 by omega, fbLoop_s, if_neg hn2, show (b + 1).toNat = b.toNat + 1 by omega]
                rw [hr4]
          · refine ok_iconst F dX8_findsBags_57 ?_
            refine ok_zret F G dX8_findsBags_58 (by first | rfl | exact zb_nar) ?_
            have hy : ((fun b r => fbR (wellB (mem 1) d) 1 (k.toNat + 1) (q.toNat - b) (rput r k.toNat (b : Int))) b.toNat (m 19)).1 = true := by
              rw [hr3]
              by_cases y : (fbR (wellB (mem 1) d) 1 (k.toNat + 1) (q.toNat - b.toNat) (rput (m 19) k.toNat b)).1 = true
              · exact y
              · rw [if_neg y] at r3; omega
            refine ⟨_, rfl, fun a c0 c1 c2 c3 c4 c5 c6 c7 => by rw [r1 a c0 c1 c2 c3 c4 c5 c6 c7, eo a c7]; exact hF a c0 c1 c2 c3 c4 c5 c6 c7, fun j hj => by rw [r2 j hj, eo 0 (by decide)]; exact hF0 j hj, ?_, ?_⟩
            · rw [hR, show (q + 1 - b).toNat = (q + 1 - (b + 1)).toNat + 1 by omega, fbLoop_s, if_pos hy]; rfl
            · rw [hR, show (q + 1 - b).toNat = (q + 1 - (b + 1)).toNat + 1 by omega, fbLoop_s, if_pos hy]; exact hr4.symm
    refine ok_lvp [1, 2, 3, 4, 0] (lv' := [(0, pR 0), (1, pI k), (2, pI q), (3, pI d), (4, pI 0)]) rfl ?_
    refine hL_28 _ 0 mem ?_ rfl
    exact ⟨by omega, by omega, fun _ _ _ _ _ _ _ _ _ => rfl, fun _ _ => rfl, fun _ _ => rfl, by rw [show (q + 1 - 0).toNat = q.toNat + 1 by omega]; rfl⟩
  · exfalso; omega
set_option maxHeartbeats 4000000 in
set_option maxRecDepth 100000 in
theorem m_X8_findsBags_3 (l : Launch) (D : Nat) (hD : 10 ≤ D) (k : Int) (q : Int) (d : Int) (mem : Mem) (hk : 0 ≤ k ∧ k + 3 = mem 1 0 - 1) (hq : 0 ≤ q ∧ q ≤ 4) (hdi : i32 d) (hG : GR (mem 1)) (hI : ∀ b, i32 (mem 1 b)) (hB : ∀ i : Nat, (i : Int) < k → 0 ≤ mem 19 i ∧ mem 19 i ≤ 4) : Ret shp l yX8_findsBags cX8_findsBags 5 (some .boolean) D [pR 0, pI k, pI q, pI d] mem (fun rv mv => ∃ z, rv = some (pI z) ∧ (∀ a, a ≠ 0 → a ≠ 8 → a ≠ 9 → a ≠ 11 → a ≠ 14 → a ≠ 15 → a ≠ 16 → a ≠ 19 → mv a = mem a) ∧ (∀ j, (j < 21 ∨ 26 < j) → mv 0 j = mem 0 j) ∧ (z = if (fbR (wellB (mem 1) d) 3 k.toNat q.toNat (mem 19)).1 = true then 1 else 0) ∧ mv 19 = (fbR (wellB (mem 1) d) 3 k.toNat q.toNat (mem 19)).2) := by
  refine ret_of (by decide +kernel) (Nat.le_of_ble_eq_true rfl) (fun X hX F G => ?_)
  show Ok shp X 5 0 [(0, pR 0), (1, pI k), (2, pI q), (3, pI d)] [] mem
  have g0 := hG.1
  refine ok_iload_n F dX8_findsBags_0 1 rfl ?_
  refine ok_aload_n F dX8_findsBags_1 0 rfl ?_
  refine ok_getr F dX8_findsBags_2 kF_X8_9 sh_0 rfl ?_
  refine ok_iconst F dX8_findsBags_5 ?_
  refine ok_iald (v := mem 1 0) F dX8_findsBags_6 sh_1 (by first | decide | assumption) (by first | omega | exact hI _) (by first | omega | exact hI _) rfl ?_
  refine ok_iconst F dX8_findsBags_7 ?_
  refine ok_isub F dX8_findsBags_8 ?_
  refine ok_icmp_ne F 25 dX8_findsBags_9 (by decide) (by first | omega | exact hI _) (by first | omega | exact hI _) (fun c_1 => ?_) (fun c_1 => ?_)
  · refine ok_iconst F dX8_findsBags_25 ?_
    refine ok_istore (lv' := [(4, pI 0), (0, pR 0), (1, pI k), (2, pI q), (3, pI d)]) F dX8_findsBags_26 (by decide) rfl ?_
    have hL_28 : ∀ (n_28 : Nat) (b : Int) (m : Mem), (0 ≤ b ∧ b ≤ q + 1 ∧ (∀ a, a ≠ 0 → a ≠ 8 → a ≠ 9 → a ≠ 11 → a ≠ 14 → a ≠ 15 → a ≠ 16 → a ≠ 19 → m a = mem a) ∧ (∀ j, (j < 21 ∨ 26 < j) → m 0 j = mem 0 j) ∧ (∀ i : Nat, (i : Int) < k → m 19 i = mem 19 i) ∧ fbR (wellB (mem 1) d) 3 k.toNat q.toNat (mem 19) = fbLoop (fun b r => fbR (wellB (mem 1) d) 2 (k.toNat + 1) (q.toNat - b) (rput r k.toNat (b : Int))) (q + 1 - b).toNat b.toNat (m 19)) → (q + 1 - b).toNat = n_28 → Ok shp X 5 28 [(0, pR 0), (1, pI k), (2, pI q), (3, pI d), (4, pI b)] [] m := by
      intro n_28
      induction n_28 using Nat.strongRecOn with
      | _ n_28 ih_28 =>
        intro b m hI_28 hn_28
        obtain ⟨hb0, hb1, hF, hF0, hlo, hR⟩ := hI_28
        have h1 : m 1 = mem 1 := hF 1 (by decide) (by decide) (by decide) (by decide) (by decide) (by decide) (by decide) (by decide)
        refine ok_iload F dX8_findsBags_28 4 rfl ?_
        refine ok_iload_n F dX8_findsBags_30 2 rfl ?_
        refine ok_icmp_gt F 65 dX8_findsBags_31 (by decide) (by first | omega | exact hI _) (by first | omega | exact hI _) (fun c_2 => ?_) (fun c_2 => ?_)
        · refine ok_iconst F dX8_findsBags_65 ?_
          refine ok_zret F G dX8_findsBags_66 (by first | rfl | exact zb_nar) ?_
          refine ⟨_, rfl, hF, hF0, ?_, ?_⟩
          · rw [hR, show (q + 1 - b).toNat = 0 by omega]; rfl
          · rw [hR, show (q + 1 - b).toNat = 0 by omega]; rfl
        · refine ok_aload_n F dX8_findsBags_34 0 rfl ?_
          refine ok_getr F dX8_findsBags_35 kF_X8_68 sh_0 rfl ?_
          refine ok_iload_n F dX8_findsBags_38 1 rfl ?_
          refine ok_iload F dX8_findsBags_39 4 rfl ?_
          refine ok_iast F dX8_findsBags_41 sh_19 (by first | decide | assumption) (by first | omega | exact hI _) (by first | omega | exact hI _) (fun m_3 e_4 => ?_)
          have e1 : m_3 1 = mem 1 := by rw [e_4, mset_nka (by decide)]; exact h1
          have e19 : m_3 19 = rput (m 19) k.toNat b := by rw [e_4]; exact mset_row _ _ _ _
          have eo : ∀ a, a ≠ 19 → m_3 a = m a := fun a ha => by rw [e_4]; exact mset_nka ha
          refine ok_aload_n F dX8_findsBags_42 0 rfl ?_
          refine ok_iload_n F dX8_findsBags_43 1 rfl ?_
          refine ok_iconst F dX8_findsBags_44 ?_
          refine ok_iadd F dX8_findsBags_45 ?_
          refine ok_iload_n F dX8_findsBags_46 2 rfl ?_
          refine ok_iload F dX8_findsBags_47 4 rfl ?_
          refine ok_isub F dX8_findsBags_49 ?_
          refine ok_iload_n F dX8_findsBags_50 3 rfl ?_
          refine ok_callv F [pI (k + 1), pI (q - b), pI d] dX8_findsBags_51 kM_X8_findsBags kI_X8_findsBags kV_X8_findsBags kL_X8_346 (ci := 8) rfl sh_0 rfl (by omega) (Nat.le_of_ble_eq_true rfl) rfl (m_X8_findsBags_2 _ (D - 1) (by omega) (k + 1) (q - b) d m_3 (by rw [e1]; omega) (by omega) (hdi) (by rw [e1]; exact hG) (by rw [e1]; exact hI) (by rw [e19]; exact fun i hi => by unfold rput; by_cases y : i = k.toNat; (rw [if_pos y]; omega); (rw [if_neg y, hlo i (by omega)]; exact hB i (by omega)))) ?_
          rintro _ m_6 ⟨z_5, rfl, r_7⟩
          obtain ⟨r1, r2, r3, r4⟩ := id r_7
          rw [e1, e19] at r3 r4
          rw [show (k + 1).toNat = k.toNat + 1 by omega, show (q - b).toNat = q.toNat - b.toNat by omega] at r3 r4
          have hr3 : ((fun b r => fbR (wellB (mem 1) d) 2 (k.toNat + 1) (q.toNat - b) (rput r k.toNat (b : Int))) b.toNat (m 19)).1 = (fbR (wellB (mem 1) d) 2 (k.toNat + 1) (q.toNat - b.toNat) (rput (m 19) k.toNat b)).1 := by
            show (fbR _ _ _ _ (rput (m 19) k.toNat ((b.toNat : Nat) : Int))).1 = _
            rw [show ((b.toNat : Nat) : Int) = b by omega]
          have hr4 : ((fun b r => fbR (wellB (mem 1) d) 2 (k.toNat + 1) (q.toNat - b) (rput r k.toNat (b : Int))) b.toNat (m 19)).2 = m_6 19 := by
            rw [r4]
            show (fbR _ _ _ _ (rput (m 19) k.toNat ((b.toNat : Nat) : Int))).2 = _
            rw [show ((b.toNat : Nat) : Int) = b by omega]
          refine ok_if_eq F 59 dX8_findsBags_54 (by decide) (by first | omega | exact hI _) (fun c_8 => ?_) (fun c_8 => ?_)
          · have hn2 : ¬ ((fun b r => fbR (wellB (mem 1) d) 2 (k.toNat + 1) (q.toNat - b) (rput r k.toNat (b : Int))) b.toNat (m 19)).1 = true := by
              rw [hr3]
              intro y
              rw [if_pos y] at r3
              omega
            refine ok_iinc (lv' := [(4, pI (b + 1)), (0, pR 0), (1, pI k), (2, pI q), (3, pI d)]) F dX8_findsBags_59 4 rfl (by decide) rfl ?_
            refine ok_goto F 28 dX8_findsBags_62 (by decide) ?_
            refine ok_lvp [1, 2, 3, 4, 0] (lv' := [(0, pR 0), (1, pI k), (2, pI q), (3, pI d), (4, pI (b + 1))]) rfl ?_
            refine ih_28 _ ?_ (b + 1) m_6 ?_ rfl
            · omega
            · refine ⟨by omega, by omega, fun a c0 c1 c2 c3 c4 c5 c6 c7 => by rw [r1 a c0 c1 c2 c3 c4 c5 c6 c7, eo a c7]; exact hF a c0 c1 c2 c3 c4 c5 c6 c7, fun j hj => by rw [r2 j hj, eo 0 (by decide)]; exact hF0 j hj, fun i hi => ?_, ?_⟩
              · rw [r4, fbR_lo _ _ _ _ _ (by omega)]; unfold rput; rw [if_neg (by omega)]; exact hlo i hi
              · rw [hR, show (q + 1 - b).toNat = (q + 1 - (b + 1)).toNat + 1 by omega, fbLoop_s, if_neg hn2, show (b + 1).toNat = b.toNat + 1 by omega]
                rw [hr4]
          · refine ok_iconst F dX8_findsBags_57 ?_
            refine ok_zret F G dX8_findsBags_58 (by first | rfl | exact zb_nar) ?_
            have hy : ((fun b r => fbR (wellB (mem 1) d) 2 (k.toNat + 1) (q.toNat - b) (rput r k.toNat (b : Int))) b.toNat (m 19)).1 = true := by
              rw [hr3]
              by_cases y : (fbR (wellB (mem 1) d) 2 (k.toNat + 1) (q.toNat - b.toNat) (rput (m 19) k.toNat b)).1 = true
              · exact y
              · rw [if_neg y] at r3; omega
            refine ⟨_, rfl, fun a c0 c1 c2 c3 c4 c5 c6 c7 => by rw [r1 a c0 c1 c2 c3 c4 c5 c6 c7, eo a c7]; exact hF a c0 c1 c2 c3 c4 c5 c6 c7, fun j hj => by rw [r2 j hj, eo 0 (by decide)]; exact hF0 j hj, ?_, ?_⟩
            · rw [hR, show (q + 1 - b).toNat = (q + 1 - (b + 1)).toNat + 1 by omega, fbLoop_s, if_pos hy]; rfl
            · rw [hR, show (q + 1 - b).toNat = (q + 1 - (b + 1)).toNat + 1 by omega, fbLoop_s, if_pos hy]; exact hr4.symm
    refine ok_lvp [1, 2, 3, 4, 0] (lv' := [(0, pR 0), (1, pI k), (2, pI q), (3, pI d), (4, pI 0)]) rfl ?_
    refine hL_28 _ 0 mem ?_ rfl
    exact ⟨by omega, by omega, fun _ _ _ _ _ _ _ _ _ => rfl, fun _ _ => rfl, fun _ _ => rfl, by rw [show (q + 1 - 0).toNat = q.toNat + 1 by omega]; rfl⟩
  · exfalso; omega
set_option maxHeartbeats 4000000 in
set_option maxRecDepth 100000 in
theorem m_X8_findsBags_4 (l : Launch) (D : Nat) (hD : 11 ≤ D) (k : Int) (q : Int) (d : Int) (mem : Mem) (hk : 0 ≤ k ∧ k + 4 = mem 1 0 - 1) (hq : 0 ≤ q ∧ q ≤ 4) (hdi : i32 d) (hG : GR (mem 1)) (hI : ∀ b, i32 (mem 1 b)) (hB : ∀ i : Nat, (i : Int) < k → 0 ≤ mem 19 i ∧ mem 19 i ≤ 4) : Ret shp l yX8_findsBags cX8_findsBags 5 (some .boolean) D [pR 0, pI k, pI q, pI d] mem (fun rv mv => ∃ z, rv = some (pI z) ∧ (∀ a, a ≠ 0 → a ≠ 8 → a ≠ 9 → a ≠ 11 → a ≠ 14 → a ≠ 15 → a ≠ 16 → a ≠ 19 → mv a = mem a) ∧ (∀ j, (j < 21 ∨ 26 < j) → mv 0 j = mem 0 j) ∧ (z = if (fbR (wellB (mem 1) d) 4 k.toNat q.toNat (mem 19)).1 = true then 1 else 0) ∧ mv 19 = (fbR (wellB (mem 1) d) 4 k.toNat q.toNat (mem 19)).2) := by
  refine ret_of (by decide +kernel) (Nat.le_of_ble_eq_true rfl) (fun X hX F G => ?_)
  show Ok shp X 5 0 [(0, pR 0), (1, pI k), (2, pI q), (3, pI d)] [] mem
  have g0 := hG.1
  refine ok_iload_n F dX8_findsBags_0 1 rfl ?_
  refine ok_aload_n F dX8_findsBags_1 0 rfl ?_
  refine ok_getr F dX8_findsBags_2 kF_X8_9 sh_0 rfl ?_
  refine ok_iconst F dX8_findsBags_5 ?_
  refine ok_iald (v := mem 1 0) F dX8_findsBags_6 sh_1 (by first | decide | assumption) (by first | omega | exact hI _) (by first | omega | exact hI _) rfl ?_
  refine ok_iconst F dX8_findsBags_7 ?_
  refine ok_isub F dX8_findsBags_8 ?_
  refine ok_icmp_ne F 25 dX8_findsBags_9 (by decide) (by first | omega | exact hI _) (by first | omega | exact hI _) (fun c_1 => ?_) (fun c_1 => ?_)
  · refine ok_iconst F dX8_findsBags_25 ?_
    refine ok_istore (lv' := [(4, pI 0), (0, pR 0), (1, pI k), (2, pI q), (3, pI d)]) F dX8_findsBags_26 (by decide) rfl ?_
    have hL_28 : ∀ (n_28 : Nat) (b : Int) (m : Mem), (0 ≤ b ∧ b ≤ q + 1 ∧ (∀ a, a ≠ 0 → a ≠ 8 → a ≠ 9 → a ≠ 11 → a ≠ 14 → a ≠ 15 → a ≠ 16 → a ≠ 19 → m a = mem a) ∧ (∀ j, (j < 21 ∨ 26 < j) → m 0 j = mem 0 j) ∧ (∀ i : Nat, (i : Int) < k → m 19 i = mem 19 i) ∧ fbR (wellB (mem 1) d) 4 k.toNat q.toNat (mem 19) = fbLoop (fun b r => fbR (wellB (mem 1) d) 3 (k.toNat + 1) (q.toNat - b) (rput r k.toNat (b : Int))) (q + 1 - b).toNat b.toNat (m 19)) → (q + 1 - b).toNat = n_28 → Ok shp X 5 28 [(0, pR 0), (1, pI k), (2, pI q), (3, pI d), (4, pI b)] [] m := by
      intro n_28
      induction n_28 using Nat.strongRecOn with
      | _ n_28 ih_28 =>
        intro b m hI_28 hn_28
        obtain ⟨hb0, hb1, hF, hF0, hlo, hR⟩ := hI_28
        have h1 : m 1 = mem 1 := hF 1 (by decide) (by decide) (by decide) (by decide) (by decide) (by decide) (by decide) (by decide)
        refine ok_iload F dX8_findsBags_28 4 rfl ?_
        refine ok_iload_n F dX8_findsBags_30 2 rfl ?_
        refine ok_icmp_gt F 65 dX8_findsBags_31 (by decide) (by first | omega | exact hI _) (by first | omega | exact hI _) (fun c_2 => ?_) (fun c_2 => ?_)
        · refine ok_iconst F dX8_findsBags_65 ?_
          refine ok_zret F G dX8_findsBags_66 (by first | rfl | exact zb_nar) ?_
          refine ⟨_, rfl, hF, hF0, ?_, ?_⟩
          · rw [hR, show (q + 1 - b).toNat = 0 by omega]; rfl
          · rw [hR, show (q + 1 - b).toNat = 0 by omega]; rfl
        · refine ok_aload_n F dX8_findsBags_34 0 rfl ?_
          refine ok_getr F dX8_findsBags_35 kF_X8_68 sh_0 rfl ?_
          refine ok_iload_n F dX8_findsBags_38 1 rfl ?_
          refine ok_iload F dX8_findsBags_39 4 rfl ?_
          refine ok_iast F dX8_findsBags_41 sh_19 (by first | decide | assumption) (by first | omega | exact hI _) (by first | omega | exact hI _) (fun m_3 e_4 => ?_)
          have e1 : m_3 1 = mem 1 := by rw [e_4, mset_nka (by decide)]; exact h1
          have e19 : m_3 19 = rput (m 19) k.toNat b := by rw [e_4]; exact mset_row _ _ _ _
          have eo : ∀ a, a ≠ 19 → m_3 a = m a := fun a ha => by rw [e_4]; exact mset_nka ha
          refine ok_aload_n F dX8_findsBags_42 0 rfl ?_
          refine ok_iload_n F dX8_findsBags_43 1 rfl ?_
          refine ok_iconst F dX8_findsBags_44 ?_
          refine ok_iadd F dX8_findsBags_45 ?_
          refine ok_iload_n F dX8_findsBags_46 2 rfl ?_
          refine ok_iload F dX8_findsBags_47 4 rfl ?_
          refine ok_isub F dX8_findsBags_49 ?_
          refine ok_iload_n F dX8_findsBags_50 3 rfl ?_
          refine ok_callv F [pI (k + 1), pI (q - b), pI d] dX8_findsBags_51 kM_X8_findsBags kI_X8_findsBags kV_X8_findsBags kL_X8_346 (ci := 8) rfl sh_0 rfl (by omega) (Nat.le_of_ble_eq_true rfl) rfl (m_X8_findsBags_3 _ (D - 1) (by omega) (k + 1) (q - b) d m_3 (by rw [e1]; omega) (by omega) (hdi) (by rw [e1]; exact hG) (by rw [e1]; exact hI) (by rw [e19]; exact fun i hi => by unfold rput; by_cases y : i = k.toNat; (rw [if_pos y]; omega); (rw [if_neg y, hlo i (by omega)]; exact hB i (by omega)))) ?_
          rintro _ m_6 ⟨z_5, rfl, r_7⟩
          obtain ⟨r1, r2, r3, r4⟩ := id r_7
          rw [e1, e19] at r3 r4
          rw [show (k + 1).toNat = k.toNat + 1 by omega, show (q - b).toNat = q.toNat - b.toNat by omega] at r3 r4
          have hr3 : ((fun b r => fbR (wellB (mem 1) d) 3 (k.toNat + 1) (q.toNat - b) (rput r k.toNat (b : Int))) b.toNat (m 19)).1 = (fbR (wellB (mem 1) d) 3 (k.toNat + 1) (q.toNat - b.toNat) (rput (m 19) k.toNat b)).1 := by
            show (fbR _ _ _ _ (rput (m 19) k.toNat ((b.toNat : Nat) : Int))).1 = _
            rw [show ((b.toNat : Nat) : Int) = b by omega]
          have hr4 : ((fun b r => fbR (wellB (mem 1) d) 3 (k.toNat + 1) (q.toNat - b) (rput r k.toNat (b : Int))) b.toNat (m 19)).2 = m_6 19 := by
            rw [r4]
            show (fbR _ _ _ _ (rput (m 19) k.toNat ((b.toNat : Nat) : Int))).2 = _
            rw [show ((b.toNat : Nat) : Int) = b by omega]
          refine ok_if_eq F 59 dX8_findsBags_54 (by decide) (by first | omega | exact hI _) (fun c_8 => ?_) (fun c_8 => ?_)
          · have hn2 : ¬ ((fun b r => fbR (wellB (mem 1) d) 3 (k.toNat + 1) (q.toNat - b) (rput r k.toNat (b : Int))) b.toNat (m 19)).1 = true := by
              rw [hr3]
              intro y
              rw [if_pos y] at r3
              omega
            refine ok_iinc (lv' := [(4, pI (b + 1)), (0, pR 0), (1, pI k), (2, pI q), (3, pI d)]) F dX8_findsBags_59 4 rfl (by decide) rfl ?_
            refine ok_goto F 28 dX8_findsBags_62 (by decide) ?_
            refine ok_lvp [1, 2, 3, 4, 0] (lv' := [(0, pR 0), (1, pI k), (2, pI q), (3, pI d), (4, pI (b + 1))]) rfl ?_
            refine ih_28 _ ?_ (b + 1) m_6 ?_ rfl
            · omega
            · refine ⟨by omega, by omega, fun a c0 c1 c2 c3 c4 c5 c6 c7 => by rw [r1 a c0 c1 c2 c3 c4 c5 c6 c7, eo a c7]; exact hF a c0 c1 c2 c3 c4 c5 c6 c7, fun j hj => by rw [r2 j hj, eo 0 (by decide)]; exact hF0 j hj, fun i hi => ?_, ?_⟩
              · rw [r4, fbR_lo _ _ _ _ _ (by omega)]; unfold rput; rw [if_neg (by omega)]; exact hlo i hi
              · rw [hR, show (q + 1 - b).toNat = (q + 1 - (b + 1)).toNat + 1 by omega, fbLoop_s, if_neg hn2, show (b + 1).toNat = b.toNat + 1 by omega]
                rw [hr4]
          · refine ok_iconst F dX8_findsBags_57 ?_
            refine ok_zret F G dX8_findsBags_58 (by first | rfl | exact zb_nar) ?_
            have hy : ((fun b r => fbR (wellB (mem 1) d) 3 (k.toNat + 1) (q.toNat - b) (rput r k.toNat (b : Int))) b.toNat (m 19)).1 = true := by
              rw [hr3]
              by_cases y : (fbR (wellB (mem 1) d) 3 (k.toNat + 1) (q.toNat - b.toNat) (rput (m 19) k.toNat b)).1 = true
              · exact y
              · rw [if_neg y] at r3; omega
            refine ⟨_, rfl, fun a c0 c1 c2 c3 c4 c5 c6 c7 => by rw [r1 a c0 c1 c2 c3 c4 c5 c6 c7, eo a c7]; exact hF a c0 c1 c2 c3 c4 c5 c6 c7, fun j hj => by rw [r2 j hj, eo 0 (by decide)]; exact hF0 j hj, ?_, ?_⟩
            · rw [hR, show (q + 1 - b).toNat = (q + 1 - (b + 1)).toNat + 1 by omega, fbLoop_s, if_pos hy]; rfl
            · rw [hR, show (q + 1 - b).toNat = (q + 1 - (b + 1)).toNat + 1 by omega, fbLoop_s, if_pos hy]; exact hr4.symm
    refine ok_lvp [1, 2, 3, 4, 0] (lv' := [(0, pR 0), (1, pI k), (2, pI q), (3, pI d), (4, pI 0)]) rfl ?_
    refine hL_28 _ 0 mem ?_ rfl
    exact ⟨by omega, by omega, fun _ _ _ _ _ _ _ _ _ => rfl, fun _ _ => rfl, fun _ _ => rfl, by rw [show (q + 1 - 0).toNat = q.toNat + 1 by omega]; rfl⟩
  · exfalso; omega
set_option maxHeartbeats 4000000 in
set_option maxRecDepth 100000 in
theorem m_X8_findsBags_5 (l : Launch) (D : Nat) (hD : 12 ≤ D) (k : Int) (q : Int) (d : Int) (mem : Mem) (hk : 0 ≤ k ∧ k + 5 = mem 1 0 - 1) (hq : 0 ≤ q ∧ q ≤ 4) (hdi : i32 d) (hG : GR (mem 1)) (hI : ∀ b, i32 (mem 1 b)) (hB : ∀ i : Nat, (i : Int) < k → 0 ≤ mem 19 i ∧ mem 19 i ≤ 4) : Ret shp l yX8_findsBags cX8_findsBags 5 (some .boolean) D [pR 0, pI k, pI q, pI d] mem (fun rv mv => ∃ z, rv = some (pI z) ∧ (∀ a, a ≠ 0 → a ≠ 8 → a ≠ 9 → a ≠ 11 → a ≠ 14 → a ≠ 15 → a ≠ 16 → a ≠ 19 → mv a = mem a) ∧ (∀ j, (j < 21 ∨ 26 < j) → mv 0 j = mem 0 j) ∧ (z = if (fbR (wellB (mem 1) d) 5 k.toNat q.toNat (mem 19)).1 = true then 1 else 0) ∧ mv 19 = (fbR (wellB (mem 1) d) 5 k.toNat q.toNat (mem 19)).2) := by
  refine ret_of (by decide +kernel) (Nat.le_of_ble_eq_true rfl) (fun X hX F G => ?_)
  show Ok shp X 5 0 [(0, pR 0), (1, pI k), (2, pI q), (3, pI d)] [] mem
  have g0 := hG.1
  refine ok_iload_n F dX8_findsBags_0 1 rfl ?_
  refine ok_aload_n F dX8_findsBags_1 0 rfl ?_
  refine ok_getr F dX8_findsBags_2 kF_X8_9 sh_0 rfl ?_
  refine ok_iconst F dX8_findsBags_5 ?_
  refine ok_iald (v := mem 1 0) F dX8_findsBags_6 sh_1 (by first | decide | assumption) (by first | omega | exact hI _) (by first | omega | exact hI _) rfl ?_
  refine ok_iconst F dX8_findsBags_7 ?_
  refine ok_isub F dX8_findsBags_8 ?_
  refine ok_icmp_ne F 25 dX8_findsBags_9 (by decide) (by first | omega | exact hI _) (by first | omega | exact hI _) (fun c_1 => ?_) (fun c_1 => ?_)
  · refine ok_iconst F dX8_findsBags_25 ?_
    refine ok_istore (lv' := [(4, pI 0), (0, pR 0), (1, pI k), (2, pI q), (3, pI d)]) F dX8_findsBags_26 (by decide) rfl ?_
    have hL_28 : ∀ (n_28 : Nat) (b : Int) (m : Mem), (0 ≤ b ∧ b ≤ q + 1 ∧ (∀ a, a ≠ 0 → a ≠ 8 → a ≠ 9 → a ≠ 11 → a ≠ 14 → a ≠ 15 → a ≠ 16 → a ≠ 19 → m a = mem a) ∧ (∀ j, (j < 21 ∨ 26 < j) → m 0 j = mem 0 j) ∧ (∀ i : Nat, (i : Int) < k → m 19 i = mem 19 i) ∧ fbR (wellB (mem 1) d) 5 k.toNat q.toNat (mem 19) = fbLoop (fun b r => fbR (wellB (mem 1) d) 4 (k.toNat + 1) (q.toNat - b) (rput r k.toNat (b : Int))) (q + 1 - b).toNat b.toNat (m 19)) → (q + 1 - b).toNat = n_28 → Ok shp X 5 28 [(0, pR 0), (1, pI k), (2, pI q), (3, pI d), (4, pI b)] [] m := by
      intro n_28
      induction n_28 using Nat.strongRecOn with
      | _ n_28 ih_28 =>
        intro b m hI_28 hn_28
        obtain ⟨hb0, hb1, hF, hF0, hlo, hR⟩ := hI_28
        have h1 : m 1 = mem 1 := hF 1 (by decide) (by decide) (by decide) (by decide) (by decide) (by decide) (by decide) (by decide)
        refine ok_iload F dX8_findsBags_28 4 rfl ?_
        refine ok_iload_n F dX8_findsBags_30 2 rfl ?_
        refine ok_icmp_gt F 65 dX8_findsBags_31 (by decide) (by first | omega | exact hI _) (by first | omega | exact hI _) (fun c_2 => ?_) (fun c_2 => ?_)
        · refine ok_iconst F dX8_findsBags_65 ?_
          refine ok_zret F G dX8_findsBags_66 (by first | rfl | exact zb_nar) ?_
          refine ⟨_, rfl, hF, hF0, ?_, ?_⟩
          · rw [hR, show (q + 1 - b).toNat = 0 by omega]; rfl
          · rw [hR, show (q + 1 - b).toNat = 0 by omega]; rfl
        · refine ok_aload_n F dX8_findsBags_34 0 rfl ?_
          refine ok_getr F dX8_findsBags_35 kF_X8_68 sh_0 rfl ?_
          refine ok_iload_n F dX8_findsBags_38 1 rfl ?_
          refine ok_iload F dX8_findsBags_39 4 rfl ?_
          refine ok_iast F dX8_findsBags_41 sh_19 (by first | decide | assumption) (by first | omega | exact hI _) (by first | omega | exact hI _) (fun m_3 e_4 => ?_)
          have e1 : m_3 1 = mem 1 := by rw [e_4, mset_nka (by decide)]; exact h1
          have e19 : m_3 19 = rput (m 19) k.toNat b := by rw [e_4]; exact mset_row _ _ _ _
          have eo : ∀ a, a ≠ 19 → m_3 a = m a := fun a ha => by rw [e_4]; exact mset_nka ha
          refine ok_aload_n F dX8_findsBags_42 0 rfl ?_
          refine ok_iload_n F dX8_findsBags_43 1 rfl ?_
          refine ok_iconst F dX8_findsBags_44 ?_
          refine ok_iadd F dX8_findsBags_45 ?_
          refine ok_iload_n F dX8_findsBags_46 2 rfl ?_
          refine ok_iload F dX8_findsBags_47 4 rfl ?_
          refine ok_isub F dX8_findsBags_49 ?_
          refine ok_iload_n F dX8_findsBags_50 3 rfl ?_
          refine ok_callv F [pI (k + 1), pI (q - b), pI d] dX8_findsBags_51 kM_X8_findsBags kI_X8_findsBags kV_X8_findsBags kL_X8_346 (ci := 8) rfl sh_0 rfl (by omega) (Nat.le_of_ble_eq_true rfl) rfl (m_X8_findsBags_4 _ (D - 1) (by omega) (k + 1) (q - b) d m_3 (by rw [e1]; omega) (by omega) (hdi) (by rw [e1]; exact hG) (by rw [e1]; exact hI) (by rw [e19]; exact fun i hi => by unfold rput; by_cases y : i = k.toNat; (rw [if_pos y]; omega); (rw [if_neg y, hlo i (by omega)]; exact hB i (by omega)))) ?_
          rintro _ m_6 ⟨z_5, rfl, r_7⟩
          obtain ⟨r1, r2, r3, r4⟩ := id r_7
          rw [e1, e19] at r3 r4
          rw [show (k + 1).toNat = k.toNat + 1 by omega, show (q - b).toNat = q.toNat - b.toNat by omega] at r3 r4
          have hr3 : ((fun b r => fbR (wellB (mem 1) d) 4 (k.toNat + 1) (q.toNat - b) (rput r k.toNat (b : Int))) b.toNat (m 19)).1 = (fbR (wellB (mem 1) d) 4 (k.toNat + 1) (q.toNat - b.toNat) (rput (m 19) k.toNat b)).1 := by
            show (fbR _ _ _ _ (rput (m 19) k.toNat ((b.toNat : Nat) : Int))).1 = _
            rw [show ((b.toNat : Nat) : Int) = b by omega]
          have hr4 : ((fun b r => fbR (wellB (mem 1) d) 4 (k.toNat + 1) (q.toNat - b) (rput r k.toNat (b : Int))) b.toNat (m 19)).2 = m_6 19 := by
            rw [r4]
            show (fbR _ _ _ _ (rput (m 19) k.toNat ((b.toNat : Nat) : Int))).2 = _
            rw [show ((b.toNat : Nat) : Int) = b by omega]
          refine ok_if_eq F 59 dX8_findsBags_54 (by decide) (by first | omega | exact hI _) (fun c_8 => ?_) (fun c_8 => ?_)
          · have hn2 : ¬ ((fun b r => fbR (wellB (mem 1) d) 4 (k.toNat + 1) (q.toNat - b) (rput r k.toNat (b : Int))) b.toNat (m 19)).1 = true := by
              rw [hr3]
              intro y
              rw [if_pos y] at r3
              omega
            refine ok_iinc (lv' := [(4, pI (b + 1)), (0, pR 0), (1, pI k), (2, pI q), (3, pI d)]) F dX8_findsBags_59 4 rfl (by decide) rfl ?_
            refine ok_goto F 28 dX8_findsBags_62 (by decide) ?_
            refine ok_lvp [1, 2, 3, 4, 0] (lv' := [(0, pR 0), (1, pI k), (2, pI q), (3, pI d), (4, pI (b + 1))]) rfl ?_
            refine ih_28 _ ?_ (b + 1) m_6 ?_ rfl
            · omega
            · refine ⟨by omega, by omega, fun a c0 c1 c2 c3 c4 c5 c6 c7 => by rw [r1 a c0 c1 c2 c3 c4 c5 c6 c7, eo a c7]; exact hF a c0 c1 c2 c3 c4 c5 c6 c7, fun j hj => by rw [r2 j hj, eo 0 (by decide)]; exact hF0 j hj, fun i hi => ?_, ?_⟩
              · rw [r4, fbR_lo _ _ _ _ _ (by omega)]; unfold rput; rw [if_neg (by omega)]; exact hlo i hi
              · rw [hR, show (q + 1 - b).toNat = (q + 1 - (b + 1)).toNat + 1 by omega, fbLoop_s, if_neg hn2, show (b + 1).toNat = b.toNat + 1 by omega]
                rw [hr4]
          · refine ok_iconst F dX8_findsBags_57 ?_
            refine ok_zret F G dX8_findsBags_58 (by first | rfl | exact zb_nar) ?_
            have hy : ((fun b r => fbR (wellB (mem 1) d) 4 (k.toNat + 1) (q.toNat - b) (rput r k.toNat (b : Int))) b.toNat (m 19)).1 = true := by
              rw [hr3]
              by_cases y : (fbR (wellB (mem 1) d) 4 (k.toNat + 1) (q.toNat - b.toNat) (rput (m 19) k.toNat b)).1 = true
              · exact y
              · rw [if_neg y] at r3; omega
            refine ⟨_, rfl, fun a c0 c1 c2 c3 c4 c5 c6 c7 => by rw [r1 a c0 c1 c2 c3 c4 c5 c6 c7, eo a c7]; exact hF a c0 c1 c2 c3 c4 c5 c6 c7, fun j hj => by rw [r2 j hj, eo 0 (by decide)]; exact hF0 j hj, ?_, ?_⟩
            · rw [hR, show (q + 1 - b).toNat = (q + 1 - (b + 1)).toNat + 1 by omega, fbLoop_s, if_pos hy]; rfl
            · rw [hR, show (q + 1 - b).toNat = (q + 1 - (b + 1)).toNat + 1 by omega, fbLoop_s, if_pos hy]; exact hr4.symm
    refine ok_lvp [1, 2, 3, 4, 0] (lv' := [(0, pR 0), (1, pI k), (2, pI q), (3, pI d), (4, pI 0)]) rfl ?_
    refine hL_28 _ 0 mem ?_ rfl
    exact ⟨by omega, by omega, fun _ _ _ _ _ _ _ _ _ => rfl, fun _ _ => rfl, fun _ _ => rfl, by rw [show (q + 1 - 0).toNat = q.toNat + 1 by omega]; rfl⟩
  · exfalso; omega
set_option maxHeartbeats 4000000 in
set_option maxRecDepth 100000 in
theorem m_X8_findsBags_6 (l : Launch) (D : Nat) (hD : 13 ≤ D) (k : Int) (q : Int) (d : Int) (mem : Mem) (hk : 0 ≤ k ∧ k + 6 = mem 1 0 - 1) (hq : 0 ≤ q ∧ q ≤ 4) (hdi : i32 d) (hG : GR (mem 1)) (hI : ∀ b, i32 (mem 1 b)) (hB : ∀ i : Nat, (i : Int) < k → 0 ≤ mem 19 i ∧ mem 19 i ≤ 4) : Ret shp l yX8_findsBags cX8_findsBags 5 (some .boolean) D [pR 0, pI k, pI q, pI d] mem (fun rv mv => ∃ z, rv = some (pI z) ∧ (∀ a, a ≠ 0 → a ≠ 8 → a ≠ 9 → a ≠ 11 → a ≠ 14 → a ≠ 15 → a ≠ 16 → a ≠ 19 → mv a = mem a) ∧ (∀ j, (j < 21 ∨ 26 < j) → mv 0 j = mem 0 j) ∧ (z = if (fbR (wellB (mem 1) d) 6 k.toNat q.toNat (mem 19)).1 = true then 1 else 0) ∧ mv 19 = (fbR (wellB (mem 1) d) 6 k.toNat q.toNat (mem 19)).2) := by
  refine ret_of (by decide +kernel) (Nat.le_of_ble_eq_true rfl) (fun X hX F G => ?_)
  show Ok shp X 5 0 [(0, pR 0), (1, pI k), (2, pI q), (3, pI d)] [] mem
  have g0 := hG.1
  refine ok_iload_n F dX8_findsBags_0 1 rfl ?_
  refine ok_aload_n F dX8_findsBags_1 0 rfl ?_
  refine ok_getr F dX8_findsBags_2 kF_X8_9 sh_0 rfl ?_
  refine ok_iconst F dX8_findsBags_5 ?_
  refine ok_iald (v := mem 1 0) F dX8_findsBags_6 sh_1 (by first | decide | assumption) (by first | omega | exact hI _) (by first | omega | exact hI _) rfl ?_
  refine ok_iconst F dX8_findsBags_7 ?_
  refine ok_isub F dX8_findsBags_8 ?_
  refine ok_icmp_ne F 25 dX8_findsBags_9 (by decide) (by first | omega | exact hI _) (by first | omega | exact hI _) (fun c_1 => ?_) (fun c_1 => ?_)
  · refine ok_iconst F dX8_findsBags_25 ?_
    refine ok_istore (lv' := [(4, pI 0), (0, pR 0), (1, pI k), (2, pI q), (3, pI d)]) F dX8_findsBags_26 (by decide) rfl ?_
    have hL_28 : ∀ (n_28 : Nat) (b : Int) (m : Mem), (0 ≤ b ∧ b ≤ q + 1 ∧ (∀ a, a ≠ 0 → a ≠ 8 → a ≠ 9 → a ≠ 11 → a ≠ 14 → a ≠ 15 → a ≠ 16 → a ≠ 19 → m a = mem a) ∧ (∀ j, (j < 21 ∨ 26 < j) → m 0 j = mem 0 j) ∧ (∀ i : Nat, (i : Int) < k → m 19 i = mem 19 i) ∧ fbR (wellB (mem 1) d) 6 k.toNat q.toNat (mem 19) = fbLoop (fun b r => fbR (wellB (mem 1) d) 5 (k.toNat + 1) (q.toNat - b) (rput r k.toNat (b : Int))) (q + 1 - b).toNat b.toNat (m 19)) → (q + 1 - b).toNat = n_28 → Ok shp X 5 28 [(0, pR 0), (1, pI k), (2, pI q), (3, pI d), (4, pI b)] [] m := by
      intro n_28
      induction n_28 using Nat.strongRecOn with
      | _ n_28 ih_28 =>
        intro b m hI_28 hn_28
        obtain ⟨hb0, hb1, hF, hF0, hlo, hR⟩ := hI_28
        have h1 : m 1 = mem 1 := hF 1 (by decide) (by decide) (by decide) (by decide) (by decide) (by decide) (by decide) (by decide)
        refine ok_iload F dX8_findsBags_28 4 rfl ?_
        refine ok_iload_n F dX8_findsBags_30 2 rfl ?_
        refine ok_icmp_gt F 65 dX8_findsBags_31 (by decide) (by first | omega | exact hI _) (by first | omega | exact hI _) (fun c_2 => ?_) (fun c_2 => ?_)
        · refine ok_iconst F dX8_findsBags_65 ?_
          refine ok_zret F G dX8_findsBags_66 (by first | rfl | exact zb_nar) ?_
          refine ⟨_, rfl, hF, hF0, ?_, ?_⟩
          · rw [hR, show (q + 1 - b).toNat = 0 by omega]; rfl
          · rw [hR, show (q + 1 - b).toNat = 0 by omega]; rfl
        · refine ok_aload_n F dX8_findsBags_34 0 rfl ?_
          refine ok_getr F dX8_findsBags_35 kF_X8_68 sh_0 rfl ?_
          refine ok_iload_n F dX8_findsBags_38 1 rfl ?_
          refine ok_iload F dX8_findsBags_39 4 rfl ?_
          refine ok_iast F dX8_findsBags_41 sh_19 (by first | decide | assumption) (by first | omega | exact hI _) (by first | omega | exact hI _) (fun m_3 e_4 => ?_)
          have e1 : m_3 1 = mem 1 := by rw [e_4, mset_nka (by decide)]; exact h1
          have e19 : m_3 19 = rput (m 19) k.toNat b := by rw [e_4]; exact mset_row _ _ _ _
          have eo : ∀ a, a ≠ 19 → m_3 a = m a := fun a ha => by rw [e_4]; exact mset_nka ha
          refine ok_aload_n F dX8_findsBags_42 0 rfl ?_
          refine ok_iload_n F dX8_findsBags_43 1 rfl ?_
          refine ok_iconst F dX8_findsBags_44 ?_
          refine ok_iadd F dX8_findsBags_45 ?_
          refine ok_iload_n F dX8_findsBags_46 2 rfl ?_
          refine ok_iload F dX8_findsBags_47 4 rfl ?_
          refine ok_isub F dX8_findsBags_49 ?_
          refine ok_iload_n F dX8_findsBags_50 3 rfl ?_
          refine ok_callv F [pI (k + 1), pI (q - b), pI d] dX8_findsBags_51 kM_X8_findsBags kI_X8_findsBags kV_X8_findsBags kL_X8_346 (ci := 8) rfl sh_0 rfl (by omega) (Nat.le_of_ble_eq_true rfl) rfl (m_X8_findsBags_5 _ (D - 1) (by omega) (k + 1) (q - b) d m_3 (by rw [e1]; omega) (by omega) (hdi) (by rw [e1]; exact hG) (by rw [e1]; exact hI) (by rw [e19]; exact fun i hi => by unfold rput; by_cases y : i = k.toNat; (rw [if_pos y]; omega); (rw [if_neg y, hlo i (by omega)]; exact hB i (by omega)))) ?_
          rintro _ m_6 ⟨z_5, rfl, r_7⟩
          obtain ⟨r1, r2, r3, r4⟩ := id r_7
          rw [e1, e19] at r3 r4
          rw [show (k + 1).toNat = k.toNat + 1 by omega, show (q - b).toNat = q.toNat - b.toNat by omega] at r3 r4
          have hr3 : ((fun b r => fbR (wellB (mem 1) d) 5 (k.toNat + 1) (q.toNat - b) (rput r k.toNat (b : Int))) b.toNat (m 19)).1 = (fbR (wellB (mem 1) d) 5 (k.toNat + 1) (q.toNat - b.toNat) (rput (m 19) k.toNat b)).1 := by
            show (fbR _ _ _ _ (rput (m 19) k.toNat ((b.toNat : Nat) : Int))).1 = _
            rw [show ((b.toNat : Nat) : Int) = b by omega]
          have hr4 : ((fun b r => fbR (wellB (mem 1) d) 5 (k.toNat + 1) (q.toNat - b) (rput r k.toNat (b : Int))) b.toNat (m 19)).2 = m_6 19 := by
            rw [r4]
            show (fbR _ _ _ _ (rput (m 19) k.toNat ((b.toNat : Nat) : Int))).2 = _
            rw [show ((b.toNat : Nat) : Int) = b by omega]
          refine ok_if_eq F 59 dX8_findsBags_54 (by decide) (by first | omega | exact hI _) (fun c_8 => ?_) (fun c_8 => ?_)
          · have hn2 : ¬ ((fun b r => fbR (wellB (mem 1) d) 5 (k.toNat + 1) (q.toNat - b) (rput r k.toNat (b : Int))) b.toNat (m 19)).1 = true := by
              rw [hr3]
              intro y
              rw [if_pos y] at r3
              omega
            refine ok_iinc (lv' := [(4, pI (b + 1)), (0, pR 0), (1, pI k), (2, pI q), (3, pI d)]) F dX8_findsBags_59 4 rfl (by decide) rfl ?_
            refine ok_goto F 28 dX8_findsBags_62 (by decide) ?_
            refine ok_lvp [1, 2, 3, 4, 0] (lv' := [(0, pR 0), (1, pI k), (2, pI q), (3, pI d), (4, pI (b + 1))]) rfl ?_
            refine ih_28 _ ?_ (b + 1) m_6 ?_ rfl
            · omega
            · refine ⟨by omega, by omega, fun a c0 c1 c2 c3 c4 c5 c6 c7 => by rw [r1 a c0 c1 c2 c3 c4 c5 c6 c7, eo a c7]; exact hF a c0 c1 c2 c3 c4 c5 c6 c7, fun j hj => by rw [r2 j hj, eo 0 (by decide)]; exact hF0 j hj, fun i hi => ?_, ?_⟩
              · rw [r4, fbR_lo _ _ _ _ _ (by omega)]; unfold rput; rw [if_neg (by omega)]; exact hlo i hi
              · rw [hR, show (q + 1 - b).toNat = (q + 1 - (b + 1)).toNat + 1 by omega, fbLoop_s, if_neg hn2, show (b + 1).toNat = b.toNat + 1 by omega]
                rw [hr4]
          · refine ok_iconst F dX8_findsBags_57 ?_
            refine ok_zret F G dX8_findsBags_58 (by first | rfl | exact zb_nar) ?_
            have hy : ((fun b r => fbR (wellB (mem 1) d) 5 (k.toNat + 1) (q.toNat - b) (rput r k.toNat (b : Int))) b.toNat (m 19)).1 = true := by
              rw [hr3]
              by_cases y : (fbR (wellB (mem 1) d) 5 (k.toNat + 1) (q.toNat - b.toNat) (rput (m 19) k.toNat b)).1 = true
              · exact y
              · rw [if_neg y] at r3; omega
            refine ⟨_, rfl, fun a c0 c1 c2 c3 c4 c5 c6 c7 => by rw [r1 a c0 c1 c2 c3 c4 c5 c6 c7, eo a c7]; exact hF a c0 c1 c2 c3 c4 c5 c6 c7, fun j hj => by rw [r2 j hj, eo 0 (by decide)]; exact hF0 j hj, ?_, ?_⟩
            · rw [hR, show (q + 1 - b).toNat = (q + 1 - (b + 1)).toNat + 1 by omega, fbLoop_s, if_pos hy]; rfl
            · rw [hR, show (q + 1 - b).toNat = (q + 1 - (b + 1)).toNat + 1 by omega, fbLoop_s, if_pos hy]; exact hr4.symm
    refine ok_lvp [1, 2, 3, 4, 0] (lv' := [(0, pR 0), (1, pI k), (2, pI q), (3, pI d), (4, pI 0)]) rfl ?_
    refine hL_28 _ 0 mem ?_ rfl
    exact ⟨by omega, by omega, fun _ _ _ _ _ _ _ _ _ => rfl, fun _ _ => rfl, fun _ _ => rfl, by rw [show (q + 1 - 0).toNat = q.toNat + 1 by omega]; rfl⟩
  · exfalso; omega
set_option maxHeartbeats 4000000 in
set_option maxRecDepth 100000 in
theorem m_X8_findsBags_7 (l : Launch) (D : Nat) (hD : 14 ≤ D) (k : Int) (q : Int) (d : Int) (mem : Mem) (hk : 0 ≤ k ∧ k + 7 = mem 1 0 - 1) (hq : 0 ≤ q ∧ q ≤ 4) (hdi : i32 d) (hG : GR (mem 1)) (hI : ∀ b, i32 (mem 1 b)) (hB : ∀ i : Nat, (i : Int) < k → 0 ≤ mem 19 i ∧ mem 19 i ≤ 4) : Ret shp l yX8_findsBags cX8_findsBags 5 (some .boolean) D [pR 0, pI k, pI q, pI d] mem (fun rv mv => ∃ z, rv = some (pI z) ∧ (∀ a, a ≠ 0 → a ≠ 8 → a ≠ 9 → a ≠ 11 → a ≠ 14 → a ≠ 15 → a ≠ 16 → a ≠ 19 → mv a = mem a) ∧ (∀ j, (j < 21 ∨ 26 < j) → mv 0 j = mem 0 j) ∧ (z = if (fbR (wellB (mem 1) d) 7 k.toNat q.toNat (mem 19)).1 = true then 1 else 0) ∧ mv 19 = (fbR (wellB (mem 1) d) 7 k.toNat q.toNat (mem 19)).2) := by
  refine ret_of (by decide +kernel) (Nat.le_of_ble_eq_true rfl) (fun X hX F G => ?_)
  show Ok shp X 5 0 [(0, pR 0), (1, pI k), (2, pI q), (3, pI d)] [] mem
  have g0 := hG.1
  refine ok_iload_n F dX8_findsBags_0 1 rfl ?_
  refine ok_aload_n F dX8_findsBags_1 0 rfl ?_
  refine ok_getr F dX8_findsBags_2 kF_X8_9 sh_0 rfl ?_
  refine ok_iconst F dX8_findsBags_5 ?_
  refine ok_iald (v := mem 1 0) F dX8_findsBags_6 sh_1 (by first | decide | assumption) (by first | omega | exact hI _) (by first | omega | exact hI _) rfl ?_
  refine ok_iconst F dX8_findsBags_7 ?_
  refine ok_isub F dX8_findsBags_8 ?_
  refine ok_icmp_ne F 25 dX8_findsBags_9 (by decide) (by first | omega | exact hI _) (by first | omega | exact hI _) (fun c_1 => ?_) (fun c_1 => ?_)
  · refine ok_iconst F dX8_findsBags_25 ?_
    refine ok_istore (lv' := [(4, pI 0), (0, pR 0), (1, pI k), (2, pI q), (3, pI d)]) F dX8_findsBags_26 (by decide) rfl ?_
    have hL_28 : ∀ (n_28 : Nat) (b : Int) (m : Mem), (0 ≤ b ∧ b ≤ q + 1 ∧ (∀ a, a ≠ 0 → a ≠ 8 → a ≠ 9 → a ≠ 11 → a ≠ 14 → a ≠ 15 → a ≠ 16 → a ≠ 19 → m a = mem a) ∧ (∀ j, (j < 21 ∨ 26 < j) → m 0 j = mem 0 j) ∧ (∀ i : Nat, (i : Int) < k → m 19 i = mem 19 i) ∧ fbR (wellB (mem 1) d) 7 k.toNat q.toNat (mem 19) = fbLoop (fun b r => fbR (wellB (mem 1) d) 6 (k.toNat + 1) (q.toNat - b) (rput r k.toNat (b : Int))) (q + 1 - b).toNat b.toNat (m 19)) → (q + 1 - b).toNat = n_28 → Ok shp X 5 28 [(0, pR 0), (1, pI k), (2, pI q), (3, pI d), (4, pI b)] [] m := by
      intro n_28
      induction n_28 using Nat.strongRecOn with
      | _ n_28 ih_28 =>
        intro b m hI_28 hn_28
        obtain ⟨hb0, hb1, hF, hF0, hlo, hR⟩ := hI_28
        have h1 : m 1 = mem 1 := hF 1 (by decide) (by decide) (by decide) (by decide) (by decide) (by decide) (by decide) (by decide)
        refine ok_iload F dX8_findsBags_28 4 rfl ?_
        refine ok_iload_n F dX8_findsBags_30 2 rfl ?_
        refine ok_icmp_gt F 65 dX8_findsBags_31 (by decide) (by first | omega | exact hI _) (by first | omega | exact hI _) (fun c_2 => ?_) (fun c_2 => ?_)
        · refine ok_iconst F dX8_findsBags_65 ?_
          refine ok_zret F G dX8_findsBags_66 (by first | rfl | exact zb_nar) ?_
          refine ⟨_, rfl, hF, hF0, ?_, ?_⟩
          · rw [hR, show (q + 1 - b).toNat = 0 by omega]; rfl
          · rw [hR, show (q + 1 - b).toNat = 0 by omega]; rfl
        · refine ok_aload_n F dX8_findsBags_34 0 rfl ?_
          refine ok_getr F dX8_findsBags_35 kF_X8_68 sh_0 rfl ?_
          refine ok_iload_n F dX8_findsBags_38 1 rfl ?_
          refine ok_iload F dX8_findsBags_39 4 rfl ?_
          refine ok_iast F dX8_findsBags_41 sh_19 (by first | decide | assumption) (by first | omega | exact hI _) (by first | omega | exact hI _) (fun m_3 e_4 => ?_)
          have e1 : m_3 1 = mem 1 := by rw [e_4, mset_nka (by decide)]; exact h1
          have e19 : m_3 19 = rput (m 19) k.toNat b := by rw [e_4]; exact mset_row _ _ _ _
          have eo : ∀ a, a ≠ 19 → m_3 a = m a := fun a ha => by rw [e_4]; exact mset_nka ha
          refine ok_aload_n F dX8_findsBags_42 0 rfl ?_
          refine ok_iload_n F dX8_findsBags_43 1 rfl ?_
          refine ok_iconst F dX8_findsBags_44 ?_
          refine ok_iadd F dX8_findsBags_45 ?_
          refine ok_iload_n F dX8_findsBags_46 2 rfl ?_
          refine ok_iload F dX8_findsBags_47 4 rfl ?_
          refine ok_isub F dX8_findsBags_49 ?_
          refine ok_iload_n F dX8_findsBags_50 3 rfl ?_
          refine ok_callv F [pI (k + 1), pI (q - b), pI d] dX8_findsBags_51 kM_X8_findsBags kI_X8_findsBags kV_X8_findsBags kL_X8_346 (ci := 8) rfl sh_0 rfl (by omega) (Nat.le_of_ble_eq_true rfl) rfl (m_X8_findsBags_6 _ (D - 1) (by omega) (k + 1) (q - b) d m_3 (by rw [e1]; omega) (by omega) (hdi) (by rw [e1]; exact hG) (by rw [e1]; exact hI) (by rw [e19]; exact fun i hi => by unfold rput; by_cases y : i = k.toNat; (rw [if_pos y]; omega); (rw [if_neg y, hlo i (by omega)]; exact hB i (by omega)))) ?_
          rintro _ m_6 ⟨z_5, rfl, r_7⟩
          obtain ⟨r1, r2, r3, r4⟩ := id r_7
          rw [e1, e19] at r3 r4
          rw [show (k + 1).toNat = k.toNat + 1 by omega, show (q - b).toNat = q.toNat - b.toNat by omega] at r3 r4
          have hr3 : ((fun b r => fbR (wellB (mem 1) d) 6 (k.toNat + 1) (q.toNat - b) (rput r k.toNat (b : Int))) b.toNat (m 19)).1 = (fbR (wellB (mem 1) d) 6 (k.toNat + 1) (q.toNat - b.toNat) (rput (m 19) k.toNat b)).1 := by
            show (fbR _ _ _ _ (rput (m 19) k.toNat ((b.toNat : Nat) : Int))).1 = _
            rw [show ((b.toNat : Nat) : Int) = b by omega]
          have hr4 : ((fun b r => fbR (wellB (mem 1) d) 6 (k.toNat + 1) (q.toNat - b) (rput r k.toNat (b : Int))) b.toNat (m 19)).2 = m_6 19 := by
            rw [r4]
            show (fbR _ _ _ _ (rput (m 19) k.toNat ((b.toNat : Nat) : Int))).2 = _
            rw [show ((b.toNat : Nat) : Int) = b by omega]
          refine ok_if_eq F 59 dX8_findsBags_54 (by decide) (by first | omega | exact hI _) (fun c_8 => ?_) (fun c_8 => ?_)
          · have hn2 : ¬ ((fun b r => fbR (wellB (mem 1) d) 6 (k.toNat + 1) (q.toNat - b) (rput r k.toNat (b : Int))) b.toNat (m 19)).1 = true := by
              rw [hr3]
              intro y
              rw [if_pos y] at r3
              omega
            refine ok_iinc (lv' := [(4, pI (b + 1)), (0, pR 0), (1, pI k), (2, pI q), (3, pI d)]) F dX8_findsBags_59 4 rfl (by decide) rfl ?_
            refine ok_goto F 28 dX8_findsBags_62 (by decide) ?_
            refine ok_lvp [1, 2, 3, 4, 0] (lv' := [(0, pR 0), (1, pI k), (2, pI q), (3, pI d), (4, pI (b + 1))]) rfl ?_
            refine ih_28 _ ?_ (b + 1) m_6 ?_ rfl
            · omega
            · refine ⟨by omega, by omega, fun a c0 c1 c2 c3 c4 c5 c6 c7 => by rw [r1 a c0 c1 c2 c3 c4 c5 c6 c7, eo a c7]; exact hF a c0 c1 c2 c3 c4 c5 c6 c7, fun j hj => by rw [r2 j hj, eo 0 (by decide)]; exact hF0 j hj, fun i hi => ?_, ?_⟩
              · rw [r4, fbR_lo _ _ _ _ _ (by omega)]; unfold rput; rw [if_neg (by omega)]; exact hlo i hi
              · rw [hR, show (q + 1 - b).toNat = (q + 1 - (b + 1)).toNat + 1 by omega, fbLoop_s, if_neg hn2, show (b + 1).toNat = b.toNat + 1 by omega]
                rw [hr4]
          · refine ok_iconst F dX8_findsBags_57 ?_
            refine ok_zret F G dX8_findsBags_58 (by first | rfl | exact zb_nar) ?_
            have hy : ((fun b r => fbR (wellB (mem 1) d) 6 (k.toNat + 1) (q.toNat - b) (rput r k.toNat (b : Int))) b.toNat (m 19)).1 = true := by
              rw [hr3]
              by_cases y : (fbR (wellB (mem 1) d) 6 (k.toNat + 1) (q.toNat - b.toNat) (rput (m 19) k.toNat b)).1 = true
              · exact y
              · rw [if_neg y] at r3; omega
            refine ⟨_, rfl, fun a c0 c1 c2 c3 c4 c5 c6 c7 => by rw [r1 a c0 c1 c2 c3 c4 c5 c6 c7, eo a c7]; exact hF a c0 c1 c2 c3 c4 c5 c6 c7, fun j hj => by rw [r2 j hj, eo 0 (by decide)]; exact hF0 j hj, ?_, ?_⟩
            · rw [hR, show (q + 1 - b).toNat = (q + 1 - (b + 1)).toNat + 1 by omega, fbLoop_s, if_pos hy]; rfl
            · rw [hR, show (q + 1 - b).toNat = (q + 1 - (b + 1)).toNat + 1 by omega, fbLoop_s, if_pos hy]; exact hr4.symm
    refine ok_lvp [1, 2, 3, 4, 0] (lv' := [(0, pR 0), (1, pI k), (2, pI q), (3, pI d), (4, pI 0)]) rfl ?_
    refine hL_28 _ 0 mem ?_ rfl
    exact ⟨by omega, by omega, fun _ _ _ _ _ _ _ _ _ => rfl, fun _ _ => rfl, fun _ _ => rfl, by rw [show (q + 1 - 0).toNat = q.toNat + 1 by omega]; rfl⟩
  · exfalso; omega
